/-! longs as bits (began from kit/laws/BITS.to-paste: wb_, pf_) -/
theorem wb_tb (n : Nat) : (lN n).toBitVec = BitVec.ofNat 64 n := rfl
theorem wb_inj {a b : Int64} (h : a.toBitVec = b.toBitVec) : a = b := Int64.toBitVec_inj.mp h
theorem wb_c : ∀ k, k < 64 → ((nI k).toInt64 &&& 63) = lN k := by decide +kernel
theorem wb_sm : ∀ k, k < 64 → (BitVec.ofNat 64 k).smod 64 = BitVec.ofNat 64 k := by decide +kernel
theorem wb_shl (n : Nat) {k : Nat} (hk : k < 64) : lN n <<< ((nI k).toInt64 &&& 63) = lN (n * 2 ^ k) := by
  rw [wb_c k hk]
  apply wb_inj
  rw [Int64.toBitVec_shiftLeft, wb_tb, wb_tb, wb_tb, wb_sm k hk]
  apply BitVec.eq_of_toNat_eq
  rw [BitVec.shiftLeft_eq', BitVec.toNat_shiftLeft, BitVec.toNat_ofNat, BitVec.toNat_ofNat, BitVec.toNat_ofNat, Nat.mod_eq_of_lt (show k < 2 ^ 64 by omega), Nat.shiftLeft_eq, Nat.mul_mod, Nat.mod_mod, ← Nat.mul_mod]
theorem wb_and {a b : Nat} (ha : a < 2 ^ 64) (hb : b < 2 ^ 64) : lN a &&& lN b = lN (a &&& b) := by
  apply wb_inj
  rw [Int64.toBitVec_and, wb_tb, wb_tb, wb_tb]
  apply BitVec.eq_of_toNat_eq
  rw [BitVec.toNat_and, BitVec.toNat_ofNat, BitVec.toNat_ofNat, BitVec.toNat_ofNat, Nat.mod_eq_of_lt ha, Nat.mod_eq_of_lt hb, Nat.mod_eq_of_lt (Nat.and_lt_two_pow _ hb)]
theorem wb_or {a b : Nat} (ha : a < 2 ^ 64) (hb : b < 2 ^ 64) : lN a ||| lN b = lN (a ||| b) := by
  apply wb_inj
  rw [Int64.toBitVec_or, wb_tb, wb_tb, wb_tb]
  apply BitVec.eq_of_toNat_eq
  rw [BitVec.toNat_or, BitVec.toNat_ofNat, BitVec.toNat_ofNat, BitVec.toNat_ofNat, Nat.mod_eq_of_lt ha, Nat.mod_eq_of_lt hb, Nat.mod_eq_of_lt (Nat.or_lt_two_pow ha hb)]
theorem pf_lI {a : Nat} (h : a < 2 ^ 63) : (lN a).toInt = (a : Int) := lg_ofNat_toInt h
theorem pf_shr {a d : Nat} {D : Int64} (hD : (D.toBitVec.smod 64).toNat = d) (h : a < 2 ^ 62) : lN a >>> D = lN (a / 2 ^ d) := by
  have hd : a / 2 ^ d ≤ a := Nat.div_le_self _ _
  apply Int64.toInt_inj.mp
  have e : (lN a >>> D).toInt = (lN a).toInt >>> d := by
    rw [← hD]
    exact BitVec.toInt_sshiftRight ..
  rw [e, Int.shiftRight_eq_div_pow, pf_lI (by omega), pf_lI (by omega)]
  rfl
theorem wb_sar {a k : Nat} (ha : a < 2 ^ 62) (hk : k < 64) : lN a >>> ((nI k).toInt64 &&& 63) = lN (a / 2 ^ k) := by
  rw [wb_c k hk]
  refine pf_shr ?_ ha
  rw [wb_tb, wb_sm k hk, BitVec.toNat_ofNat, Nat.mod_eq_of_lt (show k < 2 ^ 64 by omega)]
theorem z_lof (a : Nat) : Int64.ofInt (a : Int) = lN a := Int64.ofInt_eq_ofNat
theorem z_iof (a : Nat) : Int32.ofInt (a : Int) = nI a := Int32.ofInt_eq_ofNat
section ZBT
variable {g : z_G} {X : z_X} {cc : ByteArray} {own : String} {r : Nat × Nat × Nat} {pc k n : Nat} {ls st : List z_V} {h : z_H}
theorem z_lshl {a s : Nat} (hs : s < 64) (hd : decode cc pc = .ok (.lshl, 1))
    (kk : z_w g X cc own r (pc + 1) ls (z_l ((a * 2 ^ s : Nat) : Int) :: st) h k n) : z_w g X cc own r pc ls (z_i (s : Int) :: z_l (a : Int) :: st) h k n := fun C H locs S hR hS hL =>
  lv_lshl (x := Int64.ofInt (a : Int)) (y := Int32.ofInt (s : Int)) (v := Int64.ofInt ((a * 2 ^ s : Nat) : Int)) C.1 C.2.1 hd (by rw [z_lof, z_iof, z_lof]; exact wb_shl a hs) (kk C H locs S hR hS hL)
theorem z_lshr {a s : Nat} (ha : a < 2 ^ 62) (hs : s < 64) (hd : decode cc pc = .ok (.lshr, 1))
    (kk : z_w g X cc own r (pc + 1) ls (z_l ((a / 2 ^ s : Nat) : Int) :: st) h k n) : z_w g X cc own r pc ls (z_i (s : Int) :: z_l (a : Int) :: st) h k n := fun C H locs S hR hS hL =>
  lv_lshr (x := Int64.ofInt (a : Int)) (y := Int32.ofInt (s : Int)) (v := Int64.ofInt ((a / 2 ^ s : Nat) : Int)) C.1 C.2.1 hd (by rw [z_lof, z_iof, z_lof]; exact wb_sar ha hs) (kk C H locs S hR hS hL)
theorem z_land {a b : Nat} (ha : a < 2 ^ 64) (hb : b < 2 ^ 64) (hd : decode cc pc = .ok (.land, 1))
    (kk : z_w g X cc own r (pc + 1) ls (z_l ((a &&& b : Nat) : Int) :: st) h k n) : z_w g X cc own r pc ls (z_l (b : Int) :: z_l (a : Int) :: st) h k n := fun C H locs S hR hS hL =>
  lv_land (x := Int64.ofInt (a : Int)) (y := Int64.ofInt (b : Int)) C.1 C.2.1 hd (by
    have e : Int64.ofInt (a : Int) &&& Int64.ofInt (b : Int) = Int64.ofInt ((a &&& b : Nat) : Int) := by rw [z_lof, z_lof, z_lof]; exact wb_and ha hb
    rw [e]
    exact kk C H locs S hR hS hL)
theorem z_lor {a b : Nat} (ha : a < 2 ^ 64) (hb : b < 2 ^ 64) (hd : decode cc pc = .ok (.lor, 1))
    (kk : z_w g X cc own r (pc + 1) ls (z_l ((a ||| b : Nat) : Int) :: st) h k n) : z_w g X cc own r pc ls (z_l (b : Int) :: z_l (a : Int) :: st) h k n := fun C H locs S hR hS hL =>
  lv_lor (x := Int64.ofInt (a : Int)) (y := Int64.ofInt (b : Int)) C.1 C.2.1 hd (by
    have e : Int64.ofInt (a : Int) ||| Int64.ofInt (b : Int) = Int64.ofInt ((a ||| b : Nat) : Int) := by rw [z_lof, z_lof, z_lof]; exact wb_or ha hb
    rw [e]
    exact kk C H locs S hR hS hL)
theorem z_leq {x y : Int} (e : x = y) (kk : z_w g X cc own r pc ls (z_l y :: st) h k n) : z_w g X cc own r pc ls (z_l x :: st) h k n := by
  rw [e]
  exact kk
theorem z_steq {st' : List z_V} (e : st = st') (kk : z_w g X cc own r pc ls st' h k n) : z_w g X cc own r pc ls st h k n := by
  rw [e]
  exact kk
/-- some long of the machine's own: (a << b) | (c & d), for the law's arguments -/
theorem z_lshlA {a s : Int} (hd : decode cc pc = .ok (.lshl, 1))
    (kk : ∀ v : Int, z_inL v → v = (Int64.ofInt a <<< ((Int32.ofInt s).toInt64 &&& 63)).toInt → z_w g X cc own r (pc + 1) ls (z_l v :: st) h k n) : z_w g X cc own r pc ls (z_i s :: z_l a :: st) h k n := fun C H locs S hR hS hL =>
  lv_lshl (x := Int64.ofInt a) (y := Int32.ofInt s) (v := Int64.ofInt a <<< ((Int32.ofInt s).toInt64 &&& 63)) C.1 C.2.1 hd rfl (by
    have e : (z_v (z_l (Int64.ofInt a <<< ((Int32.ofInt s).toInt64 &&& 63)).toInt)) = .long (Int64.ofInt a <<< ((Int32.ofInt s).toInt64 &&& 63)) := congrArg Value.long (Int64.ofInt_toInt _)
    rw [← e]
    exact kk _ ⟨Int64.le_toInt _, Int64.toInt_lt _⟩ rfl C H locs S hR hS hL)
theorem z_landA {a b : Int} (hd : decode cc pc = .ok (.land, 1))
    (kk : ∀ v : Int, z_inL v → v = (Int64.ofInt a &&& Int64.ofInt b).toInt → z_w g X cc own r (pc + 1) ls (z_l v :: st) h k n) : z_w g X cc own r pc ls (z_l b :: z_l a :: st) h k n := fun C H locs S hR hS hL =>
  lv_land (x := Int64.ofInt a) (y := Int64.ofInt b) C.1 C.2.1 hd (by
    have e : (z_v (z_l (Int64.ofInt a &&& Int64.ofInt b).toInt)) = .long (Int64.ofInt a &&& Int64.ofInt b) := congrArg Value.long (Int64.ofInt_toInt _)
    rw [← e]
    exact kk _ ⟨Int64.le_toInt _, Int64.toInt_lt _⟩ rfl C H locs S hR hS hL)
theorem z_lorA {a b : Int} (hd : decode cc pc = .ok (.lor, 1))
    (kk : ∀ v : Int, z_inL v → v = (Int64.ofInt a ||| Int64.ofInt b).toInt → z_w g X cc own r (pc + 1) ls (z_l v :: st) h k n) : z_w g X cc own r pc ls (z_l b :: z_l a :: st) h k n := fun C H locs S hR hS hL =>
  lv_lor (x := Int64.ofInt a) (y := Int64.ofInt b) C.1 C.2.1 hd (by
    have e : (z_v (z_l (Int64.ofInt a ||| Int64.ofInt b).toInt)) = .long (Int64.ofInt a ||| Int64.ofInt b) := congrArg Value.long (Int64.ofInt_toInt _)
    rw [← e]
    exact kk _ ⟨Int64.le_toInt _, Int64.toInt_lt _⟩ rfl C H locs S hR hS hL)
theorem z_ialdN {a nn m : Nat} {j : Int} {f : Nat → Int} (hd : decode cc pc = .ok (.iaload, 1)) (ha : h a = some (c_I nn f)) (hm : j = (m : Int)) (hb : m < nn ∧ m < 1000000) (kk : z_w g X cc own r (pc + 1) ls (z_i (f m) :: st) h k n) : z_w g X cc own r pc ls (z_i j :: z_r a :: st) h k n := by
  subst hm
  exact z_iald hd ha ⟨by omega, by omega, by omega⟩ kk
theorem z_laldN {a nn m : Nat} {j : Int} {f : Nat → Int} (hd : decode cc pc = .ok (.laload, 1)) (ha : h a = some (c_J nn f)) (hm : j = (m : Int)) (hb : m < nn ∧ m < 1000000) (kk : z_w g X cc own r (pc + 1) ls (z_l (f m) :: st) h k n) : z_w g X cc own r pc ls (z_i j :: z_r a :: st) h k n := by
  subst hm
  exact z_lald hd ha ⟨by omega, by omega, by omega⟩ kk
theorem z_aaldN {a nn kq m : Nat} {j : Int} {f : Nat → Option Nat} (hd : decode cc pc = .ok (.aaload, 1)) (hk : kq < 3) (ha : h a = some (c_A kq nn f)) (hm : j = (m : Int)) (hb : m < nn ∧ m < 1000000) (kk : z_w g X cc own r (pc + 1) ls (z_q (f m) :: st) h k n) : z_w g X cc own r pc ls (z_i j :: z_r a :: st) h k n := by
  subst hm
  exact z_aald hd hk ha ⟨by omega, by omega, by omega⟩ kk
theorem z_iastN {a nn m : Nat} {j x : Int} {f : Nat → Int} (hd : decode cc pc = .ok (.iastore, 1)) (ha : h a = some (c_I nn f)) (hm : j = (m : Int)) (hb : m < nn ∧ m < 1000000) (kk : z_w g X cc own r (pc + 1) ls st (z_up h a (c_I nn (z_sf f m x))) k n) : z_w g X cc own r pc ls (z_i x :: z_i j :: z_r a :: st) h k n := by
  subst hm
  exact z_iast hd ha ⟨by omega, by omega, by omega⟩ kk
theorem z_lastN {a nn m : Nat} {j x : Int} {f : Nat → Int} (hd : decode cc pc = .ok (.lastore, 1)) (ha : h a = some (c_J nn f)) (hm : j = (m : Int)) (hb : m < nn ∧ m < 1000000) (kk : z_w g X cc own r (pc + 1) ls st (z_up h a (c_J nn (z_sf f m x))) k n) : z_w g X cc own r pc ls (z_l x :: z_i j :: z_r a :: st) h k n := by
  subst hm
  exact z_last hd ha ⟨by omega, by omega, by omega⟩ kk
theorem z_aastQ {a nn kq ci v N m : Nat} {C : String} {T : u_T} {j : Int} {f : Nat → Option Nat} {vs : List z_V} (hd : decode cc pc = .ok (.aastore, 1)) (ha : h a = some (c_A kq nn f)) (hm : j = (m : Int)) (hb : m < nn ∧ m < 1000000) (hv : h v = some (c_O ci vs)) (hc : vwCl[ci]? = some (C, T, N)) (ht : (z_T g)[kq + 2]? = some (g_c g (kq + 2), .object C)) (kk : z_w g X cc own r (pc + 1) ls st (z_up h a (c_A kq nn (z_sq f m (some v)))) k n) : z_w g X cc own r pc ls (z_r v :: z_i j :: z_r a :: st) h k n := by
  subst hm
  exact z_aast hd ha ⟨by omega, by omega, by omega⟩ hv hc ht kk
end ZBT
