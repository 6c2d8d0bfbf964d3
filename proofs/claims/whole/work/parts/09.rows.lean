/-! the rows: one instruction each, over the abstract machine -/
abbrev z_in (a : Int) : Prop := -2147483648 ≤ a ∧ a < 2147483648
theorem z_toI {a : Int} (h : z_in a) : (Int32.ofInt a).toInt = a := Int32.toInt_ofInt_of_le (by have := h.1; omega) (by have := h.2; omega)
theorem z_lt {a b : Int} (ha : z_in a) (hb : z_in b) : Int32.ofInt a < Int32.ofInt b ↔ a < b := by rw [Int32.lt_iff_toInt_lt, z_toI ha, z_toI hb]
theorem z_le {a b : Int} (ha : z_in a) (hb : z_in b) : Int32.ofInt a ≤ Int32.ofInt b ↔ a ≤ b := by rw [Int32.le_iff_toInt_le, z_toI ha, z_toI hb]
theorem z_eq {a b : Int} (ha : z_in a) (hb : z_in b) : Int32.ofInt a = Int32.ofInt b ↔ a = b := by rw [← Int32.toInt_inj, z_toI ha, z_toI hb]
theorem z_0 : (0 : Int32) = Int32.ofInt 0 := by decide
theorem z_in0 : z_in 0 := by decide
theorem z_ofN (n : Nat) : Int32.ofNat n = Int32.ofInt (n : Int) := Int32.ofInt_eq_ofNat.symm
theorem z_clamp {j : Int} (h0 : 0 ≤ j) (h1 : j < 2147483648) : (Int32.ofInt j).toNatClampNeg = j.toNat := by
  show (Int32.ofInt j).toInt.toNat = j.toNat
  rw [z_toI ⟨by omega, h1⟩]
theorem z_vin {j : Int} {n : Nat} (h0 : 0 ≤ j) (h1 : j < (n : Int)) (hn : j < 2147483648) : vp_in (Int32.ofInt j) n := by
  intro q
  rcases q with q | q
  · rw [z_0, z_lt ⟨by omega, hn⟩ z_in0] at q
    omega
  · rw [z_clamp h0 hn] at q
    omega
def z_c1 (v : z_V) : Bool := match v with
  | .inr (.inl _) => false
  | .inr (.inr none) => false
  | _ => true
theorem z_c1c {v : z_V} (h : z_c1 v = true) : (z_v v).category = 1 ∧ v ≠ z_u := by
  rcases v with z | z | o
  · exact ⟨rfl, fun e => by cases e⟩
  · cases h
  · cases o with
    | none => cases h
    | some o => exact ⟨by cases o <;> rfl, fun e => by cases e⟩
def z_nl (ls : List z_V) (i : Nat) : Bool := match i with
  | 0 => true
  | j + 1 => match ls[j]? with
    | some (.inr (.inl _)) => false
    | _ => true
/-- the locals as the kit's list -/
theorem z_L.has {nL : Nat} {ls : List z_V} {S : Array Slot} (hL : z_L nL ls S) (l : List (Nat × Value)) (hl : ∀ q ∈ l, ∃ v, ls[q.1]? = some v ∧ v ≠ z_u ∧ q.2 = z_v v) : lv_has S nL l :=
  ⟨hL.2.1, hL.2.2.1, fun q hq => by
    obtain ⟨v, h1, h2, h3⟩ := hl q hq
    rw [h3]
    exact hL.2.2.2 _ _ h1 h2⟩
def z_as (ls : List z_V) : List (Nat × Value) := (List.range ls.length).filterMap (fun j => match ls[j]? with
  | some v => if v = z_u then none else some (j, z_v v)
  | none => none)
theorem z_as_mem {ls : List z_V} {q : Nat × Value} : q ∈ z_as ls ↔ ∃ v, ls[q.1]? = some v ∧ v ≠ z_u ∧ q.2 = z_v v := by
  unfold z_as
  rw [List.mem_filterMap]
  constructor
  · rintro ⟨j, -, h⟩
    cases hv : ls[j]? with
    | none => rw [hv] at h; cases h
    | some v =>
      rw [hv] at h
      by_cases hu : v = z_u
      · simp [hu] at h
      · simp [hu] at h
        subst h
        exact ⟨v, hv, hu, rfl⟩
  · rintro ⟨v, h1, h2, h3⟩
    refine ⟨q.1, List.mem_range.mpr (List.getElem?_eq_some_iff.mp h1).1, ?_⟩
    rw [h1]
    simp [h2, ← h3]
theorem z_L.has' {nL : Nat} {ls : List z_V} {S : Array Slot} (hL : z_L nL ls S) : lv_has S nL (z_as ls) := hL.has _ (fun _ hq => z_as_mem.mp hq)
theorem z_L.set1 {nL i : Nat} {ls : List z_V} {S S' : Array Slot} {v : z_V} (hL : z_L nL ls S) (hi : i < ls.length) (hn : z_nl ls i = true) (l : List (Nat × Value)) (hsub : ∀ q ∈ z_as ls, q ∈ l) (h' : lv_has S' nL ((i, z_v v) :: l.filter (fun q => !(q.1 == i) && !(q.1 + 1 == i && q.2.category == 2)))) : z_L nL (ls.set i v) S' := by
  refine ⟨by rw [List.length_set]; exact hL.1, h'.1, h'.2.1, fun j w hj hw => ?_⟩
  by_cases hji : j = i
  · subst hji
    rw [List.getElem?_set_self hi] at hj
    cases hj
    exact h'.2.2 (j, z_v v) List.mem_cons_self
  · rw [List.getElem?_set_ne (Ne.symm hji)] at hj
    refine h'.2.2 (j, z_v w) (List.mem_cons_of_mem _ (List.mem_filter.mpr ⟨hsub _ (z_as_mem.mpr ⟨w, hj, hw, rfl⟩), ?_⟩))
    have h1 : (j == i) = false := by simpa using hji
    have h2 : (j + 1 == i && (z_v w).category == 2) = false := by
      by_cases hji1 : j + 1 = i
      · subst hji1
        simp only [z_nl, hj] at hn
        rcases w with z | z | o
        · simp [z_v, Value.category]
        · simp at hn
        · have := z_cat (.inr (.inr o))
          simp [this]
      · simp [hji1]
    simp [h1, h2]
theorem z_L.set2 {nL i : Nat} {ls : List z_V} {S S' : Array Slot} {v : z_V} (hL : z_L nL ls S) (hi : i < ls.length) (hn : z_nl ls i = true) (h' : lv_has S' nL ((i, z_v v) :: (z_as ls).filter (fun q => !(q.1 == i) && (!(q.1 == i + 1) && !(q.1 + 1 == i && q.2.category == 2))))) : z_L nL ((ls.set i v).set (i + 1) z_u) S' := by
  refine ⟨by rw [List.length_set, List.length_set]; exact hL.1, h'.1, h'.2.1, fun j w hj hw => ?_⟩
  by_cases hj1 : j = i + 1
  · subst hj1
    have hl : i + 1 < ((ls.set i v).set (i + 1) z_u).length := (List.getElem?_eq_some_iff.mp hj).1
    rw [List.length_set] at hl
    rw [List.getElem?_set_self hl] at hj
    cases hj
    exact absurd rfl hw
  · rw [List.getElem?_set_ne (Ne.symm hj1)] at hj
    by_cases hji : j = i
    · subst hji
      rw [List.getElem?_set_self hi] at hj
      cases hj
      exact h'.2.2 (j, z_v v) List.mem_cons_self
    · rw [List.getElem?_set_ne (Ne.symm hji)] at hj
      refine h'.2.2 (j, z_v w) (List.mem_cons_of_mem _ (List.mem_filter.mpr ⟨z_as_mem.mpr ⟨w, hj, hw, rfl⟩, ?_⟩))
      have h1 : (j == i) = false := by simpa using hji
      have h3 : (j == i + 1) = false := by simpa using hj1
      have h2 : (j + 1 == i && (z_v w).category == 2) = false := by
        by_cases hji1 : j + 1 = i
        · subst hji1
          simp only [z_nl, hj] at hn
          rcases w with z | z | o
          · simp [z_v, Value.category]
          · simp at hn
          · have := z_cat (.inr (.inr o))
            simp [this]
        · simp [hji1]
      simp [h1, h2, h3]
section ZR
variable {g : z_G} {X : z_X} {cc : ByteArray} {own : String} {r : Nat × Nat × Nat} {pc k n : Nat} {ls st : List z_V} {h : z_H}

theorem z_iconst {v : Int} (hd : decode cc pc = .ok (.iconst v, 1))
    (kk : z_w g X cc own r (pc + 1) (ls) (z_i v :: st) (h) k n) : z_w g X cc own r pc ls (st) h k n := fun C H locs S hR hS hL =>
  lv_iconst C.1 C.2.1 hd rfl (kk C H locs S hR hS hL)
theorem z_bipush {v : Int} (hd : decode cc pc = .ok (.bipush v, 2)) (hv : decide (-128 ≤ v ∧ v ≤ 127) = true)
    (kk : z_w g X cc own r (pc + 2) (ls) (z_i v :: st) (h) k n) : z_w g X cc own r pc ls (st) h k n := fun C H locs S hR hS hL =>
  lv_bipush C.1 C.2.1 hd (Int8.toInt32_ofInt (of_decide_eq_true hv).1 (of_decide_eq_true hv).2) (kk C H locs S hR hS hL)
theorem z_sipush {v : Int} (hd : decode cc pc = .ok (.sipush v, 3)) (hv : decide (-32768 ≤ v ∧ v ≤ 32767) = true)
    (kk : z_w g X cc own r (pc + 3) (ls) (z_i v :: st) (h) k n) : z_w g X cc own r pc ls (st) h k n := fun C H locs S hR hS hL =>
  lv_sipush C.1 C.2.1 hd (Int16.toInt32_ofInt (of_decide_eq_true hv).1 (of_decide_eq_true hv).2) (kk C H locs S hR hS hL)
theorem z_lconst0 (hd : decode cc pc = .ok (.lconst 0, 1))
    (kk : z_w g X cc own r (pc + 1) (ls) (z_l 0 :: st) (h) k n) : z_w g X cc own r pc ls (st) h k n := fun C H locs S hR hS hL =>
  lv_lconst (v := Int64.ofInt 0) C.1 C.2.1 hd (by decide) (kk C H locs S hR hS hL)
theorem z_lconst1 (hd : decode cc pc = .ok (.lconst 1, 1))
    (kk : z_w g X cc own r (pc + 1) (ls) (z_l 1 :: st) (h) k n) : z_w g X cc own r pc ls (st) h k n := fun C H locs S hR hS hL =>
  lv_lconst (v := Int64.ofInt 1) C.1 C.2.1 hd (by decide) (kk C H locs S hR hS hL)
theorem z_null (hd : decode cc pc = .ok (.aconst_null, 1))
    (kk : z_w g X cc own r (pc + 1) (ls) (z_n :: st) (h) k n) : z_w g X cc own r pc ls (st) h k n := fun C H locs S hR hS hL =>
  lv_null C.1 C.2.1 hd (kk C H locs S hR hS hL)
theorem z_ldc {ix : Nat} {v : Int} (hd : decode cc pc = .ok (.ldc ix, 2)) (hw : Cond.constant own ix (Int32.ofInt v) ∈ z_W)
    (kk : z_w g X cc own r (pc + 2) (ls) (z_i v :: st) (h) k n) : z_w g X cc own r pc ls (st) h k n := fun C H locs S hR hS hL =>
  lv_ldc C.1 C.2.1 C.2.2.2.1 (C.2.2.2.2.1 _ hw) hd (kk C H locs S hR hS hL)
theorem z_ldcw {ix : Nat} {v : Int} (hd : decode cc pc = .ok (.ldc_w ix, 3)) (hw : Cond.constant own ix (Int32.ofInt v) ∈ z_W)
    (kk : z_w g X cc own r (pc + 3) (ls) (z_i v :: st) (h) k n) : z_w g X cc own r pc ls (st) h k n := fun C H locs S hR hS hL =>
  lv_ldcw C.1 C.2.1 C.2.2.2.1 (C.2.2.2.2.1 _ hw) hd (kk C H locs S hR hS hL)
theorem z_ldc2 {ix : Nat} {v : Int} (hd : decode cc pc = .ok (.ldc2_w ix, 3)) (hw : Cond.constantLong own ix (Int64.ofInt v) ∈ z_W)
    (kk : z_w g X cc own r (pc + 3) (ls) (z_l v :: st) (h) k n) : z_w g X cc own r pc ls (st) h k n := fun C H locs S hR hS hL =>
  lv_ldc2 C.1 C.2.1 C.2.2.2.1 (C.2.2.2.2.1 _ hw) hd (kk C H locs S hR hS hL)
theorem z_iload_n {i : Fin 4} {x : Int} (hd : decode cc pc = .ok (.iload_n i, 1)) (hl : ls[(i : Nat)]? = some (z_i x))
    (kk : z_w g X cc own r (pc + 1) (ls) (z_i x :: st) (h) k n) : z_w g X cc own r pc ls (st) h k n := fun C H locs S hR hS hL =>
  lv_iload_n C.1 C.2.1 hd rfl (hL.2.2.2 _ _ hl (fun e => by cases e)) (kk C H locs S hR hS hL)
theorem z_iload {i : Nat} {x : Int} (hd : decode cc pc = .ok (.iload i, 2)) (hl : ls[i]? = some (z_i x))
    (kk : z_w g X cc own r (pc + 2) (ls) (z_i x :: st) (h) k n) : z_w g X cc own r pc ls (st) h k n := fun C H locs S hR hS hL =>
  lv_iload C.1 C.2.1 hd (hL.2.2.2 _ _ hl (fun e => by cases e)) (kk C H locs S hR hS hL)
theorem z_lload_n {i : Fin 4} {x : Int} (hd : decode cc pc = .ok (.lload_n i, 1)) (hl : ls[(i : Nat)]? = some (z_l x))
    (kk : z_w g X cc own r (pc + 1) (ls) (z_l x :: st) (h) k n) : z_w g X cc own r pc ls (st) h k n := fun C H locs S hR hS hL =>
  lv_lload_n C.1 C.2.1 hd rfl (hL.2.2.2 _ _ hl (fun e => by cases e)) (kk C H locs S hR hS hL)
theorem z_lload {i : Nat} {x : Int} (hd : decode cc pc = .ok (.lload i, 2)) (hl : ls[i]? = some (z_l x))
    (kk : z_w g X cc own r (pc + 2) (ls) (z_l x :: st) (h) k n) : z_w g X cc own r pc ls (st) h k n := fun C H locs S hR hS hL =>
  lv_lload C.1 C.2.1 hd (hL.2.2.2 _ _ hl (fun e => by cases e)) (kk C H locs S hR hS hL)
theorem z_aload_n {i : Fin 4} {x : Option Nat} (hd : decode cc pc = .ok (.aload_n i, 1)) (hl : ls[(i : Nat)]? = some (z_q x))
    (kk : z_w g X cc own r (pc + 1) ls (z_q x :: st) h k n) : z_w g X cc own r pc ls st h k n := fun C H locs S hR hS hL => by
  have h1 := hL.2.2.2 _ _ hl (fun e => by cases e)
  have h2 := kk C H locs S hR hS hL
  cases x with
  | none => exact lv_aload_nN C.1 C.2.1 hd rfl h1 h2
  | some x => exact lv_aload_n C.1 C.2.1 hd rfl h1 h2
theorem z_aload {i : Nat} {x : Option Nat} (hd : decode cc pc = .ok (.aload i, 2)) (hl : ls[i]? = some (z_q x))
    (kk : z_w g X cc own r (pc + 2) ls (z_q x :: st) h k n) : z_w g X cc own r pc ls st h k n := fun C H locs S hR hS hL => by
  have h1 := hL.2.2.2 _ _ hl (fun e => by cases e)
  have h2 := kk C H locs S hR hS hL
  cases x with
  | none => exact lv_aloadN C.1 C.2.1 hd h1 h2
  | some x => exact lv_aload C.1 C.2.1 hd h1 h2
theorem z_istore_n {i : Fin 4} {x : Int} (hd : decode cc pc = .ok (.istore_n i, 1)) (hi : (i : Nat) < ls.length) (hn : z_nl ls i = true)
    (kk : z_w g X cc own r (pc + 1) (ls.set i (z_i x)) (st) (h) k n) : z_w g X cc own r pc ls (z_i x :: st) h k n := fun C H locs S hR hS hL =>
  lv_istore_n C.1 C.2.1 hd rfl hL.has' (by rw [← hL.1]; exact hi) rfl (fun S2 h2 => kk C H locs S2 hR hS (hL.set1 hi hn _ (fun _ q => q) h2))
theorem z_istore {i : Nat} {x : Int} (hd : decode cc pc = .ok (.istore i, 2)) (hi : i < ls.length) (hn : z_nl ls i = true)
    (kk : z_w g X cc own r (pc + 2) (ls.set i (z_i x)) (st) (h) k n) : z_w g X cc own r pc ls (z_i x :: st) h k n := fun C H locs S hR hS hL =>
  lv_istore C.1 C.2.1 hd hL.has' (by rw [← hL.1]; exact hi) rfl (fun S2 h2 => kk C H locs S2 hR hS (hL.set1 hi hn _ (fun _ q => q) h2))
theorem z_lstore_n {i : Fin 4} {x : Int} (hd : decode cc pc = .ok (.lstore_n i, 1)) (hi : (i : Nat) + 1 < ls.length) (hn : z_nl ls i = true)
    (kk : z_w g X cc own r (pc + 1) ((ls.set i (z_l x)).set (i + 1) z_u) (st) (h) k n) : z_w g X cc own r pc ls (z_l x :: st) h k n := fun C H locs S hR hS hL =>
  lv_lstore_n C.1 C.2.1 hd rfl hL.has' (by rw [← hL.1]; exact hi) rfl (fun S2 h2 => kk C H locs S2 hR hS (hL.set2 (Nat.lt_of_succ_lt hi) hn h2))
theorem z_lstore {i : Nat} {x : Int} (hd : decode cc pc = .ok (.lstore i, 2)) (hi : i + 1 < ls.length) (hn : z_nl ls i = true)
    (kk : z_w g X cc own r (pc + 2) ((ls.set i (z_l x)).set (i + 1) z_u) (st) (h) k n) : z_w g X cc own r pc ls (z_l x :: st) h k n := fun C H locs S hR hS hL =>
  lv_lstore C.1 C.2.1 hd hL.has' (by rw [← hL.1]; exact hi) rfl (fun S2 h2 => kk C H locs S2 hR hS (hL.set2 (Nat.lt_of_succ_lt hi) hn h2))
theorem z_astore_n {i : Fin 4} {x : Option Nat} (hd : decode cc pc = .ok (.astore_n i, 1)) (hi : (i : Nat) < ls.length) (hn : z_nl ls i = true)
    (kk : z_w g X cc own r (pc + 1) (ls.set i (z_q x)) st h k n) : z_w g X cc own r pc ls (z_q x :: st) h k n := fun C H locs S hR hS hL => by
  cases x with
  | none => exact lv_astore_nN C.1 C.2.1 hd rfl hL.has' (by rw [← hL.1]; exact hi) rfl (fun S2 h2 => kk C H locs S2 hR hS (hL.set1 hi hn _ (fun _ q => q) h2))
  | some x => exact lv_astore_n C.1 C.2.1 hd rfl hL.has' (by rw [← hL.1]; exact hi) rfl (fun S2 h2 => kk C H locs S2 hR hS (hL.set1 hi hn _ (fun _ q => q) h2))
theorem z_astore {i : Nat} {x : Option Nat} (hd : decode cc pc = .ok (.astore i, 2)) (hi : i < ls.length) (hn : z_nl ls i = true)
    (kk : z_w g X cc own r (pc + 2) (ls.set i (z_q x)) st h k n) : z_w g X cc own r pc ls (z_q x :: st) h k n := fun C H locs S hR hS hL => by
  cases x with
  | none => exact lv_astoreN C.1 C.2.1 hd hL.has' (by rw [← hL.1]; exact hi) rfl (fun S2 h2 => kk C H locs S2 hR hS (hL.set1 hi hn _ (fun _ q => q) h2))
  | some x => exact lv_astore C.1 C.2.1 hd hL.has' (by rw [← hL.1]; exact hi) rfl (fun S2 h2 => kk C H locs S2 hR hS (hL.set1 hi hn _ (fun _ q => q) h2))
theorem z_iinc {i : Nat} {x d : Int} (hd : decode cc pc = .ok (.iinc i d, 3)) (hl : ls[i]? = some (z_i x)) (hn : z_nl ls i = true)
    (kk : z_w g X cc own r (pc + 3) (ls.set i (z_i (x + d))) st h k n) : z_w g X cc own r pc ls st h k n := fun C H locs S hR hS hL => by
  have hi : i < ls.length := (List.getElem?_eq_some_iff.mp hl).1
  have h0 : lv_has S (x_n X) ((i, z_v (z_i x)) :: z_as ls) := hL.has _ (fun q hq => by
    rcases List.mem_cons.mp hq with rfl | hq
    · exact ⟨_, hl, (fun e => by cases e), rfl⟩
    · exact z_as_mem.mp hq)
  exact lv_iinc (v := Int32.ofInt (x + d)) C.1 C.2.1 hd h0 (k := 0) rfl (Int32.ofInt_add x d).symm (by rw [← hL.1]; exact hi) rfl (fun S2 h2 => kk C H locs S2 hR hS (hL.set1 hi hn _ (fun _ q => List.mem_cons_of_mem _ q) h2))
theorem z_iadd {a b : Int} (hd : decode cc pc = .ok (.iadd, 1))
    (kk : z_w g X cc own r (pc + 1) ls (z_i (a + b) :: st) h k n) : z_w g X cc own r pc ls (z_i b :: z_i a :: st) h k n := fun C H locs S hR hS hL =>
  lv_iadd (x := Int32.ofInt a) (y := Int32.ofInt b) C.1 C.2.1 hd (by rw [← Int32.ofInt_add]; exact kk C H locs S hR hS hL)
theorem z_isub {a b : Int} (hd : decode cc pc = .ok (.isub, 1))
    (kk : z_w g X cc own r (pc + 1) ls (z_i (a - b) :: st) h k n) : z_w g X cc own r pc ls (z_i b :: z_i a :: st) h k n := fun C H locs S hR hS hL =>
  lv_isub (x := Int32.ofInt a) (y := Int32.ofInt b) C.1 C.2.1 hd (by rw [← Int32.ofInt_sub]; exact kk C H locs S hR hS hL)
theorem z_imul {a b : Int} (hd : decode cc pc = .ok (.imul, 1))
    (kk : z_w g X cc own r (pc + 1) ls (z_i (a * b) :: st) h k n) : z_w g X cc own r pc ls (z_i b :: z_i a :: st) h k n := fun C H locs S hR hS hL =>
  lv_imul (x := Int32.ofInt a) (y := Int32.ofInt b) C.1 C.2.1 hd (by rw [← Int32.ofInt_mul]; exact kk C H locs S hR hS hL)
theorem z_ladd {a b : Int} (hd : decode cc pc = .ok (.ladd, 1))
    (kk : z_w g X cc own r (pc + 1) ls (z_l (a + b) :: st) h k n) : z_w g X cc own r pc ls (z_l b :: z_l a :: st) h k n := fun C H locs S hR hS hL =>
  lv_ladd (x := Int64.ofInt a) (y := Int64.ofInt b) C.1 C.2.1 hd (by rw [← Int64.ofInt_add]; exact kk C H locs S hR hS hL)
theorem z_lsub {a b : Int} (hd : decode cc pc = .ok (.lsub, 1))
    (kk : z_w g X cc own r (pc + 1) ls (z_l (a - b) :: st) h k n) : z_w g X cc own r pc ls (z_l b :: z_l a :: st) h k n := fun C H locs S hR hS hL =>
  lv_lsub (x := Int64.ofInt a) (y := Int64.ofInt b) C.1 C.2.1 hd (by rw [← Int64.ofInt_sub]; exact kk C H locs S hR hS hL)
theorem z_divI {a b : Int} (ha : 0 ≤ a) (ha' : a < 2147483648) (hb : 0 < b) (hb' : b < 2147483648) : Int32.ofInt a / Int32.ofInt b = Int32.ofInt (a / b) := by
  obtain ⟨x, rfl⟩ := Int.eq_ofNat_of_zero_le ha
  obtain ⟨y, rfl⟩ := Int.eq_ofNat_of_zero_le (Int.le_of_lt hb)
  have := pk_div (a := x) (d := y) (by omega) (by omega) (by omega)
  simp only [nI, z_ofN] at this
  rw [this]
  rfl
theorem z_remI {a b : Int} (ha : 0 ≤ a) (ha' : a < 2147483648) (hb : 0 < b) (hb' : b < 2147483648) : Int32.ofInt a - Int32.ofInt a / Int32.ofInt b * Int32.ofInt b = Int32.ofInt (a % b) := by
  obtain ⟨x, rfl⟩ := Int.eq_ofNat_of_zero_le ha
  obtain ⟨y, rfl⟩ := Int.eq_ofNat_of_zero_le (Int.le_of_lt hb)
  have := pk_rem (a := x) (d := y) (by omega) (by omega) (by omega)
  simp only [nI, z_ofN] at this
  rw [this]
  rfl
theorem z_ne0 {b : Int} (hb : 0 < b) (hb' : b < 2147483648) : ¬ Int32.ofInt b = 0 := by
  rw [z_0, z_eq ⟨by omega, hb'⟩ z_in0]
  omega
theorem z_idiv {a b : Int} (hd : decode cc pc = .ok (.idiv, 1)) (ha : 0 ≤ a ∧ a < 2147483648) (hb : 0 < b ∧ b < 2147483648)
    (kk : z_w g X cc own r (pc + 1) ls (z_i (a / b) :: st) h k n) : z_w g X cc own r pc ls (z_i b :: z_i a :: st) h k n := fun C H locs S hR hS hL =>
  lv_idiv (x := Int32.ofInt a) (y := Int32.ofInt b) C.1 C.2.1 hd (z_ne0 hb.1 hb.2) (by rw [z_divI ha.1 ha.2 hb.1 hb.2]; exact kk C H locs S hR hS hL)
theorem z_irem {a b : Int} (hd : decode cc pc = .ok (.irem, 1)) (ha : 0 ≤ a ∧ a < 2147483648) (hb : 0 < b ∧ b < 2147483648)
    (kk : z_w g X cc own r (pc + 1) ls (z_i (a % b) :: st) h k n) : z_w g X cc own r pc ls (z_i b :: z_i a :: st) h k n := fun C H locs S hR hS hL =>
  lv_irem (x := Int32.ofInt a) (y := Int32.ofInt b) C.1 C.2.1 hd (z_ne0 hb.1 hb.2) (by rw [z_remI ha.1 ha.2 hb.1 hb.2]; exact kk C H locs S hR hS hL)
theorem z_tbN (a : Int) : (Int32.ofInt a).toBitVec.toNat = (a % 4294967296).toNat := by
  show (BitVec.ofInt 32 a).toNat = _
  rw [BitVec.toNat_ofInt]
  rfl
theorem z_iand63 {a : Int} (hd : decode cc pc = .ok (.iand, 1))
    (kk : z_w g X cc own r (pc + 1) ls (z_i (a % 64) :: st) h k n) : z_w g X cc own r pc ls (z_i 63 :: z_i a :: st) h k n := fun C H locs S hR hS hL => by
  refine lv_iand (x := Int32.ofInt a) (y := Int32.ofInt 63) C.1 C.2.1 hd ?_
  have e : Int32.ofInt a &&& Int32.ofInt 63 = Int32.ofInt (a % 64) := by
    rw [pk_and (Int32.ofInt a) 6 (by decide), z_tbN]
    show Int32.ofNat _ = _
    rw [z_ofN]
    congr 1
    omega
  rw [e]
  exact kk C H locs S hR hS hL
theorem z_iushr16 {a : Int} (hd : decode cc pc = .ok (.iushr, 1))
    (kk : z_w g X cc own r (pc + 1) ls (z_i (a % 4294967296 / 65536) :: st) h k n) : z_w g X cc own r pc ls (z_i 16 :: z_i a :: st) h k n := fun C H locs S hR hS hL => by
  refine lv_iushr (x := Int32.ofInt a) (y := Int32.ofInt 16) (v := Int32.ofInt (a % 4294967296 / 65536)) C.1 C.2.1 hd ?_ (kk C H locs S hR hS hL)
  have e := pk_ushr (Int32.ofInt a) (Int32.ofInt 16) 16 (by decide)
  apply Int32.toBitVec.inj
  apply BitVec.eq_of_toNat_eq
  rw [e, z_tbN, z_tbN]
  omega
theorem z_i2l {a : Int} (hd : decode cc pc = .ok (.i2l, 1)) (ha : z_in a)
    (kk : z_w g X cc own r (pc + 1) ls (z_l a :: st) h k n) : z_w g X cc own r pc ls (z_i a :: st) h k n := fun C H locs S hR hS hL =>
  lv_i2l (x := Int32.ofInt a) (v := Int64.ofInt a) C.1 C.2.1 hd (by rw [← Int64.ofInt_int32ToInt, z_toI ha]) (kk C H locs S hR hS hL)
theorem z_l2i {a : Int} (hd : decode cc pc = .ok (.l2i, 1))
    (kk : z_w g X cc own r (pc + 1) ls (z_i a :: st) h k n) : z_w g X cc own r pc ls (z_l a :: st) h k n := fun C H locs S hR hS hL =>
  lv_l2i (x := Int64.ofInt a) (v := Int32.ofInt a) C.1 C.2.1 hd Int64.toInt32_ofInt (kk C H locs S hR hS hL)
theorem z_i2b {a : Int} (hd : decode cc pc = .ok (.i2b, 1))
    (kk : z_w g X cc own r (pc + 1) ls (z_i (a.bmod 256) :: st) h k n) : z_w g X cc own r pc ls (z_i a :: st) h k n := fun C H locs S hR hS hL =>
  lv_i2b (x := Int32.ofInt a) (v := Int32.ofInt (a.bmod 256)) C.1 C.2.1 hd (by rw [Int32.toInt8_ofInt, ← Int32.ofInt_int8ToInt, Int8.toInt_ofInt]) (kk C H locs S hR hS hL)
theorem z_i2s {a : Int} (hd : decode cc pc = .ok (.i2s, 1))
    (kk : z_w g X cc own r (pc + 1) ls (z_i (a.bmod 65536) :: st) h k n) : z_w g X cc own r pc ls (z_i a :: st) h k n := fun C H locs S hR hS hL =>
  lv_i2s (x := Int32.ofInt a) (v := Int32.ofInt (a.bmod 65536)) C.1 C.2.1 hd (by rw [Int32.toInt16_ofInt, ← Int32.ofInt_int16ToInt, Int16.toInt_ofInt]) (kk C H locs S hR hS hL)
/-- what is known of an int's range costs nothing: another integer of the same int -/
theorem z_re {a b : Int} (he : Int32.ofInt a = Int32.ofInt b) (kk : z_w g X cc own r pc ls (z_i b :: st) h k n) : z_w g X cc own r pc ls (z_i a :: st) h k n := fun C H locs S hR hS hL => by
  have := kk C H locs S hR hS hL
  simp only [List.map_cons, z_v] at this ⊢
  rw [he]
  exact this
abbrev z_inL (a : Int) : Prop := -9223372036854775808 ≤ a ∧ a < 9223372036854775808
theorem z_toL {a : Int} (h : z_inL a) : (Int64.ofInt a).toInt = a := Int64.toInt_ofInt_of_le (by have := h.1; omega) (by have := h.2; omega)
theorem z_ltL {a b : Int} (ha : z_inL a) (hb : z_inL b) : Int64.ofInt a < Int64.ofInt b ↔ a < b := by rw [Int64.lt_iff_toInt_lt, z_toL ha, z_toL hb]
theorem z_eqL {a b : Int} (ha : z_inL a) (hb : z_inL b) : Int64.ofInt a = Int64.ofInt b ↔ a = b := by rw [← Int64.toInt_inj, z_toL ha, z_toL hb]

theorem z_lcmp {a b : Int} (hd : decode cc pc = .ok (.lcmp, 1)) (ha : z_inL a) (hb : z_inL b)
    (kk : z_w g X cc own r (pc + 1) ls (z_i (if a < b then -1 else if a = b then 0 else 1) :: st) h k n) : z_w g X cc own r pc ls (z_l b :: z_l a :: st) h k n := fun C H locs S hR hS hL => by
  refine W.lcmp (x := Int64.ofInt a) (y := Int64.ofInt b) C.1 C.2.1 hd ?_
  have e : lg_cmp (Int64.ofInt a) (Int64.ofInt b) = Int32.ofInt (if a < b then -1 else if a = b then 0 else 1) := by
    unfold lg_cmp
    by_cases h1 : a < b
    · simp [z_ltL hb ha, z_eqL ha hb, h1, show ¬ b < a by omega, show ¬ a = b by omega]
    · by_cases h2 : a = b
      · simp [h2]
      · simp [z_ltL hb ha, z_eqL ha hb, h1, h2, show b < a by omega]
  rw [e]
  exact kk C H locs S hR hS hL

theorem z_dup {v : z_V} (hd : decode cc pc = .ok (.dup, 1)) (hc : z_c1 v = true)
    (kk : z_w g X cc own r (pc + 1) (ls) (v :: v :: st) (h) k n) : z_w g X cc own r pc ls (v :: st) h k n := fun C H locs S hR hS hL =>
  lv_dup C.1 C.2.1 hd (z_c1c hc).1 (kk C H locs S hR hS hL)
theorem z_pop {v : z_V} (hd : decode cc pc = .ok (.pop, 1)) (hc : z_c1 v = true)
    (kk : z_w g X cc own r (pc + 1) (ls) (st) (h) k n) : z_w g X cc own r pc ls (v :: st) h k n := fun C H locs S hR hS hL =>
  lv_pop C.1 C.2.1 hd (z_c1c hc).1 (kk C H locs S hR hS hL)
theorem z_dup2 {v w : z_V} (hd : decode cc pc = .ok (.dup2, 1)) (hc : z_c1 v = true) (hw : z_c1 w = true)
    (kk : z_w g X cc own r (pc + 1) (ls) (v :: w :: v :: w :: st) (h) k n) : z_w g X cc own r pc ls (v :: w :: st) h k n := fun C H locs S hR hS hL =>
  lv_dup2_11 C.1 C.2.1 hd (z_c1c hc).1 (z_c1c hw).1 (kk C H locs S hR hS hL)
theorem z_dup_x1 {v w : z_V} (hd : decode cc pc = .ok (.dup_x1, 1)) (hc : z_c1 v = true) (hw : z_c1 w = true)
    (kk : z_w g X cc own r (pc + 1) (ls) (v :: w :: v :: st) (h) k n) : z_w g X cc own r pc ls (v :: w :: st) h k n := fun C H locs S hR hS hL =>
  lv_dup_x1 C.1 C.2.1 hd (z_c1c hc).1 (z_c1c hw).1 (kk C H locs S hR hS hL)
theorem z_if_eq {a : Int} {off : Int} {tgt : Nat} (hd : decode cc pc = .ok (.ifCond .eq off, 3)) (ht : (pc : Int) + off = (tgt : Int)) (ha : z_in a)
    (kt : a = 0 → z_w g X cc own r tgt ls st h k n) (kf : ¬ a = 0 → z_w g X cc own r (pc + 3) ls st h k n) : z_w g X cc own r pc ls (z_i a :: st) h k n := fun C H locs S hR hS hL => by
  have e := (z_eq ha z_in0)
  refine lv_if_eq (x := Int32.ofInt a) C.1 C.2.1 hd ht (fun q => kt ?_ C H locs S hR hS hL) (fun q => kf ?_ C H locs S hR hS hL)
  all_goals (try rw [z_0] at q)
  all_goals first | exact e.mp q | exact fun z => q (e.mpr z) | (first | (have q2 := fun z => q (e.mpr z); omega) | (rw [e] at q; omega)) | (simp only [ne_eq, ge_iff_le, gt_iff_lt] at q ⊢; first | exact e.mp q | exact fun z => q (e.mpr z) | (rw [e] at q; exact q))
theorem z_icmp_eq {a b : Int} {off : Int} {tgt : Nat} (hd : decode cc pc = .ok (.if_icmp .eq off, 3)) (ht : (pc : Int) + off = (tgt : Int)) (ha : z_in a) (hb : z_in b)
    (kt : a = b → z_w g X cc own r tgt ls st h k n) (kf : ¬ a = b → z_w g X cc own r (pc + 3) ls st h k n) : z_w g X cc own r pc ls (z_i b :: z_i a :: st) h k n := fun C H locs S hR hS hL => by
  have e := (z_eq ha hb)
  refine lv_icmp_eq (x := Int32.ofInt a) (y := Int32.ofInt b) C.1 C.2.1 hd ht (fun q => kt ?_ C H locs S hR hS hL) (fun q => kf ?_ C H locs S hR hS hL)
  all_goals first | exact e.mp q | exact fun z => q (e.mpr z) | (first | (have q2 := fun z => q (e.mpr z); omega) | (rw [e] at q; omega)) | (simp only [ne_eq, ge_iff_le, gt_iff_lt] at q ⊢; first | exact e.mp q | exact fun z => q (e.mpr z) | (rw [e] at q; exact q))
theorem z_if_ne {a : Int} {off : Int} {tgt : Nat} (hd : decode cc pc = .ok (.ifCond .ne off, 3)) (ht : (pc : Int) + off = (tgt : Int)) (ha : z_in a)
    (kt : a ≠ 0 → z_w g X cc own r tgt ls st h k n) (kf : a = 0 → z_w g X cc own r (pc + 3) ls st h k n) : z_w g X cc own r pc ls (z_i a :: st) h k n := fun C H locs S hR hS hL => by
  have e := (z_eq ha z_in0)
  refine lv_if_ne (x := Int32.ofInt a) C.1 C.2.1 hd ht (fun q => kt ?_ C H locs S hR hS hL) (fun q => kf ?_ C H locs S hR hS hL)
  all_goals (try rw [z_0] at q)
  all_goals first | exact e.mp q | exact fun z => q (e.mpr z) | (first | (have q2 := fun z => q (e.mpr z); omega) | (rw [e] at q; omega)) | (simp only [ne_eq, ge_iff_le, gt_iff_lt] at q ⊢; first | exact e.mp q | exact fun z => q (e.mpr z) | (rw [e] at q; exact q))
theorem z_icmp_ne {a b : Int} {off : Int} {tgt : Nat} (hd : decode cc pc = .ok (.if_icmp .ne off, 3)) (ht : (pc : Int) + off = (tgt : Int)) (ha : z_in a) (hb : z_in b)
    (kt : a ≠ b → z_w g X cc own r tgt ls st h k n) (kf : a = b → z_w g X cc own r (pc + 3) ls st h k n) : z_w g X cc own r pc ls (z_i b :: z_i a :: st) h k n := fun C H locs S hR hS hL => by
  have e := (z_eq ha hb)
  refine lv_icmp_ne (x := Int32.ofInt a) (y := Int32.ofInt b) C.1 C.2.1 hd ht (fun q => kt ?_ C H locs S hR hS hL) (fun q => kf ?_ C H locs S hR hS hL)
  all_goals first | exact e.mp q | exact fun z => q (e.mpr z) | (first | (have q2 := fun z => q (e.mpr z); omega) | (rw [e] at q; omega)) | (simp only [ne_eq, ge_iff_le, gt_iff_lt] at q ⊢; first | exact e.mp q | exact fun z => q (e.mpr z) | (rw [e] at q; exact q))
theorem z_if_lt {a : Int} {off : Int} {tgt : Nat} (hd : decode cc pc = .ok (.ifCond .lt off, 3)) (ht : (pc : Int) + off = (tgt : Int)) (ha : z_in a)
    (kt : a < 0 → z_w g X cc own r tgt ls st h k n) (kf : ¬ a < 0 → z_w g X cc own r (pc + 3) ls st h k n) : z_w g X cc own r pc ls (z_i a :: st) h k n := fun C H locs S hR hS hL => by
  have e := (z_lt ha z_in0)
  refine lv_if_lt (x := Int32.ofInt a) C.1 C.2.1 hd ht (fun q => kt ?_ C H locs S hR hS hL) (fun q => kf ?_ C H locs S hR hS hL)
  all_goals (try rw [z_0] at q)
  all_goals first | exact e.mp q | exact fun z => q (e.mpr z) | (first | (have q2 := fun z => q (e.mpr z); omega) | (rw [e] at q; omega)) | (simp only [ne_eq, ge_iff_le, gt_iff_lt] at q ⊢; first | exact e.mp q | exact fun z => q (e.mpr z) | (rw [e] at q; exact q))
theorem z_icmp_lt {a b : Int} {off : Int} {tgt : Nat} (hd : decode cc pc = .ok (.if_icmp .lt off, 3)) (ht : (pc : Int) + off = (tgt : Int)) (ha : z_in a) (hb : z_in b)
    (kt : a < b → z_w g X cc own r tgt ls st h k n) (kf : ¬ a < b → z_w g X cc own r (pc + 3) ls st h k n) : z_w g X cc own r pc ls (z_i b :: z_i a :: st) h k n := fun C H locs S hR hS hL => by
  have e := (z_lt ha hb)
  refine lv_icmp_lt (x := Int32.ofInt a) (y := Int32.ofInt b) C.1 C.2.1 hd ht (fun q => kt ?_ C H locs S hR hS hL) (fun q => kf ?_ C H locs S hR hS hL)
  all_goals first | exact e.mp q | exact fun z => q (e.mpr z) | (first | (have q2 := fun z => q (e.mpr z); omega) | (rw [e] at q; omega)) | (simp only [ne_eq, ge_iff_le, gt_iff_lt] at q ⊢; first | exact e.mp q | exact fun z => q (e.mpr z) | (rw [e] at q; exact q))
theorem z_if_ge {a : Int} {off : Int} {tgt : Nat} (hd : decode cc pc = .ok (.ifCond .ge off, 3)) (ht : (pc : Int) + off = (tgt : Int)) (ha : z_in a)
    (kt : a ≥ 0 → z_w g X cc own r tgt ls st h k n) (kf : a < 0 → z_w g X cc own r (pc + 3) ls st h k n) : z_w g X cc own r pc ls (z_i a :: st) h k n := fun C H locs S hR hS hL => by
  have e := (z_le z_in0 ha)
  refine lv_if_ge (x := Int32.ofInt a) C.1 C.2.1 hd ht (fun q => kt ?_ C H locs S hR hS hL) (fun q => kf ?_ C H locs S hR hS hL)
  all_goals (try rw [z_0] at q)
  all_goals first | exact e.mp q | exact fun z => q (e.mpr z) | (first | (have q2 := fun z => q (e.mpr z); omega) | (rw [e] at q; omega)) | (simp only [ne_eq, ge_iff_le, gt_iff_lt] at q ⊢; first | exact e.mp q | exact fun z => q (e.mpr z) | (rw [e] at q; exact q))
theorem z_icmp_ge {a b : Int} {off : Int} {tgt : Nat} (hd : decode cc pc = .ok (.if_icmp .ge off, 3)) (ht : (pc : Int) + off = (tgt : Int)) (ha : z_in a) (hb : z_in b)
    (kt : a ≥ b → z_w g X cc own r tgt ls st h k n) (kf : a < b → z_w g X cc own r (pc + 3) ls st h k n) : z_w g X cc own r pc ls (z_i b :: z_i a :: st) h k n := fun C H locs S hR hS hL => by
  have e := (z_le hb ha)
  refine lv_icmp_ge (x := Int32.ofInt a) (y := Int32.ofInt b) C.1 C.2.1 hd ht (fun q => kt ?_ C H locs S hR hS hL) (fun q => kf ?_ C H locs S hR hS hL)
  all_goals first | exact e.mp q | exact fun z => q (e.mpr z) | (first | (have q2 := fun z => q (e.mpr z); omega) | (rw [e] at q; omega)) | (simp only [ne_eq, ge_iff_le, gt_iff_lt] at q ⊢; first | exact e.mp q | exact fun z => q (e.mpr z) | (rw [e] at q; exact q))
theorem z_if_gt {a : Int} {off : Int} {tgt : Nat} (hd : decode cc pc = .ok (.ifCond .gt off, 3)) (ht : (pc : Int) + off = (tgt : Int)) (ha : z_in a)
    (kt : a > 0 → z_w g X cc own r tgt ls st h k n) (kf : a ≤ 0 → z_w g X cc own r (pc + 3) ls st h k n) : z_w g X cc own r pc ls (z_i a :: st) h k n := fun C H locs S hR hS hL => by
  have e := (z_lt z_in0 ha)
  refine lv_if_gt (x := Int32.ofInt a) C.1 C.2.1 hd ht (fun q => kt ?_ C H locs S hR hS hL) (fun q => kf ?_ C H locs S hR hS hL)
  all_goals (try rw [z_0] at q)
  all_goals first | exact e.mp q | exact fun z => q (e.mpr z) | (first | (have q2 := fun z => q (e.mpr z); omega) | (rw [e] at q; omega)) | (simp only [ne_eq, ge_iff_le, gt_iff_lt] at q ⊢; first | exact e.mp q | exact fun z => q (e.mpr z) | (rw [e] at q; exact q))
theorem z_icmp_gt {a b : Int} {off : Int} {tgt : Nat} (hd : decode cc pc = .ok (.if_icmp .gt off, 3)) (ht : (pc : Int) + off = (tgt : Int)) (ha : z_in a) (hb : z_in b)
    (kt : a > b → z_w g X cc own r tgt ls st h k n) (kf : a ≤ b → z_w g X cc own r (pc + 3) ls st h k n) : z_w g X cc own r pc ls (z_i b :: z_i a :: st) h k n := fun C H locs S hR hS hL => by
  have e := (z_lt hb ha)
  refine lv_icmp_gt (x := Int32.ofInt a) (y := Int32.ofInt b) C.1 C.2.1 hd ht (fun q => kt ?_ C H locs S hR hS hL) (fun q => kf ?_ C H locs S hR hS hL)
  all_goals first | exact e.mp q | exact fun z => q (e.mpr z) | (first | (have q2 := fun z => q (e.mpr z); omega) | (rw [e] at q; omega)) | (simp only [ne_eq, ge_iff_le, gt_iff_lt] at q ⊢; first | exact e.mp q | exact fun z => q (e.mpr z) | (rw [e] at q; exact q))
theorem z_if_le {a : Int} {off : Int} {tgt : Nat} (hd : decode cc pc = .ok (.ifCond .le off, 3)) (ht : (pc : Int) + off = (tgt : Int)) (ha : z_in a)
    (kt : a ≤ 0 → z_w g X cc own r tgt ls st h k n) (kf : ¬ a ≤ 0 → z_w g X cc own r (pc + 3) ls st h k n) : z_w g X cc own r pc ls (z_i a :: st) h k n := fun C H locs S hR hS hL => by
  have e := (z_le ha z_in0)
  refine lv_if_le (x := Int32.ofInt a) C.1 C.2.1 hd ht (fun q => kt ?_ C H locs S hR hS hL) (fun q => kf ?_ C H locs S hR hS hL)
  all_goals (try rw [z_0] at q)
  all_goals first | exact e.mp q | exact fun z => q (e.mpr z) | (first | (have q2 := fun z => q (e.mpr z); omega) | (rw [e] at q; omega)) | (simp only [ne_eq, ge_iff_le, gt_iff_lt] at q ⊢; first | exact e.mp q | exact fun z => q (e.mpr z) | (rw [e] at q; exact q))
theorem z_icmp_le {a b : Int} {off : Int} {tgt : Nat} (hd : decode cc pc = .ok (.if_icmp .le off, 3)) (ht : (pc : Int) + off = (tgt : Int)) (ha : z_in a) (hb : z_in b)
    (kt : a ≤ b → z_w g X cc own r tgt ls st h k n) (kf : ¬ a ≤ b → z_w g X cc own r (pc + 3) ls st h k n) : z_w g X cc own r pc ls (z_i b :: z_i a :: st) h k n := fun C H locs S hR hS hL => by
  have e := (z_le ha hb)
  refine lv_icmp_le (x := Int32.ofInt a) (y := Int32.ofInt b) C.1 C.2.1 hd ht (fun q => kt ?_ C H locs S hR hS hL) (fun q => kf ?_ C H locs S hR hS hL)
  all_goals first | exact e.mp q | exact fun z => q (e.mpr z) | (first | (have q2 := fun z => q (e.mpr z); omega) | (rw [e] at q; omega)) | (simp only [ne_eq, ge_iff_le, gt_iff_lt] at q ⊢; first | exact e.mp q | exact fun z => q (e.mpr z) | (rw [e] at q; exact q))
theorem z_goto {off : Int} {tgt : Nat} (hd : decode cc pc = .ok (.goto off, 3)) (ht : (pc : Int) + off = (tgt : Int)) (kk : z_w g X cc own r tgt ls st h k n) : z_w g X cc own r pc ls st h k n := fun C H locs S hR hS hL =>
  lv_goto C.1 C.2.1 hd ht (kk C H locs S hR hS hL)
theorem z_ifnull {o : Option Nat} {off : Int} {tgt : Nat} (hd : decode cc pc = .ok (.ifnull off, 3)) (ht : (pc : Int) + off = (tgt : Int)) (kt : o = none → z_w g X cc own r tgt ls st h k n) (kf : ∀ a, o = some a → z_w g X cc own r (pc + 3) ls st h k n) : z_w g X cc own r pc ls (z_q o :: st) h k n := fun C H locs S hR hS hL => by
  cases o with
  | none => exact lv_ifnullN C.1 C.2.1 hd ht (kt rfl C H locs S hR hS hL)
  | some a => exact lv_ifnull C.1 C.2.1 hd (kf a rfl C H locs S hR hS hL)
theorem z_ifnonnull {o : Option Nat} {off : Int} {tgt : Nat} (hd : decode cc pc = .ok (.ifnonnull off, 3)) (ht : (pc : Int) + off = (tgt : Int)) (kt : ∀ a, o = some a → z_w g X cc own r tgt ls st h k n) (kf : o = none → z_w g X cc own r (pc + 3) ls st h k n) : z_w g X cc own r pc ls (z_q o :: st) h k n := fun C H locs S hR hS hL => by
  cases o with
  | none => exact lv_ifnonnullN C.1 C.2.1 hd (kf rfl C H locs S hR hS hL)
  | some a => exact lv_ifnonnull C.1 C.2.1 hd ht (kt a rfl C H locs S hR hS hL)
theorem z_lookup {dflt : Int} {ps : Array (Int × Int)} {len : Nat} {a off : Int} {tgt : Nat} (hd : decode cc pc = .ok (.lookupswitch dflt ps, len)) (ha : z_in a) (hp : (ps.toList.zip (ps.toList.drop 1)).all (fun (a, next) => a.1 < next.1) = true) (ho : Op.lookupswitch.offset ps.toList dflt a = off) (ht : (pc : Int) + off = (tgt : Int)) (kk : z_w g X cc own r tgt ls st h k n) : z_w g X cc own r pc ls (z_i a :: st) h k n := fun C H locs S hR hS hL =>
  lv_lookup (x := Int32.ofInt a) C.1 C.2.1 hd hp (by rw [z_toI ha]; exact ho) ht (kk C H locs S hR hS hL)
theorem z_tabOut {dflt lo hi a : Int} {offs : Array Int} {len : Nat} {tgt : Nat} (hd : decode cc pc = .ok (.tableswitch dflt lo hi offs, len)) (ha : z_in a) (hx : a < lo ∨ hi < a) (ht : (pc : Int) + dflt = (tgt : Int)) (kk : z_w g X cc own r tgt ls st h k n) : z_w g X cc own r pc ls (z_i a :: st) h k n := fun C H locs S hR hS hL =>
  lv_tableOut (x := Int32.ofInt a) C.1 C.2.1 hd (by rw [z_toI ha]; exact hx) ht (kk C H locs S hR hS hL)
theorem z_tabIn {dflt lo hi a : Int} {offs : Array Int} {len : Nat} {off : Int} {tgt : Nat} (hd : decode cc pc = .ok (.tableswitch dflt lo hi offs, len)) (ha : z_in a) (h1 : lo ≤ a) (h2 : a ≤ hi) (ho : offs[(a - lo).toNat]? = some off) (ht : (pc : Int) + off = (tgt : Int)) (kk : z_w g X cc own r tgt ls st h k n) : z_w g X cc own r pc ls (z_i a :: st) h k n := fun C H locs S hR hS hL =>
  lv_tableIn (x := Int32.ofInt a) C.1 C.2.1 hd (by rw [z_toI ha]; omega) (by rw [z_toI ha]; omega) (by rw [z_toI ha]; exact ho) ht (kk C H locs S hR hS hL)
end ZR
