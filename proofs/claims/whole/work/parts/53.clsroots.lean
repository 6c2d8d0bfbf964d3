/-! State: what is read of it -/
theorem wn_X1 : Cond.instantiable RX1 3 ∈ z_W := z_at1 36 (by decide +kernel) (by decide +kernel)
theorem wn_X5 : Cond.instantiable RX5 3 ∈ z_W := z_at1 163 (by decide +kernel) (by decide +kernel)
section ZNW
variable {g : z_G} {X : z_X} {cc : ByteArray} {r : Nat × Nat × Nat} {pc k n : Nat} {ls st : List z_V} {h : z_H}
theorem nw_X6_17 (hd : decode cc pc = .ok (.new 17, 3)) (hr : k + 1 ≤ r.2.1 ∧ n + 3 ≤ r.2.2) (kk : ∀ q, h q = none → z_w g X cc RX6 r (pc + 3) ls (z_r q :: st) (z_up h q (c_O 1 [z_n, z_i 0, z_i 0])) (k + 1) (n + 3)) : z_w g X cc RX6 r pc ls st h k n := z_new (T := TX1) zin_X1 tyX1 tyX1_ok rfl lc_X6_17 wn_X1 wi_X1 (by
  intro j hj
  match j, hj with
  | 0, _ => rfl
  | 1, _ => rfl
  | 2, _ => rfl
  | j + 3, h => exact absurd h (by omega)) hd hr kk
theorem nw_X8_23 (hd : decode cc pc = .ok (.new 23, 3)) (hr : k + 1 ≤ r.2.1 ∧ n + 3 ≤ r.2.2) (kk : ∀ q, h q = none → z_w g X cc RX8 r (pc + 3) ls (z_r q :: st) (z_up h q (c_O 4 [z_n, z_i 0, z_i 0])) (k + 1) (n + 3)) : z_w g X cc RX8 r pc ls st h k n := z_new (T := TX5) zin_X5 tyX5 tyX5_ok rfl lc_X8_23 wn_X5 wi_X5 (by
  intro j hj
  match j, hj with
  | 0, _ => rfl
  | 1, _ => rfl
  | 2, _ => rfl
  | j + 3, h => exact absurd h (by omega)) hd hr kk
end ZNW
theorem and_ne {k t b : Nat} : (msk k t &&& b) ≠ 0 ↔ ∃ p, (k ≤ p ∧ p < k + t) ∧ b.testBit p = true := by
  constructor
  · intro h
    by_cases c : ∃ p, (k ≤ p ∧ p < k + t) ∧ b.testBit p = true
    · exact c
    · exact absurd (Nat.eq_of_testBit_eq (fun p => by
        rw [Nat.testBit_and, Nat.zero_testBit]
        cases h1 : (msk k t).testBit p
        · rfl
        · cases h2 : b.testBit p
          · rfl
          · exact absurd ⟨p, msk_b.mp h1, h2⟩ c)) h
  · rintro ⟨p, h1, h2⟩ h
    have h3 : (msk k t &&& b).testBit p = true := by rw [Nat.testBit_and, msk_b.mpr h1, h2]; rfl
    rw [h, Nat.zero_testBit] at h3
    exact absurd h3 (by decide)
theorem RB_s {f : z_row} {r : Nat} {b : Nat → Prop} {p : Nat} : RB f (r + 1) b p ↔ RB f r b p ∨ (kM (f r) = 1 ∧ b (sG kM f r).toNat ∧ sG kT f r ≤ (p : Int) ∧ (p : Int) < sG kT f r + kT (f r)) := by
  constructor
  · rintro ⟨i, h1, h2⟩
    rcases (show i < r ∨ i = r by omega) with c | c
    · exact Or.inl ⟨i, c, h2⟩
    · rw [c] at h2
      exact Or.inr h2
  · rintro (⟨i, h1, h2⟩ | h)
    · exact ⟨i, by omega, h2⟩
    · exact ⟨r, by omega, h⟩
set_option maxHeartbeats 4000000 in
set_option maxRecDepth 100000 in
theorem D_X7_rootsOf {g : z_G} {h : z_H} {a k9 : Nat} {Z : Nat} {f : z_row} (hs : oSt h a k9 (Z : Int) f) (hf : fOk (Z : Int) f) (hT : sG kT f Z ≤ 60) (hM : sG kM f Z ≤ 60) {bt : Nat} (hbt : bt < 2 ^ 63) : z_D g mX7_rootsOf 3 0 0 [z_r a, z_l (bt : Int)] h (fun rv h' => (∃ v : Nat, rv = some (z_l (v : Int)) ∧ v < 2 ^ 60 ∧ ∀ p, v.testBit p = true ↔ RB f Z (fun q => bt.testBit q = true) p) ∧ h' = h) := by
  refine z_D.of (by decide +kernel) (Nat.le_of_ble_eq_true rfl) (fun X F => ?_)
  obtain ⟨h1, h2, h3, h4⟩ := id hs
  show z_w g X cX7_rootsOf RX7 (3, 0, 0) 0 [z_r a, z_l (bt : Int), z_u, z_u, z_u, z_u, z_u, z_u, z_u, z_u, z_u, z_u] [] h 0 0
  refine z_lconst0 dX7_rootsOf_0 ?_
  refine z_lstore_n dX7_rootsOf_1 (Nat.le_of_ble_eq_true rfl) rfl ?_
  refine z_iconst dX7_rootsOf_2 ?_
  refine z_istore dX7_rootsOf_3 (Nat.le_of_ble_eq_true rfl) rfl ?_
  refine z_iconst dX7_rootsOf_5 ?_
  refine z_istore dX7_rootsOf_6 (Nat.le_of_ble_eq_true rfl) rfl ?_
  refine z_iconst dX7_rootsOf_8 ?_
  refine z_istore dX7_rootsOf_9 (Nat.le_of_ble_eq_true rfl) rfl ?_
  refine z_lseq (ls2 := [z_r a, z_l (bt : Int), z_u, z_l ((0 : Nat) : Int), z_u, z_i (sG kT f 0), z_i (sG kM f 0), z_i ((0 : Nat) : Int), z_u, z_u, z_u, z_u]) rfl ?_
  have L4 : ∀ (fu : Nat) (r u : Nat) (y8 y9 y10 y11 : z_V) (q1 : r ≤ Z) (q2 : ∀ p, u.testBit p = true ↔ RB f r (fun q => bt.testBit q = true) p), Z - r < fu → z_w g X cX7_rootsOf RX7 (3, 0, 0) 11 [z_r a, z_l (bt : Int), z_u, z_l (u : Int), z_u, z_i (sG kT f r), z_i (sG kM f r), z_i (r : Int), y8, y9, y10, y11] [] h 0 0 := by
    intro fu
    induction fu with
    | zero => intro r u y8 y9 y10 y11 q1 q2 hm; exact absurd hm (Nat.not_lt_zero _)
    | succ fu ih =>
      intro r u y8 y9 y10 y11 q1 q2 hm
      refine z_iload dX7_rootsOf_11 rfl ?_
      refine z_aload_n dX7_rootsOf_13 rfl ?_
      refine gf_X7_21 dX7_rootsOf_14 h1 rfl ?_
      refine z_icmp_ge dX7_rootsOf_17 (tgt := 94) rfl ⟨by omega, by omega⟩ ⟨by omega, by omega⟩ (fun c1 => ?_) (fun c1 => ?_)
      · skip
        obtain rfl : r = Z := by omega
        refine z_lload_n dX7_rootsOf_94 rfl ?_
        exact z_lret F dX7_rootsOf_95 rfl (by decide) ⟨⟨u, rfl, tb_lt (fun p h => RB_lt hT ((q2 p).mp h)), q2⟩, rfl⟩
      · skip
        have hk := hf r (by omega)
        have b1 := kT_b (f r)
        have b2 := kM_b (f r)
        have b3 := sG_mono kT_0 (f := f) Z (r + 1) (by omega)
        have b4 := sG_mono kM_0 (f := f) Z (r + 1) (by omega)
        rw [sG_s] at b3 b4
        have b5 := sG_0 kT_0 (f := f) (m := r)
        have b6 := sG_0 kM_0 (f := f) (m := r)
        obtain ⟨t, ht⟩ : ∃ t : Nat, kT (f r) = (t : Int) := ⟨(kT (f r)).toNat, by omega⟩
        obtain ⟨m, hm9⟩ : ∃ m : Nat, kM (f r) = (m : Int) := ⟨(kM (f r)).toNat, by omega⟩
        obtain ⟨q, hq⟩ : ∃ q : Nat, sG kT f r = (q : Int) := ⟨(sG kT f r).toNat, by omega⟩
        obtain ⟨e, he⟩ : ∃ e : Nat, sG kM f r = (e : Int) := ⟨(sG kM f r).toNat, by omega⟩
        refine z_aload_n dX7_rootsOf_20 rfl ?_
        refine z_iload dX7_rootsOf_21 rfl ?_
        refine cs_X7_38 dX7_rootsOf_23 (D_X7_kindAt_in hs (r) (by omega)) h1 rfl rfl (Nat.le_of_ble_eq_true rfl) (by decide) (z_ki ?_)
        refine cs_X7_42 dX7_rootsOf_26 (D_X2_takenBy_ok hk) rfl rfl (Nat.le_of_ble_eq_true rfl) (by decide) (z_ki ?_)
        refine z_istore dX7_rootsOf_29 (Nat.le_of_ble_eq_true rfl) rfl ?_
        refine z_aload_n dX7_rootsOf_31 rfl ?_
        refine z_iload dX7_rootsOf_32 rfl ?_
        refine cs_X7_38 dX7_rootsOf_34 (D_X7_kindAt_in hs (r) (by omega)) h1 rfl rfl (Nat.le_of_ble_eq_true rfl) (by decide) (z_ki ?_)
        refine cs_X7_47 dX7_rootsOf_37 (D_X2_madeBy_ok hk) rfl rfl (Nat.le_of_ble_eq_true rfl) (by decide) (z_ki ?_)
        refine z_istore dX7_rootsOf_40 (Nat.le_of_ble_eq_true rfl) rfl ?_
        refine z_lconst1 dX7_rootsOf_42 ?_
        refine z_iload dX7_rootsOf_43 rfl ?_
        refine z_ieq (y := (m : Int)) (hm9) ?_
        refine z_lshl (a := 1) (s := m) (by omega) dX7_rootsOf_45 ?_
        refine z_lconst1 dX7_rootsOf_46 ?_
        refine z_lsub dX7_rootsOf_47 ?_
        refine z_leq (y := ((2 ^ m - 1 : Nat) : Int)) (by have := Nat.two_pow_pos m; rw [Nat.one_mul]; omega) ?_
        refine z_iload dX7_rootsOf_48 rfl ?_
        refine z_ieq (y := (e : Int)) (he) ?_
        refine z_lshl (a := (2 ^ m - 1)) (s := e) (by omega) dX7_rootsOf_50 ?_
        refine z_lstore dX7_rootsOf_51 (Nat.le_of_ble_eq_true rfl) rfl ?_
        refine z_lload dX7_rootsOf_53 rfl ?_
        refine z_lload_n dX7_rootsOf_55 rfl ?_
        refine z_land (a := ((2 ^ m - 1) * 2 ^ e)) (b := bt) (Nat.lt_of_lt_of_le (msk_lt (k := e) (t := m) (by omega)) (by decide)) (by omega) dX7_rootsOf_56 ?_
        refine z_leq (y := ((msk e m &&& bt : Nat) : Int)) rfl ?_
        have hab : msk e m &&& bt < 2 ^ 63 := Nat.and_lt_two_pow _ hbt
        refine z_lconst0 dX7_rootsOf_57 ?_
        refine z_lcmp dX7_rootsOf_58 ⟨by omega, by omega⟩ (by decide) ?_
        refine z_if_eq dX7_rootsOf_59 (tgt := 74) rfl (z_cmpin _ _) (fun c2 => ?_) (fun c2 => ?_)
        · have c2 : ((msk e m &&& bt : Nat) : Int) = 0 := z_cmp_eq c2
          have hno : ∀ p, (e ≤ p ∧ p < e + m) → ¬ bt.testBit p = true := fun p hp hb => and_ne.mpr ⟨p, hp, hb⟩ (by omega)
          refine z_iload dX7_rootsOf_74 rfl ?_
          refine z_iload dX7_rootsOf_76 rfl ?_
          refine z_iadd dX7_rootsOf_78 ?_
          refine z_istore dX7_rootsOf_79 (Nat.le_of_ble_eq_true rfl) rfl ?_
          refine z_iload dX7_rootsOf_81 rfl ?_
          refine z_iload dX7_rootsOf_83 rfl ?_
          refine z_iadd dX7_rootsOf_85 ?_
          refine z_istore dX7_rootsOf_86 (Nat.le_of_ble_eq_true rfl) rfl ?_
          refine z_iinc dX7_rootsOf_88 rfl rfl ?_
          refine z_goto dX7_rootsOf_91 (tgt := 11) rfl ?_
          exact ih (r + 1) _ _ _ _ _ (by omega) (fun p => by rw [q2 p, RB_s]; exact ⟨Or.inl, fun h => h.elim id (fun h => absurd h.2.1 (by rw [show (sG kM f r).toNat = e by omega]; exact hno e ⟨Nat.le_refl _, by have := h.1; omega⟩))⟩) (by omega)
        · have c2 : ((msk e m &&& bt : Nat) : Int) ≠ 0 := z_cmp_neq c2
          refine z_lload_n dX7_rootsOf_62 rfl ?_
          refine z_lconst1 dX7_rootsOf_63 ?_
          refine z_iload dX7_rootsOf_64 rfl ?_
          refine z_ieq (y := (t : Int)) (ht) ?_
          refine z_lshl (a := 1) (s := t) (by omega) dX7_rootsOf_66 ?_
          refine z_lconst1 dX7_rootsOf_67 ?_
          refine z_lsub dX7_rootsOf_68 ?_
          refine z_leq (y := ((2 ^ t - 1 : Nat) : Int)) (by have := Nat.two_pow_pos t; rw [Nat.one_mul]; omega) ?_
          refine z_iload dX7_rootsOf_69 rfl ?_
          refine z_ieq (y := (q : Int)) (hq) ?_
          refine z_lshl (a := (2 ^ t - 1)) (s := q) (by omega) dX7_rootsOf_71 ?_
          have hu60 : u < 2 ^ 60 := tb_lt (fun p h => RB_lt (by omega) ((q2 p).mp h))
          refine z_leq (y := ((msk q t : Nat) : Int)) rfl ?_
          have hex : ∃ p, (e ≤ p ∧ p < e + m) ∧ bt.testBit p = true := and_ne.mp (by omega)
          obtain ⟨p0, p1, p2⟩ := hex
          obtain rfl : p0 = e := by omega
          refine z_lor (a := u) (b := (msk q t)) (by omega) (Nat.lt_of_lt_of_le (msk_lt (k := q) (t := t) (by omega)) (by decide)) dX7_rootsOf_72 ?_
          refine z_lstore_n dX7_rootsOf_73 (Nat.le_of_ble_eq_true rfl) rfl ?_
          refine z_iload dX7_rootsOf_74 rfl ?_
          refine z_iload dX7_rootsOf_76 rfl ?_
          refine z_iadd dX7_rootsOf_78 ?_
          refine z_istore dX7_rootsOf_79 (Nat.le_of_ble_eq_true rfl) rfl ?_
          refine z_iload dX7_rootsOf_81 rfl ?_
          refine z_iload dX7_rootsOf_83 rfl ?_
          refine z_iadd dX7_rootsOf_85 ?_
          refine z_istore dX7_rootsOf_86 (Nat.le_of_ble_eq_true rfl) rfl ?_
          refine z_iinc dX7_rootsOf_88 rfl rfl ?_
          refine z_goto dX7_rootsOf_91 (tgt := 11) rfl ?_
          exact ih (r + 1) _ _ _ _ _ (by omega) (fun p => by rw [Nat.testBit_or, Bool.or_eq_true, q2 p, msk_b, RB_s]; exact ⟨fun h => h.imp id (fun h => ⟨by omega, by rw [show (sG kM f r).toNat = p0 by omega]; exact p2, by omega, by omega⟩), fun h => h.imp id (fun h => ⟨by have := h.2.2.1; omega, by have := h.2.2.2; omega⟩)⟩) (by omega)
  exact L4 (Z + 1) 0 0 z_u z_u z_u z_u (Nat.zero_le _) (fun p => tb_0.trans ⟨fun h => h.elim, fun h => by obtain ⟨i, h1, h2⟩ := h; omega⟩) (by omega)
set_option maxHeartbeats 4000000 in
set_option maxRecDepth 100000 in
theorem D_X6_turnedAbout {g : z_G} {h : z_H} {bt n : Nat} (hbt : bt < 2 ^ 60) (hn : n ≤ 60) : z_D g mX6_turnedAbout 1 0 0 [z_l (bt : Int), z_i (n : Int)] h (fun rv h' => (∃ v : Nat, rv = some (z_l (v : Int)) ∧ v < 2 ^ 60 ∧ ∀ p, v.testBit p = true ↔ (p < n ∧ bt.testBit (n - 1 - p) = true)) ∧ h' = h) := by
  refine z_D.of (by decide +kernel) (Nat.le_of_ble_eq_true rfl) (fun X F => ?_)
  show z_w g X cX6_turnedAbout RX6 (1, 0, 0) 0 [z_l (bt : Int), z_u, z_i (n : Int), z_u, z_u, z_u] [] h 0 0
  refine z_lconst0 dX6_turnedAbout_0 ?_
  refine z_lstore_n dX6_turnedAbout_1 (Nat.le_of_ble_eq_true rfl) rfl ?_
  refine z_iconst dX6_turnedAbout_2 ?_
  refine z_istore dX6_turnedAbout_3 (Nat.le_of_ble_eq_true rfl) rfl ?_
  refine z_lseq (ls2 := [z_l (bt : Int), z_u, z_i (n : Int), z_l ((0 : Nat) : Int), z_u, z_i ((0 : Nat) : Int)]) rfl ?_
  have L4 : ∀ (fu : Nat) (r u : Nat) (q1 : r ≤ n) (q2 : ∀ p, u.testBit p = true ↔ ((n - r ≤ p ∧ p < n) ∧ bt.testBit (n - 1 - p) = true)), n - r < fu → z_w g X cX6_turnedAbout RX6 (1, 0, 0) 5 [z_l (bt : Int), z_u, z_i (n : Int), z_l (u : Int), z_u, z_i (r : Int)] [] h 0 0 := by
    intro fu
    induction fu with
    | zero => intro r u q1 q2 hm; exact absurd hm (Nat.not_lt_zero _)
    | succ fu ih =>
      intro r u q1 q2 hm
      refine z_iload dX6_turnedAbout_5 rfl ?_
      refine z_iload_n dX6_turnedAbout_7 rfl ?_
      refine z_icmp_ge dX6_turnedAbout_8 (tgt := 39) rfl ⟨by omega, by omega⟩ ⟨by omega, by omega⟩ (fun c1 => ?_) (fun c1 => ?_)
      · skip
        obtain rfl : r = n := by omega
        refine z_lload_n dX6_turnedAbout_39 rfl ?_
        exact z_lret F dX6_turnedAbout_40 rfl (by decide) ⟨⟨u, rfl, tb_lt (fun p h => by have := ((q2 p).mp h).1; omega), fun p => (q2 p).trans ⟨fun h => ⟨by omega, h.2⟩, fun h => ⟨by omega, h.2⟩⟩⟩, rfl⟩
      · skip
        refine z_lload_n dX6_turnedAbout_11 rfl ?_
        refine z_lconst1 dX6_turnedAbout_12 ?_
        refine z_iload dX6_turnedAbout_13 rfl ?_
        refine z_lshl (a := 1) (s := r) (by omega) dX6_turnedAbout_15 ?_
        have hr2 : (1 * 2 ^ r : Nat) < 2 ^ 60 := by rw [Nat.one_mul]; exact Nat.pow_lt_pow_right (by decide) (by omega)
        refine z_land (a := bt) (b := (1 * 2 ^ r)) (by omega) (by omega) dX6_turnedAbout_16 ?_
        have hab : bt &&& 1 * 2 ^ r < 2 ^ 60 := Nat.and_lt_two_pow _ hr2
        have hbit : (bt &&& 1 * 2 ^ r) ≠ 0 ↔ bt.testBit r = true := by
          have h9 := and_ne (k := r) (t := 1) (b := bt)
          rw [show msk r 1 = 1 * 2 ^ r from rfl, Nat.and_comm] at h9
          exact h9.trans ⟨fun ⟨p, h1, h2⟩ => by obtain rfl : p = r := (by omega); exact h2, fun h => ⟨r, ⟨Nat.le_refl _, by omega⟩, h⟩⟩
        refine z_lconst0 dX6_turnedAbout_17 ?_
        refine z_lcmp dX6_turnedAbout_18 ⟨by omega, by omega⟩ (by decide) ?_
        refine z_if_eq dX6_turnedAbout_19 (tgt := 33) rfl (z_cmpin _ _) (fun c2 => ?_) (fun c2 => ?_)
        · have c2 : ((bt &&& (1 * 2 ^ r) : Nat) : Int) = 0 := z_cmp_eq c2
          have hb9 : ¬ bt.testBit r = true := fun q => (hbit.mpr q) (by omega)
          refine z_iinc dX6_turnedAbout_33 rfl rfl ?_
          refine z_goto dX6_turnedAbout_36 (tgt := 5) rfl ?_
          exact ih (r + 1) _ (by omega) (fun p => by rw [q2 p]; exact ⟨fun h => ⟨by omega, h.2⟩, fun h => (Nat.lt_or_ge p (n - r)).elim (fun c => absurd (by have h5 := h.2; rw [show n - 1 - p = r by omega] at h5; exact h5) hb9) (fun c => ⟨by omega, h.2⟩)⟩) (by omega)
        · have c2 : ((bt &&& (1 * 2 ^ r) : Nat) : Int) ≠ 0 := z_cmp_neq c2
          refine z_lload_n dX6_turnedAbout_22 rfl ?_
          refine z_lconst1 dX6_turnedAbout_23 ?_
          refine z_iload_n dX6_turnedAbout_24 rfl ?_
          refine z_iconst dX6_turnedAbout_25 ?_
          refine z_isub dX6_turnedAbout_26 ?_
          refine z_iload dX6_turnedAbout_27 rfl ?_
          refine z_isub dX6_turnedAbout_29 ?_
          refine z_ieq (y := ((n - 1 - r : Nat) : Int)) (by omega) ?_
          refine z_lshl (a := 1) (s := (n - 1 - r)) (by omega) dX6_turnedAbout_30 ?_
          have hu60 : u < 2 ^ 60 := tb_lt (fun p h => by have := ((q2 p).mp h).1; omega)
          have hs2 : (1 * 2 ^ (n - 1 - r) : Nat) < 2 ^ 60 := by rw [Nat.one_mul]; exact Nat.pow_lt_pow_right (by decide) (by omega)
          have hb9 := hbit.mp (by omega)
          refine z_lor (a := u) (b := (1 * 2 ^ (n - 1 - r))) (by omega) (by omega) dX6_turnedAbout_31 ?_
          refine z_lstore_n dX6_turnedAbout_32 (Nat.le_of_ble_eq_true rfl) rfl ?_
          refine z_iinc dX6_turnedAbout_33 rfl rfl ?_
          refine z_goto dX6_turnedAbout_36 (tgt := 5) rfl ?_
          exact ih (r + 1) _ (by omega) (fun p => by rw [Nat.testBit_or, Bool.or_eq_true, q2 p, Nat.one_mul, Nat.testBit_two_pow, decide_eq_true_eq]; exact ⟨fun h => h.elim (fun h => ⟨by omega, h.2⟩) (fun h => by subst h; exact ⟨by omega, by rw [show n - 1 - (n - 1 - r) = r by omega]; exact hb9⟩), fun h => (Nat.lt_or_ge p (n - r)).elim (fun c => Or.inr (by omega)) (fun c => Or.inl ⟨by omega, h.2⟩)⟩) (by omega)
  exact L4 (n + 1) 0 0 (Nat.zero_le _) (fun p => tb_0.trans ⟨fun h => h.elim, fun h => by have := h.1; omega⟩) (by omega)
