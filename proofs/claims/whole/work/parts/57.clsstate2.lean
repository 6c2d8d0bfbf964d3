/-! State is made -/
set_option maxHeartbeats 4000000 in
set_option maxRecDepth 100000 in
theorem D_X6_init {g : z_G} {h : z_H} {b : Nat} (h1 : h b = some (c_O 5 [z_n, z_n, z_i 0, z_i 0, z_i 0, z_i 0, z_i 0, z_i 0])) : z_D g mX6_init 4 152 10320 [z_r b] h (fun rv h' => rv = none ∧ ∃ T : Nat → Nat, T 0 = b ∧ tI T ∧ (∀ t, 1 ≤ t → t < 153 → h (T t) = none) ∧ sH h' T (fun _ => none) 0 0 0 0 0 1 (fun _ => 0) (fun _ => 0) (fun _ => 0) (fun _ _ => 0) ∧ ∀ y, h y ≠ none → y ≠ b → h' y = h y) := by
  refine z_D.of (by decide +kernel) (Nat.le_of_ble_eq_true rfl) (fun X F => ?_)
  have fr0 : ∀ y, y ≠ b → h y = h y := fun y _ => rfl
  show z_w g X cX6_init RX6 (4, 152, 10320) 0 [z_r b, z_u] [] h 0 0
  refine z_aload_n dX6_init_0 rfl ?_
  refine oi_X6_3 dX6_init_1 (by decide) (Nat.le_of_ble_eq_true rfl) ?_
  refine z_aload_n dX6_init_4 rfl ?_
  refine z_bipush dX6_init_5 rfl ?_
  refine na_X6_9 (N := 20) dX6_init_7 rfl (by decide) ⟨by decide, by decide⟩ (fun q1 hq1 => ?_)
  have ne_b_q1 : b ≠ q1 := z_nef h1 hq1
  have fresh_q1 : h q1 = none := by rw [← fr0 q1 ne_b_q1.symm]; exact hq1
  obtain ⟨H1, hH1⟩ : ∃ H1, H1 = z_up h q1 (c_A 1 20 (fun _ => none)) := ⟨_, rfl⟩
  refine z_heq hH1.symm ?_
  have e1_b : H1 b = some (c_O 5 [z_n, z_n, z_i 0, z_i 0, z_i 0, z_i 0, z_i 0, z_i 0]) := by rw [hH1, z_up_n ne_b_q1]; exact h1
  have e1_q1 : H1 q1 = some (c_A 1 20 (fun _ => none)) := by rw [hH1]; exact z_up_s
  have fr1 : ∀ y, y ≠ b → y ≠ q1 → H1 y = h y := fun y n_b n_q1 => by rw [hH1, z_up_n n_q1] <;> exact fr0 y n_b
  refine pf_X6_11 F rfl dX6_init_10 e1_b (Nat.le_of_ble_eq_true rfl) ?_
  obtain ⟨H2, hH2⟩ : ∃ H2, H2 = z_up H1 b (c_O 5 [z_r q1, z_n, z_i 0, z_i 0, z_i 0, z_i 0, z_i 0, z_i 0]) := ⟨_, rfl⟩
  refine z_heq hH2.symm ?_
  have e2_q1 : H2 q1 = some (c_A 1 20 (fun _ => none)) := by rw [hH2, z_up_n ne_b_q1.symm]; exact e1_q1
  have e2_b : H2 b = some (c_O 5 [z_r q1, z_n, z_i 0, z_i 0, z_i 0, z_i 0, z_i 0, z_i 0]) := by rw [hH2]; exact z_up_s
  have fr2 : ∀ y, y ≠ b → y ≠ q1 → H2 y = h y := fun y n_b n_q1 => by rw [hH2, z_up_n n_b] <;> exact fr1 y n_b n_q1
  refine z_aload_n dX6_init_13 rfl ?_
  refine z_bipush dX6_init_14 rfl ?_
  refine na_X6_17 (N := 50) dX6_init_16 rfl (by decide) ⟨by decide, by decide⟩ (fun q2 hq2 => ?_)
  have ne_b_q2 : b ≠ q2 := z_nef e2_b hq2
  have ne_q1_q2 : q1 ≠ q2 := z_nef e2_q1 hq2
  have fresh_q2 : h q2 = none := by rw [← fr2 q2 ne_b_q2.symm ne_q1_q2.symm]; exact hq2
  obtain ⟨H3, hH3⟩ : ∃ H3, H3 = z_up H2 q2 (c_A 0 50 (fun _ => none)) := ⟨_, rfl⟩
  refine z_heq hH3.symm ?_
  have e3_b : H3 b = some (c_O 5 [z_r q1, z_n, z_i 0, z_i 0, z_i 0, z_i 0, z_i 0, z_i 0]) := by rw [hH3, z_up_n ne_b_q2]; exact e2_b
  have e3_q1 : H3 q1 = some (c_A 1 20 (fun _ => none)) := by rw [hH3, z_up_n ne_q1_q2]; exact e2_q1
  have e3_q2 : H3 q2 = some (c_A 0 50 (fun _ => none)) := by rw [hH3]; exact z_up_s
  have fr3 : ∀ y, y ≠ b → y ≠ q1 → y ≠ q2 → H3 y = h y := fun y n_b n_q1 n_q2 => by rw [hH3, z_up_n n_q2] <;> exact fr2 y n_b n_q1
  refine pf_X6_19 F rfl dX6_init_19 e3_b (Nat.le_of_ble_eq_true rfl) ?_
  obtain ⟨H4, hH4⟩ : ∃ H4, H4 = z_up H3 b (c_O 5 [z_r q1, z_r q2, z_i 0, z_i 0, z_i 0, z_i 0, z_i 0, z_i 0]) := ⟨_, rfl⟩
  refine z_heq hH4.symm ?_
  have e4_q1 : H4 q1 = some (c_A 1 20 (fun _ => none)) := by rw [hH4, z_up_n ne_b_q1.symm]; exact e3_q1
  have e4_q2 : H4 q2 = some (c_A 0 50 (fun _ => none)) := by rw [hH4, z_up_n ne_b_q2.symm]; exact e3_q2
  have e4_b : H4 b = some (c_O 5 [z_r q1, z_r q2, z_i 0, z_i 0, z_i 0, z_i 0, z_i 0, z_i 0]) := by rw [hH4]; exact z_up_s
  have fr4 : ∀ y, y ≠ b → y ≠ q1 → y ≠ q2 → H4 y = h y := fun y n_b n_q1 n_q2 => by rw [hH4, z_up_n n_b] <;> exact fr3 y n_b n_q1 n_q2
  refine z_aload_n dX6_init_22 rfl ?_
  refine z_iconst dX6_init_23 ?_
  refine pf_X6_23 dX6_init_24 e4_b (Nat.le_of_ble_eq_true rfl) ?_
  obtain ⟨H5, hH5⟩ : ∃ H5, H5 = z_up H4 b (c_O 5 [z_r q1, z_r q2, z_i 0, z_i 0, z_i 0, z_i 0, z_i 0, z_i 0]) := ⟨_, rfl⟩
  refine z_heq hH5.symm ?_
  have e5_q1 : H5 q1 = some (c_A 1 20 (fun _ => none)) := by rw [hH5, z_up_n ne_b_q1.symm]; exact e4_q1
  have e5_q2 : H5 q2 = some (c_A 0 50 (fun _ => none)) := by rw [hH5, z_up_n ne_b_q2.symm]; exact e4_q2
  have e5_b : H5 b = some (c_O 5 [z_r q1, z_r q2, z_i 0, z_i 0, z_i 0, z_i 0, z_i 0, z_i 0]) := by rw [hH5]; exact z_up_s
  have fr5 : ∀ y, y ≠ b → y ≠ q1 → y ≠ q2 → H5 y = h y := fun y n_b n_q1 n_q2 => by rw [hH5, z_up_n n_b] <;> exact fr4 y n_b n_q1 n_q2
  refine z_aload_n dX6_init_27 rfl ?_
  refine z_iconst dX6_init_28 ?_
  refine pf_X6_27 dX6_init_29 e5_b (Nat.le_of_ble_eq_true rfl) ?_
  obtain ⟨H6, hH6⟩ : ∃ H6, H6 = z_up H5 b (c_O 5 [z_r q1, z_r q2, z_i 0, z_i 0, z_i 0, z_i 0, z_i 0, z_i 0]) := ⟨_, rfl⟩
  refine z_heq hH6.symm ?_
  have e6_q1 : H6 q1 = some (c_A 1 20 (fun _ => none)) := by rw [hH6, z_up_n ne_b_q1.symm]; exact e5_q1
  have e6_q2 : H6 q2 = some (c_A 0 50 (fun _ => none)) := by rw [hH6, z_up_n ne_b_q2.symm]; exact e5_q2
  have e6_b : H6 b = some (c_O 5 [z_r q1, z_r q2, z_i 0, z_i 0, z_i 0, z_i 0, z_i 0, z_i 0]) := by rw [hH6]; exact z_up_s
  have fr6 : ∀ y, y ≠ b → y ≠ q1 → y ≠ q2 → H6 y = h y := fun y n_b n_q1 n_q2 => by rw [hH6, z_up_n n_b] <;> exact fr5 y n_b n_q1 n_q2
  refine z_aload_n dX6_init_32 rfl ?_
  refine z_iconst dX6_init_33 ?_
  refine pf_X6_30 dX6_init_34 e6_b (Nat.le_of_ble_eq_true rfl) ?_
  obtain ⟨H7, hH7⟩ : ∃ H7, H7 = z_up H6 b (c_O 5 [z_r q1, z_r q2, z_i 0, z_i 0, z_i 0, z_i 0, z_i 0, z_i 1]) := ⟨_, rfl⟩
  refine z_heq hH7.symm ?_
  have e7_q1 : H7 q1 = some (c_A 1 20 (fun _ => none)) := by rw [hH7, z_up_n ne_b_q1.symm]; exact e6_q1
  have e7_q2 : H7 q2 = some (c_A 0 50 (fun _ => none)) := by rw [hH7, z_up_n ne_b_q2.symm]; exact e6_q2
  have e7_b : H7 b = some (c_O 5 [z_r q1, z_r q2, z_i 0, z_i 0, z_i 0, z_i 0, z_i 0, z_i 1]) := by rw [hH7]; exact z_up_s
  have fr7 : ∀ y, y ≠ b → y ≠ q1 → y ≠ q2 → H7 y = h y := fun y n_b n_q1 n_q2 => by rw [hH7, z_up_n n_b] <;> exact fr6 y n_b n_q1 n_q2
  refine z_iconst dX6_init_37 ?_
  refine z_istore_n dX6_init_38 (Nat.le_of_ble_eq_true rfl) rfl ?_
  have L4 : ∀ (fu r : Nat) (T : Nat → Nat) (H : z_H) (k n : Nat), r ≤ 50 → k = 2 + 3 * r → n = 70 + 205 * r → T 0 = b → (∀ i j, i < 3 + 3 * r → j < 3 + 3 * r → T i = T j → i = j) → (∀ t, 1 ≤ t → t < 3 + 3 * r → h (T t) = none) → H (T 0) = some (c_O 5 [z_r (T 1), z_r (T 2), z_i 0, z_i 0, z_i 0, z_i 0, z_i 0, z_i 1]) → H (T 1) = some (c_A 1 20 (fun _ => none)) → H (T 2) = some (c_A 0 50 (fun i => if i < r then some (T (3 + 3 * i)) else none)) → (∀ i, i < r → oDo H (T (3 + 3 * i)) (T (4 + 3 * i)) (T (5 + 3 * i)) 0 0 0 (fun _ => 0)) → (∀ y, (∀ t, t < 3 + 3 * r → y ≠ T t) → H y = h y) → 51 - r < fu → z_w g X cX6_init RX6 (4, 152, 10320) 39 [z_r (T 0), z_i (r : Int)] [] H k n := by
    intro fu
    induction fu with
    | zero => intro r T H k n p1 p2 p3 q1 q2 q3 q4 q5 q6 q7 q8 hm; exact absurd hm (Nat.not_lt_zero _)
    | succ fu ih =>
      intro r T H k n p1 p2 p3 q1 q2 q3 q4 q5 q6 q7 q8 hm
      refine z_iload_n dX6_init_39 rfl ?_
      refine z_aload_n dX6_init_40 rfl ?_
      refine gf_X6_19 dX6_init_41 q4 rfl ?_
      refine z_alenA dX6_init_44 (by decide) q6 ?_
      refine z_icmp_ge dX6_init_45 (tgt := 67) rfl ⟨by omega, by omega⟩ (by decide) (fun c1 => ?_) (fun c1 => ?_)
      · skip
        obtain rfl : r = 50 := by omega
        exact z_vret F dX6_init_67 rfl ⟨by show _ ≤ 152; omega, by show _ ≤ 10320; omega⟩ ⟨rfl, T, q1, fun i j hi hj => q2 i j hi hj, fun t h3 h4 => q3 t h3 h4, ⟨q4, q5, q6, fun i hi => q7 i hi, by decide⟩, fun y hy hb => q8 y (fun t ht e => by
          rcases Nat.eq_zero_or_pos t with c | c
          · exact hb (by rw [e, c, q1])
          · exact hy (by rw [e]; exact q3 t c ht))⟩
      · skip
        have dom : ∀ t, t < 3 + 3 * r → H (T t) ≠ none := fun t ht => by
          rcases (show t = 0 ∨ t = 1 ∨ t = 2 ∨ ∃ i, i < r ∧ (t = 3 + 3 * i ∨ t = 4 + 3 * i ∨ t = 5 + 3 * i) by
            by_cases c : t < 3
            · omega
            · exact Or.inr (Or.inr (Or.inr ⟨(t - 3) / 3, by omega, by omega⟩))) with rfl | rfl | rfl | ⟨i, hi, rfl | rfl | rfl⟩
          · rw [q4]; exact Option.some_ne_none _
          · rw [q5]; exact Option.some_ne_none _
          · rw [q6]; exact Option.some_ne_none _
          · rw [(q7 i hi).1]; exact Option.some_ne_none _
          · rw [(q7 i hi).2.1]; exact Option.some_ne_none _
          · rw [(q7 i hi).2.2.1]; exact Option.some_ne_none _
        refine z_aload_n dX6_init_48 rfl ?_
        refine gf_X6_19 dX6_init_49 q4 rfl ?_
        refine z_iload_n dX6_init_52 rfl ?_
        refine nw_X6_17 dX6_init_53 ⟨by show _ ≤ 152; omega, by show _ ≤ 10320; omega⟩ (fun q hq => ?_)
        have nq : ∀ t, t < 3 + 3 * r → T t ≠ q := fun t ht e => dom t ht (by rw [e]; exact hq)
        refine z_dup dX6_init_56 rfl ?_
        refine cs_X6_33 dX6_init_57 (D_X1_init (a := q) z_up_s) rfl rfl (Nat.le_of_ble_eq_true rfl) ⟨by decide, by show _ ≤ 152; omega, by show _ ≤ 10320; omega⟩ (fun rv H2 hq2 => ?_)
        obtain ⟨rfl, s, k9, ⟨hs0, hk0, hsq, hkq, hks⟩, hdo, hfr⟩ := hq2
        have ns : ∀ t, t < 3 + 3 * r → T t ≠ s := fun t ht e => dom t ht (by rw [e]; exact (z_up_n hsq).symm.trans hs0)
        have nk : ∀ t, t < 3 + 3 * r → T t ≠ k9 := fun t ht e => dom t ht (by rw [e]; exact (z_up_n hkq).symm.trans hk0)
        have keep : ∀ t, t < 3 + 3 * r → H2 (T t) = H (T t) := fun t ht => (hfr _ (nq t ht) (ns t ht) (nk t ht)).trans (z_up_n (nq t ht))
        obtain ⟨d0, d1, d2, d3⟩ := hdo
        have a2 : H2 (T 2) = some (c_A 0 50 (fun i => if i < r then some (T (3 + 3 * i)) else none)) := (keep 2 (by omega)).trans q6
        show z_w _ _ _ _ _ _ _ [z_r q, z_i (r : Int), z_r (T 2)] _ _ _
        refine z_aastQ (m := r) dX6_init_60 a2 rfl ⟨by omega, by omega⟩ d0 rfl rfl ?_
        refine z_iinc dX6_init_61 rfl rfl ?_
        refine z_goto dX6_init_64 (tgt := 39) rfl ?_
        have T1 : ∀ t, t < 3 + 3 * r → (fun t => if t = 3 + 3 * r then q else if t = 4 + 3 * r then s else if t = 5 + 3 * r then k9 else T t) t = T t := fun t ht => by show (if _ then _ else _) = _; rw [if_neg (by omega), if_neg (by omega), if_neg (by omega)]
        obtain ⟨T', hT'⟩ : ∃ T' : Nat → Nat, T' = fun t => if t = 3 + 3 * r then q else if t = 4 + 3 * r then s else if t = 5 + 3 * r then k9 else T t := ⟨_, rfl⟩
        rw [← hT'] at T1
        have T3 : T' (3 + 3 * r) = q := by rw [hT']; exact if_pos rfl
        have T4 : T' (4 + 3 * r) = s := by rw [hT']; show (if _ then _ else _) = _; rw [if_neg (by omega), if_pos rfl]
        have T5 : T' (5 + 3 * r) = k9 := by rw [hT']; show (if _ then _ else _) = _; rw [if_neg (by omega), if_neg (by omega), if_pos rfl]
        have T0 := T1 0 (by omega)
        have cs : ∀ t, t < 3 + 3 * (r + 1) → (t < 3 + 3 * r ∧ T' t = T t) ∨ (t = 3 + 3 * r ∧ T' t = q) ∨ (t = 4 + 3 * r ∧ T' t = s) ∨ (t = 5 + 3 * r ∧ T' t = k9) := fun t ht => by
          rcases (show t < 3 + 3 * r ∨ t = 3 + 3 * r ∨ t = 4 + 3 * r ∨ t = 5 + 3 * r by omega) with c | c | c | c
          · exact Or.inl ⟨c, T1 t c⟩
          · exact Or.inr (Or.inl ⟨c, by rw [c]; exact T3⟩)
          · exact Or.inr (Or.inr (Or.inl ⟨c, by rw [c]; exact T4⟩))
          · exact Or.inr (Or.inr (Or.inr ⟨c, by rw [c]; exact T5⟩))
        have fq : h q = none := by rw [← q8 q (fun t ht e => nq t ht e.symm)]; exact hq
        have fs : h s = none := (q8 s (fun t ht e => ns t ht e.symm)).symm.trans ((z_up_n hsq).symm.trans hs0)
        have fk : h k9 = none := (q8 k9 (fun t ht e => nk t ht e.symm)).symm.trans ((z_up_n hkq).symm.trans hk0)
        have n2 : ∀ y, y ≠ T 2 → z_up H2 (T 2) (c_A 0 50 (z_sq (fun i => if i < r then some (T (3 + 3 * i)) else none) r (some q))) y = H2 y := fun y hy => z_up_n hy
        have q2n : ∀ i, i < 3 + 3 * r → i ≠ 2 → T i ≠ T 2 := fun i hi h0 e => h0 (q2 i 2 hi (by omega) e)
        rw [← T0]
        refine ih (r + 1) T' _ _ _ (by omega) (by omega) (by omega) (T0.trans q1) ?_ ?_ ?_ ?_ ?_ ?_ ?_ (by omega)
        · intro i j hi hj e
          rcases cs i hi with ⟨c1, c2⟩ | ⟨c1, c2⟩ | ⟨c1, c2⟩ | ⟨c1, c2⟩ <;> rcases cs j hj with ⟨b1, b2⟩ | ⟨b1, b2⟩ | ⟨b1, b2⟩ | ⟨b1, b2⟩ <;> rw [c2, b2] at e
          · exact q2 i j c1 b1 e
          · exact absurd e (fun e => nq i c1 e)
          · exact absurd e (fun e => ns i c1 e)
          · exact absurd e (fun e => nk i c1 e)
          · exact absurd e (fun e => nq j b1 e.symm)
          · omega
          · exact absurd e (fun e => hsq e.symm)
          · exact absurd e (fun e => hkq e.symm)
          · exact absurd e (fun e => ns j b1 e.symm)
          · exact absurd e (fun e => hsq e)
          · omega
          · exact absurd e (fun e => hks e.symm)
          · exact absurd e (fun e => nk j b1 e.symm)
          · exact absurd e (fun e => hkq e)
          · exact absurd e (fun e => hks e)
          · omega
        · intro t h3 h4
          rcases cs t h4 with ⟨c1, c2⟩ | ⟨c1, c2⟩ | ⟨c1, c2⟩ | ⟨c1, c2⟩ <;> rw [c2]
          · exact q3 t h3 c1
          · exact fq
          · exact fs
          · exact fk
        · rw [T0, T1 1 (by omega), T1 2 (by omega), n2 _ (q2n 0 (by omega) (by decide)), keep 0 (by omega)]; exact q4
        · rw [T1 1 (by omega), n2 _ (q2n 1 (by omega) (by decide)), keep 1 (by omega)]; exact q5
        · rw [T1 2 (by omega), z_up_s]
          refine congrArg (fun f => some (c_A 0 50 f)) (funext fun i => ?_)
          show (if i = r then some q else if i < r then some (T (3 + 3 * i)) else none) = if i < r + 1 then some (T' (3 + 3 * i)) else none
          rcases (show i < r ∨ i = r ∨ r < i by omega) with c | c | c
          · rw [if_neg (by omega), if_pos c, if_pos (by omega), T1 _ (by omega)]
          · rw [if_pos c, if_pos (by omega), c, T3]
          · rw [if_neg (by omega), if_neg (by omega), if_neg (by omega)]
        · intro i hi
          rcases (show i < r ∨ i = r by omega) with c | c
          · obtain ⟨f0, f1, f2, f3⟩ := q7 i c
            rw [T1 _ (by omega), T1 _ (by omega), T1 _ (by omega)]
            exact ⟨(n2 _ (q2n _ (by omega) (by omega))).trans ((keep _ (by omega)).trans f0), (n2 _ (q2n _ (by omega) (by omega))).trans ((keep _ (by omega)).trans f1), (n2 _ (q2n _ (by omega) (by omega))).trans ((keep _ (by omega)).trans f2), f3⟩
          · rw [c, T3, T4, T5]
            exact ⟨(n2 _ (fun e => nq 2 (by omega) e.symm)).trans d0, (n2 _ (fun e => ns 2 (by omega) e.symm)).trans d1, (n2 _ (fun e => nk 2 (by omega) e.symm)).trans d2, d3⟩
        · intro y hy
          have y2 := hy 2 (by omega)
          rw [T1 2 (by omega)] at y2
          have yq := hy (3 + 3 * r) (by omega)
          have ys := hy (4 + 3 * r) (by omega)
          have yk := hy (5 + 3 * r) (by omega)
          rw [T3] at yq; rw [T4] at ys; rw [T5] at yk
          exact (n2 y y2).trans ((hfr y yq ys yk).trans ((z_up_n yq).trans (q8 y (fun t ht => by rw [← T1 t ht]; exact hy t (by omega)))))
  obtain ⟨T, hT⟩ : ∃ T : Nat → Nat, T = fun t => if t = 0 then b else if t = 1 then q1 else q2 := ⟨_, rfl⟩
  have t0 : T 0 = b := by rw [hT]; rfl
  have t1 : T 1 = q1 := by rw [hT]; rfl
  have t2 : T 2 = q2 := by rw [hT]; rfl
  rw [← t0]
  refine L4 52 0 T H7 _ _ (by omega) rfl rfl t0 ?_ ?_ ?_ ?_ ?_ (fun i hi => absurd hi (Nat.not_lt_zero _)) (fun y hy => fr7 y (t0 ▸ hy 0 (by decide)) (t1 ▸ hy 1 (by decide)) (t2 ▸ hy 2 (by decide))) (by omega)
  · intro i j hi hj e
    rcases (show i = 0 ∨ i = 1 ∨ i = 2 by omega) with rfl | rfl | rfl <;> rcases (show j = 0 ∨ j = 1 ∨ j = 2 by omega) with rfl | rfl | rfl
    · rfl
    · rw [t0, t1] at e; exact absurd e ne_b_q1
    · rw [t0, t2] at e; exact absurd e ne_b_q2
    · rw [t1, t0] at e; exact absurd e (Ne.symm ne_b_q1)
    · rfl
    · rw [t1, t2] at e; exact absurd e ne_q1_q2
    · rw [t2, t0] at e; exact absurd e (Ne.symm ne_b_q2)
    · rw [t2, t1] at e; exact absurd e (Ne.symm ne_q1_q2)
    · rfl
  · intro t h3 h4
    rcases (show t = 1 ∨ t = 2 by omega) with rfl | rfl
    · rw [t1]; exact fresh_q1
    · rw [t2]; exact fresh_q2
  · rw [t0, t1, t2]; exact e7_b
  · rw [t1]; exact e7_q1
  · rw [t2]; exact e7_q2
