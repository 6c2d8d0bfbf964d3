/-! the class: shorthand, roots, what a shelf says -/
theorem shL_w {k : Int} (hk : kOk k) : ((z_sn.getD (k - 4).toNat 0 : Nat) : Int) = shL k := kOk_c (P := fun k => ((z_sn.getD (k - 4).toNat 0 : Nat) : Int) = shL k) (by decide) (by decide) (by decide) (by decide) (by decide) (by decide) (by decide) (by decide) (by decide) hk
theorem zc_0 {k : Int} (hk : kOk k) : zc (k - 4).toNat 0 = kL0 k := kOk_c (P := fun k => zc (k - 4).toNat 0 = kL0 k) (by decide) (by decide) (by decide) (by decide) (by decide) (by decide) (by decide) (by decide) (by decide) hk
theorem zc_1 {k : Int} (hk : kOk k) (h : shL k = 2) : zc (k - 4).toNat 1 = kL1 k := kOk_c (P := fun k => shL k = 2 → zc (k - 4).toNat 1 = kL1 k) (by decide) (by decide) (by decide) (by decide) (by decide) (by decide) (by decide) (by decide) (by decide) hk h
theorem rlG_s {f : z_row} {z k : Nat} : ∀ u t, z - k < u + t → t ≤ z - k → (∀ j, j < t → f (k + j) = f k) → t ≤ rlG f z k u t ∧ rlG f z k u t ≤ z - k ∧ (∀ j, j < rlG f z k u t → f (k + j) = f k) ∧ (k + rlG f z k u t < z → f (k + rlG f z k u t) ≠ f k) := by
  intro u
  induction u with
  | zero => intro t h1 h2 h3; omega
  | succ u ih =>
    intro t h1 h2 h3
    unfold rlG
    by_cases c : k + t < z ∧ f (k + t) = f k
    · rw [if_pos c]
      obtain ⟨g1, g2, g3, g4⟩ := ih (t + 1) (by omega) (by omega) (fun j hj => by
        rcases (show j < t ∨ j = t by omega) with q | q
        · exact h3 j q
        · rw [q]; exact c.2)
      exact ⟨by omega, g2, g3, g4⟩
    · rw [if_neg c]
      exact ⟨Nat.le_refl _, h2, h3, fun q q2 => c ⟨q, q2⟩⟩
/-- the run that begins at k -/
theorem rl_s {f : z_row} {z k : Nat} (hk : k < z) : 1 ≤ rl f z k ∧ k + rl f z k ≤ z ∧ (∀ j, j < rl f z k → f (k + j) = f k) ∧ (k + rl f z k < z → f (k + rl f z k) ≠ f k) := by
  obtain ⟨g1, g2, g3, g4⟩ := rlG_s (f := f) (z := z) (k := k) (z + 1) 0 (by omega) (Nat.zero_le _) (fun j hj => absurd hj (Nat.not_lt_zero _))
  have h1 : 1 ≤ rl f z k := by
    rcases Nat.eq_zero_or_pos (rl f z k) with q | q
    · have q2 : rlG f z k (z + 1) 0 = 0 := q
      rw [q2, Nat.add_zero] at g4
      exact absurd rfl (g4 hk)
    · exact q
  exact ⟨h1, by unfold rl; omega, g3, g4⟩
theorem shG_end {f : z_row} {z u k : Nat} {j : Int} (h : z ≤ k) : shG f z u k j = -1 := by
  cases u with
  | zero => rfl
  | succ u => exact if_neg (by omega)
set_option maxHeartbeats 4000000 in
set_option maxRecDepth 100000 in
theorem D_X2_saying {g : z_G} {h : z_H} {a t : Int} (ha : kOk a) (ht : 0 ≤ t ∧ t ≤ 12) : z_D g mX2_saying 3 0 0 [z_i a, z_i t] h (z_Pi (syV a t) h) := by
  refine z_D.of (by decide +kernel) (Nat.le_of_ble_eq_true rfl) (fun X F => ?_)
  show z_w g X cX2_saying RX2 (3, 0, 0) 0 [z_i a, z_i t] [] h 0 0
  refine z_iload_n dX2_saying_0 rfl ?_
  by_cases c1_0 : t = 0
  · refine z_tabIn dX2_saying_1 ⟨by omega, by omega⟩ (tgt := 68) (off := 67) (by omega) (by omega) (by rw [c1_0]; rfl) rfl ?_
    refine z_iload_n dX2_saying_68 rfl ?_
    refine cs_X2_32 dX2_saying_69 (D_X2_yarnOf_ok ha) rfl rfl (Nat.le_of_ble_eq_true rfl) (by decide) (z_ki ?_)
    exact z_iret F dX2_saying_72 rfl (by decide) ⟨congrArg (fun z => some (z_i z)) (by first | (exfalso; omega) | (unfold syV; repeat (first | rw [if_pos (by omega)] | rw [if_neg (by omega)]))), rfl⟩
  by_cases c1_1 : t = 1
  · refine z_tabIn dX2_saying_1 ⟨by omega, by omega⟩ (tgt := 73) (off := 72) (by omega) (by omega) (by rw [c1_1]; rfl) rfl ?_
    refine z_iconst dX2_saying_73 ?_
    exact z_iret F dX2_saying_74 rfl (by decide) ⟨congrArg (fun z => some (z_i z)) (by first | (exfalso; omega) | (unfold syV; repeat (first | rw [if_pos (by omega)] | rw [if_neg (by omega)]))), rfl⟩
  by_cases c1_2 : t = 2
  · refine z_tabIn dX2_saying_1 ⟨by omega, by omega⟩ (tgt := 75) (off := 74) (by omega) (by omega) (by rw [c1_2]; rfl) rfl ?_
    refine z_iload_n dX2_saying_75 rfl ?_
    refine cs_X2_35 dX2_saying_76 (D_X2_madeBy_ok ha) rfl rfl (Nat.le_of_ble_eq_true rfl) (by decide) (z_ki ?_)
    exact z_iret F dX2_saying_79 rfl (by decide) ⟨congrArg (fun z => some (z_i z)) (by first | (exfalso; omega) | (unfold syV; repeat (first | rw [if_pos (by omega)] | rw [if_neg (by omega)]))), rfl⟩
  by_cases c1_3 : t = 3
  · refine z_tabIn dX2_saying_1 ⟨by omega, by omega⟩ (tgt := 80) (off := 79) (by omega) (by omega) (by rw [c1_3]; rfl) rfl ?_
    refine z_iload_n dX2_saying_80 rfl ?_
    refine cs_X2_38 dX2_saying_81 (D_X2_takenBy_ok ha) rfl rfl (Nat.le_of_ble_eq_true rfl) (by decide) (z_ki ?_)
    refine z_iload_n dX2_saying_84 rfl ?_
    refine cs_X2_35 dX2_saying_85 (D_X2_madeBy_ok ha) rfl rfl (Nat.le_of_ble_eq_true rfl) (by decide) (z_ki ?_)
    refine z_isub dX2_saying_88 ?_
    exact z_iret F dX2_saying_89 rfl (by decide) ⟨congrArg (fun z => some (z_i z)) (by first | (exfalso; omega) | (unfold syV; repeat (first | rw [if_pos (by omega)] | rw [if_neg (by omega)]))), rfl⟩
  by_cases c1_4 : t = 4
  · refine z_tabIn dX2_saying_1 ⟨by omega, by omega⟩ (tgt := 98) (off := 97) (by omega) (by omega) (by rw [c1_4]; rfl) rfl ?_
    refine z_iload_n dX2_saying_98 rfl ?_
    refine cs_X2_41 dX2_saying_99 (D_X2_turnedTo (kOk_in ha)) rfl rfl (Nat.le_of_ble_eq_true rfl) (by decide) (z_ki ?_)
    exact z_iret F dX2_saying_102 rfl (by decide) ⟨congrArg (fun z => some (z_i z)) (by first | (exfalso; omega) | (unfold syV; repeat (first | rw [if_pos (by omega)] | rw [if_neg (by omega)]))), rfl⟩
  by_cases c1_5 : t = 5
  · refine z_tabIn dX2_saying_1 ⟨by omega, by omega⟩ (tgt := 98) (off := 97) (by omega) (by omega) (by rw [c1_5]; rfl) rfl ?_
    refine z_iload_n dX2_saying_98 rfl ?_
    refine cs_X2_41 dX2_saying_99 (D_X2_turnedTo (kOk_in ha)) rfl rfl (Nat.le_of_ble_eq_true rfl) (by decide) (z_ki ?_)
    exact z_iret F dX2_saying_102 rfl (by decide) ⟨congrArg (fun z => some (z_i z)) (by first | (exfalso; omega) | (unfold syV; repeat (first | rw [if_pos (by omega)] | rw [if_neg (by omega)]))), rfl⟩
  by_cases c1_6 : t = 6
  · refine z_tabIn dX2_saying_1 ⟨by omega, by omega⟩ (tgt := 90) (off := 89) (by omega) (by omega) (by rw [c1_6]; rfl) rfl ?_
    refine z_iconst dX2_saying_90 ?_
    exact z_iret F dX2_saying_91 rfl (by decide) ⟨congrArg (fun z => some (z_i z)) (by first | (exfalso; omega) | (unfold syV; repeat (first | rw [if_pos (by omega)] | rw [if_neg (by omega)]))), rfl⟩
  by_cases c1_7 : t = 7
  · refine z_tabIn dX2_saying_1 ⟨by omega, by omega⟩ (tgt := 92) (off := 91) (by omega) (by omega) (by rw [c1_7]; rfl) rfl ?_
    refine z_iload_n dX2_saying_92 rfl ?_
    exact z_iret F dX2_saying_93 rfl (by decide) ⟨congrArg (fun z => some (z_i z)) (by first | (exfalso; omega) | (unfold syV; repeat (first | rw [if_pos (by omega)] | rw [if_neg (by omega)]))), rfl⟩
  by_cases c1_8 : t = 8
  · refine z_tabIn dX2_saying_1 ⟨by omega, by omega⟩ (tgt := 92) (off := 91) (by omega) (by omega) (by rw [c1_8]; rfl) rfl ?_
    refine z_iload_n dX2_saying_92 rfl ?_
    exact z_iret F dX2_saying_93 rfl (by decide) ⟨congrArg (fun z => some (z_i z)) (by first | (exfalso; omega) | (unfold syV; repeat (first | rw [if_pos (by omega)] | rw [if_neg (by omega)]))), rfl⟩
  by_cases c1_9 : t = 9
  · refine z_tabIn dX2_saying_1 ⟨by omega, by omega⟩ (tgt := 98) (off := 97) (by omega) (by omega) (by rw [c1_9]; rfl) rfl ?_
    refine z_iload_n dX2_saying_98 rfl ?_
    refine cs_X2_41 dX2_saying_99 (D_X2_turnedTo (kOk_in ha)) rfl rfl (Nat.le_of_ble_eq_true rfl) (by decide) (z_ki ?_)
    exact z_iret F dX2_saying_102 rfl (by decide) ⟨congrArg (fun z => some (z_i z)) (by first | (exfalso; omega) | (unfold syV; repeat (first | rw [if_pos (by omega)] | rw [if_neg (by omega)]))), rfl⟩
  by_cases c1_10 : t = 10
  · refine z_tabIn dX2_saying_1 ⟨by omega, by omega⟩ (tgt := 98) (off := 97) (by omega) (by omega) (by rw [c1_10]; rfl) rfl ?_
    refine z_iload_n dX2_saying_98 rfl ?_
    refine cs_X2_41 dX2_saying_99 (D_X2_turnedTo (kOk_in ha)) rfl rfl (Nat.le_of_ble_eq_true rfl) (by decide) (z_ki ?_)
    exact z_iret F dX2_saying_102 rfl (by decide) ⟨congrArg (fun z => some (z_i z)) (by first | (exfalso; omega) | (unfold syV; repeat (first | rw [if_pos (by omega)] | rw [if_neg (by omega)]))), rfl⟩
  by_cases c1_11 : t = 11
  · refine z_tabIn dX2_saying_1 ⟨by omega, by omega⟩ (tgt := 94) (off := 93) (by omega) (by omega) (by rw [c1_11]; rfl) rfl ?_
    refine z_iconst dX2_saying_94 ?_
    exact z_iret F dX2_saying_95 rfl (by decide) ⟨congrArg (fun z => some (z_i z)) (by first | (exfalso; omega) | (unfold syV; repeat (first | rw [if_pos (by omega)] | rw [if_neg (by omega)]))), rfl⟩
  by_cases c1_12 : t = 12
  · refine z_tabIn dX2_saying_1 ⟨by omega, by omega⟩ (tgt := 96) (off := 95) (by omega) (by omega) (by rw [c1_12]; rfl) rfl ?_
    refine z_iconst dX2_saying_96 ?_
    exact z_iret F dX2_saying_97 rfl (by decide) ⟨congrArg (fun z => some (z_i z)) (by first | (exfalso; omega) | (unfold syV; repeat (first | rw [if_pos (by omega)] | rw [if_neg (by omega)]))), rfl⟩
  refine z_tabOut dX2_saying_1 ⟨by omega, by omega⟩ (tgt := 98) (by omega) rfl ?_
  refine z_iload_n dX2_saying_98 rfl ?_
  refine cs_X2_41 dX2_saying_99 (D_X2_turnedTo (kOk_in ha)) rfl rfl (Nat.le_of_ble_eq_true rfl) (by decide) (z_ki ?_)
  exact z_iret F dX2_saying_102 rfl (by decide) ⟨congrArg (fun z => some (z_i z)) (by first | (exfalso; omega) | (unfold syV; repeat (first | rw [if_pos (by omega)] | rw [if_neg (by omega)]))), rfl⟩
set_option maxHeartbeats 4000000 in
set_option maxRecDepth 100000 in
theorem D_X7_runLength {g : z_G} {h : z_H} {a k9 : Nat} {Z : Nat} {f : z_row} (hs : oSt h a k9 (Z : Int) f) (hf : fOk (Z : Int) f) {k : Nat} (hk : k < Z) : z_D g mX7_runLength 3 0 0 [z_r a, z_i (k : Int)] h (z_Pi (rl f Z k : Int) h) := by
  refine z_D.of (by decide +kernel) (Nat.le_of_ble_eq_true rfl) (fun X F => ?_)
  obtain ⟨h1, h2, h3, h4⟩ := id hs
  have hkk := hf k (by omega)
  show z_w g X cX7_runLength RX7 (3, 0, 0) 0 [z_r a, z_i (k : Int), z_u] [] h 0 0
  refine z_iload_n dX7_runLength_0 rfl ?_
  refine z_iconst dX7_runLength_1 ?_
  refine z_iadd dX7_runLength_2 ?_
  refine z_istore_n dX7_runLength_3 (Nat.le_of_ble_eq_true rfl) rfl ?_
  refine z_lseq (ls2 := [z_r a, z_i (k : Int), z_i ((k : Int) + ((1 : Nat) : Int))]) rfl ?_
  have L4 : ∀ (fu : Nat) (t v : Nat) (p1 : 1 ≤ t ∧ k + t ≤ Z) (p2 : t + v = Z + 1) (p3 : rl f Z k = rlG f Z k v t), v < fu → z_w g X cX7_runLength RX7 (3, 0, 0) 4 [z_r a, z_i (k : Int), z_i ((k : Int) + (t : Int))] [] h 0 0 := by
    intro fu
    induction fu with
    | zero => intro t v p1 p2 p3 hm; exact absurd hm (Nat.not_lt_zero _)
    | succ fu ih =>
      intro t v p1 p2 p3 hm
      refine z_iload_n dX7_runLength_4 rfl ?_
      refine z_aload_n dX7_runLength_5 rfl ?_
      refine gf_X7_21 dX7_runLength_6 h1 rfl ?_
      refine z_icmp_ge dX7_runLength_9 (tgt := 31) rfl ⟨by omega, by omega⟩ ⟨by omega, by omega⟩ (fun c1 => ?_) (fun c1 => ?_)
      · skip
        have hrl : rl f Z k = t := by rw [p3]; cases v with
                | zero => rfl
                | succ v => exact if_neg (fun q => by have := q.1; omega)
        refine z_iload_n dX7_runLength_31 rfl ?_
        refine z_iload_n dX7_runLength_32 rfl ?_
        refine z_isub dX7_runLength_33 ?_
        exact z_iret F dX7_runLength_34 rfl (by decide) ⟨congrArg (fun z => some (z_i z)) (by omega), rfl⟩
      · skip
        obtain ⟨v2, rfl⟩ : ∃ y, v = y + 1 := ⟨v - 1, by omega⟩
        have hk2 := hf (k + t) (by omega)
        have hkd := D_X7_kindAt_in (g := g) hs (k + t) (by omega)
        rw [show ((k + t : Nat) : Int) = (k : Int) + (t : Int) by omega] at hkd
        have hb : (k : Int) + ((t + 1 : Nat) : Int) = (k : Int) + (t : Int) + 1 := by omega
        refine z_aload_n dX7_runLength_12 rfl ?_
        refine z_iload_n dX7_runLength_13 rfl ?_
        refine cs_X7_38 dX7_runLength_14 hkd h1 rfl rfl (Nat.le_of_ble_eq_true rfl) (by decide) (z_ki ?_)
        refine z_aload_n dX7_runLength_17 rfl ?_
        refine z_iload_n dX7_runLength_18 rfl ?_
        refine cs_X7_38 dX7_runLength_19 (D_X7_kindAt_in hs (k) (by omega)) h1 rfl rfl (Nat.le_of_ble_eq_true rfl) (by decide) (z_ki ?_)
        refine z_icmp_ne dX7_runLength_22 (tgt := 31) rfl (kOk_in hk2) (kOk_in hkk) (fun c2 => ?_) (fun c2 => ?_)
        · skip
          have hrl : rl f Z k = t := p3.trans (if_neg (fun q => c2 q.2))
          refine z_iload_n dX7_runLength_31 rfl ?_
          refine z_iload_n dX7_runLength_32 rfl ?_
          refine z_isub dX7_runLength_33 ?_
          exact z_iret F dX7_runLength_34 rfl (by decide) ⟨congrArg (fun z => some (z_i z)) (by omega), rfl⟩
        · skip
          have hgo : rlG f Z k (v2 + 1) t = rlG f Z k v2 (t + 1) := if_pos ⟨by omega, c2⟩
          refine z_iinc dX7_runLength_25 rfl rfl ?_
          refine z_goto dX7_runLength_28 (tgt := 4) rfl ?_
          exact hb ▸ ih (t + 1) v2 (by omega) (by omega) (p3.trans hgo) (by omega)
  exact L4 (Z + 1) 1 Z (by omega) (by omega) (if_pos ⟨by omega, rfl⟩) (by omega)
set_option maxHeartbeats 4000000 in
set_option maxRecDepth 100000 in
theorem D_X7_digitsOf {g : z_G} {h : z_H} {t : Int} (ht : 2 ≤ t ∧ t ≤ 200) : z_D g mX7_digitsOf 1 0 0 [z_i t] h (z_Pi (shD t) h) := by
  refine z_D.of (by decide +kernel) (Nat.le_of_ble_eq_true rfl) (fun X F => ?_)
  show z_w g X cX7_digitsOf RX7 (1, 0, 0) 0 [z_i t] [] h 0 0
  refine z_iload_n dX7_digitsOf_0 rfl ?_
  refine z_bipush dX7_digitsOf_1 rfl ?_
  refine z_icmp_ge dX7_digitsOf_3 (tgt := 10) rfl ⟨by omega, by omega⟩ (by decide) (fun c1 => ?_) (fun c1 => ?_)
  · skip
    refine z_iload_n dX7_digitsOf_10 rfl ?_
    refine z_bipush dX7_digitsOf_11 rfl ?_
    refine z_icmp_ge dX7_digitsOf_13 (tgt := 20) rfl ⟨by omega, by omega⟩ (by decide) (fun c2 => ?_) (fun c2 => ?_)
    · skip
      refine z_iconst dX7_digitsOf_20 ?_
      exact z_iret F dX7_digitsOf_21 rfl (by decide) ⟨congrArg (fun z => some (z_i z)) (by unfold shD; repeat (first | rw [if_pos (by omega)] | rw [if_neg (by omega)])), rfl⟩
    · skip
      refine z_iconst dX7_digitsOf_16 ?_
      refine z_goto dX7_digitsOf_17 (tgt := 21) rfl ?_
      exact z_iret F dX7_digitsOf_21 rfl (by decide) ⟨congrArg (fun z => some (z_i z)) (by unfold shD; repeat (first | rw [if_pos (by omega)] | rw [if_neg (by omega)])), rfl⟩
  · skip
    refine z_iconst dX7_digitsOf_6 ?_
    refine z_goto dX7_digitsOf_7 (tgt := 21) rfl ?_
    exact z_iret F dX7_digitsOf_21 rfl (by decide) ⟨congrArg (fun z => some (z_i z)) (by unfold shD; repeat (first | rw [if_pos (by omega)] | rw [if_neg (by omega)])), rfl⟩
set_option maxHeartbeats 4000000 in
set_option maxRecDepth 100000 in
theorem D_X7_digitAt {g : z_G} {h : z_H} {t : Int} {x : Nat} (ht : 0 ≤ t ∧ t ≤ 200) (hx : x ≤ 2) : z_D g mX7_digitAt 1 0 0 [z_i t, z_i (x : Int)] h (z_Pi (shN t (x : Int)) h) := by
  refine z_D.of (by decide +kernel) (Nat.le_of_ble_eq_true rfl) (fun X F => ?_)
  show z_w g X cX7_digitAt RX7 (1, 0, 0) 0 [z_i t, z_i (x : Int), z_u, z_u] [] h 0 0
  refine z_iload_n dX7_digitAt_0 rfl ?_
  refine z_istore_n dX7_digitAt_1 (Nat.le_of_ble_eq_true rfl) rfl ?_
  refine z_iconst dX7_digitAt_2 ?_
  refine z_istore_n dX7_digitAt_3 (Nat.le_of_ble_eq_true rfl) rfl ?_
  have L4 : ∀ (fu : Nat) (r : Nat) (v : Int) (q1 : r ≤ x) (q2 : (r = 0 ∧ v = t) ∨ (r = 1 ∧ v = t / 10) ∨ (r = 2 ∧ v = t / 100)) (q3 : 0 ≤ v ∧ v ≤ 200), x - r < fu → z_w g X cX7_digitAt RX7 (1, 0, 0) 4 [z_i t, z_i (x : Int), z_i v, z_i (r : Int)] [] h 0 0 := by
    intro fu
    induction fu with
    | zero => intro r v q1 q2 q3 hm; exact absurd hm (Nat.not_lt_zero _)
    | succ fu ih =>
      intro r v q1 q2 q3 hm
      refine z_iload_n dX7_digitAt_4 rfl ?_
      refine z_iload_n dX7_digitAt_5 rfl ?_
      refine z_icmp_ge dX7_digitAt_6 (tgt := 20) rfl ⟨by omega, by omega⟩ ⟨by omega, by omega⟩ (fun c1 => ?_) (fun c1 => ?_)
      · skip
        obtain rfl : r = x := by omega
        refine z_bipush dX7_digitAt_20 rfl ?_
        refine z_iload_n dX7_digitAt_22 rfl ?_
        refine z_bipush dX7_digitAt_23 rfl ?_
        refine z_irem dX7_digitAt_25 ⟨by omega, by omega⟩ (by decide) ?_
        refine z_iadd dX7_digitAt_26 ?_
        exact z_iret F dX7_digitAt_27 rfl (by decide) ⟨congrArg (fun z => some (z_i z)) (by unfold shN; rcases q2 with ⟨q4, q5⟩ | ⟨q4, q5⟩ | ⟨q4, q5⟩; (rw [if_pos (by omega), q5]); (rw [if_neg (by omega), if_pos (by omega), q5]); (rw [if_neg (by omega), if_neg (by omega), q5])), rfl⟩
      · skip
        refine z_iload_n dX7_digitAt_9 rfl ?_
        refine z_bipush dX7_digitAt_10 rfl ?_
        refine z_idiv dX7_digitAt_12 ⟨by omega, by omega⟩ (by decide) ?_
        refine z_istore_n dX7_digitAt_13 (Nat.le_of_ble_eq_true rfl) rfl ?_
        refine z_iinc dX7_digitAt_14 rfl rfl ?_
        refine z_goto dX7_digitAt_17 (tgt := 4) rfl ?_
        exact ih (r + 1) _ (by omega) (by omega) (by omega) (by omega)
  exact L4 (x + 1) 0 t (Nat.zero_le _) (Or.inl ⟨rfl, rfl⟩) (by omega) (by omega)
set_option maxHeartbeats 4000000 in
set_option maxRecDepth 100000 in
theorem D_X7_shorthandAt {g : z_G} {h : z_H} {a k9 : Nat} {Z : Nat} {f : z_row} (hs : oSt h a k9 (Z : Int) f) (hf : fOk (Z : Int) f) {i9 : Int} (hi9 : z_in i9) : z_D g mX7_shorthandAt 6 0 0 [z_r a, z_i i9] h (z_Pi (shV f Z i9) h) := by
  refine z_D.of (by decide +kernel) (Nat.le_of_ble_eq_true rfl) (fun X F => ?_)
  obtain ⟨h1, h2, h3, h4⟩ := id hs
  show z_w g X cX7_shorthandAt RX7 (6, 0, 0) 0 [z_r a, z_i i9, z_u, z_u, z_u, z_u, z_u] [] h 0 0
  refine z_iload_n dX7_shorthandAt_0 rfl ?_
  refine z_if_ge dX7_shorthandAt_1 (tgt := 6) rfl ⟨by omega, by omega⟩ (fun c1 => ?_) (fun c1 => ?_)
  · skip
    refine z_iload_n dX7_shorthandAt_6 rfl ?_
    refine z_istore_n dX7_shorthandAt_7 (Nat.le_of_ble_eq_true rfl) rfl ?_
    refine z_iconst dX7_shorthandAt_8 ?_
    refine z_istore_n dX7_shorthandAt_9 (Nat.le_of_ble_eq_true rfl) rfl ?_
    have L4 : ∀ (fu m : Nat) (l : Int) (y4 y5 y6 : z_V), m ≤ Z → (0 ≤ l ∧ l < 2147483648) → ((m = 0 ∧ shV f Z i9 = shG f Z (Z + 1) 0 l) ∨ (∃ k u, k < m ∧ m ≤ k + rl f Z k ∧ k < Z ∧ Z - k < u + 1 ∧ shV f Z i9 = (if k + rl f Z k < Z then (if l = 0 then 44 else shG f Z u (k + rl f Z k) (l - 1)) else -1))) → Z - m < fu → z_w g X cX7_shorthandAt RX7 (6, 0, 0) 10 [z_r a, z_i i9, z_i l, z_i (m : Int), y4, y5, y6] [] h 0 0 := by
      intro fu
      induction fu with
      | zero => intro m l y4 y5 y6 h1 h2 h3 h4; exact absurd h4 (Nat.not_lt_zero _)
      | succ fu ih =>
        intro m l y4 y5 y6 hmz hl hiv hm
        have K54 : ∀ (k u : Nat) (j : Int) (y4 y5 y6 : z_V), k = m → k < Z → Z - k < u + 1 → (0 ≤ j ∧ j < 2147483648) → shV f Z i9 = shG f Z (u + 1) k j → z_w g X cX7_shorthandAt RX7 (6, 0, 0) 54 [z_r a, z_i i9, z_i j, z_i (k : Int), y4, y5, y6] [] h 0 0 := by
          intro k u j y4 y5 y6 hkm hkz hku hj hsh
          have hk := hf k (by omega)
          obtain ⟨r1, r2, r3, r4⟩ := rl_s (f := f) hkz
          have b1 := shL_b (f k)
          have b2 := shD_b (rl f Z k : Int)
          have hw := shL_w hk
          have hi : (f k - 4).toNat < 10 := by have := hk.1; have := hk.2; omega
          have hst := hsh.trans (if_pos hkz)
          refine z_aload_n dX7_shorthandAt_54 rfl ?_
          refine z_iload_n dX7_shorthandAt_55 rfl ?_
          refine cs_X7_38 dX7_shorthandAt_56 (D_X7_kindAt_in hs (k) (by omega)) h1 rfl rfl (Nat.le_of_ble_eq_true rfl) (by decide) (z_ki ?_)
          refine cs_X7_66 dX7_shorthandAt_59 (D_X2_wordOf hk) rfl rfl (Nat.le_of_ble_eq_true rfl) (by decide) (z_kq ?_)
          refine z_astore dX7_shorthandAt_62 (Nat.le_of_ble_eq_true rfl) rfl ?_
          refine z_iload_n dX7_shorthandAt_64 rfl ?_
          refine z_aload dX7_shorthandAt_65 rfl ?_
          refine z_callT hi (z_gV (M := mJ0_length_8abf5) lmX_7_70 wm_J0_length_8abf5 ws_J0_length_8abf5 wi_J0 wc_J0_length_8abf5) rfl ⟨by decide, by decide, by decide +kernel⟩ (by decide) dX7_shorthandAt_67 (D_J0_length hi) rfl (nargs := 0) rfl (Nat.le_of_ble_eq_true rfl) (by decide) (z_ki ?_)
          refine z_ieq (y := (shL (f k))) hw ?_
          refine z_icmp_ge dX7_shorthandAt_70 (tgt := 80) rfl ⟨by omega, by omega⟩ ⟨by omega, by omega⟩ (fun c2 => ?_) (fun c2 => ?_)
          · skip
            refine z_iload_n dX7_shorthandAt_80 rfl ?_
            refine z_aload dX7_shorthandAt_81 rfl ?_
            refine z_callT hi (z_gV (M := mJ0_length_8abf5) lmX_7_70 wm_J0_length_8abf5 ws_J0_length_8abf5 wi_J0 wc_J0_length_8abf5) rfl ⟨by decide, by decide, by decide +kernel⟩ (by decide) dX7_shorthandAt_83 (D_J0_length hi) rfl (nargs := 0) rfl (Nat.le_of_ble_eq_true rfl) (by decide) (z_ki ?_)
            refine z_ieq (y := (shL (f k))) hw ?_
            refine z_isub dX7_shorthandAt_86 ?_
            refine z_istore_n dX7_shorthandAt_87 (Nat.le_of_ble_eq_true rfl) rfl ?_
            refine z_aload_n dX7_shorthandAt_88 rfl ?_
            refine z_iload_n dX7_shorthandAt_89 rfl ?_
            refine cs_X7_80 dX7_shorthandAt_90 (D_X7_runLength hs hf hkz) h1 rfl rfl (Nat.le_of_ble_eq_true rfl) (by decide) (z_ki ?_)
            refine z_istore dX7_shorthandAt_93 (Nat.le_of_ble_eq_true rfl) rfl ?_
            refine z_iload dX7_shorthandAt_95 rfl ?_
            refine z_iconst dX7_shorthandAt_97 ?_
            refine z_icmp_ne dX7_shorthandAt_98 (tgt := 105) rfl ⟨by omega, by omega⟩ (by decide) (fun c3 => ?_) (fun c3 => ?_)
            · skip
              refine z_iload dX7_shorthandAt_105 rfl ?_
              refine cs_X7_83 dX7_shorthandAt_107 (D_X7_digitsOf (t := (rl f Z k : Int)) ⟨by omega, by omega⟩) rfl rfl (Nat.le_of_ble_eq_true rfl) (by decide) (z_ki ?_)
              refine z_istore dX7_shorthandAt_110 (Nat.le_of_ble_eq_true rfl) rfl ?_
              refine z_iload_n dX7_shorthandAt_112 rfl ?_
              refine z_iload dX7_shorthandAt_113 rfl ?_
              refine z_icmp_ge dX7_shorthandAt_115 (tgt := 130) rfl ⟨by omega, by omega⟩ ⟨by omega, by omega⟩ (fun c4 => ?_) (fun c4 => ?_)
              · skip
                have hnext : shV f Z i9 = (if k + rl f Z k < Z then (if j - (shL (f k)) - (shD (rl f Z k : Int)) = 0 then 44 else shG f Z u (k + rl f Z k) (j - (shL (f k)) - (shD (rl f Z k : Int)) - 1)) else -1) := by
                  refine hst.trans ((if_neg (fun q => by have := q.2; omega)).trans ((if_neg (fun q => by have := q.2; omega)).trans ?_))
                  by_cases c9 : k + rl f Z k < Z
                  · rw [if_pos c9]
                    by_cases c8 : j - (shL (f k)) - (shD (rl f Z k : Int)) = 0
                    · rw [if_pos c8, if_pos ⟨by omega, c9⟩]
                    · rw [if_neg c8, if_neg (fun q => by have := q.1; omega)]
                      congr 1
                      unfold shC
                      rw [if_pos c9]
                      omega
                  · rw [if_neg c9, if_neg (fun q => c9 q.2)]
                    exact shG_end (by omega)
                refine z_iload_n dX7_shorthandAt_130 rfl ?_
                refine z_iload dX7_shorthandAt_131 rfl ?_
                refine z_isub dX7_shorthandAt_133 ?_
                refine z_istore_n dX7_shorthandAt_134 (Nat.le_of_ble_eq_true rfl) rfl ?_
                refine z_iinc dX7_shorthandAt_135 rfl rfl ?_
                refine z_goto dX7_shorthandAt_138 (tgt := 10) rfl ?_
                exact ih (k + 1) _ _ _ _ (by omega) (by omega) (Or.inr ⟨k, u, by omega, by omega, hkz, by omega, hnext⟩) (by omega)
              · skip
                have hres := hst.trans ((if_neg (fun q => by have := q.2; omega)).trans (if_pos ⟨by omega, by omega⟩))
                obtain ⟨x, hx⟩ : ∃ x : Nat, (shD (rl f Z k : Int)) - 1 - (j - (shL (f k))) = (x : Int) := ⟨((shD (rl f Z k : Int)) - 1 - (j - (shL (f k)))).toNat, by omega⟩
                refine z_iload dX7_shorthandAt_118 rfl ?_
                refine z_iload dX7_shorthandAt_120 rfl ?_
                refine z_iconst dX7_shorthandAt_122 ?_
                refine z_isub dX7_shorthandAt_123 ?_
                refine z_iload_n dX7_shorthandAt_124 rfl ?_
                refine z_isub dX7_shorthandAt_125 ?_
                refine z_ieq (y := (x : Int)) hx ?_
                refine cs_X7_86 dX7_shorthandAt_126 (D_X7_digitAt (t := (rl f Z k : Int)) (x := x) ⟨by omega, by omega⟩ (by omega)) rfl rfl (Nat.le_of_ble_eq_true rfl) (by decide) (z_ki ?_)
                exact z_iret F dX7_shorthandAt_129 rfl (by decide) ⟨congrArg (fun z => some (z_i z)) (by rw [hres, ← hx]; congr 1; omega), rfl⟩
            · skip
              refine z_iconst dX7_shorthandAt_101 ?_
              refine z_goto dX7_shorthandAt_102 (tgt := 110) rfl ?_
              refine z_ieq (y := (shD (rl f Z k : Int))) (by unfold shD; rw [if_pos (by omega)]) ?_
              refine z_istore dX7_shorthandAt_110 (Nat.le_of_ble_eq_true rfl) rfl ?_
              refine z_iload_n dX7_shorthandAt_112 rfl ?_
              refine z_iload dX7_shorthandAt_113 rfl ?_
              refine z_icmp_ge dX7_shorthandAt_115 (tgt := 130) rfl ⟨by omega, by omega⟩ ⟨by omega, by omega⟩ (fun c5 => ?_) (fun c5 => ?_)
              · skip
                have hnext : shV f Z i9 = (if k + rl f Z k < Z then (if j - (shL (f k)) - (shD (rl f Z k : Int)) = 0 then 44 else shG f Z u (k + rl f Z k) (j - (shL (f k)) - (shD (rl f Z k : Int)) - 1)) else -1) := by
                  refine hst.trans ((if_neg (fun q => by have := q.2; omega)).trans ((if_neg (fun q => by have := q.2; omega)).trans ?_))
                  by_cases c9 : k + rl f Z k < Z
                  · rw [if_pos c9]
                    by_cases c8 : j - (shL (f k)) - (shD (rl f Z k : Int)) = 0
                    · rw [if_pos c8, if_pos ⟨by omega, c9⟩]
                    · rw [if_neg c8, if_neg (fun q => by have := q.1; omega)]
                      congr 1
                      unfold shC
                      rw [if_pos c9]
                      omega
                  · rw [if_neg c9, if_neg (fun q => c9 q.2)]
                    exact shG_end (by omega)
                refine z_iload_n dX7_shorthandAt_130 rfl ?_
                refine z_iload dX7_shorthandAt_131 rfl ?_
                refine z_isub dX7_shorthandAt_133 ?_
                refine z_istore_n dX7_shorthandAt_134 (Nat.le_of_ble_eq_true rfl) rfl ?_
                refine z_iinc dX7_shorthandAt_135 rfl rfl ?_
                refine z_goto dX7_shorthandAt_138 (tgt := 10) rfl ?_
                exact ih (k + 1) _ _ _ _ (by omega) (by omega) (Or.inr ⟨k, u, by omega, by omega, hkz, by omega, hnext⟩) (by omega)
              · skip
                have hres := hst.trans ((if_neg (fun q => by have := q.2; omega)).trans (if_pos ⟨by omega, by omega⟩))
                obtain ⟨x, hx⟩ : ∃ x : Nat, (shD (rl f Z k : Int)) - 1 - (j - (shL (f k))) = (x : Int) := ⟨((shD (rl f Z k : Int)) - 1 - (j - (shL (f k)))).toNat, by omega⟩
                refine z_iload dX7_shorthandAt_118 rfl ?_
                refine z_iload dX7_shorthandAt_120 rfl ?_
                refine z_iconst dX7_shorthandAt_122 ?_
                refine z_isub dX7_shorthandAt_123 ?_
                refine z_iload_n dX7_shorthandAt_124 rfl ?_
                refine z_isub dX7_shorthandAt_125 ?_
                refine z_ieq (y := (x : Int)) hx ?_
                refine cs_X7_86 dX7_shorthandAt_126 (D_X7_digitAt (t := (rl f Z k : Int)) (x := x) ⟨by omega, by omega⟩ (by omega)) rfl rfl (Nat.le_of_ble_eq_true rfl) (by decide) (z_ki ?_)
                exact z_iret F dX7_shorthandAt_129 rfl (by decide) ⟨congrArg (fun z => some (z_i z)) (by rw [hres, ← hx]; congr 1; omega), rfl⟩
          · skip
            have hres := hst.trans (if_pos ⟨by omega, by omega⟩)
            refine z_aload dX7_shorthandAt_73 rfl ?_
            refine z_iload_n dX7_shorthandAt_75 rfl ?_
            refine z_callT hi (z_gV (M := mJ0_charAt_5068e) lmX_7_76 wm_J0_charAt_5068e ws_J0_charAt_5068e wi_J0 wc_J0_charAt_5068e) rfl ⟨by decide, by decide, by decide +kernel⟩ (by decide) dX7_shorthandAt_76 (D_J0_charAt hi (j := j) ⟨by omega, by omega⟩) rfl (nargs := 1) rfl (Nat.le_of_ble_eq_true rfl) (by decide) (z_ki ?_)
            exact z_iret F dX7_shorthandAt_79 rfl (by decide) ⟨congrArg (fun z => some (z_i z)) (by rw [hres]; rcases (show j = 0 ∨ j = 1 by omega) with q | q; (rw [q, if_pos rfl]; exact zc_0 hk); (rw [q, if_neg (by decide)]; exact zc_1 hk (by omega))), rfl⟩
        rcases hiv with ⟨rfl, q2⟩ | ⟨k, u, q1, q2, q3, q4, q5⟩
        · skip
          refine z_iload_n dX7_shorthandAt_10 rfl ?_
          refine z_aload_n dX7_shorthandAt_11 rfl ?_
          refine gf_X7_21 dX7_shorthandAt_12 h1 rfl ?_
          refine z_icmp_ge dX7_shorthandAt_15 (tgt := 141) rfl ⟨by omega, by omega⟩ ⟨by omega, by omega⟩ (fun c6 => ?_) (fun c6 => ?_)
          · skip
            have hend : shV f Z i9 = -1 := q2.trans (shG_end (by omega))
            refine z_iconst dX7_shorthandAt_141 ?_
            exact z_iret F dX7_shorthandAt_142 rfl (by decide) ⟨congrArg (fun z => some (z_i z)) (by exact hend.symm), rfl⟩
          · skip
            refine z_iload_n dX7_shorthandAt_18 rfl ?_
            refine z_if_le dX7_shorthandAt_19 (tgt := 40) rfl ⟨by omega, by omega⟩ (fun c7 => ?_) (fun c7 => ?_)
            · skip
              refine z_iload_n dX7_shorthandAt_40 rfl ?_
              refine z_if_le dX7_shorthandAt_41 (tgt := 54) rfl ⟨by omega, by omega⟩ (fun c8 => ?_) (fun c8 => ?_)
              · skip
                exact K54 0 Z l _ _ _ rfl (by omega) (by omega) hl q2
              · skip
                exact absurd c8 (by omega)
            · skip
              exact absurd c7 (by omega)
        · skip
          obtain ⟨r1, r2, r3, r4⟩ := rl_s (f := f) q3
          refine z_iload_n dX7_shorthandAt_10 rfl ?_
          refine z_aload_n dX7_shorthandAt_11 rfl ?_
          refine gf_X7_21 dX7_shorthandAt_12 h1 rfl ?_
          refine z_icmp_ge dX7_shorthandAt_15 (tgt := 141) rfl ⟨by omega, by omega⟩ ⟨by omega, by omega⟩ (fun c9 => ?_) (fun c9 => ?_)
          · skip
            have hend : shV f Z i9 = -1 := q5.trans (if_neg (by omega))
            refine z_iconst dX7_shorthandAt_141 ?_
            exact z_iret F dX7_shorthandAt_142 rfl (by decide) ⟨congrArg (fun z => some (z_i z)) (by exact hend.symm), rfl⟩
          · skip
            refine z_iload_n dX7_shorthandAt_18 rfl ?_
            refine z_if_le dX7_shorthandAt_19 (tgt := 40) rfl ⟨by omega, by omega⟩ (fun c10 => ?_) (fun c10 => ?_)
            · skip
              exact absurd c10 (by omega)
            · skip
              have hk1 := hf m (by omega)
              have hk0 := hf (m - 1) (by omega)
              have hkd := D_X7_kindAt_in (g := g) hs (m - 1) (by omega)
              rw [show ((m - 1 : Nat) : Int) = (m : Int) - 1 by omega] at hkd
              have hpv : f (m - 1) = f k := by have := r3 (m - 1 - k) (by omega); rw [show k + (m - 1 - k) = m - 1 by omega] at this; exact this
              refine z_aload_n dX7_shorthandAt_22 rfl ?_
              refine z_iload_n dX7_shorthandAt_23 rfl ?_
              refine cs_X7_38 dX7_shorthandAt_24 (D_X7_kindAt_in hs (m) (by omega)) h1 rfl rfl (Nat.le_of_ble_eq_true rfl) (by decide) (z_ki ?_)
              refine z_aload_n dX7_shorthandAt_27 rfl ?_
              refine z_iload_n dX7_shorthandAt_28 rfl ?_
              refine z_iconst dX7_shorthandAt_29 ?_
              refine z_isub dX7_shorthandAt_30 ?_
              refine cs_X7_38 dX7_shorthandAt_31 hkd h1 rfl rfl (Nat.le_of_ble_eq_true rfl) (by decide) (z_ki ?_)
              refine z_icmp_ne dX7_shorthandAt_34 (tgt := 40) rfl (kOk_in hk1) (kOk_in hk0) (fun c11 => ?_) (fun c11 => ?_)
              · skip
                have hmk : m = k + rl f Z k := by rcases (show m = k + rl f Z k ∨ m < k + rl f Z k by omega) with q | q; exact q; exact absurd (by have h9 := r3 (m - k) (by omega); rw [show k + (m - k) = m by omega] at h9; rw [hpv]; exact h9) c11
                refine z_iload_n dX7_shorthandAt_40 rfl ?_
                refine z_if_le dX7_shorthandAt_41 (tgt := 54) rfl ⟨by omega, by omega⟩ (fun c12 => ?_) (fun c12 => ?_)
                · skip
                  exact absurd c12 (by omega)
                · skip
                  refine z_iload_n dX7_shorthandAt_44 rfl ?_
                  refine z_if_ne dX7_shorthandAt_45 (tgt := 51) rfl ⟨by omega, by omega⟩ (fun c13 => ?_) (fun c13 => ?_)
                  · skip
                    have hl0 : ¬ l = 0 := c13
                    obtain ⟨u2, rfl⟩ : ∃ y, u = y + 1 := ⟨u - 1, by omega⟩
                    subst hmk
                    refine z_iinc dX7_shorthandAt_51 rfl rfl ?_
                    exact K54 (k + rl f Z k) u2 (l - 1) _ _ _ (by omega) (by omega) (by omega) (by omega) (q5.trans ((if_pos (by omega)).trans (if_neg hl0)))
                  · skip
                    have hcm : shV f Z i9 = 44 := q5.trans ((if_pos (by omega)).trans (if_pos c13))
                    refine z_bipush dX7_shorthandAt_48 rfl ?_
                    exact z_iret F dX7_shorthandAt_50 rfl (by decide) ⟨congrArg (fun z => some (z_i z)) (by exact hcm.symm), rfl⟩
              · skip
                have hmk : m < k + rl f Z k := by rcases (show m = k + rl f Z k ∨ m < k + rl f Z k by omega) with q | q; (exact absurd (by rw [← q, c11, hpv]) (r4 (by omega))); exact q
                refine z_goto dX7_shorthandAt_37 (tgt := 135) rfl ?_
                refine z_iinc dX7_shorthandAt_135 rfl rfl ?_
                refine z_goto dX7_shorthandAt_138 (tgt := 10) rfl ?_
                exact ih (m + 1) l _ _ _ (by omega) hl (Or.inr ⟨k, u, by omega, by omega, q3, q4, q5⟩) (by omega)
    exact L4 (Z + 1) 0 i9 z_u z_u z_u (Nat.zero_le _) (by omega) (Or.inl ⟨rfl, rfl⟩) (by omega)
  · skip
    have hneg : shV f Z i9 = -1 := shG_neg _ _ _ _ _ (by omega)
    refine z_iconst dX7_shorthandAt_4 ?_
    exact z_iret F dX7_shorthandAt_5 rfl (by decide) ⟨congrArg (fun z => some (z_i z)) (by exact hneg.symm), rfl⟩
