/-! the reference: kinds and small questions -/
set_option maxHeartbeats 4000000 in
set_option maxRecDepth 100000 in
theorem D_X9_isIn {g : z_G} {h : z_H} {v lo hi : Int} (h1 : z_inL v) (h2 : z_inL lo) (h3 : z_inL hi) : z_D g mX9_isIn 1 0 0 [z_l v, z_l lo, z_l hi] h (z_Pi (if lo ≤ v ∧ v ≤ hi then 1 else 0) h) := by
  refine z_D.of (by decide +kernel) (Nat.le_of_ble_eq_true rfl) (fun X F => ?_)
  show z_w g X cX9_isIn RX9 (1, 0, 0) 0 [z_l v, z_u, z_l lo, z_u, z_l hi, z_u] [] h 0 0
  refine z_lload_n dX9_isIn_0 rfl ?_
  refine z_lload_n dX9_isIn_1 rfl ?_
  refine z_lcmp dX9_isIn_2 h1 h2 ?_
  refine z_if_lt dX9_isIn_3 (tgt := 17) rfl (z_cmpin _ _) (fun c1 => ?_) (fun c1 => ?_)
  · have c1 : v < lo := z_cmp_lt c1
    refine z_iconst dX9_isIn_17 ?_
    exact z_zret F dX9_isIn_18 rfl (by omega) (by decide) ⟨congrArg (fun z => some (z_i z)) (by split <;> omega), rfl⟩
  · have c1 : v ≥ lo := z_cmp_nlt c1
    refine z_lload_n dX9_isIn_6 rfl ?_
    refine z_lload dX9_isIn_7 rfl ?_
    refine z_lcmp dX9_isIn_9 h1 h3 ?_
    refine z_if_gt dX9_isIn_10 (tgt := 17) rfl (z_cmpin _ _) (fun c2 => ?_) (fun c2 => ?_)
    · have c2 : v > hi := z_cmp_gt c2
      refine z_iconst dX9_isIn_17 ?_
      exact z_zret F dX9_isIn_18 rfl (by omega) (by decide) ⟨congrArg (fun z => some (z_i z)) (by split <;> omega), rfl⟩
    · have c2 : v ≤ hi := z_cmp_ngt c2
      refine z_iconst dX9_isIn_13 ?_
      refine z_goto dX9_isIn_14 (tgt := 18) rfl ?_
      exact z_zret F dX9_isIn_18 rfl (by omega) (by decide) ⟨congrArg (fun z => some (z_i z)) (by split <;> omega), rfl⟩
set_option maxHeartbeats 4000000 in
set_option maxRecDepth 100000 in
theorem D_X9_takes {g : z_G} {h : z_H} {a : Int} (ha : z_in a) : z_D g mX9_takes 1 0 0 [z_i a] h (z_Pi (kT a) h) := by
  refine z_D.of (by decide +kernel) (Nat.le_of_ble_eq_true rfl) (fun X F => ?_)
  show z_w g X cX9_takes RX9 (1, 0, 0) 0 [z_i a] [] h 0 0
  refine z_iload_n dX9_takes_0 rfl ?_
  refine z_bipush dX9_takes_1 rfl ?_
  refine z_icmp_ne dX9_takes_3 (tgt := 10) rfl ⟨by omega, by omega⟩ (by decide) (fun c1 => ?_) (fun c1 => ?_)
  · skip
    refine z_iload_n dX9_takes_10 rfl ?_
    refine z_bipush dX9_takes_11 rfl ?_
    refine z_icmp_eq dX9_takes_13 (tgt := 22) rfl ⟨by omega, by omega⟩ (by decide) (fun c2 => ?_) (fun c2 => ?_)
    · skip
      refine z_iconst dX9_takes_22 ?_
      refine z_goto dX9_takes_23 (tgt := 43) rfl ?_
      exact z_iret F dX9_takes_43 rfl (by decide) ⟨congrArg (fun z => some (z_i z)) (by unfold kT; repeat (first | rw [if_pos (by omega)] | rw [if_neg (by omega)])), rfl⟩
    · skip
      refine z_iload_n dX9_takes_16 rfl ?_
      refine z_bipush dX9_takes_17 rfl ?_
      refine z_icmp_ne dX9_takes_19 (tgt := 26) rfl ⟨by omega, by omega⟩ (by decide) (fun c3 => ?_) (fun c3 => ?_)
      · skip
        refine z_iload_n dX9_takes_26 rfl ?_
        refine z_bipush dX9_takes_27 rfl ?_
        refine z_icmp_eq dX9_takes_29 (tgt := 38) rfl ⟨by omega, by omega⟩ (by decide) (fun c4 => ?_) (fun c4 => ?_)
        · skip
          refine z_iconst dX9_takes_38 ?_
          refine z_goto dX9_takes_39 (tgt := 43) rfl ?_
          exact z_iret F dX9_takes_43 rfl (by decide) ⟨congrArg (fun z => some (z_i z)) (by unfold kT; repeat (first | rw [if_pos (by omega)] | rw [if_neg (by omega)])), rfl⟩
        · skip
          refine z_iload_n dX9_takes_32 rfl ?_
          refine z_bipush dX9_takes_33 rfl ?_
          refine z_icmp_ne dX9_takes_35 (tgt := 42) rfl ⟨by omega, by omega⟩ (by decide) (fun c5 => ?_) (fun c5 => ?_)
          · skip
            refine z_iconst dX9_takes_42 ?_
            exact z_iret F dX9_takes_43 rfl (by decide) ⟨congrArg (fun z => some (z_i z)) (by unfold kT; repeat (first | rw [if_pos (by omega)] | rw [if_neg (by omega)])), rfl⟩
          · skip
            refine z_iconst dX9_takes_38 ?_
            refine z_goto dX9_takes_39 (tgt := 43) rfl ?_
            exact z_iret F dX9_takes_43 rfl (by decide) ⟨congrArg (fun z => some (z_i z)) (by unfold kT; repeat (first | rw [if_pos (by omega)] | rw [if_neg (by omega)])), rfl⟩
      · skip
        refine z_iconst dX9_takes_22 ?_
        refine z_goto dX9_takes_23 (tgt := 43) rfl ?_
        exact z_iret F dX9_takes_43 rfl (by decide) ⟨congrArg (fun z => some (z_i z)) (by unfold kT; repeat (first | rw [if_pos (by omega)] | rw [if_neg (by omega)])), rfl⟩
  · skip
    refine z_iconst dX9_takes_6 ?_
    refine z_goto dX9_takes_7 (tgt := 43) rfl ?_
    exact z_iret F dX9_takes_43 rfl (by decide) ⟨congrArg (fun z => some (z_i z)) (by unfold kT; repeat (first | rw [if_pos (by omega)] | rw [if_neg (by omega)])), rfl⟩
set_option maxHeartbeats 4000000 in
set_option maxRecDepth 100000 in
theorem D_X9_makes {g : z_G} {h : z_H} {a : Int} (ha : z_in a) : z_D g mX9_makes 1 0 0 [z_i a] h (z_Pi (kM a) h) := by
  refine z_D.of (by decide +kernel) (Nat.le_of_ble_eq_true rfl) (fun X F => ?_)
  show z_w g X cX9_makes RX9 (1, 0, 0) 0 [z_i a] [] h 0 0
  refine z_iload_n dX9_makes_0 rfl ?_
  refine z_bipush dX9_makes_1 rfl ?_
  refine z_icmp_ne dX9_makes_3 (tgt := 10) rfl ⟨by omega, by omega⟩ (by decide) (fun c1 => ?_) (fun c1 => ?_)
  · skip
    refine z_iconst dX9_makes_10 ?_
    exact z_iret F dX9_makes_11 rfl (by decide) ⟨congrArg (fun z => some (z_i z)) (by unfold kM; repeat (first | rw [if_pos (by omega)] | rw [if_neg (by omega)])), rfl⟩
  · skip
    refine z_iconst dX9_makes_6 ?_
    refine z_goto dX9_makes_7 (tgt := 11) rfl ?_
    exact z_iret F dX9_makes_11 rfl (by decide) ⟨congrArg (fun z => some (z_i z)) (by unfold kM; repeat (first | rw [if_pos (by omega)] | rw [if_neg (by omega)])), rfl⟩
set_option maxHeartbeats 4000000 in
set_option maxRecDepth 100000 in
theorem D_X9_mirror {g : z_G} {h : z_H} {a : Int} (ha : z_in a) : z_D g mX9_mirror 1 0 0 [z_i a] h (z_Pi (kMi a) h) := by
  refine z_D.of (by decide +kernel) (Nat.le_of_ble_eq_true rfl) (fun X F => ?_)
  show z_w g X cX9_mirror RX9 (1, 0, 0) 0 [z_i a] [] h 0 0
  refine z_iload_n dX9_mirror_0 rfl ?_
  refine z_bipush dX9_mirror_1 rfl ?_
  refine z_icmp_ne dX9_mirror_3 (tgt := 11) rfl ⟨by omega, by omega⟩ (by decide) (fun c1 => ?_) (fun c1 => ?_)
  · skip
    refine z_iload_n dX9_mirror_11 rfl ?_
    refine z_bipush dX9_mirror_12 rfl ?_
    refine z_icmp_ne dX9_mirror_14 (tgt := 22) rfl ⟨by omega, by omega⟩ (by decide) (fun c2 => ?_) (fun c2 => ?_)
    · skip
      refine z_iload_n dX9_mirror_22 rfl ?_
      exact z_iret F dX9_mirror_23 rfl (by decide) ⟨congrArg (fun z => some (z_i z)) (by unfold kMi; repeat (first | rw [if_pos (by omega)] | rw [if_neg (by omega)])), rfl⟩
    · skip
      refine z_bipush dX9_mirror_17 rfl ?_
      refine z_goto dX9_mirror_19 (tgt := 23) rfl ?_
      exact z_iret F dX9_mirror_23 rfl (by decide) ⟨congrArg (fun z => some (z_i z)) (by unfold kMi; repeat (first | rw [if_pos (by omega)] | rw [if_neg (by omega)])), rfl⟩
  · skip
    refine z_bipush dX9_mirror_6 rfl ?_
    refine z_goto dX9_mirror_8 (tgt := 23) rfl ?_
    exact z_iret F dX9_mirror_23 rfl (by decide) ⟨congrArg (fun z => some (z_i z)) (by unfold kMi; repeat (first | rw [if_pos (by omega)] | rw [if_neg (by omega)])), rfl⟩
set_option maxHeartbeats 4000000 in
set_option maxRecDepth 100000 in
theorem D_X9_turn {g : z_G} {h : z_H} {a : Int} (ha : z_in a) : z_D g mX9_turn 2 0 0 [z_i a] h (z_Pi (kTu a) h) := by
  refine z_D.of (by decide +kernel) (Nat.le_of_ble_eq_true rfl) (fun X F => ?_)
  show z_w g X cX9_turn RX9 (2, 0, 0) 0 [z_i a] [] h 0 0
  refine z_iload_n dX9_turn_0 rfl ?_
  refine z_iconst dX9_turn_1 ?_
  refine z_icmp_ne dX9_turn_2 (tgt := 9) rfl ⟨by omega, by omega⟩ (by decide) (fun c1 => ?_) (fun c1 => ?_)
  · skip
    refine z_iload_n dX9_turn_9 rfl ?_
    refine z_iconst dX9_turn_10 ?_
    refine z_icmp_ne dX9_turn_11 (tgt := 18) rfl ⟨by omega, by omega⟩ (by decide) (fun c2 => ?_) (fun c2 => ?_)
    · skip
      refine z_iload_n dX9_turn_18 rfl ?_
      refine cs_X9_50 dX9_turn_19 (D_X9_mirror ha) rfl rfl (Nat.le_of_ble_eq_true rfl) (by decide) (z_ki ?_)
      exact z_iret F dX9_turn_22 rfl (by decide) ⟨congrArg (fun z => some (z_i z)) (by unfold kTu; repeat (first | rw [if_pos (by omega)] | rw [if_neg (by omega)])), rfl⟩
    · skip
      refine z_iconst dX9_turn_14 ?_
      refine z_goto dX9_turn_15 (tgt := 22) rfl ?_
      exact z_iret F dX9_turn_22 rfl (by decide) ⟨congrArg (fun z => some (z_i z)) (by unfold kTu; repeat (first | rw [if_pos (by omega)] | rw [if_neg (by omega)])), rfl⟩
  · skip
    refine z_iconst dX9_turn_5 ?_
    refine z_goto dX9_turn_6 (tgt := 22) rfl ?_
    exact z_iret F dX9_turn_22 rfl (by decide) ⟨congrArg (fun z => some (z_i z)) (by unfold kTu; repeat (first | rw [if_pos (by omega)] | rw [if_neg (by omega)])), rfl⟩
set_option maxHeartbeats 4000000 in
set_option maxRecDepth 100000 in
theorem D_X9_isFigure {g : z_G} {h : z_H} {c : Int} (hc : z_in c) : z_D g mX9_isFigure 2 0 0 [z_i c] h (z_Pi (if 48 ≤ c ∧ c ≤ 57 then 1 else 0) h) := by
  refine z_D.of (by decide +kernel) (Nat.le_of_ble_eq_true rfl) (fun X F => ?_)
  show z_w g X cX9_isFigure RX9 (2, 0, 0) 0 [z_i c] [] h 0 0
  refine z_iload_n dX9_isFigure_0 rfl ?_
  refine z_i2l dX9_isFigure_1 ⟨by omega, by omega⟩ ?_
  refine z_ldc2 dX9_isFigure_2 lw_X9_73 ?_
  refine z_ldc2 dX9_isFigure_5 lw_X9_75 ?_
  refine cs_X9_56 dX9_isFigure_8 (D_X9_isIn (v := c) (lo := 48) (hi := 57) ⟨by omega, by omega⟩ (by decide) (by decide)) rfl rfl (Nat.le_of_ble_eq_true rfl) (by decide) (z_ki ?_)
  exact z_zret F dX9_isFigure_11 rfl (by split <;> omega) (by decide) ⟨rfl, rfl⟩
