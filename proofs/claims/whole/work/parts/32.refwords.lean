/-! the reference: words and texts -/
set_option maxHeartbeats 4000000 in
set_option maxRecDepth 100000 in
theorem D_X9_yarnOf {g : z_G} {h : z_H} {a : Int} (ha : z_in a) : z_D g mX9_yarnOf 1 0 0 [z_i a] h (z_Pi (kY a) h) := by
  refine z_D.of (by decide +kernel) (Nat.le_of_ble_eq_true rfl) (fun X F => ?_)
  show z_w g X cX9_yarnOf RX9 (1, 0, 0) 0 [z_i a] [] h 0 0
  refine z_iload_n dX9_yarnOf_0 rfl ?_
  by_cases c1_4 : a = 4
  · refine z_tabIn dX9_yarnOf_1 ⟨by omega, by omega⟩ (tgt := 48) (off := 47) (by omega) (by omega) (by rw [c1_4]; rfl) rfl ?_
    refine z_bipush dX9_yarnOf_48 rfl ?_
    exact z_iret F dX9_yarnOf_50 rfl (by decide) ⟨congrArg (fun z => some (z_i z)) (by unfold kY; repeat (first | rw [if_pos (by omega)] | rw [if_neg (by omega)])), rfl⟩
  by_cases c1_5 : a = 5
  · refine z_tabIn dX9_yarnOf_1 ⟨by omega, by omega⟩ (tgt := 51) (off := 50) (by omega) (by omega) (by rw [c1_5]; rfl) rfl ?_
    refine z_bipush dX9_yarnOf_51 rfl ?_
    exact z_iret F dX9_yarnOf_53 rfl (by decide) ⟨congrArg (fun z => some (z_i z)) (by unfold kY; repeat (first | rw [if_pos (by omega)] | rw [if_neg (by omega)])), rfl⟩
  by_cases c1_6 : a = 6
  · refine z_tabIn dX9_yarnOf_1 ⟨by omega, by omega⟩ (tgt := 54) (off := 53) (by omega) (by omega) (by rw [c1_6]; rfl) rfl ?_
    refine z_iconst dX9_yarnOf_54 ?_
    exact z_iret F dX9_yarnOf_55 rfl (by decide) ⟨congrArg (fun z => some (z_i z)) (by unfold kY; repeat (first | rw [if_pos (by omega)] | rw [if_neg (by omega)])), rfl⟩
  by_cases c1_7 : a = 7
  · refine z_tabIn dX9_yarnOf_1 ⟨by omega, by omega⟩ (tgt := 56) (off := 55) (by omega) (by omega) (by rw [c1_7]; rfl) rfl ?_
    refine z_bipush dX9_yarnOf_56 rfl ?_
    exact z_iret F dX9_yarnOf_58 rfl (by decide) ⟨congrArg (fun z => some (z_i z)) (by unfold kY; repeat (first | rw [if_pos (by omega)] | rw [if_neg (by omega)])), rfl⟩
  by_cases c1_8 : a = 8
  · refine z_tabIn dX9_yarnOf_1 ⟨by omega, by omega⟩ (tgt := 59) (off := 58) (by omega) (by omega) (by rw [c1_8]; rfl) rfl ?_
    refine z_bipush dX9_yarnOf_59 rfl ?_
    exact z_iret F dX9_yarnOf_61 rfl (by decide) ⟨congrArg (fun z => some (z_i z)) (by unfold kY; repeat (first | rw [if_pos (by omega)] | rw [if_neg (by omega)])), rfl⟩
  by_cases c1_9 : a = 9
  · refine z_tabIn dX9_yarnOf_1 ⟨by omega, by omega⟩ (tgt := 62) (off := 61) (by omega) (by omega) (by rw [c1_9]; rfl) rfl ?_
    refine z_bipush dX9_yarnOf_62 rfl ?_
    exact z_iret F dX9_yarnOf_64 rfl (by decide) ⟨congrArg (fun z => some (z_i z)) (by unfold kY; repeat (first | rw [if_pos (by omega)] | rw [if_neg (by omega)])), rfl⟩
  by_cases c1_10 : a = 10
  · refine z_tabIn dX9_yarnOf_1 ⟨by omega, by omega⟩ (tgt := 65) (off := 64) (by omega) (by omega) (by rw [c1_10]; rfl) rfl ?_
    refine z_bipush dX9_yarnOf_65 rfl ?_
    exact z_iret F dX9_yarnOf_67 rfl (by decide) ⟨congrArg (fun z => some (z_i z)) (by unfold kY; repeat (first | rw [if_pos (by omega)] | rw [if_neg (by omega)])), rfl⟩
  by_cases c1_11 : a = 11
  · refine z_tabIn dX9_yarnOf_1 ⟨by omega, by omega⟩ (tgt := 68) (off := 67) (by omega) (by omega) (by rw [c1_11]; rfl) rfl ?_
    refine z_bipush dX9_yarnOf_68 rfl ?_
    exact z_iret F dX9_yarnOf_70 rfl (by decide) ⟨congrArg (fun z => some (z_i z)) (by unfold kY; repeat (first | rw [if_pos (by omega)] | rw [if_neg (by omega)])), rfl⟩
  refine z_tabOut dX9_yarnOf_1 ha (tgt := 71) (by omega) rfl ?_
  refine z_bipush dX9_yarnOf_71 rfl ?_
  exact z_iret F dX9_yarnOf_73 rfl (by decide) ⟨congrArg (fun z => some (z_i z)) (by unfold kY; repeat (first | rw [if_pos (by omega)] | rw [if_neg (by omega)])), rfl⟩
set_option maxHeartbeats 4000000 in
set_option maxRecDepth 100000 in
theorem D_X9_isUnder {g : z_G} {h : z_H} {a t : Int} (ha : z_in a) (ht : z_in t) : z_D g mX9_isUnder 1 0 0 [z_i a, z_i t] h (z_Pi (kUn a t) h) := by
  refine z_D.of (by decide +kernel) (Nat.le_of_ble_eq_true rfl) (fun X F => ?_)
  show z_w g X cX9_isUnder RX9 (1, 0, 0) 0 [z_i a, z_i t] [] h 0 0
  refine z_iload_n dX9_isUnder_0 rfl ?_
  refine z_if_eq dX9_isUnder_1 (tgt := 60) rfl ⟨by omega, by omega⟩ (fun c1 => ?_) (fun c1 => ?_)
  · skip
    refine z_iconst dX9_isUnder_60 ?_
    refine z_goto dX9_isUnder_61 (tgt := 65) rfl ?_
    exact z_zret F dX9_isUnder_65 rfl (by omega) (by decide) ⟨congrArg (fun z => some (z_i z)) (by unfold kUn; split <;> omega), rfl⟩
  · skip
    refine z_iload_n dX9_isUnder_4 rfl ?_
    refine z_iload_n dX9_isUnder_5 rfl ?_
    refine z_icmp_eq dX9_isUnder_6 (tgt := 60) rfl ⟨by omega, by omega⟩ ⟨by omega, by omega⟩ (fun c2 => ?_) (fun c2 => ?_)
    · skip
      refine z_iconst dX9_isUnder_60 ?_
      refine z_goto dX9_isUnder_61 (tgt := 65) rfl ?_
      exact z_zret F dX9_isUnder_65 rfl (by omega) (by decide) ⟨congrArg (fun z => some (z_i z)) (by unfold kUn; split <;> omega), rfl⟩
    · skip
      refine z_iload_n dX9_isUnder_9 rfl ?_
      refine z_iconst dX9_isUnder_10 ?_
      refine z_icmp_ne dX9_isUnder_11 (tgt := 20) rfl ⟨by omega, by omega⟩ (by decide) (fun c3 => ?_) (fun c3 => ?_)
      · skip
        refine z_iload_n dX9_isUnder_20 rfl ?_
        refine z_iconst dX9_isUnder_21 ?_
        refine z_icmp_ne dX9_isUnder_22 (tgt := 37) rfl ⟨by omega, by omega⟩ (by decide) (fun c4 => ?_) (fun c4 => ?_)
        · skip
          refine z_iload_n dX9_isUnder_37 rfl ?_
          refine z_iconst dX9_isUnder_38 ?_
          refine z_icmp_ne dX9_isUnder_39 (tgt := 48) rfl ⟨by omega, by omega⟩ (by decide) (fun c5 => ?_) (fun c5 => ?_)
          · skip
            refine z_iload_n dX9_isUnder_48 rfl ?_
            refine z_bipush dX9_isUnder_49 rfl ?_
            refine z_icmp_ne dX9_isUnder_51 (tgt := 64) rfl ⟨by omega, by omega⟩ (by decide) (fun c6 => ?_) (fun c6 => ?_)
            · skip
              refine z_iconst dX9_isUnder_64 ?_
              exact z_zret F dX9_isUnder_65 rfl (by omega) (by decide) ⟨congrArg (fun z => some (z_i z)) (by unfold kUn; split <;> omega), rfl⟩
            · skip
              refine z_iload_n dX9_isUnder_54 rfl ?_
              refine z_bipush dX9_isUnder_55 rfl ?_
              refine z_icmp_ne dX9_isUnder_57 (tgt := 64) rfl ⟨by omega, by omega⟩ (by decide) (fun c7 => ?_) (fun c7 => ?_)
              · skip
                refine z_iconst dX9_isUnder_64 ?_
                exact z_zret F dX9_isUnder_65 rfl (by omega) (by decide) ⟨congrArg (fun z => some (z_i z)) (by unfold kUn; split <;> omega), rfl⟩
              · skip
                refine z_iconst dX9_isUnder_60 ?_
                refine z_goto dX9_isUnder_61 (tgt := 65) rfl ?_
                exact z_zret F dX9_isUnder_65 rfl (by omega) (by decide) ⟨congrArg (fun z => some (z_i z)) (by unfold kUn; split <;> omega), rfl⟩
          · skip
            refine z_iload_n dX9_isUnder_42 rfl ?_
            refine z_bipush dX9_isUnder_43 rfl ?_
            refine z_icmp_gt dX9_isUnder_45 (tgt := 60) rfl ⟨by omega, by omega⟩ (by decide) (fun c8 => ?_) (fun c8 => ?_)
            · skip
              refine z_iconst dX9_isUnder_60 ?_
              refine z_goto dX9_isUnder_61 (tgt := 65) rfl ?_
              exact z_zret F dX9_isUnder_65 rfl (by omega) (by decide) ⟨congrArg (fun z => some (z_i z)) (by unfold kUn; split <;> omega), rfl⟩
            · skip
              refine z_iload_n dX9_isUnder_48 rfl ?_
              refine z_bipush dX9_isUnder_49 rfl ?_
              refine z_icmp_ne dX9_isUnder_51 (tgt := 64) rfl ⟨by omega, by omega⟩ (by decide) (fun c9 => ?_) (fun c9 => ?_)
              · skip
                refine z_iconst dX9_isUnder_64 ?_
                exact z_zret F dX9_isUnder_65 rfl (by omega) (by decide) ⟨congrArg (fun z => some (z_i z)) (by unfold kUn; split <;> omega), rfl⟩
              · skip
                refine z_iload_n dX9_isUnder_54 rfl ?_
                refine z_bipush dX9_isUnder_55 rfl ?_
                refine z_icmp_ne dX9_isUnder_57 (tgt := 64) rfl ⟨by omega, by omega⟩ (by decide) (fun c10 => ?_) (fun c10 => ?_)
                · skip
                  refine z_iconst dX9_isUnder_64 ?_
                  exact z_zret F dX9_isUnder_65 rfl (by omega) (by decide) ⟨congrArg (fun z => some (z_i z)) (by unfold kUn; split <;> omega), rfl⟩
                · skip
                  refine z_iconst dX9_isUnder_60 ?_
                  refine z_goto dX9_isUnder_61 (tgt := 65) rfl ?_
                  exact z_zret F dX9_isUnder_65 rfl (by omega) (by decide) ⟨congrArg (fun z => some (z_i z)) (by unfold kUn; split <;> omega), rfl⟩
        · skip
          refine z_iload_n dX9_isUnder_25 rfl ?_
          refine z_bipush dX9_isUnder_26 rfl ?_
          refine z_icmp_eq dX9_isUnder_28 (tgt := 60) rfl ⟨by omega, by omega⟩ (by decide) (fun c11 => ?_) (fun c11 => ?_)
          · skip
            refine z_iconst dX9_isUnder_60 ?_
            refine z_goto dX9_isUnder_61 (tgt := 65) rfl ?_
            exact z_zret F dX9_isUnder_65 rfl (by omega) (by decide) ⟨congrArg (fun z => some (z_i z)) (by unfold kUn; split <;> omega), rfl⟩
          · skip
            refine z_iload_n dX9_isUnder_31 rfl ?_
            refine z_bipush dX9_isUnder_32 rfl ?_
            refine z_icmp_eq dX9_isUnder_34 (tgt := 60) rfl ⟨by omega, by omega⟩ (by decide) (fun c12 => ?_) (fun c12 => ?_)
            · skip
              refine z_iconst dX9_isUnder_60 ?_
              refine z_goto dX9_isUnder_61 (tgt := 65) rfl ?_
              exact z_zret F dX9_isUnder_65 rfl (by omega) (by decide) ⟨congrArg (fun z => some (z_i z)) (by unfold kUn; split <;> omega), rfl⟩
            · skip
              refine z_iload_n dX9_isUnder_37 rfl ?_
              refine z_iconst dX9_isUnder_38 ?_
              refine z_icmp_ne dX9_isUnder_39 (tgt := 48) rfl ⟨by omega, by omega⟩ (by decide) (fun c13 => ?_) (fun c13 => ?_)
              · skip
                refine z_iload_n dX9_isUnder_48 rfl ?_
                refine z_bipush dX9_isUnder_49 rfl ?_
                refine z_icmp_ne dX9_isUnder_51 (tgt := 64) rfl ⟨by omega, by omega⟩ (by decide) (fun c14 => ?_) (fun c14 => ?_)
                · skip
                  refine z_iconst dX9_isUnder_64 ?_
                  exact z_zret F dX9_isUnder_65 rfl (by omega) (by decide) ⟨congrArg (fun z => some (z_i z)) (by unfold kUn; split <;> omega), rfl⟩
                · skip
                  refine z_iload_n dX9_isUnder_54 rfl ?_
                  refine z_bipush dX9_isUnder_55 rfl ?_
                  refine z_icmp_ne dX9_isUnder_57 (tgt := 64) rfl ⟨by omega, by omega⟩ (by decide) (fun c15 => ?_) (fun c15 => ?_)
                  · skip
                    refine z_iconst dX9_isUnder_64 ?_
                    exact z_zret F dX9_isUnder_65 rfl (by omega) (by decide) ⟨congrArg (fun z => some (z_i z)) (by unfold kUn; split <;> omega), rfl⟩
                  · skip
                    refine z_iconst dX9_isUnder_60 ?_
                    refine z_goto dX9_isUnder_61 (tgt := 65) rfl ?_
                    exact z_zret F dX9_isUnder_65 rfl (by omega) (by decide) ⟨congrArg (fun z => some (z_i z)) (by unfold kUn; split <;> omega), rfl⟩
              · skip
                refine z_iload_n dX9_isUnder_42 rfl ?_
                refine z_bipush dX9_isUnder_43 rfl ?_
                refine z_icmp_gt dX9_isUnder_45 (tgt := 60) rfl ⟨by omega, by omega⟩ (by decide) (fun c16 => ?_) (fun c16 => ?_)
                · skip
                  refine z_iconst dX9_isUnder_60 ?_
                  refine z_goto dX9_isUnder_61 (tgt := 65) rfl ?_
                  exact z_zret F dX9_isUnder_65 rfl (by omega) (by decide) ⟨congrArg (fun z => some (z_i z)) (by unfold kUn; split <;> omega), rfl⟩
                · skip
                  refine z_iload_n dX9_isUnder_48 rfl ?_
                  refine z_bipush dX9_isUnder_49 rfl ?_
                  refine z_icmp_ne dX9_isUnder_51 (tgt := 64) rfl ⟨by omega, by omega⟩ (by decide) (fun c17 => ?_) (fun c17 => ?_)
                  · skip
                    refine z_iconst dX9_isUnder_64 ?_
                    exact z_zret F dX9_isUnder_65 rfl (by omega) (by decide) ⟨congrArg (fun z => some (z_i z)) (by unfold kUn; split <;> omega), rfl⟩
                  · skip
                    refine z_iload_n dX9_isUnder_54 rfl ?_
                    refine z_bipush dX9_isUnder_55 rfl ?_
                    refine z_icmp_ne dX9_isUnder_57 (tgt := 64) rfl ⟨by omega, by omega⟩ (by decide) (fun c18 => ?_) (fun c18 => ?_)
                    · skip
                      refine z_iconst dX9_isUnder_64 ?_
                      exact z_zret F dX9_isUnder_65 rfl (by omega) (by decide) ⟨congrArg (fun z => some (z_i z)) (by unfold kUn; split <;> omega), rfl⟩
                    · skip
                      refine z_iconst dX9_isUnder_60 ?_
                      refine z_goto dX9_isUnder_61 (tgt := 65) rfl ?_
                      exact z_zret F dX9_isUnder_65 rfl (by omega) (by decide) ⟨congrArg (fun z => some (z_i z)) (by unfold kUn; split <;> omega), rfl⟩
      · skip
        refine z_iload_n dX9_isUnder_14 rfl ?_
        refine z_bipush dX9_isUnder_15 rfl ?_
        refine z_icmp_lt dX9_isUnder_17 (tgt := 60) rfl ⟨by omega, by omega⟩ (by decide) (fun c19 => ?_) (fun c19 => ?_)
        · skip
          refine z_iconst dX9_isUnder_60 ?_
          refine z_goto dX9_isUnder_61 (tgt := 65) rfl ?_
          exact z_zret F dX9_isUnder_65 rfl (by omega) (by decide) ⟨congrArg (fun z => some (z_i z)) (by unfold kUn; split <;> omega), rfl⟩
        · skip
          refine z_iload_n dX9_isUnder_20 rfl ?_
          refine z_iconst dX9_isUnder_21 ?_
          refine z_icmp_ne dX9_isUnder_22 (tgt := 37) rfl ⟨by omega, by omega⟩ (by decide) (fun c20 => ?_) (fun c20 => ?_)
          · skip
            refine z_iload_n dX9_isUnder_37 rfl ?_
            refine z_iconst dX9_isUnder_38 ?_
            refine z_icmp_ne dX9_isUnder_39 (tgt := 48) rfl ⟨by omega, by omega⟩ (by decide) (fun c21 => ?_) (fun c21 => ?_)
            · skip
              refine z_iload_n dX9_isUnder_48 rfl ?_
              refine z_bipush dX9_isUnder_49 rfl ?_
              refine z_icmp_ne dX9_isUnder_51 (tgt := 64) rfl ⟨by omega, by omega⟩ (by decide) (fun c22 => ?_) (fun c22 => ?_)
              · skip
                refine z_iconst dX9_isUnder_64 ?_
                exact z_zret F dX9_isUnder_65 rfl (by omega) (by decide) ⟨congrArg (fun z => some (z_i z)) (by unfold kUn; split <;> omega), rfl⟩
              · skip
                refine z_iload_n dX9_isUnder_54 rfl ?_
                refine z_bipush dX9_isUnder_55 rfl ?_
                refine z_icmp_ne dX9_isUnder_57 (tgt := 64) rfl ⟨by omega, by omega⟩ (by decide) (fun c23 => ?_) (fun c23 => ?_)
                · skip
                  refine z_iconst dX9_isUnder_64 ?_
                  exact z_zret F dX9_isUnder_65 rfl (by omega) (by decide) ⟨congrArg (fun z => some (z_i z)) (by unfold kUn; split <;> omega), rfl⟩
                · skip
                  refine z_iconst dX9_isUnder_60 ?_
                  refine z_goto dX9_isUnder_61 (tgt := 65) rfl ?_
                  exact z_zret F dX9_isUnder_65 rfl (by omega) (by decide) ⟨congrArg (fun z => some (z_i z)) (by unfold kUn; split <;> omega), rfl⟩
            · skip
              refine z_iload_n dX9_isUnder_42 rfl ?_
              refine z_bipush dX9_isUnder_43 rfl ?_
              refine z_icmp_gt dX9_isUnder_45 (tgt := 60) rfl ⟨by omega, by omega⟩ (by decide) (fun c24 => ?_) (fun c24 => ?_)
              · skip
                refine z_iconst dX9_isUnder_60 ?_
                refine z_goto dX9_isUnder_61 (tgt := 65) rfl ?_
                exact z_zret F dX9_isUnder_65 rfl (by omega) (by decide) ⟨congrArg (fun z => some (z_i z)) (by unfold kUn; split <;> omega), rfl⟩
              · skip
                refine z_iload_n dX9_isUnder_48 rfl ?_
                refine z_bipush dX9_isUnder_49 rfl ?_
                refine z_icmp_ne dX9_isUnder_51 (tgt := 64) rfl ⟨by omega, by omega⟩ (by decide) (fun c25 => ?_) (fun c25 => ?_)
                · skip
                  refine z_iconst dX9_isUnder_64 ?_
                  exact z_zret F dX9_isUnder_65 rfl (by omega) (by decide) ⟨congrArg (fun z => some (z_i z)) (by unfold kUn; split <;> omega), rfl⟩
                · skip
                  refine z_iload_n dX9_isUnder_54 rfl ?_
                  refine z_bipush dX9_isUnder_55 rfl ?_
                  refine z_icmp_ne dX9_isUnder_57 (tgt := 64) rfl ⟨by omega, by omega⟩ (by decide) (fun c26 => ?_) (fun c26 => ?_)
                  · skip
                    refine z_iconst dX9_isUnder_64 ?_
                    exact z_zret F dX9_isUnder_65 rfl (by omega) (by decide) ⟨congrArg (fun z => some (z_i z)) (by unfold kUn; split <;> omega), rfl⟩
                  · skip
                    refine z_iconst dX9_isUnder_60 ?_
                    refine z_goto dX9_isUnder_61 (tgt := 65) rfl ?_
                    exact z_zret F dX9_isUnder_65 rfl (by omega) (by decide) ⟨congrArg (fun z => some (z_i z)) (by unfold kUn; split <;> omega), rfl⟩
          · skip
            refine z_iload_n dX9_isUnder_25 rfl ?_
            refine z_bipush dX9_isUnder_26 rfl ?_
            refine z_icmp_eq dX9_isUnder_28 (tgt := 60) rfl ⟨by omega, by omega⟩ (by decide) (fun c27 => ?_) (fun c27 => ?_)
            · skip
              refine z_iconst dX9_isUnder_60 ?_
              refine z_goto dX9_isUnder_61 (tgt := 65) rfl ?_
              exact z_zret F dX9_isUnder_65 rfl (by omega) (by decide) ⟨congrArg (fun z => some (z_i z)) (by unfold kUn; split <;> omega), rfl⟩
            · skip
              refine z_iload_n dX9_isUnder_31 rfl ?_
              refine z_bipush dX9_isUnder_32 rfl ?_
              refine z_icmp_eq dX9_isUnder_34 (tgt := 60) rfl ⟨by omega, by omega⟩ (by decide) (fun c28 => ?_) (fun c28 => ?_)
              · skip
                refine z_iconst dX9_isUnder_60 ?_
                refine z_goto dX9_isUnder_61 (tgt := 65) rfl ?_
                exact z_zret F dX9_isUnder_65 rfl (by omega) (by decide) ⟨congrArg (fun z => some (z_i z)) (by unfold kUn; split <;> omega), rfl⟩
              · skip
                refine z_iload_n dX9_isUnder_37 rfl ?_
                refine z_iconst dX9_isUnder_38 ?_
                refine z_icmp_ne dX9_isUnder_39 (tgt := 48) rfl ⟨by omega, by omega⟩ (by decide) (fun c29 => ?_) (fun c29 => ?_)
                · skip
                  refine z_iload_n dX9_isUnder_48 rfl ?_
                  refine z_bipush dX9_isUnder_49 rfl ?_
                  refine z_icmp_ne dX9_isUnder_51 (tgt := 64) rfl ⟨by omega, by omega⟩ (by decide) (fun c30 => ?_) (fun c30 => ?_)
                  · skip
                    refine z_iconst dX9_isUnder_64 ?_
                    exact z_zret F dX9_isUnder_65 rfl (by omega) (by decide) ⟨congrArg (fun z => some (z_i z)) (by unfold kUn; split <;> omega), rfl⟩
                  · skip
                    refine z_iload_n dX9_isUnder_54 rfl ?_
                    refine z_bipush dX9_isUnder_55 rfl ?_
                    refine z_icmp_ne dX9_isUnder_57 (tgt := 64) rfl ⟨by omega, by omega⟩ (by decide) (fun c31 => ?_) (fun c31 => ?_)
                    · skip
                      refine z_iconst dX9_isUnder_64 ?_
                      exact z_zret F dX9_isUnder_65 rfl (by omega) (by decide) ⟨congrArg (fun z => some (z_i z)) (by unfold kUn; split <;> omega), rfl⟩
                    · skip
                      refine z_iconst dX9_isUnder_60 ?_
                      refine z_goto dX9_isUnder_61 (tgt := 65) rfl ?_
                      exact z_zret F dX9_isUnder_65 rfl (by omega) (by decide) ⟨congrArg (fun z => some (z_i z)) (by unfold kUn; split <;> omega), rfl⟩
                · skip
                  refine z_iload_n dX9_isUnder_42 rfl ?_
                  refine z_bipush dX9_isUnder_43 rfl ?_
                  refine z_icmp_gt dX9_isUnder_45 (tgt := 60) rfl ⟨by omega, by omega⟩ (by decide) (fun c32 => ?_) (fun c32 => ?_)
                  · skip
                    refine z_iconst dX9_isUnder_60 ?_
                    refine z_goto dX9_isUnder_61 (tgt := 65) rfl ?_
                    exact z_zret F dX9_isUnder_65 rfl (by omega) (by decide) ⟨congrArg (fun z => some (z_i z)) (by unfold kUn; split <;> omega), rfl⟩
                  · skip
                    refine z_iload_n dX9_isUnder_48 rfl ?_
                    refine z_bipush dX9_isUnder_49 rfl ?_
                    refine z_icmp_ne dX9_isUnder_51 (tgt := 64) rfl ⟨by omega, by omega⟩ (by decide) (fun c33 => ?_) (fun c33 => ?_)
                    · skip
                      refine z_iconst dX9_isUnder_64 ?_
                      exact z_zret F dX9_isUnder_65 rfl (by omega) (by decide) ⟨congrArg (fun z => some (z_i z)) (by unfold kUn; split <;> omega), rfl⟩
                    · skip
                      refine z_iload_n dX9_isUnder_54 rfl ?_
                      refine z_bipush dX9_isUnder_55 rfl ?_
                      refine z_icmp_ne dX9_isUnder_57 (tgt := 64) rfl ⟨by omega, by omega⟩ (by decide) (fun c34 => ?_) (fun c34 => ?_)
                      · skip
                        refine z_iconst dX9_isUnder_64 ?_
                        exact z_zret F dX9_isUnder_65 rfl (by omega) (by decide) ⟨congrArg (fun z => some (z_i z)) (by unfold kUn; split <;> omega), rfl⟩
                      · skip
                        refine z_iconst dX9_isUnder_60 ?_
                        refine z_goto dX9_isUnder_61 (tgt := 65) rfl ?_
                        exact z_zret F dX9_isUnder_65 rfl (by omega) (by decide) ⟨congrArg (fun z => some (z_i z)) (by unfold kUn; split <;> omega), rfl⟩
set_option maxHeartbeats 4000000 in
set_option maxRecDepth 100000 in
theorem D_X9_kindOf {g : z_G} {h : z_H} {x y : Int} (hx : 97 ≤ x ∧ x ≤ 122) (hy : y = 0 ∨ (97 ≤ y ∧ y ≤ 122)) : z_D g mX9_kindOf 1 0 0 [z_i x, z_i y] h (z_Pi (if y = 0 then kW1 x else kW2 x y) h) := by
  refine z_D.of (by decide +kernel) (Nat.le_of_ble_eq_true rfl) (fun X F => ?_)
  show z_w g X cX9_kindOf RX9 (1, 0, 0) 0 [z_i x, z_i y, z_u] [] h 0 0
  refine z_iload_n dX9_kindOf_0 rfl ?_
  refine z_sipush dX9_kindOf_1 rfl ?_
  refine z_imul dX9_kindOf_4 ?_
  refine z_iload_n dX9_kindOf_5 rfl ?_
  refine z_iadd dX9_kindOf_6 ?_
  refine z_istore_n dX9_kindOf_7 (Nat.le_of_ble_eq_true rfl) rfl ?_
  refine z_iload_n dX9_kindOf_8 rfl ?_
  by_cases c1_25199 : (x * 256) + y = 25199
  · refine z_lookup dX9_kindOf_9 ⟨by omega, by omega⟩ (tgt := 111) (off := 102) (by decide) (by rw [c1_25199]; rfl) rfl ?_
    refine z_bipush dX9_kindOf_111 rfl ?_
    exact z_iret F dX9_kindOf_113 rfl (by decide) ⟨congrArg (fun z => some (z_i z)) (by unfold kW1 kW2; split <;> (repeat (first | rw [if_pos (by omega)] | rw [if_neg (by omega)])) <;> omega), rfl⟩
  by_cases c1_27392 : (x * 256) + y = 27392
  · refine z_lookup dX9_kindOf_9 ⟨by omega, by omega⟩ (tgt := 92) (off := 83) (by decide) (by rw [c1_27392]; rfl) rfl ?_
    refine z_iconst dX9_kindOf_92 ?_
    exact z_iret F dX9_kindOf_93 rfl (by decide) ⟨congrArg (fun z => some (z_i z)) (by unfold kW1 kW2; split <;> (repeat (first | rw [if_pos (by omega)] | rw [if_neg (by omega)])) <;> omega), rfl⟩
  by_cases c1_27508 : (x * 256) + y = 27508
  · refine z_lookup dX9_kindOf_9 ⟨by omega, by omega⟩ (tgt := 105) (off := 96) (by decide) (by rw [c1_27508]; rfl) rfl ?_
    refine z_bipush dX9_kindOf_105 rfl ?_
    exact z_iret F dX9_kindOf_107 rfl (by decide) ⟨congrArg (fun z => some (z_i z)) (by unfold kW1 kW2; split <;> (repeat (first | rw [if_pos (by omega)] | rw [if_neg (by omega)])) <;> omega), rfl⟩
  by_cases c1_27904 : (x * 256) + y = 27904
  · refine z_lookup dX9_kindOf_9 ⟨by omega, by omega⟩ (tgt := 102) (off := 93) (by decide) (by rw [c1_27904]; rfl) rfl ?_
    refine z_bipush dX9_kindOf_102 rfl ?_
    exact z_iret F dX9_kindOf_104 rfl (by decide) ⟨congrArg (fun z => some (z_i z)) (by unfold kW1 kW2; split <;> (repeat (first | rw [if_pos (by omega)] | rw [if_neg (by omega)])) <;> omega), rfl⟩
  by_cases c1_28672 : (x * 256) + y = 28672
  · refine z_lookup dX9_kindOf_9 ⟨by omega, by omega⟩ (tgt := 94) (off := 85) (by decide) (by rw [c1_28672]; rfl) rfl ?_
    refine z_iconst dX9_kindOf_94 ?_
    exact z_iret F dX9_kindOf_95 rfl (by decide) ⟨congrArg (fun z => some (z_i z)) (by unfold kW1 kW2; split <;> (repeat (first | rw [if_pos (by omega)] | rw [if_neg (by omega)])) <;> omega), rfl⟩
  by_cases c1_29540 : (x * 256) + y = 29540
  · refine z_lookup dX9_kindOf_9 ⟨by omega, by omega⟩ (tgt := 114) (off := 105) (by decide) (by rw [c1_29540]; rfl) rfl ?_
    refine z_bipush dX9_kindOf_114 rfl ?_
    exact z_iret F dX9_kindOf_116 rfl (by decide) ⟨congrArg (fun z => some (z_i z)) (by unfold kW1 kW2; split <;> (repeat (first | rw [if_pos (by omega)] | rw [if_neg (by omega)])) <;> omega), rfl⟩
  by_cases c1_29547 : (x * 256) + y = 29547
  · refine z_lookup dX9_kindOf_9 ⟨by omega, by omega⟩ (tgt := 108) (off := 99) (by decide) (by rw [c1_29547]; rfl) rfl ?_
    refine z_bipush dX9_kindOf_108 rfl ?_
    exact z_iret F dX9_kindOf_110 rfl (by decide) ⟨congrArg (fun z => some (z_i z)) (by unfold kW1 kW2; split <;> (repeat (first | rw [if_pos (by omega)] | rw [if_neg (by omega)])) <;> omega), rfl⟩
  by_cases c1_29548 : (x * 256) + y = 29548
  · refine z_lookup dX9_kindOf_9 ⟨by omega, by omega⟩ (tgt := 96) (off := 87) (by decide) (by rw [c1_29548]; rfl) rfl ?_
    refine z_bipush dX9_kindOf_96 rfl ?_
    exact z_iret F dX9_kindOf_98 rfl (by decide) ⟨congrArg (fun z => some (z_i z)) (by unfold kW1 kW2; split <;> (repeat (first | rw [if_pos (by omega)] | rw [if_neg (by omega)])) <;> omega), rfl⟩
  by_cases c1_31087 : (x * 256) + y = 31087
  · refine z_lookup dX9_kindOf_9 ⟨by omega, by omega⟩ (tgt := 99) (off := 90) (by decide) (by rw [c1_31087]; rfl) rfl ?_
    refine z_bipush dX9_kindOf_99 rfl ?_
    exact z_iret F dX9_kindOf_101 rfl (by decide) ⟨congrArg (fun z => some (z_i z)) (by unfold kW1 kW2; split <;> (repeat (first | rw [if_pos (by omega)] | rw [if_neg (by omega)])) <;> omega), rfl⟩
  refine z_lookup dX9_kindOf_9 ⟨by omega, by omega⟩ (tgt := 117) (off := 108) (by decide) (by simp [Op.lookupswitch.offset, Ne.symm c1_25199, Ne.symm c1_27392, Ne.symm c1_27508, Ne.symm c1_27904, Ne.symm c1_28672, Ne.symm c1_29540, Ne.symm c1_29547, Ne.symm c1_29548, Ne.symm c1_31087]) rfl ?_
  refine z_iconst dX9_kindOf_117 ?_
  exact z_iret F dX9_kindOf_118 rfl (by decide) ⟨congrArg (fun z => some (z_i z)) (by unfold kW1 kW2; split <;> (repeat (first | rw [if_pos (by omega)] | rw [if_neg (by omega)])) <;> omega), rfl⟩
def kL0 (k : Int) : Int := if k = 4 ∨ k = 9 then 107 else if k = 5 then 112 else if k = 6 ∨ k = 10 ∨ k = 12 then 115 else if k = 7 then 121 else if k = 8 then 109 else 98
def kL1 (k : Int) : Int := if k = 6 then 108 else if k = 7 ∨ k = 11 then 111 else if k = 9 then 116 else if k = 10 then 107 else if k = 12 then 100 else 0
theorem kO_1 {t : Nat → Int} {a e : Nat} (h : e = a + 1) : kO t a e = kW1 (t a) := if_pos h
theorem kO_2 {t : Nat → Int} {a e : Nat} (h : e = a + 2) : kO t a e = kW2 (t a) (t (a + 1)) := by
  unfold kO
  rw [if_neg (by omega), if_pos h]
theorem kO_n {t : Nat → Int} {a e : Nat} (h1 : e ≠ a + 1) (h2 : e ≠ a + 2) : kO t a e = -1 := by
  unfold kO
  rw [if_neg h1, if_neg h2]
set_option maxHeartbeats 4000000 in
set_option maxRecDepth 100000 in
theorem D_X9_letter {g : z_G} {h : z_H} {a q : Int} (ha : z_in a) (hq : q = 0 ∨ q = 1) : z_D g mX9_letter 1 0 0 [z_i a, z_i q] h (z_Pi (if q = 0 then kL0 a else kL1 a) h) := by
  refine z_D.of (by decide +kernel) (Nat.le_of_ble_eq_true rfl) (fun X F => ?_)
  show z_w g X cX9_letter RX9 (1, 0, 0) 0 [z_i a, z_i q, z_u, z_u] [] h 0 0
  have K2 : ∀ y : z_V, z_w g X cX9_letter RX9 (1, 0, 0) 74 [z_i a, z_i q, z_i (kL0 a), y] [] h 0 0 := by
    intro y
    have K1 : z_w g X cX9_letter RX9 (1, 0, 0) 137 [z_i a, z_i q, z_i (kL0 a), z_i (kL1 a)] [] h 0 0 := by
      refine z_iload_n dX9_letter_137 rfl ?_
      refine z_if_ne dX9_letter_138 (tgt := 145) rfl ⟨by omega, by omega⟩ (fun c1 => ?_) (fun c1 => ?_)
      · skip
        refine z_iload_n dX9_letter_145 rfl ?_
        exact z_iret F dX9_letter_146 rfl (by decide) ⟨congrArg (fun z => some (z_i z)) ((if_neg (by omega)).symm), rfl⟩
      · skip
        refine z_iload_n dX9_letter_141 rfl ?_
        refine z_goto dX9_letter_142 (tgt := 146) rfl ?_
        exact z_iret F dX9_letter_146 rfl (by decide) ⟨congrArg (fun z => some (z_i z)) ((if_pos (by omega)).symm), rfl⟩
    refine z_iload_n dX9_letter_74 rfl ?_
    refine z_bipush dX9_letter_75 rfl ?_
    refine z_icmp_ne dX9_letter_77 (tgt := 85) rfl ⟨by omega, by omega⟩ (by decide) (fun c2 => ?_) (fun c2 => ?_)
    · skip
      refine z_iload_n dX9_letter_85 rfl ?_
      refine z_bipush dX9_letter_86 rfl ?_
      refine z_icmp_eq dX9_letter_88 (tgt := 97) rfl ⟨by omega, by omega⟩ (by decide) (fun c3 => ?_) (fun c3 => ?_)
      · skip
        refine z_bipush dX9_letter_97 rfl ?_
        refine z_goto dX9_letter_99 (tgt := 136) rfl ?_
        refine z_ieq (y := kL1 a) (by unfold kL1; repeat (first | rw [if_pos (by omega)] | rw [if_neg (by omega)])) ?_
        refine z_istore_n dX9_letter_136 (Nat.le_of_ble_eq_true rfl) rfl ?_
        exact K1
      · skip
        refine z_iload_n dX9_letter_91 rfl ?_
        refine z_bipush dX9_letter_92 rfl ?_
        refine z_icmp_ne dX9_letter_94 (tgt := 102) rfl ⟨by omega, by omega⟩ (by decide) (fun c4 => ?_) (fun c4 => ?_)
        · skip
          refine z_iload_n dX9_letter_102 rfl ?_
          refine z_bipush dX9_letter_103 rfl ?_
          refine z_icmp_ne dX9_letter_105 (tgt := 113) rfl ⟨by omega, by omega⟩ (by decide) (fun c5 => ?_) (fun c5 => ?_)
          · skip
            refine z_iload_n dX9_letter_113 rfl ?_
            refine z_bipush dX9_letter_114 rfl ?_
            refine z_icmp_ne dX9_letter_116 (tgt := 124) rfl ⟨by omega, by omega⟩ (by decide) (fun c6 => ?_) (fun c6 => ?_)
            · skip
              refine z_iload_n dX9_letter_124 rfl ?_
              refine z_bipush dX9_letter_125 rfl ?_
              refine z_icmp_ne dX9_letter_127 (tgt := 135) rfl ⟨by omega, by omega⟩ (by decide) (fun c7 => ?_) (fun c7 => ?_)
              · skip
                refine z_iconst dX9_letter_135 ?_
                refine z_ieq (y := kL1 a) (by unfold kL1; repeat (first | rw [if_pos (by omega)] | rw [if_neg (by omega)])) ?_
                refine z_istore_n dX9_letter_136 (Nat.le_of_ble_eq_true rfl) rfl ?_
                exact K1
              · skip
                refine z_bipush dX9_letter_130 rfl ?_
                refine z_goto dX9_letter_132 (tgt := 136) rfl ?_
                refine z_ieq (y := kL1 a) (by unfold kL1; repeat (first | rw [if_pos (by omega)] | rw [if_neg (by omega)])) ?_
                refine z_istore_n dX9_letter_136 (Nat.le_of_ble_eq_true rfl) rfl ?_
                exact K1
            · skip
              refine z_bipush dX9_letter_119 rfl ?_
              refine z_goto dX9_letter_121 (tgt := 136) rfl ?_
              refine z_ieq (y := kL1 a) (by unfold kL1; repeat (first | rw [if_pos (by omega)] | rw [if_neg (by omega)])) ?_
              refine z_istore_n dX9_letter_136 (Nat.le_of_ble_eq_true rfl) rfl ?_
              exact K1
          · skip
            refine z_bipush dX9_letter_108 rfl ?_
            refine z_goto dX9_letter_110 (tgt := 136) rfl ?_
            refine z_ieq (y := kL1 a) (by unfold kL1; repeat (first | rw [if_pos (by omega)] | rw [if_neg (by omega)])) ?_
            refine z_istore_n dX9_letter_136 (Nat.le_of_ble_eq_true rfl) rfl ?_
            exact K1
        · skip
          refine z_bipush dX9_letter_97 rfl ?_
          refine z_goto dX9_letter_99 (tgt := 136) rfl ?_
          refine z_ieq (y := kL1 a) (by unfold kL1; repeat (first | rw [if_pos (by omega)] | rw [if_neg (by omega)])) ?_
          refine z_istore_n dX9_letter_136 (Nat.le_of_ble_eq_true rfl) rfl ?_
          exact K1
    · skip
      refine z_bipush dX9_letter_80 rfl ?_
      refine z_goto dX9_letter_82 (tgt := 136) rfl ?_
      refine z_ieq (y := kL1 a) (by unfold kL1; repeat (first | rw [if_pos (by omega)] | rw [if_neg (by omega)])) ?_
      refine z_istore_n dX9_letter_136 (Nat.le_of_ble_eq_true rfl) rfl ?_
      exact K1
  refine z_iload_n dX9_letter_0 rfl ?_
  refine z_iconst dX9_letter_1 ?_
  refine z_icmp_eq dX9_letter_2 (tgt := 11) rfl ⟨by omega, by omega⟩ (by decide) (fun c8 => ?_) (fun c8 => ?_)
  · skip
    refine z_bipush dX9_letter_11 rfl ?_
    refine z_goto dX9_letter_13 (tgt := 73) rfl ?_
    refine z_ieq (y := kL0 a) (by unfold kL0; repeat (first | rw [if_pos (by omega)] | rw [if_neg (by omega)])) ?_
    refine z_istore_n dX9_letter_73 (Nat.le_of_ble_eq_true rfl) rfl ?_
    exact K2 _
  · skip
    refine z_iload_n dX9_letter_5 rfl ?_
    refine z_bipush dX9_letter_6 rfl ?_
    refine z_icmp_ne dX9_letter_8 (tgt := 16) rfl ⟨by omega, by omega⟩ (by decide) (fun c9 => ?_) (fun c9 => ?_)
    · skip
      refine z_iload_n dX9_letter_16 rfl ?_
      refine z_iconst dX9_letter_17 ?_
      refine z_icmp_ne dX9_letter_18 (tgt := 26) rfl ⟨by omega, by omega⟩ (by decide) (fun c10 => ?_) (fun c10 => ?_)
      · skip
        refine z_iload_n dX9_letter_26 rfl ?_
        refine z_bipush dX9_letter_27 rfl ?_
        refine z_icmp_eq dX9_letter_29 (tgt := 44) rfl ⟨by omega, by omega⟩ (by decide) (fun c11 => ?_) (fun c11 => ?_)
        · skip
          refine z_bipush dX9_letter_44 rfl ?_
          refine z_goto dX9_letter_46 (tgt := 73) rfl ?_
          refine z_ieq (y := kL0 a) (by unfold kL0; repeat (first | rw [if_pos (by omega)] | rw [if_neg (by omega)])) ?_
          refine z_istore_n dX9_letter_73 (Nat.le_of_ble_eq_true rfl) rfl ?_
          exact K2 _
        · skip
          refine z_iload_n dX9_letter_32 rfl ?_
          refine z_bipush dX9_letter_33 rfl ?_
          refine z_icmp_eq dX9_letter_35 (tgt := 44) rfl ⟨by omega, by omega⟩ (by decide) (fun c12 => ?_) (fun c12 => ?_)
          · skip
            refine z_bipush dX9_letter_44 rfl ?_
            refine z_goto dX9_letter_46 (tgt := 73) rfl ?_
            refine z_ieq (y := kL0 a) (by unfold kL0; repeat (first | rw [if_pos (by omega)] | rw [if_neg (by omega)])) ?_
            refine z_istore_n dX9_letter_73 (Nat.le_of_ble_eq_true rfl) rfl ?_
            exact K2 _
          · skip
            refine z_iload_n dX9_letter_38 rfl ?_
            refine z_bipush dX9_letter_39 rfl ?_
            refine z_icmp_ne dX9_letter_41 (tgt := 49) rfl ⟨by omega, by omega⟩ (by decide) (fun c13 => ?_) (fun c13 => ?_)
            · skip
              refine z_iload_n dX9_letter_49 rfl ?_
              refine z_bipush dX9_letter_50 rfl ?_
              refine z_icmp_ne dX9_letter_52 (tgt := 60) rfl ⟨by omega, by omega⟩ (by decide) (fun c14 => ?_) (fun c14 => ?_)
              · skip
                refine z_iload_n dX9_letter_60 rfl ?_
                refine z_bipush dX9_letter_61 rfl ?_
                refine z_icmp_ne dX9_letter_63 (tgt := 71) rfl ⟨by omega, by omega⟩ (by decide) (fun c15 => ?_) (fun c15 => ?_)
                · skip
                  refine z_bipush dX9_letter_71 rfl ?_
                  refine z_ieq (y := kL0 a) (by unfold kL0; repeat (first | rw [if_pos (by omega)] | rw [if_neg (by omega)])) ?_
                  refine z_istore_n dX9_letter_73 (Nat.le_of_ble_eq_true rfl) rfl ?_
                  exact K2 _
                · skip
                  refine z_bipush dX9_letter_66 rfl ?_
                  refine z_goto dX9_letter_68 (tgt := 73) rfl ?_
                  refine z_ieq (y := kL0 a) (by unfold kL0; repeat (first | rw [if_pos (by omega)] | rw [if_neg (by omega)])) ?_
                  refine z_istore_n dX9_letter_73 (Nat.le_of_ble_eq_true rfl) rfl ?_
                  exact K2 _
              · skip
                refine z_bipush dX9_letter_55 rfl ?_
                refine z_goto dX9_letter_57 (tgt := 73) rfl ?_
                refine z_ieq (y := kL0 a) (by unfold kL0; repeat (first | rw [if_pos (by omega)] | rw [if_neg (by omega)])) ?_
                refine z_istore_n dX9_letter_73 (Nat.le_of_ble_eq_true rfl) rfl ?_
                exact K2 _
            · skip
              refine z_bipush dX9_letter_44 rfl ?_
              refine z_goto dX9_letter_46 (tgt := 73) rfl ?_
              refine z_ieq (y := kL0 a) (by unfold kL0; repeat (first | rw [if_pos (by omega)] | rw [if_neg (by omega)])) ?_
              refine z_istore_n dX9_letter_73 (Nat.le_of_ble_eq_true rfl) rfl ?_
              exact K2 _
      · skip
        refine z_bipush dX9_letter_21 rfl ?_
        refine z_goto dX9_letter_23 (tgt := 73) rfl ?_
        refine z_ieq (y := kL0 a) (by unfold kL0; repeat (first | rw [if_pos (by omega)] | rw [if_neg (by omega)])) ?_
        refine z_istore_n dX9_letter_73 (Nat.le_of_ble_eq_true rfl) rfl ?_
        exact K2 _
    · skip
      refine z_bipush dX9_letter_11 rfl ?_
      refine z_goto dX9_letter_13 (tgt := 73) rfl ?_
      refine z_ieq (y := kL0 a) (by unfold kL0; repeat (first | rw [if_pos (by omega)] | rw [if_neg (by omega)])) ?_
      refine z_istore_n dX9_letter_73 (Nat.le_of_ble_eq_true rfl) rfl ?_
      exact K2 _
set_option maxHeartbeats 4000000 in
set_option maxRecDepth 100000 in
theorem D_X9_word {g : z_G} {h0 : z_H} {A : Nat → Nat} (hM : mD A) {Rf Nw Th Tp Tx Kd Ia It Lk Ho Sz Im Mv : Nat → Int} {kp ln we pa de ti lf md mn hi ha is_ ca : Int} {n j : Nat} (hn : n ≤ 250) (hj : j ≤ n) (ht : ∀ q, q < n → 0 ≤ Tx q ∧ Tx q ≤ 255) : z_D g mX9_word 3 0 0 [z_r (A 0)] (MH h0 A Rf Nw Th Tp Tx Kd Ia It Lk Ho Sz Im Mv kp ln (n : Int) (j : Int) we pa de ti lf md mn hi ha is_ ca) (fun rv h' => rv = some (z_i (kO Tx j (wEnd n Tx j))) ∧ ((kOk (kO Tx j (wEnd n Tx j)) ∧ h' = (MH h0 A Rf Nw Th Tp Tx Kd Ia It Lk Ho Sz Im Mv kp ln (n : Int) ((wEnd n Tx j : Nat) : Int) we pa de ti lf md mn hi ha is_ ca)) ∨ (kO Tx j (wEnd n Tx j) = -1 ∧ h' = (MH h0 A Rf Nw Th Tp Tx Kd Ia It Lk Ho Sz Im Mv kp ln (n : Int) (j : Int) 0 pa de ti lf md mn hi ha is_ ca)))) := by
  refine z_D.of (by decide +kernel) (Nat.le_of_ble_eq_true rfl) (fun X F => ?_)
  show z_w g X cX9_word RX9 (3, 0, 0) 0 [z_r (A 0), z_u, z_u, z_u] [] (MH h0 A Rf Nw Th Tp Tx Kd Ia It Lk Ho Sz Im Mv kp ln (n : Int) (j : Int) we pa de ti lf md mn hi ha is_ ca) 0 0
  refine z_aload_n dX9_word_0 rfl ?_
  refine gf_X9_67 dX9_word_1 MH_0 rfl ?_
  refine z_istore_n dX9_word_4 (Nat.le_of_ble_eq_true rfl) rfl ?_
  have L4 : ∀ (fu : Nat) (i : Nat) (h5x : j ≤ i ∧ i ≤ n) (h9 : wEnd n Tx i = wEnd n Tx j), n - i < fu → z_w g X cX9_word RX9 (3, 0, 0) 5 [z_r (A 0), z_i (j : Int), z_u, z_u] [] (MH h0 A Rf Nw Th Tp Tx Kd Ia It Lk Ho Sz Im Mv kp ln (n : Int) (i : Int) we pa de ti lf md mn hi ha is_ ca) 0 0 := by
    intro fu
    induction fu with
    | zero => intro i h5x h9 hm; exact absurd hm (Nat.not_lt_zero _)
    | succ fu ih =>
      intro i h5x h9 hm
      refine z_aload_n dX9_word_5 rfl ?_
      refine cs_X9_77 dX9_word_6 (D_X9_peek hM (j := i) hn (by omega) rfl rfl) MH_0 rfl rfl (Nat.le_of_ble_eq_true rfl) (by decide) (z_ki ?_)
      have b0 := pe_b ht i
      refine z_i2l dX9_word_9 ⟨by omega, by omega⟩ ?_
      refine z_ldc2 dX9_word_10 lw_X9_89 ?_
      refine z_ldc2 dX9_word_13 lw_X9_91 ?_
      refine cs_X9_56 dX9_word_16 (D_X9_isIn (v := pe n Tx i) (lo := 97) (hi := 122) ⟨by omega, by omega⟩ (by decide) (by decide)) rfl rfl (Nat.le_of_ble_eq_true rfl) (by decide) (z_ki ?_)
      refine z_if_eq dX9_word_19 (tgt := 35) rfl ⟨by split <;> omega, by split <;> omega⟩ (fun c1 => ?_) (fun c1 => ?_)
      · skip
        have nl : ¬ isLt (pe n Tx i) := by omega
        have hE : wEnd n Tx j = i := by rw [← h9, wEnd_0 nl]
        have h4 := wE_let n Tx (n - j) j
        refine z_aload_n dX9_word_35 rfl ?_
        refine gf_X9_67 dX9_word_36 MH_0 rfl ?_
        refine z_iload_n dX9_word_39 rfl ?_
        refine z_isub dX9_word_40 ?_
        refine z_istore_n dX9_word_41 (Nat.le_of_ble_eq_true rfl) rfl ?_
        refine z_iload_n dX9_word_42 rfl ?_
        refine z_iconst dX9_word_43 ?_
        refine z_icmp_lt dX9_word_44 (tgt := 52) rfl ⟨by omega, by omega⟩ (by decide) (fun c2 => ?_) (fun c2 => ?_)
        · skip
          refine z_iconst dX9_word_52 ?_
          refine z_goto dX9_word_53 (tgt := 82) rfl ?_
          refine z_ieq (y := kO Tx j i) ((kO_n (by omega) (by omega)).symm) ?_
          have hk := kO_in (t := Tx) (x := j) (y := i)
          have hkb : -1 ≤ kO Tx j i ∧ kO Tx j i ≤ 12 := by rcases hk with q | q; omega; have := q.1; have := q.2; omega
          refine z_istore_n dX9_word_82 (Nat.le_of_ble_eq_true rfl) rfl ?_
          refine z_iload_n dX9_word_83 rfl ?_
          refine z_if_ge dX9_word_84 (tgt := 97) rfl ⟨by omega, by omega⟩ (fun c3 => ?_) (fun c3 => ?_)
          · skip
            have ok := hk.resolve_left (fun q => by omega)
            refine z_iload_n dX9_word_97 rfl ?_
            exact z_iret F dX9_word_98 rfl (by decide) ⟨by rw [hE], by rw [hE]; exact Or.inl ⟨ok, rfl⟩⟩
          · skip
            have ok : kO Tx j i = -1 := hk.resolve_right (fun q => by have := q.1; omega)
            refine z_aload_n dX9_word_87 rfl ?_
            refine z_iload_n dX9_word_88 rfl ?_
            refine pf_X9_67 dX9_word_89 MH_0 (Nat.le_of_ble_eq_true rfl) ?_
            refine z_heq MHu_0 ?_
            refine z_aload_n dX9_word_92 rfl ?_
            refine z_iconst dX9_word_93 ?_
            refine pf_X9_85 (by omega) dX9_word_94 MH_0 (Nat.le_of_ble_eq_true rfl) ?_
            refine z_heq MHu_0 ?_
            refine z_iload_n dX9_word_97 rfl ?_
            exact z_iret F dX9_word_98 rfl (by decide) ⟨by rw [hE], by rw [hE]; exact Or.inr ⟨ok, rfl⟩⟩
        · skip
          refine z_iload_n dX9_word_47 rfl ?_
          refine z_iconst dX9_word_48 ?_
          refine z_icmp_le dX9_word_49 (tgt := 56) rfl ⟨by omega, by omega⟩ (by decide) (fun c4 => ?_) (fun c4 => ?_)
          · skip
            have l0 := h4 j (Nat.le_refl _) (by show j < wEnd n Tx j; omega)
            rw [pe_in (by omega)] at l0
            refine z_aload_n dX9_word_56 rfl ?_
            refine gf_X9_22 dX9_word_57 MH_0 rfl ?_
            refine z_iload_n dX9_word_60 rfl ?_
            refine z_iald dX9_word_61 (MH_5 hM) ⟨by omega, by omega, by omega⟩ ?_
            refine z_ieq (y := Tx j) (congrArg Tx (by omega)) ?_
            refine z_iload_n dX9_word_62 rfl ?_
            refine z_iconst dX9_word_63 ?_
            refine z_icmp_ne dX9_word_64 (tgt := 78) rfl ⟨by omega, by omega⟩ (by decide) (fun c5 => ?_) (fun c5 => ?_)
            · skip
              refine z_iconst dX9_word_78 ?_
              refine cs_X9_93 dX9_word_79 (D_X9_kindOf (x := Tx j) (y := 0) l0 (Or.inl rfl)) rfl rfl (Nat.le_of_ble_eq_true rfl) (by decide) (z_ki ?_)
              refine z_ieq (y := kO Tx j i) (by rw [kO_1 (by omega)]; rfl) ?_
              have hk := kO_in (t := Tx) (x := j) (y := i)
              have hkb : -1 ≤ kO Tx j i ∧ kO Tx j i ≤ 12 := by rcases hk with q | q; omega; have := q.1; have := q.2; omega
              refine z_istore_n dX9_word_82 (Nat.le_of_ble_eq_true rfl) rfl ?_
              refine z_iload_n dX9_word_83 rfl ?_
              refine z_if_ge dX9_word_84 (tgt := 97) rfl ⟨by omega, by omega⟩ (fun c6 => ?_) (fun c6 => ?_)
              · skip
                have ok := hk.resolve_left (fun q => by omega)
                refine z_iload_n dX9_word_97 rfl ?_
                exact z_iret F dX9_word_98 rfl (by decide) ⟨by rw [hE], by rw [hE]; exact Or.inl ⟨ok, rfl⟩⟩
              · skip
                have ok : kO Tx j i = -1 := hk.resolve_right (fun q => by have := q.1; omega)
                refine z_aload_n dX9_word_87 rfl ?_
                refine z_iload_n dX9_word_88 rfl ?_
                refine pf_X9_67 dX9_word_89 MH_0 (Nat.le_of_ble_eq_true rfl) ?_
                refine z_heq MHu_0 ?_
                refine z_aload_n dX9_word_92 rfl ?_
                refine z_iconst dX9_word_93 ?_
                refine pf_X9_85 (by omega) dX9_word_94 MH_0 (Nat.le_of_ble_eq_true rfl) ?_
                refine z_heq MHu_0 ?_
                refine z_iload_n dX9_word_97 rfl ?_
                exact z_iret F dX9_word_98 rfl (by decide) ⟨by rw [hE], by rw [hE]; exact Or.inr ⟨ok, rfl⟩⟩
            · skip
              have l1 := h4 (j + 1) (by omega) (by show j + 1 < wEnd n Tx j; omega)
              rw [pe_in (by omega)] at l1
              refine z_aload_n dX9_word_67 rfl ?_
              refine gf_X9_22 dX9_word_68 MH_0 rfl ?_
              refine z_iload_n dX9_word_71 rfl ?_
              refine z_iconst dX9_word_72 ?_
              refine z_iadd dX9_word_73 ?_
              refine z_iald dX9_word_74 (MH_5 hM) ⟨by omega, by omega, by omega⟩ ?_
              refine z_ieq (y := Tx (j + 1)) (congrArg Tx (by omega)) ?_
              refine z_goto dX9_word_75 (tgt := 79) rfl ?_
              refine cs_X9_93 dX9_word_79 (D_X9_kindOf (x := Tx j) (y := Tx (j + 1)) l0 (Or.inr l1)) rfl rfl (Nat.le_of_ble_eq_true rfl) (by decide) (z_ki ?_)
              refine z_ieq (y := kO Tx j i) (by rw [kO_2 (by omega), if_neg (show ¬ Tx (j + 1) = 0 by omega)]) ?_
              have hk := kO_in (t := Tx) (x := j) (y := i)
              have hkb : -1 ≤ kO Tx j i ∧ kO Tx j i ≤ 12 := by rcases hk with q | q; omega; have := q.1; have := q.2; omega
              refine z_istore_n dX9_word_82 (Nat.le_of_ble_eq_true rfl) rfl ?_
              refine z_iload_n dX9_word_83 rfl ?_
              refine z_if_ge dX9_word_84 (tgt := 97) rfl ⟨by omega, by omega⟩ (fun c7 => ?_) (fun c7 => ?_)
              · skip
                have ok := hk.resolve_left (fun q => by omega)
                refine z_iload_n dX9_word_97 rfl ?_
                exact z_iret F dX9_word_98 rfl (by decide) ⟨by rw [hE], by rw [hE]; exact Or.inl ⟨ok, rfl⟩⟩
              · skip
                have ok : kO Tx j i = -1 := hk.resolve_right (fun q => by have := q.1; omega)
                refine z_aload_n dX9_word_87 rfl ?_
                refine z_iload_n dX9_word_88 rfl ?_
                refine pf_X9_67 dX9_word_89 MH_0 (Nat.le_of_ble_eq_true rfl) ?_
                refine z_heq MHu_0 ?_
                refine z_aload_n dX9_word_92 rfl ?_
                refine z_iconst dX9_word_93 ?_
                refine pf_X9_85 (by omega) dX9_word_94 MH_0 (Nat.le_of_ble_eq_true rfl) ?_
                refine z_heq MHu_0 ?_
                refine z_iload_n dX9_word_97 rfl ?_
                exact z_iret F dX9_word_98 rfl (by decide) ⟨by rw [hE], by rw [hE]; exact Or.inr ⟨ok, rfl⟩⟩
          · skip
            refine z_iconst dX9_word_52 ?_
            refine z_goto dX9_word_53 (tgt := 82) rfl ?_
            refine z_ieq (y := kO Tx j i) ((kO_n (by omega) (by omega)).symm) ?_
            have hk := kO_in (t := Tx) (x := j) (y := i)
            have hkb : -1 ≤ kO Tx j i ∧ kO Tx j i ≤ 12 := by rcases hk with q | q; omega; have := q.1; have := q.2; omega
            refine z_istore_n dX9_word_82 (Nat.le_of_ble_eq_true rfl) rfl ?_
            refine z_iload_n dX9_word_83 rfl ?_
            refine z_if_ge dX9_word_84 (tgt := 97) rfl ⟨by omega, by omega⟩ (fun c8 => ?_) (fun c8 => ?_)
            · skip
              have ok := hk.resolve_left (fun q => by omega)
              refine z_iload_n dX9_word_97 rfl ?_
              exact z_iret F dX9_word_98 rfl (by decide) ⟨by rw [hE], by rw [hE]; exact Or.inl ⟨ok, rfl⟩⟩
            · skip
              have ok : kO Tx j i = -1 := hk.resolve_right (fun q => by have := q.1; omega)
              refine z_aload_n dX9_word_87 rfl ?_
              refine z_iload_n dX9_word_88 rfl ?_
              refine pf_X9_67 dX9_word_89 MH_0 (Nat.le_of_ble_eq_true rfl) ?_
              refine z_heq MHu_0 ?_
              refine z_aload_n dX9_word_92 rfl ?_
              refine z_iconst dX9_word_93 ?_
              refine pf_X9_85 (by omega) dX9_word_94 MH_0 (Nat.le_of_ble_eq_true rfl) ?_
              refine z_heq MHu_0 ?_
              refine z_iload_n dX9_word_97 rfl ?_
              exact z_iret F dX9_word_98 rfl (by decide) ⟨by rw [hE], by rw [hE]; exact Or.inr ⟨ok, rfl⟩⟩
      · skip
        have il : isLt (pe n Tx i) := by omega
        have hin := pe_lt (n := n) (t := Tx) (a := i) (by omega)
        refine z_aload_n dX9_word_22 rfl ?_
        refine z_dup dX9_word_23 rfl ?_
        refine gf_X9_67 dX9_word_24 MH_0 rfl ?_
        refine z_iconst dX9_word_27 ?_
        refine z_iadd dX9_word_28 ?_
        refine pf_X9_67 dX9_word_29 MH_0 (Nat.le_of_ble_eq_true rfl) ?_
        refine z_heq MHu_0 ?_
        refine z_goto dX9_word_32 (tgt := 5) rfl ?_
        exact ih (i + 1) (by omega) ((wEnd_s il).symm.trans h9) (by omega)
  exact L4 (n + 1) j ⟨Nat.le_refl _, by omega⟩ rfl (by omega)
