/-! the reference: what reads the text -/
set_option maxHeartbeats 4000000 in
set_option maxRecDepth 100000 in
theorem D_X9_peek {g : z_G} {h0 : z_H} {A : Nat → Nat} (hM : mD A) {Rf Nw Th Tp Tx Kd Ia It Lk Ho Sz Im Mv : Nat → Int} {kp ln sz at_ we pa de ti lf md mn hi ha is_ ca : Int} {n j : Nat} (hn : n ≤ 250) (hj : j < 1000) (hs : sz = (n : Int)) (ha9 : at_ = (j : Int)) : z_D g mX9_peek 1 0 0 [z_r (A 0)] (MH h0 A Rf Nw Th Tp Tx Kd Ia It Lk Ho Sz Im Mv kp ln sz at_ we pa de ti lf md mn hi ha is_ ca) (z_Pi (pe n Tx j) (MH h0 A Rf Nw Th Tp Tx Kd Ia It Lk Ho Sz Im Mv kp ln sz at_ we pa de ti lf md mn hi ha is_ ca)) := by
  refine z_D.of (by decide +kernel) (Nat.le_of_ble_eq_true rfl) (fun X F => ?_)
  show z_w g X cX9_peek RX9 (1, 0, 0) 0 [z_r (A 0)] [] (MH h0 A Rf Nw Th Tp Tx Kd Ia It Lk Ho Sz Im Mv kp ln sz at_ we pa de ti lf md mn hi ha is_ ca) 0 0
  refine z_aload_n dX9_peek_0 rfl ?_
  refine gf_X9_67 dX9_peek_1 MH_0 rfl ?_
  refine z_aload_n dX9_peek_4 rfl ?_
  refine gf_X9_70 dX9_peek_5 MH_0 rfl ?_
  refine z_icmp_ge dX9_peek_8 (tgt := 23) rfl ⟨by omega, by omega⟩ ⟨by omega, by omega⟩ (fun c1 => ?_) (fun c1 => ?_)
  · skip
    refine z_iconst dX9_peek_23 ?_
    exact z_iret F dX9_peek_24 rfl (by decide) ⟨congrArg (fun z => some (z_i z)) (by subst ha9; unfold pe; first | rw [if_pos (by omega)] <;> rfl | rw [if_neg (by omega)]), rfl⟩
  · skip
    refine z_aload_n dX9_peek_11 rfl ?_
    refine gf_X9_22 dX9_peek_12 MH_0 rfl ?_
    refine z_aload_n dX9_peek_15 rfl ?_
    refine gf_X9_67 dX9_peek_16 MH_0 rfl ?_
    refine z_iald dX9_peek_19 (MH_5 hM) ⟨by omega, by omega, by omega⟩ ?_
    refine z_goto dX9_peek_20 (tgt := 24) rfl ?_
    exact z_iret F dX9_peek_24 rfl (by decide) ⟨congrArg (fun z => some (z_i z)) (by subst ha9; unfold pe; first | rw [if_pos (by omega)] <;> rfl | rw [if_neg (by omega)]), rfl⟩
set_option maxHeartbeats 2000000 in
set_option maxRecDepth 100000 in
theorem D_X9_number {g : z_G} {h0 : z_H} {A : Nat → Nat} (hM : mD A) {Rf Nw Th Tp Tx Kd Ia It Lk Ho Sz Im Mv : Nat → Int} {kp ln sz at_ we pa de ti lf md mn hi ha is_ ca : Int} {n j : Nat} (hn : n ≤ 250) (hj : j ≤ n) (ht : ∀ q, q < n → 0 ≤ Tx q ∧ Tx q ≤ 255) {lo : Int} (hlo : lo = 0 ∨ lo = 1) : z_D g mX9_number 3 0 0 [z_r (A 0), z_i lo, z_i 60] (MH h0 A Rf Nw Th Tp Tx Kd Ia It Lk Ho Sz Im Mv kp ln (n : Int) (j : Int) we pa de ti lf md mn hi ha is_ ca) (fun rv h' => rv = some (z_i (nV n Tx j)) ∧ ((nOk n Tx lo j ∧ h' = (MH h0 A Rf Nw Th Tp Tx Kd Ia It Lk Ho Sz Im Mv kp ln (n : Int) ((j + nC n Tx j : Nat) : Int) we pa de ti lf md mn hi ha is_ ca)) ∨ (¬ nOk n Tx lo j ∧ h' = (MH h0 A Rf Nw Th Tp Tx Kd Ia It Lk Ho Sz Im Mv kp ln (n : Int) (j : Int) 0 pa de ti lf md mn hi ha is_ ca)))) := by
  refine z_D.of (by decide +kernel) (Nat.le_of_ble_eq_true rfl) (fun X F => ?_)
  have b0 := pe_b ht j
  have b1 := pe_b ht (j + 1)
  show z_w g X cX9_number RX9 (3, 0, 0) 0 [z_r (A 0), z_i lo, z_i 60, z_u, z_u, z_u] [] (MH h0 A Rf Nw Th Tp Tx Kd Ia It Lk Ho Sz Im Mv kp ln (n : Int) (j : Int) we pa de ti lf md mn hi ha is_ ca) 0 0
  refine z_aload_n dX9_number_0 rfl ?_
  refine gf_X9_67 dX9_number_1 MH_0 rfl ?_
  refine z_istore_n dX9_number_4 (Nat.le_of_ble_eq_true rfl) rfl ?_
  refine z_iconst dX9_number_5 ?_
  refine z_istore dX9_number_6 (Nat.le_of_ble_eq_true rfl) rfl ?_
  refine z_iconst dX9_number_8 ?_
  refine z_istore dX9_number_9 (Nat.le_of_ble_eq_true rfl) rfl ?_
  refine z_iload dX9_number_11 rfl ?_
  refine z_iconst dX9_number_13 ?_
  refine z_icmp_ge dX9_number_14 (tgt := 58) rfl (by decide) (by decide) (fun c1 => ?_) (fun c1 => ?_)
  · exact absurd c1 (by decide)
  · skip
    refine z_aload_n dX9_number_17 rfl ?_
    refine cs_X9_77 dX9_number_18 (D_X9_peek hM (j := j) hn (by omega) rfl (by omega)) MH_0 rfl rfl (Nat.le_of_ble_eq_true rfl) (by decide) (z_ki ?_)
    refine cs_X9_81 dX9_number_21 (D_X9_isFigure (c := pe n Tx j) ⟨by omega, by omega⟩) rfl rfl (Nat.le_of_ble_eq_true rfl) (by decide) (z_ki ?_)
    refine z_if_eq dX9_number_24 (tgt := 58) rfl ⟨by split <;> omega, by split <;> omega⟩ (fun c2 => ?_) (fun c2 => ?_)
    · skip
      have q0 : ¬ isDg (pe n Tx j) := by omega
      have hx := nX0 q0
      refine z_aload_n dX9_number_58 rfl ?_
      refine gf_X9_67 dX9_number_59 MH_0 rfl ?_
      refine z_iload_n dX9_number_62 rfl ?_
      refine z_icmp_eq dX9_number_63 (tgt := 79) rfl ⟨by omega, by omega⟩ ⟨by omega, by omega⟩ (fun c3 => ?_) (fun c3 => ?_)
      · skip
        refine z_aload_n dX9_number_79 rfl ?_
        refine z_iload_n dX9_number_80 rfl ?_
        refine pf_X9_67 dX9_number_81 MH_0 (Nat.le_of_ble_eq_true rfl) ?_
        refine z_heq MHu_0 ?_
        refine z_aload_n dX9_number_84 rfl ?_
        refine z_iconst dX9_number_85 ?_
        refine pf_X9_85 (by omega) dX9_number_86 MH_0 (Nat.le_of_ble_eq_true rfl) ?_
        refine z_heq MHu_0 ?_
        refine z_iload dX9_number_89 rfl ?_
        exact z_iret F dX9_number_91 rfl (by decide) ⟨congrArg (fun z => some (z_i z)) (by rw [hx.2] <;> omega), by first | (refine Or.inr ⟨?_, rfl⟩; unfold nOk; omega) | (refine Or.inl ⟨?_, ?_⟩; (unfold nOk; omega); (congr 1; omega))⟩
      · skip
        refine z_iload dX9_number_66 rfl ?_
        refine z_i2l dX9_number_68 (by decide) ?_
        refine z_iload_n dX9_number_69 rfl ?_
        refine z_i2l dX9_number_70 ⟨by omega, by omega⟩ ?_
        refine z_iload_n dX9_number_71 rfl ?_
        refine z_i2l dX9_number_72 (by decide) ?_
        refine cs_X9_56 dX9_number_73 (D_X9_isIn (v := 0) (lo := lo) (hi := 60) ⟨by omega, by omega⟩ ⟨by omega, by omega⟩ (by decide)) rfl rfl (Nat.le_of_ble_eq_true rfl) (by decide) (z_ki ?_)
        refine z_if_ne dX9_number_76 (tgt := 89) rfl ⟨by split <;> omega, by split <;> omega⟩ (fun c4 => ?_) (fun c4 => ?_)
        · skip
          refine z_iload dX9_number_89 rfl ?_
          exact z_iret F dX9_number_91 rfl (by decide) ⟨congrArg (fun z => some (z_i z)) (by rw [hx.2] <;> omega), by first | (refine Or.inr ⟨?_, rfl⟩; unfold nOk; omega) | (refine Or.inl ⟨?_, ?_⟩; (unfold nOk; omega); (congr 1; omega))⟩
        · skip
          refine z_aload_n dX9_number_79 rfl ?_
          refine z_iload_n dX9_number_80 rfl ?_
          refine pf_X9_67 dX9_number_81 MH_0 (Nat.le_of_ble_eq_true rfl) ?_
          refine z_heq MHu_0 ?_
          refine z_aload_n dX9_number_84 rfl ?_
          refine z_iconst dX9_number_85 ?_
          refine pf_X9_85 (by omega) dX9_number_86 MH_0 (Nat.le_of_ble_eq_true rfl) ?_
          refine z_heq MHu_0 ?_
          refine z_iload dX9_number_89 rfl ?_
          exact z_iret F dX9_number_91 rfl (by decide) ⟨congrArg (fun z => some (z_i z)) (by rw [hx.2] <;> omega), by first | (refine Or.inr ⟨?_, rfl⟩; unfold nOk; omega) | (refine Or.inl ⟨?_, ?_⟩; (unfold nOk; omega); (congr 1; omega))⟩
    · skip
      have q0 : isDg (pe n Tx j) := by omega
      refine z_bipush dX9_number_27 rfl ?_
      refine z_iload dX9_number_29 rfl ?_
      refine z_imul dX9_number_31 ?_
      refine z_aload_n dX9_number_32 rfl ?_
      refine cs_X9_77 dX9_number_33 (D_X9_peek hM (j := j) hn (by omega) rfl (by omega)) MH_0 rfl rfl (Nat.le_of_ble_eq_true rfl) (by decide) (z_ki ?_)
      refine z_iadd dX9_number_36 ?_
      refine z_bipush dX9_number_37 rfl ?_
      refine z_isub dX9_number_39 ?_
      refine z_istore dX9_number_40 (Nat.le_of_ble_eq_true rfl) rfl ?_
      refine z_aload_n dX9_number_42 rfl ?_
      refine z_dup dX9_number_43 rfl ?_
      refine gf_X9_67 dX9_number_44 MH_0 rfl ?_
      refine z_iconst dX9_number_47 ?_
      refine z_iadd dX9_number_48 ?_
      refine pf_X9_67 dX9_number_49 MH_0 (Nat.le_of_ble_eq_true rfl) ?_
      refine z_heq MHu_0 ?_
      refine z_iinc dX9_number_52 rfl rfl ?_
      refine z_goto dX9_number_55 (tgt := 11) rfl ?_
      refine z_iload dX9_number_11 rfl ?_
      refine z_iconst dX9_number_13 ?_
      refine z_icmp_ge dX9_number_14 (tgt := 58) rfl ⟨by omega, by omega⟩ (by decide) (fun c5 => ?_) (fun c5 => ?_)
      · skip
        exfalso
        omega
      · skip
        refine z_aload_n dX9_number_17 rfl ?_
        refine cs_X9_77 dX9_number_18 (D_X9_peek hM (j := (j + 1)) hn (by omega) rfl (by omega)) MH_0 rfl rfl (Nat.le_of_ble_eq_true rfl) (by decide) (z_ki ?_)
        refine cs_X9_81 dX9_number_21 (D_X9_isFigure (c := pe n Tx (j + 1)) ⟨by omega, by omega⟩) rfl rfl (Nat.le_of_ble_eq_true rfl) (by decide) (z_ki ?_)
        refine z_if_eq dX9_number_24 (tgt := 58) rfl ⟨by split <;> omega, by split <;> omega⟩ (fun c6 => ?_) (fun c6 => ?_)
        · skip
          have q1 : ¬ isDg (pe n Tx (j + 1)) := by omega
          have hx := nX1 q0 q1
          refine z_aload_n dX9_number_58 rfl ?_
          refine gf_X9_67 dX9_number_59 MH_0 rfl ?_
          refine z_iload_n dX9_number_62 rfl ?_
          refine z_icmp_eq dX9_number_63 (tgt := 79) rfl ⟨by omega, by omega⟩ ⟨by omega, by omega⟩ (fun c7 => ?_) (fun c7 => ?_)
          · skip
            refine z_aload_n dX9_number_79 rfl ?_
            refine z_iload_n dX9_number_80 rfl ?_
            refine pf_X9_67 dX9_number_81 MH_0 (Nat.le_of_ble_eq_true rfl) ?_
            refine z_heq MHu_0 ?_
            refine z_aload_n dX9_number_84 rfl ?_
            refine z_iconst dX9_number_85 ?_
            refine pf_X9_85 (by omega) dX9_number_86 MH_0 (Nat.le_of_ble_eq_true rfl) ?_
            refine z_heq MHu_0 ?_
            refine z_iload dX9_number_89 rfl ?_
            exact z_iret F dX9_number_91 rfl (by decide) ⟨congrArg (fun z => some (z_i z)) (by rw [hx.2] <;> omega), by first | (refine Or.inr ⟨?_, rfl⟩; unfold nOk; omega) | (refine Or.inl ⟨?_, ?_⟩; (unfold nOk; omega); (congr 1; omega))⟩
          · skip
            refine z_iload dX9_number_66 rfl ?_
            refine z_i2l dX9_number_68 ⟨by omega, by omega⟩ ?_
            refine z_iload_n dX9_number_69 rfl ?_
            refine z_i2l dX9_number_70 ⟨by omega, by omega⟩ ?_
            refine z_iload_n dX9_number_71 rfl ?_
            refine z_i2l dX9_number_72 (by decide) ?_
            refine cs_X9_56 dX9_number_73 (D_X9_isIn (v := ((10 * 0) + (pe n Tx j)) - 48) (lo := lo) (hi := 60) ⟨by omega, by omega⟩ ⟨by omega, by omega⟩ (by decide)) rfl rfl (Nat.le_of_ble_eq_true rfl) (by decide) (z_ki ?_)
            refine z_if_ne dX9_number_76 (tgt := 89) rfl ⟨by split <;> omega, by split <;> omega⟩ (fun c8 => ?_) (fun c8 => ?_)
            · skip
              refine z_iload dX9_number_89 rfl ?_
              exact z_iret F dX9_number_91 rfl (by decide) ⟨congrArg (fun z => some (z_i z)) (by rw [hx.2] <;> omega), by first | (refine Or.inr ⟨?_, rfl⟩; unfold nOk; omega) | (refine Or.inl ⟨?_, ?_⟩; (unfold nOk; omega); (congr 1; omega))⟩
            · skip
              refine z_aload_n dX9_number_79 rfl ?_
              refine z_iload_n dX9_number_80 rfl ?_
              refine pf_X9_67 dX9_number_81 MH_0 (Nat.le_of_ble_eq_true rfl) ?_
              refine z_heq MHu_0 ?_
              refine z_aload_n dX9_number_84 rfl ?_
              refine z_iconst dX9_number_85 ?_
              refine pf_X9_85 (by omega) dX9_number_86 MH_0 (Nat.le_of_ble_eq_true rfl) ?_
              refine z_heq MHu_0 ?_
              refine z_iload dX9_number_89 rfl ?_
              exact z_iret F dX9_number_91 rfl (by decide) ⟨congrArg (fun z => some (z_i z)) (by rw [hx.2] <;> omega), by first | (refine Or.inr ⟨?_, rfl⟩; unfold nOk; omega) | (refine Or.inl ⟨?_, ?_⟩; (unfold nOk; omega); (congr 1; omega))⟩
        · skip
          have q1 : isDg (pe n Tx (j + 1)) := by omega
          refine z_bipush dX9_number_27 rfl ?_
          refine z_iload dX9_number_29 rfl ?_
          refine z_imul dX9_number_31 ?_
          refine z_aload_n dX9_number_32 rfl ?_
          refine cs_X9_77 dX9_number_33 (D_X9_peek hM (j := (j + 1)) hn (by omega) rfl (by omega)) MH_0 rfl rfl (Nat.le_of_ble_eq_true rfl) (by decide) (z_ki ?_)
          refine z_iadd dX9_number_36 ?_
          refine z_bipush dX9_number_37 rfl ?_
          refine z_isub dX9_number_39 ?_
          refine z_istore dX9_number_40 (Nat.le_of_ble_eq_true rfl) rfl ?_
          refine z_aload_n dX9_number_42 rfl ?_
          refine z_dup dX9_number_43 rfl ?_
          refine gf_X9_67 dX9_number_44 MH_0 rfl ?_
          refine z_iconst dX9_number_47 ?_
          refine z_iadd dX9_number_48 ?_
          refine pf_X9_67 dX9_number_49 MH_0 (Nat.le_of_ble_eq_true rfl) ?_
          refine z_heq MHu_0 ?_
          refine z_iinc dX9_number_52 rfl rfl ?_
          refine z_goto dX9_number_55 (tgt := 11) rfl ?_
          refine z_iload dX9_number_11 rfl ?_
          refine z_iconst dX9_number_13 ?_
          refine z_icmp_ge dX9_number_14 (tgt := 58) rfl ⟨by omega, by omega⟩ (by decide) (fun c9 => ?_) (fun c9 => ?_)
          · skip
            have hx := nX2 q0 q1
            refine z_aload_n dX9_number_58 rfl ?_
            refine gf_X9_67 dX9_number_59 MH_0 rfl ?_
            refine z_iload_n dX9_number_62 rfl ?_
            refine z_icmp_eq dX9_number_63 (tgt := 79) rfl ⟨by omega, by omega⟩ ⟨by omega, by omega⟩ (fun c10 => ?_) (fun c10 => ?_)
            · skip
              refine z_aload_n dX9_number_79 rfl ?_
              refine z_iload_n dX9_number_80 rfl ?_
              refine pf_X9_67 dX9_number_81 MH_0 (Nat.le_of_ble_eq_true rfl) ?_
              refine z_heq MHu_0 ?_
              refine z_aload_n dX9_number_84 rfl ?_
              refine z_iconst dX9_number_85 ?_
              refine pf_X9_85 (by omega) dX9_number_86 MH_0 (Nat.le_of_ble_eq_true rfl) ?_
              refine z_heq MHu_0 ?_
              refine z_iload dX9_number_89 rfl ?_
              exact z_iret F dX9_number_91 rfl (by decide) ⟨congrArg (fun z => some (z_i z)) (by rw [hx.2] <;> omega), by first | (refine Or.inr ⟨?_, rfl⟩; unfold nOk; omega) | (refine Or.inl ⟨?_, ?_⟩; (unfold nOk; omega); (congr 1; omega))⟩
            · skip
              refine z_iload dX9_number_66 rfl ?_
              refine z_i2l dX9_number_68 ⟨by omega, by omega⟩ ?_
              refine z_iload_n dX9_number_69 rfl ?_
              refine z_i2l dX9_number_70 ⟨by omega, by omega⟩ ?_
              refine z_iload_n dX9_number_71 rfl ?_
              refine z_i2l dX9_number_72 (by decide) ?_
              refine cs_X9_56 dX9_number_73 (D_X9_isIn (v := ((10 * (((10 * 0) + (pe n Tx j)) - 48)) + (pe n Tx (j + 1))) - 48) (lo := lo) (hi := 60) ⟨by omega, by omega⟩ ⟨by omega, by omega⟩ (by decide)) rfl rfl (Nat.le_of_ble_eq_true rfl) (by decide) (z_ki ?_)
              refine z_if_ne dX9_number_76 (tgt := 89) rfl ⟨by split <;> omega, by split <;> omega⟩ (fun c11 => ?_) (fun c11 => ?_)
              · skip
                refine z_iload dX9_number_89 rfl ?_
                exact z_iret F dX9_number_91 rfl (by decide) ⟨congrArg (fun z => some (z_i z)) (by rw [hx.2] <;> omega), by first | (refine Or.inr ⟨?_, rfl⟩; unfold nOk; omega) | (refine Or.inl ⟨?_, ?_⟩; (unfold nOk; omega); (congr 1; omega))⟩
              · skip
                refine z_aload_n dX9_number_79 rfl ?_
                refine z_iload_n dX9_number_80 rfl ?_
                refine pf_X9_67 dX9_number_81 MH_0 (Nat.le_of_ble_eq_true rfl) ?_
                refine z_heq MHu_0 ?_
                refine z_aload_n dX9_number_84 rfl ?_
                refine z_iconst dX9_number_85 ?_
                refine pf_X9_85 (by omega) dX9_number_86 MH_0 (Nat.le_of_ble_eq_true rfl) ?_
                refine z_heq MHu_0 ?_
                refine z_iload dX9_number_89 rfl ?_
                exact z_iret F dX9_number_91 rfl (by decide) ⟨congrArg (fun z => some (z_i z)) (by rw [hx.2] <;> omega), by first | (refine Or.inr ⟨?_, rfl⟩; unfold nOk; omega) | (refine Or.inl ⟨?_, ?_⟩; (unfold nOk; omega); (congr 1; omega))⟩
          · skip
            exfalso
            omega
