/-! Line: what reads the text -/
theorem nX0 {n : Nat} {t : Nat → Int} {a : Nat} (h : ¬ isDg (pe n t a)) : nC n t a = 0 ∧ nV n t a = 0 := ⟨if_neg h, if_neg h⟩
theorem nX1 {n : Nat} {t : Nat → Int} {a : Nat} (h : isDg (pe n t a)) (h1 : ¬ isDg (pe n t (a + 1))) : nC n t a = 1 ∧ nV n t a = pe n t a - 48 := ⟨by unfold nC; rw [if_pos h, if_neg h1], by unfold nV; rw [if_pos h, if_neg h1]⟩
theorem nX2 {n : Nat} {t : Nat → Int} {a : Nat} (h : isDg (pe n t a)) (h1 : isDg (pe n t (a + 1))) : nC n t a = 2 ∧ nV n t a = 10 * (pe n t a - 48) + (pe n t (a + 1) - 48) := ⟨by unfold nC; rw [if_pos h, if_pos h1], by unfold nV; rw [if_pos h, if_pos h1]⟩
theorem nC_n {n : Nat} {t : Nat → Int} {a : Nat} (h : a ≤ n) : a + nC n t a ≤ n := by
  by_cases c0 : isDg (pe n t a)
  · have a0 := pe_lt (n := n) (t := t) (a := a) (by omega)
    by_cases c1 : isDg (pe n t (a + 1))
    · have a1 := pe_lt (n := n) (t := t) (a := a + 1) (by omega)
      rw [(nX2 c0 c1).1]
      omega
    · rw [(nX1 c0 c1).1]
      omega
  · rw [(nX0 c0).1]
    omega
noncomputable def fN (n : Nat) (t : Nat → Int) (lo : Int) (a : Nat) : Int := @ite _ (nOk n t lo a) (Classical.propDecidable _) (-1) (a : Int)
theorem fN_t {n : Nat} {t : Nat → Int} {lo : Int} {a : Nat} (h : nOk n t lo a) : fN n t lo a = -1 := if_pos h
theorem fN_f {n : Nat} {t : Nat → Int} {lo : Int} {a : Nat} (h : ¬ nOk n t lo a) : fN n t lo a = (a : Int) := if_neg h
theorem z_sf_s {f : Nat → Int} {k : Nat} {x : Int} : z_sf f k x k = x := if_pos rfl
theorem z_sf_n {f : Nat → Int} {k j : Nat} {x : Int} (h : j ≠ k) : z_sf f k x j = f j := if_neg h
theorem z_mx {d w : Nat} : (if (d : Int) < (w : Int) then (w : Int) else (d : Int)) = ((max d w : Nat) : Int) := by split <;> omega
set_option maxHeartbeats 4000000 in
set_option maxRecDepth 100000 in
theorem D_X3_openPart {g : z_G} {h0 : z_H} {a b s p u e n : Nat} {t : Nat → Int} (hD : lD h0 a b s p u e n t) {fs fp fn fe : Nat → Int} {P d i : Nat} {tl fl : Int} (hP : P < n) (hd : d ≤ 250) {c x : Int} {w : Nat} (hw : w ≤ 5) : z_D g mX3_openPart 1 0 0 [z_r a, z_i c, z_i x, z_i (w : Int)] (LH h0 a b s p u e n fs fp fn fe (P : Int) (d : Int) tl (i : Int) fl) (fun rv h' => rv = some (z_i (P : Int)) ∧ h' = (LH h0 a b s p u e n (z_sf fs P c) (z_sf fp P x) fn fe ((P + 1 : Nat) : Int) ((max d w : Nat) : Int) tl (i : Int) fl)) := by
  refine z_D.of (by decide +kernel) (Nat.le_of_ble_eq_true rfl) (fun X F => ?_)
  show z_w g X cX3_openPart RX3 (1, 0, 0) 0 [z_r a, z_i c, z_i x, z_i (w : Int), z_u] [] (LH h0 a b s p u e n fs fp fn fe (P : Int) (d : Int) tl (i : Int) fl) 0 0
  have h7 := hD.2.2.2.2.2.2.1
  have h8 := hD.2.2.2.2.2.2.2
  refine z_aload_n dX3_openPart_0 rfl ?_
  refine gf_X3_46 dX3_openPart_1 LHa rfl ?_
  refine z_istore dX3_openPart_4 (Nat.le_of_ble_eq_true rfl) rfl ?_
  refine z_iload dX3_openPart_6 rfl ?_
  refine z_if_lt dX3_openPart_8 (tgt := 57) rfl ⟨by omega, by omega⟩ (fun c1 => ?_) (fun c1 => ?_)
  · skip
    exfalso
    omega
  · skip
    refine z_iload dX3_openPart_11 rfl ?_
    refine z_aload_n dX3_openPart_13 rfl ?_
    refine gf_X3_34 dX3_openPart_14 LHa rfl ?_
    refine z_alenI dX3_openPart_17 (LHs hD) ?_
    refine z_icmp_ge dX3_openPart_18 (tgt := 57) rfl ⟨by omega, by omega⟩ ⟨by omega, by omega⟩ (fun c2 => ?_) (fun c2 => ?_)
    · skip
      exfalso
      omega
    · skip
      refine z_iload dX3_openPart_21 rfl ?_
      refine z_aload_n dX3_openPart_23 rfl ?_
      refine gf_X3_37 dX3_openPart_24 LHa rfl ?_
      refine z_alenI dX3_openPart_27 (LHp hD) ?_
      refine z_icmp_ge dX3_openPart_28 (tgt := 57) rfl ⟨by omega, by omega⟩ ⟨by omega, by omega⟩ (fun c3 => ?_) (fun c3 => ?_)
      · skip
        exfalso
        omega
      · skip
        refine z_aload_n dX3_openPart_31 rfl ?_
        refine gf_X3_34 dX3_openPart_32 LHa rfl ?_
        refine z_iload dX3_openPart_35 rfl ?_
        refine z_iload_n dX3_openPart_37 rfl ?_
        refine z_iast dX3_openPart_38 (LHs hD) ⟨by omega, by omega, by omega⟩ ?_
        refine z_heq (LHus hD) ?_
        refine z_aload_n dX3_openPart_39 rfl ?_
        refine gf_X3_37 dX3_openPart_40 LHa rfl ?_
        refine z_iload dX3_openPart_43 rfl ?_
        refine z_iload_n dX3_openPart_45 rfl ?_
        refine z_iast dX3_openPart_46 (LHp hD) ⟨by omega, by omega, by omega⟩ ?_
        refine z_heq (LHup hD) ?_
        refine z_aload_n dX3_openPart_47 rfl ?_
        refine z_dup dX3_openPart_48 rfl ?_
        refine gf_X3_46 dX3_openPart_49 LHa rfl ?_
        refine z_iconst dX3_openPart_52 ?_
        refine z_iadd dX3_openPart_53 ?_
        refine pf_X3_46 dX3_openPart_54 LHa (Nat.le_of_ble_eq_true rfl) ?_
        refine z_heq LHua ?_
        refine z_aload_n dX3_openPart_57 rfl ?_
        refine z_aload_n dX3_openPart_58 rfl ?_
        refine gf_X3_95 dX3_openPart_59 LHa rfl ?_
        refine z_iload_n dX3_openPart_62 rfl ?_
        refine mm_X3_21 dX3_openPart_63 ⟨by omega, by omega⟩ ⟨by omega, by omega⟩ (by decide) (Nat.le_of_ble_eq_true rfl) ?_
        refine z_ieq z_mx ?_
        refine pf_X3_95 dX3_openPart_66 LHa (Nat.le_of_ble_eq_true rfl) ?_
        refine z_heq LHua ?_
        refine z_iload dX3_openPart_69 rfl ?_
        exact z_iret F dX3_openPart_71 rfl (by decide) ⟨rfl, rfl⟩
set_option maxHeartbeats 4000000 in
set_option maxRecDepth 100000 in
theorem D_X3_closePart {g : z_G} {h0 : z_H} {a b s p u e n : Nat} {t : Nat → Int} (hD : lD h0 a b s p u e n t) {fs fp fn fe : Nat → Int} {P d i : Nat} {tl fl : Int} {j : Nat} (hj : j < n) {v : Int} : z_D g mX3_closePart 1 0 0 [z_r a, z_i (j : Int), z_i v] (LH h0 a b s p u e n fs fp fn fe (P : Int) (d : Int) tl (i : Int) fl) (z_Pv (LH h0 a b s p u e n fs fp (z_sf fn j v) (z_sf fe j P) (P : Int) (d : Int) tl (i : Int) fl)) := by
  refine z_D.of (by decide +kernel) (Nat.le_of_ble_eq_true rfl) (fun X F => ?_)
  show z_w g X cX3_closePart RX3 (1, 0, 0) 0 [z_r a, z_i (j : Int), z_i v] [] (LH h0 a b s p u e n fs fp fn fe (P : Int) (d : Int) tl (i : Int) fl) 0 0
  have h7 := hD.2.2.2.2.2.2.1
  have h8 := hD.2.2.2.2.2.2.2
  refine z_iload_n dX3_closePart_0 rfl ?_
  refine z_if_lt dX3_closePart_1 (tgt := 39) rfl ⟨by omega, by omega⟩ (fun c1 => ?_) (fun c1 => ?_)
  · skip
    exfalso
    omega
  · skip
    refine z_iload_n dX3_closePart_4 rfl ?_
    refine z_aload_n dX3_closePart_5 rfl ?_
    refine gf_X3_40 dX3_closePart_6 LHa rfl ?_
    refine z_alenI dX3_closePart_9 (LHu hD) ?_
    refine z_icmp_ge dX3_closePart_10 (tgt := 39) rfl ⟨by omega, by omega⟩ ⟨by omega, by omega⟩ (fun c2 => ?_) (fun c2 => ?_)
    · skip
      exfalso
      omega
    · skip
      refine z_iload_n dX3_closePart_13 rfl ?_
      refine z_aload_n dX3_closePart_14 rfl ?_
      refine gf_X3_43 dX3_closePart_15 LHa rfl ?_
      refine z_alenI dX3_closePart_18 (LHe hD) ?_
      refine z_icmp_ge dX3_closePart_19 (tgt := 39) rfl ⟨by omega, by omega⟩ ⟨by omega, by omega⟩ (fun c3 => ?_) (fun c3 => ?_)
      · skip
        exfalso
        omega
      · skip
        refine z_aload_n dX3_closePart_22 rfl ?_
        refine gf_X3_40 dX3_closePart_23 LHa rfl ?_
        refine z_iload_n dX3_closePart_26 rfl ?_
        refine z_iload_n dX3_closePart_27 rfl ?_
        refine z_iast dX3_closePart_28 (LHu hD) ⟨by omega, by omega, by omega⟩ ?_
        refine z_heq (LHuu hD) ?_
        refine z_aload_n dX3_closePart_29 rfl ?_
        refine gf_X3_43 dX3_closePart_30 LHa rfl ?_
        refine z_iload_n dX3_closePart_33 rfl ?_
        refine z_aload_n dX3_closePart_34 rfl ?_
        refine gf_X3_46 dX3_closePart_35 LHa rfl ?_
        refine z_iast dX3_closePart_38 (LHe hD) ⟨by omega, by omega, by omega⟩ ?_
        refine z_heq (LHue hD) ?_
        exact z_vret F dX3_closePart_39 rfl (by decide) ⟨rfl, rfl⟩
set_option maxHeartbeats 4000000 in
set_option maxRecDepth 100000 in
theorem D_X3_readNumber {g : z_G} {h0 : z_H} {a b s p u e n : Nat} {t : Nat → Int} (hD : lD h0 a b s p u e n t) {fs fp fn fe : Nat → Int} {P d i : Nat} {tl : Int} (hi : i ≤ n) {lo : Int} (hlo : lo = 0 ∨ lo = 1) : z_D g mX3_readNumber 2 0 0 [z_r a, z_i lo] (LH h0 a b s p u e n fs fp fn fe (P : Int) (d : Int) tl (i : Int) (-1)) (fun rv h' => rv = some (z_i (nV n t i)) ∧ h' = (LH h0 a b s p u e n fs fp fn fe (P : Int) (d : Int) tl ((i + nC n t i : Nat) : Int) (fN n t lo i))) := by
  refine z_D.of (by decide +kernel) (Nat.le_of_ble_eq_true rfl) (fun X F => ?_)
  have h7 := hD.2.2.2.2.2.2.1
  have h8 := hD.2.2.2.2.2.2.2
  have b0 := pe_b h8 i
  have b1 := pe_b h8 (i + 1)
  show z_w g X cX3_readNumber RX3 (2, 0, 0) 0 [z_r a, z_i lo, z_u, z_u] [] (LH h0 a b s p u e n fs fp fn fe (P : Int) (d : Int) tl (i : Int) (-1)) 0 0
  refine z_aload_n dX3_readNumber_0 rfl ?_
  refine gf_X3_53 dX3_readNumber_1 LHa rfl ?_
  refine z_istore_n dX3_readNumber_4 (Nat.le_of_ble_eq_true rfl) rfl ?_
  refine z_iconst dX3_readNumber_5 ?_
  refine z_istore_n dX3_readNumber_6 (Nat.le_of_ble_eq_true rfl) rfl ?_
  refine z_aload_n dX3_readNumber_7 rfl ?_
  refine gf_X3_53 dX3_readNumber_8 LHa rfl ?_
  refine z_iload_n dX3_readNumber_11 rfl ?_
  refine z_iconst dX3_readNumber_12 ?_
  refine z_iadd dX3_readNumber_13 ?_
  refine z_icmp_ge dX3_readNumber_14 (tgt := 61) rfl ⟨by omega, by omega⟩ ⟨by omega, by omega⟩ (fun c1 => ?_) (fun c1 => ?_)
  · skip
    exfalso
    omega
  · skip
    refine z_aload_n dX3_readNumber_17 rfl ?_
    refine z_aload_n dX3_readNumber_18 rfl ?_
    refine gf_X3_53 dX3_readNumber_19 LHa rfl ?_
    refine cs_X3_59 dX3_readNumber_22 (D_X3_byteAt_n (LHo hD) (j := i) (by omega) (by omega)) LHa rfl rfl (Nat.le_of_ble_eq_true rfl) (by decide) (z_ki ?_)
    refine cs_X3_85 dX3_readNumber_25 (D_X3_isDigit (c := pe n t i) ⟨by omega, by omega⟩) rfl rfl (Nat.le_of_ble_eq_true rfl) (by decide) (z_ki ?_)
    refine z_if_eq dX3_readNumber_28 (tgt := 61) rfl ⟨by split <;> omega, by split <;> omega⟩ (fun c2 => ?_) (fun c2 => ?_)
    · skip
      have q0 : ¬ isDg (pe n t i) := by omega
      have hx := nX0 q0
      refine z_aload_n dX3_readNumber_61 rfl ?_
      refine gf_X3_53 dX3_readNumber_62 LHa rfl ?_
      refine z_iload_n dX3_readNumber_65 rfl ?_
      refine z_icmp_eq dX3_readNumber_66 (tgt := 80) rfl ⟨by omega, by omega⟩ ⟨by omega, by omega⟩ (fun c3 => ?_) (fun c3 => ?_)
      · skip
        refine z_aload_n dX3_readNumber_80 rfl ?_
        refine z_iload_n dX3_readNumber_81 rfl ?_
        refine pf_X3_9 dX3_readNumber_82 LHa (Nat.le_of_ble_eq_true rfl) ?_
        refine z_heq LHua ?_
        refine z_iload_n dX3_readNumber_85 rfl ?_
        exact z_iret F dX3_readNumber_86 rfl (by decide) ⟨congrArg (fun z => some (z_i z)) (by rw [hx.2] <;> omega), by first | rw [fN_t (show nOk n t lo i by unfold nOk; omega)]; exact LHq | rw [fN_f (show ¬ nOk n t lo i by unfold nOk; omega)]; exact LHq⟩
      · skip
        refine z_iload_n dX3_readNumber_69 rfl ?_
        refine z_iload_n dX3_readNumber_70 rfl ?_
        refine z_icmp_lt dX3_readNumber_71 (tgt := 80) rfl (by decide) ⟨by omega, by omega⟩ (fun c4 => ?_) (fun c4 => ?_)
        · skip
          refine z_aload_n dX3_readNumber_80 rfl ?_
          refine z_iload_n dX3_readNumber_81 rfl ?_
          refine pf_X3_9 dX3_readNumber_82 LHa (Nat.le_of_ble_eq_true rfl) ?_
          refine z_heq LHua ?_
          refine z_iload_n dX3_readNumber_85 rfl ?_
          exact z_iret F dX3_readNumber_86 rfl (by decide) ⟨congrArg (fun z => some (z_i z)) (by rw [hx.2] <;> omega), by first | rw [fN_t (show nOk n t lo i by unfold nOk; omega)]; exact LHq | rw [fN_f (show ¬ nOk n t lo i by unfold nOk; omega)]; exact LHq⟩
        · skip
          refine z_iload_n dX3_readNumber_74 rfl ?_
          refine z_bipush dX3_readNumber_75 rfl ?_
          refine z_icmp_le dX3_readNumber_77 (tgt := 85) rfl (by decide) (by decide) (fun c5 => ?_) (fun c5 => ?_)
          · skip
            refine z_iload_n dX3_readNumber_85 rfl ?_
            exact z_iret F dX3_readNumber_86 rfl (by decide) ⟨congrArg (fun z => some (z_i z)) (by rw [hx.2] <;> omega), by first | rw [fN_t (show nOk n t lo i by unfold nOk; omega)]; exact LHq | rw [fN_f (show ¬ nOk n t lo i by unfold nOk; omega)]; exact LHq⟩
          · exact absurd c5 (by decide)
    · skip
      have q0 : isDg (pe n t i) := by omega
      refine z_iload_n dX3_readNumber_31 rfl ?_
      refine z_bipush dX3_readNumber_32 rfl ?_
      refine z_imul dX3_readNumber_34 ?_
      refine z_aload_n dX3_readNumber_35 rfl ?_
      refine z_aload_n dX3_readNumber_36 rfl ?_
      refine gf_X3_53 dX3_readNumber_37 LHa rfl ?_
      refine cs_X3_59 dX3_readNumber_40 (D_X3_byteAt_n (LHo hD) (j := i) (by omega) (by omega)) LHa rfl rfl (Nat.le_of_ble_eq_true rfl) (by decide) (z_ki ?_)
      refine z_iadd dX3_readNumber_43 ?_
      refine z_bipush dX3_readNumber_44 rfl ?_
      refine z_isub dX3_readNumber_46 ?_
      refine z_istore_n dX3_readNumber_47 (Nat.le_of_ble_eq_true rfl) rfl ?_
      refine z_aload_n dX3_readNumber_48 rfl ?_
      refine z_dup dX3_readNumber_49 rfl ?_
      refine gf_X3_53 dX3_readNumber_50 LHa rfl ?_
      refine z_iconst dX3_readNumber_53 ?_
      refine z_iadd dX3_readNumber_54 ?_
      refine pf_X3_53 dX3_readNumber_55 LHa (Nat.le_of_ble_eq_true rfl) ?_
      refine z_heq LHua ?_
      refine z_goto dX3_readNumber_58 (tgt := 7) rfl ?_
      refine z_aload_n dX3_readNumber_7 rfl ?_
      refine gf_X3_53 dX3_readNumber_8 LHa rfl ?_
      refine z_iload_n dX3_readNumber_11 rfl ?_
      refine z_iconst dX3_readNumber_12 ?_
      refine z_iadd dX3_readNumber_13 ?_
      refine z_icmp_ge dX3_readNumber_14 (tgt := 61) rfl ⟨by omega, by omega⟩ ⟨by omega, by omega⟩ (fun c6 => ?_) (fun c6 => ?_)
      · skip
        exfalso
        omega
      · skip
        refine z_aload_n dX3_readNumber_17 rfl ?_
        refine z_aload_n dX3_readNumber_18 rfl ?_
        refine gf_X3_53 dX3_readNumber_19 LHa rfl ?_
        refine cs_X3_59 dX3_readNumber_22 (D_X3_byteAt_n (LHo hD) (j := i + 1) (by omega) (by omega)) LHa rfl rfl (Nat.le_of_ble_eq_true rfl) (by decide) (z_ki ?_)
        refine cs_X3_85 dX3_readNumber_25 (D_X3_isDigit (c := pe n t (i + 1)) ⟨by omega, by omega⟩) rfl rfl (Nat.le_of_ble_eq_true rfl) (by decide) (z_ki ?_)
        refine z_if_eq dX3_readNumber_28 (tgt := 61) rfl ⟨by split <;> omega, by split <;> omega⟩ (fun c7 => ?_) (fun c7 => ?_)
        · skip
          have q1 : ¬ isDg (pe n t (i + 1)) := by omega
          have hx := nX1 q0 q1
          refine z_aload_n dX3_readNumber_61 rfl ?_
          refine gf_X3_53 dX3_readNumber_62 LHa rfl ?_
          refine z_iload_n dX3_readNumber_65 rfl ?_
          refine z_icmp_eq dX3_readNumber_66 (tgt := 80) rfl ⟨by omega, by omega⟩ ⟨by omega, by omega⟩ (fun c8 => ?_) (fun c8 => ?_)
          · skip
            refine z_aload_n dX3_readNumber_80 rfl ?_
            refine z_iload_n dX3_readNumber_81 rfl ?_
            refine pf_X3_9 dX3_readNumber_82 LHa (Nat.le_of_ble_eq_true rfl) ?_
            refine z_heq LHua ?_
            refine z_iload_n dX3_readNumber_85 rfl ?_
            exact z_iret F dX3_readNumber_86 rfl (by decide) ⟨congrArg (fun z => some (z_i z)) (by rw [hx.2] <;> omega), by first | rw [fN_t (show nOk n t lo i by unfold nOk; omega)]; exact LHq | rw [fN_f (show ¬ nOk n t lo i by unfold nOk; omega)]; exact LHq⟩
          · skip
            refine z_iload_n dX3_readNumber_69 rfl ?_
            refine z_iload_n dX3_readNumber_70 rfl ?_
            refine z_icmp_lt dX3_readNumber_71 (tgt := 80) rfl ⟨by omega, by omega⟩ ⟨by omega, by omega⟩ (fun c9 => ?_) (fun c9 => ?_)
            · skip
              refine z_aload_n dX3_readNumber_80 rfl ?_
              refine z_iload_n dX3_readNumber_81 rfl ?_
              refine pf_X3_9 dX3_readNumber_82 LHa (Nat.le_of_ble_eq_true rfl) ?_
              refine z_heq LHua ?_
              refine z_iload_n dX3_readNumber_85 rfl ?_
              exact z_iret F dX3_readNumber_86 rfl (by decide) ⟨congrArg (fun z => some (z_i z)) (by rw [hx.2] <;> omega), by first | rw [fN_t (show nOk n t lo i by unfold nOk; omega)]; exact LHq | rw [fN_f (show ¬ nOk n t lo i by unfold nOk; omega)]; exact LHq⟩
            · skip
              refine z_iload_n dX3_readNumber_74 rfl ?_
              refine z_bipush dX3_readNumber_75 rfl ?_
              refine z_icmp_le dX3_readNumber_77 (tgt := 85) rfl ⟨by omega, by omega⟩ (by decide) (fun c10 => ?_) (fun c10 => ?_)
              · skip
                refine z_iload_n dX3_readNumber_85 rfl ?_
                exact z_iret F dX3_readNumber_86 rfl (by decide) ⟨congrArg (fun z => some (z_i z)) (by rw [hx.2] <;> omega), by first | rw [fN_t (show nOk n t lo i by unfold nOk; omega)]; exact LHq | rw [fN_f (show ¬ nOk n t lo i by unfold nOk; omega)]; exact LHq⟩
              · skip
                refine z_aload_n dX3_readNumber_80 rfl ?_
                refine z_iload_n dX3_readNumber_81 rfl ?_
                refine pf_X3_9 dX3_readNumber_82 LHa (Nat.le_of_ble_eq_true rfl) ?_
                refine z_heq LHua ?_
                refine z_iload_n dX3_readNumber_85 rfl ?_
                exact z_iret F dX3_readNumber_86 rfl (by decide) ⟨congrArg (fun z => some (z_i z)) (by rw [hx.2] <;> omega), by first | rw [fN_t (show nOk n t lo i by unfold nOk; omega)]; exact LHq | rw [fN_f (show ¬ nOk n t lo i by unfold nOk; omega)]; exact LHq⟩
        · skip
          have q1 : isDg (pe n t (i + 1)) := by omega
          refine z_iload_n dX3_readNumber_31 rfl ?_
          refine z_bipush dX3_readNumber_32 rfl ?_
          refine z_imul dX3_readNumber_34 ?_
          refine z_aload_n dX3_readNumber_35 rfl ?_
          refine z_aload_n dX3_readNumber_36 rfl ?_
          refine gf_X3_53 dX3_readNumber_37 LHa rfl ?_
          refine cs_X3_59 dX3_readNumber_40 (D_X3_byteAt_n (LHo hD) (j := i + 1) (by omega) (by omega)) LHa rfl rfl (Nat.le_of_ble_eq_true rfl) (by decide) (z_ki ?_)
          refine z_iadd dX3_readNumber_43 ?_
          refine z_bipush dX3_readNumber_44 rfl ?_
          refine z_isub dX3_readNumber_46 ?_
          refine z_istore_n dX3_readNumber_47 (Nat.le_of_ble_eq_true rfl) rfl ?_
          refine z_aload_n dX3_readNumber_48 rfl ?_
          refine z_dup dX3_readNumber_49 rfl ?_
          refine gf_X3_53 dX3_readNumber_50 LHa rfl ?_
          refine z_iconst dX3_readNumber_53 ?_
          refine z_iadd dX3_readNumber_54 ?_
          refine pf_X3_53 dX3_readNumber_55 LHa (Nat.le_of_ble_eq_true rfl) ?_
          refine z_heq LHua ?_
          refine z_goto dX3_readNumber_58 (tgt := 7) rfl ?_
          refine z_aload_n dX3_readNumber_7 rfl ?_
          refine gf_X3_53 dX3_readNumber_8 LHa rfl ?_
          refine z_iload_n dX3_readNumber_11 rfl ?_
          refine z_iconst dX3_readNumber_12 ?_
          refine z_iadd dX3_readNumber_13 ?_
          refine z_icmp_ge dX3_readNumber_14 (tgt := 61) rfl ⟨by omega, by omega⟩ ⟨by omega, by omega⟩ (fun c11 => ?_) (fun c11 => ?_)
          · skip
            have hx := nX2 q0 q1
            refine z_aload_n dX3_readNumber_61 rfl ?_
            refine gf_X3_53 dX3_readNumber_62 LHa rfl ?_
            refine z_iload_n dX3_readNumber_65 rfl ?_
            refine z_icmp_eq dX3_readNumber_66 (tgt := 80) rfl ⟨by omega, by omega⟩ ⟨by omega, by omega⟩ (fun c12 => ?_) (fun c12 => ?_)
            · skip
              refine z_aload_n dX3_readNumber_80 rfl ?_
              refine z_iload_n dX3_readNumber_81 rfl ?_
              refine pf_X3_9 dX3_readNumber_82 LHa (Nat.le_of_ble_eq_true rfl) ?_
              refine z_heq LHua ?_
              refine z_iload_n dX3_readNumber_85 rfl ?_
              exact z_iret F dX3_readNumber_86 rfl (by decide) ⟨congrArg (fun z => some (z_i z)) (by rw [hx.2] <;> omega), by first | rw [fN_t (show nOk n t lo i by unfold nOk; omega)]; exact LHq | rw [fN_f (show ¬ nOk n t lo i by unfold nOk; omega)]; exact LHq⟩
            · skip
              refine z_iload_n dX3_readNumber_69 rfl ?_
              refine z_iload_n dX3_readNumber_70 rfl ?_
              refine z_icmp_lt dX3_readNumber_71 (tgt := 80) rfl ⟨by omega, by omega⟩ ⟨by omega, by omega⟩ (fun c13 => ?_) (fun c13 => ?_)
              · skip
                refine z_aload_n dX3_readNumber_80 rfl ?_
                refine z_iload_n dX3_readNumber_81 rfl ?_
                refine pf_X3_9 dX3_readNumber_82 LHa (Nat.le_of_ble_eq_true rfl) ?_
                refine z_heq LHua ?_
                refine z_iload_n dX3_readNumber_85 rfl ?_
                exact z_iret F dX3_readNumber_86 rfl (by decide) ⟨congrArg (fun z => some (z_i z)) (by rw [hx.2] <;> omega), by first | rw [fN_t (show nOk n t lo i by unfold nOk; omega)]; exact LHq | rw [fN_f (show ¬ nOk n t lo i by unfold nOk; omega)]; exact LHq⟩
              · skip
                refine z_iload_n dX3_readNumber_74 rfl ?_
                refine z_bipush dX3_readNumber_75 rfl ?_
                refine z_icmp_le dX3_readNumber_77 (tgt := 85) rfl ⟨by omega, by omega⟩ (by decide) (fun c14 => ?_) (fun c14 => ?_)
                · skip
                  refine z_iload_n dX3_readNumber_85 rfl ?_
                  exact z_iret F dX3_readNumber_86 rfl (by decide) ⟨congrArg (fun z => some (z_i z)) (by rw [hx.2] <;> omega), by first | rw [fN_t (show nOk n t lo i by unfold nOk; omega)]; exact LHq | rw [fN_f (show ¬ nOk n t lo i by unfold nOk; omega)]; exact LHq⟩
                · skip
                  refine z_aload_n dX3_readNumber_80 rfl ?_
                  refine z_iload_n dX3_readNumber_81 rfl ?_
                  refine pf_X3_9 dX3_readNumber_82 LHa (Nat.le_of_ble_eq_true rfl) ?_
                  refine z_heq LHua ?_
                  refine z_iload_n dX3_readNumber_85 rfl ?_
                  exact z_iret F dX3_readNumber_86 rfl (by decide) ⟨congrArg (fun z => some (z_i z)) (by rw [hx.2] <;> omega), by first | rw [fN_t (show nOk n t lo i by unfold nOk; omega)]; exact LHq | rw [fN_f (show ¬ nOk n t lo i by unfold nOk; omega)]; exact LHq⟩
          · skip
            exfalso
            omega
abbrev z_row : Type := Nat → Int
def oP (n : Nat) (t : Nat → Int) (w : Nat) : z_row → z_row → z_row → z_row → sgT := fun fs fp fn fe => oneP n t fs fp fn fe (sgP n t fs fp fn fe (5 - w))
def lnP (h0 : z_H) (a b s p u e n : Nat) (sg : z_row → z_row → z_row → z_row → sgT) (fs fp fn fe : z_row) (P i : Nat) (r : Bool × rdT) : z_P := fun rv h' => rv = none ∧ ∃ (fs' fp' fn' fe' : z_row) (P' d' i' : Nat) (tl' fl' : Int), h' = LH h0 a b s p u e n fs' fp' fn' fe' P' d' tl' i' fl' ∧ agR 0 P fs fp fn fe fs' fp' fn' fe' ∧
  ((r.1 = true ∧ fl' = -1 ∧ r.2 = (i', P', d', tl') ∧ P ≤ P' ∧ P' ≤ i' ∧ i' ≤ n ∧ d' ≤ 5 ∧ (tl' = 0 ∨ tl' = 1) ∧ sg fs' fp' fn' fe' P P' i i') ∨ (r.1 = false ∧ fl' = (r.2.1 : Int) ∧ r.2.1 ≤ n))
theorem kO_lt {t : Nat → Int} {x y : Nat} (h : kOk (kO t x y)) : x < y := by
  unfold kO at h
  by_cases c1 : y = x + 1
  · omega
  · by_cases c2 : y = x + 2
    · omega
    · rw [if_neg c1, if_neg c2] at h
      have := h.1
      omega
theorem kO_0 {t : Nat → Int} {x : Nat} : kO t x x = -1 := by
  unfold kO
  rw [if_neg (by omega), if_neg (by omega)]
section ZQ
variable {h0 : z_H} {a b s p u e n : Nat} {t fs fp fn fe : Nat → Int} {P d i w : Nat} {tl : Int}
theorem lnw2 {j : Nat} (hE : wEnd n t i = j) (hi : i ≤ n) (hk : kO t i j = -1) {sg : z_row → z_row → z_row → z_row → sgT} {P' d' : Nat} {tl' : Int} {i' : Nat} : lnP h0 a b s p u e n sg fs fp fn fe P i (rdW n t w (i, P, d, tl)) none (LH h0 a b s p u e n fs fp fn fe P' d' tl' i' i) := by
  have hr : rdW n t w (i, P, d, tl) = (false, (i, P + 1, max d w, tl)) := by
    unfold rdW
    show (if kO t i (wEnd n t i) < 0 then _ else _) = _
    rw [hE, hk, if_pos (by decide)]
  rw [hr]
  exact ⟨rfl, _, _, _, _, _, _, _, _, _, rfl, fun _ _ _ => ⟨rfl, rfl, rfl, rfl⟩, Or.inr ⟨rfl, rfl, hi⟩⟩
theorem ag_sf {P : Nat} {c x v y : Int} : agR 0 P fs fp fn fe (z_sf fs P c) (z_sf fp P x) (z_sf fn P v) (z_sf fe P y) := fun j _ h => ⟨z_sf_n (by omega), z_sf_n (by omega), z_sf_n (by omega), z_sf_n (by omega)⟩
theorem lnw0 {j : Nat} (hE : wEnd n t i = j) (hj : j ≤ n) (hP : P ≤ i) (hd : d ≤ 5) (hw : w ≤ 5) (htl : tl = 0 ∨ tl = 1) (hk : kOk (kO t i j)) (hg : ¬ isDg (pe n t j)) : lnP h0 a b s p u e n (oP n t w) fs fp fn fe P i (rdW n t w (i, P, d, tl)) none (LH h0 a b s p u e n (z_sf fs P (kO t i j)) (z_sf fp P i) (z_sf fn P 1) (z_sf fe P ((P + 1 : Nat) : Int)) ((P + 1 : Nat) : Int) ((max d w : Nat) : Int) tl j (-1)) := by
  have hr : rdW n t w (i, P, d, tl) = (true, (j, P + 1, max d w, tl)) := by
    unfold rdW
    show (if kO t i (wEnd n t i) < 0 then _ else if isDg (pe n t (wEnd n t i)) then _ else (true, (wEnd n t i, P + 1, max d w, tl))) = _
    rw [hE, if_neg (by have := hk.1; omega), if_neg hg]
  rw [hr]
  have hl := kO_lt hk
  refine ⟨rfl, _, _, _, _, _, _, _, _, _, rfl, ag_sf, Or.inl ⟨rfl, rfl, rfl, by omega, by omega, hj, by omega, htl, z_sf_s, z_sf_s, Or.inl ⟨rfl, ?_⟩⟩⟩
  unfold oneW
  rw [hE, if_neg hg, z_sf_s, z_sf_s]
  exact ⟨hk, rfl, rfl, rfl⟩
theorem lnw1 {j : Nat} (hE : wEnd n t i = j) (hj : j ≤ n) (hP : P ≤ i) (hd : d ≤ 5) (hw : w ≤ 5) (htl : tl = 0 ∨ tl = 1) (hk : kOk (kO t i j)) (hg : isDg (pe n t j)) : lnP h0 a b s p u e n (oP n t w) fs fp fn fe P i (rdW n t w (i, P, d, tl)) none (LH h0 a b s p u e n (z_sf fs P (kO t i j)) (z_sf fp P i) (z_sf fn P (nV n t j)) (z_sf fe P ((P + 1 : Nat) : Int)) ((P + 1 : Nat) : Int) ((max d w : Nat) : Int) tl ((j + nC n t j : Nat) : Int) (fN n t 1 j)) := by
  have hl := kO_lt hk
  by_cases hn : nOk n t 1 j
  · have hr : rdW n t w (i, P, d, tl) = (true, (j + nC n t j, P + 1, max d w, tl)) := by
      unfold rdW
      show (if kO t i (wEnd n t i) < 0 then _ else if isDg (pe n t (wEnd n t i)) then @ite _ (nOk n t 1 (wEnd n t i)) (Classical.propDecidable _) (true, (wEnd n t i + nC n t (wEnd n t i), P + 1, max d w, tl)) _ else _) = _
      rw [hE, if_neg (by have := hk.1; omega), if_pos hg, if_pos hn]
    rw [hr]
    refine ⟨rfl, _, _, _, _, _, _, _, _, _, rfl, ag_sf, Or.inl ⟨rfl, fN_t hn, rfl, by omega, by omega, nC_n hj, by omega, htl, z_sf_s, z_sf_s, Or.inl ⟨rfl, ?_⟩⟩⟩
    unfold oneW
    rw [hE, if_pos hg, z_sf_s, z_sf_s]
    exact ⟨hk, rfl, hn, rfl, rfl⟩
  · have hr : rdW n t w (i, P, d, tl) = (false, (j, P + 1, max d w, tl)) := by
      unfold rdW
      show (if kO t i (wEnd n t i) < 0 then _ else if isDg (pe n t (wEnd n t i)) then @ite _ (nOk n t 1 (wEnd n t i)) (Classical.propDecidable _) _ (false, (wEnd n t i, P + 1, max d w, tl)) else _) = _
      rw [hE, if_neg (by have := hk.1; omega), if_pos hg, if_neg hn]
    rw [hr]
    exact ⟨rfl, _, _, _, _, _, _, _, _, _, rfl, ag_sf, Or.inr ⟨rfl, fN_f hn, hj⟩⟩
noncomputable def rdX (n : Nat) (t : Nat → Int) (rec : Nat → rdT → Bool × rdT) (w : Nat) (cl lo : Int) (s : rdT) : Bool × rdT := if w < 5 then rdG n t rec w cl lo s else rdW n t w s
theorem lng0 {rec : Nat → rdT → Bool × rdT} {cl lo : Int} (hi : i ≤ n) (hw : ¬ w < 5) (hs : ¬ isLt (pe n t i)) {sg : z_row → z_row → z_row → z_row → sgT} : lnP h0 a b s p u e n sg fs fp fn fe P i (rdX n t rec w cl lo (i, P, d, tl)) none (LH h0 a b s p u e n fs fp fn fe P d tl i i) := by
  unfold rdX
  rw [if_neg hw]
  exact lnw2 (wEnd_0 hs) hi kO_0
variable {so cl lo : Int} {fs' fp' fn' fe' : z_row} {rec : Nat → rdT → Bool × rdT}
theorem ag_g {P : Nat} {c x : Int} (h : agR 0 (P + 1) (z_sf fs P c) (z_sf fp P x) fn fe fs' fp' fn' fe') : agR 0 P fs fp fn fe fs' fp' fn' fe' := fun j h1 h2 => by
  obtain ⟨e1, e2, e3, e4⟩ := h j h1 (by omega)
  exact ⟨e1.trans (z_sf_n (by omega)), e2.trans (z_sf_n (by omega)), e3, e4⟩
theorem lng1 {q : Bool × rdT} (hq : rec (w + 1) (i + 1, P + 1, max d w, tl) = q) (hw : w < 5) (hag : agR 0 (P + 1) (z_sf fs P so) (z_sf fp P i) fn fe fs' fp' fn' fe') (k1 : q.1 = false) {fl' : Int} (k2 : fl' = (q.2.1 : Int)) (k3 : q.2.1 ≤ n) {P' d' i' : Nat} {tl' : Int} {sg : z_row → z_row → z_row → z_row → sgT} : lnP h0 a b s p u e n sg fs fp fn fe P i (rdX n t rec w cl lo (i, P, d, tl)) none (LH h0 a b s p u e n fs' fp' fn' fe' P' d' tl' i' fl') := by
  have hr : rdX n t rec w cl lo (i, P, d, tl) = q := by
    unfold rdX rdG
    rw [if_pos hw]
    show (let q := rec (w + 1) (i + 1, P + 1, max d w, tl); _) = _
    rw [hq]
    show (if q.1 = true then _ else q) = q
    rw [if_neg (by rw [k1]; decide)]
  rw [hr]
  exact ⟨rfl, _, _, _, _, _, _, _, _, _, rfl, ag_g hag, Or.inr ⟨k1, k2, k3⟩⟩
theorem lng2 {P' d' i' : Nat} {tl' : Int} (hq : rec (w + 1) (i + 1, P + 1, max d w, tl) = (true, (i', P', d', tl'))) (hw : w < 5) (hag : agR 0 (P + 1) (z_sf fs P so) (z_sf fp P i) fn fe fs' fp' fn' fe') (hi' : i' ≤ n) (hc : pe n t i' ≠ cl) {sg : z_row → z_row → z_row → z_row → sgT} : lnP h0 a b s p u e n sg fs fp fn fe P i (rdX n t rec w cl lo (i, P, d, tl)) none (LH h0 a b s p u e n fs' fp' fn' fe' P' d' tl' i' i') := by
  have hr : rdX n t rec w cl lo (i, P, d, tl) = (false, (i', P', d', tl')) := by
    unfold rdX rdG
    rw [if_pos hw]
    show (let q := rec (w + 1) (i + 1, P + 1, max d w, tl); _) = _
    rw [hq]
    show (if true = true then if pe n t i' = cl then _ else (false, (i', P', d', tl')) else _) = _
    rw [if_pos rfl, if_neg hc]
  rw [hr]
  exact ⟨rfl, _, _, _, _, _, _, _, _, _, rfl, ag_g hag, Or.inr ⟨rfl, rfl, hi'⟩⟩
theorem lng3 {P' d' i' : Nat} {tl' : Int} (hso : (so = 1 ∧ cl = 41 ∧ lo = 1 ∧ pe n t i = 40) ∨ (so = 2 ∧ cl = 62 ∧ lo = 0 ∧ pe n t i = 60)) (hq : rec (w + 1) (i + 1, P + 1, max d w, tl) = (true, (i', P', d', tl'))) (hw : w < 5) (hag : agR 0 (P + 1) (z_sf fs P so) (z_sf fp P i) fn fe fs' fp' fn' fe') (hi' : i' < n) (hPP : P + 1 ≤ P' ∧ P' ≤ i') (hd : d' ≤ 5) (htl : tl' = 0 ∨ tl' = 1) (hc : pe n t i' = cl) (hsg : sgP n t fs' fp' fn' fe' (6 - (w + 1)) (P + 1) P' (i + 1) i') :
    lnP h0 a b s p u e n (oP n t w) fs fp fn fe P i (rdX n t rec w cl lo (i, P, d, tl)) none (LH h0 a b s p u e n fs' fp' (z_sf fn' P (nV n t (i' + 1))) (z_sf fe' P P') P' d' tl' ((i' + 1 + nC n t (i' + 1) : Nat) : Int) (fN n t lo (i' + 1))) := by
  have hr0 : rdX n t rec w cl lo (i, P, d, tl) = @ite _ (nOk n t lo (i' + 1)) (Classical.propDecidable _) (true, (i' + 1 + nC n t (i' + 1), P', d', tl')) (false, (i' + 1, P', d', tl')) := by
    unfold rdX rdG
    rw [if_pos hw]
    show (let q := rec (w + 1) (i + 1, P + 1, max d w, tl); _) = _
    rw [hq]
    show (if true = true then if pe n t i' = cl then @ite _ (nOk n t lo (i' + 1)) (Classical.propDecidable _) (true, (i' + 1 + nC n t (i' + 1), P', d', tl')) (false, (i' + 1, P', d', tl')) else _ else _) = _
    rw [if_pos rfl, if_pos hc]
  have hag2 : agR 0 P fs fp fn fe fs' fp' (z_sf fn' P (nV n t (i' + 1))) (z_sf fe' P P') := fun j h1 h2 => by
    obtain ⟨e1, e2, e3, e4⟩ := ag_g hag j h1 h2
    exact ⟨e1, e2, (z_sf_n (by omega)).trans e3, (z_sf_n (by omega)).trans e4⟩
  rw [hr0]
  by_cases hn : nOk n t lo (i' + 1)
  · rw [if_pos hn]
    obtain ⟨e1, e2, -⟩ := hag P (Nat.zero_le _) (by omega)
    refine ⟨rfl, _, _, _, _, _, _, _, _, _, rfl, hag2, Or.inl ⟨rfl, fN_t hn, rfl, by omega, by omega, nC_n (by omega), hd, htl, e2.trans z_sf_s, z_sf_s, Or.inr ⟨?_, i', ?_, ?_, ?_, rfl, z_sf_s⟩⟩⟩
    · rw [e1, z_sf_s]
      omega
    · have h5 : 6 - (w + 1) = 5 - w := by omega
      rw [h5] at hsg
      exact sgP_ag _ _ _ _ _ (fun j h1 h2 => ⟨rfl, rfl, z_sf_n (by omega), z_sf_n (by omega)⟩) hsg
    · rw [e1, z_sf_s, hc]
      split <;> omega
    · rw [e1, z_sf_s]
      have e : (if so = 1 then (1 : Int) else 0) = lo := by split <;> omega
      rw [e]
      exact hn
  · rw [if_neg hn]
    exact ⟨rfl, _, _, _, _, _, _, _, _, _, rfl, hag2, Or.inr ⟨rfl, fN_f hn, (show i' + 1 ≤ n by omega)⟩⟩
end ZQ
set_option maxHeartbeats 400000 in
set_option maxRecDepth 100000 in
theorem D_X3_readWord {g : z_G} {h0 : z_H} {a b s p u e n : Nat} {t : Nat → Int} (hD : lD h0 a b s p u e n t) {fs fp fn fe : Nat → Int} {P d i : Nat} {tl : Int} {w : Nat} (hw : w ≤ 5) (hd : d ≤ 5) (hP : P ≤ i) (htl : tl = 0 ∨ tl = 1) (hil : isLt (pe n t i)) : z_D g mX3_readWord 7 0 0 [z_r a, z_i (w : Int)] (LH h0 a b s p u e n fs fp fn fe (P : Int) (d : Int) tl (i : Int) (-1)) (lnP h0 a b s p u e n (oP n t w) fs fp fn fe P i (rdW n t w (i, P, d, tl))) := by
  refine z_D.of (by decide +kernel) (Nat.le_of_ble_eq_true rfl) (fun X F => ?_)
  have h7 := hD.2.2.2.2.2.2.1
  have h8 := hD.2.2.2.2.2.2.2
  have hin := pe_lt (n := n) (t := t) (a := i) (by omega)
  show z_w g X cX3_readWord RX3 (7, 0, 0) 0 [z_r a, z_i (w : Int), z_u, z_u, z_u] [] (LH h0 a b s p u e n fs fp fn fe (P : Int) (d : Int) tl (i : Int) (-1)) 0 0
  refine z_aload_n dX3_readWord_0 rfl ?_
  refine gf_X3_53 dX3_readWord_1 LHa rfl ?_
  refine z_istore_n dX3_readWord_4 (Nat.le_of_ble_eq_true rfl) rfl ?_
  have L4 : ∀ (fu : Nat) (j : Nat) (h5x : i ≤ j ∧ j ≤ n) (h9 : wEnd n t j = wEnd n t i), n - j < fu → z_w g X cX3_readWord RX3 (7, 0, 0) 5 [z_r a, z_i (w : Int), z_i (i : Int), z_u, z_u] [] (LH h0 a b s p u e n fs fp fn fe (P : Int) (d : Int) tl (j : Int) (-1)) 0 0 := by
    intro fu
    induction fu with
    | zero => intro j h5x h9 hm; exact absurd hm (Nat.not_lt_zero _)
    | succ fu ih =>
      intro j h5x h9 hm
      refine z_aload_n dX3_readWord_5 rfl ?_
      refine gf_X3_53 dX3_readWord_6 LHa rfl ?_
      refine z_aload_n dX3_readWord_9 rfl ?_
      refine gf_X3_30 dX3_readWord_10 LHa rfl ?_
      refine z_alenI dX3_readWord_13 (LHb hD) ?_
      refine z_icmp_ge dX3_readWord_14 (tgt := 44) rfl ⟨by omega, by omega⟩ ⟨by omega, by omega⟩ (fun c1 => ?_) (fun c1 => ?_)
      · skip
        have nl : ¬ isLt (pe n t j) := by rw [pe_out (by omega)]; omega
        have hE : wEnd n t i = j := by rw [← h9, wEnd_0 nl]
        have b0 := pe_b h8 j
        refine z_aload_n dX3_readWord_44 rfl ?_
        refine z_iload_n dX3_readWord_45 rfl ?_
        refine z_aload_n dX3_readWord_46 rfl ?_
        refine gf_X3_53 dX3_readWord_47 LHa rfl ?_
        refine cs_X3_78 dX3_readWord_50 (D_X3_kindSpelled (LHo hD) (x := i) (y := j) ⟨by omega, by omega⟩) LHa rfl rfl (Nat.le_of_ble_eq_true rfl) (by decide) (z_ki ?_)
        refine z_istore_n dX3_readWord_53 (Nat.le_of_ble_eq_true rfl) rfl ?_
        refine z_iload_n dX3_readWord_54 rfl ?_
        refine z_iconst dX3_readWord_55 ?_
        refine z_icmp_ne dX3_readWord_56 (tgt := 65) rfl (by rcases kO_in (t := t) (x := i) (y := j) with q | q; rw [q]; exact ⟨by omega, by omega⟩; exact ⟨by have := q.1; omega, by have := q.2; omega⟩) (by decide) (fun c2 => ?_) (fun c2 => ?_)
        · skip
          have ok := kO_in.resolve_left c2
          refine z_aload_n dX3_readWord_65 rfl ?_
          refine z_iload_n dX3_readWord_66 rfl ?_
          refine z_iload_n dX3_readWord_67 rfl ?_
          refine z_iload_n dX3_readWord_68 rfl ?_
          refine cs_X3_81 dX3_readWord_69 (D_X3_openPart hD (by omega) (by omega) hw) LHa rfl rfl (Nat.le_of_ble_eq_true rfl) (by decide) (z_ki ?_)
          refine z_istore dX3_readWord_72 (Nat.le_of_ble_eq_true rfl) rfl ?_
          refine z_aload_n dX3_readWord_74 rfl ?_
          refine z_iload dX3_readWord_75 rfl ?_
          refine z_aload_n dX3_readWord_77 rfl ?_
          refine z_aload_n dX3_readWord_78 rfl ?_
          refine gf_X3_53 dX3_readWord_79 LHa rfl ?_
          refine cs_X3_59 dX3_readWord_82 (D_X3_byteAt_n (LHo hD) (j := j) (by omega) (by omega)) LHa rfl rfl (Nat.le_of_ble_eq_true rfl) (by decide) (z_ki ?_)
          refine cs_X3_85 dX3_readWord_85 (D_X3_isDigit (c := pe n t j) ⟨by omega, by omega⟩) rfl rfl (Nat.le_of_ble_eq_true rfl) (by decide) (z_ki ?_)
          refine z_if_eq dX3_readWord_88 (tgt := 99) rfl ⟨by split <;> omega, by split <;> omega⟩ (fun c3 => ?_) (fun c3 => ?_)
          · skip
            have dg : ¬ isDg (pe n t j) := by omega
            refine z_iconst dX3_readWord_99 ?_
            refine cs_X3_91 dX3_readWord_100 (D_X3_closePart hD (j := P) (by omega)) LHa rfl rfl (Nat.le_of_ble_eq_true rfl) (by decide) (z_kv ?_)
            exact z_vret F dX3_readWord_103 rfl ⟨Nat.le_refl _, Nat.le_refl _⟩ (lnw0 hE (by omega) hP hd hw htl ok dg)
          · skip
            have dg : isDg (pe n t j) := by omega
            refine z_aload_n dX3_readWord_91 rfl ?_
            refine z_iconst dX3_readWord_92 ?_
            refine cs_X3_88 dX3_readWord_93 (D_X3_readNumber hD (i := j) (by omega) (Or.inr rfl)) LHa rfl rfl (Nat.le_of_ble_eq_true rfl) (by decide) (z_ki ?_)
            refine z_goto dX3_readWord_96 (tgt := 100) rfl ?_
            refine cs_X3_91 dX3_readWord_100 (D_X3_closePart hD (j := P) (by omega)) LHa rfl rfl (Nat.le_of_ble_eq_true rfl) (by decide) (z_kv ?_)
            exact z_vret F dX3_readWord_103 rfl ⟨Nat.le_refl _, Nat.le_refl _⟩ (lnw1 hE (by omega) hP hd hw htl ok dg)
        · skip
          have k1 := c2
          refine z_aload_n dX3_readWord_59 rfl ?_
          refine z_iload_n dX3_readWord_60 rfl ?_
          refine pf_X3_9 dX3_readWord_61 LHa (Nat.le_of_ble_eq_true rfl) ?_
          refine z_heq LHua ?_
          exact z_vret F dX3_readWord_64 rfl ⟨Nat.le_refl _, Nat.le_refl _⟩ (lnw2 hE (by omega) k1)
      · skip
        have b0 := pe_b h8 j
        refine z_aload_n dX3_readWord_17 rfl ?_
        refine z_aload_n dX3_readWord_18 rfl ?_
        refine gf_X3_53 dX3_readWord_19 LHa rfl ?_
        refine cs_X3_59 dX3_readWord_22 (D_X3_byteAt_n (LHo hD) (j := j) (by omega) (by omega)) LHa rfl rfl (Nat.le_of_ble_eq_true rfl) (by decide) (z_ki ?_)
        refine cs_X3_63 dX3_readWord_25 (D_X3_isLetter (c := pe n t j) ⟨by omega, by omega⟩) rfl rfl (Nat.le_of_ble_eq_true rfl) (by decide) (z_ki ?_)
        refine z_if_eq dX3_readWord_28 (tgt := 44) rfl ⟨by split <;> omega, by split <;> omega⟩ (fun c4 => ?_) (fun c4 => ?_)
        · skip
          have nl : ¬ isLt (pe n t j) := by omega
          have hE : wEnd n t i = j := by rw [← h9, wEnd_0 nl]
          refine z_aload_n dX3_readWord_44 rfl ?_
          refine z_iload_n dX3_readWord_45 rfl ?_
          refine z_aload_n dX3_readWord_46 rfl ?_
          refine gf_X3_53 dX3_readWord_47 LHa rfl ?_
          refine cs_X3_78 dX3_readWord_50 (D_X3_kindSpelled (LHo hD) (x := i) (y := j) ⟨by omega, by omega⟩) LHa rfl rfl (Nat.le_of_ble_eq_true rfl) (by decide) (z_ki ?_)
          refine z_istore_n dX3_readWord_53 (Nat.le_of_ble_eq_true rfl) rfl ?_
          refine z_iload_n dX3_readWord_54 rfl ?_
          refine z_iconst dX3_readWord_55 ?_
          refine z_icmp_ne dX3_readWord_56 (tgt := 65) rfl (by rcases kO_in (t := t) (x := i) (y := j) with q | q; rw [q]; exact ⟨by omega, by omega⟩; exact ⟨by have := q.1; omega, by have := q.2; omega⟩) (by decide) (fun c5 => ?_) (fun c5 => ?_)
          · skip
            have ok := kO_in.resolve_left c5
            refine z_aload_n dX3_readWord_65 rfl ?_
            refine z_iload_n dX3_readWord_66 rfl ?_
            refine z_iload_n dX3_readWord_67 rfl ?_
            refine z_iload_n dX3_readWord_68 rfl ?_
            refine cs_X3_81 dX3_readWord_69 (D_X3_openPart hD (by omega) (by omega) hw) LHa rfl rfl (Nat.le_of_ble_eq_true rfl) (by decide) (z_ki ?_)
            refine z_istore dX3_readWord_72 (Nat.le_of_ble_eq_true rfl) rfl ?_
            refine z_aload_n dX3_readWord_74 rfl ?_
            refine z_iload dX3_readWord_75 rfl ?_
            refine z_aload_n dX3_readWord_77 rfl ?_
            refine z_aload_n dX3_readWord_78 rfl ?_
            refine gf_X3_53 dX3_readWord_79 LHa rfl ?_
            refine cs_X3_59 dX3_readWord_82 (D_X3_byteAt_n (LHo hD) (j := j) (by omega) (by omega)) LHa rfl rfl (Nat.le_of_ble_eq_true rfl) (by decide) (z_ki ?_)
            refine cs_X3_85 dX3_readWord_85 (D_X3_isDigit (c := pe n t j) ⟨by omega, by omega⟩) rfl rfl (Nat.le_of_ble_eq_true rfl) (by decide) (z_ki ?_)
            refine z_if_eq dX3_readWord_88 (tgt := 99) rfl ⟨by split <;> omega, by split <;> omega⟩ (fun c6 => ?_) (fun c6 => ?_)
            · skip
              have dg : ¬ isDg (pe n t j) := by omega
              refine z_iconst dX3_readWord_99 ?_
              refine cs_X3_91 dX3_readWord_100 (D_X3_closePart hD (j := P) (by omega)) LHa rfl rfl (Nat.le_of_ble_eq_true rfl) (by decide) (z_kv ?_)
              exact z_vret F dX3_readWord_103 rfl ⟨Nat.le_refl _, Nat.le_refl _⟩ (lnw0 hE (by omega) hP hd hw htl ok dg)
            · skip
              have dg : isDg (pe n t j) := by omega
              refine z_aload_n dX3_readWord_91 rfl ?_
              refine z_iconst dX3_readWord_92 ?_
              refine cs_X3_88 dX3_readWord_93 (D_X3_readNumber hD (i := j) (by omega) (Or.inr rfl)) LHa rfl rfl (Nat.le_of_ble_eq_true rfl) (by decide) (z_ki ?_)
              refine z_goto dX3_readWord_96 (tgt := 100) rfl ?_
              refine cs_X3_91 dX3_readWord_100 (D_X3_closePart hD (j := P) (by omega)) LHa rfl rfl (Nat.le_of_ble_eq_true rfl) (by decide) (z_kv ?_)
              exact z_vret F dX3_readWord_103 rfl ⟨Nat.le_refl _, Nat.le_refl _⟩ (lnw1 hE (by omega) hP hd hw htl ok dg)
          · skip
            have k1 := c5
            refine z_aload_n dX3_readWord_59 rfl ?_
            refine z_iload_n dX3_readWord_60 rfl ?_
            refine pf_X3_9 dX3_readWord_61 LHa (Nat.le_of_ble_eq_true rfl) ?_
            refine z_heq LHua ?_
            exact z_vret F dX3_readWord_64 rfl ⟨Nat.le_refl _, Nat.le_refl _⟩ (lnw2 hE (by omega) k1)
        · skip
          have il : isLt (pe n t j) := by omega
          refine z_aload_n dX3_readWord_31 rfl ?_
          refine z_dup dX3_readWord_32 rfl ?_
          refine gf_X3_53 dX3_readWord_33 LHa rfl ?_
          refine z_iconst dX3_readWord_36 ?_
          refine z_iadd dX3_readWord_37 ?_
          refine pf_X3_53 dX3_readWord_38 LHa (Nat.le_of_ble_eq_true rfl) ?_
          refine z_heq LHua ?_
          refine z_goto dX3_readWord_41 (tgt := 5) rfl ?_
          exact ih (j + 1) (by omega) ((wEnd_s il).symm.trans h9) (by omega)
  exact L4 (n + 1) i ⟨Nat.le_refl _, by omega⟩ rfl (by omega)
