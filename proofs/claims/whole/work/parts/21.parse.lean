/-! Line: what reads the text -/
theorem nX0 {n : Nat} {t : Nat → Int} {a : Nat} (h : ¬ isDg (pe n t a)) : nC n t a = 0 ∧ nV n t a = 0 := ⟨if_neg h, if_neg h⟩
theorem nX1 {n : Nat} {t : Nat → Int} {a : Nat} (h : isDg (pe n t a)) (h1 : ¬ isDg (pe n t (a + 1))) : nC n t a = 1 ∧ nV n t a = pe n t a - 48 := ⟨by unfold nC; rw [if_pos h, if_neg h1], by unfold nV; rw [if_pos h, if_neg h1]⟩
theorem nX2 {n : Nat} {t : Nat → Int} {a : Nat} (h : isDg (pe n t a)) (h1 : isDg (pe n t (a + 1))) : nC n t a = 2 ∧ nV n t a = 10 * (pe n t a - 48) + (pe n t (a + 1) - 48) := ⟨by unfold nC; rw [if_pos h, if_pos h1], by unfold nV; rw [if_pos h, if_pos h1]⟩
theorem nC_n {n : Nat} {t : Nat → Int} {a : Nat} (h : a ≤ n) : a + nC n t a ≤ n := by
  by_cases c0 : isDg (pe n t a)
  · have a0 := pe_lt (n := n) (t := t) (a := a) (by omega)
    by_cases c1 : isDg (pe n t (a + 1))
    · have a1 := pe_lt (n := n) (t := t) (a := a + 1) (by omega)
      rw [(nX2 c0 c1).1]
      omega
    · rw [(nX1 c0 c1).1]
      omega
  · rw [(nX0 c0).1]
    omega
noncomputable def fN (n : Nat) (t : Nat → Int) (lo : Int) (a : Nat) : Int := @ite _ (nOk n t lo a) (Classical.propDecidable _) (-1) (a : Int)
theorem fN_t {n : Nat} {t : Nat → Int} {lo : Int} {a : Nat} (h : nOk n t lo a) : fN n t lo a = -1 := if_pos h
theorem fN_f {n : Nat} {t : Nat → Int} {lo : Int} {a : Nat} (h : ¬ nOk n t lo a) : fN n t lo a = (a : Int) := if_neg h
theorem z_sf_s {f : Nat → Int} {k : Nat} {x : Int} : z_sf f k x k = x := if_pos rfl
theorem z_sf_n {f : Nat → Int} {k j : Nat} {x : Int} (h : j ≠ k) : z_sf f k x j = f j := if_neg h
theorem z_mx {d w : Nat} : (if (d : Int) < (w : Int) then (w : Int) else (d : Int)) = ((max d w : Nat) : Int) := by split <;> omega
set_option maxHeartbeats 4000000 in
set_option maxRecDepth 100000 in
theorem D_X3_openPart {g : z_G} {h0 : z_H} {a b s p u e n : Nat} {t : Nat → Int} (hD : lD h0 a b s p u e n t) {fs fp fn fe : Nat → Int} {P d i : Nat} {tl fl : Int} (hP : P < n) (hd : d ≤ 250) {c x : Int} {w : Nat} (hw : w ≤ 5) : z_D g mX3_openPart 1 0 0 [z_r a, z_i c, z_i x, z_i (w : Int)] (LH h0 a b s p u e n fs fp fn fe (P : Int) (d : Int) tl (i : Int) fl) (fun rv h' => rv = some (z_i (P : Int)) ∧ h' = (LH h0 a b s p u e n (z_sf fs P c) (z_sf fp P x) fn fe ((P + 1 : Nat) : Int) ((max d w : Nat) : Int) tl (i : Int) fl)) := by
  refine z_D.of (by decide +kernel) (Nat.le_of_ble_eq_true rfl) (fun X F => ?_)
  show z_w g X cX3_openPart RX3 (1, 0, 0) 0 [z_r a, z_i c, z_i x, z_i (w : Int), z_u] [] (LH h0 a b s p u e n fs fp fn fe (P : Int) (d : Int) tl (i : Int) fl) 0 0
  have h7 := hD.2.2.2.2.2.2.1
  have h8 := hD.2.2.2.2.2.2.2
  refine z_aload_n dX3_openPart_0 rfl ?_
  refine gf_X3_46 dX3_openPart_1 LHa rfl ?_
  refine z_istore dX3_openPart_4 (Nat.le_of_ble_eq_true rfl) rfl ?_
  refine z_iload dX3_openPart_6 rfl ?_
  refine z_if_lt dX3_openPart_8 (tgt := 57) rfl ⟨by omega, by omega⟩ (fun c1 => ?_) (fun c1 => ?_)
  · skip
    exfalso
    omega
  · skip
    refine z_iload dX3_openPart_11 rfl ?_
    refine z_aload_n dX3_openPart_13 rfl ?_
    refine gf_X3_34 dX3_openPart_14 LHa rfl ?_
    refine z_alenI dX3_openPart_17 (LHs hD) ?_
    refine z_icmp_ge dX3_openPart_18 (tgt := 57) rfl ⟨by omega, by omega⟩ ⟨by omega, by omega⟩ (fun c2 => ?_) (fun c2 => ?_)
    · skip
      exfalso
      omega
    · skip
      refine z_iload dX3_openPart_21 rfl ?_
      refine z_aload_n dX3_openPart_23 rfl ?_
      refine gf_X3_37 dX3_openPart_24 LHa rfl ?_
      refine z_alenI dX3_openPart_27 (LHp hD) ?_
      refine z_icmp_ge dX3_openPart_28 (tgt := 57) rfl ⟨by omega, by omega⟩ ⟨by omega, by omega⟩ (fun c3 => ?_) (fun c3 => ?_)
      · skip
        exfalso
        omega
      · skip
        refine z_aload_n dX3_openPart_31 rfl ?_
        refine gf_X3_34 dX3_openPart_32 LHa rfl ?_
        refine z_iload dX3_openPart_35 rfl ?_
        refine z_iload_n dX3_openPart_37 rfl ?_
        refine z_iast dX3_openPart_38 (LHs hD) ⟨by omega, by omega, by omega⟩ ?_
        refine z_heq (LHus hD) ?_
        refine z_aload_n dX3_openPart_39 rfl ?_
        refine gf_X3_37 dX3_openPart_40 LHa rfl ?_
        refine z_iload dX3_openPart_43 rfl ?_
        refine z_iload_n dX3_openPart_45 rfl ?_
        refine z_iast dX3_openPart_46 (LHp hD) ⟨by omega, by omega, by omega⟩ ?_
        refine z_heq (LHup hD) ?_
        refine z_aload_n dX3_openPart_47 rfl ?_
        refine z_dup dX3_openPart_48 rfl ?_
        refine gf_X3_46 dX3_openPart_49 LHa rfl ?_
        refine z_iconst dX3_openPart_52 ?_
        refine z_iadd dX3_openPart_53 ?_
        refine pf_X3_46 dX3_openPart_54 LHa (Nat.le_of_ble_eq_true rfl) ?_
        refine z_heq LHua ?_
        refine z_aload_n dX3_openPart_57 rfl ?_
        refine z_aload_n dX3_openPart_58 rfl ?_
        refine gf_X3_95 dX3_openPart_59 LHa rfl ?_
        refine z_iload_n dX3_openPart_62 rfl ?_
        refine mm_X3_21 dX3_openPart_63 ⟨by omega, by omega⟩ ⟨by omega, by omega⟩ (by decide) (Nat.le_of_ble_eq_true rfl) ?_
        refine z_ieq z_mx ?_
        refine pf_X3_95 dX3_openPart_66 LHa (Nat.le_of_ble_eq_true rfl) ?_
        refine z_heq LHua ?_
        refine z_iload dX3_openPart_69 rfl ?_
        exact z_iret F dX3_openPart_71 rfl (by decide) ⟨rfl, rfl⟩
set_option maxHeartbeats 4000000 in
set_option maxRecDepth 100000 in
theorem D_X3_closePart {g : z_G} {h0 : z_H} {a b s p u e n : Nat} {t : Nat → Int} (hD : lD h0 a b s p u e n t) {fs fp fn fe : Nat → Int} {P d i : Nat} {tl fl : Int} {j : Nat} (hj : j < n) {v : Int} : z_D g mX3_closePart 1 0 0 [z_r a, z_i (j : Int), z_i v] (LH h0 a b s p u e n fs fp fn fe (P : Int) (d : Int) tl (i : Int) fl) (z_Pv (LH h0 a b s p u e n fs fp (z_sf fn j v) (z_sf fe j P) (P : Int) (d : Int) tl (i : Int) fl)) := by
  refine z_D.of (by decide +kernel) (Nat.le_of_ble_eq_true rfl) (fun X F => ?_)
  show z_w g X cX3_closePart RX3 (1, 0, 0) 0 [z_r a, z_i (j : Int), z_i v] [] (LH h0 a b s p u e n fs fp fn fe (P : Int) (d : Int) tl (i : Int) fl) 0 0
  have h7 := hD.2.2.2.2.2.2.1
  have h8 := hD.2.2.2.2.2.2.2
  refine z_iload_n dX3_closePart_0 rfl ?_
  refine z_if_lt dX3_closePart_1 (tgt := 39) rfl ⟨by omega, by omega⟩ (fun c1 => ?_) (fun c1 => ?_)
  · skip
    exfalso
    omega
  · skip
    refine z_iload_n dX3_closePart_4 rfl ?_
    refine z_aload_n dX3_closePart_5 rfl ?_
    refine gf_X3_40 dX3_closePart_6 LHa rfl ?_
    refine z_alenI dX3_closePart_9 (LHu hD) ?_
    refine z_icmp_ge dX3_closePart_10 (tgt := 39) rfl ⟨by omega, by omega⟩ ⟨by omega, by omega⟩ (fun c2 => ?_) (fun c2 => ?_)
    · skip
      exfalso
      omega
    · skip
      refine z_iload_n dX3_closePart_13 rfl ?_
      refine z_aload_n dX3_closePart_14 rfl ?_
      refine gf_X3_43 dX3_closePart_15 LHa rfl ?_
      refine z_alenI dX3_closePart_18 (LHe hD) ?_
      refine z_icmp_ge dX3_closePart_19 (tgt := 39) rfl ⟨by omega, by omega⟩ ⟨by omega, by omega⟩ (fun c3 => ?_) (fun c3 => ?_)
      · skip
        exfalso
        omega
      · skip
        refine z_aload_n dX3_closePart_22 rfl ?_
        refine gf_X3_40 dX3_closePart_23 LHa rfl ?_
        refine z_iload_n dX3_closePart_26 rfl ?_
        refine z_iload_n dX3_closePart_27 rfl ?_
        refine z_iast dX3_closePart_28 (LHu hD) ⟨by omega, by omega, by omega⟩ ?_
        refine z_heq (LHuu hD) ?_
        refine z_aload_n dX3_closePart_29 rfl ?_
        refine gf_X3_43 dX3_closePart_30 LHa rfl ?_
        refine z_iload_n dX3_closePart_33 rfl ?_
        refine z_aload_n dX3_closePart_34 rfl ?_
        refine gf_X3_46 dX3_closePart_35 LHa rfl ?_
        refine z_iast dX3_closePart_38 (LHe hD) ⟨by omega, by omega, by omega⟩ ?_
        refine z_heq (LHue hD) ?_
        exact z_vret F dX3_closePart_39 rfl (by decide) ⟨rfl, rfl⟩
set_option maxHeartbeats 4000000 in
set_option maxRecDepth 100000 in
theorem D_X3_readNumber {g : z_G} {h0 : z_H} {a b s p u e n : Nat} {t : Nat → Int} (hD : lD h0 a b s p u e n t) {fs fp fn fe : Nat → Int} {P d i : Nat} {tl : Int} (hi : i ≤ n) {lo : Int} (hlo : lo = 0 ∨ lo = 1) : z_D g mX3_readNumber 2 0 0 [z_r a, z_i lo] (LH h0 a b s p u e n fs fp fn fe (P : Int) (d : Int) tl (i : Int) (-1)) (fun rv h' => rv = some (z_i (nV n t i)) ∧ h' = (LH h0 a b s p u e n fs fp fn fe (P : Int) (d : Int) tl ((i + nC n t i : Nat) : Int) (fN n t lo i))) := by
  refine z_D.of (by decide +kernel) (Nat.le_of_ble_eq_true rfl) (fun X F => ?_)
  have h7 := hD.2.2.2.2.2.2.1
  have h8 := hD.2.2.2.2.2.2.2
  have b0 := pe_b h8 i
  have b1 := pe_b h8 (i + 1)
  show z_w g X cX3_readNumber RX3 (2, 0, 0) 0 [z_r a, z_i lo, z_u, z_u] [] (LH h0 a b s p u e n fs fp fn fe (P : Int) (d : Int) tl (i : Int) (-1)) 0 0
  refine z_aload_n dX3_readNumber_0 rfl ?_
  refine gf_X3_53 dX3_readNumber_1 LHa rfl ?_
  refine z_istore_n dX3_readNumber_4 (Nat.le_of_ble_eq_true rfl) rfl ?_
  refine z_iconst dX3_readNumber_5 ?_
  refine z_istore_n dX3_readNumber_6 (Nat.le_of_ble_eq_true rfl) rfl ?_
  refine z_aload_n dX3_readNumber_7 rfl ?_
  refine gf_X3_53 dX3_readNumber_8 LHa rfl ?_
  refine z_iload_n dX3_readNumber_11 rfl ?_
  refine z_iconst dX3_readNumber_12 ?_
  refine z_iadd dX3_readNumber_13 ?_
  refine z_icmp_ge dX3_readNumber_14 (tgt := 61) rfl ⟨by omega, by omega⟩ ⟨by omega, by omega⟩ (fun c1 => ?_) (fun c1 => ?_)
  · skip
    exfalso
    omega
  · skip
    refine z_aload_n dX3_readNumber_17 rfl ?_
    refine z_aload_n dX3_readNumber_18 rfl ?_
    refine gf_X3_53 dX3_readNumber_19 LHa rfl ?_
    refine cs_X3_59 dX3_readNumber_22 (D_X3_byteAt_n (LHo hD) (j := i) (by omega) (by omega)) LHa rfl rfl (Nat.le_of_ble_eq_true rfl) (by decide) (z_ki ?_)
    refine cs_X3_85 dX3_readNumber_25 (D_X3_isDigit (c := pe n t i) ⟨by omega, by omega⟩) rfl rfl (Nat.le_of_ble_eq_true rfl) (by decide) (z_ki ?_)
    refine z_if_eq dX3_readNumber_28 (tgt := 61) rfl ⟨by split <;> omega, by split <;> omega⟩ (fun c2 => ?_) (fun c2 => ?_)
    · skip
      have q0 : ¬ isDg (pe n t i) := by omega
      have hx := nX0 q0
      refine z_aload_n dX3_readNumber_61 rfl ?_
      refine gf_X3_53 dX3_readNumber_62 LHa rfl ?_
      refine z_iload_n dX3_readNumber_65 rfl ?_
      refine z_icmp_eq dX3_readNumber_66 (tgt := 80) rfl ⟨by omega, by omega⟩ ⟨by omega, by omega⟩ (fun c3 => ?_) (fun c3 => ?_)
      · skip
        refine z_aload_n dX3_readNumber_80 rfl ?_
        refine z_iload_n dX3_readNumber_81 rfl ?_
        refine pf_X3_9 dX3_readNumber_82 LHa (Nat.le_of_ble_eq_true rfl) ?_
        refine z_heq LHua ?_
        refine z_iload_n dX3_readNumber_85 rfl ?_
        exact z_iret F dX3_readNumber_86 rfl (by decide) ⟨congrArg (fun z => some (z_i z)) (by rw [hx.2] <;> omega), by first | rw [fN_t (show nOk n t lo i by unfold nOk; omega)]; exact LHq | rw [fN_f (show ¬ nOk n t lo i by unfold nOk; omega)]; exact LHq⟩
      · skip
        refine z_iload_n dX3_readNumber_69 rfl ?_
        refine z_iload_n dX3_readNumber_70 rfl ?_
        refine z_icmp_lt dX3_readNumber_71 (tgt := 80) rfl (by decide) ⟨by omega, by omega⟩ (fun c4 => ?_) (fun c4 => ?_)
        · skip
          refine z_aload_n dX3_readNumber_80 rfl ?_
          refine z_iload_n dX3_readNumber_81 rfl ?_
          refine pf_X3_9 dX3_readNumber_82 LHa (Nat.le_of_ble_eq_true rfl) ?_
          refine z_heq LHua ?_
          refine z_iload_n dX3_readNumber_85 rfl ?_
          exact z_iret F dX3_readNumber_86 rfl (by decide) ⟨congrArg (fun z => some (z_i z)) (by rw [hx.2] <;> omega), by first | rw [fN_t (show nOk n t lo i by unfold nOk; omega)]; exact LHq | rw [fN_f (show ¬ nOk n t lo i by unfold nOk; omega)]; exact LHq⟩
        · skip
          refine z_iload_n dX3_readNumber_74 rfl ?_
          refine z_bipush dX3_readNumber_75 rfl ?_
          refine z_icmp_le dX3_readNumber_77 (tgt := 85) rfl (by decide) (by decide) (fun c5 => ?_) (fun c5 => ?_)
          · skip
            refine z_iload_n dX3_readNumber_85 rfl ?_
            exact z_iret F dX3_readNumber_86 rfl (by decide) ⟨congrArg (fun z => some (z_i z)) (by rw [hx.2] <;> omega), by first | rw [fN_t (show nOk n t lo i by unfold nOk; omega)]; exact LHq | rw [fN_f (show ¬ nOk n t lo i by unfold nOk; omega)]; exact LHq⟩
          · exact absurd c5 (by decide)
    · skip
      have q0 : isDg (pe n t i) := by omega
      refine z_iload_n dX3_readNumber_31 rfl ?_
      refine z_bipush dX3_readNumber_32 rfl ?_
      refine z_imul dX3_readNumber_34 ?_
      refine z_aload_n dX3_readNumber_35 rfl ?_
      refine z_aload_n dX3_readNumber_36 rfl ?_
      refine gf_X3_53 dX3_readNumber_37 LHa rfl ?_
      refine cs_X3_59 dX3_readNumber_40 (D_X3_byteAt_n (LHo hD) (j := i) (by omega) (by omega)) LHa rfl rfl (Nat.le_of_ble_eq_true rfl) (by decide) (z_ki ?_)
      refine z_iadd dX3_readNumber_43 ?_
      refine z_bipush dX3_readNumber_44 rfl ?_
      refine z_isub dX3_readNumber_46 ?_
      refine z_istore_n dX3_readNumber_47 (Nat.le_of_ble_eq_true rfl) rfl ?_
      refine z_aload_n dX3_readNumber_48 rfl ?_
      refine z_dup dX3_readNumber_49 rfl ?_
      refine gf_X3_53 dX3_readNumber_50 LHa rfl ?_
      refine z_iconst dX3_readNumber_53 ?_
      refine z_iadd dX3_readNumber_54 ?_
      refine pf_X3_53 dX3_readNumber_55 LHa (Nat.le_of_ble_eq_true rfl) ?_
      refine z_heq LHua ?_
      refine z_goto dX3_readNumber_58 (tgt := 7) rfl ?_
      refine z_aload_n dX3_readNumber_7 rfl ?_
      refine gf_X3_53 dX3_readNumber_8 LHa rfl ?_
      refine z_iload_n dX3_readNumber_11 rfl ?_
      refine z_iconst dX3_readNumber_12 ?_
      refine z_iadd dX3_readNumber_13 ?_
      refine z_icmp_ge dX3_readNumber_14 (tgt := 61) rfl ⟨by omega, by omega⟩ ⟨by omega, by omega⟩ (fun c6 => ?_) (fun c6 => ?_)
      · skip
        exfalso
        omega
      · skip
        refine z_aload_n dX3_readNumber_17 rfl ?_
        refine z_aload_n dX3_readNumber_18 rfl ?_
        refine gf_X3_53 dX3_readNumber_19 LHa rfl ?_
        refine cs_X3_59 dX3_readNumber_22 (D_X3_byteAt_n (LHo hD) (j := i + 1) (by omega) (by omega)) LHa rfl rfl (Nat.le_of_ble_eq_true rfl) (by decide) (z_ki ?_)
        refine cs_X3_85 dX3_readNumber_25 (D_X3_isDigit (c := pe n t (i + 1)) ⟨by omega, by omega⟩) rfl rfl (Nat.le_of_ble_eq_true rfl) (by decide) (z_ki ?_)
        refine z_if_eq dX3_readNumber_28 (tgt := 61) rfl ⟨by split <;> omega, by split <;> omega⟩ (fun c7 => ?_) (fun c7 => ?_)
        · skip
          have q1 : ¬ isDg (pe n t (i + 1)) := by omega
          have hx := nX1 q0 q1
          refine z_aload_n dX3_readNumber_61 rfl ?_
          refine gf_X3_53 dX3_readNumber_62 LHa rfl ?_
          refine z_iload_n dX3_readNumber_65 rfl ?_
          refine z_icmp_eq dX3_readNumber_66 (tgt := 80) rfl ⟨by omega, by omega⟩ ⟨by omega, by omega⟩ (fun c8 => ?_) (fun c8 => ?_)
          · skip
            refine z_aload_n dX3_readNumber_80 rfl ?_
            refine z_iload_n dX3_readNumber_81 rfl ?_
            refine pf_X3_9 dX3_readNumber_82 LHa (Nat.le_of_ble_eq_true rfl) ?_
            refine z_heq LHua ?_
            refine z_iload_n dX3_readNumber_85 rfl ?_
            exact z_iret F dX3_readNumber_86 rfl (by decide) ⟨congrArg (fun z => some (z_i z)) (by rw [hx.2] <;> omega), by first | rw [fN_t (show nOk n t lo i by unfold nOk; omega)]; exact LHq | rw [fN_f (show ¬ nOk n t lo i by unfold nOk; omega)]; exact LHq⟩
          · skip
            refine z_iload_n dX3_readNumber_69 rfl ?_
            refine z_iload_n dX3_readNumber_70 rfl ?_
            refine z_icmp_lt dX3_readNumber_71 (tgt := 80) rfl ⟨by omega, by omega⟩ ⟨by omega, by omega⟩ (fun c9 => ?_) (fun c9 => ?_)
            · skip
              refine z_aload_n dX3_readNumber_80 rfl ?_
              refine z_iload_n dX3_readNumber_81 rfl ?_
              refine pf_X3_9 dX3_readNumber_82 LHa (Nat.le_of_ble_eq_true rfl) ?_
              refine z_heq LHua ?_
              refine z_iload_n dX3_readNumber_85 rfl ?_
              exact z_iret F dX3_readNumber_86 rfl (by decide) ⟨congrArg (fun z => some (z_i z)) (by rw [hx.2] <;> omega), by first | rw [fN_t (show nOk n t lo i by unfold nOk; omega)]; exact LHq | rw [fN_f (show ¬ nOk n t lo i by unfold nOk; omega)]; exact LHq⟩
            · skip
              refine z_iload_n dX3_readNumber_74 rfl ?_
              refine z_bipush dX3_readNumber_75 rfl ?_
              refine z_icmp_le dX3_readNumber_77 (tgt := 85) rfl ⟨by omega, by omega⟩ (by decide) (fun c10 => ?_) (fun c10 => ?_)
              · skip
                refine z_iload_n dX3_readNumber_85 rfl ?_
                exact z_iret F dX3_readNumber_86 rfl (by decide) ⟨congrArg (fun z => some (z_i z)) (by rw [hx.2] <;> omega), by first | rw [fN_t (show nOk n t lo i by unfold nOk; omega)]; exact LHq | rw [fN_f (show ¬ nOk n t lo i by unfold nOk; omega)]; exact LHq⟩
              · skip
                refine z_aload_n dX3_readNumber_80 rfl ?_
                refine z_iload_n dX3_readNumber_81 rfl ?_
                refine pf_X3_9 dX3_readNumber_82 LHa (Nat.le_of_ble_eq_true rfl) ?_
                refine z_heq LHua ?_
                refine z_iload_n dX3_readNumber_85 rfl ?_
                exact z_iret F dX3_readNumber_86 rfl (by decide) ⟨congrArg (fun z => some (z_i z)) (by rw [hx.2] <;> omega), by first | rw [fN_t (show nOk n t lo i by unfold nOk; omega)]; exact LHq | rw [fN_f (show ¬ nOk n t lo i by unfold nOk; omega)]; exact LHq⟩
        · skip
          have q1 : isDg (pe n t (i + 1)) := by omega
          refine z_iload_n dX3_readNumber_31 rfl ?_
          refine z_bipush dX3_readNumber_32 rfl ?_
          refine z_imul dX3_readNumber_34 ?_
          refine z_aload_n dX3_readNumber_35 rfl ?_
          refine z_aload_n dX3_readNumber_36 rfl ?_
          refine gf_X3_53 dX3_readNumber_37 LHa rfl ?_
          refine cs_X3_59 dX3_readNumber_40 (D_X3_byteAt_n (LHo hD) (j := i + 1) (by omega) (by omega)) LHa rfl rfl (Nat.le_of_ble_eq_true rfl) (by decide) (z_ki ?_)
          refine z_iadd dX3_readNumber_43 ?_
          refine z_bipush dX3_readNumber_44 rfl ?_
          refine z_isub dX3_readNumber_46 ?_
          refine z_istore_n dX3_readNumber_47 (Nat.le_of_ble_eq_true rfl) rfl ?_
          refine z_aload_n dX3_readNumber_48 rfl ?_
          refine z_dup dX3_readNumber_49 rfl ?_
          refine gf_X3_53 dX3_readNumber_50 LHa rfl ?_
          refine z_iconst dX3_readNumber_53 ?_
          refine z_iadd dX3_readNumber_54 ?_
          refine pf_X3_53 dX3_readNumber_55 LHa (Nat.le_of_ble_eq_true rfl) ?_
          refine z_heq LHua ?_
          refine z_goto dX3_readNumber_58 (tgt := 7) rfl ?_
          refine z_aload_n dX3_readNumber_7 rfl ?_
          refine gf_X3_53 dX3_readNumber_8 LHa rfl ?_
          refine z_iload_n dX3_readNumber_11 rfl ?_
          refine z_iconst dX3_readNumber_12 ?_
          refine z_iadd dX3_readNumber_13 ?_
          refine z_icmp_ge dX3_readNumber_14 (tgt := 61) rfl ⟨by omega, by omega⟩ ⟨by omega, by omega⟩ (fun c11 => ?_) (fun c11 => ?_)
          · skip
            have hx := nX2 q0 q1
            refine z_aload_n dX3_readNumber_61 rfl ?_
            refine gf_X3_53 dX3_readNumber_62 LHa rfl ?_
            refine z_iload_n dX3_readNumber_65 rfl ?_
            refine z_icmp_eq dX3_readNumber_66 (tgt := 80) rfl ⟨by omega, by omega⟩ ⟨by omega, by omega⟩ (fun c12 => ?_) (fun c12 => ?_)
            · skip
              refine z_aload_n dX3_readNumber_80 rfl ?_
              refine z_iload_n dX3_readNumber_81 rfl ?_
              refine pf_X3_9 dX3_readNumber_82 LHa (Nat.le_of_ble_eq_true rfl) ?_
              refine z_heq LHua ?_
              refine z_iload_n dX3_readNumber_85 rfl ?_
              exact z_iret F dX3_readNumber_86 rfl (by decide) ⟨congrArg (fun z => some (z_i z)) (by rw [hx.2] <;> omega), by first | rw [fN_t (show nOk n t lo i by unfold nOk; omega)]; exact LHq | rw [fN_f (show ¬ nOk n t lo i by unfold nOk; omega)]; exact LHq⟩
            · skip
              refine z_iload_n dX3_readNumber_69 rfl ?_
              refine z_iload_n dX3_readNumber_70 rfl ?_
              refine z_icmp_lt dX3_readNumber_71 (tgt := 80) rfl ⟨by omega, by omega⟩ ⟨by omega, by omega⟩ (fun c13 => ?_) (fun c13 => ?_)
              · skip
                refine z_aload_n dX3_readNumber_80 rfl ?_
                refine z_iload_n dX3_readNumber_81 rfl ?_
                refine pf_X3_9 dX3_readNumber_82 LHa (Nat.le_of_ble_eq_true rfl) ?_
                refine z_heq LHua ?_
                refine z_iload_n dX3_readNumber_85 rfl ?_
                exact z_iret F dX3_readNumber_86 rfl (by decide) ⟨congrArg (fun z => some (z_i z)) (by rw [hx.2] <;> omega), by first | rw [fN_t (show nOk n t lo i by unfold nOk; omega)]; exact LHq | rw [fN_f (show ¬ nOk n t lo i by unfold nOk; omega)]; exact LHq⟩
              · skip
                refine z_iload_n dX3_readNumber_74 rfl ?_
                refine z_bipush dX3_readNumber_75 rfl ?_
                refine z_icmp_le dX3_readNumber_77 (tgt := 85) rfl ⟨by omega, by omega⟩ (by decide) (fun c14 => ?_) (fun c14 => ?_)
                · skip
                  refine z_iload_n dX3_readNumber_85 rfl ?_
                  exact z_iret F dX3_readNumber_86 rfl (by decide) ⟨congrArg (fun z => some (z_i z)) (by rw [hx.2] <;> omega), by first | rw [fN_t (show nOk n t lo i by unfold nOk; omega)]; exact LHq | rw [fN_f (show ¬ nOk n t lo i by unfold nOk; omega)]; exact LHq⟩
                · skip
                  refine z_aload_n dX3_readNumber_80 rfl ?_
                  refine z_iload_n dX3_readNumber_81 rfl ?_
                  refine pf_X3_9 dX3_readNumber_82 LHa (Nat.le_of_ble_eq_true rfl) ?_
                  refine z_heq LHua ?_
                  refine z_iload_n dX3_readNumber_85 rfl ?_
                  exact z_iret F dX3_readNumber_86 rfl (by decide) ⟨congrArg (fun z => some (z_i z)) (by rw [hx.2] <;> omega), by first | rw [fN_t (show nOk n t lo i by unfold nOk; omega)]; exact LHq | rw [fN_f (show ¬ nOk n t lo i by unfold nOk; omega)]; exact LHq⟩
          · skip
            exfalso
            omega
