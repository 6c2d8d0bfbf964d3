/-! Line: groups, parts, the whole text -/
def PP (g : z_G) (h0 : z_H) (a b s p u e n : Nat) (t : Nat → Int) (f : Nat) : Prop := ∀ (w : Nat) (fs fp fn fe : z_row) (P d i : Nat) (tl : Int), w ≤ 5 → d ≤ 5 → P ≤ i → i ≤ n → (tl = 0 ∨ tl = 1) → n - i < f →
  z_D g mX3_readParts (3 * (5 - w) + 9) 0 0 [z_r a, z_i (w : Int)] (LH h0 a b s p u e n fs fp fn fe P d tl i (-1)) (lnP h0 a b s p u e n (fun fs fp fn fe => sgP n t fs fp fn fe (6 - w)) fs fp fn fe P i (rdS n t f w (i, P, d, tl)))
def QQ (g : z_G) (h0 : z_H) (a b s p u e n : Nat) (t : Nat → Int) (f : Nat) : Prop := ∀ (w : Nat) (fs fp fn fe : z_row) (P d i : Nat) (tl : Int), w ≤ 5 → d ≤ 5 → P ≤ i → i ≤ n → (tl = 0 ∨ tl = 1) → n - i ≤ f →
  z_D g mX3_readPart (3 * (5 - w) + 8) 0 0 [z_r a, z_i (w : Int)] (LH h0 a b s p u e n fs fp fn fe P d tl i (-1)) (lnP h0 a b s p u e n (oP n t w) fs fp fn fe P i (rdO n t (rdS n t f) w (i, P, d, tl)))
set_option maxHeartbeats 2000000 in
set_option maxRecDepth 100000 in
theorem D_X3_readGroup {g : z_G} {h0 : z_H} {a b s p u e n : Nat} {t : Nat → Int} (hD : lD h0 a b s p u e n t) {fs fp fn fe : Nat → Int} {P d i : Nat} {tl : Int} {f : Nat} (hPP : PP g h0 a b s p u e n t f) {w : Nat} (hw : w ≤ 5) (hd : d ≤ 5) (hP : P ≤ i) (hf : n - i ≤ f) (htl : tl = 0 ∨ tl = 1) {so cl lo : Int} (hso : (so = 1 ∧ cl = 41 ∧ lo = 1 ∧ pe n t i = 40) ∨ (so = 2 ∧ cl = 62 ∧ lo = 0 ∧ pe n t i = 60)) : z_D g mX3_readGroup (3 * (5 - w) + 7) 0 0 [z_r a, z_i so, z_i cl, z_i lo, z_i (w : Int)] (LH h0 a b s p u e n fs fp fn fe (P : Int) (d : Int) tl (i : Int) (-1)) (lnP h0 a b s p u e n (oP n t w) fs fp fn fe P i (rdX n t (rdS n t f) w cl lo (i, P, d, tl))) := by
  refine z_D.of (by decide +kernel) (Nat.le_of_ble_eq_true rfl) (fun X F => ?_)
  have h7 := hD.2.2.2.2.2.2.1
  have h8 := hD.2.2.2.2.2.2.2
  have hin := pe_lt (n := n) (t := t) (a := i) (by omega)
  show z_w g X cX3_readGroup RX3 (3 * (5 - w) + 7, 0, 0) 0 [z_r a, z_i so, z_i cl, z_i lo, z_i (w : Int), z_u] [] (LH h0 a b s p u e n fs fp fn fe (P : Int) (d : Int) tl (i : Int) (-1)) 0 0
  refine z_iload dX3_readGroup_0 rfl ?_
  refine z_iconst dX3_readGroup_2 ?_
  refine z_icmp_le dX3_readGroup_3 (tgt := 15) rfl ⟨by omega, by omega⟩ (by decide) (fun c1 => ?_) (fun c1 => ?_)
  · skip
    refine z_aload_n dX3_readGroup_15 rfl ?_
    refine z_iload_n dX3_readGroup_16 rfl ?_
    refine z_aload_n dX3_readGroup_17 rfl ?_
    refine gf_X3_53 dX3_readGroup_18 LHa rfl ?_
    refine z_iload dX3_readGroup_21 rfl ?_
    refine cs_X3_81 dX3_readGroup_23 (D_X3_openPart hD (by omega) (by omega) hw) LHa rfl rfl (Nat.le_of_ble_eq_true rfl) ⟨(show 1 + 1 ≤ 3 * (5 - w) + 7 by omega), by exact Nat.le_refl 0, by exact Nat.le_refl 0⟩ (z_ki ?_)
    refine z_istore dX3_readGroup_26 (Nat.le_of_ble_eq_true rfl) rfl ?_
    refine z_aload_n dX3_readGroup_28 rfl ?_
    refine z_dup dX3_readGroup_29 rfl ?_
    refine gf_X3_53 dX3_readGroup_30 LHa rfl ?_
    refine z_iconst dX3_readGroup_33 ?_
    refine z_iadd dX3_readGroup_34 ?_
    refine pf_X3_53 dX3_readGroup_35 LHa (Nat.le_of_ble_eq_true rfl) ?_
    refine z_heq LHua ?_
    refine z_aload_n dX3_readGroup_38 rfl ?_
    refine z_iload dX3_readGroup_39 rfl ?_
    refine z_iconst dX3_readGroup_41 ?_
    refine z_iadd dX3_readGroup_42 ?_
    refine cs_X3_49 dX3_readGroup_43 (hPP (w + 1) _ _ _ _ (P + 1) (max d w) (i + 1) _ (by omega) (by omega) (by omega) (by omega) htl (by omega)) LHa rfl rfl (Nat.le_of_ble_eq_true rfl) ⟨(show 3 * (5 - (w + 1)) + 9 + 1 ≤ 3 * (5 - w) + 7 by omega), by exact Nat.le_refl 0, by exact Nat.le_refl 0⟩ (fun rv h' hq => ?_)
    obtain ⟨rfl, fs', fp', fn', fe', P', d', i', tl', fl', rfl, hag, hok⟩ := hq
    have hfl : -1 ≤ fl' ∧ fl' ≤ 250 := by rcases hok with ⟨_, q, _⟩ | ⟨_, q, _⟩ <;> omega
    show z_w _ _ _ _ _ _ _ [] _ _ _
    refine z_aload_n dX3_readGroup_46 rfl ?_
    refine gf_X3_9 dX3_readGroup_47 LHa rfl ?_
    refine z_iconst dX3_readGroup_50 ?_
    refine z_icmp_eq dX3_readGroup_51 (tgt := 55) rfl ⟨by omega, by omega⟩ (by decide) (fun c2 => ?_) (fun c2 => ?_)
    · skip
      obtain ⟨k1, k2, k3, k4, k5, k6, k7, k8, k9⟩ := hok.resolve_right (fun q => by have := q.2.1; omega)
      subst k2
      have hbi := pe_b h8 i'
      have kr : rdS n t f (w + 1) (i + 1, P + 1, max d w, tl) = (true, (i', P', d', tl')) := Prod.ext k1 k3
      refine z_aload_n dX3_readGroup_55 rfl ?_
      refine z_aload_n dX3_readGroup_56 rfl ?_
      refine gf_X3_53 dX3_readGroup_57 LHa rfl ?_
      refine cs_X3_59 dX3_readGroup_60 (D_X3_byteAt_n (LHo hD) (j := i') rfl (by omega)) LHa rfl rfl (Nat.le_of_ble_eq_true rfl) ⟨(show 1 + 1 ≤ 3 * (5 - w) + 7 by omega), by exact Nat.le_refl 0, by exact Nat.le_refl 0⟩ (z_ki ?_)
      refine z_iload_n dX3_readGroup_63 rfl ?_
      refine z_icmp_eq dX3_readGroup_64 (tgt := 76) rfl ⟨by omega, by omega⟩ ⟨by omega, by omega⟩ (fun c3 => ?_) (fun c3 => ?_)
      · skip
        have kc : pe n t i' = cl := c3
        have hin' := pe_lt (n := n) (t := t) (a := i') (by omega)
        refine z_aload_n dX3_readGroup_76 rfl ?_
        refine z_dup dX3_readGroup_77 rfl ?_
        refine gf_X3_53 dX3_readGroup_78 LHa rfl ?_
        refine z_iconst dX3_readGroup_81 ?_
        refine z_iadd dX3_readGroup_82 ?_
        refine pf_X3_53 dX3_readGroup_83 LHa (Nat.le_of_ble_eq_true rfl) ?_
        refine z_heq LHua ?_
        refine z_aload_n dX3_readGroup_86 rfl ?_
        refine z_iload dX3_readGroup_87 rfl ?_
        refine z_aload_n dX3_readGroup_89 rfl ?_
        refine z_iload_n dX3_readGroup_90 rfl ?_
        refine cs_X3_88 dX3_readGroup_91 (D_X3_readNumber hD (i := i' + 1) (by omega) (by omega)) LHa rfl rfl (Nat.le_of_ble_eq_true rfl) ⟨(show 2 + 1 ≤ 3 * (5 - w) + 7 by omega), by exact Nat.le_refl 0, by exact Nat.le_refl 0⟩ (z_ki ?_)
        refine cs_X3_91 dX3_readGroup_94 (D_X3_closePart hD (j := P) (by omega)) LHa rfl rfl (Nat.le_of_ble_eq_true rfl) ⟨(show 1 + 1 ≤ 3 * (5 - w) + 7 by omega), by exact Nat.le_refl 0, by exact Nat.le_refl 0⟩ (z_kv ?_)
        exact z_vret F dX3_readGroup_97 rfl ⟨Nat.le_refl _, Nat.le_refl _⟩ (lng3 hso kr (by omega) hag hin' ⟨k4, k5⟩ k7 k8 kc k9)
      · skip
        have kc : pe n t i' ≠ cl := c3
        refine z_aload_n dX3_readGroup_67 rfl ?_
        refine z_aload_n dX3_readGroup_68 rfl ?_
        refine gf_X3_53 dX3_readGroup_69 LHa rfl ?_
        refine pf_X3_9 dX3_readGroup_72 LHa (Nat.le_of_ble_eq_true rfl) ?_
        refine z_heq LHua ?_
        exact z_vret F dX3_readGroup_75 rfl ⟨Nat.le_refl _, Nat.le_refl _⟩ (lng2 kr (by omega) hag k6 kc)
    · skip
      obtain ⟨k1, k2, k3⟩ := hok.resolve_left (fun q => c2 q.2.1)
      exact z_vret F dX3_readGroup_54 rfl ⟨Nat.le_refl _, Nat.le_refl _⟩ (lng1 rfl (by omega) hag k1 k2 k3)
  · skip
    refine z_aload_n dX3_readGroup_6 rfl ?_
    refine z_aload_n dX3_readGroup_7 rfl ?_
    refine gf_X3_53 dX3_readGroup_8 LHa rfl ?_
    refine pf_X3_9 dX3_readGroup_11 LHa (Nat.le_of_ble_eq_true rfl) ?_
    refine z_heq LHua ?_
    exact z_vret F dX3_readGroup_14 rfl ⟨Nat.le_refl _, Nat.le_refl _⟩ (lng0 (by omega) (by omega) (by omega))
theorem rdO_w {n : Nat} {t : Nat → Int} {rec : Nat → rdT → Bool × rdT} {w : Nat} {s : rdT} (h1 : pe n t s.1 ≠ 40) (h2 : pe n t s.1 ≠ 60) : rdO n t rec w s = rdW n t w s := by
  unfold rdO
  rw [if_neg (fun q => h1 q.1), if_neg (fun q => h2 q.1)]
theorem rdO_1 {n : Nat} {t : Nat → Int} {rec : Nat → rdT → Bool × rdT} {w : Nat} {s : rdT} (h1 : pe n t s.1 = 40) : rdO n t rec w s = rdX n t rec w 41 1 s := by
  unfold rdO rdX
  by_cases hw : w < 5
  · rw [if_pos ⟨h1, hw⟩, if_pos hw]
  · rw [if_neg (fun q => hw q.2), if_neg (fun q => hw q.2), if_neg hw]
theorem lnP_f {h0 : z_H} {a b s p u e n : Nat} {sg : z_row → z_row → z_row → z_row → sgT} {fs fp fn fe : z_row} {P i : Nat} {r r' : Bool × rdT} (h1 : r.1 = false) (h2 : r'.1 = false) (h3 : r.2.1 = r'.2.1) {rv : Option z_V} {h' : z_H} (h : lnP h0 a b s p u e n sg fs fp fn fe P i r rv h') : lnP h0 a b s p u e n sg fs fp fn fe P i r' rv h' := by
  obtain ⟨e0, fs', fp', fn', fe', P', d', i', tl', fl', e1, e2, e3⟩ := h
  refine ⟨e0, fs', fp', fn', fe', P', d', i', tl', fl', e1, e2, Or.inr ?_⟩
  obtain ⟨k1, k2, k3⟩ := e3.resolve_left (fun q => by rw [h1] at q; exact absurd q.1 (by decide))
  exact ⟨h2, by rw [← h3]; exact k2, by rw [← h3]; exact k3⟩
theorem lnP_2 {n : Nat} {t : Nat → Int} {rec : Nat → rdT → Bool × rdT} {w : Nat} {h0 : z_H} {a b s p u e : Nat} {sg : z_row → z_row → z_row → z_row → sgT} {fs fp fn fe : z_row} {P i d : Nat} {tl : Int} (h1 : pe n t i = 60) {rv : Option z_V} {h' : z_H} (h : lnP h0 a b s p u e n sg fs fp fn fe P i (rdX n t rec w 62 0 (i, P, d, 1)) rv h') : lnP h0 a b s p u e n sg fs fp fn fe P i (rdO n t rec w (i, P, d, tl)) rv h' := by
  unfold rdX at h
  unfold rdO
  by_cases hw : w < 5
  · rw [if_pos hw] at h
    rw [if_neg (fun q => by have : pe n t i = 40 := q.1; omega), if_pos ⟨h1, hw⟩]
    exact h
  · rw [if_neg hw] at h
    rw [if_neg (fun q => hw q.2), if_neg (fun q => hw q.2)]
    have hr : ∀ tl : Int, rdW n t w (i, P, d, tl) = (false, (i, P + 1, max d w, tl)) := fun tl => by
      unfold rdW
      show (if kO t i (wEnd n t i) < 0 then _ else _) = _
      rw [wEnd_0 (show ¬ isLt (pe n t i) by omega), kO_0, if_pos (by decide)]
    rw [hr] at h
    rw [hr]
    exact lnP_f (r := (false, (i, P + 1, max d w, 1))) (r' := (false, (i, P + 1, max d w, tl))) rfl rfl rfl h
set_option maxHeartbeats 2000000 in
set_option maxRecDepth 100000 in
theorem D_X3_readPart {g : z_G} {h0 : z_H} {a b s p u e n : Nat} {t : Nat → Int} (hD : lD h0 a b s p u e n t) {f : Nat} (hPP : PP g h0 a b s p u e n t f) : QQ g h0 a b s p u e n t f := by
  intro w fs fp fn fe P d i tl hw hd hP hi htl hf
  refine z_D.of (by decide +kernel) (Nat.le_of_ble_eq_true rfl) (fun X F => ?_)
  have h7 := hD.2.2.2.2.2.2.1
  have h8 := hD.2.2.2.2.2.2.2
  have b0 := pe_b h8 i
  show z_w g X cX3_readPart RX3 (3 * (5 - w) + 8, 0, 0) 0 [z_r a, z_i (w : Int), z_u] [] (LH h0 a b s p u e n fs fp fn fe (P : Int) (d : Int) tl (i : Int) (-1)) 0 0
  refine z_aload_n dX3_readPart_0 rfl ?_
  refine z_aload_n dX3_readPart_1 rfl ?_
  refine gf_X3_53 dX3_readPart_2 LHa rfl ?_
  refine cs_X3_59 dX3_readPart_5 (D_X3_byteAt_n (LHo hD) (j := i) rfl (by omega)) LHa rfl rfl (Nat.le_of_ble_eq_true rfl) ⟨(show 1 + 1 ≤ 3 * (5 - w) + 8 by omega), by exact Nat.le_refl 0, by exact Nat.le_refl 0⟩ (z_ki ?_)
  refine z_istore_n dX3_readPart_8 (Nat.le_of_ble_eq_true rfl) rfl ?_
  refine z_iload_n dX3_readPart_9 rfl ?_
  refine cs_X3_63 dX3_readPart_10 (D_X3_isLetter (c := pe n t i) ⟨by omega, by omega⟩) rfl rfl (Nat.le_of_ble_eq_true rfl) ⟨(show 1 + 1 ≤ 3 * (5 - w) + 8 by omega), by exact Nat.le_refl 0, by exact Nat.le_refl 0⟩ (z_ki ?_)
  refine z_if_eq dX3_readPart_13 (tgt := 24) rfl ⟨by split <;> omega, by split <;> omega⟩ (fun c1 => ?_) (fun c1 => ?_)
  · skip
    refine z_iload_n dX3_readPart_24 rfl ?_
    refine z_bipush dX3_readPart_25 rfl ?_
    refine z_icmp_ne dX3_readPart_27 (tgt := 42) rfl ⟨by omega, by omega⟩ (by decide) (fun c2 => ?_) (fun c2 => ?_)
    · skip
      refine z_iload_n dX3_readPart_42 rfl ?_
      refine z_bipush dX3_readPart_43 rfl ?_
      refine z_icmp_ne dX3_readPart_45 (tgt := 65) rfl ⟨by omega, by omega⟩ (by decide) (fun c3 => ?_) (fun c3 => ?_)
      · skip
        refine z_aload_n dX3_readPart_65 rfl ?_
        refine z_aload_n dX3_readPart_66 rfl ?_
        refine gf_X3_53 dX3_readPart_67 LHa rfl ?_
        refine pf_X3_9 dX3_readPart_70 LHa (Nat.le_of_ble_eq_true rfl) ?_
        refine z_heq LHua ?_
        exact z_vret F dX3_readPart_73 rfl ⟨Nat.le_refl _, Nat.le_refl _⟩ (by rw [rdO_w (show pe n t i ≠ 40 by omega) (show pe n t i ≠ 60 by omega)]; exact lnw2 (wEnd_0 (by omega)) hi kO_0)
      · skip
        refine z_aload_n dX3_readPart_48 rfl ?_
        refine z_iconst dX3_readPart_49 ?_
        refine pf_X3_74 (by omega) dX3_readPart_50 LHa (Nat.le_of_ble_eq_true rfl) ?_
        refine z_heq LHua ?_
        refine z_aload_n dX3_readPart_53 rfl ?_
        refine z_iconst dX3_readPart_54 ?_
        refine z_bipush dX3_readPart_55 rfl ?_
        refine z_iconst dX3_readPart_57 ?_
        refine z_iload_n dX3_readPart_58 rfl ?_
        refine cs_X3_70 dX3_readPart_59 (D_X3_readGroup hD hPP hw hd hP hf (Or.inr rfl) (so := 2) (cl := 62) (lo := 0) (by omega)) LHa rfl rfl (Nat.le_of_ble_eq_true rfl) ⟨(show 3 * (5 - w) + 7 + 1 ≤ 3 * (5 - w) + 8 by omega), by exact Nat.le_refl 0, by exact Nat.le_refl 0⟩ (fun rv h' hq => ?_)
        have hq0 := hq.1
        subst hq0
        show z_w _ _ _ _ _ _ _ [] _ _ _
        refine z_goto dX3_readPart_62 (tgt := 73) rfl ?_
        exact z_vret F dX3_readPart_73 rfl ⟨Nat.le_refl _, Nat.le_refl _⟩ (lnP_2 (by omega) hq)
    · skip
      refine z_aload_n dX3_readPart_30 rfl ?_
      refine z_iconst dX3_readPart_31 ?_
      refine z_bipush dX3_readPart_32 rfl ?_
      refine z_iconst dX3_readPart_34 ?_
      refine z_iload_n dX3_readPart_35 rfl ?_
      refine cs_X3_70 dX3_readPart_36 (D_X3_readGroup hD hPP hw hd hP hf htl (so := 1) (cl := 41) (lo := 1) (by omega)) LHa rfl rfl (Nat.le_of_ble_eq_true rfl) ⟨(show 3 * (5 - w) + 7 + 1 ≤ 3 * (5 - w) + 8 by omega), by exact Nat.le_refl 0, by exact Nat.le_refl 0⟩ (fun rv h' hq => ?_)
      have hq0 := hq.1
      subst hq0
      show z_w _ _ _ _ _ _ _ [] _ _ _
      refine z_goto dX3_readPart_39 (tgt := 73) rfl ?_
      exact z_vret F dX3_readPart_73 rfl ⟨Nat.le_refl _, Nat.le_refl _⟩ (by rw [rdO_1 (show pe n t i = 40 by omega)]; exact hq)
  · skip
    refine z_aload_n dX3_readPart_16 rfl ?_
    refine z_iload_n dX3_readPart_17 rfl ?_
    refine cs_X3_67 dX3_readPart_18 (D_X3_readWord hD hw hd hP htl (by omega)) LHa rfl rfl (Nat.le_of_ble_eq_true rfl) ⟨(show 7 + 1 ≤ 3 * (5 - w) + 8 by omega), by exact Nat.le_refl 0, by exact Nat.le_refl 0⟩ (fun rv h' hq => ?_)
    have hq0 := hq.1
    subst hq0
    show z_w _ _ _ _ _ _ _ [] _ _ _
    refine z_goto dX3_readPart_21 (tgt := 73) rfl ?_
    exact z_vret F dX3_readPart_73 rfl ⟨Nat.le_refl _, Nat.le_refl _⟩ (by rw [rdO_w (show pe n t i ≠ 40 by omega) (show pe n t i ≠ 60 by omega)]; exact hq)
/-- what the loop over the parts knows of the last part -/
def lnS (n : Nat) (t : Nat → Int) (w : Nat) (fs fp fn fe : z_row) (P i : Nat) (r : Bool × rdT) (gs gp gn ge : z_row) (P' d' i' : Nat) (tl' fl' : Int) : Prop :=
  agR 0 P fs fp fn fe gs gp gn ge ∧ ((r.1 = true ∧ fl' = -1 ∧ r.2 = (i', P', d', tl') ∧ P ≤ P' ∧ P' ≤ i' ∧ i' ≤ n ∧ d' ≤ 5 ∧ (tl' = 0 ∨ tl' = 1) ∧ oP n t w gs gp gn ge P P' i i') ∨ (r.1 = false ∧ fl' = (r.2.1 : Int) ∧ r.2.1 ≤ n))
def sqP (n : Nat) (t : Nat → Int) (w m : Nat) : z_row → z_row → z_row → z_row → sgT := fun fs fp fn fe => seqP n t (oP n t w fs fp fn fe) m
theorem oP_lt {n : Nat} {t : Nat → Int} {w : Nat} {fs fp fn fe : z_row} : ∀ p q s e, oP n t w fs fp fn fe p q s e → p < q ∧ s < e := fun _ _ _ _ h => oneP_lt (sgP_lt _) h
theorem oP_ag {n : Nat} {t : Nat → Int} {w : Nat} {fs fp fn fe gs gp gn ge : z_row} : ∀ p q s e, agR p q fs fp fn fe gs gp gn ge → oP n t w fs fp fn fe p q s e → oP n t w gs gp gn ge p q s e := fun _ _ _ _ ha h => oneP_ag (sgP_lt _) (sgP_ag _) ha h
/-- no comma, or a fault: that is all -/
theorem ln_end {n : Nat} {t : Nat → Int} {w : Nat} {fs fp fn fe gs gp gn ge : z_row} {P i f : Nat} {r : Bool × rdT} {P' d' i' : Nat} {tl' fl' : Int} {h0 : z_H} {a b s p u e : Nat} (h : lnS n t w fs fp fn fe P i r gs gp gn ge P' d' i' tl' fl') (hin : i ≤ n) (hc : r.1 = true → pe n t i' ≠ 44) :
    lnP h0 a b s p u e n (sqP n t w (n + 1 - i)) fs fp fn fe P i (rdN n t (rdS n t f) w r) none (LH h0 a b s p u e n gs gp gn ge P' d' tl' i' fl') := by
  obtain ⟨h1, h2⟩ := h
  rcases h2 with ⟨k1, k2, k3, k4, k5, k6, k7, k8, k9⟩ | ⟨k1, k2, k3⟩
  · have hr : rdN n t (rdS n t f) w r = r := by
      unfold rdN
      rw [if_neg (fun q => hc k1 (by have q2 := q.2; rw [k3] at q2; exact q2))]
    rw [hr]
    refine ⟨rfl, _, _, _, _, _, _, _, _, _, rfl, h1, Or.inl ⟨k1, k2, k3, k4, k5, k6, k7, k8, ?_⟩⟩
    show seqP n t _ (n + 1 - i) P P' i i'
    rw [show n + 1 - i = (n - i) + 1 by omega]
    exact Or.inl ⟨k9, hc k1⟩
  · have hr : rdN n t (rdS n t f) w r = r := by
      unfold rdN
      rw [if_neg (fun q => by rw [k1] at q; exact absurd q.1 (by decide))]
    rw [hr]
    exact ⟨rfl, _, _, _, _, _, _, _, _, _, rfl, h1, Or.inr ⟨k1, k2, k3⟩⟩
/-- a comma: what comes behind it is joined -/
theorem ln_more {n : Nat} {t : Nat → Int} {w : Nat} {fs fp fn fe gs gp gn ge : z_row} {P i f : Nat} {r : Bool × rdT} {P' d' i' : Nat} {tl' fl' : Int} {h0 : z_H} {a b s p u e : Nat} (h : lnS n t w fs fp fn fe P i r gs gp gn ge P' d' i' tl' fl') (hr1 : r.1 = true) (hin : i ≤ n) (hc : pe n t i' = 44) {rv : Option z_V} {h' : z_H}
    (q : lnP h0 a b s p u e n (sqP n t w (n + 1 - (i' + 1))) gs gp gn ge P' (i' + 1) (rdN n t (rdS n t f) w (rdO n t (rdS n t f) w (i' + 1, P', d', tl'))) rv h') :
    lnP h0 a b s p u e n (sqP n t w (n + 1 - i)) fs fp fn fe P i (rdN n t (rdS n t (f + 1)) w r) rv h' := by
  obtain ⟨h1, h2⟩ := h
  obtain ⟨k1, k2, k3, k4, k5, k6, k7, k8, k9⟩ := h2.resolve_right (fun q => by rw [hr1] at q; exact absurd q.1 (by decide))
  have hr : rdN n t (rdS n t (f + 1)) w r = rdN n t (rdS n t f) w (rdO n t (rdS n t f) w (i' + 1, P', d', tl')) := by
    show (if r.1 = true ∧ pe n t r.2.1 = 44 then rdS n t (f + 1) w (r.2.1 + 1, r.2.2) else r) = _
    rw [k3, if_pos ⟨k1, hc⟩]
    rfl
  rw [hr]
  have hlt := oP_lt _ _ _ _ k9
  obtain ⟨e0, fs', fp', fn', fe', P2, d2, i2, tl2, fl2, e1, e2, e3⟩ := q
  refine ⟨e0, fs', fp', fn', fe', P2, d2, i2, tl2, fl2, e1, fun j j1 j2 => ?_, ?_⟩
  · obtain ⟨a1, a2, a3, a4⟩ := h1 j j1 j2
    obtain ⟨b1, b2, b3, b4⟩ := e2 j j1 (by omega)
    exact ⟨b1.trans a1, b2.trans a2, b3.trans a3, b4.trans a4⟩
  · rcases e3 with ⟨m1, m2, m3, m4, m5, m6, m7, m8, m9⟩ | m
    · refine Or.inl ⟨m1, m2, m3, by omega, m5, m6, m7, m8, ?_⟩
      show seqP n t _ (n + 1 - i) P P2 i i2
      rw [show n + 1 - i = (n - i) + 1 by omega]
      refine Or.inr ⟨P', i', oP_ag _ _ _ _ (e2.sub (Nat.zero_le _) (Nat.le_refl _)) k9, hc, seqP_f _ _ _ _ _ _ (by omega) m9⟩
    · exact Or.inr m
theorem ln_sg {h0 : z_H} {a b s p u e n : Nat} {t : Nat → Int} {w P i : Nat} {fs fp fn fe : z_row} {r : Bool × rdT} (hn : n ≤ 250) (hw : w ≤ 5) {rv : Option z_V} {h' : z_H} (q : lnP h0 a b s p u e n (sqP n t w (n + 1 - i)) fs fp fn fe P i r rv h') : lnP h0 a b s p u e n (fun fs fp fn fe => sgP n t fs fp fn fe (6 - w)) fs fp fn fe P i r rv h' := by
  obtain ⟨e0, fs', fp', fn', fe', P', d', i', tl', fl', e1, e2, e3⟩ := q
  refine ⟨e0, fs', fp', fn', fe', P', d', i', tl', fl', e1, e2, ?_⟩
  rcases e3 with ⟨k1, k2, k3, k4, k5, k6, k7, k8, k9⟩ | k
  · refine Or.inl ⟨k1, k2, k3, k4, k5, k6, k7, k8, ?_⟩
    show sgP n t fs' fp' fn' fe' (6 - w) P P' i i'
    rw [show 6 - w = (5 - w) + 1 by omega]
    exact seqP_f _ _ _ _ _ _ (by omega) k9
  · exact Or.inr k
set_option maxHeartbeats 2000000 in
set_option maxRecDepth 100000 in
theorem D_X3_readParts {g : z_G} {h0 : z_H} {a b s p u e n : Nat} {t : Nat → Int} (hD : lD h0 a b s p u e n t) {f : Nat} (hQQ : ∀ f', f' < f → QQ g h0 a b s p u e n t f') : PP g h0 a b s p u e n t f := by
  intro w fs fp fn fe P d i tl hw hd hP hi htl hf
  obtain ⟨f, rfl⟩ : ∃ m, f = m + 1 := ⟨f - 1, by omega⟩
  refine z_D.mono (P := lnP h0 a b s p u e n (sqP n t w (n + 1 - i)) fs fp fn fe P i (rdN n t (rdS n t f) w (rdO n t (rdS n t f) w (i, P, d, tl)))) ?_ (fun rv h' q => ln_sg hD.2.2.2.2.2.2.1 hw q)
  refine z_D.of (by decide +kernel) (Nat.le_of_ble_eq_true rfl) (fun X F => ?_)
  have h7 := hD.2.2.2.2.2.2.1
  have h8 := hD.2.2.2.2.2.2.2
  show z_w g X cX3_readParts RX3 (3 * (5 - w) + 9, 0, 0) 0 [z_r a, z_i (w : Int), z_u] [] (LH h0 a b s p u e n fs fp fn fe (P : Int) (d : Int) tl (i : Int) (-1)) 0 0
  refine z_aload_n dX3_readParts_0 rfl ?_
  refine z_iload_n dX3_readParts_1 rfl ?_
  refine cs_X3_56 dX3_readParts_2 (hQQ f (Nat.lt_succ_self f) w fs fp fn fe P d i tl hw hd hP hi htl (by omega)) LHa rfl rfl (Nat.le_of_ble_eq_true rfl) ⟨Nat.le_refl (3 * (5 - w) + 9), by exact Nat.le_refl 0, by exact Nat.le_refl 0⟩ (fun rv h' hq => ?_)
  obtain ⟨rfl, fs', fp', fn', fe', P', d', i', tl', fl', rfl, hag, hok⟩ := hq
  show z_w _ _ _ _ _ _ _ [] _ _ _
  refine z_iconst dX3_readParts_5 ?_
  refine z_istore_n dX3_readParts_6 (Nat.le_of_ble_eq_true rfl) rfl ?_
  have L4 : ∀ (fu : Nat) (c f2 P1 i1 : Nat) (ls lp ln le ms mp mn me : z_row) (P2 d2 i2 : Nat) (tl2 fl2 : Int) (r : Bool × rdT) (q1 : f2 ≤ f) (q2 : i1 ≤ n ∧ c ≤ i1) (q3 : r.1 = true → n - i2 ≤ f2) (q4 : lnS n t w ls lp ln le P1 i1 r ms mp mn me P2 d2 i2 tl2 fl2) (q5 : ∀ rv h', lnP h0 a b s p u e n (sqP n t w (n + 1 - i1)) ls lp ln le P1 i1 (rdN n t (rdS n t f2) w r) rv h' → lnP h0 a b s p u e n (sqP n t w (n + 1 - i)) fs fp fn fe P i (rdN n t (rdS n t f) w (rdO n t (rdS n t f) w (i, P, d, tl))) rv h'), f2 < fu → z_w g X cX3_readParts RX3 (3 * (5 - w) + 9, 0, 0) 7 [z_r a, z_i (w : Int), z_i (c : Int)] [] (LH h0 a b s p u e n ms mp mn me (P2 : Int) (d2 : Int) tl2 (i2 : Int) fl2) 0 0 := by
    intro fu
    induction fu with
    | zero => intro c f2 P1 i1 ls lp ln le ms mp mn me P2 d2 i2 tl2 fl2 r q1 q2 q3 q4 q5 hm; exact absurd hm (Nat.not_lt_zero _)
    | succ fu ih =>
      intro c f2 P1 i1 ls lp ln le ms mp mn me P2 d2 i2 tl2 fl2 r q1 q2 q3 q4 q5 hm
      refine z_iload_n dX3_readParts_7 rfl ?_
      refine z_aload_n dX3_readParts_8 rfl ?_
      refine gf_X3_30 dX3_readParts_9 LHa rfl ?_
      refine z_alenI dX3_readParts_12 (LHb hD) ?_
      refine z_icmp_ge dX3_readParts_13 (tgt := 59) rfl ⟨by omega, by omega⟩ ⟨by omega, by omega⟩ (fun c1 => ?_) (fun c1 => ?_)
      · skip
        have he : r.1 = true → pe n t i2 ≠ 44 := fun z z2 => by
          obtain ⟨k1, k2, k3, k4, k5, k6, k7, k8, k9⟩ := q4.2.resolve_right (fun q => by rw [z] at q; exact absurd q.1 (by decide))
          have y1 := (oP_lt _ _ _ _ k9).2
          have y2 := pe_lt (n := n) (t := t) (a := i2) (by omega)
          omega
        exact z_vret F dX3_readParts_59 rfl ⟨Nat.le_refl _, Nat.le_refl _⟩ (q5 _ _ (ln_end q4 q2.1 he))
      · skip
        refine z_aload_n dX3_readParts_16 rfl ?_
        refine gf_X3_9 dX3_readParts_17 LHa rfl ?_
        refine z_iconst dX3_readParts_20 ?_
        refine z_icmp_ne dX3_readParts_21 (tgt := 37) rfl (by rcases q4.2 with ⟨_, z, _⟩ | ⟨_, z, _⟩ <;> exact ⟨by omega, by omega⟩) (by decide) (fun c2 => ?_) (fun c2 => ?_)
        · skip
          have he : r.1 = true → pe n t i2 ≠ 44 := fun z z2 => by
            obtain ⟨k1, k2, k3, k4, k5, k6, k7, k8, k9⟩ := q4.2.resolve_right (fun q => by rw [z] at q; exact absurd q.1 (by decide))
            exact c2 k2
          exact z_vret F dX3_readParts_37 rfl ⟨Nat.le_refl _, Nat.le_refl _⟩ (q5 _ _ (ln_end q4 q2.1 he))
        · skip
          obtain ⟨k1, k2, k3, k4, k5, k6, k7, k8, k9⟩ := q4.2.resolve_right (fun q => by have := q.2.1; omega)
          subst k2
          have hbi := pe_b h8 i2
          refine z_aload_n dX3_readParts_24 rfl ?_
          refine z_aload_n dX3_readParts_25 rfl ?_
          refine gf_X3_53 dX3_readParts_26 LHa rfl ?_
          refine cs_X3_59 dX3_readParts_29 (D_X3_byteAt_n (LHo hD) (j := i2) rfl (by omega)) LHa rfl rfl (Nat.le_of_ble_eq_true rfl) ⟨(show 1 + 1 ≤ 3 * (5 - w) + 9 by omega), by exact Nat.le_refl 0, by exact Nat.le_refl 0⟩ (z_ki ?_)
          refine z_bipush dX3_readParts_32 rfl ?_
          refine z_icmp_eq dX3_readParts_34 (tgt := 38) rfl ⟨by omega, by omega⟩ (by decide) (fun c3 => ?_) (fun c3 => ?_)
          · skip
            have hc44 : pe n t i2 = 44 := c3
            have hi2 := pe_lt (n := n) (t := t) (a := i2) (by omega)
            have y1 := (oP_lt _ _ _ _ k9).2
            have y3 := q3 k1
            obtain ⟨f2', rfl⟩ : ∃ m, f2 = m + 1 := ⟨f2 - 1, by omega⟩
            refine z_aload_n dX3_readParts_38 rfl ?_
            refine z_dup dX3_readParts_39 rfl ?_
            refine gf_X3_53 dX3_readParts_40 LHa rfl ?_
            refine z_iconst dX3_readParts_43 ?_
            refine z_iadd dX3_readParts_44 ?_
            refine pf_X3_53 dX3_readParts_45 LHa (Nat.le_of_ble_eq_true rfl) ?_
            refine z_heq LHua ?_
            refine z_aload_n dX3_readParts_48 rfl ?_
            refine z_iload_n dX3_readParts_49 rfl ?_
            refine cs_X3_56 dX3_readParts_50 (hQQ f2' (by omega) w ms mp mn me P2 d2 (i2 + 1) tl2 hw k7 (by omega) (by omega) k8 (by omega)) LHa rfl rfl (Nat.le_of_ble_eq_true rfl) ⟨Nat.le_refl (3 * (5 - w) + 9), by exact Nat.le_refl 0, by exact Nat.le_refl 0⟩ (fun rv h' hq => ?_)
            obtain ⟨rfl, fs', fp', fn', fe', P', d', i', tl', fl', rfl, hag, hok⟩ := hq
            show z_w _ _ _ _ _ _ _ [] _ _ _
            refine z_iinc dX3_readParts_53 rfl rfl ?_
            refine z_goto dX3_readParts_56 (tgt := 7) rfl ?_
            exact ih (c + 1) f2' P2 (i2 + 1) ms mp mn me fs' fp' fn' fe' P' d' i' tl' fl' (rdO n t (rdS n t f2') w (i2 + 1, P2, d2, tl2)) (by omega) (by omega) (fun z => by obtain ⟨z1, z2, z3, z4, z5, z6, z7, z8, z9⟩ := hok.resolve_right (fun q => by rw [z] at q; exact absurd q.1 (by decide)); have := (oP_lt _ _ _ _ z9).2; omega) ⟨hag, hok⟩ (fun rv h' z => q5 rv h' (ln_more q4 k1 (by omega) hc44 z)) (by omega)
          · skip
            have he : r.1 = true → pe n t i2 ≠ 44 := fun _ => c3
            exact z_vret F dX3_readParts_37 rfl ⟨Nat.le_refl _, Nat.le_refl _⟩ (q5 _ _ (ln_end q4 q2.1 he))
  exact L4 (f + 1) 0 f P i fs fp fn fe fs' fp' fn' fe' P' d' i' tl' fl' (rdO n t (rdS n t f) w (i, P, d, tl)) (Nat.le_refl _) ⟨hi, Nat.zero_le _⟩ (fun z => by obtain ⟨z1, z2, z3, z4, z5, z6, z7, z8, z9⟩ := hok.resolve_right (fun q => by rw [z] at q; exact absurd q.1 (by decide)); have := (oP_lt _ _ _ _ z9).2; omega) ⟨hag, hok⟩ (fun rv h' z => z) (by omega)
theorem PQ_all {g : z_G} {h0 : z_H} {a b s p u e n : Nat} {t : Nat → Int} (hD : lD h0 a b s p u e n t) : ∀ f, (∀ f', f' < f → PP g h0 a b s p u e n t f') ∧ (∀ f', f' < f → QQ g h0 a b s p u e n t f') := by
  intro f
  induction f with
  | zero => exact ⟨fun f' h => absurd h (Nat.not_lt_zero _), fun f' h => absurd h (Nat.not_lt_zero _)⟩
  | succ f ih =>
    have hP : PP g h0 a b s p u e n t f := D_X3_readParts hD ih.2
    have hQ : QQ g h0 a b s p u e n t f := D_X3_readPart hD hP
    exact ⟨fun f' h => by rcases (show f' < f ∨ f' = f by omega) with q | q; exact ih.1 f' q; rw [q]; exact hP, fun f' h => by rcases (show f' < f ∨ f' = f by omega) with q | q; exact ih.2 f' q; rw [q]; exact hQ⟩
theorem PP_all {g : z_G} {h0 : z_H} {a b s p u e n : Nat} {t : Nat → Int} (hD : lD h0 a b s p u e n t) (f : Nat) : PP g h0 a b s p u e n t f := (PQ_all hD (f + 1)).1 f (Nat.lt_succ_self f)
