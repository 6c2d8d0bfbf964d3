/-! the reference: what works a row: small methods -/
abbrev MW (h0 : z_H) (A : Nat → Nat) (Rf Nw Th Tp Tx Lk Ho Sz Im Mv : z_row) (kp ln sz at_ we pa de ti ca : Int) (q : wkT) : z_H := (MH h0 A Rf Nw Th Tp Tx (k_f q) (k_p q) (k_t q) Lk Ho Sz Im Mv kp ln sz at_ we pa de ti (k_l q) (k_m q) (k_z q) (k_h q) (k_a q) (k_w q) ca)
set_option maxHeartbeats 4000000 in
set_option maxRecDepth 100000 in
theorem D_X9_hits {g : z_G} {h0 : z_H} {A : Nat → Nat} (hM : mD A) {Rf Nw Th Tp Tx Kd Ia It Lk Ho Sz Im Mv : Nat → Int} {kp ln sz at_ we pa de ti lf md mn hi ha is_ ca : Int} {x y v : Int} : z_D g mX9_hits 1 0 0 [z_r (A 0), z_i x, z_i y, z_i v] (MH h0 A Rf Nw Th Tp Tx Kd Ia It Lk Ho Sz Im Mv kp ln sz at_ we pa de ti lf md mn hi ha is_ ca) (z_Pv (MH h0 A Rf Nw Th Tp Tx Kd Ia It Lk Ho Sz Im Mv kp ln sz at_ we pa de ti lf md mn x y v ca)) := by
  refine z_D.of (by decide +kernel) (Nat.le_of_ble_eq_true rfl) (fun X F => ?_)
  show z_w g X cX9_hits RX9 (1, 0, 0) 0 [z_r (A 0), z_i x, z_i y, z_i v] [] (MH h0 A Rf Nw Th Tp Tx Kd Ia It Lk Ho Sz Im Mv kp ln sz at_ we pa de ti lf md mn hi ha is_ ca) 0 0
  refine z_aload_n dX9_hits_0 rfl ?_
  refine z_iload_n dX9_hits_1 rfl ?_
  refine pf_X9_132 dX9_hits_2 MH_0 (Nat.le_of_ble_eq_true rfl) ?_
  refine z_heq MHu_0 ?_
  refine z_aload_n dX9_hits_5 rfl ?_
  refine z_iload_n dX9_hits_6 rfl ?_
  refine pf_X9_135 dX9_hits_7 MH_0 (Nat.le_of_ble_eq_true rfl) ?_
  refine z_heq MHu_0 ?_
  refine z_aload_n dX9_hits_10 rfl ?_
  refine z_iload_n dX9_hits_11 rfl ?_
  refine pf_X9_138 dX9_hits_12 MH_0 (Nat.le_of_ble_eq_true rfl) ?_
  refine z_heq MHu_0 ?_
  exact z_vret F dX9_hits_15 rfl (by decide) ⟨rfl, rfl⟩
set_option maxHeartbeats 4000000 in
set_option maxRecDepth 100000 in
theorem D_X9_stitches {g : z_G} {h0 : z_H} {A : Nat → Nat} (hM : mD A) {Rf Nw Th Tp Tx Lk Ho Sz Im Mv : z_row} {kp ln sz at_ we pa de ti ca : Int} {f fp ft : z_row} {z l m pl wi : Int} (hO : wkO (f, fp, ft, z, l, m, 0, pl, wi)) {kd a w : Int} (hk : kOk kd) {N : Nat} (hN : N ≤ 60) : z_D g mX9_stitches 2 0 0 [z_r (A 0), z_i kd, z_i (N : Int), z_i a, z_i w] (MH h0 A Rf Nw Th Tp Tx f fp ft Lk Ho Sz Im Mv kp ln sz at_ we pa de ti l m z 0 pl wi ca) (z_Pv (MW h0 A Rf Nw Th Tp Tx Lk Ho Sz Im Mv kp ln sz at_ we pa de ti ca (wkW kd a w N (f, fp, ft, z, l, m, 0, pl, wi)))) := by
  refine z_D.of (by decide +kernel) (Nat.le_of_ble_eq_true rfl) (fun X F => ?_)
  have b1 := kT_b kd
  have b2 := kM_b kd
  have b3 := hk.1
  have b4 := hk.2
  show z_w g X cX9_stitches RX9 (2, 0, 0) 0 [z_r (A 0), z_i kd, z_i (N : Int), z_i a, z_i w, z_u] [] (MH h0 A Rf Nw Th Tp Tx f fp ft Lk Ho Sz Im Mv kp ln sz at_ we pa de ti l m z 0 pl wi ca) 0 0
  refine z_iconst dX9_stitches_0 ?_
  refine z_istore dX9_stitches_1 (Nat.le_of_ble_eq_true rfl) rfl ?_
  have L4 : ∀ (fu : Nat) (r rem : Nat) (f2 : z_row) (z2 l2 m2 : Int) (q1 : r + rem = N) (hO2 : wkO (f2, fp, ft, z2, l2, m2, 0, pl, wi)) (q3 : wkW kd a w N (f, fp, ft, z, l, m, 0, pl, wi) = wkW kd a w rem (f2, fp, ft, z2, l2, m2, 0, pl, wi)), rem < fu → z_w g X cX9_stitches RX9 (2, 0, 0) 3 [z_r (A 0), z_i kd, z_i (N : Int), z_i a, z_i w, z_i (r : Int)] [] (MH h0 A Rf Nw Th Tp Tx f2 fp ft Lk Ho Sz Im Mv kp ln sz at_ we pa de ti l2 m2 z2 0 pl wi ca) 0 0 := by
    intro fu
    induction fu with
    | zero => intro r rem f2 z2 l2 m2 q1 hO2 q3 hm; exact absurd hm (Nat.not_lt_zero _)
    | succ fu ih =>
      intro r rem f2 z2 l2 m2 q1 hO2 q3 hm
      refine z_iload dX9_stitches_3 rfl ?_
      refine z_iload_n dX9_stitches_5 rfl ?_
      refine z_icmp_ge dX9_stitches_6 (tgt := 136) rfl ⟨by omega, by omega⟩ ⟨by omega, by omega⟩ (fun c1 => ?_) (fun c1 => ?_)
      · skip
        obtain rfl : rem = 0 := by omega
        exact z_vret F dX9_stitches_136 rfl (by decide) ⟨rfl, by rw [q3]; rfl⟩
      · skip
        obtain ⟨rem', rfl⟩ : ∃ y, rem = y + 1 := ⟨rem - 1, by omega⟩
        have c0 : 0 ≤ z2 ∧ z2 ≤ 200 := hO2.1
        have c1x : 0 ≤ l2 ∧ l2 ≤ 60 := hO2.2.1
        have c2x : 0 ≤ m2 ∧ m2 ≤ 60 := hO2.2.2.1
        refine z_aload_n dX9_stitches_9 rfl ?_
        refine gf_X9_132 dX9_stitches_10 MH_0 rfl ?_
        refine z_if_ne dX9_stitches_13 (tgt := 136) rfl (by decide) (fun c2 => ?_) (fun c2 => ?_)
        · exact absurd c2 (by decide)
        · skip
          refine z_iload_n dX9_stitches_16 rfl ?_
          refine cs_X9_141 dX9_stitches_17 (D_X9_takes (a := kd) ⟨by omega, by omega⟩) rfl rfl (Nat.le_of_ble_eq_true rfl) (by decide) (z_ki ?_)
          refine z_aload_n dX9_stitches_20 rfl ?_
          refine gf_X9_144 dX9_stitches_21 MH_0 rfl ?_
          refine z_icmp_le dX9_stitches_24 (tgt := 38) rfl ⟨by omega, by omega⟩ ⟨by omega, by omega⟩ (fun c3 => ?_) (fun c3 => ?_)
          · skip
            refine z_aload_n dX9_stitches_38 rfl ?_
            refine gf_X9_151 dX9_stitches_39 MH_0 rfl ?_
            refine z_iload_n dX9_stitches_42 rfl ?_
            refine cs_X9_154 dX9_stitches_43 (D_X9_makes (a := kd) ⟨by omega, by omega⟩) rfl rfl (Nat.le_of_ble_eq_true rfl) (by decide) (z_ki ?_)
            refine z_iadd dX9_stitches_46 ?_
            refine z_bipush dX9_stitches_47 rfl ?_
            refine z_icmp_le dX9_stitches_49 (tgt := 63) rfl ⟨by omega, by omega⟩ (by decide) (fun c4 => ?_) (fun c4 => ?_)
            · skip
              refine z_aload_n dX9_stitches_63 rfl ?_
              refine gf_X9_157 dX9_stitches_64 MH_0 rfl ?_
              refine z_sipush dX9_stitches_67 rfl ?_
              refine z_icmp_ne dX9_stitches_70 (tgt := 84) rfl ⟨by omega, by omega⟩ (by decide) (fun c5 => ?_) (fun c5 => ?_)
              · skip
                have h0k : wkH kd (f2, fp, ft, z2, l2, m2, 0, pl, wi) = 0 := by unfold wkH; simp only [k_z, k_l, k_m]; repeat (first | rw [if_pos (by omega)] | rw [if_neg (by omega)])
                refine z_aload_n dX9_stitches_84 rfl ?_
                refine z_dup dX9_stitches_85 rfl ?_
                refine gf_X9_144 dX9_stitches_86 MH_0 rfl ?_
                refine z_iload_n dX9_stitches_89 rfl ?_
                refine cs_X9_141 dX9_stitches_90 (D_X9_takes (a := kd) ⟨by omega, by omega⟩) rfl rfl (Nat.le_of_ble_eq_true rfl) (by decide) (z_ki ?_)
                refine z_isub dX9_stitches_93 ?_
                refine pf_X9_144 dX9_stitches_94 MH_0 (Nat.le_of_ble_eq_true rfl) ?_
                refine z_heq MHu_0 ?_
                refine z_aload_n dX9_stitches_97 rfl ?_
                refine z_dup dX9_stitches_98 rfl ?_
                refine gf_X9_151 dX9_stitches_99 MH_0 rfl ?_
                refine z_iload_n dX9_stitches_102 rfl ?_
                refine cs_X9_154 dX9_stitches_103 (D_X9_makes (a := kd) ⟨by omega, by omega⟩) rfl rfl (Nat.le_of_ble_eq_true rfl) (by decide) (z_ki ?_)
                refine z_iadd dX9_stitches_106 ?_
                refine pf_X9_151 dX9_stitches_107 MH_0 (Nat.le_of_ble_eq_true rfl) ?_
                refine z_heq MHu_0 ?_
                refine z_aload_n dX9_stitches_110 rfl ?_
                refine gf_X9_25 dX9_stitches_111 MH_0 rfl ?_
                refine z_aload_n dX9_stitches_114 rfl ?_
                refine gf_X9_157 dX9_stitches_115 MH_0 rfl ?_
                refine z_iload_n dX9_stitches_118 rfl ?_
                refine z_iast dX9_stitches_119 (MH_6 hM) ⟨by omega, by omega, by omega⟩ ?_
                refine z_heq (MHu_6 hM) ?_
                refine z_aload_n dX9_stitches_120 rfl ?_
                refine z_dup dX9_stitches_121 rfl ?_
                refine gf_X9_157 dX9_stitches_122 MH_0 rfl ?_
                refine z_iconst dX9_stitches_125 ?_
                refine z_iadd dX9_stitches_126 ?_
                refine pf_X9_157 dX9_stitches_127 MH_0 (Nat.le_of_ble_eq_true rfl) ?_
                refine z_heq MHu_0 ?_
                refine z_iinc dX9_stitches_130 rfl rfl ?_
                refine z_goto dX9_stitches_133 (tgt := 3) rfl ?_
                exact ih (r + 1) rem' (z_sf f2 z2.toNat kd) (z2 + 1) (l2 - kT kd) (m2 + kM kd) (by omega) (wk1_O hO2 hk h0k) (q3.trans (if_pos h0k)) (by omega)
              · skip
                have h0k : wkH kd (f2, fp, ft, z2, l2, m2, 0, pl, wi) = 3 := by unfold wkH; simp only [k_z, k_l, k_m]; repeat (first | rw [if_pos (by omega)] | rw [if_neg (by omega)])
                refine z_aload_n dX9_stitches_73 rfl ?_
                refine z_iconst dX9_stitches_74 ?_
                refine z_iload_n dX9_stitches_75 rfl ?_
                refine z_iload dX9_stitches_76 rfl ?_
                refine cs_X9_147 dX9_stitches_78 (D_X9_hits hM) MH_0 rfl rfl (Nat.le_of_ble_eq_true rfl) (by decide) (z_kv ?_)
                refine z_goto dX9_stitches_81 (tgt := 130) rfl ?_
                refine z_iinc dX9_stitches_130 rfl rfl ?_
                refine z_goto dX9_stitches_133 (tgt := 3) rfl ?_
                refine z_iload dX9_stitches_3 rfl ?_
                refine z_iload_n dX9_stitches_5 rfl ?_
                refine z_icmp_ge dX9_stitches_6 (tgt := 136) rfl ⟨by omega, by omega⟩ ⟨by omega, by omega⟩ (fun c6 => ?_) (fun c6 => ?_)
                · skip
                  exact z_vret F dX9_stitches_136 rfl (by decide) ⟨rfl, by rw [q3, show wkW kd a w (rem' + 1) (f2, fp, ft, z2, l2, m2, 0, pl, wi) = wkS (wkH kd (f2, fp, ft, z2, l2, m2, 0, pl, wi)) a w (f2, fp, ft, z2, l2, m2, 0, pl, wi) from if_neg (by omega), h0k] <;> rfl⟩
                · skip
                  refine z_aload_n dX9_stitches_9 rfl ?_
                  refine gf_X9_132 dX9_stitches_10 MH_0 rfl ?_
                  refine z_if_ne dX9_stitches_13 (tgt := 136) rfl (by decide) (fun c7 => ?_) (fun c7 => ?_)
                  · skip
                    exact z_vret F dX9_stitches_136 rfl (by decide) ⟨rfl, by rw [q3, show wkW kd a w (rem' + 1) (f2, fp, ft, z2, l2, m2, 0, pl, wi) = wkS (wkH kd (f2, fp, ft, z2, l2, m2, 0, pl, wi)) a w (f2, fp, ft, z2, l2, m2, 0, pl, wi) from if_neg (by omega), h0k] <;> rfl⟩
                  · exact absurd c7 (by decide)
            · skip
              have h0k : wkH kd (f2, fp, ft, z2, l2, m2, 0, pl, wi) = 2 := by unfold wkH; simp only [k_z, k_l, k_m]; repeat (first | rw [if_pos (by omega)] | rw [if_neg (by omega)])
              refine z_aload_n dX9_stitches_52 rfl ?_
              refine z_iconst dX9_stitches_53 ?_
              refine z_iload_n dX9_stitches_54 rfl ?_
              refine z_iload dX9_stitches_55 rfl ?_
              refine cs_X9_147 dX9_stitches_57 (D_X9_hits hM) MH_0 rfl rfl (Nat.le_of_ble_eq_true rfl) (by decide) (z_kv ?_)
              refine z_goto dX9_stitches_60 (tgt := 130) rfl ?_
              refine z_iinc dX9_stitches_130 rfl rfl ?_
              refine z_goto dX9_stitches_133 (tgt := 3) rfl ?_
              refine z_iload dX9_stitches_3 rfl ?_
              refine z_iload_n dX9_stitches_5 rfl ?_
              refine z_icmp_ge dX9_stitches_6 (tgt := 136) rfl ⟨by omega, by omega⟩ ⟨by omega, by omega⟩ (fun c8 => ?_) (fun c8 => ?_)
              · skip
                exact z_vret F dX9_stitches_136 rfl (by decide) ⟨rfl, by rw [q3, show wkW kd a w (rem' + 1) (f2, fp, ft, z2, l2, m2, 0, pl, wi) = wkS (wkH kd (f2, fp, ft, z2, l2, m2, 0, pl, wi)) a w (f2, fp, ft, z2, l2, m2, 0, pl, wi) from if_neg (by omega), h0k] <;> rfl⟩
              · skip
                refine z_aload_n dX9_stitches_9 rfl ?_
                refine gf_X9_132 dX9_stitches_10 MH_0 rfl ?_
                refine z_if_ne dX9_stitches_13 (tgt := 136) rfl (by decide) (fun c9 => ?_) (fun c9 => ?_)
                · skip
                  exact z_vret F dX9_stitches_136 rfl (by decide) ⟨rfl, by rw [q3, show wkW kd a w (rem' + 1) (f2, fp, ft, z2, l2, m2, 0, pl, wi) = wkS (wkH kd (f2, fp, ft, z2, l2, m2, 0, pl, wi)) a w (f2, fp, ft, z2, l2, m2, 0, pl, wi) from if_neg (by omega), h0k] <;> rfl⟩
                · exact absurd c9 (by decide)
          · skip
            have h0k : wkH kd (f2, fp, ft, z2, l2, m2, 0, pl, wi) = 1 := by unfold wkH; simp only [k_z, k_l, k_m]; repeat (first | rw [if_pos (by omega)] | rw [if_neg (by omega)])
            refine z_aload_n dX9_stitches_27 rfl ?_
            refine z_iconst dX9_stitches_28 ?_
            refine z_iload_n dX9_stitches_29 rfl ?_
            refine z_iload dX9_stitches_30 rfl ?_
            refine cs_X9_147 dX9_stitches_32 (D_X9_hits hM) MH_0 rfl rfl (Nat.le_of_ble_eq_true rfl) (by decide) (z_kv ?_)
            refine z_goto dX9_stitches_35 (tgt := 130) rfl ?_
            refine z_iinc dX9_stitches_130 rfl rfl ?_
            refine z_goto dX9_stitches_133 (tgt := 3) rfl ?_
            refine z_iload dX9_stitches_3 rfl ?_
            refine z_iload_n dX9_stitches_5 rfl ?_
            refine z_icmp_ge dX9_stitches_6 (tgt := 136) rfl ⟨by omega, by omega⟩ ⟨by omega, by omega⟩ (fun c10 => ?_) (fun c10 => ?_)
            · skip
              exact z_vret F dX9_stitches_136 rfl (by decide) ⟨rfl, by rw [q3, show wkW kd a w (rem' + 1) (f2, fp, ft, z2, l2, m2, 0, pl, wi) = wkS (wkH kd (f2, fp, ft, z2, l2, m2, 0, pl, wi)) a w (f2, fp, ft, z2, l2, m2, 0, pl, wi) from if_neg (by omega), h0k] <;> rfl⟩
            · skip
              refine z_aload_n dX9_stitches_9 rfl ?_
              refine gf_X9_132 dX9_stitches_10 MH_0 rfl ?_
              refine z_if_ne dX9_stitches_13 (tgt := 136) rfl (by decide) (fun c11 => ?_) (fun c11 => ?_)
              · skip
                exact z_vret F dX9_stitches_136 rfl (by decide) ⟨rfl, by rw [q3, show wkW kd a w (rem' + 1) (f2, fp, ft, z2, l2, m2, 0, pl, wi) = wkS (wkH kd (f2, fp, ft, z2, l2, m2, 0, pl, wi)) a w (f2, fp, ft, z2, l2, m2, 0, pl, wi) from if_neg (by omega), h0k] <;> rfl⟩
              · exact absurd c11 (by decide)
  exact L4 (N + 1) 0 N f z l m (by omega) hO rfl (by omega)
/-! where what ends parts stands -/
abbrev isOp (c : Int) : Prop := c = 40 ∨ c = 60
abbrev isCl (c : Int) : Prop := c = 41 ∨ c = 62
def en (n : Nat) (t : z_row) : Nat → Nat → Nat → Nat
  | 0, k, _ => k
  | f + 1, k, o => if k < n ∧ (0 < o ∨ ¬ isCl (t k)) then en n t f (k + 1) (if isOp (t k) then o + 1 else if isCl (t k) then o - 1 else o) else k
def eN (n : Nat) (t : z_row) (k o : Nat) : Nat := en n t (n - k) k o
section ZN
variable {n : Nat} {t : z_row} {k o : Nat}
theorem eN_u (hk : k < n) : eN n t k o = if k < n ∧ (0 < o ∨ ¬ isCl (t k)) then eN n t (k + 1) (if isOp (t k) then o + 1 else if isCl (t k) then o - 1 else o) else k := by
  unfold eN
  rw [show n - k = (n - (k + 1)) + 1 by omega]
  rfl
theorem eN_o (hk : k < n) (h : isOp (t k)) : eN n t k o = eN n t (k + 1) (o + 1) := by
  rw [eN_u hk, if_pos ⟨hk, Or.inr (by omega)⟩, if_pos h]
theorem eN_c (hk : k < n) (h : isCl (t k)) (ho : 0 < o) : eN n t k o = eN n t (k + 1) (o - 1) := by
  rw [eN_u hk, if_pos ⟨hk, Or.inl ho⟩, if_neg (by omega), if_pos h]
theorem eN_n (hk : k < n) (h : ¬ isOp (t k)) (h2 : ¬ isCl (t k)) : eN n t k o = eN n t (k + 1) o := by
  rw [eN_u hk, if_pos ⟨hk, Or.inr h2⟩, if_neg h, if_neg h2]
theorem eN_x (h : n ≤ k ∨ (o = 0 ∧ isCl (t k))) : eN n t k o = k := by
  by_cases hk : k < n
  · rw [eN_u hk, if_neg (by omega)]
  · unfold eN
    rw [show n - k = 0 by omega]
    rfl
end ZN
/-- what lies between is told whole: as many opened as shut -/
def bal (n : Nat) (t : z_row) (s e : Nat) : Prop := ∀ o, eN n t s o = eN n t e o
theorem bal_tr {n : Nat} {t : z_row} {s c e : Nat} (h1 : bal n t s c) (h2 : bal n t c e) : bal n t s e := fun o => (h1 o).trans (h2 o)
theorem bal_ne {n : Nat} {t : z_row} : ∀ m s, (∀ k, s ≤ k → k < s + m → k < n ∧ ¬ isOp (t k) ∧ ¬ isCl (t k)) → bal n t s (s + m) := by
  intro m
  induction m with
  | zero => intro s _ o; rfl
  | succ m ih =>
    intro s h o
    obtain ⟨a1, a2, a3⟩ := h s (Nat.le_refl _) (by omega)
    rw [eN_n a1 a2 a3, ih (s + 1) (fun k h1 h2 => h k (by omega) (by omega)) o]
    congr 1
    omega
theorem bal_w {n : Nat} {t : z_row} {s : Nat} : bal n t s (wEnd n t s) := by
  have h1 : s ≤ wEnd n t s := wE_le n t (n - s) s
  obtain ⟨m, hm⟩ : ∃ m, wEnd n t s = s + m := ⟨wEnd n t s - s, by omega⟩
  rw [hm]
  refine bal_ne m s (fun k a1 a2 => ?_)
  have h2 := wE_let n t (n - s) s k a1 (by show k < wEnd n t s; omega)
  have h3 := pe_lt (n := n) (t := t) (a := k) (by omega)
  rw [pe_in h3] at h2
  exact ⟨h3, by omega, by omega⟩
theorem bal_d {n : Nat} {t : z_row} {s : Nat} : bal n t s (s + nC n t s) := by
  refine bal_ne _ s (fun k a1 a2 => ?_)
  have key : ∀ k, isDg (pe n t k) → k < n ∧ ¬ isOp (t k) ∧ ¬ isCl (t k) := fun k h => by
    have h3 := pe_lt (n := n) (t := t) (a := k) (by omega)
    rw [pe_in h3] at h
    exact ⟨h3, by omega, by omega⟩
  by_cases c0 : isDg (pe n t s)
  · by_cases c1 : isDg (pe n t (s + 1))
    · rw [(nX2 c0 c1).1] at a2
      rcases (show k = s ∨ k = s + 1 by omega) with rfl | rfl
      · exact key _ c0
      · exact key _ c1
    · rw [(nX1 c0 c1).1] at a2
      rcases (show k = s by omega) with rfl
      exact key _ c0
  · rw [(nX0 c0).1] at a2
    omega
theorem bal_m {n : Nat} {t : z_row} {s : Nat} (h : pe n t s = 44) : bal n t s (s + 1) := fun o => by
  have h3 := pe_lt (n := n) (t := t) (a := s) (by omega)
  rw [pe_in h3] at h
  exact eN_n h3 (by omega) (by omega)
theorem oneP_bal {n : Nat} {t fs fp fn fe : z_row} {sg : sgT} (hsg : ∀ p q s e, sg p q s e → bal n t s e) {p q s e : Nat} (h : oneP n t fs fp fn fe sg p q s e) : bal n t s e := by
  obtain ⟨-, -, ⟨-, h4, h5, h6⟩ | ⟨h4, c, h5, h6, h7, h8, h9⟩⟩ := h
  · split at h6
    · rw [h6.2.1]
      exact bal_tr bal_w bal_d
    · rw [h6.1]
      exact bal_w
  · intro o
    have hs := pe_lt (n := n) (t := t) (a := s) (by omega)
    have hc := pe_lt (n := n) (t := t) (a := c) (by rw [h6]; split <;> omega)
    rw [pe_in hs] at h4
    rw [pe_in hc] at h6
    rw [eN_o hs (by omega), hsg _ _ _ _ h5 (o + 1), eN_c hc (by rw [h6]; split <;> omega) (Nat.succ_pos _), h8]
    exact bal_d o
theorem seqP_bal {n : Nat} {t : z_row} {one : sgT} (ho : ∀ p q s e, one p q s e → bal n t s e) : ∀ f p q s e, seqP n t one f p q s e → bal n t s e := by
  intro f
  induction f with
  | zero => intro p q s e h; exact h.elim
  | succ f ih =>
    intro p q s e h
    rcases h with ⟨h, -⟩ | ⟨p', e', h1, h2, h3⟩
    · exact ho _ _ _ _ h
    · exact bal_tr (ho _ _ _ _ h1) (bal_tr (bal_m h2) (ih _ _ _ _ h3))
theorem sgP_bal {n : Nat} {t fs fp fn fe : z_row} : ∀ d p q s e, sgP n t fs fp fn fe d p q s e → bal n t s e := by
  intro d
  induction d with
  | zero => intro p q s e h; exact h.elim
  | succ d ih =>
    intro p q s e h
    exact seqP_bal (fun _ _ _ _ h => oneP_bal ih h) _ _ _ _ _ h
theorem sgP_eN {n : Nat} {t fs fp fn fe : z_row} {d p q s c : Nat} (h : sgP n t fs fp fn fe d p q s c) (hc : pe n t c = 41 ∨ pe n t c = 62) : eN n t s 0 = c := by
  rw [sgP_bal _ _ _ _ _ h 0]
  have h3 := pe_lt (n := n) (t := t) (a := c) (by omega)
  rw [pe_in h3] at hc
  exact eN_x (Or.inr ⟨rfl, hc⟩)
set_option maxHeartbeats 4000000 in
set_option maxRecDepth 100000 in
theorem D_X9_end {g : z_G} {h0 : z_H} {A : Nat → Nat} (hM : mD A) {Rf Nw Th Tp Tx Kd Ia It Lk Ho Sz Im Mv : Nat → Int} {kp ln at_ we pa de ti lf md mn hi ha is_ ca : Int} {n j : Nat} (hn : n ≤ 250) (hj : j ≤ n) (ht : ∀ q, q < n → 0 ≤ Tx q ∧ Tx q ≤ 255) : z_D g mX9_end 1 0 0 [z_r (A 0), z_i (j : Int)] (MH h0 A Rf Nw Th Tp Tx Kd Ia It Lk Ho Sz Im Mv kp ln (n : Int) at_ we pa de ti lf md mn hi ha is_ ca) (z_Pi ((eN n Tx j 0 : Nat) : Int) (MH h0 A Rf Nw Th Tp Tx Kd Ia It Lk Ho Sz Im Mv kp ln (n : Int) at_ we pa de ti lf md mn hi ha is_ ca)) := by
  refine z_D.of (by decide +kernel) (Nat.le_of_ble_eq_true rfl) (fun X F => ?_)
  show z_w g X cX9_end RX9 (1, 0, 0) 0 [z_r (A 0), z_i (j : Int), z_u, z_u] [] (MH h0 A Rf Nw Th Tp Tx Kd Ia It Lk Ho Sz Im Mv kp ln (n : Int) at_ we pa de ti lf md mn hi ha is_ ca) 0 0
  refine z_iconst dX9_end_0 ?_
  refine z_istore_n dX9_end_1 (Nat.le_of_ble_eq_true rfl) rfl ?_
  refine z_iload_n dX9_end_2 rfl ?_
  refine z_istore_n dX9_end_3 (Nat.le_of_ble_eq_true rfl) rfl ?_
  have L4 : ∀ (fu : Nat) (k o : Nat) (q1 : k ≤ n ∧ o ≤ k) (q3 : eN n Tx j 0 = eN n Tx k o), n - k < fu → z_w g X cX9_end RX9 (1, 0, 0) 4 [z_r (A 0), z_i (j : Int), z_i (o : Int), z_i (k : Int)] [] (MH h0 A Rf Nw Th Tp Tx Kd Ia It Lk Ho Sz Im Mv kp ln (n : Int) at_ we pa de ti lf md mn hi ha is_ ca) 0 0 := by
    intro fu
    induction fu with
    | zero => intro k o q1 q3 hm; exact absurd hm (Nat.not_lt_zero _)
    | succ fu ih =>
      intro k o q1 q3 hm
      refine z_iload_n dX9_end_4 rfl ?_
      refine z_aload_n dX9_end_5 rfl ?_
      refine gf_X9_70 dX9_end_6 MH_0 rfl ?_
      refine z_icmp_ge dX9_end_9 (tgt := 100) rfl ⟨by omega, by omega⟩ ⟨by omega, by omega⟩ (fun c1 => ?_) (fun c1 => ?_)
      · skip
        have hx : eN n Tx j 0 = k := q3.trans (eN_x (by omega))
        refine z_iload_n dX9_end_100 rfl ?_
        exact z_iret F dX9_end_101 rfl (by decide) ⟨congrArg (fun z => some (z_i z)) (by rw [hx]), rfl⟩
      · skip
        have hkn : k < n := by omega
        have hb := ht k hkn
        refine z_iload_n dX9_end_12 rfl ?_
        refine z_if_gt dX9_end_13 (tgt := 38) rfl ⟨by omega, by omega⟩ (fun c2 => ?_) (fun c2 => ?_)
        · skip
          refine z_iload_n dX9_end_38 rfl ?_
          refine z_aload_n dX9_end_39 rfl ?_
          refine gf_X9_22 dX9_end_40 MH_0 rfl ?_
          refine z_iload_n dX9_end_43 rfl ?_
          refine z_iald dX9_end_44 (MH_5 hM) ⟨by omega, by omega, by omega⟩ ?_
          refine z_bipush dX9_end_45 rfl ?_
          refine z_icmp_eq dX9_end_47 (tgt := 61) rfl ⟨(show -2147483648 ≤ Tx k by omega), (show Tx k < 2147483648 by omega)⟩ (by decide) (fun c3 => ?_) (fun c3 => ?_)
          · skip
            have h8 : isOp (Tx k) := Or.inl c3
            refine z_iconst dX9_end_61 ?_
            refine z_goto dX9_end_62 (tgt := 92) rfl ?_
            refine z_iadd dX9_end_92 ?_
            refine z_ieq (y := ((o + 1 : Nat) : Int)) (by omega) ?_
            refine z_istore_n dX9_end_93 (Nat.le_of_ble_eq_true rfl) rfl ?_
            refine z_iinc dX9_end_94 rfl rfl ?_
            refine z_goto dX9_end_97 (tgt := 4) rfl ?_
            exact ih (k + 1) (o + 1) (by omega) (q3.trans (eN_o hkn h8)) (by omega)
          · skip
            have n40 : ¬ Tx k = 40 := c3
            refine z_aload_n dX9_end_50 rfl ?_
            refine gf_X9_22 dX9_end_51 MH_0 rfl ?_
            refine z_iload_n dX9_end_54 rfl ?_
            refine z_iald dX9_end_55 (MH_5 hM) ⟨by omega, by omega, by omega⟩ ?_
            refine z_bipush dX9_end_56 rfl ?_
            refine z_icmp_ne dX9_end_58 (tgt := 65) rfl ⟨(show -2147483648 ≤ Tx k by omega), (show Tx k < 2147483648 by omega)⟩ (by decide) (fun c4 => ?_) (fun c4 => ?_)
            · skip
              have n60 : ¬ Tx k = 60 := c4
              refine z_aload_n dX9_end_65 rfl ?_
              refine gf_X9_22 dX9_end_66 MH_0 rfl ?_
              refine z_iload_n dX9_end_69 rfl ?_
              refine z_iald dX9_end_70 (MH_5 hM) ⟨by omega, by omega, by omega⟩ ?_
              refine z_bipush dX9_end_71 rfl ?_
              refine z_icmp_eq dX9_end_73 (tgt := 87) rfl ⟨(show -2147483648 ≤ Tx k by omega), (show Tx k < 2147483648 by omega)⟩ (by decide) (fun c5 => ?_) (fun c5 => ?_)
              · skip
                have h8 : isCl (Tx k) := Or.inl c5
                have ho : 0 < o := by omega
                refine z_iconst dX9_end_87 ?_
                refine z_goto dX9_end_88 (tgt := 92) rfl ?_
                refine z_iadd dX9_end_92 ?_
                refine z_ieq (y := ((o - 1 : Nat) : Int)) (by omega) ?_
                refine z_istore_n dX9_end_93 (Nat.le_of_ble_eq_true rfl) rfl ?_
                refine z_iinc dX9_end_94 rfl rfl ?_
                refine z_goto dX9_end_97 (tgt := 4) rfl ?_
                exact ih (k + 1) (o - 1) (by omega) (q3.trans (eN_c hkn h8 (by omega))) (by omega)
              · skip
                have n41 : ¬ Tx k = 41 := c5
                refine z_aload_n dX9_end_76 rfl ?_
                refine gf_X9_22 dX9_end_77 MH_0 rfl ?_
                refine z_iload_n dX9_end_80 rfl ?_
                refine z_iald dX9_end_81 (MH_5 hM) ⟨by omega, by omega, by omega⟩ ?_
                refine z_bipush dX9_end_82 rfl ?_
                refine z_icmp_ne dX9_end_84 (tgt := 91) rfl ⟨(show -2147483648 ≤ Tx k by omega), (show Tx k < 2147483648 by omega)⟩ (by decide) (fun c6 => ?_) (fun c6 => ?_)
                · skip
                  have h8 : ¬ isOp (Tx k) ∧ ¬ isCl (Tx k) := ⟨fun q => q.elim n40 n60, fun q => q.elim n41 c6⟩
                  refine z_iconst dX9_end_91 ?_
                  refine z_iadd dX9_end_92 ?_
                  refine z_ieq (y := (o : Int)) (by omega) ?_
                  refine z_istore_n dX9_end_93 (Nat.le_of_ble_eq_true rfl) rfl ?_
                  refine z_iinc dX9_end_94 rfl rfl ?_
                  refine z_goto dX9_end_97 (tgt := 4) rfl ?_
                  exact ih (k + 1) o (by omega) (q3.trans (eN_n hkn h8.1 h8.2)) (by omega)
                · skip
                  have h8 : isCl (Tx k) := Or.inr c6
                  have ho : 0 < o := by omega
                  refine z_iconst dX9_end_87 ?_
                  refine z_goto dX9_end_88 (tgt := 92) rfl ?_
                  refine z_iadd dX9_end_92 ?_
                  refine z_ieq (y := ((o - 1 : Nat) : Int)) (by omega) ?_
                  refine z_istore_n dX9_end_93 (Nat.le_of_ble_eq_true rfl) rfl ?_
                  refine z_iinc dX9_end_94 rfl rfl ?_
                  refine z_goto dX9_end_97 (tgt := 4) rfl ?_
                  exact ih (k + 1) (o - 1) (by omega) (q3.trans (eN_c hkn h8 (by omega))) (by omega)
            · skip
              have h8 : isOp (Tx k) := Or.inr c4
              refine z_iconst dX9_end_61 ?_
              refine z_goto dX9_end_62 (tgt := 92) rfl ?_
              refine z_iadd dX9_end_92 ?_
              refine z_ieq (y := ((o + 1 : Nat) : Int)) (by omega) ?_
              refine z_istore_n dX9_end_93 (Nat.le_of_ble_eq_true rfl) rfl ?_
              refine z_iinc dX9_end_94 rfl rfl ?_
              refine z_goto dX9_end_97 (tgt := 4) rfl ?_
              exact ih (k + 1) (o + 1) (by omega) (q3.trans (eN_o hkn h8)) (by omega)
        · skip
          refine z_aload_n dX9_end_16 rfl ?_
          refine gf_X9_22 dX9_end_17 MH_0 rfl ?_
          refine z_iload_n dX9_end_20 rfl ?_
          refine z_iald dX9_end_21 (MH_5 hM) ⟨by omega, by omega, by omega⟩ ?_
          refine z_bipush dX9_end_22 rfl ?_
          refine z_icmp_eq dX9_end_24 (tgt := 100) rfl ⟨(show -2147483648 ≤ Tx k by omega), (show Tx k < 2147483648 by omega)⟩ (by decide) (fun c7 => ?_) (fun c7 => ?_)
          · skip
            have hx : eN n Tx j 0 = k := q3.trans (eN_x (Or.inr ⟨by omega, Or.inl c7⟩))
            refine z_iload_n dX9_end_100 rfl ?_
            exact z_iret F dX9_end_101 rfl (by decide) ⟨congrArg (fun z => some (z_i z)) (by rw [hx]), rfl⟩
          · skip
            have m41 : ¬ Tx k = 41 := c7
            refine z_aload_n dX9_end_27 rfl ?_
            refine gf_X9_22 dX9_end_28 MH_0 rfl ?_
            refine z_iload_n dX9_end_31 rfl ?_
            refine z_iald dX9_end_32 (MH_5 hM) ⟨by omega, by omega, by omega⟩ ?_
            refine z_bipush dX9_end_33 rfl ?_
            refine z_icmp_eq dX9_end_35 (tgt := 100) rfl ⟨(show -2147483648 ≤ Tx k by omega), (show Tx k < 2147483648 by omega)⟩ (by decide) (fun c8 => ?_) (fun c8 => ?_)
            · skip
              have hx : eN n Tx j 0 = k := q3.trans (eN_x (Or.inr ⟨by omega, Or.inr c8⟩))
              refine z_iload_n dX9_end_100 rfl ?_
              exact z_iret F dX9_end_101 rfl (by decide) ⟨congrArg (fun z => some (z_i z)) (by rw [hx]), rfl⟩
            · skip
              have m62 : ¬ Tx k = 62 := c8
              refine z_iload_n dX9_end_38 rfl ?_
              refine z_aload_n dX9_end_39 rfl ?_
              refine gf_X9_22 dX9_end_40 MH_0 rfl ?_
              refine z_iload_n dX9_end_43 rfl ?_
              refine z_iald dX9_end_44 (MH_5 hM) ⟨by omega, by omega, by omega⟩ ?_
              refine z_bipush dX9_end_45 rfl ?_
              refine z_icmp_eq dX9_end_47 (tgt := 61) rfl ⟨(show -2147483648 ≤ Tx k by omega), (show Tx k < 2147483648 by omega)⟩ (by decide) (fun c9 => ?_) (fun c9 => ?_)
              · skip
                have h8 : isOp (Tx k) := Or.inl c9
                refine z_iconst dX9_end_61 ?_
                refine z_goto dX9_end_62 (tgt := 92) rfl ?_
                refine z_iadd dX9_end_92 ?_
                refine z_ieq (y := ((o + 1 : Nat) : Int)) (by omega) ?_
                refine z_istore_n dX9_end_93 (Nat.le_of_ble_eq_true rfl) rfl ?_
                refine z_iinc dX9_end_94 rfl rfl ?_
                refine z_goto dX9_end_97 (tgt := 4) rfl ?_
                exact ih (k + 1) (o + 1) (by omega) (q3.trans (eN_o hkn h8)) (by omega)
              · skip
                have n40 : ¬ Tx k = 40 := c9
                refine z_aload_n dX9_end_50 rfl ?_
                refine gf_X9_22 dX9_end_51 MH_0 rfl ?_
                refine z_iload_n dX9_end_54 rfl ?_
                refine z_iald dX9_end_55 (MH_5 hM) ⟨by omega, by omega, by omega⟩ ?_
                refine z_bipush dX9_end_56 rfl ?_
                refine z_icmp_ne dX9_end_58 (tgt := 65) rfl ⟨(show -2147483648 ≤ Tx k by omega), (show Tx k < 2147483648 by omega)⟩ (by decide) (fun c10 => ?_) (fun c10 => ?_)
                · skip
                  have n60 : ¬ Tx k = 60 := c10
                  refine z_aload_n dX9_end_65 rfl ?_
                  refine gf_X9_22 dX9_end_66 MH_0 rfl ?_
                  refine z_iload_n dX9_end_69 rfl ?_
                  refine z_iald dX9_end_70 (MH_5 hM) ⟨by omega, by omega, by omega⟩ ?_
                  refine z_bipush dX9_end_71 rfl ?_
                  refine z_icmp_eq dX9_end_73 (tgt := 87) rfl ⟨(show -2147483648 ≤ Tx k by omega), (show Tx k < 2147483648 by omega)⟩ (by decide) (fun c11 => ?_) (fun c11 => ?_)
                  · skip
                    exact absurd c11 m41
                  · skip
                    have n41 : ¬ Tx k = 41 := c11
                    refine z_aload_n dX9_end_76 rfl ?_
                    refine gf_X9_22 dX9_end_77 MH_0 rfl ?_
                    refine z_iload_n dX9_end_80 rfl ?_
                    refine z_iald dX9_end_81 (MH_5 hM) ⟨by omega, by omega, by omega⟩ ?_
                    refine z_bipush dX9_end_82 rfl ?_
                    refine z_icmp_ne dX9_end_84 (tgt := 91) rfl ⟨(show -2147483648 ≤ Tx k by omega), (show Tx k < 2147483648 by omega)⟩ (by decide) (fun c12 => ?_) (fun c12 => ?_)
                    · skip
                      have h8 : ¬ isOp (Tx k) ∧ ¬ isCl (Tx k) := ⟨fun q => q.elim n40 n60, fun q => q.elim n41 c12⟩
                      refine z_iconst dX9_end_91 ?_
                      refine z_iadd dX9_end_92 ?_
                      refine z_ieq (y := (o : Int)) (by omega) ?_
                      refine z_istore_n dX9_end_93 (Nat.le_of_ble_eq_true rfl) rfl ?_
                      refine z_iinc dX9_end_94 rfl rfl ?_
                      refine z_goto dX9_end_97 (tgt := 4) rfl ?_
                      exact ih (k + 1) o (by omega) (q3.trans (eN_n hkn h8.1 h8.2)) (by omega)
                    · skip
                      exact absurd c12 m62
                · skip
                  have h8 : isOp (Tx k) := Or.inr c10
                  refine z_iconst dX9_end_61 ?_
                  refine z_goto dX9_end_62 (tgt := 92) rfl ?_
                  refine z_iadd dX9_end_92 ?_
                  refine z_ieq (y := ((o + 1 : Nat) : Int)) (by omega) ?_
                  refine z_istore_n dX9_end_93 (Nat.le_of_ble_eq_true rfl) rfl ?_
                  refine z_iinc dX9_end_94 rfl rfl ?_
                  refine z_goto dX9_end_97 (tgt := 4) rfl ?_
                  exact ih (k + 1) (o + 1) (by omega) (q3.trans (eN_o hkn h8)) (by omega)
  exact L4 (n + 1) j 0 (by omega) rfl (by omega)
