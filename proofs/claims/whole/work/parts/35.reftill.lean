/-! the reference: what works a row -/
theorem wkW_l {kd a w : Int} : ∀ m q, k_l (wkW kd a w m q) ≤ k_l q := by
  intro m
  induction m with
  | zero => intro q; exact Int.le_refl _
  | succ m ih =>
    intro q
    unfold wkW
    split
    · have := ih (wk1 kd q)
      have h2 : k_l (wk1 kd q) = k_l q - kT kd := rfl
      have := kT_b kd
      omega
    · exact Int.le_refl _
theorem wkM_l {body : wkT → wkT} (hb : ∀ q, k_l (body q) ≤ k_l q) {a : Int} {w : Nat} : ∀ m tm q, k_l (wkM body a w m tm q) ≤ k_l q := by
  intro m
  induction m with
  | zero => intro tm q; exact Int.le_refl _
  | succ m ih =>
    intro tm q
    have h1 : k_l (body (wkE a tm w q)) ≤ k_l q := hb _
    unfold wkM
    split
    · exact h1
    · exact Int.le_trans (ih _ _) h1
theorem wkL_l {body : wkT → wkT} (hb : ∀ q, k_l (body q) ≤ k_l q) {b a : Int} {w : Nat} : ∀ m tm q, k_l (wkL body b a w m tm q) ≤ k_l q := by
  intro m
  induction m with
  | zero =>
    intro tm q
    unfold wkL
    split <;> exact Int.le_refl _
  | succ m ih =>
    intro tm q
    have h1 : k_l (body (wkE a tm w q)) ≤ k_l q := hb _
    unfold wkL
    split
    · split
      · exact h1
      · split
        · exact h1
        · exact Int.le_trans (ih _ _) h1
    · split <;> exact Int.le_refl _
theorem wkQ_l {fe : z_row} {part : Nat → wkT → wkT} (hp : ∀ p q, k_l (part p q) ≤ k_l q) : ∀ m p e q, k_l (wkQ fe part m p e q) ≤ k_l q := by
  intro m
  induction m with
  | zero => intro p e q; exact Int.le_refl _
  | succ m ih =>
    intro p e q
    unfold wkQ
    split
    · exact Int.le_trans (ih _ _ _) (hp _ _)
    · exact Int.le_refl _
theorem wkD_l {fs fp fn fe : z_row} : ∀ d w p e q, k_l (wkD fs fp fn fe d w p e q) ≤ k_l q := by
  intro d
  induction d with
  | zero => intro w p e q; exact Int.le_refl _
  | succ d ih =>
    intro w p e q
    refine wkQ_l (fun p q => ?_) _ _ _ _
    unfold wkP
    split
    · exact wkM_l (ih _ _ _) _ _ _
    · split
      · exact wkL_l (ih _ _ _) _ _ _
      · exact wkW_l _ _
theorem wkL_e {body : wkT → wkT} {b a : Int} {w : Nat} : ∀ m tm q, ¬ k_l q > b → wkL body b a w m tm q = if k_l q < b then wkS 5 a w q else q := by
  intro m tm q h
  cases m with
  | zero => rfl
  | succ m => exact if_neg h
theorem wkQ_h {fe : z_row} {part : Nat → wkT → wkT} : ∀ m p e q, ¬ k_h q = 0 → wkQ fe part m p e q = q := by
  intro m p e q h
  cases m with
  | zero => rfl
  | succ m => exact if_neg (fun c => h c.2)
theorem wkQ_e {fe : z_row} {part : Nat → wkT → wkT} : ∀ m p e q, ¬ p < e → wkQ fe part m p e q = q := by
  intro m p e q h
  cases m with
  | zero => rfl
  | succ m => exact if_neg (fun c => h c.1)
def wwP (h0 : z_H) (A : Nat → Nat) (Rf Nw Th Tp Tx Lk Ho Sz Im Mv : z_row) (n : Nat) (kp ln pa de ti ca : Int) (q : wkT) (e2 : Nat) : z_P := fun rv h' => rv = none ∧ ∃ at' : Nat, at' ≤ n ∧ (k_h q = 0 → at' = e2) ∧ h' = (MW h0 A Rf Nw Th Tp Tx Lk Ho Sz Im Mv kp ln (n : Int) (at' : Int) 1 pa de ti ca q)
def wwQ (h0 : z_H) (A : Nat → Nat) (Rf Nw Th Tp Tx Lk Ho Sz Im Mv : z_row) (n : Nat) (kp ln pa de ti ca : Int) (q : wkT) : z_P := fun rv h' => rv = none ∧ ∃ at' : Nat, at' ≤ n ∧ h' = (MW h0 A Rf Nw Th Tp Tx Lk Ho Sz Im Mv kp ln (n : Int) (at' : Int) 1 pa de ti ca q)
def WW (g : z_G) (h0 : z_H) (A : Nat → Nat) (Rf Nw Th Tp Tx Lk Ho Sz Im Mv : z_row) (n : Nat) (kp ln pa de ti ca : Int) (ls lp ln9 le : z_row) (d : Nat) : Prop := ∀ (w p e s e2 : Nat) (q : wkT), w + d = 6 → sgP n Tx ls lp ln9 le d p e s e2 → e2 ≤ n → wkO q → k_h q = 0 → z_D g mX9_works (3 * d + 4) 0 0 [z_r (A 0), z_i (w : Int)] (MW h0 A Rf Nw Th Tp Tx Lk Ho Sz Im Mv kp ln (n : Int) (s : Int) 1 pa de ti ca q) (wwP h0 A Rf Nw Th Tp Tx Lk Ho Sz Im Mv n kp ln pa de ti ca (wkD ls lp ln9 le d w p e q) e2)
set_option maxHeartbeats 4000000 in
set_option maxRecDepth 100000 in
theorem D_X9_once {g : z_G} {h0 : z_H} {A : Nat → Nat} (hM : mD A) {Rf Nw Th Tp Tx Lk Ho Sz Im Mv : z_row} {n : Nat} {kp ln pa de ti ca at_ : Int} {ls lp ln9 le : z_row} (hn : n ≤ 250) {f fp ft : z_row} {z l m pl wi : Int} (hO : wkO (f, fp, ft, z, l, m, 0, pl, wi)) {d w p E s c : Nat} (hWW : WW g h0 A Rf Nw Th Tp Tx Lk Ho Sz Im Mv n kp ln pa de ti ca ls lp ln9 le d) (hwd : w + 1 + d = 6) (hd : 0 < d) (hsg : sgP n Tx ls lp ln9 le d p E s c) (hc : c ≤ n) {a tm : Int} : z_D g mX9_once (3 * d + 5) 0 0 [z_r (A 0), z_i (s : Int), z_i a, z_i tm, z_i (w : Int)] (MH h0 A Rf Nw Th Tp Tx f fp ft Lk Ho Sz Im Mv kp ln (n : Int) at_ 1 pa de ti l m z 0 pl wi ca) (wwP h0 A Rf Nw Th Tp Tx Lk Ho Sz Im Mv n kp ln pa de ti ca (wkD ls lp ln9 le d (w + 1) p E (wkE a tm w (f, fp, ft, z, l, m, 0, pl, wi))) c) := by
  refine z_D.of (by decide +kernel) (Nat.le_of_ble_eq_true rfl) (fun X F => ?_)
  show z_w g X cX9_once RX9 (3 * d + 5, 0, 0) 0 [z_r (A 0), z_i (s : Int), z_i a, z_i tm, z_i (w : Int)] [] (MH h0 A Rf Nw Th Tp Tx f fp ft Lk Ho Sz Im Mv kp ln (n : Int) at_ 1 pa de ti l m z 0 pl wi ca) 0 0
  refine z_aload_n dX9_once_0 rfl ?_
  refine gf_X9_28 dX9_once_1 MH_0 rfl ?_
  refine z_iload dX9_once_4 rfl ?_
  refine z_iload_n dX9_once_6 rfl ?_
  refine z_iast dX9_once_7 (MH_7 hM) ⟨by omega, by omega, by omega⟩ ?_
  refine z_heq (MHu_7 hM) ?_
  refine z_aload_n dX9_once_8 rfl ?_
  refine gf_X9_31 dX9_once_9 MH_0 rfl ?_
  refine z_iload dX9_once_12 rfl ?_
  refine z_iload_n dX9_once_14 rfl ?_
  refine z_iast dX9_once_15 (MH_8 hM) ⟨by omega, by omega, by omega⟩ ?_
  refine z_heq (MHu_8 hM) ?_
  refine z_aload_n dX9_once_16 rfl ?_
  refine z_iload_n dX9_once_17 rfl ?_
  refine pf_X9_67 dX9_once_18 MH_0 (Nat.le_of_ble_eq_true rfl) ?_
  refine z_heq MHu_0 ?_
  refine z_aload_n dX9_once_21 rfl ?_
  refine z_iload dX9_once_22 rfl ?_
  refine z_iconst dX9_once_24 ?_
  refine z_iadd dX9_once_25 ?_
  refine cs_X9_160 dX9_once_26 (hWW (w + 1) p E s c (wkE a tm w (f, fp, ft, z, l, m, 0, pl, wi)) hwd hsg hc (wkE_O hO) rfl) MH_0 rfl rfl (Nat.le_of_ble_eq_true rfl) ⟨(show (3 * d + 4) + 1 ≤ 3 * d + 5 by omega), by exact Nat.le_refl 0, by exact Nat.le_refl 0⟩ (fun rv h' hq => ?_)
  have hrv := hq.1
  subst hrv
  show z_w _ _ _ _ _ _ _ [] _ _ _
  exact z_vret F dX9_once_29 rfl ⟨Nat.le_refl _, Nat.le_refl _⟩ hq
set_option maxHeartbeats 4000000 in
set_option maxRecDepth 100000 in
theorem D_X9_tillLeft {g : z_G} {h0 : z_H} {A : Nat → Nat} (hM : mD A) {Rf Nw Th Tp Tx Lk Ho Sz Im Mv : z_row} {n : Nat} {kp ln pa de ti ca at_ : Int} {ls lp ln9 le : z_row} (hn : n ≤ 250) {f fp ft : z_row} {z l m pl wi : Int} (hO : wkO (f, fp, ft, z, l, m, 0, pl, wi)) {d w p E s c : Nat} (hWW : WW g h0 A Rf Nw Th Tp Tx Lk Ho Sz Im Mv n kp ln pa de ti ca ls lp ln9 le d) (hwd : w + 1 + d = 6) (hd : 0 < d) (hsg : sgP n Tx ls lp ln9 le d p E s c) (hc : c ≤ n) {a b : Int} (hb : 0 ≤ b ∧ b ≤ 60) {j : Nat} (hj : j ≤ n) : z_D g mX9_tillLeft (3 * d + 6) 0 0 [z_r (A 0), z_i (s : Int), z_i a, z_i b, z_i (w : Int)] (MH h0 A Rf Nw Th Tp Tx f fp ft Lk Ho Sz Im Mv kp ln (n : Int) (j : Int) 1 pa de ti l m z 0 pl wi ca) (wwQ h0 A Rf Nw Th Tp Tx Lk Ho Sz Im Mv n kp ln pa de ti ca (wkL (wkD ls lp ln9 le d (w + 1) p E) b a w 60 1 (f, fp, ft, z, l, m, 0, pl, wi))) := by
  refine z_D.of (by decide +kernel) (Nat.le_of_ble_eq_true rfl) (fun X F => ?_)
  show z_w g X cX9_tillLeft RX9 (3 * d + 6, 0, 0) 0 [z_r (A 0), z_i (s : Int), z_i a, z_i b, z_i (w : Int), z_u, z_u] [] (MH h0 A Rf Nw Th Tp Tx f fp ft Lk Ho Sz Im Mv kp ln (n : Int) (j : Int) 1 pa de ti l m z 0 pl wi ca) 0 0
  refine z_iconst dX9_tillLeft_0 ?_
  refine z_istore dX9_tillLeft_1 (Nat.le_of_ble_eq_true rfl) rfl ?_
  have L4 : ∀ (fu : Nat) (r rem i : Nat) (f2 fp2 ft2 : z_row) (z2 l2 m2 pl2 wi2 : Int) (y6 : z_V) (q1 : r + rem = 60) (qi : i ≤ n) (hO2 : wkO (f2, fp2, ft2, z2, l2, m2, 0, pl2, wi2)) (ql : l2 ≤ (rem : Int)) (q3 : wkL (wkD ls lp ln9 le d (w + 1) p E) b a w 60 1 (f, fp, ft, z, l, m, 0, pl, wi) = wkL (wkD ls lp ln9 le d (w + 1) p E) b a w rem ((r : Int) + 1) (f2, fp2, ft2, z2, l2, m2, 0, pl2, wi2)), rem < fu → z_w g X cX9_tillLeft RX9 (3 * d + 6, 0, 0) 3 [z_r (A 0), z_i (s : Int), z_i a, z_i b, z_i (w : Int), z_i ((r : Int) + 1), y6] [] (MH h0 A Rf Nw Th Tp Tx f2 fp2 ft2 Lk Ho Sz Im Mv kp ln (n : Int) (i : Int) 1 pa de ti l2 m2 z2 0 pl2 wi2 ca) 0 0 := by
    intro fu
    induction fu with
    | zero => intro r rem i f2 fp2 ft2 z2 l2 m2 pl2 wi2 y6 q1 qi hO2 ql q3 hm; exact absurd hm (Nat.not_lt_zero _)
    | succ fu ih =>
      intro r rem i f2 fp2 ft2 z2 l2 m2 pl2 wi2 y6 q1 qi hO2 ql q3 hm
      refine z_aload_n dX9_tillLeft_3 rfl ?_
      refine gf_X9_132 dX9_tillLeft_4 MH_0 rfl ?_
      refine z_if_ne dX9_tillLeft_7 (tgt := 64) rfl (by decide) (fun c1 => ?_) (fun c1 => ?_)
      · exact absurd c1 (by decide)
      · skip
        have hl2b : 0 ≤ l2 ∧ l2 ≤ 60 := hO2.2.1
        refine z_aload_n dX9_tillLeft_10 rfl ?_
        refine gf_X9_144 dX9_tillLeft_11 MH_0 rfl ?_
        refine z_iload_n dX9_tillLeft_14 rfl ?_
        refine z_icmp_le dX9_tillLeft_15 (tgt := 64) rfl ⟨by omega, by omega⟩ ⟨by omega, by omega⟩ (fun c2 => ?_) (fun c2 => ?_)
        · skip
          have hMx := q3.trans (wkL_e rem ((r : Int) + 1) (f2, fp2, ft2, z2, l2, m2, 0, pl2, wi2) (show ¬ l2 > b by omega))
          refine z_aload_n dX9_tillLeft_64 rfl ?_
          refine gf_X9_132 dX9_tillLeft_65 MH_0 rfl ?_
          refine z_if_ne dX9_tillLeft_68 (tgt := 87) rfl (by decide) (fun c3 => ?_) (fun c3 => ?_)
          · exact absurd c3 (by decide)
          · skip
            refine z_aload_n dX9_tillLeft_71 rfl ?_
            refine gf_X9_144 dX9_tillLeft_72 MH_0 rfl ?_
            refine z_iload_n dX9_tillLeft_75 rfl ?_
            refine z_icmp_ge dX9_tillLeft_76 (tgt := 87) rfl ⟨by omega, by omega⟩ ⟨by omega, by omega⟩ (fun c4 => ?_) (fun c4 => ?_)
            · skip
              have hM2 := hMx.trans (if_neg (show ¬ l2 < b by omega))
              exact z_vret F dX9_tillLeft_87 rfl ⟨Nat.le_refl _, Nat.le_refl _⟩ ⟨rfl, i, qi, by rw [hM2] <;> rfl⟩
            · skip
              have hM2 := hMx.trans (if_pos (show l2 < b by omega))
              refine z_aload_n dX9_tillLeft_79 rfl ?_
              refine z_iconst dX9_tillLeft_80 ?_
              refine z_iload_n dX9_tillLeft_81 rfl ?_
              refine z_iload dX9_tillLeft_82 rfl ?_
              refine cs_X9_147 dX9_tillLeft_84 (D_X9_hits hM) MH_0 rfl rfl (Nat.le_of_ble_eq_true rfl) ⟨(show 1 + 1 ≤ 3 * d + 6 by omega), by exact Nat.le_refl 0, by exact Nat.le_refl 0⟩ (z_kv ?_)
              exact z_vret F dX9_tillLeft_87 rfl ⟨Nat.le_refl _, Nat.le_refl _⟩ ⟨rfl, i, qi, by rw [hM2] <;> rfl⟩
        · skip
          obtain ⟨rem', rfl⟩ : ∃ y, rem = y + 1 := ⟨rem - 1, by omega⟩
          refine z_aload_n dX9_tillLeft_18 rfl ?_
          refine gf_X9_144 dX9_tillLeft_19 MH_0 rfl ?_
          refine z_istore dX9_tillLeft_22 (Nat.le_of_ble_eq_true rfl) rfl ?_
          refine z_aload_n dX9_tillLeft_24 rfl ?_
          refine z_iload_n dX9_tillLeft_25 rfl ?_
          refine z_iload_n dX9_tillLeft_26 rfl ?_
          refine z_iload dX9_tillLeft_27 rfl ?_
          refine z_iload dX9_tillLeft_29 rfl ?_
          refine cs_X9_166 dX9_tillLeft_31 (D_X9_once hM hn hO2 hWW hwd hd hsg hc) MH_0 rfl rfl (Nat.le_of_ble_eq_true rfl) ⟨(show (3 * d + 5) + 1 ≤ 3 * d + 6 by omega), by exact Nat.le_refl 0, by exact Nat.le_refl 0⟩ (fun rv h' hq => ?_)
          obtain ⟨rfl, at3, ha3, he3, rfl⟩ := hq
          obtain ⟨B, hB⟩ : ∃ B, B = wkD ls lp ln9 le d (w + 1) p E (wkE a ((r : Int) + 1) w (f2, fp2, ft2, z2, l2, m2, 0, pl2, wi2)) := ⟨_, rfl⟩
          have hBO : wkO B := by rw [hB]; exact wkD_O hn d (w + 1) p E _ _ hwd hsg _ (wkE_O hO2)
          have hBl : k_l B ≤ l2 := by rw [hB]; exact wkD_l d (w + 1) p E _
          rw [← hB] at he3
          refine z_heq (h' := (MW h0 A Rf Nw Th Tp Tx Lk Ho Sz Im Mv kp ln (n : Int) (at3 : Int) 1 pa de ti ca B)) (congrArg _ hB.symm) ?_
          obtain ⟨f3, fp3, ft3, z3, l3, m3, hi3, pl3, wi3⟩ := B
          have hi3b : 0 ≤ hi3 ∧ hi3 ≤ 7 := hBO.2.2.2.1
          have hl3b : 0 ≤ l3 ∧ l3 ≤ 60 := hBO.2.1
          have hz3b : 0 ≤ z3 ∧ z3 ≤ 200 := hBO.1
          have hBl : l3 ≤ l2 := hBl
          show z_w _ _ _ _ _ _ _ [] (MH h0 A Rf Nw Th Tp Tx f3 fp3 ft3 Lk Ho Sz Im Mv kp ln (n : Int) (at3 : Int) 1 pa de ti l3 m3 z3 hi3 pl3 wi3 ca) _ _
          refine z_aload_n dX9_tillLeft_34 rfl ?_
          refine gf_X9_132 dX9_tillLeft_35 MH_0 rfl ?_
          refine z_if_ne dX9_tillLeft_38 (tgt := 58) rfl ⟨by omega, by omega⟩ (fun c5 => ?_) (fun c5 => ?_)
          · skip
            have hMx : wkL (wkD ls lp ln9 le d (w + 1) p E) b a w (rem' + 1) ((r : Int) + 1) (f2, fp2, ft2, z2, l2, m2, 0, pl2, wi2) = (f3, fp3, ft3, z3, l3, m3, hi3, pl3, wi3) := by
              refine (if_pos (show l2 > b by omega)).trans ?_
              rw [← hB]
              exact if_pos c5
            refine z_iinc dX9_tillLeft_58 rfl rfl ?_
            refine z_goto dX9_tillLeft_61 (tgt := 3) rfl ?_
            refine z_aload_n dX9_tillLeft_3 rfl ?_
            refine gf_X9_132 dX9_tillLeft_4 MH_0 rfl ?_
            refine z_if_ne dX9_tillLeft_7 (tgt := 64) rfl ⟨by omega, by omega⟩ (fun c6 => ?_) (fun c6 => ?_)
            · skip
              refine z_aload_n dX9_tillLeft_64 rfl ?_
              refine gf_X9_132 dX9_tillLeft_65 MH_0 rfl ?_
              refine z_if_ne dX9_tillLeft_68 (tgt := 87) rfl ⟨by omega, by omega⟩ (fun c7 => ?_) (fun c7 => ?_)
              · skip
                exact z_vret F dX9_tillLeft_87 rfl ⟨Nat.le_refl _, Nat.le_refl _⟩ ⟨rfl, at3, ha3, by rw [q3.trans hMx] <;> rfl⟩
              · skip
                exfalso
                omega
            · skip
              exfalso
              omega
          · skip
            obtain rfl : hi3 = 0 := by omega
            refine z_aload_n dX9_tillLeft_41 rfl ?_
            refine gf_X9_144 dX9_tillLeft_42 MH_0 rfl ?_
            refine z_iload dX9_tillLeft_45 rfl ?_
            refine z_icmp_ne dX9_tillLeft_47 (tgt := 58) rfl ⟨by omega, by omega⟩ ⟨by omega, by omega⟩ (fun c8 => ?_) (fun c8 => ?_)
            · skip
              have hMx : wkL (wkD ls lp ln9 le d (w + 1) p E) b a w (rem' + 1) ((r : Int) + 1) (f2, fp2, ft2, z2, l2, m2, 0, pl2, wi2) = wkL (wkD ls lp ln9 le d (w + 1) p E) b a w rem' (((r : Int) + 1) + 1) (f3, fp3, ft3, z3, l3, m3, 0, pl3, wi3) := by
                refine (if_pos (show l2 > b by omega)).trans ?_
                rw [← hB]
                exact (if_neg (fun q => q rfl)).trans (if_neg (show ¬ l3 = l2 by omega))
              refine z_iinc dX9_tillLeft_58 rfl rfl ?_
              refine z_goto dX9_tillLeft_61 (tgt := 3) rfl ?_
              exact ih (r + 1) rem' at3 f3 fp3 ft3 z3 l3 m3 pl3 wi3 (z_i l2) (by omega) ha3 hBO (by omega) (q3.trans hMx) (by omega)
            · skip
              have hMx : wkL (wkD ls lp ln9 le d (w + 1) p E) b a w (rem' + 1) ((r : Int) + 1) (f2, fp2, ft2, z2, l2, m2, 0, pl2, wi2) = wkS 4 a w (f3, fp3, ft3, z3, l3, m3, 0, pl3, wi3) := by
                refine (if_pos (show l2 > b by omega)).trans ?_
                rw [← hB]
                exact (if_neg (fun q => q rfl)).trans (if_pos (show l3 = l2 by omega))
              refine z_aload_n dX9_tillLeft_50 rfl ?_
              refine z_iconst dX9_tillLeft_51 ?_
              refine z_iload_n dX9_tillLeft_52 rfl ?_
              refine z_iload dX9_tillLeft_53 rfl ?_
              refine cs_X9_147 dX9_tillLeft_55 (D_X9_hits hM) MH_0 rfl rfl (Nat.le_of_ble_eq_true rfl) ⟨(show 1 + 1 ≤ 3 * d + 6 by omega), by exact Nat.le_refl 0, by exact Nat.le_refl 0⟩ (z_kv ?_)
              refine z_iinc dX9_tillLeft_58 rfl rfl ?_
              refine z_goto dX9_tillLeft_61 (tgt := 3) rfl ?_
              refine z_aload_n dX9_tillLeft_3 rfl ?_
              refine gf_X9_132 dX9_tillLeft_4 MH_0 rfl ?_
              refine z_if_ne dX9_tillLeft_7 (tgt := 64) rfl (by decide) (fun c9 => ?_) (fun c9 => ?_)
              · skip
                refine z_aload_n dX9_tillLeft_64 rfl ?_
                refine gf_X9_132 dX9_tillLeft_65 MH_0 rfl ?_
                refine z_if_ne dX9_tillLeft_68 (tgt := 87) rfl (by decide) (fun c10 => ?_) (fun c10 => ?_)
                · skip
                  exact z_vret F dX9_tillLeft_87 rfl ⟨Nat.le_refl _, Nat.le_refl _⟩ ⟨rfl, at3, ha3, by rw [q3.trans hMx] <;> rfl⟩
                · exact absurd c10 (by decide)
              · exact absurd c9 (by decide)
  exact L4 61 0 60 j f fp ft z l m pl wi z_u (by omega) hj hO (by have : l ≤ 60 := hO.2.1.2; omega) rfl (by omega)
