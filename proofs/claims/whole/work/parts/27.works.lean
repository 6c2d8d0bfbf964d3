theorem wkP_1 {fs fp fn fe : z_row} {rec : Nat → Nat → Nat → wkT → wkT} {w p E : Nat} {q : wkT} (h : fs p = 1) (he : fe p = (E : Int)) : wkP fs fp fn fe rec w p q = wkM (rec (w + 1) (p + 1) E) (fp p) w (fn p).toNat 1 q := by
  unfold wkP
  rw [if_pos h, he]
  rfl
theorem wkP_2 {fs fp fn fe : z_row} {rec : Nat → Nat → Nat → wkT → wkT} {w p E : Nat} {q : wkT} (h : fs p = 2) (he : fe p = (E : Int)) : wkP fs fp fn fe rec w p q = wkL (rec (w + 1) (p + 1) E) (fn p) (fp p) w 60 1 q := by
  unfold wkP
  rw [if_neg (by omega), if_pos h, he]
  rfl
theorem wkP_w {fs fp fn fe : z_row} {rec : Nat → Nat → Nat → wkT → wkT} {w p : Nat} {q : wkT} (h : kOk (fs p)) : wkP fs fp fn fe rec w p q = wkW (fs p) (fp p) w (fn p).toNat q := by
  have := h.1
  unfold wkP
  rw [if_neg (by omega), if_neg (by omega)]
theorem seqP_hd {n : Nat} {t : z_row} {one : sgT} (ho : ∀ p q s e, one p q s e → p < q ∧ s < e) {p e s2 : Nat} (hlt : p < e) (h : p = e ∨ ∃ f s, seqP n t one f p e s s2) : ∃ nx s1 e1, one p nx s1 e1 ∧ p < nx ∧ nx ≤ e ∧ (nx = e ∨ ∃ f s, seqP n t one f nx e s s2) := by
  rcases h with h | ⟨f, s, h⟩
  · omega
  · cases f with
    | zero => exact h.elim
    | succ f =>
      rcases h with ⟨h, -⟩ | ⟨p', e', h1, h2, h3⟩
      · exact ⟨e, s, s2, h, hlt, Nat.le_refl _, Or.inl rfl⟩
      · exact ⟨p', s, e', h1, (ho _ _ _ _ h1).1, Nat.le_of_lt (seqP_lt ho _ _ _ _ _ h3).1, Or.inr ⟨f, _, h3⟩⟩
set_option maxHeartbeats 2000000 in
set_option maxRecDepth 100000 in
theorem D_X4_workParts {g : z_G} {h0 : z_H} {x c k o v : Nat} (hD : pD x c k o v) {a b s p u e n : Nat} {t ls lp ln le : z_row} {P d tl i fl : Int} (hL : ∀ q, oLi (PH h0 x c k o v q) a b s p u e n t ls lp ln le P d tl i fl) {d : Nat} (hPW : PW g h0 x c k o v a n t ls lp ln le d) : PW g h0 x c k o v a n t ls lp ln le (d + 1) := by
  intro w p e9 s0 e2 q hwd hsg hE hO
  obtain ⟨f, fp, ft, z, l, m, hi, pl, wi⟩ := q
  refine z_D.of (by decide +kernel) (Nat.le_of_ble_eq_true rfl) (fun X F => ?_)
  have hn250 : n ≤ 250 := (hL (f, fp, ft, z, l, m, hi, pl, wi)).2.2.2.2.2.2.1
  show z_w g X cX4_workParts RX4 (2 * (d + 1) + 1, 0, 0) 0 [z_r x, z_r a, z_i (p : Int), z_i (e9 : Int), z_i (w : Int), z_u] [] (PH h0 x c k o v (f, fp, ft, z, l, m, hi, pl, wi)) 0 0
  refine z_iload dX4_workParts_0 rfl ?_
  refine z_iconst dX4_workParts_2 ?_
  refine z_icmp_le dX4_workParts_3 (tgt := 7) rfl ⟨by omega, by omega⟩ (by decide) (fun c1 => ?_) (fun c1 => ?_)
  · skip
    refine z_iload_n dX4_workParts_7 rfl ?_
    refine z_istore dX4_workParts_8 (Nat.le_of_ble_eq_true rfl) rfl ?_
    have L4 : ∀ (fu : Nat) (rem pp : Nat) (f2 fp2 ft2 : z_row) (z2 l2 m2 hi2 pl2 wi2 : Int) (q1 : e9 - pp < rem ∧ pp ≤ e9) (hO2 : wkO (f2, fp2, ft2, z2, l2, m2, hi2, pl2, wi2)) (q2 : pp = e9 ∨ ∃ f s, seqP n t (oneP n t ls lp ln le (sgP n t ls lp ln le d)) f pp e9 s e2) (q3 : wkQ le (wkP ls lp ln le (wkD ls lp ln le d) w) 251 p e9 (f, fp, ft, z, l, m, hi, pl, wi) = wkQ le (wkP ls lp ln le (wkD ls lp ln le d) w) rem pp e9 (f2, fp2, ft2, z2, l2, m2, hi2, pl2, wi2)), rem < fu → z_w g X cX4_workParts RX4 (2 * (d + 1) + 1, 0, 0) 10 [z_r x, z_r a, z_i (p : Int), z_i (e9 : Int), z_i (w : Int), z_i (pp : Int)] [] (PH h0 x c k o v (f2, fp2, ft2, z2, l2, m2, hi2, pl2, wi2)) 0 0 := by
      intro fu
      induction fu with
      | zero => intro rem pp f2 fp2 ft2 z2 l2 m2 hi2 pl2 wi2 q1 hO2 q2 q3 hm; exact absurd hm (Nat.not_lt_zero _)
      | succ fu ih =>
        intro rem pp f2 fp2 ft2 z2 l2 m2 hi2 pl2 wi2 q1 hO2 q2 q3 hm
        refine z_iload dX4_workParts_10 rfl ?_
        refine z_iload_n dX4_workParts_12 rfl ?_
        refine z_icmp_ge dX4_workParts_13 (tgt := 107) rfl ⟨by omega, by omega⟩ ⟨by omega, by omega⟩ (fun c2 => ?_) (fun c2 => ?_)
        · skip
          obtain ⟨rem', rfl⟩ : ∃ y, rem = y + 1 := ⟨rem - 1, by omega⟩
          have hhb : 0 ≤ hi2 ∧ hi2 ≤ 7 := hO2.2.2.2.1
          have y8 : ¬ (pp < e9 ∧ k_h (f2, fp2, ft2, z2, l2, m2, hi2, pl2, wi2) = 0) := fun q => by have := q.1; omega
          exact z_vret F dX4_workParts_107 rfl ⟨Nat.le_refl 0, Nat.le_refl 0⟩ ⟨rfl, congrArg _ (q3.trans (if_neg y8)).symm⟩
        · skip
          obtain ⟨rem', rfl⟩ : ∃ y, rem = y + 1 := ⟨rem - 1, by omega⟩
          have hhb : 0 ≤ hi2 ∧ hi2 ≤ 7 := hO2.2.2.2.1
          have hlt : pp < e9 := by omega
          obtain ⟨nx, s1, e1, hone, hn1, hn2, hnx⟩ := seqP_hd (fun _ _ _ _ h => oneP_lt (sgP_lt d) h) hlt q2
          obtain ⟨hb1, hb2, hle, hk⟩ := oneP_c hn250 hone
          have hsb : -1 ≤ ls pp ∧ ls pp ≤ 12 := by rcases hk with q | q; have := q.1.1; have := q.1.2; omega; omega
          refine z_aload_n dX4_workParts_16 rfl ?_
          refine gf_X4_25 dX4_workParts_17 PHx rfl ?_
          refine z_if_ne dX4_workParts_20 (tgt := 107) rfl ⟨by omega, by omega⟩ (fun c3 => ?_) (fun c3 => ?_)
          · skip
            have y8 : ¬ (pp < e9 ∧ k_h (f2, fp2, ft2, z2, l2, m2, hi2, pl2, wi2) = 0) := fun q => c3 q.2
            exact z_vret F dX4_workParts_107 rfl ⟨Nat.le_refl 0, Nat.le_refl 0⟩ ⟨rfl, congrArg _ (q3.trans (if_neg y8)).symm⟩
          · skip
            have hh : hi2 = 0 := by omega
            refine z_aload_n dX4_workParts_23 rfl ?_
            refine z_iload dX4_workParts_24 rfl ?_
            refine cs_X4_64 dX4_workParts_26 (D_X3_sortOf_in (hL _) (j := pp) (by omega)) (hL _).1 rfl rfl (Nat.le_of_ble_eq_true rfl) ⟨(show 1 + 1 ≤ 2 * (d + 1) + 1 by omega), by exact Nat.le_refl 0, by exact Nat.le_refl 0⟩ (z_ki ?_)
            by_cases c4_1 : ls pp = 1
            · refine z_lookup dX4_workParts_29 ⟨by omega, by omega⟩ (tgt := 56) (off := 27) (by decide) (by rw [c4_1]; rfl) rfl ?_
              have hs1 : ls pp = 1 := by omega
              obtain ⟨-, s3, e3, hsg3⟩ := hk.resolve_left (fun q => by have := q.1.1; omega)
              have hd0 : 0 < d := by
                cases d with
                | zero => exact hsg3.elim
                | succ d => exact Nat.succ_pos d
              refine z_aload_n dX4_workParts_56 rfl ?_
              refine z_aload_n dX4_workParts_57 rfl ?_
              refine z_iload dX4_workParts_58 rfl ?_
              refine z_iload dX4_workParts_60 rfl ?_
              refine cs_X4_68 dX4_workParts_62 (D_X4_workTimes hD hL hO2 hPW (by omega) hd0 hsg3 (by omega) (by omega) hle hb1 hb2) PHx rfl rfl (Nat.le_of_ble_eq_true rfl) ⟨(show (2 * d + 2) + 1 ≤ 2 * (d + 1) + 1 by omega), by exact Nat.le_refl 0, by exact Nat.le_refl 0⟩ (z_kv ?_)
              obtain ⟨B, hB⟩ : ∃ B, B = wkP ls lp ln le (wkD ls lp ln le d) w pp (f2, fp2, ft2, z2, l2, m2, hi2, pl2, wi2) := ⟨_, rfl⟩
              have hBO : wkO B := by rw [hB]; exact wkP_O hn250 (by omega) hone (fun s' e' hs => wkD_O hn250 d (w + 1) (pp + 1) nx s' e' (by omega) hs) _ hO2
              refine z_heq (congrArg _ ((wkP_1 hs1 hle).symm.trans hB.symm)) ?_
              obtain ⟨f3, fp3, ft3, z3, l3, m3, hi3, pl3, wi3⟩ := B
              refine z_goto dX4_workParts_65 (tgt := 89) rfl ?_
              refine z_iload dX4_workParts_89 rfl ?_
              refine z_iconst dX4_workParts_91 ?_
              refine z_iadd dX4_workParts_92 ?_
              refine z_aload_n dX4_workParts_93 rfl ?_
              refine z_iload dX4_workParts_94 rfl ?_
              refine cs_X4_78 dX4_workParts_96 (hle ▸ D_X3_endOf_in (hL _) (j := pp) (by omega)) (hL _).1 rfl rfl (Nat.le_of_ble_eq_true rfl) ⟨(show 1 + 1 ≤ 2 * (d + 1) + 1 by omega), by exact Nat.le_refl 0, by exact Nat.le_refl 0⟩ (z_ki ?_)
              refine mm_X4_81 dX4_workParts_99 ⟨by omega, by omega⟩ ⟨by omega, by omega⟩ ⟨(show 1 ≤ 2 * (d + 1) + 1 by omega), by exact Nat.le_refl 0, by exact Nat.le_refl 0⟩ (Nat.le_of_ble_eq_true rfl) ?_
              refine z_ieq (y := (nx : Int)) (by split <;> omega) ?_
              refine z_istore dX4_workParts_102 (Nat.le_of_ble_eq_true rfl) rfl ?_
              refine z_goto dX4_workParts_104 (tgt := 10) rfl ?_
              exact ih rem' nx f3 fp3 ft3 z3 l3 m3 hi3 pl3 wi3 (by omega) hBO hnx (q3.trans ((if_pos ⟨hlt, hh⟩).trans (by rw [← hB, show (le pp).toNat = nx by omega]))) (by omega)
            by_cases c4_2 : ls pp = 2
            · refine z_lookup dX4_workParts_29 ⟨by omega, by omega⟩ (tgt := 68) (off := 39) (by decide) (by rw [c4_2]; rfl) rfl ?_
              have hs1 : ls pp = 2 := by omega
              obtain ⟨-, s3, e3, hsg3⟩ := hk.resolve_left (fun q => by have := q.1.1; omega)
              have hd0 : 0 < d := by
                cases d with
                | zero => exact hsg3.elim
                | succ d => exact Nat.succ_pos d
              refine z_aload_n dX4_workParts_68 rfl ?_
              refine z_aload_n dX4_workParts_69 rfl ?_
              refine z_iload dX4_workParts_70 rfl ?_
              refine z_iload dX4_workParts_72 rfl ?_
              refine cs_X4_72 dX4_workParts_74 (D_X4_workTill hD hL hO2 hPW (by omega) hd0 hsg3 (by omega) (by omega) hle hb1 hb2) PHx rfl rfl (Nat.le_of_ble_eq_true rfl) ⟨(show (2 * d + 2) + 1 ≤ 2 * (d + 1) + 1 by omega), by exact Nat.le_refl 0, by exact Nat.le_refl 0⟩ (z_kv ?_)
              obtain ⟨B, hB⟩ : ∃ B, B = wkP ls lp ln le (wkD ls lp ln le d) w pp (f2, fp2, ft2, z2, l2, m2, hi2, pl2, wi2) := ⟨_, rfl⟩
              have hBO : wkO B := by rw [hB]; exact wkP_O hn250 (by omega) hone (fun s' e' hs => wkD_O hn250 d (w + 1) (pp + 1) nx s' e' (by omega) hs) _ hO2
              refine z_heq (congrArg _ ((wkP_2 hs1 hle).symm.trans hB.symm)) ?_
              obtain ⟨f3, fp3, ft3, z3, l3, m3, hi3, pl3, wi3⟩ := B
              refine z_goto dX4_workParts_77 (tgt := 89) rfl ?_
              refine z_iload dX4_workParts_89 rfl ?_
              refine z_iconst dX4_workParts_91 ?_
              refine z_iadd dX4_workParts_92 ?_
              refine z_aload_n dX4_workParts_93 rfl ?_
              refine z_iload dX4_workParts_94 rfl ?_
              refine cs_X4_78 dX4_workParts_96 (hle ▸ D_X3_endOf_in (hL _) (j := pp) (by omega)) (hL _).1 rfl rfl (Nat.le_of_ble_eq_true rfl) ⟨(show 1 + 1 ≤ 2 * (d + 1) + 1 by omega), by exact Nat.le_refl 0, by exact Nat.le_refl 0⟩ (z_ki ?_)
              refine mm_X4_81 dX4_workParts_99 ⟨by omega, by omega⟩ ⟨by omega, by omega⟩ ⟨(show 1 ≤ 2 * (d + 1) + 1 by omega), by exact Nat.le_refl 0, by exact Nat.le_refl 0⟩ (Nat.le_of_ble_eq_true rfl) ?_
              refine z_ieq (y := (nx : Int)) (by split <;> omega) ?_
              refine z_istore dX4_workParts_102 (Nat.le_of_ble_eq_true rfl) rfl ?_
              refine z_goto dX4_workParts_104 (tgt := 10) rfl ?_
              exact ih rem' nx f3 fp3 ft3 z3 l3 m3 hi3 pl3 wi3 (by omega) hBO hnx (q3.trans ((if_pos ⟨hlt, hh⟩).trans (by rw [← hB, show (le pp).toNat = nx by omega]))) (by omega)
            refine z_lookup dX4_workParts_29 ⟨by omega, by omega⟩ (tgt := 80) (off := 51) (by decide) (by simp [Op.lookupswitch.offset, Ne.symm c4_1, Ne.symm c4_2]) rfl ?_
            have hs1 : kOk (ls pp) := (hk.resolve_right (fun q => by have := q.1; omega)).1
            refine z_aload_n dX4_workParts_80 rfl ?_
            refine z_aload_n dX4_workParts_81 rfl ?_
            refine z_iload dX4_workParts_82 rfl ?_
            refine z_iload dX4_workParts_84 rfl ?_
            refine cs_X4_75 dX4_workParts_86 (D_X4_workWord hD hL hO2 (j := pp) (w := w) (by omega) hs1 hb2) PHx rfl rfl (Nat.le_of_ble_eq_true rfl) ⟨(show 2 + 1 ≤ 2 * (d + 1) + 1 by omega), by exact Nat.le_refl 0, by exact Nat.le_refl 0⟩ (z_kv ?_)
            obtain ⟨B, hB⟩ : ∃ B, B = wkP ls lp ln le (wkD ls lp ln le d) w pp (f2, fp2, ft2, z2, l2, m2, hi2, pl2, wi2) := ⟨_, rfl⟩
            have hBO : wkO B := by rw [hB]; exact wkP_O hn250 (by omega) hone (fun s' e' hs => wkD_O hn250 d (w + 1) (pp + 1) nx s' e' (by omega) hs) _ hO2
            refine z_heq (congrArg _ ((wkP_w hs1).symm.trans hB.symm)) ?_
            obtain ⟨f3, fp3, ft3, z3, l3, m3, hi3, pl3, wi3⟩ := B
            refine z_iload dX4_workParts_89 rfl ?_
            refine z_iconst dX4_workParts_91 ?_
            refine z_iadd dX4_workParts_92 ?_
            refine z_aload_n dX4_workParts_93 rfl ?_
            refine z_iload dX4_workParts_94 rfl ?_
            refine cs_X4_78 dX4_workParts_96 (hle ▸ D_X3_endOf_in (hL _) (j := pp) (by omega)) (hL _).1 rfl rfl (Nat.le_of_ble_eq_true rfl) ⟨(show 1 + 1 ≤ 2 * (d + 1) + 1 by omega), by exact Nat.le_refl 0, by exact Nat.le_refl 0⟩ (z_ki ?_)
            refine mm_X4_81 dX4_workParts_99 ⟨by omega, by omega⟩ ⟨by omega, by omega⟩ ⟨(show 1 ≤ 2 * (d + 1) + 1 by omega), by exact Nat.le_refl 0, by exact Nat.le_refl 0⟩ (Nat.le_of_ble_eq_true rfl) ?_
            refine z_ieq (y := (nx : Int)) (by split <;> omega) ?_
            refine z_istore dX4_workParts_102 (Nat.le_of_ble_eq_true rfl) rfl ?_
            refine z_goto dX4_workParts_104 (tgt := 10) rfl ?_
            exact ih rem' nx f3 fp3 ft3 z3 l3 m3 hi3 pl3 wi3 (by omega) hBO hnx (q3.trans ((if_pos ⟨hlt, hh⟩).trans (by rw [← hB, show (le pp).toNat = nx by omega]))) (by omega)
    exact L4 252 251 p f fp ft z l m hi pl wi (by have := (sgP_lt (d + 1) _ _ _ _ hsg).1; omega) hO (Or.inr ⟨251, s0, hsg⟩) rfl (by omega)
  · skip
    exfalso
    omega
theorem PW_all {g : z_G} {h0 : z_H} {x c k o v : Nat} (hD : pD x c k o v) {a b s p u e n : Nat} {t ls lp ln le : z_row} {P d tl i fl : Int} (hL : ∀ q, oLi (PH h0 x c k o v q) a b s p u e n t ls lp ln le P d tl i fl) : ∀ d, PW g h0 x c k o v a n t ls lp ln le d := by
  intro d
  induction d with
  | zero => intro w p e9 s0 e2 q _ hsg; exact hsg.elim
  | succ d ih => exact D_X4_workParts hD hL ih
