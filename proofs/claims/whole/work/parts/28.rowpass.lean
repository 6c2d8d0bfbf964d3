/-! Pass: a whole row -/
set_option maxHeartbeats 2000000 in
set_option maxRecDepth 100000 in
theorem D_X4_workLine {g : z_G} {h0 : z_H} {x c k o v : Nat} (hD : pD x c k o v) {f fp ft : z_row} {z l m hi pl wi : Int} {a b s p u e n P : Nat} {t ls lp ln le : z_row} {d tl i fl : Int} (hL : ∀ q, oLi (PH h0 x c k o v q) a b s p u e n t ls lp ln le (P : Int) d tl i fl) (hsg : sgP n t ls lp ln le 6 0 P 0 n) (hP : P ≤ n) {y : Int} (hy : 0 ≤ y ∧ y ≤ 60) : z_D g mX4_workLine 14 0 0 [z_r x, z_r a, z_i y] (PH h0 x c k o v (f, fp, ft, z, l, m, hi, pl, wi)) (z_Pv (PH h0 x c k o v (wkA n ls lp ln le P (f, fp, ft, 0, y, 0, 0, 0, 0)))) := by
  refine z_D.of (by decide +kernel) (Nat.le_of_ble_eq_true rfl) (fun X F => ?_)
  have hn250 : n ≤ 250 := (hL (f, fp, ft, z, l, m, hi, pl, wi)).2.2.2.2.2.2.1
  have hO0 : wkO (f, fp, ft, 0, y, 0, 0, 0, 0) := ⟨by show (0 : Int) ≤ 0 ∧ (0 : Int) ≤ 200; omega, hy, by show (0 : Int) ≤ 0 ∧ (0 : Int) ≤ 60; omega, by show (0 : Int) ≤ 0 ∧ (0 : Int) ≤ 7; omega, by show (0 : Int) ≤ 0 ∧ (0 : Int) ≤ 250; omega, by show (0 : Int) ≤ 0 ∧ (0 : Int) ≤ 5; omega, fun j hj => by have hj : (j : Int) < 0 := hj; omega⟩
  show z_w g X cX4_workLine RX4 (14, 0, 0) 0 [z_r x, z_r a, z_i y] [] (PH h0 x c k o v (f, fp, ft, z, l, m, hi, pl, wi)) 0 0
  refine z_aload_n dX4_workLine_0 rfl ?_
  refine z_iload_n dX4_workLine_1 rfl ?_
  refine cs_X4_29 dX4_workLine_2 (D_X4_begin hD) PHx rfl rfl (Nat.le_of_ble_eq_true rfl) (by decide) (z_kv ?_)
  refine z_aload_n dX4_workLine_5 rfl ?_
  refine z_aload_n dX4_workLine_6 rfl ?_
  refine z_iconst dX4_workLine_7 ?_
  refine z_aload_n dX4_workLine_8 rfl ?_
  refine gf_X4_37 dX4_workLine_9 (hL _).1 rfl ?_
  refine z_iconst dX4_workLine_12 ?_
  refine cs_X4_42 dX4_workLine_13 (PW_all hD hL 6 0 0 P 0 n (f, fp, ft, 0, y, 0, 0, 0, 0) (by decide) hsg hP hO0) PHx rfl rfl (Nat.le_of_ble_eq_true rfl) (by decide) (z_kv ?_)
  obtain ⟨B, hB⟩ : ∃ B, B = wkD ls lp ln le 6 0 0 P (f, fp, ft, 0, y, 0, 0, 0, 0) := ⟨_, rfl⟩
  have hBO : wkO B := by rw [hB]; exact wkD_O hn250 6 0 0 P 0 n (by decide) hsg _ hO0
  refine z_heq (congrArg _ hB.symm) ?_
  have hA : wkA n ls lp ln le P (f, fp, ft, 0, y, 0, 0, 0, 0) = if k_h B = 0 ∧ k_l B > 0 then wkS 6 n 0 B else B := by rw [hB]; rfl
  obtain ⟨f3, fp3, ft3, z3, l3, m3, hi3, pl3, wi3⟩ := B
  have hi3b : 0 ≤ hi3 ∧ hi3 ≤ 7 := hBO.2.2.2.1
  have hl3b : 0 ≤ l3 ∧ l3 ≤ 60 := hBO.2.1
  refine z_aload_n dX4_workLine_16 rfl ?_
  refine gf_X4_25 dX4_workLine_17 PHx rfl ?_
  refine z_if_ne dX4_workLine_20 (tgt := 41) rfl ⟨by omega, by omega⟩ (fun c1 => ?_) (fun c1 => ?_)
  · skip
    have y8 : ¬ (hi3 = 0 ∧ l3 > 0) := by omega
    exact z_vret F dX4_workLine_41 rfl (by decide) ⟨rfl, congrArg _ (hA.trans (if_neg y8)).symm⟩
  · skip
    refine z_aload_n dX4_workLine_23 rfl ?_
    refine gf_X4_46 dX4_workLine_24 PHx rfl ?_
    refine z_if_le dX4_workLine_27 (tgt := 41) rfl ⟨by omega, by omega⟩ (fun c2 => ?_) (fun c2 => ?_)
    · skip
      have y8 : ¬ (hi3 = 0 ∧ l3 > 0) := by omega
      exact z_vret F dX4_workLine_41 rfl (by decide) ⟨rfl, congrArg _ (hA.trans (if_neg y8)).symm⟩
    · skip
      have y8 : hi3 = 0 ∧ l3 > 0 := by omega
      refine z_aload_n dX4_workLine_30 rfl ?_
      refine z_bipush dX4_workLine_31 rfl ?_
      refine z_aload_n dX4_workLine_33 rfl ?_
      refine cs_X4_49 dX4_workLine_34 (D_X3_size (hL _)) (hL _).1 rfl rfl (Nat.le_of_ble_eq_true rfl) (by decide) (z_ki ?_)
      refine z_iconst dX4_workLine_37 ?_
      refine cs_X4_33 dX4_workLine_38 (D_X4_stop hD) PHx rfl rfl (Nat.le_of_ble_eq_true rfl) (by decide) (z_kv ?_)
      exact z_vret F dX4_workLine_41 rfl (by decide) ⟨rfl, congrArg _ (hA.trans (if_pos y8)).symm⟩
theorem wkA_O {n P : Nat} {t ls lp ln le : z_row} (hn : n ≤ 250) (hsg : sgP n t ls lp ln le 6 0 P 0 n) {q : wkT} (hq : wkO q) : wkO (wkA n ls lp ln le P q) := by
  have h := wkD_O hn 6 0 0 P 0 n (by decide) hsg q hq
  unfold wkA
  split
  · exact wkS_O h (by omega) (by omega) (by omega)
  · exact h
