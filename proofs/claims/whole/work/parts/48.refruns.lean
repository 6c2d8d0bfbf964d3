/-! the reference: what changes its state -/
/-- a row tried now -/
def tnR (N : z_row) (G : Nat → z_G4) (i : Nat) : wkT := if N 5025 = 50 then (fun _ => 0, fun _ => 0, fun _ => 0, 0, N 5023, 0, 7, 0, 0) else wR N G i (N 5023)
/-- a working tells what the canonical one tells -/
def tnP (R q : wkT) : Prop := k_h q = k_h R ∧ (k_h R = 0 → wkV 0 R q) ∧ (k_h R ≠ 0 → wkK R q) ∧ (0 ≤ k_z q ∧ k_z q ≤ 200) ∧ (0 ≤ k_l q ∧ k_l q ≤ 60) ∧ (0 ≤ k_h q ∧ k_h q ≤ 7) ∧ (0 ≤ k_a q ∧ k_a q ≤ 250) ∧ (0 ≤ k_w q ∧ k_w q ≤ 5)
/-- it is worked -/
def dnS (N : z_row) (G : Nat → z_G4) (i : Nat) : z_row := dnN N (i : Int) (k_f (tnR N G i)) (k_z (tnR N G i)).toNat (k_m (tnR N G i))
theorem tnR_7 {N : z_row} {G : Nat → z_G4} {i : Nat} (h : N 5025 = 50) : tnR N G i = (fun _ => 0, fun _ => 0, fun _ => 0, 0, N 5023, 0, 7, 0, 0) := if_pos h
theorem tnR_w {N : z_row} {G : Nat → z_G4} {i : Nat} (h : ¬ N 5025 = 50) : tnR N G i = wR N G i (N 5023) := if_neg h
/-- what a row that can be worked is -/
theorem tnR_ok {N : z_row} {G : Nat → z_G4} {i : Nat} (hw : nWf N G) (hi : (i : Int) < N 5020) (h0 : k_h (tnR N G i) = 0) : N 5025 < 50 ∧ (0 ≤ k_z (tnR N G i) ∧ k_z (tnR N G i) ≤ 200) ∧ (∀ j : Nat, (j : Int) < k_z (tnR N G i) → kOk (k_f (tnR N G i) j)) ∧ sG kT (k_f (tnR N G i)) (k_z (tnR N G i)).toNat = N 5023 ∧ k_m (tnR N G i) = sG kM (k_f (tnR N G i)) (k_z (tnR N G i)).toNat ∧ (0 ≤ k_m (tnR N G i) ∧ k_m (tnR N G i) ≤ 60) := by
  obtain ⟨w1, w2, w3, w4, w5, w6, w7⟩ := id hw
  by_cases c : N 5025 = 50
  · rw [tnR_7 c] at h0
    exact absurd h0 (by show ¬ (7 : Int) = 0; decide)
  · obtain ⟨⟨l1, l2⟩, l3, l4, -⟩ := w6 i hi
    rw [tnR_w c] at h0 ⊢
    have hO := wkR_O (y := N 5023) l1 l4 w4
    have hI := wkR_I (y := N 5023) l1 l4 w4 h0
    exact ⟨by omega, hO.1, fun j hj => hO.2.2.2.2.2.2 j hj, hI.1, hI.2, hO.2.2.1⟩
theorem nWf_dnS {N : z_row} {G : Nat → z_G4} {i : Nat} (hw : nWf N G) (hi : (i : Int) < N 5020) (h0 : k_h (tnR N G i) = 0) : nWf (dnS N G i) G := by
  obtain ⟨h1, h2, h3, h4, h5, h6⟩ := tnR_ok hw hi h0
  have := hw.1
  exact nWf_dn hw h1 ⟨by omega, by omega⟩ (by omega) (fun j hj => h3 j (by omega)) h4 h5 h6
theorem tnP_w {N : z_row} {G : Nat → z_G4} {i : Nat} {q : wkT} (h : ¬ N 5025 = 50) (hV : wkV 0 (wR N G i (N 5023)) q) (hO : wkO q) : tnP (tnR N G i) q := by
  rw [tnR_w h]
  exact ⟨hV.2.2.2.2.1, fun _ => hV, fun h0 => hV.K h0, hO.1, hO.2.1, hO.2.2.2.1, hO.2.2.2.2.1, hO.2.2.2.2.2.1⟩
theorem tnP_7 {N : z_row} {G : Nat → z_G4} {i : Nat} {f fp ft : z_row} {m : Int} (h : N 5025 = 50) (h4 : 0 ≤ N 5023 ∧ N 5023 ≤ 60) : tnP (tnR N G i) (f, fp, ft, 0, N 5023, m, 7, 0, 0) := by
  rw [tnR_7 h]
  exact ⟨rfl, fun c => absurd c (by show ¬ (7 : Int) = 0; decide), fun _ => ⟨rfl, rfl, rfl, rfl, rfl, fun j hj => by have hj : (j : Int) < 0 := hj; omega⟩, by show (0 : Int) ≤ 0 ∧ (0 : Int) ≤ 200; omega, h4, by show (0 : Int) ≤ 7 ∧ (7 : Int) ≤ 7; omega, by show (0 : Int) ≤ 0 ∧ (0 : Int) ≤ 250; omega, by show (0 : Int) ≤ 0 ∧ (0 : Int) ≤ 5; omega⟩
set_option maxHeartbeats 4000000 in
set_option maxRecDepth 100000 in
theorem D_X9_triesNow {g : z_G} {h0 : z_H} {A : Nat → Nat} (hM : mD A) {Rf Nw Th Tp Tx Kd Ia It Lk Ho Sz Im Mv : Nat → Int} {kp ln sz at_ we pa de ti lf md mn hi0 ha is_ ca : Int} {G : Nat → z_G4} (hwf : nWf Nw G) {i : Nat} (hi9 : (i : Int) < Nw 5020) (hha : 0 ≤ ha ∧ ha ≤ 250) : z_D g mX9_triesNow 25 0 0 [z_r (A 0), z_i (i : Int)] (MH h0 A Rf Nw Th Tp Tx Kd Ia It Lk Ho Sz Im Mv kp ln sz at_ we pa de ti lf md mn hi0 ha is_ ca) (fun rv h' => rv = none ∧ ∃ (Tx3 f3 fp3 ft3 : z_row) (sz3 at3 we3 z3 l3 m3 hi3 pl3 wi3 : Int), tnP (tnR Nw G i) (f3, fp3, ft3, z3, l3, m3, hi3, pl3, wi3) ∧ h' = (MH h0 A Rf Nw Th Tp Tx3 f3 fp3 ft3 Lk Ho Sz Im Mv kp ln sz3 at3 we3 pa de ti l3 m3 z3 hi3 pl3 wi3 ca)) := by
  refine z_D.of (by decide +kernel) (Nat.le_of_ble_eq_true rfl) (fun X F => ?_)
  obtain ⟨w1, w2, w3, w4, w5, w6, w7⟩ := hwf
  obtain ⟨⟨l1, l2⟩, l3, l4, -⟩ := w6 i hi9
  show z_w g X cX9_triesNow RX9 (25, 0, 0) 0 [z_r (A 0), z_i (i : Int)] [] (MH h0 A Rf Nw Th Tp Tx Kd Ia It Lk Ho Sz Im Mv kp ln sz at_ we pa de ti lf md mn hi0 ha is_ ca) 0 0
  refine z_aload_n dX9_triesNow_0 rfl ?_
  refine gf_X9_13 dX9_triesNow_1 MH_0 rfl ?_
  refine z_sipush dX9_triesNow_4 rfl ?_
  refine z_ialdN (m := 5025) dX9_triesNow_7 (MH_2 hM) rfl ⟨by decide, by decide⟩ ?_
  refine z_bipush dX9_triesNow_8 rfl ?_
  refine z_icmp_ne dX9_triesNow_10 (tgt := 41) rfl ⟨by omega, by omega⟩ (by decide) (fun c1 => ?_) (fun c1 => ?_)
  · skip
    refine z_aload_n dX9_triesNow_41 rfl ?_
    refine z_iload_n dX9_triesNow_42 rfl ?_
    refine z_aload_n dX9_triesNow_43 rfl ?_
    refine gf_X9_13 dX9_triesNow_44 MH_0 rfl ?_
    refine z_sipush dX9_triesNow_47 rfl ?_
    refine z_ialdN (m := 5023) dX9_triesNow_50 (MH_2 hM) rfl ⟨by decide, by decide⟩ ?_
    refine cs_X9_176 dX9_triesNow_51 (D_X9_tries hM l1 (i := i) (by omega) l2 l3 l4 (y := Nw 5023) (by omega) (by omega)) MH_0 rfl rfl (Nat.le_of_ble_eq_true rfl) (by decide) (fun rv h' hq => ?_)
    obtain ⟨rfl, at3, rfl⟩ := hq
    obtain ⟨B, hB⟩ : ∃ B, B = wkA (nF Nw i) (G i).1 (G i).2.1 (G i).2.2.1 (G i).2.2.2.1 (G i).2.2.2.2 (Kd, Ia, It, 0, (Nw 5023), 0, 0, ha, 0) := ⟨_, rfl⟩
    have hV : wkV 0 (wR Nw G i (Nw 5023)) B := by rw [hB]; exact wkR_V
    have hBO : wkO B := by rw [hB]; exact wkA_O l1 l4 (wkI_O (by omega) (by omega))
    refine z_heq (congrArg _ hB.symm) ?_
    obtain ⟨f3, fp3, ft3, z3, l3, m3, hi3, pl3, wi3⟩ := B
    have hb3 : (0 ≤ z3 ∧ z3 ≤ 200) ∧ (0 ≤ l3 ∧ l3 ≤ 60) ∧ (0 ≤ m3 ∧ m3 ≤ 60) ∧ (0 ≤ hi3 ∧ hi3 ≤ 7) ∧ (0 ≤ pl3 ∧ pl3 ≤ 250) ∧ (0 ≤ wi3 ∧ wi3 ≤ 5) := ⟨hBO.1, hBO.2.1, hBO.2.2.1, hBO.2.2.2.1, hBO.2.2.2.2.1, hBO.2.2.2.2.2.1⟩
    have hvz : z3 = k_z (wR Nw G i (Nw 5023)) := hV.2.1
    have hvl : l3 = k_l (wR Nw G i (Nw 5023)) := hV.2.2.1
    have hvm : m3 = k_m (wR Nw G i (Nw 5023)) := hV.2.2.2.1
    have hvh : hi3 = k_h (wR Nw G i (Nw 5023)) := hV.2.2.2.2.1
    show z_w _ _ _ _ _ _ _ [] (MH h0 A Rf Nw Th Tp (cpT Nw (251 * i + 1) (nF Nw i) Tx) f3 fp3 ft3 Lk Ho Sz Im Mv kp ln (nF Nw i : Int) at3 1 pa de ti l3 m3 z3 hi3 pl3 wi3 ca) _ _
    exact z_vret F dX9_triesNow_54 rfl (by decide) ⟨rfl, _, _, _, _, _, _, _, _, _, _, _, _, _, tnP_w (by omega) hV hBO, rfl⟩
  · skip
    refine z_aload_n dX9_triesNow_13 rfl ?_
    refine z_iconst dX9_triesNow_14 ?_
    refine pf_X9_157 dX9_triesNow_15 MH_0 (Nat.le_of_ble_eq_true rfl) ?_
    refine z_heq MHu_0 ?_
    refine z_aload_n dX9_triesNow_18 rfl ?_
    refine z_aload_n dX9_triesNow_19 rfl ?_
    refine gf_X9_13 dX9_triesNow_20 MH_0 rfl ?_
    refine z_sipush dX9_triesNow_23 rfl ?_
    refine z_ialdN (m := 5023) dX9_triesNow_26 (MH_2 hM) rfl ⟨by decide, by decide⟩ ?_
    refine pf_X9_144 dX9_triesNow_27 MH_0 (Nat.le_of_ble_eq_true rfl) ?_
    refine z_heq MHu_0 ?_
    refine z_aload_n dX9_triesNow_30 rfl ?_
    refine z_bipush dX9_triesNow_31 rfl ?_
    refine z_iconst dX9_triesNow_33 ?_
    refine z_iconst dX9_triesNow_34 ?_
    refine cs_X9_147 dX9_triesNow_35 (D_X9_hits hM) MH_0 rfl rfl (Nat.le_of_ble_eq_true rfl) (by decide) (z_kv ?_)
    refine z_goto dX9_triesNow_38 (tgt := 54) rfl ?_
    exact z_vret F dX9_triesNow_54 rfl (by decide) ⟨rfl, _, _, _, _, _, _, _, _, _, _, _, _, _, tnP_7 (m := md) (by omega) w4, rfl⟩
set_option maxHeartbeats 4000000 in
set_option maxRecDepth 100000 in
theorem D_X9_work {g : z_G} {h0 : z_H} {A : Nat → Nat} (hM : mD A) {Rf Nw Th Tp Tx Kd Ia It Lk Ho Sz Im Mv : Nat → Int} {kp ln sz at_ we pa de ti lf md mn hi ha is_ ca : Int} {G : Nat → z_G4} (hwf : nWf Nw G) {li : Int} (hli : z_in li) (hha : 0 ≤ ha ∧ ha ≤ 250) : z_D g mX9_work 26 0 0 [z_r (A 0), z_i li] (MH h0 A Rf Nw Th Tp Tx Kd Ia It Lk Ho Sz Im Mv kp ln sz at_ we pa de ti lf md mn hi ha is_ ca) (fun rv h' => (¬ isL Nw li → rv = some (z_i (-92)) ∧ h' = (MH h0 A (z_sf Rf 0 (Rf 0 + 1)) Nw Th Tp Tx Kd Ia It Lk Ho Sz Im Mv kp ln sz at_ we pa de ti lf md mn hi ha is_ ca)) ∧ (isL Nw li → (k_h (tnR Nw G li.toNat) ≠ 0 → rv = some (z_i (-95)) ∧ ∃ Lk' : z_row, lkP Lk' 0 li (tnR Nw G li.toNat) (lkN 0 (tnR Nw G li.toNat)) ∧ (∃ (Tx' Kd' Ia' It' Mv' : z_row) (sz' at_' we' pa' de' ti' lf' md' mn' hi' ha' is_' : Int), (0 ≤ ha' ∧ ha' ≤ 250) ∧ h' = (MH h0 A (z_sf Rf 3 (Rf 3 + 1)) Nw Th Tp Tx' Kd' Ia' It' Lk' Ho Sz Im Mv' kp ln sz' at_' we' pa' de' ti' lf' md' mn' hi' ha' is_' ((lkN 0 (tnR Nw G li.toNat) : Nat) : Int)))) ∧ (k_h (tnR Nw G li.toNat) = 0 → rv = some (z_i (k_m (tnR Nw G li.toNat))) ∧ (∃ (Tx' Kd' Ia' It' Mv' : z_row) (sz' at_' we' pa' de' ti' lf' md' mn' hi' ha' is_' : Int), (0 ≤ ha' ∧ ha' ≤ 250) ∧ h' = (MH h0 A Rf (dnS Nw G li.toNat) Th Tp Tx' Kd' Ia' It' Lk Ho Sz Im Mv' kp ln sz' at_' we' pa' de' ti' lf' md' mn' hi' ha' is_' ca))))) := by
  refine z_D.of (by decide +kernel) (Nat.le_of_ble_eq_true rfl) (fun X F => ?_)
  have hwf0 := hwf
  obtain ⟨w1, w2, w3, w4, w5, w6, w7⟩ := hwf
  show z_w g X cX9_work RX9 (26, 0, 0) 0 [z_r (A 0), z_i li] [] (MH h0 A Rf Nw Th Tp Tx Kd Ia It Lk Ho Sz Im Mv kp ln sz at_ we pa de ti lf md mn hi ha is_ ca) 0 0
  refine z_aload_n dX9_work_0 rfl ?_
  refine z_iload_n dX9_work_1 rfl ?_
  refine cs_X9_124 dX9_work_2 (D_X9_isLine hM (i := li) ⟨by omega, by omega⟩ ⟨by omega, by omega⟩) MH_0 rfl rfl (Nat.le_of_ble_eq_true rfl) (by decide) (z_ki ?_)
  refine z_if_ne dX9_work_5 (tgt := 15) rfl ⟨by split <;> omega, by split <;> omega⟩ (fun c1 => ?_) (fun c1 => ?_)
  · skip
    obtain ⟨i, rfl⟩ : ∃ y : Nat, li = (y : Int) := ⟨li.toNat, by omega⟩
    refine z_aload_n dX9_work_15 rfl ?_
    refine z_iconst dX9_work_16 ?_
    refine pf_X9_132 dX9_work_17 MH_0 (Nat.le_of_ble_eq_true rfl) ?_
    refine z_heq MHu_0 ?_
    refine z_aload_n dX9_work_20 rfl ?_
    refine z_iload_n dX9_work_21 rfl ?_
    refine cs_X9_186 dX9_work_22 (D_X9_triesNow hM hwf0 (i := i) (by omega) (by omega)) MH_0 rfl rfl (Nat.le_of_ble_eq_true rfl) (by decide) (fun rv h' hq => ?_)
    obtain ⟨rfl, Tx3, f3, fp3, ft3, sz3, at3, we3, z3, l3, m3, hi3, pl3, wi3, hT, rfl⟩ := hq
    have hTh : hi3 = k_h (tnR Nw G i) := hT.1
    have hTb : (0 ≤ z3 ∧ z3 ≤ 200) ∧ (0 ≤ l3 ∧ l3 ≤ 60) ∧ (0 ≤ hi3 ∧ hi3 ≤ 7) ∧ (0 ≤ pl3 ∧ pl3 ≤ 250) ∧ (0 ≤ wi3 ∧ wi3 ≤ 5) := hT.2.2.2
    show z_w _ _ _ _ _ _ _ [] _ _ _
    refine z_aload_n dX9_work_25 rfl ?_
    refine gf_X9_132 dX9_work_26 MH_0 rfl ?_
    refine z_if_eq dX9_work_29 (tgt := 45) rfl ⟨by omega, by omega⟩ (fun c2 => ?_) (fun c2 => ?_)
    · skip
      have hh0 : k_h (tnR Nw G i) = 0 := by omega
      obtain ⟨d1, d2, d3, d4, d5, d6⟩ := tnR_ok hwf0 (by omega) hh0
      have hTV := hT.2.1 hh0
      obtain ⟨mz, hmz⟩ : ∃ y : Nat, z3 = (y : Int) := ⟨z3.toNat, by omega⟩
      have hTz : z3 = k_z (tnR Nw G i) := hTV.2.1
      have hTm : m3 = k_m (tnR Nw G i) := hTV.2.2.2.1
      have hTf : ∀ j, j < mz → f3 j = k_f (tnR Nw G i) j := fun j hj => hTV.2.2.2.2.2.1 j (by omega)
      have hD9 : dnN Nw (i : Int) f3 mz m3 = dnS Nw G i := by unfold dnS; rw [← hTz, ← hTm, hmz, Int.toNat_natCast]; exact dnN_ag hTf
      subst hmz
      refine z_aload_n dX9_work_45 rfl ?_
      refine z_iload_n dX9_work_46 rfl ?_
      refine cs_X9_192 dX9_work_47 (D_X9_done hM (M := (Nw 5025).toNat) (mz := mz) (by omega) (by omega) (by omega) ⟨by omega, by omega⟩ ⟨by omega, by omega⟩) MH_0 rfl rfl (Nat.le_of_ble_eq_true rfl) (by decide) (z_kv ?_)
      refine z_heq (h' := (MH h0 A Rf (dnS Nw G i) Th Tp Tx3 f3 fp3 ft3 Lk Ho Sz Im Mv kp ln sz3 at3 we3 pa de ti l3 m3 (mz : Int) hi3 pl3 wi3 ca)) (by rw [hD9]) ?_
      refine z_aload_n dX9_work_50 rfl ?_
      refine gf_X9_13 dX9_work_51 MH_0 rfl ?_
      refine z_sipush dX9_work_54 rfl ?_
      refine z_ialdN (m := 5023) dX9_work_57 (MH_2 hM) rfl ⟨by decide, by decide⟩ ?_
      refine z_ieq (y := k_m (tnR Nw G i)) (by unfold dnS; exact dn_23) ?_
      exact z_iret F dX9_work_58 rfl (by decide) ⟨fun q => absurd (by omega) q, fun q => ⟨fun q2 => absurd hh0 q2, fun q2 => ⟨rfl, _, _, _, _, _, _, _, _, _, _, _, _, _, _, _, _, _, by omega, rfl⟩⟩⟩
    · skip
      obtain ⟨iw, rfl⟩ : ∃ y : Nat, wi3 = (y : Int) := ⟨wi3.toNat, by omega⟩
      have hh0 : ¬ hi3 = 0 := c2
      refine z_aload_n dX9_work_32 rfl ?_
      refine z_iload_n dX9_work_33 rfl ?_
      refine z_iconst dX9_work_34 ?_
      refine cs_X9_189 dX9_work_35 (D_X9_tellsWhy hM (iw := iw) (by omega) (li := (i : Int)) (tm := 0) (by decide)) MH_0 rfl rfl (Nat.le_of_ble_eq_true rfl) (by decide) (fun rv h' hq => ?_)
      obtain ⟨rfl, Lk', hLk, rfl⟩ := hq
      have hK : wkK (tnR Nw G i) (f3, fp3, ft3, z3, l3, m3, hi3, pl3, (iw : Int)) := hT.2.2.1 (by rw [← hTh]; assumption)
      have hLN := hK.N 0
      have hLk2 : lkP Lk' 0 (i : Int) (tnR Nw G i) (lkN 0 (tnR Nw G i)) := by rw [← hLN]; exact hK.P hLk
      refine z_heq (h' := (MH h0 A Rf Nw Th Tp Tx3 f3 fp3 ft3 Lk' Ho Sz Im Mv kp ln sz3 at3 we3 pa de ti l3 m3 z3 hi3 pl3 (iw : Int) ((lkN 0 (tnR Nw G i) : Nat) : Int))) (by rw [hLN]) ?_
      show z_w _ _ _ _ _ _ _ [] _ _ _
      refine z_aload_n dX9_work_38 rfl ?_
      refine z_bipush dX9_work_39 rfl ?_
      refine cs_X9_60 dX9_work_41 (D_X9_ref3 hM) MH_0 rfl rfl (Nat.le_of_ble_eq_true rfl) (by decide) (z_ki ?_)
      exact z_iret F dX9_work_44 rfl (by decide) ⟨fun q => absurd (by omega) q, fun q => ⟨fun q2 => ⟨rfl, Lk', hLk2, _, _, _, _, _, _, _, _, _, _, _, _, _, _, _, _, _, by omega, rfl⟩, fun q2 => absurd (hTh.trans q2) hh0⟩⟩
  · skip
    refine z_aload_n dX9_work_8 rfl ?_
    refine z_bipush dX9_work_9 rfl ?_
    refine cs_X9_60 dX9_work_11 (D_X9_ref0 hM) MH_0 rfl rfl (Nat.le_of_ble_eq_true rfl) (by decide) (z_ki ?_)
    exact z_iret F dX9_work_14 rfl (by decide) ⟨fun q => ⟨rfl, rfl⟩, fun q => absurd q (by omega)⟩
/-- rows from one on, as far as they can be worked: the line that can't be (-1: none), the state, how many -/
def rnI (G : Nat → z_G4) : Nat → Nat → z_row → Nat → Int × z_row × Nat
  | 0, _, N, c => (-1, N, c)
  | r + 1, i, N, c => if k_h (tnR N G i) ≠ 0 then ((i : Int), N, c) else rnI G r (i + 1) (dnS N G i) (c + 1)
/-- so often: the time in which it stops (0: never), the line, the state, how many -/
def rnO (G : Nat → z_G4) (E a : Nat) : Nat → Nat → z_row → Nat → Int × Int × z_row × Nat
  | 0, _, N, c => (0, -1, N, c)
  | r + 1, tm, N, c => if (rnI G E a N c).1 ≠ -1 then ((tm : Int), (rnI G E a N c).1, (rnI G E a N c).2.1, (rnI G E a N c).2.2) else rnO G E a r (tm + 1) (rnI G E a N c).2.1 (rnI G E a N c).2.2
theorem dnS_20 {N : z_row} {G : Nat → z_G4} {i : Nat} (hw : nWf N G) : dnS N G i 5020 = N 5020 := by
  have := hw.2.2.2.2.1
  exact dn_lo (M := (N 5025).toNat) (by omega) (by omega) (by decide) (by decide) (by decide)
set_option maxHeartbeats 4000000 in
set_option maxRecDepth 100000 in
theorem D_X9_run {g : z_G} {h0 : z_H} {A : Nat → Nat} (hM : mD A) {Rf Nw Th Tp Tx Kd Ia It Lk Ho Sz Im Mv : Nat → Int} {kp ln sz at_ we pa de ti lf md mn hi ha is_ ca : Int} {G : Nat → z_G4} (hwf : nWf Nw G) {fi ti9 n9 : Int} (hfi : z_in fi) (hti : z_in ti9) (hn9 : z_in n9) (hha : 0 ≤ ha ∧ ha ≤ 250) : z_D g mX9_run 26 0 0 [z_r (A 0), z_i fi, z_i ti9, z_i n9] (MH h0 A Rf Nw Th Tp Tx Kd Ia It Lk Ho Sz Im Mv kp ln sz at_ we pa de ti lf md mn hi ha is_ ca) (fun rv h' => (¬ ((isL Nw fi ∧ isL Nw ti9 ∧ fi ≤ ti9) ∧ 1 ≤ n9 ∧ n9 ≤ 20) → rv = some (z_i (-92)) ∧ h' = (MH h0 A (z_sf Rf 0 (Rf 0 + 1)) Nw Th Tp Tx Kd Ia It Lk Ho Sz Im Mv kp ln sz at_ we pa de ti lf md mn hi ha is_ ca)) ∧ ((isL Nw fi ∧ isL Nw ti9 ∧ fi ≤ ti9) ∧ 1 ≤ n9 ∧ n9 ≤ 20 → ((rnO G (ti9 - fi + 1).toNat fi.toNat n9.toNat 1 Nw 0).1 ≠ 0 → rv = some (z_i (-95)) ∧ ∃ Lk' : z_row, lkP Lk' (rnO G (ti9 - fi + 1).toNat fi.toNat n9.toNat 1 Nw 0).1 (rnO G (ti9 - fi + 1).toNat fi.toNat n9.toNat 1 Nw 0).2.1 (tnR (rnO G (ti9 - fi + 1).toNat fi.toNat n9.toNat 1 Nw 0).2.2.1 G (rnO G (ti9 - fi + 1).toNat fi.toNat n9.toNat 1 Nw 0).2.1.toNat) (lkN (rnO G (ti9 - fi + 1).toNat fi.toNat n9.toNat 1 Nw 0).1 (tnR (rnO G (ti9 - fi + 1).toNat fi.toNat n9.toNat 1 Nw 0).2.2.1 G (rnO G (ti9 - fi + 1).toNat fi.toNat n9.toNat 1 Nw 0).2.1.toNat)) ∧ (∃ (Tx' Kd' Ia' It' Mv' : z_row) (sz' at_' we' pa' de' ti' lf' md' mn' hi' ha' is_' : Int), (0 ≤ ha' ∧ ha' ≤ 250) ∧ h' = (MH h0 A (z_sf Rf 3 (Rf 3 + 1)) ((rnO G (ti9 - fi + 1).toNat fi.toNat n9.toNat 1 Nw 0).2.2.1) Th Tp Tx' Kd' Ia' It' Lk' Ho Sz Im Mv' kp ln sz' at_' we' pa' de' ti' lf' md' mn' hi' ha' is_' ((lkN (rnO G (ti9 - fi + 1).toNat fi.toNat n9.toNat 1 Nw 0).1 (tnR (rnO G (ti9 - fi + 1).toNat fi.toNat n9.toNat 1 Nw 0).2.2.1 G (rnO G (ti9 - fi + 1).toNat fi.toNat n9.toNat 1 Nw 0).2.1.toNat) : Nat) : Int)))) ∧ ((rnO G (ti9 - fi + 1).toNat fi.toNat n9.toNat 1 Nw 0).1 = 0 → rv = some (z_i ((rnO G (ti9 - fi + 1).toNat fi.toNat n9.toNat 1 Nw 0).2.2.2 : Int)) ∧ (∃ (Tx' Kd' Ia' It' Mv' : z_row) (sz' at_' we' pa' de' ti' lf' md' mn' hi' ha' is_' : Int), (0 ≤ ha' ∧ ha' ≤ 250) ∧ h' = (MH h0 A Rf ((rnO G (ti9 - fi + 1).toNat fi.toNat n9.toNat 1 Nw 0).2.2.1) Th Tp Tx' Kd' Ia' It' Lk Ho Sz Im Mv' kp ln sz' at_' we' pa' de' ti' lf' md' mn' hi' ha' is_' ca))))) := by
  refine z_D.of (by decide +kernel) (Nat.le_of_ble_eq_true rfl) (fun X F => ?_)
  have hwf0 := hwf
  obtain ⟨w1, w2, w3, w4, w5, w6, w7⟩ := hwf
  show z_w g X cX9_run RX9 (26, 0, 0) 0 [z_r (A 0), z_i fi, z_i ti9, z_i n9, z_u, z_u, z_u] [] (MH h0 A Rf Nw Th Tp Tx Kd Ia It Lk Ho Sz Im Mv kp ln sz at_ we pa de ti lf md mn hi ha is_ ca) 0 0
  refine z_aload_n dX9_run_0 rfl ?_
  refine z_iload_n dX9_run_1 rfl ?_
  refine cs_X9_124 dX9_run_2 (D_X9_isLine hM (i := fi) ⟨by omega, by omega⟩ ⟨by omega, by omega⟩) MH_0 rfl rfl (Nat.le_of_ble_eq_true rfl) (by decide) (z_ki ?_)
  refine z_if_eq dX9_run_5 (tgt := 33) rfl ⟨by split <;> omega, by split <;> omega⟩ (fun c1 => ?_) (fun c1 => ?_)
  · skip
    refine z_aload_n dX9_run_33 rfl ?_
    refine z_bipush dX9_run_34 rfl ?_
    refine cs_X9_60 dX9_run_36 (D_X9_ref0 hM) MH_0 rfl rfl (Nat.le_of_ble_eq_true rfl) (by decide) (z_ki ?_)
    exact z_iret F dX9_run_39 rfl (by decide) ⟨fun q => ⟨rfl, rfl⟩, fun q => absurd q (by omega)⟩
  · skip
    refine z_aload_n dX9_run_8 rfl ?_
    refine z_iload_n dX9_run_9 rfl ?_
    refine cs_X9_124 dX9_run_10 (D_X9_isLine hM (i := ti9) ⟨by omega, by omega⟩ ⟨by omega, by omega⟩) MH_0 rfl rfl (Nat.le_of_ble_eq_true rfl) (by decide) (z_ki ?_)
    refine z_if_eq dX9_run_13 (tgt := 33) rfl ⟨by split <;> omega, by split <;> omega⟩ (fun c2 => ?_) (fun c2 => ?_)
    · skip
      refine z_aload_n dX9_run_33 rfl ?_
      refine z_bipush dX9_run_34 rfl ?_
      refine cs_X9_60 dX9_run_36 (D_X9_ref0 hM) MH_0 rfl rfl (Nat.le_of_ble_eq_true rfl) (by decide) (z_ki ?_)
      exact z_iret F dX9_run_39 rfl (by decide) ⟨fun q => ⟨rfl, rfl⟩, fun q => absurd q (by omega)⟩
    · skip
      refine z_iload_n dX9_run_16 rfl ?_
      refine z_iload_n dX9_run_17 rfl ?_
      refine z_icmp_lt dX9_run_18 (tgt := 33) rfl ⟨by omega, by omega⟩ ⟨by omega, by omega⟩ (fun c3 => ?_) (fun c3 => ?_)
      · skip
        refine z_aload_n dX9_run_33 rfl ?_
        refine z_bipush dX9_run_34 rfl ?_
        refine cs_X9_60 dX9_run_36 (D_X9_ref0 hM) MH_0 rfl rfl (Nat.le_of_ble_eq_true rfl) (by decide) (z_ki ?_)
        exact z_iret F dX9_run_39 rfl (by decide) ⟨fun q => ⟨rfl, rfl⟩, fun q => absurd q (by omega)⟩
      · skip
        refine z_iload_n dX9_run_21 rfl ?_
        refine z_i2l dX9_run_22 ⟨by omega, by omega⟩ ?_
        refine z_lconst1 dX9_run_23 ?_
        refine z_ldc2 dX9_run_24 lw_X9_195 ?_
        refine cs_X9_56 dX9_run_27 (D_X9_isIn (v := n9) (lo := 1) (hi := 20) ⟨by omega, by omega⟩ (by decide) (by decide)) rfl rfl (Nat.le_of_ble_eq_true rfl) (by decide) (z_ki ?_)
        refine z_if_ne dX9_run_30 (tgt := 40) rfl ⟨by split <;> omega, by split <;> omega⟩ (fun c4 => ?_) (fun c4 => ?_)
        · skip
          obtain ⟨a, rfl⟩ : ∃ y : Nat, fi = (y : Int) := ⟨fi.toNat, by omega⟩
          obtain ⟨b, rfl⟩ : ∃ y : Nat, ti9 = (y : Int) := ⟨ti9.toNat, by omega⟩
          obtain ⟨n, rfl⟩ : ∃ y : Nat, n9 = (y : Int) := ⟨n9.toNat, by omega⟩
          obtain ⟨E, hE⟩ : ∃ E : Nat, ((b : Int) - (a : Int) + 1).toNat = E := ⟨_, rfl⟩
          refine z_iconst dX9_run_40 ?_
          refine z_istore dX9_run_41 (Nat.le_of_ble_eq_true rfl) rfl ?_
          refine z_iconst dX9_run_43 ?_
          refine z_istore dX9_run_44 (Nat.le_of_ble_eq_true rfl) rfl ?_
          have L4 : ∀ (fu : Nat) (tm rem c : Nat) (N7 : z_row) (y6 : z_V) (Tx7 Kd7 Ia7 It7 Mv7 : z_row) (sz7 at7 we7 pa7 de7 ti7 lf7 md7 mn7 hi7 ha7 is7 : Int) (q1 : tm + rem = n + 1 ∧ 1 ≤ tm) (q2 : (rnO G E a n 1 Nw 0) = rnO G E a rem tm N7 c) (q4 : nWf N7 G) (q5 : N7 5020 = Nw 5020) (q3 : 0 ≤ ha7 ∧ ha7 ≤ 250), rem < fu → z_w g X cX9_run RX9 (26, 0, 0) 46 [z_r (A 0), z_i (a : Int), z_i (b : Int), z_i (n : Int), z_i (c : Int), z_i (tm : Int), y6] [] (MH h0 A Rf N7 Th Tp Tx7 Kd7 Ia7 It7 Lk Ho Sz Im Mv7 kp ln sz7 at7 we7 pa7 de7 ti7 lf7 md7 mn7 hi7 ha7 is7 ca) 0 0 := by
            intro fu
            induction fu with
            | zero => intro tm rem c N7 y6 Tx7 Kd7 Ia7 It7 Mv7 sz7 at7 we7 pa7 de7 ti7 lf7 md7 mn7 hi7 ha7 is7 q1 q2 q4 q5 q3 hm; exact absurd hm (Nat.not_lt_zero _)
            | succ fu ih =>
              intro tm rem c N7 y6 Tx7 Kd7 Ia7 It7 Mv7 sz7 at7 we7 pa7 de7 ti7 lf7 md7 mn7 hi7 ha7 is7 q1 q2 q4 q5 q3 hm
              refine z_iload dX9_run_46 rfl ?_
              refine z_iload_n dX9_run_48 rfl ?_
              refine z_icmp_gt dX9_run_49 (tgt := 115) rfl ⟨by omega, by omega⟩ ⟨by omega, by omega⟩ (fun c5 => ?_) (fun c5 => ?_)
              · skip
                obtain rfl : rem = 0 := by omega
                refine z_iload dX9_run_115 rfl ?_
                exact z_iret F dX9_run_117 rfl (by decide) ⟨fun q => absurd (by omega) q, fun q => by
                  rw [hE, show (a : Int).toNat = a from Int.toNat_natCast a, show (n : Int).toNat = n from Int.toNat_natCast n, q2]
                  exact ⟨fun q2 => absurd rfl q2, fun q2 => ⟨rfl, _, _, _, _, _, _, _, _, _, _, _, _, _, _, _, _, _, q3, rfl⟩⟩⟩
              · skip
                obtain ⟨rem', rfl⟩ : ∃ y, rem = y + 1 := ⟨rem - 1, by omega⟩
                refine z_iload_n dX9_run_52 rfl ?_
                refine z_istore dX9_run_53 (Nat.le_of_ble_eq_true rfl) rfl ?_
                have L5 : ∀ (fu : Nat) (k rm c8 : Nat) (N8 : z_row) (Tx8 Kd8 Ia8 It8 Mv8 : z_row) (sz8 at8 we8 pa8 de8 ti8 lf8 md8 mn8 hi8 ha8 is8 : Int) (p1 : k + rm = b + 1 ∧ a ≤ k) (p4 : rnI G E a N7 c = rnI G rm k N8 c8) (p5 : nWf N8 G) (p6 : N8 5020 = Nw 5020) (p3 : 0 ≤ ha8 ∧ ha8 ≤ 250), rm < fu → z_w g X cX9_run RX9 (26, 0, 0) 55 [z_r (A 0), z_i (a : Int), z_i (b : Int), z_i (n : Int), z_i (c8 : Int), z_i (tm : Int), z_i (k : Int)] [] (MH h0 A Rf N8 Th Tp Tx8 Kd8 Ia8 It8 Lk Ho Sz Im Mv8 kp ln sz8 at8 we8 pa8 de8 ti8 lf8 md8 mn8 hi8 ha8 is8 ca) 0 0 := by
                  intro fu
                  induction fu with
                  | zero => intro k rm c8 N8 Tx8 Kd8 Ia8 It8 Mv8 sz8 at8 we8 pa8 de8 ti8 lf8 md8 mn8 hi8 ha8 is8 p1 p4 p5 p6 p3 hm; exact absurd hm (Nat.not_lt_zero _)
                  | succ fu2 ih2 =>
                    intro k rm c8 N8 Tx8 Kd8 Ia8 It8 Mv8 sz8 at8 we8 pa8 de8 ti8 lf8 md8 mn8 hi8 ha8 is8 p1 p4 p5 p6 p3 hm
                    refine z_iload dX9_run_55 rfl ?_
                    refine z_iload_n dX9_run_57 rfl ?_
                    refine z_icmp_gt dX9_run_58 (tgt := 109) rfl ⟨by omega, by omega⟩ ⟨by omega, by omega⟩ (fun c6 => ?_) (fun c6 => ?_)
                    · skip
                      obtain rfl : rm = 0 := by omega
                      have p7 : rnI G E a N7 c = (-1, N8, c8) := p4
                      have hO : rnO G E a (rem' + 1) tm N7 c = rnO G E a rem' (tm + 1) N8 c8 := by
                        refine (if_neg (fun q => q (by rw [p7]))).trans ?_
                        rw [p7]
                      refine z_iinc dX9_run_109 rfl rfl ?_
                      refine z_goto dX9_run_112 (tgt := 46) rfl ?_
                      exact ih (tm + 1) rem' c8 N8 _ Tx8 Kd8 Ia8 It8 Mv8 sz8 at8 we8 pa8 de8 ti8 lf8 md8 mn8 hi8 ha8 is8 (by omega) (q2.trans hO) p5 p6 (by omega) (by omega)
                    · skip
                      obtain ⟨rm', rfl⟩ : ∃ y, rm = y + 1 := ⟨rm - 1, by omega⟩
                      obtain ⟨v1, v2, v3, v4, v5, v6, v7⟩ := id p5
                      refine z_aload_n dX9_run_61 rfl ?_
                      refine z_iconst dX9_run_62 ?_
                      refine pf_X9_132 dX9_run_63 MH_0 (Nat.le_of_ble_eq_true rfl) ?_
                      refine z_heq MHu_0 ?_
                      refine z_aload_n dX9_run_66 rfl ?_
                      refine z_iload dX9_run_67 rfl ?_
                      refine cs_X9_186 dX9_run_69 (D_X9_triesNow hM p5 (i := k) (by omega) (by omega)) MH_0 rfl rfl (Nat.le_of_ble_eq_true rfl) (by decide) (fun rv h' hq => ?_)
                      obtain ⟨rfl, Tx3, f3, fp3, ft3, sz3, at3, we3, z3, l3, m3, hi3, pl3, wi3, hT, rfl⟩ := hq
                      have hTh : hi3 = k_h (tnR N8 G k) := hT.1
                      have hTb : (0 ≤ z3 ∧ z3 ≤ 200) ∧ (0 ≤ l3 ∧ l3 ≤ 60) ∧ (0 ≤ hi3 ∧ hi3 ≤ 7) ∧ (0 ≤ pl3 ∧ pl3 ≤ 250) ∧ (0 ≤ wi3 ∧ wi3 ≤ 5) := hT.2.2.2
                      show z_w _ _ _ _ _ _ _ [] _ _ _
                      refine z_aload_n dX9_run_72 rfl ?_
                      refine gf_X9_132 dX9_run_73 MH_0 rfl ?_
                      refine z_if_eq dX9_run_76 (tgt := 94) rfl ⟨by omega, by omega⟩ (fun c7 => ?_) (fun c7 => ?_)
                      · skip
                        have hh0 : k_h (tnR N8 G k) = 0 := by omega
                        obtain ⟨d1, d2, d3, d4, d5, d6⟩ := tnR_ok p5 (by omega) hh0
                        have hTV := hT.2.1 hh0
                        obtain ⟨mz, hmz⟩ : ∃ y : Nat, z3 = (y : Int) := ⟨z3.toNat, by omega⟩
                        have hTz : z3 = k_z (tnR N8 G k) := hTV.2.1
                        have hTm : m3 = k_m (tnR N8 G k) := hTV.2.2.2.1
                        have hTf : ∀ j, j < mz → f3 j = k_f (tnR N8 G k) j := fun j hj => hTV.2.2.2.2.2.1 j (by omega)
                        have hD9 : dnN N8 (k : Int) f3 mz m3 = dnS N8 G k := by unfold dnS; rw [← hTz, ← hTm, hmz, Int.toNat_natCast]; exact dnN_ag hTf
                        subst hmz
                        refine z_aload_n dX9_run_94 rfl ?_
                        refine z_iload dX9_run_95 rfl ?_
                        refine cs_X9_192 dX9_run_97 (D_X9_done hM (M := (N8 5025).toNat) (mz := mz) (by omega) (by omega) (by omega) ⟨by omega, by omega⟩ ⟨by omega, by omega⟩) MH_0 rfl rfl (Nat.le_of_ble_eq_true rfl) (by decide) (z_kv ?_)
                        refine z_heq (h' := (MH h0 A Rf (dnS N8 G k) Th Tp Tx3 f3 fp3 ft3 Lk Ho Sz Im Mv8 kp ln sz3 at3 we3 pa8 de8 ti8 l3 m3 (mz : Int) hi3 pl3 wi3 ca)) (by rw [hD9]) ?_
                        refine z_iinc dX9_run_100 rfl rfl ?_
                        refine z_iinc dX9_run_103 rfl rfl ?_
                        refine z_goto dX9_run_106 (tgt := 55) rfl ?_
                        exact ih2 (k + 1) rm' (c8 + 1) (dnS N8 G k) Tx3 f3 fp3 ft3 Mv8 sz3 at3 we3 pa8 de8 ti8 l3 m3 (mz : Int) hi3 pl3 wi3 (by omega) (p4.trans (if_neg (fun q => q hh0))) (nWf_dnS p5 (by omega) hh0) ((dnS_20 p5).trans p6) (by omega) (by omega)
                      · skip
                        obtain ⟨iw, rfl⟩ : ∃ y : Nat, wi3 = (y : Int) := ⟨wi3.toNat, by omega⟩
                        have hh0 : ¬ hi3 = 0 := c7
                        have p7 : rnI G E a N7 c = ((k : Int), N8, c8) := p4.trans (if_pos (by rw [← hTh]; exact hh0))
                        have hO : rnO G E a (rem' + 1) tm N7 c = ((tm : Int), (k : Int), N8, c8) := by
                          refine (if_pos (by rw [p7]; show ¬ (k : Int) = -1; omega)).trans ?_
                          rw [p7]
                        have hO2 := q2.trans hO
                        refine z_aload_n dX9_run_79 rfl ?_
                        refine z_iload dX9_run_80 rfl ?_
                        refine z_iload dX9_run_82 rfl ?_
                        refine cs_X9_189 dX9_run_84 (D_X9_tellsWhy hM (iw := iw) (by omega) (li := (k : Int)) (tm := (tm : Int)) ⟨by omega, by omega⟩) MH_0 rfl rfl (Nat.le_of_ble_eq_true rfl) (by decide) (fun rv h' hq => ?_)
                        obtain ⟨rfl, Lk', hLk, rfl⟩ := hq
                        have hK : wkK (tnR N8 G k) (f3, fp3, ft3, z3, l3, m3, hi3, pl3, (iw : Int)) := hT.2.2.1 (by rw [← hTh]; assumption)
                        have hLN := hK.N (tm : Int)
                        have hLk2 : lkP Lk' (tm : Int) (k : Int) (tnR N8 G k) (lkN (tm : Int) (tnR N8 G k)) := by rw [← hLN]; exact hK.P hLk
                        refine z_heq (h' := (MH h0 A Rf N8 Th Tp Tx3 f3 fp3 ft3 Lk' Ho Sz Im Mv8 kp ln sz3 at3 we3 pa8 de8 ti8 l3 m3 z3 hi3 pl3 (iw : Int) ((lkN (tm : Int) (tnR N8 G k) : Nat) : Int))) (by rw [hLN]) ?_
                        show z_w _ _ _ _ _ _ _ [] _ _ _
                        refine z_aload_n dX9_run_87 rfl ?_
                        refine z_bipush dX9_run_88 rfl ?_
                        refine cs_X9_60 dX9_run_90 (D_X9_ref3 hM) MH_0 rfl rfl (Nat.le_of_ble_eq_true rfl) (by decide) (z_ki ?_)
                        exact z_iret F dX9_run_93 rfl (by decide) ⟨fun q => absurd (by omega) q, fun q => by
                  rw [hE, show (a : Int).toNat = a from Int.toNat_natCast a, show (n : Int).toNat = n from Int.toNat_natCast n, hO2]
                  dsimp only
                  rw [Int.toNat_natCast k]
                  exact ⟨fun q2 => ⟨rfl, Lk', hLk2, _, _, _, _, _, _, _, _, _, _, _, _, _, _, _, _, _, by omega, rfl⟩, fun q2 => absurd q2 (by omega)⟩⟩
                exact L5 (b + 2) a E c N7 Tx7 Kd7 Ia7 It7 Mv7 sz7 at7 we7 pa7 de7 ti7 lf7 md7 mn7 hi7 ha7 is7 (by omega) rfl q4 q5 (by omega) (by omega)
          exact L4 (n + 1) 1 n 0 Nw z_u Tx Kd Ia It Mv sz at_ we pa de ti lf md mn hi ha is_ (by omega) rfl hwf0 rfl hha (by omega)
        · skip
          refine z_aload_n dX9_run_33 rfl ?_
          refine z_bipush dX9_run_34 rfl ?_
          refine cs_X9_60 dX9_run_36 (D_X9_ref0 hM) MH_0 rfl rfl (Nat.le_of_ble_eq_true rfl) (by decide) (z_ki ?_)
          exact z_iret F dX9_run_39 rfl (by decide) ⟨fun q => ⟨rfl, rfl⟩, fun q => absurd q (by omega)⟩
