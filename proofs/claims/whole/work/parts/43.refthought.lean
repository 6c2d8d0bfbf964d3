/-! the reference: rows in thought -/
abbrev wR (N : z_row) (G : Nat → z_G4) (i : Nat) (y : Int) : wkT := wkR (nF N i) (G i) y
def wdV (R : wkT) (what : Int) : Int := if k_h R ≠ 0 then -1 else if what = 0 then k_m R else if what = 1 then k_z R else sG kY (k_f R) (k_z R).toNat
def htV (R : wkT) : Int := if k_h R = 0 then -1 else k_h R
/-- how many behind rows from i on, one behind the other; -1 -/
def cbF (N : z_row) (G : Nat → z_G4) : Nat → Nat → Int → Int
  | 0, _, on => on
  | r + 1, i, on => if k_h (wR N G i on) ≠ 0 then -1 else cbF N G r (i + 1) (k_m (wR N G i on))
def lsF (N : z_row) (G : Nat → z_G4) (m : Nat) : Nat → Nat → Int
  | 0, _ => -1
  | r + 1, n => if cbF N G m 0 (n : Int) ≠ -1 then (n : Int) else lsF N G m r (n + 1)
/-- how often rows can be worked, one run behind the other -/
def tmF (N : z_row) (G : Nat → z_G4) (each i : Nat) : Nat → Int → Int → Int → Int
  | 0, t, _, _ => t
  | r + 1, t, dn, on => if dn + (each : Int) ≤ 50 then (if cbF N G each i on = -1 then t else tmF N G each i r (t + 1) (dn + (each : Int)) (cbF N G each i on)) else t
theorem cbF_in {N : z_row} {G : Nat → z_G4} (hw : nWf N G) : ∀ (r i : Nat) (on : Int), ((i : Int) + (r : Int) ≤ N 5020) → 0 ≤ on ∧ on ≤ 60 → cbF N G r i on = -1 ∨ (0 ≤ cbF N G r i on ∧ cbF N G r i on ≤ 60) := by
  intro r
  induction r with
  | zero => intro i on _ h; exact Or.inr h
  | succ r ih =>
    intro i on hi h
    obtain ⟨⟨l1, l2⟩, l3, l4, -⟩ := hw.2.2.2.2.2.1 i (by omega)
    have hO := wkR_O (y := on) l1 l4 h
    unfold cbF
    split
    · exact Or.inl rfl
    · exact ih (i + 1) _ (by omega) ⟨hO.2.2.1.1, hO.2.2.1.2⟩
set_option maxHeartbeats 4000000 in
set_option maxRecDepth 100000 in
theorem D_X9_would {g : z_G} {h0 : z_H} {A : Nat → Nat} (hM : mD A) {Rf Nw Th Tp Tx Kd Ia It Lk Ho Sz Im Mv : Nat → Int} {kp ln sz at_ we pa de ti lf md mn hi ha is_ ca : Int} {G : Nat → z_G4} (hwf : nWf Nw G) {li y wh : Int} (hli : z_in li) (hy9 : z_in y) (hwh : z_in wh) (hha : 0 ≤ ha ∧ ha ≤ 250) : z_D g mX9_would 25 0 0 [z_r (A 0), z_i li, z_i y, z_i wh] (MH h0 A Rf Nw Th Tp Tx Kd Ia It Lk Ho Sz Im Mv kp ln sz at_ we pa de ti lf md mn hi ha is_ ca) (fun rv h' => (isL Nw li ∧ (0 ≤ y ∧ y ≤ 60) ∧ 0 ≤ wh ∧ wh ≤ 2 → rv = some (z_i (wdV (wR Nw G li.toNat y) wh)) ∧ (∃ (Tx' Kd' Ia' It' Mv' : z_row) (sz' at_' we' pa' de' ti' lf' md' mn' hi' ha' is_' : Int), (0 ≤ ha' ∧ ha' ≤ 250) ∧ h' = (MH h0 A Rf Nw Th Tp Tx' Kd' Ia' It' Lk Ho Sz Im Mv' kp ln sz' at_' we' pa' de' ti' lf' md' mn' hi' ha' is_' ca))) ∧ (¬ (isL Nw li ∧ (0 ≤ y ∧ y ≤ 60) ∧ 0 ≤ wh ∧ wh ≤ 2) → rv = some (z_i (-92)) ∧ h' = (MH h0 A (z_sf Rf 0 (Rf 0 + 1)) Nw Th Tp Tx Kd Ia It Lk Ho Sz Im Mv kp ln sz at_ we pa de ti lf md mn hi ha is_ ca))) := by
  refine z_D.of (by decide +kernel) (Nat.le_of_ble_eq_true rfl) (fun X F => ?_)
  obtain ⟨w1, w2, w3, w4, w5, w6, w7⟩ := hwf
  show z_w g X cX9_would RX9 (25, 0, 0) 0 [z_r (A 0), z_i li, z_i y, z_i wh] [] (MH h0 A Rf Nw Th Tp Tx Kd Ia It Lk Ho Sz Im Mv kp ln sz at_ we pa de ti lf md mn hi ha is_ ca) 0 0
  refine z_aload_n dX9_would_0 rfl ?_
  refine z_iload_n dX9_would_1 rfl ?_
  refine cs_X9_124 dX9_would_2 (D_X9_isLine hM (i := li) ⟨by omega, by omega⟩ ⟨by omega, by omega⟩) MH_0 rfl rfl (Nat.le_of_ble_eq_true rfl) (by decide) (z_ki ?_)
  refine z_if_eq dX9_would_5 (tgt := 32) rfl ⟨by split <;> omega, by split <;> omega⟩ (fun c1 => ?_) (fun c1 => ?_)
  · skip
    refine z_aload_n dX9_would_32 rfl ?_
    refine z_bipush dX9_would_33 rfl ?_
    refine cs_X9_60 dX9_would_35 (D_X9_ref0 hM) MH_0 rfl rfl (Nat.le_of_ble_eq_true rfl) (by decide) (z_ki ?_)
    exact z_iret F dX9_would_38 rfl (by decide) ⟨fun q => absurd q (fun q => by omega), fun q => ⟨rfl, rfl⟩⟩
  · skip
    refine z_iload_n dX9_would_8 rfl ?_
    refine z_i2l dX9_would_9 ⟨by omega, by omega⟩ ?_
    refine z_lconst0 dX9_would_10 ?_
    refine z_ldc2 dX9_would_11 lw_X9_197 ?_
    refine cs_X9_56 dX9_would_14 (D_X9_isIn (v := y) (lo := 0) (hi := 60) ⟨by omega, by omega⟩ (by decide) (by decide)) rfl rfl (Nat.le_of_ble_eq_true rfl) (by decide) (z_ki ?_)
    refine z_if_eq dX9_would_17 (tgt := 32) rfl ⟨by split <;> omega, by split <;> omega⟩ (fun c2 => ?_) (fun c2 => ?_)
    · skip
      refine z_aload_n dX9_would_32 rfl ?_
      refine z_bipush dX9_would_33 rfl ?_
      refine cs_X9_60 dX9_would_35 (D_X9_ref0 hM) MH_0 rfl rfl (Nat.le_of_ble_eq_true rfl) (by decide) (z_ki ?_)
      exact z_iret F dX9_would_38 rfl (by decide) ⟨fun q => absurd q (fun q => by omega), fun q => ⟨rfl, rfl⟩⟩
    · skip
      refine z_iload_n dX9_would_20 rfl ?_
      refine z_i2l dX9_would_21 ⟨by omega, by omega⟩ ?_
      refine z_lconst0 dX9_would_22 ?_
      refine z_ldc2 dX9_would_23 lw_X9_202 ?_
      refine cs_X9_56 dX9_would_26 (D_X9_isIn (v := wh) (lo := 0) (hi := 2) ⟨by omega, by omega⟩ (by decide) (by decide)) rfl rfl (Nat.le_of_ble_eq_true rfl) (by decide) (z_ki ?_)
      refine z_if_ne dX9_would_29 (tgt := 39) rfl ⟨by split <;> omega, by split <;> omega⟩ (fun c3 => ?_) (fun c3 => ?_)
      · skip
        obtain ⟨i, rfl⟩ : ∃ y : Nat, li = (y : Int) := ⟨li.toNat, by omega⟩
        obtain ⟨⟨l1, l2⟩, l3, l4, -⟩ := w6 i (by omega)
        refine z_aload_n dX9_would_39 rfl ?_
        refine z_iload_n dX9_would_40 rfl ?_
        refine z_iload_n dX9_would_41 rfl ?_
        refine cs_X9_176 dX9_would_42 (D_X9_tries hM l1 (i := i) (by omega) l2 l3 l4 (y := y) (by omega) (by omega)) MH_0 rfl rfl (Nat.le_of_ble_eq_true rfl) (by decide) (fun rv h' hq => ?_)
        obtain ⟨rfl, at3, rfl⟩ := hq
        obtain ⟨B, hB⟩ : ∃ B, B = wkA (nF Nw i) (G i).1 (G i).2.1 (G i).2.2.1 (G i).2.2.2.1 (G i).2.2.2.2 (Kd, Ia, It, 0, y, 0, 0, ha, 0) := ⟨_, rfl⟩
        have hV : wkV 0 (wR Nw G i y) B := by rw [hB]; exact wkR_V
        have hBO : wkO B := by rw [hB]; exact wkA_O l1 l4 (wkI_O (by omega) (by omega))
        refine z_heq (congrArg _ hB.symm) ?_
        obtain ⟨f3, fp3, ft3, z3, l3, m3, hi3, pl3, wi3⟩ := B
        have hb3 : (0 ≤ z3 ∧ z3 ≤ 200) ∧ (0 ≤ l3 ∧ l3 ≤ 60) ∧ (0 ≤ m3 ∧ m3 ≤ 60) ∧ (0 ≤ hi3 ∧ hi3 ≤ 7) ∧ (0 ≤ pl3 ∧ pl3 ≤ 250) ∧ (0 ≤ wi3 ∧ wi3 ≤ 5) := ⟨hBO.1, hBO.2.1, hBO.2.2.1, hBO.2.2.2.1, hBO.2.2.2.2.1, hBO.2.2.2.2.2.1⟩
        have hvz : z3 = k_z (wR Nw G i y) := hV.2.1
        have hvl : l3 = k_l (wR Nw G i y) := hV.2.2.1
        have hvm : m3 = k_m (wR Nw G i y) := hV.2.2.2.1
        have hvh : hi3 = k_h (wR Nw G i y) := hV.2.2.2.2.1
        show z_w _ _ _ _ _ _ _ [] (MH h0 A Rf Nw Th Tp (cpT Nw (251 * i + 1) (nF Nw i) Tx) f3 fp3 ft3 Lk Ho Sz Im Mv kp ln (nF Nw i : Int) at3 1 pa de ti l3 m3 z3 hi3 pl3 wi3 ca) _ _
        refine z_aload_n dX9_would_45 rfl ?_
        refine gf_X9_132 dX9_would_46 MH_0 rfl ?_
        refine z_if_eq dX9_would_49 (tgt := 56) rfl ⟨by omega, by omega⟩ (fun c4 => ?_) (fun c4 => ?_)
        · skip
          have h0 : k_h (wR Nw G i y) = 0 := by omega
          refine z_iload_n dX9_would_56 rfl ?_
          refine z_if_ne dX9_would_57 (tgt := 67) rfl ⟨by omega, by omega⟩ (fun c5 => ?_) (fun c5 => ?_)
          · skip
            refine z_iload_n dX9_would_67 rfl ?_
            refine z_iconst dX9_would_68 ?_
            refine z_icmp_ne dX9_would_69 (tgt := 79) rfl ⟨by omega, by omega⟩ (by decide) (fun c6 => ?_) (fun c6 => ?_)
            · skip
              obtain ⟨mz, hmz⟩ : ∃ q : Nat, z3 = (q : Int) := ⟨z3.toNat, by omega⟩
              have hfa : ∀ j, j < mz → f3 j = k_f (wR Nw G i y) j := fun j hj => hV.2.2.2.2.2.1 j (by omega)
              have hko : ∀ j, j < mz → kOk (f3 j) := fun j hj => hBO.2.2.2.2.2.2 j (show (j : Int) < z3 by omega)
              subst hmz
              refine z_aload_n dX9_would_79 rfl ?_
              refine cs_X9_207 dX9_would_80 (D_X9_yarnTried hM (m := mz) (by omega) hko) MH_0 rfl rfl (Nat.le_of_ble_eq_true rfl) (by decide) (z_ki ?_)
              exact z_iret F dX9_would_83 rfl (by decide) ⟨fun q => ⟨congrArg (fun z => some (z_i z)) (by show _ = wdV (wR Nw G i y) wh; unfold wdV; rw [if_neg (fun q => q h0), if_neg (by omega), if_neg (by omega), ← hvz]; exact sG_ag _ hfa), _, _, _, _, _, _, _, _, _, _, _, _, _, _, _, _, _, by omega, rfl⟩, fun q => absurd (by omega) q⟩
            · skip
              refine z_aload_n dX9_would_72 rfl ?_
              refine gf_X9_157 dX9_would_73 MH_0 rfl ?_
              refine z_goto dX9_would_76 (tgt := 83) rfl ?_
              exact z_iret F dX9_would_83 rfl (by decide) ⟨fun q => ⟨congrArg (fun z => some (z_i z)) (by show _ = wdV (wR Nw G i y) wh; unfold wdV; rw [if_neg (fun q => q h0), if_neg (by omega), if_pos (by omega)]; exact hvz), _, _, _, _, _, _, _, _, _, _, _, _, _, _, _, _, _, by omega, rfl⟩, fun q => absurd (by omega) q⟩
          · skip
            refine z_aload_n dX9_would_60 rfl ?_
            refine gf_X9_151 dX9_would_61 MH_0 rfl ?_
            refine z_goto dX9_would_64 (tgt := 83) rfl ?_
            exact z_iret F dX9_would_83 rfl (by decide) ⟨fun q => ⟨congrArg (fun z => some (z_i z)) (by show _ = wdV (wR Nw G i y) wh; unfold wdV; rw [if_neg (fun q => q h0), if_pos (by omega)]; exact hvm), _, _, _, _, _, _, _, _, _, _, _, _, _, _, _, _, _, by omega, rfl⟩, fun q => absurd (by omega) q⟩
        · skip
          have h0 : ¬ k_h (wR Nw G i y) = 0 := by omega
          refine z_iconst dX9_would_52 ?_
          refine z_goto dX9_would_53 (tgt := 83) rfl ?_
          exact z_iret F dX9_would_83 rfl (by decide) ⟨fun q => ⟨congrArg (fun z => some (z_i z)) (by show _ = wdV (wR Nw G i y) wh; unfold wdV; rw [if_pos h0]), _, _, _, _, _, _, _, _, _, _, _, _, _, _, _, _, _, by omega, rfl⟩, fun q => absurd (by omega) q⟩
      · skip
        refine z_aload_n dX9_would_32 rfl ?_
        refine z_bipush dX9_would_33 rfl ?_
        refine cs_X9_60 dX9_would_35 (D_X9_ref0 hM) MH_0 rfl rfl (Nat.le_of_ble_eq_true rfl) (by decide) (z_ki ?_)
        exact z_iret F dX9_would_38 rfl (by decide) ⟨fun q => absurd q (fun q => by omega), fun q => ⟨rfl, rfl⟩⟩
set_option maxHeartbeats 4000000 in
set_option maxRecDepth 100000 in
theorem D_X9_hitch {g : z_G} {h0 : z_H} {A : Nat → Nat} (hM : mD A) {Rf Nw Th Tp Tx Kd Ia It Lk Ho Sz Im Mv : Nat → Int} {kp ln sz at_ we pa de ti lf md mn hi ha is_ ca : Int} {G : Nat → z_G4} (hwf : nWf Nw G) {li y : Int} (hli : z_in li) (hy9 : z_in y) (hha : 0 ≤ ha ∧ ha ≤ 250) : z_D g mX9_hitch 25 0 0 [z_r (A 0), z_i li, z_i y] (MH h0 A Rf Nw Th Tp Tx Kd Ia It Lk Ho Sz Im Mv kp ln sz at_ we pa de ti lf md mn hi ha is_ ca) (fun rv h' => (isL Nw li ∧ 0 ≤ y ∧ y ≤ 60 → rv = some (z_i (htV (wR Nw G li.toNat y))) ∧ (∃ (Tx' Kd' Ia' It' Mv' : z_row) (sz' at_' we' pa' de' ti' lf' md' mn' hi' ha' is_' : Int), (0 ≤ ha' ∧ ha' ≤ 250) ∧ h' = (MH h0 A Rf Nw Th Tp Tx' Kd' Ia' It' Lk Ho Sz Im Mv' kp ln sz' at_' we' pa' de' ti' lf' md' mn' hi' ha' is_' ca))) ∧ (¬ (isL Nw li ∧ 0 ≤ y ∧ y ≤ 60) → rv = some (z_i (-92)) ∧ h' = (MH h0 A (z_sf Rf 0 (Rf 0 + 1)) Nw Th Tp Tx Kd Ia It Lk Ho Sz Im Mv kp ln sz at_ we pa de ti lf md mn hi ha is_ ca))) := by
  refine z_D.of (by decide +kernel) (Nat.le_of_ble_eq_true rfl) (fun X F => ?_)
  obtain ⟨w1, w2, w3, w4, w5, w6, w7⟩ := hwf
  show z_w g X cX9_hitch RX9 (25, 0, 0) 0 [z_r (A 0), z_i li, z_i y] [] (MH h0 A Rf Nw Th Tp Tx Kd Ia It Lk Ho Sz Im Mv kp ln sz at_ we pa de ti lf md mn hi ha is_ ca) 0 0
  refine z_aload_n dX9_hitch_0 rfl ?_
  refine z_iload_n dX9_hitch_1 rfl ?_
  refine cs_X9_124 dX9_hitch_2 (D_X9_isLine hM (i := li) ⟨by omega, by omega⟩ ⟨by omega, by omega⟩) MH_0 rfl rfl (Nat.le_of_ble_eq_true rfl) (by decide) (z_ki ?_)
  refine z_if_eq dX9_hitch_5 (tgt := 20) rfl ⟨by split <;> omega, by split <;> omega⟩ (fun c1 => ?_) (fun c1 => ?_)
  · skip
    refine z_aload_n dX9_hitch_20 rfl ?_
    refine z_bipush dX9_hitch_21 rfl ?_
    refine cs_X9_60 dX9_hitch_23 (D_X9_ref0 hM) MH_0 rfl rfl (Nat.le_of_ble_eq_true rfl) (by decide) (z_ki ?_)
    exact z_iret F dX9_hitch_26 rfl (by decide) ⟨fun q => absurd q (fun q => by omega), fun q => ⟨rfl, rfl⟩⟩
  · skip
    refine z_iload_n dX9_hitch_8 rfl ?_
    refine z_i2l dX9_hitch_9 ⟨by omega, by omega⟩ ?_
    refine z_lconst0 dX9_hitch_10 ?_
    refine z_ldc2 dX9_hitch_11 lw_X9_197 ?_
    refine cs_X9_56 dX9_hitch_14 (D_X9_isIn (v := y) (lo := 0) (hi := 60) ⟨by omega, by omega⟩ (by decide) (by decide)) rfl rfl (Nat.le_of_ble_eq_true rfl) (by decide) (z_ki ?_)
    refine z_if_ne dX9_hitch_17 (tgt := 27) rfl ⟨by split <;> omega, by split <;> omega⟩ (fun c2 => ?_) (fun c2 => ?_)
    · skip
      obtain ⟨i, rfl⟩ : ∃ y : Nat, li = (y : Int) := ⟨li.toNat, by omega⟩
      obtain ⟨⟨l1, l2⟩, l3, l4, -⟩ := w6 i (by omega)
      refine z_aload_n dX9_hitch_27 rfl ?_
      refine z_iload_n dX9_hitch_28 rfl ?_
      refine z_iload_n dX9_hitch_29 rfl ?_
      refine cs_X9_176 dX9_hitch_30 (D_X9_tries hM l1 (i := i) (by omega) l2 l3 l4 (y := y) (by omega) (by omega)) MH_0 rfl rfl (Nat.le_of_ble_eq_true rfl) (by decide) (fun rv h' hq => ?_)
      obtain ⟨rfl, at3, rfl⟩ := hq
      obtain ⟨B, hB⟩ : ∃ B, B = wkA (nF Nw i) (G i).1 (G i).2.1 (G i).2.2.1 (G i).2.2.2.1 (G i).2.2.2.2 (Kd, Ia, It, 0, y, 0, 0, ha, 0) := ⟨_, rfl⟩
      have hV : wkV 0 (wR Nw G i y) B := by rw [hB]; exact wkR_V
      have hBO : wkO B := by rw [hB]; exact wkA_O l1 l4 (wkI_O (by omega) (by omega))
      refine z_heq (congrArg _ hB.symm) ?_
      obtain ⟨f3, fp3, ft3, z3, l3, m3, hi3, pl3, wi3⟩ := B
      have hb3 : (0 ≤ z3 ∧ z3 ≤ 200) ∧ (0 ≤ l3 ∧ l3 ≤ 60) ∧ (0 ≤ m3 ∧ m3 ≤ 60) ∧ (0 ≤ hi3 ∧ hi3 ≤ 7) ∧ (0 ≤ pl3 ∧ pl3 ≤ 250) ∧ (0 ≤ wi3 ∧ wi3 ≤ 5) := ⟨hBO.1, hBO.2.1, hBO.2.2.1, hBO.2.2.2.1, hBO.2.2.2.2.1, hBO.2.2.2.2.2.1⟩
      have hvz : z3 = k_z (wR Nw G i y) := hV.2.1
      have hvl : l3 = k_l (wR Nw G i y) := hV.2.2.1
      have hvm : m3 = k_m (wR Nw G i y) := hV.2.2.2.1
      have hvh : hi3 = k_h (wR Nw G i y) := hV.2.2.2.2.1
      show z_w _ _ _ _ _ _ _ [] (MH h0 A Rf Nw Th Tp (cpT Nw (251 * i + 1) (nF Nw i) Tx) f3 fp3 ft3 Lk Ho Sz Im Mv kp ln (nF Nw i : Int) at3 1 pa de ti l3 m3 z3 hi3 pl3 wi3 ca) _ _
      refine z_aload_n dX9_hitch_33 rfl ?_
      refine gf_X9_132 dX9_hitch_34 MH_0 rfl ?_
      refine z_if_ne dX9_hitch_37 (tgt := 44) rfl ⟨by omega, by omega⟩ (fun c3 => ?_) (fun c3 => ?_)
      · skip
        have h0 : ¬ k_h (wR Nw G i y) = 0 := by omega
        refine z_aload_n dX9_hitch_44 rfl ?_
        refine gf_X9_132 dX9_hitch_45 MH_0 rfl ?_
        exact z_iret F dX9_hitch_48 rfl (by decide) ⟨fun q => ⟨congrArg (fun z => some (z_i z)) (by show _ = htV (wR Nw G i y); unfold htV; first | rw [if_pos h0] | (rw [if_neg h0]; exact hvh)), _, _, _, _, _, _, _, _, _, _, _, _, _, _, _, _, _, by omega, rfl⟩, fun q => absurd (by omega) q⟩
      · skip
        have h0 : k_h (wR Nw G i y) = 0 := by omega
        refine z_iconst dX9_hitch_40 ?_
        refine z_goto dX9_hitch_41 (tgt := 48) rfl ?_
        exact z_iret F dX9_hitch_48 rfl (by decide) ⟨fun q => ⟨congrArg (fun z => some (z_i z)) (by show _ = htV (wR Nw G i y); unfold htV; first | rw [if_pos h0] | (rw [if_neg h0]; exact hvh)), _, _, _, _, _, _, _, _, _, _, _, _, _, _, _, _, _, by omega, rfl⟩, fun q => absurd (by omega) q⟩
    · skip
      refine z_aload_n dX9_hitch_20 rfl ?_
      refine z_bipush dX9_hitch_21 rfl ?_
      refine cs_X9_60 dX9_hitch_23 (D_X9_ref0 hM) MH_0 rfl rfl (Nat.le_of_ble_eq_true rfl) (by decide) (z_ki ?_)
      exact z_iret F dX9_hitch_26 rfl (by decide) ⟨fun q => absurd q (fun q => by omega), fun q => ⟨rfl, rfl⟩⟩
set_option maxHeartbeats 4000000 in
set_option maxRecDepth 100000 in
theorem D_X9_fits {g : z_G} {h0 : z_H} {A : Nat → Nat} (hM : mD A) {Rf Nw Th Tp Tx Kd Ia It Lk Ho Sz Im Mv : Nat → Int} {kp ln sz at_ we pa de ti lf md mn hi ha is_ ca : Int} {G : Nat → z_G4} (hwf : nWf Nw G) {li : Int} (hli : z_in li) (hha : 0 ≤ ha ∧ ha ≤ 250) : z_D g mX9_fits 25 0 0 [z_r (A 0), z_i li] (MH h0 A Rf Nw Th Tp Tx Kd Ia It Lk Ho Sz Im Mv kp ln sz at_ we pa de ti lf md mn hi ha is_ ca) (fun rv h' => (isL Nw li → (∃ v : Nat, rv = some (z_l (v : Int)) ∧ ∀ p, v.testBit p = true ↔ (p ≤ 60 ∧ k_h (wR Nw G li.toNat (p : Int)) = 0)) ∧ (∃ (Tx' Kd' Ia' It' Mv' : z_row) (sz' at_' we' pa' de' ti' lf' md' mn' hi' ha' is_' : Int), (0 ≤ ha' ∧ ha' ≤ 250) ∧ h' = (MH h0 A Rf Nw Th Tp Tx' Kd' Ia' It' Lk Ho Sz Im Mv' kp ln sz' at_' we' pa' de' ti' lf' md' mn' hi' ha' is_' ca))) ∧ (¬ (isL Nw li) → rv = some (z_l (-92 - 9000000000000000000)) ∧ h' = (MH h0 A (z_sf Rf 0 (Rf 0 + 1)) Nw Th Tp Tx Kd Ia It Lk Ho Sz Im Mv kp ln sz at_ we pa de ti lf md mn hi ha is_ ca))) := by
  refine z_D.of (by decide +kernel) (Nat.le_of_ble_eq_true rfl) (fun X F => ?_)
  obtain ⟨w1, w2, w3, w4, w5, w6, w7⟩ := hwf
  show z_w g X cX9_fits RX9 (25, 0, 0) 0 [z_r (A 0), z_i li, z_u, z_u, z_u] [] (MH h0 A Rf Nw Th Tp Tx Kd Ia It Lk Ho Sz Im Mv kp ln sz at_ we pa de ti lf md mn hi ha is_ ca) 0 0
  refine z_aload_n dX9_fits_0 rfl ?_
  refine z_iload_n dX9_fits_1 rfl ?_
  refine cs_X9_124 dX9_fits_2 (D_X9_isLine hM (i := li) ⟨by omega, by omega⟩ ⟨by omega, by omega⟩) MH_0 rfl rfl (Nat.le_of_ble_eq_true rfl) (by decide) (z_ki ?_)
  refine z_if_ne dX9_fits_5 (tgt := 20) rfl ⟨by split <;> omega, by split <;> omega⟩ (fun c1 => ?_) (fun c1 => ?_)
  · skip
    obtain ⟨i, rfl⟩ : ∃ y : Nat, li = (y : Int) := ⟨li.toNat, by omega⟩
    obtain ⟨⟨l1, l2⟩, l3, l4, -⟩ := w6 i (by omega)
    refine z_lconst0 dX9_fits_20 ?_
    refine z_lstore_n dX9_fits_21 (Nat.le_of_ble_eq_true rfl) rfl ?_
    refine z_iconst dX9_fits_22 ?_
    refine z_istore dX9_fits_23 (Nat.le_of_ble_eq_true rfl) rfl ?_
    refine z_lseq (ls2 := [z_r (A 0), z_i (i : Int), z_l ((0 : Nat) : Int), z_u, z_i ((0 : Nat) : Int)]) rfl ?_
    have L4 : ∀ (fu : Nat) (r v : Nat) (Tx7 Kd7 Ia7 It7 Mv7 : z_row) (sz7 at7 we7 pa7 de7 ti7 lf7 md7 mn7 hi7 ha7 is7 : Int) (q1 : r ≤ 61) (q2 : v < 2 ^ 61 ∧ ∀ p, v.testBit p = true ↔ (p < r ∧ k_h (wR Nw G i (p : Int)) = 0)) (q3 : 0 ≤ ha7 ∧ ha7 ≤ 250), 62 - r < fu → z_w g X cX9_fits RX9 (25, 0, 0) 25 [z_r (A 0), z_i (i : Int), z_l (v : Int), z_u, z_i (r : Int)] [] (MH h0 A Rf Nw Th Tp Tx7 Kd7 Ia7 It7 Lk Ho Sz Im Mv7 kp ln sz7 at7 we7 pa7 de7 ti7 lf7 md7 mn7 hi7 ha7 is7 ca) 0 0 := by
      intro fu
      induction fu with
      | zero => intro r v Tx7 Kd7 Ia7 It7 Mv7 sz7 at7 we7 pa7 de7 ti7 lf7 md7 mn7 hi7 ha7 is7 q1 q2 q3 hm; exact absurd hm (Nat.not_lt_zero _)
      | succ fu ih =>
        intro r v Tx7 Kd7 Ia7 It7 Mv7 sz7 at7 we7 pa7 de7 ti7 lf7 md7 mn7 hi7 ha7 is7 q1 q2 q3 hm
        refine z_iload dX9_fits_25 rfl ?_
        refine z_bipush dX9_fits_27 rfl ?_
        refine z_icmp_gt dX9_fits_29 (tgt := 63) rfl ⟨by omega, by omega⟩ (by decide) (fun c2 => ?_) (fun c2 => ?_)
        · skip
          refine z_lload_n dX9_fits_63 rfl ?_
          exact z_lret F dX9_fits_64 rfl (by decide) ⟨fun q => ⟨⟨v, rfl, fun p => (q2.2 p).trans ⟨fun h => ⟨by omega, h.2⟩, fun h => ⟨by omega, h.2⟩⟩⟩, _, _, _, _, _, _, _, _, _, _, _, _, _, _, _, _, _, q3, rfl⟩, fun q => absurd (by omega) q⟩
        · skip
          refine z_aload_n dX9_fits_32 rfl ?_
          refine z_iload_n dX9_fits_33 rfl ?_
          refine z_iload dX9_fits_34 rfl ?_
          refine cs_X9_176 dX9_fits_36 (D_X9_tries hM l1 (i := i) (by omega) l2 l3 l4 (y := (r : Int)) (by omega) (by omega)) MH_0 rfl rfl (Nat.le_of_ble_eq_true rfl) (by decide) (fun rv h' hq => ?_)
          obtain ⟨rfl, at3, rfl⟩ := hq
          obtain ⟨B, hB⟩ : ∃ B, B = wkA (nF Nw i) (G i).1 (G i).2.1 (G i).2.2.1 (G i).2.2.2.1 (G i).2.2.2.2 (Kd7, Ia7, It7, 0, (r : Int), 0, 0, ha7, 0) := ⟨_, rfl⟩
          have hV : wkV 0 (wR Nw G i (r : Int)) B := by rw [hB]; exact wkR_V
          have hBO : wkO B := by rw [hB]; exact wkA_O l1 l4 (wkI_O (by omega) (by omega))
          refine z_heq (congrArg _ hB.symm) ?_
          obtain ⟨f3, fp3, ft3, z3, l3, m3, hi3, pl3, wi3⟩ := B
          have hb3 : (0 ≤ z3 ∧ z3 ≤ 200) ∧ (0 ≤ l3 ∧ l3 ≤ 60) ∧ (0 ≤ m3 ∧ m3 ≤ 60) ∧ (0 ≤ hi3 ∧ hi3 ≤ 7) ∧ (0 ≤ pl3 ∧ pl3 ≤ 250) ∧ (0 ≤ wi3 ∧ wi3 ≤ 5) := ⟨hBO.1, hBO.2.1, hBO.2.2.1, hBO.2.2.2.1, hBO.2.2.2.2.1, hBO.2.2.2.2.2.1⟩
          have hvz : z3 = k_z (wR Nw G i (r : Int)) := hV.2.1
          have hvl : l3 = k_l (wR Nw G i (r : Int)) := hV.2.2.1
          have hvm : m3 = k_m (wR Nw G i (r : Int)) := hV.2.2.2.1
          have hvh : hi3 = k_h (wR Nw G i (r : Int)) := hV.2.2.2.2.1
          show z_w _ _ _ _ _ _ _ [] (MH h0 A Rf Nw Th Tp (cpT Nw (251 * i + 1) (nF Nw i) Tx7) f3 fp3 ft3 Lk Ho Sz Im Mv7 kp ln (nF Nw i : Int) at3 1 pa7 de7 ti7 l3 m3 z3 hi3 pl3 wi3 ca) _ _
          refine z_lload_n dX9_fits_39 rfl ?_
          refine z_aload_n dX9_fits_40 rfl ?_
          refine gf_X9_132 dX9_fits_41 MH_0 rfl ?_
          refine z_if_ne dX9_fits_44 (tgt := 54) rfl ⟨by omega, by omega⟩ (fun c3 => ?_) (fun c3 => ?_)
          · skip
            have h0 : ¬ k_h (wR Nw G i (r : Int)) = 0 := by omega
            refine z_lconst0 dX9_fits_54 ?_
            refine z_lor (a := v) (b := 0) (by have := q2.1; omega) (by decide) dX9_fits_55 ?_
            refine z_lstore_n dX9_fits_56 (Nat.le_of_ble_eq_true rfl) rfl ?_
            refine z_iinc dX9_fits_57 rfl rfl ?_
            refine z_goto dX9_fits_60 (tgt := 25) rfl ?_
            exact ih (r + 1) _ (cpT Nw (251 * i + 1) (nF Nw i) Tx7) f3 fp3 ft3 Mv7 (nF Nw i : Int) at3 1 pa7 de7 ti7 l3 m3 z3 hi3 pl3 wi3 (by omega) ⟨by rw [Nat.or_zero]; exact q2.1, fun p => by rw [Nat.or_zero, q2.2 p]; exact ⟨fun q => ⟨by omega, q.2⟩, fun q => ⟨(Nat.lt_or_ge p r).elim (fun c => c) (fun c => by obtain rfl : p = r := (by omega); exact absurd q.2 h0), q.2⟩⟩⟩ (by omega) (by omega)
          · skip
            have h0 : k_h (wR Nw G i (r : Int)) = 0 := by omega
            refine z_lconst1 dX9_fits_47 ?_
            refine z_iload dX9_fits_48 rfl ?_
            refine z_lshl (a := 1) (s := r) (by omega) dX9_fits_50 ?_
            refine z_goto dX9_fits_51 (tgt := 55) rfl ?_
            have hp : (1 * 2 ^ r : Nat) < 2 ^ 61 := by rw [Nat.one_mul]; exact Nat.pow_lt_pow_right (by decide) (by omega)
            refine z_lor (a := v) (b := (1 * 2 ^ r)) (by have := q2.1; omega) (by omega) dX9_fits_55 ?_
            refine z_lstore_n dX9_fits_56 (Nat.le_of_ble_eq_true rfl) rfl ?_
            refine z_iinc dX9_fits_57 rfl rfl ?_
            refine z_goto dX9_fits_60 (tgt := 25) rfl ?_
            exact ih (r + 1) _ (cpT Nw (251 * i + 1) (nF Nw i) Tx7) f3 fp3 ft3 Mv7 (nF Nw i : Int) at3 1 pa7 de7 ti7 l3 m3 z3 hi3 pl3 wi3 (by omega) ⟨Nat.or_lt_two_pow q2.1 hp, fun p => by rw [Nat.testBit_or, Nat.one_mul, Nat.testBit_two_pow, Bool.or_eq_true, q2.2 p, decide_eq_true_eq]; exact ⟨fun q => q.elim (fun q => ⟨by omega, q.2⟩) (fun q => by obtain rfl : r = p := q; exact ⟨by omega, h0⟩), fun q => (Nat.lt_or_ge p r).elim (fun c => Or.inl ⟨c, q.2⟩) (fun c => Or.inr (by omega))⟩⟩ (by omega) (by omega)
    exact L4 63 0 0 Tx Kd Ia It Mv sz at_ we pa de ti lf md mn hi ha is_ (by omega) ⟨by decide, fun p => tb_0.trans ⟨fun h => h.elim, fun h => by omega⟩⟩ (by omega) (by omega)
  · skip
    refine z_aload_n dX9_fits_8 rfl ?_
    refine z_bipush dX9_fits_9 rfl ?_
    refine cs_X9_60 dX9_fits_11 (D_X9_ref0 hM) MH_0 rfl rfl (Nat.le_of_ble_eq_true rfl) (by decide) (z_ki ?_)
    refine z_i2l dX9_fits_14 (by decide) ?_
    refine z_ldc2 dX9_fits_15 lw_X9_210 ?_
    refine z_lsub dX9_fits_18 ?_
    exact z_lret F dX9_fits_19 rfl (by decide) ⟨fun q => absurd q (fun q => by omega), fun q => ⟨rfl, rfl⟩⟩
set_option maxHeartbeats 4000000 in
set_option maxRecDepth 100000 in
theorem D_X9_least {g : z_G} {h0 : z_H} {A : Nat → Nat} (hM : mD A) {Rf Nw Th Tp Tx Kd Ia It Lk Ho Sz Im Mv : Nat → Int} {kp ln sz at_ we pa de ti lf md mn hi ha is_ ca : Int} {G : Nat → z_G4} (hwf : nWf Nw G) (hha : 0 ≤ ha ∧ ha ≤ 250) : z_D g mX9_least 25 0 0 [z_r (A 0)] (MH h0 A Rf Nw Th Tp Tx Kd Ia It Lk Ho Sz Im Mv kp ln sz at_ we pa de ti lf md mn hi ha is_ ca) (fun rv h' => rv = some (z_i (lsF Nw G (Nw 5020).toNat 61 0)) ∧ (∃ (Tx' Kd' Ia' It' Mv' : z_row) (sz' at_' we' pa' de' ti' lf' md' mn' hi' ha' is_' : Int), (0 ≤ ha' ∧ ha' ≤ 250) ∧ h' = (MH h0 A Rf Nw Th Tp Tx' Kd' Ia' It' Lk Ho Sz Im Mv' kp ln sz' at_' we' pa' de' ti' lf' md' mn' hi' ha' is_' ca))) := by
  refine z_D.of (by decide +kernel) (Nat.le_of_ble_eq_true rfl) (fun X F => ?_)
  obtain ⟨w1, w2, w3, w4, w5, w6, w7⟩ := hwf
  show z_w g X cX9_least RX9 (25, 0, 0) 0 [z_r (A 0), z_u, z_u, z_u] [] (MH h0 A Rf Nw Th Tp Tx Kd Ia It Lk Ho Sz Im Mv kp ln sz at_ we pa de ti lf md mn hi ha is_ ca) 0 0
  refine z_iconst dX9_least_0 ?_
  refine z_istore_n dX9_least_1 (Nat.le_of_ble_eq_true rfl) rfl ?_
  have L4 : ∀ (fu : Nat) (r rem : Nat) (y2 y3 : z_V) (Tx7 Kd7 Ia7 It7 Mv7 : z_row) (sz7 at7 we7 pa7 de7 ti7 lf7 md7 mn7 hi7 ha7 is7 : Int) (q1 : r + rem = 61) (q2 : lsF Nw G (Nw 5020).toNat 61 0 = lsF Nw G (Nw 5020).toNat rem r) (q3 : 0 ≤ ha7 ∧ ha7 ≤ 250), rem < fu → z_w g X cX9_least RX9 (25, 0, 0) 2 [z_r (A 0), z_i (r : Int), y2, y3] [] (MH h0 A Rf Nw Th Tp Tx7 Kd7 Ia7 It7 Lk Ho Sz Im Mv7 kp ln sz7 at7 we7 pa7 de7 ti7 lf7 md7 mn7 hi7 ha7 is7 ca) 0 0 := by
    intro fu
    induction fu with
    | zero => intro r rem y2 y3 Tx7 Kd7 Ia7 It7 Mv7 sz7 at7 we7 pa7 de7 ti7 lf7 md7 mn7 hi7 ha7 is7 q1 q2 q3 hm; exact absurd hm (Nat.not_lt_zero _)
    | succ fu ih =>
      intro r rem y2 y3 Tx7 Kd7 Ia7 It7 Mv7 sz7 at7 we7 pa7 de7 ti7 lf7 md7 mn7 hi7 ha7 is7 q1 q2 q3 hm
      refine z_iload_n dX9_least_2 rfl ?_
      refine z_bipush dX9_least_3 rfl ?_
      refine z_icmp_gt dX9_least_5 (tgt := 68) rfl ⟨by omega, by omega⟩ (by decide) (fun c1 => ?_) (fun c1 => ?_)
      · skip
        obtain rfl : rem = 0 := by omega
        refine z_iconst dX9_least_68 ?_
        exact z_iret F dX9_least_69 rfl (by decide) ⟨congrArg (fun z => some (z_i z)) (q2.symm), _, _, _, _, _, _, _, _, _, _, _, _, _, _, _, _, _, by omega, rfl⟩
      · skip
        obtain ⟨rem', rfl⟩ : ∃ y, rem = y + 1 := ⟨rem - 1, by omega⟩
        refine z_iload_n dX9_least_8 rfl ?_
        refine z_istore_n dX9_least_9 (Nat.le_of_ble_eq_true rfl) rfl ?_
        refine z_aload_n dX9_least_10 rfl ?_
        refine z_iconst dX9_least_11 ?_
        refine pf_X9_132 dX9_least_12 MH_0 (Nat.le_of_ble_eq_true rfl) ?_
        refine z_heq MHu_0 ?_
        refine z_iconst dX9_least_15 ?_
        refine z_istore_n dX9_least_16 (Nat.le_of_ble_eq_true rfl) rfl ?_
        have L5 : ∀ (fu : Nat) (k rm : Nat) (on : Int) (Tx8 Kd8 Ia8 It8 Mv8 : z_row) (sz8 at8 we8 pa8 de8 ti8 lf8 md8 mn8 hi8 ha8 is8 : Int) (p1 : (k : Int) + rm = Nw 5020) (p2 : 0 ≤ hi8 ∧ hi8 ≤ 7) (p3 : 0 ≤ on ∧ on ≤ 60) (p4 : (hi8 = 0 ∧ cbF Nw G (Nw 5020).toNat 0 (r : Int) = cbF Nw G rm k on) ∨ (¬ hi8 = 0 ∧ cbF Nw G (Nw 5020).toNat 0 (r : Int) = -1)) (p5 : 0 ≤ ha8 ∧ ha8 ≤ 250), rm < fu → z_w g X cX9_least RX9 (25, 0, 0) 17 [z_r (A 0), z_i (r : Int), z_i on, z_i (k : Int)] [] (MH h0 A Rf Nw Th Tp Tx8 Kd8 Ia8 It8 Lk Ho Sz Im Mv8 kp ln sz8 at8 we8 pa8 de8 ti8 lf8 md8 mn8 hi8 ha8 is8 ca) 0 0 := by
          intro fu
          induction fu with
          | zero => intro k rm on Tx8 Kd8 Ia8 It8 Mv8 sz8 at8 we8 pa8 de8 ti8 lf8 md8 mn8 hi8 ha8 is8 p1 p2 p3 p4 p5 hm; exact absurd hm (Nat.not_lt_zero _)
          | succ fu2 ih2 =>
            intro k rm on Tx8 Kd8 Ia8 It8 Mv8 sz8 at8 we8 pa8 de8 ti8 lf8 md8 mn8 hi8 ha8 is8 p1 p2 p3 p4 p5 hm
            refine z_iload_n dX9_least_17 rfl ?_
            refine z_aload_n dX9_least_18 rfl ?_
            refine gf_X9_13 dX9_least_19 MH_0 rfl ?_
            refine z_sipush dX9_least_22 rfl ?_
            refine z_ialdN (m := 5020) dX9_least_25 (MH_2 hM) rfl ⟨by decide, by decide⟩ ?_
            refine z_icmp_ge dX9_least_26 (tgt := 53) rfl ⟨by omega, by omega⟩ ⟨by omega, by omega⟩ (fun c2 => ?_) (fun c2 => ?_)
            · skip
              have hrm : rm = 0 := by omega
              refine z_aload_n dX9_least_53 rfl ?_
              refine gf_X9_132 dX9_least_54 MH_0 rfl ?_
              refine z_if_ne dX9_least_57 (tgt := 62) rfl ⟨by omega, by omega⟩ (fun c3 => ?_) (fun c3 => ?_)
              · skip
                have p6 := (p4.resolve_left (fun q => c3 q.1)).2
                have hE : lsF Nw G (Nw 5020).toNat (rem' + 1) r = lsF Nw G (Nw 5020).toNat rem' (r + 1) := if_neg (fun q => q p6)
                refine z_iinc dX9_least_62 rfl rfl ?_
                refine z_goto dX9_least_65 (tgt := 2) rfl ?_
                exact ih (r + 1) rem' _ _ Tx8 Kd8 Ia8 It8 Mv8 sz8 at8 we8 pa8 de8 ti8 lf8 md8 mn8 hi8 ha8 is8 (by omega) (q2.trans hE) (by omega) (by omega)
              · skip
                have p6 := (p4.resolve_right (fun q => q.1 c3)).2
                have p7 : ¬ cbF Nw G (Nw 5020).toNat 0 (r : Int) = -1 := by rw [p6]; obtain rfl : rm = 0 := hrm; show ¬ on = -1; omega
                have hE : lsF Nw G (Nw 5020).toNat (rem' + 1) r = (r : Int) := if_pos p7
                refine z_iload_n dX9_least_60 rfl ?_
                exact z_iret F dX9_least_61 rfl (by decide) ⟨congrArg (fun z => some (z_i z)) ((q2.trans hE).symm), _, _, _, _, _, _, _, _, _, _, _, _, _, _, _, _, _, by omega, rfl⟩
            · skip
              refine z_aload_n dX9_least_29 rfl ?_
              refine gf_X9_132 dX9_least_30 MH_0 rfl ?_
              refine z_if_ne dX9_least_33 (tgt := 53) rfl ⟨by omega, by omega⟩ (fun c4 => ?_) (fun c4 => ?_)
              · skip
                refine z_aload_n dX9_least_53 rfl ?_
                refine gf_X9_132 dX9_least_54 MH_0 rfl ?_
                refine z_if_ne dX9_least_57 (tgt := 62) rfl ⟨by omega, by omega⟩ (fun c5 => ?_) (fun c5 => ?_)
                · skip
                  have p6 := (p4.resolve_left (fun q => c5 q.1)).2
                  have hE : lsF Nw G (Nw 5020).toNat (rem' + 1) r = lsF Nw G (Nw 5020).toNat rem' (r + 1) := if_neg (fun q => q p6)
                  refine z_iinc dX9_least_62 rfl rfl ?_
                  refine z_goto dX9_least_65 (tgt := 2) rfl ?_
                  exact ih (r + 1) rem' _ _ Tx8 Kd8 Ia8 It8 Mv8 sz8 at8 we8 pa8 de8 ti8 lf8 md8 mn8 hi8 ha8 is8 (by omega) (q2.trans hE) (by omega) (by omega)
                · skip
                  exact absurd c5 (by omega)
              · skip
                obtain ⟨rm', rfl⟩ : ∃ y, rm = y + 1 := ⟨rm - 1, by omega⟩
                have p6 := (p4.resolve_right (fun q => q.1 c4)).2
                obtain ⟨⟨l1, l2⟩, l3, l4, -⟩ := w6 k (by omega)
                refine z_aload_n dX9_least_36 rfl ?_
                refine z_iload_n dX9_least_37 rfl ?_
                refine z_iload_n dX9_least_38 rfl ?_
                refine cs_X9_176 dX9_least_39 (D_X9_tries hM l1 (i := k) (by omega) l2 l3 l4 (y := on) (by omega) (by omega)) MH_0 rfl rfl (Nat.le_of_ble_eq_true rfl) (by decide) (fun rv h' hq => ?_)
                obtain ⟨rfl, at3, rfl⟩ := hq
                obtain ⟨B, hB⟩ : ∃ B, B = wkA (nF Nw k) (G k).1 (G k).2.1 (G k).2.2.1 (G k).2.2.2.1 (G k).2.2.2.2 (Kd8, Ia8, It8, 0, on, 0, 0, ha8, 0) := ⟨_, rfl⟩
                have hV : wkV 0 (wR Nw G k on) B := by rw [hB]; exact wkR_V
                have hBO : wkO B := by rw [hB]; exact wkA_O l1 l4 (wkI_O (by omega) (by omega))
                refine z_heq (congrArg _ hB.symm) ?_
                obtain ⟨f3, fp3, ft3, z3, l3, m3, hi3, pl3, wi3⟩ := B
                have hb3 : (0 ≤ z3 ∧ z3 ≤ 200) ∧ (0 ≤ l3 ∧ l3 ≤ 60) ∧ (0 ≤ m3 ∧ m3 ≤ 60) ∧ (0 ≤ hi3 ∧ hi3 ≤ 7) ∧ (0 ≤ pl3 ∧ pl3 ≤ 250) ∧ (0 ≤ wi3 ∧ wi3 ≤ 5) := ⟨hBO.1, hBO.2.1, hBO.2.2.1, hBO.2.2.2.1, hBO.2.2.2.2.1, hBO.2.2.2.2.2.1⟩
                have hvz : z3 = k_z (wR Nw G k on) := hV.2.1
                have hvl : l3 = k_l (wR Nw G k on) := hV.2.2.1
                have hvm : m3 = k_m (wR Nw G k on) := hV.2.2.2.1
                have hvh : hi3 = k_h (wR Nw G k on) := hV.2.2.2.2.1
                show z_w _ _ _ _ _ _ _ [] (MH h0 A Rf Nw Th Tp (cpT Nw (251 * k + 1) (nF Nw k) Tx8) f3 fp3 ft3 Lk Ho Sz Im Mv8 kp ln (nF Nw k : Int) at3 1 pa8 de8 ti8 l3 m3 z3 hi3 pl3 wi3 ca) _ _
                refine z_aload_n dX9_least_42 rfl ?_
                refine gf_X9_151 dX9_least_43 MH_0 rfl ?_
                refine z_istore_n dX9_least_46 (Nat.le_of_ble_eq_true rfl) rfl ?_
                refine z_iinc dX9_least_47 rfl rfl ?_
                refine z_goto dX9_least_50 (tgt := 17) rfl ?_
                exact ih2 (k + 1) rm' m3 (cpT Nw (251 * k + 1) (nF Nw k) Tx8) f3 fp3 ft3 Mv8 (nF Nw k : Int) at3 1 pa8 de8 ti8 l3 m3 z3 hi3 pl3 wi3 (by omega) (by omega) (by omega) (by by_cases h0 : hi3 = 0; exact Or.inl ⟨h0, p6.trans ((if_neg (fun q => q (by omega))).trans (by rw [hvm]))⟩; exact Or.inr ⟨h0, p6.trans (if_pos (by omega))⟩) (by omega) (by omega)
        exact L5 ((Nw 5020).toNat + 1) 0 (Nw 5020).toNat (r : Int) Tx7 Kd7 Ia7 It7 Mv7 sz7 at7 we7 pa7 de7 ti7 lf7 md7 mn7 0 ha7 is7 (by omega) (by omega) (by omega) (Or.inl ⟨rfl, rfl⟩) q3 (by omega)
  exact L4 62 0 61 z_u z_u Tx Kd Ia It Mv sz at_ we pa de ti lf md mn hi ha is_ (by omega) rfl hha (by omega)
