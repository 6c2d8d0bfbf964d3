/-! the reference: what it answers of its state -/
def zF (N : z_row) (w : Nat) : Nat := (N (5026 + 204 * w + 2)).toNat
def nF (N : z_row) (i : Nat) : Nat := (N (251 * i)).toNat
def tL (N : z_row) (i : Nat) : z_row := fun k => N (251 * i + 1 + k)
/-- a worked row as it must be -/
def nR (N : z_row) (w : Nat) : Prop := nW N w (zF N w) ∧ (N (5026 + 204 * w) = 0 ∨ N (5026 + 204 * w) = 1) ∧ z_in (N (5026 + 204 * w + 1)) ∧ sG kT (kR N w) (zF N w) = N (5026 + 204 * w + 3) ∧ sG kT (kR N w) (zF N w) ≤ 60 ∧ sG kM (kR N w) (zF N w) ≤ 60 ∧
  sG kM (kR N w) (zF N w) = (if (w : Int) + 1 = N 5025 then N 5023 else N (5026 + 204 * (w + 1) + 3))
noncomputable def rdZ (N : z_row) (i : Nat) : Bool × rdT := rdS (nF N i) (tL N i) (nF N i + 1) 0 (0, 0, 0, 0)
/-- a row that was read -/
def nL (N : z_row) (i : Nat) (G : z_G4) : Prop := (nF N i ≤ 250 ∧ N (251 * i) = (nF N i : Int)) ∧ (∀ k, k < nF N i → 0 ≤ tL N i k ∧ tL N i k ≤ 255) ∧ sgG (nF N i) (tL N i) G ∧ (rdZ N i).1 = true ∧ (rdZ N i).2.1 = nF N i ∧ (rdZ N i).2.2.1 = G.2.2.2.2
/-- the state as it must be -/
def nWf (N : z_row) (G : Nat → z_G4) : Prop := (0 ≤ N 5020 ∧ N 5020 ≤ 20) ∧ (N 5021 = 0 ∨ N 5021 = 1) ∧ (N 5022 = 0 ∨ N 5022 = 1) ∧ (0 ≤ N 5023 ∧ N 5023 ≤ 60) ∧ (0 ≤ N 5025 ∧ N 5025 ≤ 50) ∧ (∀ i : Nat, (i : Int) < N 5020 → nL N i (G i)) ∧ ∀ w : Nat, (w : Int) < N 5025 → nR N w
abbrev isL (N : z_row) (i : Int) : Prop := 0 ≤ i ∧ i < N 5020
abbrev isW (N : z_row) (w : Int) : Prop := 0 ≤ w ∧ w < N 5025
theorem D_X9_ref0 {g : z_G} {h0 : z_H} {A : Nat → Nat} (hM : mD A) {Rf Nw Th Tp Tx Kd Ia It Lk Ho Sz Im Mv : Nat → Int} {kp ln sz at_ we pa de ti lf md mn hi ha is_ ca : Int} : z_D g mX9_refuses 1 0 0 [z_r (A 0), z_i (-92)] (MH h0 A Rf Nw Th Tp Tx Kd Ia It Lk Ho Sz Im Mv kp ln sz at_ we pa de ti lf md mn hi ha is_ ca) (z_Pi (-92) (MH h0 A (z_sf Rf 0 (Rf 0 + 1)) Nw Th Tp Tx Kd Ia It Lk Ho Sz Im Mv kp ln sz at_ we pa de ti lf md mn hi ha is_ ca)) := D_X9_refuses (c := 0) hM (by decide)
theorem D_X9_ref1 {g : z_G} {h0 : z_H} {A : Nat → Nat} (hM : mD A) {Rf Nw Th Tp Tx Kd Ia It Lk Ho Sz Im Mv : Nat → Int} {kp ln sz at_ we pa de ti lf md mn hi ha is_ ca : Int} : z_D g mX9_refuses 1 0 0 [z_r (A 0), z_i (-93)] (MH h0 A Rf Nw Th Tp Tx Kd Ia It Lk Ho Sz Im Mv kp ln sz at_ we pa de ti lf md mn hi ha is_ ca) (z_Pi (-93) (MH h0 A (z_sf Rf 1 (Rf 1 + 1)) Nw Th Tp Tx Kd Ia It Lk Ho Sz Im Mv kp ln sz at_ we pa de ti lf md mn hi ha is_ ca)) := D_X9_refuses (c := 1) hM (by decide)
theorem D_X9_ref2 {g : z_G} {h0 : z_H} {A : Nat → Nat} (hM : mD A) {Rf Nw Th Tp Tx Kd Ia It Lk Ho Sz Im Mv : Nat → Int} {kp ln sz at_ we pa de ti lf md mn hi ha is_ ca : Int} : z_D g mX9_refuses 1 0 0 [z_r (A 0), z_i (-94)] (MH h0 A Rf Nw Th Tp Tx Kd Ia It Lk Ho Sz Im Mv kp ln sz at_ we pa de ti lf md mn hi ha is_ ca) (z_Pi (-94) (MH h0 A (z_sf Rf 2 (Rf 2 + 1)) Nw Th Tp Tx Kd Ia It Lk Ho Sz Im Mv kp ln sz at_ we pa de ti lf md mn hi ha is_ ca)) := D_X9_refuses (c := 2) hM (by decide)
theorem D_X9_ref3 {g : z_G} {h0 : z_H} {A : Nat → Nat} (hM : mD A) {Rf Nw Th Tp Tx Kd Ia It Lk Ho Sz Im Mv : Nat → Int} {kp ln sz at_ we pa de ti lf md mn hi ha is_ ca : Int} : z_D g mX9_refuses 1 0 0 [z_r (A 0), z_i (-95)] (MH h0 A Rf Nw Th Tp Tx Kd Ia It Lk Ho Sz Im Mv kp ln sz at_ we pa de ti lf md mn hi ha is_ ca) (z_Pi (-95) (MH h0 A (z_sf Rf 3 (Rf 3 + 1)) Nw Th Tp Tx Kd Ia It Lk Ho Sz Im Mv kp ln sz at_ we pa de ti lf md mn hi ha is_ ca)) := D_X9_refuses (c := 3) hM (by decide)
theorem D_X9_ref4 {g : z_G} {h0 : z_H} {A : Nat → Nat} (hM : mD A) {Rf Nw Th Tp Tx Kd Ia It Lk Ho Sz Im Mv : Nat → Int} {kp ln sz at_ we pa de ti lf md mn hi ha is_ ca : Int} : z_D g mX9_refuses 1 0 0 [z_r (A 0), z_i (-96)] (MH h0 A Rf Nw Th Tp Tx Kd Ia It Lk Ho Sz Im Mv kp ln sz at_ we pa de ti lf md mn hi ha is_ ca) (z_Pi (-96) (MH h0 A (z_sf Rf 4 (Rf 4 + 1)) Nw Th Tp Tx Kd Ia It Lk Ho Sz Im Mv kp ln sz at_ we pa de ti lf md mn hi ha is_ ca)) := D_X9_refuses (c := 4) hM (by decide)
set_option maxHeartbeats 4000000 in
set_option maxRecDepth 100000 in
theorem D_X9_text {g : z_G} {h0 : z_H} {A : Nat → Nat} (hM : mD A) {Rf Nw Th Tp Tx Kd Ia It Lk Ho Sz Im Mv : Nat → Int} {kp ln sz at_ we pa de ti lf md mn hi ha is_ ca : Int} {G : Nat → z_G4} (hwf : nWf Nw G) {li ki : Int} (hli : z_in li) (hki : z_in ki) : z_D g mX9_text 3 0 0 [z_r (A 0), z_i li, z_i ki] (MH h0 A Rf Nw Th Tp Tx Kd Ia It Lk Ho Sz Im Mv kp ln sz at_ we pa de ti lf md mn hi ha is_ ca) (fun rv h' => (isL Nw li → rv = some (z_i (if 0 ≤ ki ∧ ki < (nF Nw li.toNat : Int) then tL Nw li.toNat ki.toNat else -1)) ∧ h' = (MH h0 A Rf Nw Th Tp Tx Kd Ia It Lk Ho Sz Im Mv kp ln sz at_ we pa de ti lf md mn hi ha is_ ca)) ∧ (¬ (isL Nw li) → rv = some (z_i (-92)) ∧ h' = (MH h0 A (z_sf Rf 0 (Rf 0 + 1)) Nw Th Tp Tx Kd Ia It Lk Ho Sz Im Mv kp ln sz at_ we pa de ti lf md mn hi ha is_ ca))) := by
  refine z_D.of (by decide +kernel) (Nat.le_of_ble_eq_true rfl) (fun X F => ?_)
  show z_w g X cX9_text RX9 (3, 0, 0) 0 [z_r (A 0), z_i li, z_i ki] [] (MH h0 A Rf Nw Th Tp Tx Kd Ia It Lk Ho Sz Im Mv kp ln sz at_ we pa de ti lf md mn hi ha is_ ca) 0 0
  obtain ⟨w1, w2, w3, w4, w5, w6, w7⟩ := hwf
  refine z_aload_n dX9_text_0 rfl ?_
  refine z_iload_n dX9_text_1 rfl ?_
  refine cs_X9_124 dX9_text_2 (D_X9_isLine hM (i := li) ⟨by omega, by omega⟩ ⟨by omega, by omega⟩) MH_0 rfl rfl (Nat.le_of_ble_eq_true rfl) (by decide) (z_ki ?_)
  refine z_if_ne dX9_text_5 (tgt := 15) rfl ⟨by split <;> omega, by split <;> omega⟩ (fun c1 => ?_) (fun c1 => ?_)
  · skip
    obtain ⟨i, rfl⟩ : ∃ y : Nat, li = (y : Int) := ⟨li.toNat, by omega⟩
    obtain ⟨⟨l1, l2⟩, l3, -⟩ := w6 i (by omega)
    refine z_iload_n dX9_text_15 rfl ?_
    refine z_i2l dX9_text_16 ⟨by omega, by omega⟩ ?_
    refine z_lconst0 dX9_text_17 ?_
    refine z_aload_n dX9_text_18 rfl ?_
    refine gf_X9_13 dX9_text_19 MH_0 rfl ?_
    refine z_sipush dX9_text_22 rfl ?_
    refine z_iload_n dX9_text_25 rfl ?_
    refine z_imul dX9_text_26 ?_
    refine z_ialdN (m := (251 * i)) dX9_text_27 (MH_2 hM) (by omega) ⟨by omega, by omega⟩ ?_
    refine z_ieq (y := (nF Nw i : Int)) l2 ?_
    refine z_iconst dX9_text_28 ?_
    refine z_isub dX9_text_29 ?_
    refine z_i2l dX9_text_30 ⟨by omega, by omega⟩ ?_
    refine cs_X9_56 dX9_text_31 (D_X9_isIn (v := ki) (lo := 0) (hi := (nF Nw i : Int) - 1) ⟨by omega, by omega⟩ (by decide) ⟨by omega, by omega⟩) rfl rfl (Nat.le_of_ble_eq_true rfl) (by decide) (z_ki ?_)
    refine z_if_eq dX9_text_34 (tgt := 54) rfl ⟨by split <;> omega, by split <;> omega⟩ (fun c2 => ?_) (fun c2 => ?_)
    · skip
      refine z_iconst dX9_text_54 ?_
      exact z_iret F dX9_text_55 rfl (by decide) ⟨fun q => ⟨congrArg (fun z => some (z_i z)) (by first | exact (if_pos (show 0 ≤ (k : Int) ∧ (k : Int) < (nF Nw i : Int) by omega)).symm | exact (if_neg (show ¬ (0 ≤ ki ∧ ki < (nF Nw i : Int)) by omega)).symm), rfl⟩, fun q => absurd ⟨by omega, by omega⟩ q⟩
    · skip
      obtain ⟨k, rfl⟩ : ∃ y : Nat, ki = (y : Int) := ⟨ki.toNat, by omega⟩
      refine z_aload_n dX9_text_37 rfl ?_
      refine gf_X9_13 dX9_text_38 MH_0 rfl ?_
      refine z_sipush dX9_text_41 rfl ?_
      refine z_iload_n dX9_text_44 rfl ?_
      refine z_imul dX9_text_45 ?_
      refine z_iconst dX9_text_46 ?_
      refine z_iadd dX9_text_47 ?_
      refine z_iload_n dX9_text_48 rfl ?_
      refine z_iadd dX9_text_49 ?_
      refine z_ialdN (m := (251 * i + 1 + k)) dX9_text_50 (MH_2 hM) (by omega) ⟨by omega, by omega⟩ ?_
      refine z_goto dX9_text_51 (tgt := 55) rfl ?_
      exact z_iret F dX9_text_55 rfl (by decide) ⟨fun q => ⟨congrArg (fun z => some (z_i z)) (by first | exact (if_pos (show 0 ≤ (k : Int) ∧ (k : Int) < (nF Nw i : Int) by omega)).symm | exact (if_neg (show ¬ (0 ≤ ki ∧ ki < (nF Nw i : Int)) by omega)).symm), rfl⟩, fun q => absurd ⟨by omega, by omega⟩ q⟩
  · skip
    refine z_aload_n dX9_text_8 rfl ?_
    refine z_bipush dX9_text_9 rfl ?_
    refine cs_X9_60 dX9_text_11 (D_X9_ref0 hM) MH_0 rfl rfl (Nat.le_of_ble_eq_true rfl) (by decide) (z_ki ?_)
    exact z_iret F dX9_text_14 rfl (by decide) ⟨fun q => absurd q (fun q => by omega), fun q => ⟨rfl, rfl⟩⟩
noncomputable def loV (N : z_row) (i : Nat) (what : Int) : Int := if what = 0 then ((rdZ N i).2.2.1 : Int) else if what = 1 then ((rdZ N i).2.2.2.1 : Int) else if what = 2 then (nF N i : Int) else (rdZ N i).2.2.2.2
set_option maxHeartbeats 4000000 in
set_option maxRecDepth 100000 in
theorem D_X9_lineOf {g : z_G} {h0 : z_H} {A : Nat → Nat} (hM : mD A) {Rf Nw Th Tp Tx Kd Ia It Lk Ho Sz Im Mv : Nat → Int} {kp ln sz at_ we pa de ti lf md mn hi ha is_ ca : Int} {G : Nat → z_G4} (hwf : nWf Nw G) {li wh : Int} (hli : z_in li) (hwh : z_in wh) (hha : 0 ≤ ha ∧ ha ≤ 250) : z_D g mX9_lineOf 14 0 0 [z_r (A 0), z_i li, z_i wh] (MH h0 A Rf Nw Th Tp Tx Kd Ia It Lk Ho Sz Im Mv kp ln sz at_ we pa de ti lf md mn hi ha is_ ca) (fun rv h' => (isL Nw li ∧ 0 ≤ wh ∧ wh ≤ 3 → rv = some (z_i (loV Nw li.toNat wh)) ∧ (∃ (Tx' Kd' Ia' It' Mv' : z_row) (sz' at_' we' pa' de' ti' lf' md' mn' hi' ha' is_' : Int), (0 ≤ ha' ∧ ha' ≤ 250) ∧ h' = (MH h0 A Rf Nw Th Tp Tx' Kd' Ia' It' Lk Ho Sz Im Mv' kp ln sz' at_' we' pa' de' ti' lf' md' mn' hi' ha' is_' ca))) ∧ (¬ (isL Nw li ∧ 0 ≤ wh ∧ wh ≤ 3) → rv = some (z_i (-92)) ∧ h' = (MH h0 A (z_sf Rf 0 (Rf 0 + 1)) Nw Th Tp Tx Kd Ia It Lk Ho Sz Im Mv kp ln sz at_ we pa de ti lf md mn hi ha is_ ca))) := by
  refine z_D.of (by decide +kernel) (Nat.le_of_ble_eq_true rfl) (fun X F => ?_)
  show z_w g X cX9_lineOf RX9 (14, 0, 0) 0 [z_r (A 0), z_i li, z_i wh] [] (MH h0 A Rf Nw Th Tp Tx Kd Ia It Lk Ho Sz Im Mv kp ln sz at_ we pa de ti lf md mn hi ha is_ ca) 0 0
  obtain ⟨w1, w2, w3, w4, w5, w6, w7⟩ := hwf
  refine z_aload_n dX9_lineOf_0 rfl ?_
  refine z_iload_n dX9_lineOf_1 rfl ?_
  refine cs_X9_124 dX9_lineOf_2 (D_X9_isLine hM (i := li) ⟨by omega, by omega⟩ ⟨by omega, by omega⟩) MH_0 rfl rfl (Nat.le_of_ble_eq_true rfl) (by decide) (z_ki ?_)
  refine z_if_eq dX9_lineOf_5 (tgt := 20) rfl ⟨by split <;> omega, by split <;> omega⟩ (fun c1 => ?_) (fun c1 => ?_)
  · skip
    refine z_aload_n dX9_lineOf_20 rfl ?_
    refine z_bipush dX9_lineOf_21 rfl ?_
    refine cs_X9_60 dX9_lineOf_23 (D_X9_ref0 hM) MH_0 rfl rfl (Nat.le_of_ble_eq_true rfl) (by decide) (z_ki ?_)
    exact z_iret F dX9_lineOf_26 rfl (by decide) ⟨fun q => absurd q (fun q => by omega), fun q => ⟨rfl, rfl⟩⟩
  · skip
    refine z_iload_n dX9_lineOf_8 rfl ?_
    refine z_i2l dX9_lineOf_9 ⟨by omega, by omega⟩ ?_
    refine z_lconst0 dX9_lineOf_10 ?_
    refine z_ldc2 dX9_lineOf_11 lw_X9_127 ?_
    refine cs_X9_56 dX9_lineOf_14 (D_X9_isIn (v := wh) (lo := 0) (hi := 3) ⟨by omega, by omega⟩ (by decide) (by decide)) rfl rfl (Nat.le_of_ble_eq_true rfl) (by decide) (z_ki ?_)
    refine z_if_ne dX9_lineOf_17 (tgt := 27) rfl ⟨by split <;> omega, by split <;> omega⟩ (fun c2 => ?_) (fun c2 => ?_)
    · skip
      obtain ⟨i, rfl⟩ : ∃ y : Nat, li = (y : Int) := ⟨li.toNat, by omega⟩
      obtain ⟨⟨l1, l2⟩, l3, -⟩ := w6 i (by omega)
      refine z_aload_n dX9_lineOf_27 rfl ?_
      refine z_iload_n dX9_lineOf_28 rfl ?_
      refine cs_X9_129 dX9_lineOf_29 (D_X9_takesText hM l1 (i := i) (by omega) l2) MH_0 rfl rfl (Nat.le_of_ble_eq_true rfl) (by decide) (z_kv ?_)
      refine z_aload_n dX9_lineOf_32 rfl ?_
      refine cs_X9_121 dX9_lineOf_33 (D_X9_readsAll hM l1 (fun q hq => by rw [cpT_in hq]; exact l3 q hq)) MH_0 rfl rfl (Nat.le_of_ble_eq_true rfl) (by decide) (fun rv h' hq => ?_)
      obtain ⟨rfl, ok, j2, P2, d2, tl2, we2, hS, hB, rfl⟩ := hq
      have hS2 : rdZ Nw i = (ok, (j2, P2, d2, tl2)) := (rdS_tx (fun j hj => (cpT_in hj).symm) _ _ _).trans hS
      have htl : tl2 = 0 ∨ tl2 = 1 := by rcases hB with q | q <;> omega
      show z_w _ _ _ _ _ _ _ [] _ _ _
      refine z_iload_n dX9_lineOf_36 rfl ?_
      refine z_if_ne dX9_lineOf_37 (tgt := 47) rfl ⟨by omega, by omega⟩ (fun c3 => ?_) (fun c3 => ?_)
      · skip
        refine z_iload_n dX9_lineOf_47 rfl ?_
        refine z_iconst dX9_lineOf_48 ?_
        refine z_icmp_ne dX9_lineOf_49 (tgt := 59) rfl ⟨by omega, by omega⟩ (by decide) (fun c4 => ?_) (fun c4 => ?_)
        · skip
          refine z_iload_n dX9_lineOf_59 rfl ?_
          refine z_iconst dX9_lineOf_60 ?_
          refine z_icmp_ne dX9_lineOf_61 (tgt := 71) rfl ⟨by omega, by omega⟩ (by decide) (fun c5 => ?_) (fun c5 => ?_)
          · skip
            refine z_aload_n dX9_lineOf_71 rfl ?_
            refine gf_X9_108 dX9_lineOf_72 MH_0 rfl ?_
            refine z_if_eq dX9_lineOf_75 (tgt := 82) rfl ⟨by omega, by omega⟩ (fun c6 => ?_) (fun c6 => ?_)
            · skip
              refine z_iconst dX9_lineOf_82 ?_
              exact z_iret F dX9_lineOf_83 rfl (by decide) ⟨fun q => ⟨congrArg (fun z => some (z_i z)) (by show _ = loV Nw i wh; unfold loV; rw [hS2]; repeat (first | rw [if_pos (by omega)] | rw [if_neg (by omega)]); try (show _ = tl2; omega)), _, _, _, _, _, _, _, _, _, _, _, _, _, _, _, _, _, hha, rfl⟩, fun q => absurd (by omega) q⟩
            · skip
              refine z_iconst dX9_lineOf_78 ?_
              refine z_goto dX9_lineOf_79 (tgt := 83) rfl ?_
              exact z_iret F dX9_lineOf_83 rfl (by decide) ⟨fun q => ⟨congrArg (fun z => some (z_i z)) (by show _ = loV Nw i wh; unfold loV; rw [hS2]; repeat (first | rw [if_pos (by omega)] | rw [if_neg (by omega)]); try (show _ = tl2; omega)), _, _, _, _, _, _, _, _, _, _, _, _, _, _, _, _, _, hha, rfl⟩, fun q => absurd (by omega) q⟩
          · skip
            refine z_aload_n dX9_lineOf_64 rfl ?_
            refine gf_X9_70 dX9_lineOf_65 MH_0 rfl ?_
            refine z_goto dX9_lineOf_68 (tgt := 83) rfl ?_
            exact z_iret F dX9_lineOf_83 rfl (by decide) ⟨fun q => ⟨congrArg (fun z => some (z_i z)) (by show _ = loV Nw i wh; unfold loV; rw [hS2]; repeat (first | rw [if_pos (by omega)] | rw [if_neg (by omega)]); try (show _ = tl2; omega)), _, _, _, _, _, _, _, _, _, _, _, _, _, _, _, _, _, hha, rfl⟩, fun q => absurd (by omega) q⟩
        · skip
          refine z_aload_n dX9_lineOf_52 rfl ?_
          refine gf_X9_100 dX9_lineOf_53 MH_0 rfl ?_
          refine z_goto dX9_lineOf_56 (tgt := 83) rfl ?_
          exact z_iret F dX9_lineOf_83 rfl (by decide) ⟨fun q => ⟨congrArg (fun z => some (z_i z)) (by show _ = loV Nw i wh; unfold loV; rw [hS2]; repeat (first | rw [if_pos (by omega)] | rw [if_neg (by omega)]); try (show _ = tl2; omega)), _, _, _, _, _, _, _, _, _, _, _, _, _, _, _, _, _, hha, rfl⟩, fun q => absurd (by omega) q⟩
      · skip
        refine z_aload_n dX9_lineOf_40 rfl ?_
        refine gf_X9_97 dX9_lineOf_41 MH_0 rfl ?_
        refine z_goto dX9_lineOf_44 (tgt := 83) rfl ?_
        exact z_iret F dX9_lineOf_83 rfl (by decide) ⟨fun q => ⟨congrArg (fun z => some (z_i z)) (by show _ = loV Nw i wh; unfold loV; rw [hS2]; repeat (first | rw [if_pos (by omega)] | rw [if_neg (by omega)]); try (show _ = tl2; omega)), _, _, _, _, _, _, _, _, _, _, _, _, _, _, _, _, _, hha, rfl⟩, fun q => absurd (by omega) q⟩
    · skip
      refine z_aload_n dX9_lineOf_20 rfl ?_
      refine z_bipush dX9_lineOf_21 rfl ?_
      refine cs_X9_60 dX9_lineOf_23 (D_X9_ref0 hM) MH_0 rfl rfl (Nat.le_of_ble_eq_true rfl) (by decide) (z_ki ?_)
      exact z_iret F dX9_lineOf_26 rfl (by decide) ⟨fun q => absurd q (fun q => by omega), fun q => ⟨rfl, rfl⟩⟩
set_option maxHeartbeats 4000000 in
set_option maxRecDepth 100000 in
theorem D_X9_causes {g : z_G} {h0 : z_H} {A : Nat → Nat} (hM : mD A) {Rf Nw Th Tp Tx Kd Ia It Lk Ho Sz Im Mv : Nat → Int} {kp ln sz at_ we pa de ti lf md mn hi ha is_ ca : Int} : z_D g mX9_causes 1 0 0 [z_r (A 0)] (MH h0 A Rf Nw Th Tp Tx Kd Ia It Lk Ho Sz Im Mv kp ln sz at_ we pa de ti lf md mn hi ha is_ ca) (z_Pi ca (MH h0 A Rf Nw Th Tp Tx Kd Ia It Lk Ho Sz Im Mv kp ln sz at_ we pa de ti lf md mn hi ha is_ ca)) := by
  refine z_D.of (by decide +kernel) (Nat.le_of_ble_eq_true rfl) (fun X F => ?_)
  show z_w g X cX9_causes RX9 (1, 0, 0) 0 [z_r (A 0)] [] (MH h0 A Rf Nw Th Tp Tx Kd Ia It Lk Ho Sz Im Mv kp ln sz at_ we pa de ti lf md mn hi ha is_ ca) 0 0
  refine z_aload_n dX9_causes_0 rfl ?_
  refine gf_X9_180 dX9_causes_1 MH_0 rfl ?_
  exact z_iret F dX9_causes_4 rfl (by decide) ⟨congrArg (fun z => some (z_i z)) (by rfl), rfl⟩
set_option maxHeartbeats 4000000 in
set_option maxRecDepth 100000 in
theorem D_X9_why {g : z_G} {h0 : z_H} {A : Nat → Nat} (hM : mD A) {Rf Nw Th Tp Tx Kd Ia It Lk Ho Sz Im Mv : Nat → Int} {kp ln sz at_ we pa de ti lf md mn hi ha is_ ca : Int} (hca : 0 ≤ ca ∧ ca ≤ 10) {li wh : Int} (hli : z_in li) (hwh : z_in wh) : z_D g mX9_why 3 0 0 [z_r (A 0), z_i li, z_i wh] (MH h0 A Rf Nw Th Tp Tx Kd Ia It Lk Ho Sz Im Mv kp ln sz at_ we pa de ti lf md mn hi ha is_ ca) (fun rv h' => ((0 ≤ li ∧ li < ca) ∧ 0 ≤ wh ∧ wh ≤ 2 → rv = some (z_i (Lk (3 * li + wh).toNat)) ∧ h' = (MH h0 A Rf Nw Th Tp Tx Kd Ia It Lk Ho Sz Im Mv kp ln sz at_ we pa de ti lf md mn hi ha is_ ca)) ∧ (¬ ((0 ≤ li ∧ li < ca) ∧ 0 ≤ wh ∧ wh ≤ 2) → rv = some (z_i (-92)) ∧ h' = (MH h0 A (z_sf Rf 0 (Rf 0 + 1)) Nw Th Tp Tx Kd Ia It Lk Ho Sz Im Mv kp ln sz at_ we pa de ti lf md mn hi ha is_ ca))) := by
  refine z_D.of (by decide +kernel) (Nat.le_of_ble_eq_true rfl) (fun X F => ?_)
  show z_w g X cX9_why RX9 (3, 0, 0) 0 [z_r (A 0), z_i li, z_i wh] [] (MH h0 A Rf Nw Th Tp Tx Kd Ia It Lk Ho Sz Im Mv kp ln sz at_ we pa de ti lf md mn hi ha is_ ca) 0 0
  refine z_iload_n dX9_why_0 rfl ?_
  refine z_i2l dX9_why_1 ⟨by omega, by omega⟩ ?_
  refine z_lconst0 dX9_why_2 ?_
  refine z_aload_n dX9_why_3 rfl ?_
  refine gf_X9_180 dX9_why_4 MH_0 rfl ?_
  refine z_iconst dX9_why_7 ?_
  refine z_isub dX9_why_8 ?_
  refine z_i2l dX9_why_9 ⟨by omega, by omega⟩ ?_
  refine cs_X9_56 dX9_why_10 (D_X9_isIn (v := li) (lo := 0) (hi := ca - 1) ⟨by omega, by omega⟩ (by decide) ⟨by omega, by omega⟩) rfl rfl (Nat.le_of_ble_eq_true rfl) (by decide) (z_ki ?_)
  refine z_if_eq dX9_why_13 (tgt := 41) rfl ⟨by split <;> omega, by split <;> omega⟩ (fun c1 => ?_) (fun c1 => ?_)
  · skip
    refine z_aload_n dX9_why_41 rfl ?_
    refine z_bipush dX9_why_42 rfl ?_
    refine cs_X9_60 dX9_why_44 (D_X9_ref0 hM) MH_0 rfl rfl (Nat.le_of_ble_eq_true rfl) (by decide) (z_ki ?_)
    exact z_iret F dX9_why_47 rfl (by decide) ⟨fun q => absurd q (fun q => by omega), fun q => ⟨rfl, rfl⟩⟩
  · skip
    refine z_iload_n dX9_why_16 rfl ?_
    refine z_i2l dX9_why_17 ⟨by omega, by omega⟩ ?_
    refine z_lconst0 dX9_why_18 ?_
    refine z_ldc2 dX9_why_19 lw_X9_202 ?_
    refine cs_X9_56 dX9_why_22 (D_X9_isIn (v := wh) (lo := 0) (hi := 2) ⟨by omega, by omega⟩ (by decide) (by decide)) rfl rfl (Nat.le_of_ble_eq_true rfl) (by decide) (z_ki ?_)
    refine z_if_eq dX9_why_25 (tgt := 41) rfl ⟨by split <;> omega, by split <;> omega⟩ (fun c2 => ?_) (fun c2 => ?_)
    · skip
      refine z_aload_n dX9_why_41 rfl ?_
      refine z_bipush dX9_why_42 rfl ?_
      refine cs_X9_60 dX9_why_44 (D_X9_ref0 hM) MH_0 rfl rfl (Nat.le_of_ble_eq_true rfl) (by decide) (z_ki ?_)
      exact z_iret F dX9_why_47 rfl (by decide) ⟨fun q => absurd q (fun q => by omega), fun q => ⟨rfl, rfl⟩⟩
    · skip
      refine z_aload_n dX9_why_28 rfl ?_
      refine gf_X9_34 dX9_why_29 MH_0 rfl ?_
      refine z_iconst dX9_why_32 ?_
      refine z_iload_n dX9_why_33 rfl ?_
      refine z_imul dX9_why_34 ?_
      refine z_iload_n dX9_why_35 rfl ?_
      refine z_iadd dX9_why_36 ?_
      refine z_ialdN (m := (3 * li + wh).toNat) dX9_why_37 (MH_9 hM) (by omega) ⟨by omega, by omega⟩ ?_
      refine z_goto dX9_why_38 (tgt := 47) rfl ?_
      exact z_iret F dX9_why_47 rfl (by decide) ⟨fun q => ⟨congrArg (fun z => some (z_i z)) (rfl), rfl⟩, fun q => absurd ⟨by omega, by omega⟩ q⟩
def woV (N : z_row) (w : Nat) (what : Int) : Int := if what = 0 then N (5026 + 204 * w) else if what = 1 then (zF N w : Int) else if what = 5 then N (5026 + 204 * w + 1) else sG (if what = 2 then kT else if what = 3 then kM else kY) (kR N w) (zF N w)
set_option maxHeartbeats 4000000 in
set_option maxRecDepth 100000 in
theorem D_X9_workedOf {g : z_G} {h0 : z_H} {A : Nat → Nat} (hM : mD A) {Rf Nw Th Tp Tx Kd Ia It Lk Ho Sz Im Mv : Nat → Int} {kp ln sz at_ we pa de ti lf md mn hi ha is_ ca : Int} {G : Nat → z_G4} (hwf : nWf Nw G) {wk wh : Int} (hwk : z_in wk) (hwh : z_in wh) : z_D g mX9_workedOf 3 0 0 [z_r (A 0), z_i wk, z_i wh] (MH h0 A Rf Nw Th Tp Tx Kd Ia It Lk Ho Sz Im Mv kp ln sz at_ we pa de ti lf md mn hi ha is_ ca) (fun rv h' => (isW Nw wk ∧ 0 ≤ wh ∧ wh ≤ 5 → rv = some (z_i (woV Nw wk.toNat wh)) ∧ h' = (MH h0 A Rf Nw Th Tp Tx Kd Ia It Lk Ho Sz Im Mv kp ln sz at_ we pa de ti lf md mn hi ha is_ ca)) ∧ (¬ (isW Nw wk ∧ 0 ≤ wh ∧ wh ≤ 5) → rv = some (z_i (-92)) ∧ h' = (MH h0 A (z_sf Rf 0 (Rf 0 + 1)) Nw Th Tp Tx Kd Ia It Lk Ho Sz Im Mv kp ln sz at_ we pa de ti lf md mn hi ha is_ ca))) := by
  refine z_D.of (by decide +kernel) (Nat.le_of_ble_eq_true rfl) (fun X F => ?_)
  show z_w g X cX9_workedOf RX9 (3, 0, 0) 0 [z_r (A 0), z_i wk, z_i wh, z_u, z_u] [] (MH h0 A Rf Nw Th Tp Tx Kd Ia It Lk Ho Sz Im Mv kp ln sz at_ we pa de ti lf md mn hi ha is_ ca) 0 0
  obtain ⟨w1, w2, w3, w4, w5, w6, w7⟩ := hwf
  refine z_aload_n dX9_workedOf_0 rfl ?_
  refine z_iload_n dX9_workedOf_1 rfl ?_
  refine cs_X9_215 dX9_workedOf_2 (D_X9_isWorked hM (i := wk) ⟨by omega, by omega⟩ ⟨by omega, by omega⟩) MH_0 rfl rfl (Nat.le_of_ble_eq_true rfl) (by decide) (z_ki ?_)
  refine z_if_eq dX9_workedOf_5 (tgt := 20) rfl ⟨by split <;> omega, by split <;> omega⟩ (fun c1 => ?_) (fun c1 => ?_)
  · skip
    refine z_aload_n dX9_workedOf_20 rfl ?_
    refine z_bipush dX9_workedOf_21 rfl ?_
    refine cs_X9_60 dX9_workedOf_23 (D_X9_ref0 hM) MH_0 rfl rfl (Nat.le_of_ble_eq_true rfl) (by decide) (z_ki ?_)
    exact z_iret F dX9_workedOf_26 rfl (by decide) ⟨fun q => absurd q (fun q => by omega), fun q => ⟨rfl, rfl⟩⟩
  · skip
    refine z_iload_n dX9_workedOf_8 rfl ?_
    refine z_i2l dX9_workedOf_9 ⟨by omega, by omega⟩ ?_
    refine z_lconst0 dX9_workedOf_10 ?_
    refine z_ldc2 dX9_workedOf_11 lw_X9_218 ?_
    refine cs_X9_56 dX9_workedOf_14 (D_X9_isIn (v := wh) (lo := 0) (hi := 5) ⟨by omega, by omega⟩ (by decide) (by decide)) rfl rfl (Nat.le_of_ble_eq_true rfl) (by decide) (z_ki ?_)
    refine z_if_ne dX9_workedOf_17 (tgt := 27) rfl ⟨by split <;> omega, by split <;> omega⟩ (fun c2 => ?_) (fun c2 => ?_)
    · skip
      obtain ⟨w, rfl⟩ : ∃ y : Nat, wk = (y : Int) := ⟨wk.toNat, by omega⟩
      have hRw := w7 w (by omega)
      have hWw := hRw.1
      have hz200w := hWw.2.2.1
      have hw50w := hWw.1
      refine z_aload_n dX9_workedOf_27 rfl ?_
      refine z_iload_n dX9_workedOf_28 rfl ?_
      refine cs_X9_220 dX9_workedOf_29 (D_X9_sizeOf hM hWw) MH_0 rfl rfl (Nat.le_of_ble_eq_true rfl) (by decide) (z_ki ?_)
      refine z_istore_n dX9_workedOf_32 (Nat.le_of_ble_eq_true rfl) rfl ?_
      refine z_sipush dX9_workedOf_33 rfl ?_
      refine z_sipush dX9_workedOf_36 rfl ?_
      refine z_iload_n dX9_workedOf_39 rfl ?_
      refine z_imul dX9_workedOf_40 ?_
      refine z_iadd dX9_workedOf_41 ?_
      refine z_istore dX9_workedOf_42 (Nat.le_of_ble_eq_true rfl) rfl ?_
      refine z_iload_n dX9_workedOf_44 rfl ?_
      refine z_if_ne dX9_workedOf_45 (tgt := 58) rfl ⟨by omega, by omega⟩ (fun c3 => ?_) (fun c3 => ?_)
      · skip
        refine z_iload_n dX9_workedOf_58 rfl ?_
        refine z_iconst dX9_workedOf_59 ?_
        refine z_icmp_ne dX9_workedOf_60 (tgt := 67) rfl ⟨by omega, by omega⟩ (by decide) (fun c4 => ?_) (fun c4 => ?_)
        · skip
          refine z_iload_n dX9_workedOf_67 rfl ?_
          refine z_iconst dX9_workedOf_68 ?_
          refine z_icmp_ne dX9_workedOf_69 (tgt := 84) rfl ⟨by omega, by omega⟩ (by decide) (fun c5 => ?_) (fun c5 => ?_)
          · skip
            have hcnt := D_X9_counted (g := g) (h0 := h0) hM (Rf := Rf) (Nw := Nw) (Th := Th) (Tp := Tp) (Tx := Tx) (Kd := Kd) (Ia := Ia) (It := It) (Lk := Lk) (Ho := Ho) (Sz := Sz) (Im := Im) (Mv := Mv) (kp := kp) (ln := ln) (sz := sz) (at_ := at_) (we := we) (pa := pa) (de := de) (ti := ti) (lf := lf) (md := md) (mn := mn) (hi := hi) (ha := ha) (is_ := is_) (ca := ca) hWw (Nat.le_refl _) (what := wh - 2) (T := if wh = 2 then kT else if wh = 3 then kM else kY) (by rcases (show wh = 2 ∨ wh = 3 ∨ wh = 4 by omega) with rfl | rfl | rfl; exact Or.inl ⟨by decide, rfl⟩; exact Or.inr (Or.inl ⟨by decide, rfl⟩); exact Or.inr (Or.inr ⟨by decide, rfl⟩))
            refine z_aload_n dX9_workedOf_84 rfl ?_
            refine z_iload_n dX9_workedOf_85 rfl ?_
            refine z_iload_n dX9_workedOf_86 rfl ?_
            refine z_iload_n dX9_workedOf_87 rfl ?_
            refine z_iconst dX9_workedOf_88 ?_
            refine z_isub dX9_workedOf_89 ?_
            refine cs_X9_223 dX9_workedOf_90 hcnt MH_0 rfl rfl (Nat.le_of_ble_eq_true rfl) (by decide) (z_ki ?_)
            exact z_iret F dX9_workedOf_93 rfl (by decide) ⟨fun q => ⟨congrArg (fun z => some (z_i z)) (by show _ = woV Nw w wh; unfold woV; first | rw [if_pos (show wh = 0 by omega)] | rw [if_neg (show ¬ wh = 0 by omega), if_pos (show wh = 1 by omega)] | rw [if_neg (show ¬ wh = 0 by omega), if_neg (show ¬ wh = 1 by omega), if_pos (show wh = 5 by omega)] | rw [if_neg (show ¬ wh = 0 by omega), if_neg (show ¬ wh = 1 by omega), if_neg (show ¬ wh = 5 by omega)]), rfl⟩, fun q => absurd (by omega) q⟩
          · skip
            refine z_aload_n dX9_workedOf_72 rfl ?_
            refine gf_X9_13 dX9_workedOf_73 MH_0 rfl ?_
            refine z_iload dX9_workedOf_76 rfl ?_
            refine z_iconst dX9_workedOf_78 ?_
            refine z_iadd dX9_workedOf_79 ?_
            refine z_ialdN (m := (5026 + 204 * w + 1)) dX9_workedOf_80 (MH_2 hM) (by omega) ⟨by omega, by omega⟩ ?_
            refine z_goto dX9_workedOf_81 (tgt := 93) rfl ?_
            exact z_iret F dX9_workedOf_93 rfl (by decide) ⟨fun q => ⟨congrArg (fun z => some (z_i z)) (by show _ = woV Nw w wh; unfold woV; first | rw [if_pos (show wh = 0 by omega)] | rw [if_neg (show ¬ wh = 0 by omega), if_pos (show wh = 1 by omega)] | rw [if_neg (show ¬ wh = 0 by omega), if_neg (show ¬ wh = 1 by omega), if_pos (show wh = 5 by omega)] | rw [if_neg (show ¬ wh = 0 by omega), if_neg (show ¬ wh = 1 by omega), if_neg (show ¬ wh = 5 by omega)]), rfl⟩, fun q => absurd (by omega) q⟩
        · skip
          refine z_iload_n dX9_workedOf_63 rfl ?_
          refine z_goto dX9_workedOf_64 (tgt := 93) rfl ?_
          exact z_iret F dX9_workedOf_93 rfl (by decide) ⟨fun q => ⟨congrArg (fun z => some (z_i z)) (by show _ = woV Nw w wh; unfold woV; first | rw [if_pos (show wh = 0 by omega)] | rw [if_neg (show ¬ wh = 0 by omega), if_pos (show wh = 1 by omega)] | rw [if_neg (show ¬ wh = 0 by omega), if_neg (show ¬ wh = 1 by omega), if_pos (show wh = 5 by omega)] | rw [if_neg (show ¬ wh = 0 by omega), if_neg (show ¬ wh = 1 by omega), if_neg (show ¬ wh = 5 by omega)]), rfl⟩, fun q => absurd (by omega) q⟩
      · skip
        refine z_aload_n dX9_workedOf_48 rfl ?_
        refine gf_X9_13 dX9_workedOf_49 MH_0 rfl ?_
        refine z_iload dX9_workedOf_52 rfl ?_
        refine z_ialdN (m := (5026 + 204 * w)) dX9_workedOf_54 (MH_2 hM) (by omega) ⟨by omega, by omega⟩ ?_
        refine z_goto dX9_workedOf_55 (tgt := 93) rfl ?_
        exact z_iret F dX9_workedOf_93 rfl (by decide) ⟨fun q => ⟨congrArg (fun z => some (z_i z)) (by show _ = woV Nw w wh; unfold woV; first | rw [if_pos (show wh = 0 by omega)] | rw [if_neg (show ¬ wh = 0 by omega), if_pos (show wh = 1 by omega)] | rw [if_neg (show ¬ wh = 0 by omega), if_neg (show ¬ wh = 1 by omega), if_pos (show wh = 5 by omega)] | rw [if_neg (show ¬ wh = 0 by omega), if_neg (show ¬ wh = 1 by omega), if_neg (show ¬ wh = 5 by omega)]), rfl⟩, fun q => absurd (by omega) q⟩
    · skip
      refine z_aload_n dX9_workedOf_20 rfl ?_
      refine z_bipush dX9_workedOf_21 rfl ?_
      refine cs_X9_60 dX9_workedOf_23 (D_X9_ref0 hM) MH_0 rfl rfl (Nat.le_of_ble_eq_true rfl) (by decide) (z_ki ?_)
      exact z_iret F dX9_workedOf_26 rfl (by decide) ⟨fun q => absurd q (fun q => by omega), fun q => ⟨rfl, rfl⟩⟩
def stV (N : z_row) (w i : Nat) (what : Int) : Int := if what = 0 then kR N w i else sG (if what = 1 then kT else kM) (kR N w) i
set_option maxHeartbeats 4000000 in
set_option maxRecDepth 100000 in
theorem D_X9_stitch {g : z_G} {h0 : z_H} {A : Nat → Nat} (hM : mD A) {Rf Nw Th Tp Tx Kd Ia It Lk Ho Sz Im Mv : Nat → Int} {kp ln sz at_ we pa de ti lf md mn hi ha is_ ca : Int} {G : Nat → z_G4} (hwf : nWf Nw G) {wk st wh : Int} (hwk : z_in wk) (hst : z_in st) (hwh : z_in wh) : z_D g mX9_stitch 3 0 0 [z_r (A 0), z_i wk, z_i st, z_i wh] (MH h0 A Rf Nw Th Tp Tx Kd Ia It Lk Ho Sz Im Mv kp ln sz at_ we pa de ti lf md mn hi ha is_ ca) (fun rv h' => (isW Nw wk ∧ (0 ≤ st ∧ st < (zF Nw wk.toNat : Int)) ∧ 0 ≤ wh ∧ wh ≤ 2 → rv = some (z_i (stV Nw wk.toNat st.toNat wh)) ∧ h' = (MH h0 A Rf Nw Th Tp Tx Kd Ia It Lk Ho Sz Im Mv kp ln sz at_ we pa de ti lf md mn hi ha is_ ca)) ∧ (¬ (isW Nw wk ∧ (0 ≤ st ∧ st < (zF Nw wk.toNat : Int)) ∧ 0 ≤ wh ∧ wh ≤ 2) → rv = some (z_i (-92)) ∧ h' = (MH h0 A (z_sf Rf 0 (Rf 0 + 1)) Nw Th Tp Tx Kd Ia It Lk Ho Sz Im Mv kp ln sz at_ we pa de ti lf md mn hi ha is_ ca))) := by
  refine z_D.of (by decide +kernel) (Nat.le_of_ble_eq_true rfl) (fun X F => ?_)
  show z_w g X cX9_stitch RX9 (3, 0, 0) 0 [z_r (A 0), z_i wk, z_i st, z_i wh] [] (MH h0 A Rf Nw Th Tp Tx Kd Ia It Lk Ho Sz Im Mv kp ln sz at_ we pa de ti lf md mn hi ha is_ ca) 0 0
  obtain ⟨w1, w2, w3, w4, w5, w6, w7⟩ := hwf
  refine z_aload_n dX9_stitch_0 rfl ?_
  refine z_iload_n dX9_stitch_1 rfl ?_
  refine cs_X9_215 dX9_stitch_2 (D_X9_isWorked hM (i := wk) ⟨by omega, by omega⟩ ⟨by omega, by omega⟩) MH_0 rfl rfl (Nat.le_of_ble_eq_true rfl) (by decide) (z_ki ?_)
  refine z_if_eq dX9_stitch_5 (tgt := 37) rfl ⟨by split <;> omega, by split <;> omega⟩ (fun c1 => ?_) (fun c1 => ?_)
  · skip
    refine z_aload_n dX9_stitch_37 rfl ?_
    refine z_bipush dX9_stitch_38 rfl ?_
    refine cs_X9_60 dX9_stitch_40 (D_X9_ref0 hM) MH_0 rfl rfl (Nat.le_of_ble_eq_true rfl) (by decide) (z_ki ?_)
    exact z_iret F dX9_stitch_43 rfl (by decide) ⟨fun q => absurd q (fun q => by have q1 := q.1; have q2 := q.2.1; have q3 := q.2.2; first | omega | (rw [Int.toNat_natCast] at q2; omega)), fun q => ⟨rfl, rfl⟩⟩
  · skip
    obtain ⟨w, rfl⟩ : ∃ y : Nat, wk = (y : Int) := ⟨wk.toNat, by omega⟩
    have hRw := w7 w (by omega)
    have hWw := hRw.1
    have hz200w := hWw.2.2.1
    have hw50w := hWw.1
    refine z_iload_n dX9_stitch_8 rfl ?_
    refine z_i2l dX9_stitch_9 ⟨by omega, by omega⟩ ?_
    refine z_lconst0 dX9_stitch_10 ?_
    refine z_aload_n dX9_stitch_11 rfl ?_
    refine z_iload_n dX9_stitch_12 rfl ?_
    refine cs_X9_220 dX9_stitch_13 (D_X9_sizeOf hM hWw) MH_0 rfl rfl (Nat.le_of_ble_eq_true rfl) (by decide) (z_ki ?_)
    refine z_iconst dX9_stitch_16 ?_
    refine z_isub dX9_stitch_17 ?_
    refine z_i2l dX9_stitch_18 ⟨by omega, by omega⟩ ?_
    refine cs_X9_56 dX9_stitch_19 (D_X9_isIn (v := st) (lo := 0) (hi := (zF Nw w : Int) - 1) ⟨by omega, by omega⟩ (by decide) ⟨by omega, by omega⟩) rfl rfl (Nat.le_of_ble_eq_true rfl) (by decide) (z_ki ?_)
    refine z_if_eq dX9_stitch_22 (tgt := 37) rfl ⟨by split <;> omega, by split <;> omega⟩ (fun c2 => ?_) (fun c2 => ?_)
    · skip
      refine z_aload_n dX9_stitch_37 rfl ?_
      refine z_bipush dX9_stitch_38 rfl ?_
      refine cs_X9_60 dX9_stitch_40 (D_X9_ref0 hM) MH_0 rfl rfl (Nat.le_of_ble_eq_true rfl) (by decide) (z_ki ?_)
      exact z_iret F dX9_stitch_43 rfl (by decide) ⟨fun q => absurd q (fun q => by have q1 := q.1; have q2 := q.2.1; have q3 := q.2.2; first | omega | (rw [Int.toNat_natCast] at q2; omega)), fun q => ⟨rfl, rfl⟩⟩
    · skip
      refine z_iload_n dX9_stitch_25 rfl ?_
      refine z_i2l dX9_stitch_26 ⟨by omega, by omega⟩ ?_
      refine z_lconst0 dX9_stitch_27 ?_
      refine z_ldc2 dX9_stitch_28 lw_X9_202 ?_
      refine cs_X9_56 dX9_stitch_31 (D_X9_isIn (v := wh) (lo := 0) (hi := 2) ⟨by omega, by omega⟩ (by decide) (by decide)) rfl rfl (Nat.le_of_ble_eq_true rfl) (by decide) (z_ki ?_)
      refine z_if_ne dX9_stitch_34 (tgt := 44) rfl ⟨by split <;> omega, by split <;> omega⟩ (fun c3 => ?_) (fun c3 => ?_)
      · skip
        obtain ⟨i, rfl⟩ : ∃ y : Nat, st = (y : Int) := ⟨st.toNat, by omega⟩
        refine z_iload_n dX9_stitch_44 rfl ?_
        refine z_if_ne dX9_stitch_45 (tgt := 57) rfl ⟨by omega, by omega⟩ (fun c4 => ?_) (fun c4 => ?_)
        · skip
          have hcnt := D_X9_counted (g := g) (h0 := h0) hM (Rf := Rf) (Nw := Nw) (Th := Th) (Tp := Tp) (Tx := Tx) (Kd := Kd) (Ia := Ia) (It := It) (Lk := Lk) (Ho := Ho) (Sz := Sz) (Im := Im) (Mv := Mv) (kp := kp) (ln := ln) (sz := sz) (at_ := at_) (we := we) (pa := pa) (de := de) (ti := ti) (lf := lf) (md := md) (mn := mn) (hi := hi) (ha := ha) (is_ := is_) (ca := ca) hWw (m := i) (by omega) (what := wh - 1) (T := if wh = 1 then kT else kM) (by rcases (show wh = 1 ∨ wh = 2 by omega) with rfl | rfl; exact Or.inl ⟨by decide, rfl⟩; exact Or.inr (Or.inl ⟨by decide, rfl⟩))
          refine z_aload_n dX9_stitch_57 rfl ?_
          refine z_iload_n dX9_stitch_58 rfl ?_
          refine z_iload_n dX9_stitch_59 rfl ?_
          refine z_iload_n dX9_stitch_60 rfl ?_
          refine z_iconst dX9_stitch_61 ?_
          refine z_isub dX9_stitch_62 ?_
          refine cs_X9_223 dX9_stitch_63 hcnt MH_0 rfl rfl (Nat.le_of_ble_eq_true rfl) (by decide) (z_ki ?_)
          exact z_iret F dX9_stitch_66 rfl (by decide) ⟨fun q => ⟨congrArg (fun z => some (z_i z)) (by show _ = stV Nw w i wh; unfold stV; first | rw [if_pos (show wh = 0 by omega)] | rw [if_neg (show ¬ wh = 0 by omega)]), rfl⟩, fun q => absurd ⟨by omega, by rw [Int.toNat_natCast]; omega, by omega⟩ q⟩
        · skip
          refine z_aload_n dX9_stitch_48 rfl ?_
          refine z_iload_n dX9_stitch_49 rfl ?_
          refine z_iload_n dX9_stitch_50 rfl ?_
          refine cs_X9_212 dX9_stitch_51 (D_X9_kind hM hWw (i := i) (by omega)) MH_0 rfl rfl (Nat.le_of_ble_eq_true rfl) (by decide) (z_ki ?_)
          refine z_goto dX9_stitch_54 (tgt := 66) rfl ?_
          exact z_iret F dX9_stitch_66 rfl (by decide) ⟨fun q => ⟨congrArg (fun z => some (z_i z)) (by show _ = stV Nw w i wh; unfold stV; first | rw [if_pos (show wh = 0 by omega)] | rw [if_neg (show ¬ wh = 0 by omega)]), rfl⟩, fun q => absurd ⟨by omega, by rw [Int.toNat_natCast]; omega, by omega⟩ q⟩
      · skip
        refine z_aload_n dX9_stitch_37 rfl ?_
        refine z_bipush dX9_stitch_38 rfl ?_
        refine cs_X9_60 dX9_stitch_40 (D_X9_ref0 hM) MH_0 rfl rfl (Nat.le_of_ble_eq_true rfl) (by decide) (z_ki ?_)
        exact z_iret F dX9_stitch_43 rfl (by decide) ⟨fun q => absurd q (fun q => by have q1 := q.1; have q2 := q.2.1; have q3 := q.2.2; first | omega | (rw [Int.toNat_natCast] at q2; omega)), fun q => ⟨rfl, rfl⟩⟩
set_option maxHeartbeats 4000000 in
set_option maxRecDepth 100000 in
theorem D_X9_chart {g : z_G} {h0 : z_H} {A : Nat → Nat} (hM : mD A) {Rf Nw Th Tp Tx Kd Ia It Lk Ho Sz Im Mv : Nat → Int} {kp ln sz at_ we pa de ti lf md mn hi ha is_ ca : Int} {G : Nat → z_G4} (hwf : nWf Nw G) {wk st : Int} (hwk : z_in wk) (hst : z_in st) : z_D g mX9_chart 4 0 0 [z_r (A 0), z_i wk, z_i st] (MH h0 A Rf Nw Th Tp Tx Kd Ia It Lk Ho Sz Im Mv kp ln sz at_ we pa de ti lf md mn hi ha is_ ca) (fun rv h' => (isW Nw wk → rv = some (z_i (cH (Nw (5026 + 204 * wk.toNat)) (zF Nw wk.toNat : Int) (kR Nw wk.toNat) st)) ∧ h' = (MH h0 A Rf Nw Th Tp Tx Kd Ia It Lk Ho Sz Im Mv kp ln sz at_ we pa de ti lf md mn hi ha is_ ca)) ∧ (¬ (isW Nw wk) → rv = some (z_i (-92)) ∧ h' = (MH h0 A (z_sf Rf 0 (Rf 0 + 1)) Nw Th Tp Tx Kd Ia It Lk Ho Sz Im Mv kp ln sz at_ we pa de ti lf md mn hi ha is_ ca))) := by
  refine z_D.of (by decide +kernel) (Nat.le_of_ble_eq_true rfl) (fun X F => ?_)
  show z_w g X cX9_chart RX9 (4, 0, 0) 0 [z_r (A 0), z_i wk, z_i st] [] (MH h0 A Rf Nw Th Tp Tx Kd Ia It Lk Ho Sz Im Mv kp ln sz at_ we pa de ti lf md mn hi ha is_ ca) 0 0
  obtain ⟨w1, w2, w3, w4, w5, w6, w7⟩ := hwf
  refine z_aload_n dX9_chart_0 rfl ?_
  refine z_iload_n dX9_chart_1 rfl ?_
  refine cs_X9_215 dX9_chart_2 (D_X9_isWorked hM (i := wk) ⟨by omega, by omega⟩ ⟨by omega, by omega⟩) MH_0 rfl rfl (Nat.le_of_ble_eq_true rfl) (by decide) (z_ki ?_)
  refine z_if_eq dX9_chart_5 (tgt := 17) rfl ⟨by split <;> omega, by split <;> omega⟩ (fun c1 => ?_) (fun c1 => ?_)
  · skip
    refine z_aload_n dX9_chart_17 rfl ?_
    refine z_bipush dX9_chart_18 rfl ?_
    refine cs_X9_60 dX9_chart_20 (D_X9_ref0 hM) MH_0 rfl rfl (Nat.le_of_ble_eq_true rfl) (by decide) (z_ki ?_)
    exact z_iret F dX9_chart_23 rfl (by decide) ⟨fun q => absurd q (fun q => by omega), fun q => ⟨rfl, rfl⟩⟩
  · skip
    obtain ⟨w, rfl⟩ : ∃ y : Nat, wk = (y : Int) := ⟨wk.toNat, by omega⟩
    have hRw := w7 w (by omega)
    have hWw := hRw.1
    have hz200w := hWw.2.2.1
    have hw50w := hWw.1
    refine z_aload_n dX9_chart_8 rfl ?_
    refine z_iload_n dX9_chart_9 rfl ?_
    refine z_iload_n dX9_chart_10 rfl ?_
    refine cs_X9_230 dX9_chart_11 (D_X9_charted hM hWw (sd := Nw (5026 + 204 * w)) rfl (by have := hRw.2.1; exact ⟨by omega, by omega⟩) hst) MH_0 rfl rfl (Nat.le_of_ble_eq_true rfl) (by decide) (z_ki ?_)
    refine z_goto dX9_chart_14 (tgt := 23) rfl ?_
    exact z_iret F dX9_chart_23 rfl (by decide) ⟨fun q => ⟨congrArg (fun z => some (z_i z)) (rfl), rfl⟩, fun q => absurd (by omega) q⟩
set_option maxHeartbeats 4000000 in
set_option maxRecDepth 100000 in
theorem D_X9_mirrored {g : z_G} {h0 : z_H} {A : Nat → Nat} (hM : mD A) {Rf Nw Th Tp Tx Kd Ia It Lk Ho Sz Im Mv : Nat → Int} {kp ln sz at_ we pa de ti lf md mn hi ha is_ ca : Int} {G : Nat → z_G4} (hwf : nWf Nw G) {wk st : Int} (hwk : z_in wk) (hst : z_in st) : z_D g mX9_mirrored 4 0 0 [z_r (A 0), z_i wk, z_i st] (MH h0 A Rf Nw Th Tp Tx Kd Ia It Lk Ho Sz Im Mv kp ln sz at_ we pa de ti lf md mn hi ha is_ ca) (fun rv h' => (isW Nw wk → rv = some (z_i (mA (zF Nw wk.toNat : Int) (kR Nw wk.toNat) st)) ∧ h' = (MH h0 A Rf Nw Th Tp Tx Kd Ia It Lk Ho Sz Im Mv kp ln sz at_ we pa de ti lf md mn hi ha is_ ca)) ∧ (¬ (isW Nw wk) → rv = some (z_i (-92)) ∧ h' = (MH h0 A (z_sf Rf 0 (Rf 0 + 1)) Nw Th Tp Tx Kd Ia It Lk Ho Sz Im Mv kp ln sz at_ we pa de ti lf md mn hi ha is_ ca))) := by
  refine z_D.of (by decide +kernel) (Nat.le_of_ble_eq_true rfl) (fun X F => ?_)
  show z_w g X cX9_mirrored RX9 (4, 0, 0) 0 [z_r (A 0), z_i wk, z_i st] [] (MH h0 A Rf Nw Th Tp Tx Kd Ia It Lk Ho Sz Im Mv kp ln sz at_ we pa de ti lf md mn hi ha is_ ca) 0 0
  obtain ⟨w1, w2, w3, w4, w5, w6, w7⟩ := hwf
  refine z_aload_n dX9_mirrored_0 rfl ?_
  refine z_iload_n dX9_mirrored_1 rfl ?_
  refine cs_X9_215 dX9_mirrored_2 (D_X9_isWorked hM (i := wk) ⟨by omega, by omega⟩ ⟨by omega, by omega⟩) MH_0 rfl rfl (Nat.le_of_ble_eq_true rfl) (by decide) (z_ki ?_)
  refine z_if_eq dX9_mirrored_5 (tgt := 17) rfl ⟨by split <;> omega, by split <;> omega⟩ (fun c1 => ?_) (fun c1 => ?_)
  · skip
    refine z_aload_n dX9_mirrored_17 rfl ?_
    refine z_bipush dX9_mirrored_18 rfl ?_
    refine cs_X9_60 dX9_mirrored_20 (D_X9_ref0 hM) MH_0 rfl rfl (Nat.le_of_ble_eq_true rfl) (by decide) (z_ki ?_)
    exact z_iret F dX9_mirrored_23 rfl (by decide) ⟨fun q => absurd q (fun q => by omega), fun q => ⟨rfl, rfl⟩⟩
  · skip
    obtain ⟨w, rfl⟩ : ∃ y : Nat, wk = (y : Int) := ⟨wk.toNat, by omega⟩
    have hRw := w7 w (by omega)
    have hWw := hRw.1
    have hz200w := hWw.2.2.1
    have hw50w := hWw.1
    refine z_aload_n dX9_mirrored_8 rfl ?_
    refine z_iload_n dX9_mirrored_9 rfl ?_
    refine z_iload_n dX9_mirrored_10 rfl ?_
    refine cs_X9_236 dX9_mirrored_11 (D_X9_mirroredAt hM hWw hst) MH_0 rfl rfl (Nat.le_of_ble_eq_true rfl) (by decide) (z_ki ?_)
    refine z_goto dX9_mirrored_14 (tgt := 23) rfl ?_
    exact z_iret F dX9_mirrored_23 rfl (by decide) ⟨fun q => ⟨congrArg (fun z => some (z_i z)) (rfl), rfl⟩, fun q => absurd (by omega) q⟩
