/-! KnitReader: what is told of worked rows -/
theorem cH_ag {sd z : Int} {f u : z_row} {c : Int} (h : ∀ j : Nat, (j : Int) < z → u j = f j) : cH sd z u c = cH sd z f c := by
  unfold cH
  by_cases q : 0 ≤ c ∧ c < z
  · rw [if_pos q, if_pos q, h _ (by omega), h _ (by omega)]
  · rw [if_neg q, if_neg q]
theorem mA_ag {z : Int} {f u : z_row} {c : Int} (h : ∀ j : Nat, (j : Int) < z → u j = f j) : mA z u c = mA z f c := by
  unfold mA
  by_cases q : 0 ≤ c ∧ c < z
  · rw [if_pos q, if_pos q, h _ (by omega)]
  · rw [if_neg q, if_neg q]
theorem cAg_ag {z : Int} {f u : z_row} {m : Nat} (h : ∀ j : Nat, (j : Int) < z → u j = f j) : cAg z u m ↔ cAg z f m := by
  constructor
  · intro q j h1 h2
    rw [← h j h2, ← h (j - m) (by omega)]
    exact q j h1 h2
  · intro q j h1 h2
    rw [h j h2, h (j - m) (by omega)]
    exact q j h1 h2
theorem uF_ag {z : Int} {f u : z_row} (h : ∀ j : Nat, (j : Int) < z → u j = f j) : uF z u = uF z f := by
  have e : isU z u = isU z f := funext fun w => by
    have e1 : ∀ m, cAg z u m = cAg z f m := fun m => propext (cAg_ag h)
    unfold isU
    simp only [e1]
  unfold uF
  rw [e]
theorem ev_ag {z : Int} {f u : z_row} (h : ∀ j : Nat, (j : Int) < z → u j = f j) : bI (∀ j : Nat, (j : Int) < z → u j = mA z u j) = bI (∀ j : Nat, (j : Int) < z → f j = mA z f j) := by
  refine congrArg bI (propext ⟨fun q j hj => ?_, fun q j hj => ?_⟩)
  · rw [← h j hj, ← mA_ag h]; exact q j hj
  · rw [h j hj, mA_ag h]; exact q j hj
theorem rlG_ag {f u : z_row} {z k : Nat} (h : ∀ j, j < z → u j = f j) (hk : k < z) : ∀ w t, rlG u z k w t = rlG f z k w t := by
  intro w
  induction w with
  | zero => intro t; rfl
  | succ w ih =>
    intro t
    show (if k + t < z ∧ u (k + t) = u k then rlG u z k w (t + 1) else t) = (if k + t < z ∧ f (k + t) = f k then rlG f z k w (t + 1) else t)
    by_cases c : k + t < z
    · rw [h _ c, h _ hk, ih]
    · rw [if_neg (fun q => c q.1), if_neg (fun q => c q.1)]
theorem shG_ag {f u : z_row} {z : Nat} (h : ∀ j, j < z → u j = f j) : ∀ w k j, shG u z w k j = shG f z w k j := by
  intro w
  induction w with
  | zero => intro k j; rfl
  | succ w ih =>
    intro k j
    by_cases c : k < z
    · have e : rl u z k = rl f z k := rlG_ag h c _ _
      unfold shG
      rw [if_pos c, if_pos c, h k c, e, ih]
    · unfold shG
      rw [if_neg c, if_neg c]
theorem shV_ag {f u : z_row} {z : Nat} {i : Int} (h : ∀ j, j < z → u j = f j) : shV u z i = shV f z i := shG_ag h _ _ _
set_option maxHeartbeats 4000000 in
set_option maxRecDepth 100000 in
theorem D_X8_workedOf {g : z_G} {h : z_H} {ad : Nat → Nat} {Rf Nw Th Tp Lk Ho Sz Im : z_row} {kp : Int} {t ca : Nat} {G Gt : Nat → z_G4} (hI : aJ ad) (hw : cW h ad Rf Nw Th Tp Lk Ho Sz Im kp t ca G Gt) (hwf : nWf Nw G) {wk : Int} (hwk : z_in wk) {wh : Int} (hwh : z_in wh) : z_D g mX8_workedOf 4 0 0 [z_r (ad 0), z_i wk, z_i wh] h (fun rv h' => (isW Nw wk ∧ 0 ≤ wh ∧ wh ≤ 5 → rv = some (z_i (woV Nw wk.toNat wh)) ∧ h' = h) ∧ (¬ (isW Nw wk ∧ 0 ≤ wh ∧ wh ≤ 5) → rv = some (z_i (-92)) ∧ h' = rfH h ad Rf 0)) := by
  refine z_D.of (by decide +kernel) (Nat.le_of_ble_eq_true rfl) (fun X F => ?_)
  obtain ⟨⟨w0, w1, w2, w3⟩, wp, wc, ws, wn, wkk⟩ := id hw
  obtain ⟨Lf, lc, dc, nd, si, mo, se, sd, ln, zz, ff, hs, hL, hk9⟩ := wn
  obtain ⟨⟨rfl, rfl, rfl, rfl, rfl, rfl⟩, hcl, hln⟩ := hk9 trivial
  obtain ⟨e0, e1, e2, e3, b1, b2, b3, b4, b5⟩ := id hs
  obtain ⟨v1, v2, v3, v4, v5, v6, v7⟩ := id hwf
  show z_w g X cX8_workedOf RX8 (4, 0, 0) 0 [z_r (ad 0), z_i wk, z_i wh, z_u, z_u] [] h 0 0
  refine z_aload_n dX8_workedOf_0 rfl ?_
  refine gf_X8_10 dX8_workedOf_1 w0 rfl ?_
  refine z_iload_n dX8_workedOf_4 rfl ?_
  by_cases cd : isW Nw wk
  · skip
    refine cs_X8_92 dX8_workedOf_5 (D_X6_doneAt hs (i := wk) ⟨by omega, by omega⟩) e0 rfl rfl (Nat.le_of_ble_eq_true rfl) (by decide) (fun rv h' hq => ?_)
    obtain ⟨rfl, hq2⟩ := hq
    refine z_heq hq2 ?_
    obtain ⟨d0, d1, d2, d3⟩ := e3 wk.toNat (by omega)
    obtain ⟨hc1, hc2, hc3, hc4⟩ := hcl wk.toNat (by omega)
    obtain ⟨f1, f2, f3⟩ := hcl.f hwf (i := wk.toNat) (by omega)
    have hR := v7 wk.toNat (by omega)
    rw [hc1, hc2] at d0
    rw [f1] at d1 d3
    have st : oSt h (tN ad (4 + 3 * wk.toNat)) (tN ad (5 + 3 * wk.toNat)) (zF Nw wk.toNat : Int) (ff wk.toNat) := ⟨d1, d2, d3⟩
    rw [if_pos (show 0 ≤ wk ∧ wk < Nw 5025 from cd)]
    refine z_ks ?_
    refine z_astore_n dX8_workedOf_8 (Nat.le_of_ble_eq_true rfl) rfl ?_
    refine z_aload_n dX8_workedOf_9 rfl ?_
    refine z_ifnonnull dX8_workedOf_10 (tgt := 20) rfl (fun _ _ => ?_) (fun c1 => by cases c1)
    refine z_aload_n dX8_workedOf_20 rfl ?_
    refine gf_X8_96 dX8_workedOf_21 d0 rfl ?_
    refine z_astore dX8_workedOf_24 (Nat.le_of_ble_eq_true rfl) rfl ?_
    refine z_iload_n dX8_workedOf_26 rfl ?_
    by_cases c2_0 : wh = 0
    · refine z_tabIn dX8_workedOf_27 ⟨by omega, by omega⟩ (tgt := 64) (off := 37) (by omega) (by omega) (by rw [c2_0]; rfl) rfl ?_
      refine z_aload_n dX8_workedOf_64 rfl ?_
      refine gf_X8_242 dX8_workedOf_65 d0 rfl ?_
      exact z_iret F dX8_workedOf_68 rfl (by decide) ⟨fun q => ⟨congrArg (fun z => some (z_i z)) (by unfold woV; rw [if_pos (by omega)]), rfl⟩, fun q => absurd ⟨cd, by omega, by omega⟩ q⟩
    by_cases c2_1 : wh = 1
    · refine z_tabIn dX8_workedOf_27 ⟨by omega, by omega⟩ (tgt := 69) (off := 42) (by omega) (by omega) (by rw [c2_1]; rfl) rfl ?_
      refine z_aload dX8_workedOf_69 rfl ?_
      refine gf_X8_227 dX8_workedOf_71 d1 rfl ?_
      exact z_iret F dX8_workedOf_74 rfl (by decide) ⟨fun q => ⟨congrArg (fun z => some (z_i z)) (by unfold woV; rw [if_neg (by omega), if_pos (by omega)]), rfl⟩, fun q => absurd ⟨cd, by omega, by omega⟩ q⟩
    by_cases c2_2 : wh = 2
    · refine z_tabIn dX8_workedOf_27 ⟨by omega, by omega⟩ (tgt := 75) (off := 48) (by omega) (by omega) (by rw [c2_2]; rfl) rfl ?_
      refine z_aload dX8_workedOf_75 rfl ?_
      refine z_aload dX8_workedOf_77 rfl ?_
      refine gf_X8_227 dX8_workedOf_79 d1 rfl ?_
      refine cs_X8_243 dX8_workedOf_82 (D_X7_takenAhead st f2 (i := (zF Nw wk.toNat : Int)) ⟨by omega, by omega⟩) d1 rfl rfl (Nat.le_of_ble_eq_true rfl) (by decide) (z_ki ?_)
      exact z_iret F dX8_workedOf_85 rfl (by decide) ⟨fun q => ⟨congrArg (fun z => some (z_i z)) (by unfold woV; rw [if_neg (Int.lt_irrefl _)]; rw [if_neg (by omega), if_neg (by omega), if_neg (by omega), if_pos (by omega), Int.toNat_natCast]; exact f3 kT), rfl⟩, fun q => absurd ⟨cd, by omega, by omega⟩ q⟩
    by_cases c2_3 : wh = 3
    · refine z_tabIn dX8_workedOf_27 ⟨by omega, by omega⟩ (tgt := 86) (off := 59) (by omega) (by omega) (by rw [c2_3]; rfl) rfl ?_
      refine z_aload dX8_workedOf_86 rfl ?_
      refine z_aload dX8_workedOf_88 rfl ?_
      refine gf_X8_227 dX8_workedOf_90 d1 rfl ?_
      refine cs_X8_246 dX8_workedOf_93 (D_X7_madeAhead st f2 (i := (zF Nw wk.toNat : Int)) ⟨by omega, by omega⟩) d1 rfl rfl (Nat.le_of_ble_eq_true rfl) (by decide) (z_ki ?_)
      exact z_iret F dX8_workedOf_96 rfl (by decide) ⟨fun q => ⟨congrArg (fun z => some (z_i z)) (by unfold woV; rw [if_neg (Int.lt_irrefl _)]; rw [if_neg (by omega), if_neg (by omega), if_neg (by omega), if_neg (by omega), if_pos (by omega), Int.toNat_natCast]; exact f3 kM), rfl⟩, fun q => absurd ⟨cd, by omega, by omega⟩ q⟩
    by_cases c2_4 : wh = 4
    · refine z_tabIn dX8_workedOf_27 ⟨by omega, by omega⟩ (tgt := 97) (off := 70) (by omega) (by omega) (by rw [c2_4]; rfl) rfl ?_
      refine z_aload dX8_workedOf_97 rfl ?_
      refine cs_X8_229 dX8_workedOf_99 (D_X7_yarnUsed st f2) d1 rfl rfl (Nat.le_of_ble_eq_true rfl) (by decide) (z_ki ?_)
      exact z_iret F dX8_workedOf_102 rfl (by decide) ⟨fun q => ⟨congrArg (fun z => some (z_i z)) (by unfold woV; rw [if_neg (by omega), if_neg (by omega), if_neg (by omega), if_neg (by omega), if_neg (by omega), Int.toNat_natCast]; exact f3 kY), rfl⟩, fun q => absurd ⟨cd, by omega, by omega⟩ q⟩
    by_cases c2_5 : wh = 5
    · refine z_tabIn dX8_workedOf_27 ⟨by omega, by omega⟩ (tgt := 103) (off := 76) (by omega) (by omega) (by rw [c2_5]; rfl) rfl ?_
      refine z_aload_n dX8_workedOf_103 rfl ?_
      refine gf_X8_249 dX8_workedOf_104 d0 rfl ?_
      exact z_iret F dX8_workedOf_107 rfl (by decide) ⟨fun q => ⟨congrArg (fun z => some (z_i z)) (by unfold woV; rw [if_neg (by omega), if_neg (by omega), if_pos (by omega)]), rfl⟩, fun q => absurd ⟨cd, by omega, by omega⟩ q⟩
    refine z_tabOut dX8_workedOf_27 ⟨by omega, by omega⟩ (tgt := 108) (by omega) rfl ?_
    refine z_aload_n dX8_workedOf_108 rfl ?_
    refine z_bipush dX8_workedOf_109 rfl ?_
    refine cs_X8_55 dX8_workedOf_111 (D_X8_ref0 hI hw) w0 rfl rfl (Nat.le_of_ble_eq_true rfl) (by decide) (z_ki ?_)
    exact z_iret F dX8_workedOf_114 rfl (by decide) ⟨fun q => absurd q (fun q => by have := q.2; omega), fun q => ⟨rfl, rfl⟩⟩
  · skip
    refine cs_X8_92 dX8_workedOf_5 (D_X6_doneAt hs (i := wk) ⟨by omega, by omega⟩) e0 rfl rfl (Nat.le_of_ble_eq_true rfl) (by decide) (fun rv h' hq => ?_)
    obtain ⟨rfl, hq2⟩ := hq
    refine z_heq hq2 ?_
    rw [if_neg (show ¬ (0 ≤ wk ∧ wk < Nw 5025) from cd)]
    refine z_ks ?_
    refine z_astore_n dX8_workedOf_8 (Nat.le_of_ble_eq_true rfl) rfl ?_
    refine z_aload_n dX8_workedOf_9 rfl ?_
    refine z_ifnonnull dX8_workedOf_10 (tgt := 20) rfl (fun _ c3 => by cases c3) (fun _ => ?_)
    refine z_aload_n dX8_workedOf_13 rfl ?_
    refine z_bipush dX8_workedOf_14 rfl ?_
    refine cs_X8_55 dX8_workedOf_16 (D_X8_ref0 hI hw) w0 rfl rfl (Nat.le_of_ble_eq_true rfl) (by decide) (z_ki ?_)
    exact z_iret F dX8_workedOf_19 rfl (by decide) ⟨fun q => absurd q (fun q => cd q.1), fun q => ⟨rfl, rfl⟩⟩
set_option maxHeartbeats 4000000 in
set_option maxRecDepth 100000 in
theorem D_X8_stitch {g : z_G} {h : z_H} {ad : Nat → Nat} {Rf Nw Th Tp Lk Ho Sz Im : z_row} {kp : Int} {t ca : Nat} {G Gt : Nat → z_G4} (hI : aJ ad) (hw : cW h ad Rf Nw Th Tp Lk Ho Sz Im kp t ca G Gt) (hwf : nWf Nw G) {wk : Int} (hwk : z_in wk) {st9 wh : Int} (hst : z_in st9) (hwh : z_in wh) : z_D g mX8_stitch 4 0 0 [z_r (ad 0), z_i wk, z_i st9, z_i wh] h (fun rv h' => (isW Nw wk ∧ (0 ≤ st9 ∧ st9 < (zF Nw wk.toNat : Int)) ∧ 0 ≤ wh ∧ wh ≤ 2 → rv = some (z_i (stV Nw wk.toNat st9.toNat wh)) ∧ h' = h) ∧ (¬ (isW Nw wk ∧ (0 ≤ st9 ∧ st9 < (zF Nw wk.toNat : Int)) ∧ 0 ≤ wh ∧ wh ≤ 2) → rv = some (z_i (-92)) ∧ h' = rfH h ad Rf 0)) := by
  refine z_D.of (by decide +kernel) (Nat.le_of_ble_eq_true rfl) (fun X F => ?_)
  obtain ⟨⟨w0, w1, w2, w3⟩, wp, wc, ws, wn, wkk⟩ := id hw
  obtain ⟨Lf, lc, dc, nd, si, mo, se, sd, ln, zz, ff, hs, hL, hk9⟩ := wn
  obtain ⟨⟨rfl, rfl, rfl, rfl, rfl, rfl⟩, hcl, hln⟩ := hk9 trivial
  obtain ⟨e0, e1, e2, e3, b1, b2, b3, b4, b5⟩ := id hs
  obtain ⟨v1, v2, v3, v4, v5, v6, v7⟩ := id hwf
  show z_w g X cX8_stitch RX8 (4, 0, 0) 0 [z_r (ad 0), z_i wk, z_i st9, z_i wh, z_u] [] h 0 0
  refine z_aload_n dX8_stitch_0 rfl ?_
  refine gf_X8_10 dX8_stitch_1 w0 rfl ?_
  refine z_iload_n dX8_stitch_4 rfl ?_
  by_cases cd : isW Nw wk
  · skip
    refine cs_X8_92 dX8_stitch_5 (D_X6_doneAt hs (i := wk) ⟨by omega, by omega⟩) e0 rfl rfl (Nat.le_of_ble_eq_true rfl) (by decide) (fun rv h' hq => ?_)
    obtain ⟨rfl, hq2⟩ := hq
    refine z_heq hq2 ?_
    obtain ⟨d0, d1, d2, d3⟩ := e3 wk.toNat (by omega)
    obtain ⟨hc1, hc2, hc3, hc4⟩ := hcl wk.toNat (by omega)
    obtain ⟨f1, f2, f3⟩ := hcl.f hwf (i := wk.toNat) (by omega)
    have hR := v7 wk.toNat (by omega)
    rw [hc1, hc2] at d0
    rw [f1] at d1 d3
    have st : oSt h (tN ad (4 + 3 * wk.toNat)) (tN ad (5 + 3 * wk.toNat)) (zF Nw wk.toNat : Int) (ff wk.toNat) := ⟨d1, d2, d3⟩
    rw [if_pos (show 0 ≤ wk ∧ wk < Nw 5025 from cd)]
    refine z_ks ?_
    refine z_astore dX8_stitch_8 (Nat.le_of_ble_eq_true rfl) rfl ?_
    refine z_aload dX8_stitch_10 rfl ?_
    refine z_ifnull dX8_stitch_12 (tgt := 27) rfl (fun c1 => by cases c1) (fun _ _ => ?_)
    refine z_aload dX8_stitch_15 rfl ?_
    refine gf_X8_96 dX8_stitch_17 d0 rfl ?_
    refine z_iload_n dX8_stitch_20 rfl ?_
    refine cs_X8_102 dX8_stitch_21 (D_X7_hasPlace st hst) d1 rfl rfl (Nat.le_of_ble_eq_true rfl) (by decide) (z_ki ?_)
    refine z_if_ne dX8_stitch_24 (tgt := 34) rfl ⟨by split <;> omega, by split <;> omega⟩ (fun c2 => ?_) (fun c2 => ?_)
    · skip
      refine z_iload_n dX8_stitch_34 rfl ?_
      by_cases c3_0 : wh = 0
      · refine z_tabIn dX8_stitch_35 ⟨by omega, by omega⟩ (tgt := 60) (off := 25) (by omega) (by omega) (by rw [c3_0]; rfl) rfl ?_
        refine z_aload dX8_stitch_60 rfl ?_
        refine gf_X8_96 dX8_stitch_62 d0 rfl ?_
        refine z_iload_n dX8_stitch_65 rfl ?_
        refine cs_X8_107 dX8_stitch_66 (D_X7_kindAt st hst) d1 rfl rfl (Nat.le_of_ble_eq_true rfl) (by decide) (z_ki ?_)
        exact z_iret F dX8_stitch_69 rfl (by decide) ⟨fun q => ⟨congrArg (fun z => some (z_i z)) (by unfold stV; rw [if_pos (show wh = 0 by omega), if_pos (by omega)]; exact hc4 _ (by omega)), rfl⟩, fun q => absurd ⟨cd, by omega, by omega⟩ q⟩
      by_cases c3_1 : wh = 1
      · refine z_tabIn dX8_stitch_35 ⟨by omega, by omega⟩ (tgt := 70) (off := 35) (by omega) (by omega) (by rw [c3_1]; rfl) rfl ?_
        refine z_aload dX8_stitch_70 rfl ?_
        refine gf_X8_96 dX8_stitch_72 d0 rfl ?_
        refine z_iload_n dX8_stitch_75 rfl ?_
        refine cs_X8_243 dX8_stitch_76 (D_X7_takenAhead st f2 hst) d1 rfl rfl (Nat.le_of_ble_eq_true rfl) (by decide) (z_ki ?_)
        exact z_iret F dX8_stitch_79 rfl (by decide) ⟨fun q => ⟨congrArg (fun z => some (z_i z)) (by unfold stV; rw [if_neg (show ¬ wh = 0 by omega), if_pos (show wh = 1 by omega), if_pos (by omega)]; exact sG_ag _ (fun j hj => hc4 j (by omega))), rfl⟩, fun q => absurd ⟨cd, by omega, by omega⟩ q⟩
      by_cases c3_2 : wh = 2
      · refine z_tabIn dX8_stitch_35 ⟨by omega, by omega⟩ (tgt := 80) (off := 45) (by omega) (by omega) (by rw [c3_2]; rfl) rfl ?_
        refine z_aload dX8_stitch_80 rfl ?_
        refine gf_X8_96 dX8_stitch_82 d0 rfl ?_
        refine z_iload_n dX8_stitch_85 rfl ?_
        refine cs_X8_246 dX8_stitch_86 (D_X7_madeAhead st f2 hst) d1 rfl rfl (Nat.le_of_ble_eq_true rfl) (by decide) (z_ki ?_)
        exact z_iret F dX8_stitch_89 rfl (by decide) ⟨fun q => ⟨congrArg (fun z => some (z_i z)) (by unfold stV; rw [if_neg (show ¬ wh = 0 by omega), if_neg (show ¬ wh = 1 by omega), if_pos (by omega)]; exact sG_ag _ (fun j hj => hc4 j (by omega))), rfl⟩, fun q => absurd ⟨cd, by omega, by omega⟩ q⟩
      refine z_tabOut dX8_stitch_35 ⟨by omega, by omega⟩ (tgt := 90) (by omega) rfl ?_
      refine z_aload_n dX8_stitch_90 rfl ?_
      refine z_bipush dX8_stitch_91 rfl ?_
      refine cs_X8_55 dX8_stitch_93 (D_X8_ref0 hI hw) w0 rfl rfl (Nat.le_of_ble_eq_true rfl) (by decide) (z_ki ?_)
      exact z_iret F dX8_stitch_96 rfl (by decide) ⟨fun q => absurd q (fun q => by have h1 := q.2.1; have h2 := q.2.2; omega), fun q => ⟨rfl, rfl⟩⟩
    · skip
      refine z_aload_n dX8_stitch_27 rfl ?_
      refine z_bipush dX8_stitch_28 rfl ?_
      refine cs_X8_55 dX8_stitch_30 (D_X8_ref0 hI hw) w0 rfl rfl (Nat.le_of_ble_eq_true rfl) (by decide) (z_ki ?_)
      exact z_iret F dX8_stitch_33 rfl (by decide) ⟨fun q => absurd q (fun q => by have h1 := q.2.1; have h2 := q.2.2; omega), fun q => ⟨rfl, rfl⟩⟩
  · skip
    refine cs_X8_92 dX8_stitch_5 (D_X6_doneAt hs (i := wk) ⟨by omega, by omega⟩) e0 rfl rfl (Nat.le_of_ble_eq_true rfl) (by decide) (fun rv h' hq => ?_)
    obtain ⟨rfl, hq2⟩ := hq
    refine z_heq hq2 ?_
    rw [if_neg (show ¬ (0 ≤ wk ∧ wk < Nw 5025) from cd)]
    refine z_ks ?_
    refine z_astore dX8_stitch_8 (Nat.le_of_ble_eq_true rfl) rfl ?_
    refine z_aload dX8_stitch_10 rfl ?_
    refine z_ifnull dX8_stitch_12 (tgt := 27) rfl (fun _ => ?_) (fun _ c4 => by cases c4)
    refine z_aload_n dX8_stitch_27 rfl ?_
    refine z_bipush dX8_stitch_28 rfl ?_
    refine cs_X8_55 dX8_stitch_30 (D_X8_ref0 hI hw) w0 rfl rfl (Nat.le_of_ble_eq_true rfl) (by decide) (z_ki ?_)
    exact z_iret F dX8_stitch_33 rfl (by decide) ⟨fun q => absurd q (fun q => cd q.1), fun q => ⟨rfl, rfl⟩⟩
set_option maxHeartbeats 4000000 in
set_option maxRecDepth 100000 in
theorem D_X8_chart {g : z_G} {h : z_H} {ad : Nat → Nat} {Rf Nw Th Tp Lk Ho Sz Im : z_row} {kp : Int} {t ca : Nat} {G Gt : Nat → z_G4} (hI : aJ ad) (hw : cW h ad Rf Nw Th Tp Lk Ho Sz Im kp t ca G Gt) (hwf : nWf Nw G) {wk : Int} (hwk : z_in wk) {st9 : Int} (hst : z_in st9) : z_D g mX8_chart 4 0 0 [z_r (ad 0), z_i wk, z_i st9] h (fun rv h' => (isW Nw wk → rv = some (z_i (cH (Nw (5026 + 204 * wk.toNat)) (zF Nw wk.toNat : Int) (kR Nw wk.toNat) st9)) ∧ h' = h) ∧ (¬ (isW Nw wk) → rv = some (z_i (-92)) ∧ h' = rfH h ad Rf 0)) := by
  refine z_D.of (by decide +kernel) (Nat.le_of_ble_eq_true rfl) (fun X F => ?_)
  obtain ⟨⟨w0, w1, w2, w3⟩, wp, wc, ws, wn, wkk⟩ := id hw
  obtain ⟨Lf, lc, dc, nd, si, mo, se, sd, ln, zz, ff, hs, hL, hk9⟩ := wn
  obtain ⟨⟨rfl, rfl, rfl, rfl, rfl, rfl⟩, hcl, hln⟩ := hk9 trivial
  obtain ⟨e0, e1, e2, e3, b1, b2, b3, b4, b5⟩ := id hs
  obtain ⟨v1, v2, v3, v4, v5, v6, v7⟩ := id hwf
  show z_w g X cX8_chart RX8 (4, 0, 0) 0 [z_r (ad 0), z_i wk, z_i st9, z_u] [] h 0 0
  refine z_aload_n dX8_chart_0 rfl ?_
  refine gf_X8_10 dX8_chart_1 w0 rfl ?_
  refine z_iload_n dX8_chart_4 rfl ?_
  by_cases cd : isW Nw wk
  · skip
    refine cs_X8_92 dX8_chart_5 (D_X6_doneAt hs (i := wk) ⟨by omega, by omega⟩) e0 rfl rfl (Nat.le_of_ble_eq_true rfl) (by decide) (fun rv h' hq => ?_)
    obtain ⟨rfl, hq2⟩ := hq
    refine z_heq hq2 ?_
    obtain ⟨d0, d1, d2, d3⟩ := e3 wk.toNat (by omega)
    obtain ⟨hc1, hc2, hc3, hc4⟩ := hcl wk.toNat (by omega)
    obtain ⟨f1, f2, f3⟩ := hcl.f hwf (i := wk.toNat) (by omega)
    have hR := v7 wk.toNat (by omega)
    rw [hc1, hc2] at d0
    rw [f1] at d1 d3
    have st : oSt h (tN ad (4 + 3 * wk.toNat)) (tN ad (5 + 3 * wk.toNat)) (zF Nw wk.toNat : Int) (ff wk.toNat) := ⟨d1, d2, d3⟩
    rw [if_pos (show 0 ≤ wk ∧ wk < Nw 5025 from cd)]
    refine z_ks ?_
    refine z_astore_n dX8_chart_8 (Nat.le_of_ble_eq_true rfl) rfl ?_
    refine z_aload_n dX8_chart_9 rfl ?_
    refine z_ifnonnull dX8_chart_10 (tgt := 22) rfl (fun _ _ => ?_) (fun c1 => by cases c1)
    refine z_aload_n dX8_chart_22 rfl ?_
    refine z_iload_n dX8_chart_23 rfl ?_
    refine cs_X8_252 dX8_chart_24 (D_X1_chartAt (h := h) (d := tN ad (3 + 3 * wk.toNat)) (a := tN ad (4 + 3 * wk.toNat)) (k := tN ad (5 + 3 * wk.toNat)) (sd := Nw (5026 + 204 * wk.toNat)) (ln := Nw (5026 + 204 * wk.toNat + 1)) ⟨d0, st⟩ f2 (by have := hR.2.1; exact ⟨by omega, by omega⟩) hst) d0 rfl rfl (Nat.le_of_ble_eq_true rfl) (by decide) (z_ki ?_)
    exact z_iret F dX8_chart_27 rfl (by decide) ⟨fun q => ⟨congrArg (fun z => some (z_i z)) (cH_ag (fun j hj => hc4 j (by omega))), rfl⟩, fun q => absurd cd q⟩
  · skip
    refine cs_X8_92 dX8_chart_5 (D_X6_doneAt hs (i := wk) ⟨by omega, by omega⟩) e0 rfl rfl (Nat.le_of_ble_eq_true rfl) (by decide) (fun rv h' hq => ?_)
    obtain ⟨rfl, hq2⟩ := hq
    refine z_heq hq2 ?_
    rw [if_neg (show ¬ (0 ≤ wk ∧ wk < Nw 5025) from cd)]
    refine z_ks ?_
    refine z_astore_n dX8_chart_8 (Nat.le_of_ble_eq_true rfl) rfl ?_
    refine z_aload_n dX8_chart_9 rfl ?_
    refine z_ifnonnull dX8_chart_10 (tgt := 22) rfl (fun _ c2 => by cases c2) (fun _ => ?_)
    refine z_aload_n dX8_chart_13 rfl ?_
    refine z_bipush dX8_chart_14 rfl ?_
    refine cs_X8_55 dX8_chart_16 (D_X8_ref0 hI hw) w0 rfl rfl (Nat.le_of_ble_eq_true rfl) (by decide) (z_ki ?_)
    refine z_goto dX8_chart_19 (tgt := 27) rfl ?_
    exact z_iret F dX8_chart_27 rfl (by decide) ⟨fun q => absurd q (cd), fun q => ⟨rfl, rfl⟩⟩
set_option maxHeartbeats 4000000 in
set_option maxRecDepth 100000 in
theorem D_X8_shorthand {g : z_G} {h : z_H} {ad : Nat → Nat} {Rf Nw Th Tp Lk Ho Sz Im : z_row} {kp : Int} {t ca : Nat} {G Gt : Nat → z_G4} (hI : aJ ad) (hw : cW h ad Rf Nw Th Tp Lk Ho Sz Im kp t ca G Gt) (hwf : nWf Nw G) {wk : Int} (hwk : z_in wk) {st9 : Int} (hst : z_in st9) : z_D g mX8_shorthand 7 0 0 [z_r (ad 0), z_i wk, z_i st9] h (fun rv h' => (isW Nw wk → rv = some (z_i (shV (kR Nw wk.toNat) (zF Nw wk.toNat) st9)) ∧ h' = h) ∧ (¬ (isW Nw wk) → rv = some (z_i (-92)) ∧ h' = rfH h ad Rf 0)) := by
  refine z_D.of (by decide +kernel) (Nat.le_of_ble_eq_true rfl) (fun X F => ?_)
  obtain ⟨⟨w0, w1, w2, w3⟩, wp, wc, ws, wn, wkk⟩ := id hw
  obtain ⟨Lf, lc, dc, nd, si, mo, se, sd, ln, zz, ff, hs, hL, hk9⟩ := wn
  obtain ⟨⟨rfl, rfl, rfl, rfl, rfl, rfl⟩, hcl, hln⟩ := hk9 trivial
  obtain ⟨e0, e1, e2, e3, b1, b2, b3, b4, b5⟩ := id hs
  obtain ⟨v1, v2, v3, v4, v5, v6, v7⟩ := id hwf
  show z_w g X cX8_shorthand RX8 (7, 0, 0) 0 [z_r (ad 0), z_i wk, z_i st9, z_u] [] h 0 0
  refine z_aload_n dX8_shorthand_0 rfl ?_
  refine gf_X8_10 dX8_shorthand_1 w0 rfl ?_
  refine z_iload_n dX8_shorthand_4 rfl ?_
  by_cases cd : isW Nw wk
  · skip
    refine cs_X8_92 dX8_shorthand_5 (D_X6_doneAt hs (i := wk) ⟨by omega, by omega⟩) e0 rfl rfl (Nat.le_of_ble_eq_true rfl) (by decide) (fun rv h' hq => ?_)
    obtain ⟨rfl, hq2⟩ := hq
    refine z_heq hq2 ?_
    obtain ⟨d0, d1, d2, d3⟩ := e3 wk.toNat (by omega)
    obtain ⟨hc1, hc2, hc3, hc4⟩ := hcl wk.toNat (by omega)
    obtain ⟨f1, f2, f3⟩ := hcl.f hwf (i := wk.toNat) (by omega)
    have hR := v7 wk.toNat (by omega)
    rw [hc1, hc2] at d0
    rw [f1] at d1 d3
    have st : oSt h (tN ad (4 + 3 * wk.toNat)) (tN ad (5 + 3 * wk.toNat)) (zF Nw wk.toNat : Int) (ff wk.toNat) := ⟨d1, d2, d3⟩
    rw [if_pos (show 0 ≤ wk ∧ wk < Nw 5025 from cd)]
    refine z_ks ?_
    refine z_astore_n dX8_shorthand_8 (Nat.le_of_ble_eq_true rfl) rfl ?_
    refine z_aload_n dX8_shorthand_9 rfl ?_
    refine z_ifnonnull dX8_shorthand_10 (tgt := 22) rfl (fun _ _ => ?_) (fun c1 => by cases c1)
    refine z_aload_n dX8_shorthand_22 rfl ?_
    refine gf_X8_96 dX8_shorthand_23 d0 rfl ?_
    refine z_iload_n dX8_shorthand_26 rfl ?_
    refine cs_X8_255 dX8_shorthand_27 (D_X7_shorthandAt st f2 hst) d1 rfl rfl (Nat.le_of_ble_eq_true rfl) (by decide) (z_ki ?_)
    exact z_iret F dX8_shorthand_30 rfl (by decide) ⟨fun q => ⟨congrArg (fun z => some (z_i z)) (shV_ag hc4), rfl⟩, fun q => absurd cd q⟩
  · skip
    refine cs_X8_92 dX8_shorthand_5 (D_X6_doneAt hs (i := wk) ⟨by omega, by omega⟩) e0 rfl rfl (Nat.le_of_ble_eq_true rfl) (by decide) (fun rv h' hq => ?_)
    obtain ⟨rfl, hq2⟩ := hq
    refine z_heq hq2 ?_
    rw [if_neg (show ¬ (0 ≤ wk ∧ wk < Nw 5025) from cd)]
    refine z_ks ?_
    refine z_astore_n dX8_shorthand_8 (Nat.le_of_ble_eq_true rfl) rfl ?_
    refine z_aload_n dX8_shorthand_9 rfl ?_
    refine z_ifnonnull dX8_shorthand_10 (tgt := 22) rfl (fun _ c2 => by cases c2) (fun _ => ?_)
    refine z_aload_n dX8_shorthand_13 rfl ?_
    refine z_bipush dX8_shorthand_14 rfl ?_
    refine cs_X8_55 dX8_shorthand_16 (D_X8_ref0 hI hw) w0 rfl rfl (Nat.le_of_ble_eq_true rfl) (by decide) (z_ki ?_)
    refine z_goto dX8_shorthand_19 (tgt := 30) rfl ?_
    exact z_iret F dX8_shorthand_30 rfl (by decide) ⟨fun q => absurd q (cd), fun q => ⟨rfl, rfl⟩⟩
set_option maxHeartbeats 4000000 in
set_option maxRecDepth 100000 in
theorem D_X8_unit {g : z_G} {h : z_H} {ad : Nat → Nat} {Rf Nw Th Tp Lk Ho Sz Im : z_row} {kp : Int} {t ca : Nat} {G Gt : Nat → z_G4} (hI : aJ ad) (hw : cW h ad Rf Nw Th Tp Lk Ho Sz Im kp t ca G Gt) (hwf : nWf Nw G) {wk : Int} (hwk : z_in wk)  : z_D g mX8_unit 5 0 0 [z_r (ad 0), z_i wk] h (fun rv h' => (isW Nw wk → rv = some (z_i (uF (zF Nw wk.toNat : Int) (kR Nw wk.toNat))) ∧ h' = h) ∧ (¬ (isW Nw wk) → rv = some (z_i (-92)) ∧ h' = rfH h ad Rf 0)) := by
  refine z_D.of (by decide +kernel) (Nat.le_of_ble_eq_true rfl) (fun X F => ?_)
  obtain ⟨⟨w0, w1, w2, w3⟩, wp, wc, ws, wn, wkk⟩ := id hw
  obtain ⟨Lf, lc, dc, nd, si, mo, se, sd, ln, zz, ff, hs, hL, hk9⟩ := wn
  obtain ⟨⟨rfl, rfl, rfl, rfl, rfl, rfl⟩, hcl, hln⟩ := hk9 trivial
  obtain ⟨e0, e1, e2, e3, b1, b2, b3, b4, b5⟩ := id hs
  obtain ⟨v1, v2, v3, v4, v5, v6, v7⟩ := id hwf
  show z_w g X cX8_unit RX8 (5, 0, 0) 0 [z_r (ad 0), z_i wk, z_u] [] h 0 0
  refine z_aload_n dX8_unit_0 rfl ?_
  refine gf_X8_10 dX8_unit_1 w0 rfl ?_
  refine z_iload_n dX8_unit_4 rfl ?_
  by_cases cd : isW Nw wk
  · skip
    refine cs_X8_92 dX8_unit_5 (D_X6_doneAt hs (i := wk) ⟨by omega, by omega⟩) e0 rfl rfl (Nat.le_of_ble_eq_true rfl) (by decide) (fun rv h' hq => ?_)
    obtain ⟨rfl, hq2⟩ := hq
    refine z_heq hq2 ?_
    obtain ⟨d0, d1, d2, d3⟩ := e3 wk.toNat (by omega)
    obtain ⟨hc1, hc2, hc3, hc4⟩ := hcl wk.toNat (by omega)
    obtain ⟨f1, f2, f3⟩ := hcl.f hwf (i := wk.toNat) (by omega)
    have hR := v7 wk.toNat (by omega)
    rw [hc1, hc2] at d0
    rw [f1] at d1 d3
    have st : oSt h (tN ad (4 + 3 * wk.toNat)) (tN ad (5 + 3 * wk.toNat)) (zF Nw wk.toNat : Int) (ff wk.toNat) := ⟨d1, d2, d3⟩
    rw [if_pos (show 0 ≤ wk ∧ wk < Nw 5025 from cd)]
    refine z_ks ?_
    refine z_astore_n dX8_unit_8 (Nat.le_of_ble_eq_true rfl) rfl ?_
    refine z_aload_n dX8_unit_9 rfl ?_
    refine z_ifnonnull dX8_unit_10 (tgt := 22) rfl (fun _ _ => ?_) (fun c1 => by cases c1)
    refine z_aload_n dX8_unit_22 rfl ?_
    refine gf_X8_96 dX8_unit_23 d0 rfl ?_
    refine cs_X8_258 dX8_unit_26 (D_X7_smallestPart st f2) d1 rfl rfl (Nat.le_of_ble_eq_true rfl) (by decide) (z_ki ?_)
    exact z_iret F dX8_unit_29 rfl (by decide) ⟨fun q => ⟨congrArg (fun z => some (z_i z)) (uF_ag (fun j hj => hc4 j (by omega))), rfl⟩, fun q => absurd cd q⟩
  · skip
    refine cs_X8_92 dX8_unit_5 (D_X6_doneAt hs (i := wk) ⟨by omega, by omega⟩) e0 rfl rfl (Nat.le_of_ble_eq_true rfl) (by decide) (fun rv h' hq => ?_)
    obtain ⟨rfl, hq2⟩ := hq
    refine z_heq hq2 ?_
    rw [if_neg (show ¬ (0 ≤ wk ∧ wk < Nw 5025) from cd)]
    refine z_ks ?_
    refine z_astore_n dX8_unit_8 (Nat.le_of_ble_eq_true rfl) rfl ?_
    refine z_aload_n dX8_unit_9 rfl ?_
    refine z_ifnonnull dX8_unit_10 (tgt := 22) rfl (fun _ c2 => by cases c2) (fun _ => ?_)
    refine z_aload_n dX8_unit_13 rfl ?_
    refine z_bipush dX8_unit_14 rfl ?_
    refine cs_X8_55 dX8_unit_16 (D_X8_ref0 hI hw) w0 rfl rfl (Nat.le_of_ble_eq_true rfl) (by decide) (z_ki ?_)
    refine z_goto dX8_unit_19 (tgt := 29) rfl ?_
    exact z_iret F dX8_unit_29 rfl (by decide) ⟨fun q => absurd q (cd), fun q => ⟨rfl, rfl⟩⟩
set_option maxHeartbeats 4000000 in
set_option maxRecDepth 100000 in
theorem D_X8_mirrored {g : z_G} {h : z_H} {ad : Nat → Nat} {Rf Nw Th Tp Lk Ho Sz Im : z_row} {kp : Int} {t ca : Nat} {G Gt : Nat → z_G4} (hI : aJ ad) (hw : cW h ad Rf Nw Th Tp Lk Ho Sz Im kp t ca G Gt) (hwf : nWf Nw G) {wk : Int} (hwk : z_in wk) {st9 : Int} (hst : z_in st9) : z_D g mX8_mirrored 4 0 0 [z_r (ad 0), z_i wk, z_i st9] h (fun rv h' => (isW Nw wk → rv = some (z_i (mA (zF Nw wk.toNat : Int) (kR Nw wk.toNat) st9)) ∧ h' = h) ∧ (¬ (isW Nw wk) → rv = some (z_i (-92)) ∧ h' = rfH h ad Rf 0)) := by
  refine z_D.of (by decide +kernel) (Nat.le_of_ble_eq_true rfl) (fun X F => ?_)
  obtain ⟨⟨w0, w1, w2, w3⟩, wp, wc, ws, wn, wkk⟩ := id hw
  obtain ⟨Lf, lc, dc, nd, si, mo, se, sd, ln, zz, ff, hs, hL, hk9⟩ := wn
  obtain ⟨⟨rfl, rfl, rfl, rfl, rfl, rfl⟩, hcl, hln⟩ := hk9 trivial
  obtain ⟨e0, e1, e2, e3, b1, b2, b3, b4, b5⟩ := id hs
  obtain ⟨v1, v2, v3, v4, v5, v6, v7⟩ := id hwf
  show z_w g X cX8_mirrored RX8 (4, 0, 0) 0 [z_r (ad 0), z_i wk, z_i st9, z_u] [] h 0 0
  refine z_aload_n dX8_mirrored_0 rfl ?_
  refine gf_X8_10 dX8_mirrored_1 w0 rfl ?_
  refine z_iload_n dX8_mirrored_4 rfl ?_
  by_cases cd : isW Nw wk
  · skip
    refine cs_X8_92 dX8_mirrored_5 (D_X6_doneAt hs (i := wk) ⟨by omega, by omega⟩) e0 rfl rfl (Nat.le_of_ble_eq_true rfl) (by decide) (fun rv h' hq => ?_)
    obtain ⟨rfl, hq2⟩ := hq
    refine z_heq hq2 ?_
    obtain ⟨d0, d1, d2, d3⟩ := e3 wk.toNat (by omega)
    obtain ⟨hc1, hc2, hc3, hc4⟩ := hcl wk.toNat (by omega)
    obtain ⟨f1, f2, f3⟩ := hcl.f hwf (i := wk.toNat) (by omega)
    have hR := v7 wk.toNat (by omega)
    rw [hc1, hc2] at d0
    rw [f1] at d1 d3
    have st : oSt h (tN ad (4 + 3 * wk.toNat)) (tN ad (5 + 3 * wk.toNat)) (zF Nw wk.toNat : Int) (ff wk.toNat) := ⟨d1, d2, d3⟩
    rw [if_pos (show 0 ≤ wk ∧ wk < Nw 5025 from cd)]
    refine z_ks ?_
    refine z_astore_n dX8_mirrored_8 (Nat.le_of_ble_eq_true rfl) rfl ?_
    refine z_aload_n dX8_mirrored_9 rfl ?_
    refine z_ifnonnull dX8_mirrored_10 (tgt := 22) rfl (fun _ _ => ?_) (fun c1 => by cases c1)
    refine z_aload_n dX8_mirrored_22 rfl ?_
    refine gf_X8_96 dX8_mirrored_23 d0 rfl ?_
    refine z_iload_n dX8_mirrored_26 rfl ?_
    refine cs_X8_261 dX8_mirrored_27 (D_X7_mirroredAt st f2 hst) d1 rfl rfl (Nat.le_of_ble_eq_true rfl) (by decide) (z_ki ?_)
    exact z_iret F dX8_mirrored_30 rfl (by decide) ⟨fun q => ⟨congrArg (fun z => some (z_i z)) (mA_ag (fun j hj => hc4 j (by omega))), rfl⟩, fun q => absurd cd q⟩
  · skip
    refine cs_X8_92 dX8_mirrored_5 (D_X6_doneAt hs (i := wk) ⟨by omega, by omega⟩) e0 rfl rfl (Nat.le_of_ble_eq_true rfl) (by decide) (fun rv h' hq => ?_)
    obtain ⟨rfl, hq2⟩ := hq
    refine z_heq hq2 ?_
    rw [if_neg (show ¬ (0 ≤ wk ∧ wk < Nw 5025) from cd)]
    refine z_ks ?_
    refine z_astore_n dX8_mirrored_8 (Nat.le_of_ble_eq_true rfl) rfl ?_
    refine z_aload_n dX8_mirrored_9 rfl ?_
    refine z_ifnonnull dX8_mirrored_10 (tgt := 22) rfl (fun _ c2 => by cases c2) (fun _ => ?_)
    refine z_aload_n dX8_mirrored_13 rfl ?_
    refine z_bipush dX8_mirrored_14 rfl ?_
    refine cs_X8_55 dX8_mirrored_16 (D_X8_ref0 hI hw) w0 rfl rfl (Nat.le_of_ble_eq_true rfl) (by decide) (z_ki ?_)
    refine z_goto dX8_mirrored_19 (tgt := 30) rfl ?_
    exact z_iret F dX8_mirrored_30 rfl (by decide) ⟨fun q => absurd q (cd), fun q => ⟨rfl, rfl⟩⟩
set_option maxHeartbeats 4000000 in
set_option maxRecDepth 100000 in
theorem D_X8_even {g : z_G} {h : z_H} {ad : Nat → Nat} {Rf Nw Th Tp Lk Ho Sz Im : z_row} {kp : Int} {t ca : Nat} {G Gt : Nat → z_G4} (hI : aJ ad) (hw : cW h ad Rf Nw Th Tp Lk Ho Sz Im kp t ca G Gt) (hwf : nWf Nw G) {wk : Int} (hwk : z_in wk) : z_D g mX8_even 5 0 0 [z_r (ad 0), z_i wk] h (fun rv h' => (isW Nw wk → rv = some (z_i (bI (∀ j : Nat, (j : Int) < (zF Nw wk.toNat : Int) → kR Nw wk.toNat j = mA (zF Nw wk.toNat : Int) (kR Nw wk.toNat) j))) ∧ h' = h) ∧ (¬ (isW Nw wk) → rv = some (z_i (-92)) ∧ h' = rfH h ad Rf 0)) := by
  refine z_D.of (by decide +kernel) (Nat.le_of_ble_eq_true rfl) (fun X F => ?_)
  obtain ⟨⟨w0, w1, w2, w3⟩, wp, wc, ws, wn, wkk⟩ := id hw
  obtain ⟨Lf, lc, dc, nd, si, mo, se, sd, ln, zz, ff, hs, hL, hk9⟩ := wn
  obtain ⟨⟨rfl, rfl, rfl, rfl, rfl, rfl⟩, hcl, hln⟩ := hk9 trivial
  obtain ⟨e0, e1, e2, e3, b1, b2, b3, b4, b5⟩ := id hs
  obtain ⟨v1, v2, v3, v4, v5, v6, v7⟩ := id hwf
  show z_w g X cX8_even RX8 (5, 0, 0) 0 [z_r (ad 0), z_i wk, z_u] [] h 0 0
  refine z_aload_n dX8_even_0 rfl ?_
  refine gf_X8_10 dX8_even_1 w0 rfl ?_
  refine z_iload_n dX8_even_4 rfl ?_
  by_cases cd : isW Nw wk
  · skip
    refine cs_X8_92 dX8_even_5 (D_X6_doneAt hs (i := wk) ⟨by omega, by omega⟩) e0 rfl rfl (Nat.le_of_ble_eq_true rfl) (by decide) (fun rv h' hq => ?_)
    obtain ⟨rfl, hq2⟩ := hq
    refine z_heq hq2 ?_
    obtain ⟨d0, d1, d2, d3⟩ := e3 wk.toNat (by omega)
    obtain ⟨hc1, hc2, hc3, hc4⟩ := hcl wk.toNat (by omega)
    obtain ⟨f1, f2, f3⟩ := hcl.f hwf (i := wk.toNat) (by omega)
    have hR := v7 wk.toNat (by omega)
    rw [hc1, hc2] at d0
    rw [f1] at d1 d3
    have st : oSt h (tN ad (4 + 3 * wk.toNat)) (tN ad (5 + 3 * wk.toNat)) (zF Nw wk.toNat : Int) (ff wk.toNat) := ⟨d1, d2, d3⟩
    rw [if_pos (show 0 ≤ wk ∧ wk < Nw 5025 from cd)]
    refine z_ks ?_
    refine z_astore_n dX8_even_8 (Nat.le_of_ble_eq_true rfl) rfl ?_
    refine z_aload_n dX8_even_9 rfl ?_
    refine z_ifnonnull dX8_even_10 (tgt := 20) rfl (fun _ _ => ?_) (fun c1 => by cases c1)
    refine z_aload_n dX8_even_20 rfl ?_
    refine gf_X8_96 dX8_even_21 d0 rfl ?_
    refine cs_X8_264 dX8_even_24 (D_X7_isEven st f2) d1 rfl rfl (Nat.le_of_ble_eq_true rfl) (by decide) (z_ki ?_)
    have hbi := bI_01 (∀ j : Nat, (j : Int) < (zF Nw wk.toNat : Int) → ff wk.toNat j = mA (zF Nw wk.toNat : Int) (ff wk.toNat) j)
    have hev := ev_ag (z := (zF Nw wk.toNat : Int)) (f := kR Nw wk.toNat) (u := ff wk.toNat) (fun j hj => hc4 j (by omega))
    refine z_if_eq dX8_even_27 (tgt := 34) rfl ⟨by omega, by omega⟩ (fun c2 => ?_) (fun c2 => ?_)
    · skip
      refine z_iconst dX8_even_34 ?_
      exact z_iret F dX8_even_35 rfl (by decide) ⟨fun q => ⟨congrArg (fun z => some (z_i z)) (by omega), rfl⟩, fun q => absurd cd q⟩
    · skip
      refine z_iconst dX8_even_30 ?_
      refine z_goto dX8_even_31 (tgt := 35) rfl ?_
      exact z_iret F dX8_even_35 rfl (by decide) ⟨fun q => ⟨congrArg (fun z => some (z_i z)) (by omega), rfl⟩, fun q => absurd cd q⟩
  · skip
    refine cs_X8_92 dX8_even_5 (D_X6_doneAt hs (i := wk) ⟨by omega, by omega⟩) e0 rfl rfl (Nat.le_of_ble_eq_true rfl) (by decide) (fun rv h' hq => ?_)
    obtain ⟨rfl, hq2⟩ := hq
    refine z_heq hq2 ?_
    rw [if_neg (show ¬ (0 ≤ wk ∧ wk < Nw 5025) from cd)]
    refine z_ks ?_
    refine z_astore_n dX8_even_8 (Nat.le_of_ble_eq_true rfl) rfl ?_
    refine z_aload_n dX8_even_9 rfl ?_
    refine z_ifnonnull dX8_even_10 (tgt := 20) rfl (fun _ c3 => by cases c3) (fun _ => ?_)
    refine z_aload_n dX8_even_13 rfl ?_
    refine z_bipush dX8_even_14 rfl ?_
    refine cs_X8_55 dX8_even_16 (D_X8_ref0 hI hw) w0 rfl rfl (Nat.le_of_ble_eq_true rfl) (by decide) (z_ki ?_)
    exact z_iret F dX8_even_19 rfl (by decide) ⟨fun q => absurd q (cd), fun q => ⟨rfl, rfl⟩⟩
set_option maxHeartbeats 4000000 in
set_option maxRecDepth 100000 in
theorem D_X8_roots {g : z_G} {h : z_H} {ad : Nat → Nat} {Rf Nw Th Tp Lk Ho Sz Im : z_row} {kp : Int} {t ca : Nat} {G Gt : Nat → z_G4} (hI : aJ ad) (hw : cW h ad Rf Nw Th Tp Lk Ho Sz Im kp t ca G Gt) (hwf : nWf Nw G) {wk : Int} (hwk : z_in wk) {j9 : Int} (hj9 : z_in j9) : z_D g mX8_roots 4 0 0 [z_r (ad 0), z_i wk, z_i j9] h (fun rv h' => (isW Nw wk ∧ 0 ≤ j9 ∧ j9 < sG kM (kR Nw wk.toNat) (zF Nw wk.toNat) → (∃ v : Nat, rv = some (z_l (v : Int)) ∧ v < 2 ^ 63 ∧ ∀ p, v.testBit p = true ↔ RB (kR Nw wk.toNat) (zF Nw wk.toNat) (fun q => q = j9.toNat) p) ∧ h' = h) ∧ (¬ (isW Nw wk ∧ 0 ≤ j9 ∧ j9 < sG kM (kR Nw wk.toNat) (zF Nw wk.toNat)) → rv = some (z_l (-92 - 9000000000000000000)) ∧ h' = rfH h ad Rf 0)) := by
  refine z_D.of (by decide +kernel) (Nat.le_of_ble_eq_true rfl) (fun X F => ?_)
  obtain ⟨⟨w0, w1, w2, w3⟩, wp, wc, ws, wn, wkk⟩ := id hw
  obtain ⟨Lf, lc, dc, nd, si, mo, se, sd, ln, zz, ff, hs, hL, hk9⟩ := wn
  obtain ⟨⟨rfl, rfl, rfl, rfl, rfl, rfl⟩, hcl, hln⟩ := hk9 trivial
  obtain ⟨e0, e1, e2, e3, b1, b2, b3, b4, b5⟩ := id hs
  obtain ⟨v1, v2, v3, v4, v5, v6, v7⟩ := id hwf
  show z_w g X cX8_roots RX8 (4, 0, 0) 0 [z_r (ad 0), z_i wk, z_i j9, z_u] [] h 0 0
  refine z_aload_n dX8_roots_0 rfl ?_
  refine gf_X8_10 dX8_roots_1 w0 rfl ?_
  refine z_iload_n dX8_roots_4 rfl ?_
  by_cases cd : isW Nw wk
  · skip
    refine cs_X8_92 dX8_roots_5 (D_X6_doneAt hs (i := wk) ⟨by omega, by omega⟩) e0 rfl rfl (Nat.le_of_ble_eq_true rfl) (by decide) (fun rv h' hq => ?_)
    obtain ⟨rfl, hq2⟩ := hq
    refine z_heq hq2 ?_
    obtain ⟨d0, d1, d2, d3⟩ := e3 wk.toNat (by omega)
    obtain ⟨hc1, hc2, hc3, hc4⟩ := hcl wk.toNat (by omega)
    obtain ⟨f1, f2, f3⟩ := hcl.f hwf (i := wk.toNat) (by omega)
    have hR := v7 wk.toNat (by omega)
    rw [hc1, hc2] at d0
    rw [f1] at d1 d3
    have st : oSt h (tN ad (4 + 3 * wk.toNat)) (tN ad (5 + 3 * wk.toNat)) (zF Nw wk.toNat : Int) (ff wk.toNat) := ⟨d1, d2, d3⟩
    rw [if_pos (show 0 ≤ wk ∧ wk < Nw 5025 from cd)]
    refine z_ks ?_
    refine z_astore_n dX8_roots_8 (Nat.le_of_ble_eq_true rfl) rfl ?_
    refine z_aload_n dX8_roots_9 rfl ?_
    refine z_ifnull dX8_roots_10 (tgt := 35) rfl (fun c1 => by cases c1) (fun _ _ => ?_)
    refine z_iload_n dX8_roots_13 rfl ?_
    refine z_if_lt dX8_roots_14 (tgt := 35) rfl ⟨by omega, by omega⟩ (fun c2 => ?_) (fun c2 => ?_)
    · skip
      refine z_aload_n dX8_roots_35 rfl ?_
      refine z_bipush dX8_roots_36 rfl ?_
      refine cs_X8_235 dX8_roots_38 (D_X8_refuseLong hI hw) w0 rfl rfl (Nat.le_of_ble_eq_true rfl) (by decide) (z_kl ?_)
      exact z_lret F dX8_roots_41 rfl (by decide) ⟨fun q => absurd q (fun q => by have h1 := q.2; omega), fun q => ⟨rfl, rfl⟩⟩
    · skip
      refine z_iload_n dX8_roots_17 rfl ?_
      refine z_aload_n dX8_roots_18 rfl ?_
      refine gf_X8_96 dX8_roots_19 d0 rfl ?_
      refine z_aload_n dX8_roots_22 rfl ?_
      refine gf_X8_96 dX8_roots_23 d0 rfl ?_
      refine gf_X8_227 dX8_roots_26 d1 rfl ?_
      refine cs_X8_246 dX8_roots_29 (D_X7_madeAhead st f2 (i := (zF Nw wk.toNat : Int)) ⟨by omega, by omega⟩) d1 rfl rfl (Nat.le_of_ble_eq_true rfl) (by decide) (z_ki ?_)
      have hm60 := hR.2.2.2.2.2.1
      have hm0 := sG_0 kM_0 (f := kR Nw wk.toNat) (m := zF Nw wk.toNat)
      refine z_ieq (y := sG kM (kR Nw wk.toNat) (zF Nw wk.toNat)) (by rw [if_neg (Int.lt_irrefl _), Int.toNat_natCast]; exact f3 kM) ?_
      refine z_icmp_lt dX8_roots_32 (tgt := 42) rfl ⟨by omega, by omega⟩ ⟨by omega, by omega⟩ (fun c3 => ?_) (fun c3 => ?_)
      · skip
        refine z_aload_n dX8_roots_42 rfl ?_
        refine gf_X8_96 dX8_roots_43 d0 rfl ?_
        refine z_lconst1 dX8_roots_46 ?_
        refine z_iload_n dX8_roots_47 rfl ?_
        obtain ⟨J, hJ⟩ : ∃ J : Nat, j9 = (J : Int) := ⟨j9.toNat, by omega⟩
        have hJ2 : j9.toNat = J := by omega
        have hp63 : (1 * 2 ^ J : Nat) < 2 ^ 63 := by rw [Nat.one_mul]; exact Nat.pow_lt_pow_right (by decide) (by omega)
        refine z_ieq (y := (J : Int)) hJ ?_
        refine z_lshl (a := 1) (s := J) (by omega) dX8_roots_48 ?_
        refine cs_X8_267 dX8_roots_49 (D_X7_rootsOf (Z := zF Nw wk.toNat) st f2 (by rw [f3]; exact hR.2.2.2.2.1) (by rw [f3]; exact hm60) (bt := 1 * 2 ^ J) hp63) d1 rfl rfl (Nat.le_of_ble_eq_true rfl) (by decide) (fun rv h' hq => ?_)
        obtain ⟨⟨v, rfl, hv6, hv⟩, hq2⟩ := hq
        refine z_heq hq2 ?_
        refine z_ks ?_
        have hag : ∀ j, j < zF Nw wk.toNat → ff wk.toNat j = kR Nw wk.toNat j := hc4
        have hv2 : ∀ p, v.testBit p = true ↔ RB (kR Nw wk.toNat) (zF Nw wk.toNat) (fun q => q = j9.toNat) p := fun p => by
          have hb : (fun q => (1 * 2 ^ J : Nat).testBit q = true) = (fun q => q = j9.toNat) := by funext q; rw [Nat.one_mul, Nat.testBit_two_pow, decide_eq_true_eq, hJ2]; exact propext ⟨fun e => e.symm, fun e => e.symm⟩
          rw [hv p, hb]
          exact ⟨fun q => RB_ag hag q, fun q => RB_ag (fun j hj => (hag j hj).symm) q⟩
        exact z_lret F dX8_roots_52 rfl (by decide) ⟨fun _ => ⟨⟨v, rfl, Nat.lt_of_lt_of_le hv6 (by decide), hv2⟩, rfl⟩, fun q => absurd ⟨cd, by omega, by omega⟩ q⟩
      · skip
        refine z_aload_n dX8_roots_35 rfl ?_
        refine z_bipush dX8_roots_36 rfl ?_
        refine cs_X8_235 dX8_roots_38 (D_X8_refuseLong hI hw) w0 rfl rfl (Nat.le_of_ble_eq_true rfl) (by decide) (z_kl ?_)
        exact z_lret F dX8_roots_41 rfl (by decide) ⟨fun q => absurd q (fun q => by have h1 := q.2; omega), fun q => ⟨rfl, rfl⟩⟩
  · skip
    refine cs_X8_92 dX8_roots_5 (D_X6_doneAt hs (i := wk) ⟨by omega, by omega⟩) e0 rfl rfl (Nat.le_of_ble_eq_true rfl) (by decide) (fun rv h' hq => ?_)
    obtain ⟨rfl, hq2⟩ := hq
    refine z_heq hq2 ?_
    rw [if_neg (show ¬ (0 ≤ wk ∧ wk < Nw 5025) from cd)]
    refine z_ks ?_
    refine z_astore_n dX8_roots_8 (Nat.le_of_ble_eq_true rfl) rfl ?_
    refine z_aload_n dX8_roots_9 rfl ?_
    refine z_ifnull dX8_roots_10 (tgt := 35) rfl (fun _ => ?_) (fun _ c4 => by cases c4)
    refine z_aload_n dX8_roots_35 rfl ?_
    refine z_bipush dX8_roots_36 rfl ?_
    refine cs_X8_235 dX8_roots_38 (D_X8_refuseLong hI hw) w0 rfl rfl (Nat.le_of_ble_eq_true rfl) (by decide) (z_kl ?_)
    exact z_lret F dX8_roots_41 rfl (by decide) ⟨fun q => absurd q (fun q => cd q.1), fun q => ⟨rfl, rfl⟩⟩
theorem kY_in {f : z_row} : ∀ {m : Nat}, m ≤ 200 → z_in (sG kY f m) := by
  have key : ∀ m : Nat, 0 ≤ sG kY f m ∧ sG kY f m ≤ 100 * (m : Int) := by
    intro m
    induction m with
    | zero => exact ⟨by show (0 : Int) ≤ 0; omega, by show (0 : Int) ≤ _; omega⟩
    | succ m ih =>
      have h1 : 0 ≤ kY (f m) ∧ kY (f m) ≤ 100 := by
        unfold kY
        repeat' split
        all_goals omega
      have h2 : sG kY f (m + 1) = sG kY f m + kY (f m) := sG_s
      rw [h2]
      omega
  intro m hm
  have := key m
  exact ⟨by omega, by omega⟩
set_option maxHeartbeats 4000000 in
set_option maxRecDepth 100000 in
theorem D_X8_yarn {g : z_G} {h : z_H} {ad : Nat → Nat} {Rf Nw Th Tp Lk Ho Sz Im : z_row} {kp : Int} {t ca : Nat} {G Gt : Nat → z_G4} (hI : aJ ad) (hw : cW h ad Rf Nw Th Tp Lk Ho Sz Im kp t ca G Gt) (hwf : nWf Nw G) : z_D g mX8_yarn 4 0 0 [z_r (ad 0)] h (z_Pl (yS Nw (Nw 5025).toNat) h) := by
  refine z_D.of (by decide +kernel) (Nat.le_of_ble_eq_true rfl) (fun X F => ?_)
  obtain ⟨⟨w0, w1, w2, w3⟩, wp, wc, ws, wn, wkk⟩ := id hw
  obtain ⟨Lf, lc, dc, nd, si, mo, se, sd, ln, zz, ff, hs, hL, hk9⟩ := wn
  obtain ⟨⟨rfl, rfl, rfl, rfl, rfl, rfl⟩, hcl, hln⟩ := hk9 trivial
  obtain ⟨e0, e1, e2, e3, b1, b2, b3, b4, b5⟩ := id hs
  obtain ⟨v1, v2, v3, v4, v5, v6, v7⟩ := id hwf
  show z_w g X cX8_yarn RX8 (4, 0, 0) 0 [z_r (ad 0), z_u, z_u, z_u, z_u] [] h 0 0
  refine z_lconst0 dX8_yarn_0 ?_
  refine z_lstore_n dX8_yarn_1 (Nat.le_of_ble_eq_true rfl) rfl ?_
  refine z_iconst dX8_yarn_2 ?_
  refine z_istore_n dX8_yarn_3 (Nat.le_of_ble_eq_true rfl) rfl ?_
  refine z_lseq (ls2 := [z_r (ad 0), z_l (yS Nw 0), z_u, z_i ((0 : Nat) : Int), z_u]) rfl ?_
  have L4 : ∀ (fu : Nat) (m : Nat) (y4 : z_V) (q1 : (m : Int) ≤ Nw 5025), 51 - m < fu → z_w g X cX8_yarn RX8 (4, 0, 0) 4 [z_r (ad 0), z_l (yS Nw m), z_u, z_i (m : Int), y4] [] h 0 0 := by
    intro fu
    induction fu with
    | zero => intro m y4 q1 hm; exact absurd hm (Nat.not_lt_zero _)
    | succ fu ih =>
      intro m y4 q1 hm
      refine z_iload_n dX8_yarn_4 rfl ?_
      refine z_aload_n dX8_yarn_5 rfl ?_
      refine gf_X8_10 dX8_yarn_6 w0 rfl ?_
      refine gf_X8_175 dX8_yarn_9 e0 rfl ?_
      refine z_icmp_ge dX8_yarn_12 (tgt := 52) rfl ⟨by omega, by omega⟩ ⟨by omega, by omega⟩ (fun c1 => ?_) (fun c1 => ?_)
      · skip
        obtain rfl : m = (Nw 5025).toNat := by omega
        refine z_lload_n dX8_yarn_52 rfl ?_
        exact z_lret F dX8_yarn_53 rfl (by decide) ⟨rfl, rfl⟩
      · skip
        refine z_aload_n dX8_yarn_15 rfl ?_
        refine gf_X8_10 dX8_yarn_16 w0 rfl ?_
        refine z_iload_n dX8_yarn_19 rfl ?_
        refine cs_X8_92 dX8_yarn_20 (D_X6_doneAt hs (i := (m : Int)) ⟨by omega, by omega⟩) e0 rfl rfl (Nat.le_of_ble_eq_true rfl) (by decide) (fun rv h' hq => ?_)
        obtain ⟨rfl, hq2⟩ := hq
        refine z_heq hq2 ?_
        obtain ⟨d0, d1, d2, d3⟩ := e3 m (by omega)
        obtain ⟨hc1, hc2, hc3, hc4⟩ := hcl m (by omega)
        obtain ⟨f1, f2, f3⟩ := hcl.f hwf (i := m) (by omega)
        have hR := v7 m (by omega)
        rw [hc1, hc2] at d0
        rw [f1] at d1 d3
        have st : oSt h (tN ad (4 + 3 * m)) (tN ad (5 + 3 * m)) (zF Nw m : Int) (ff m) := ⟨d1, d2, d3⟩
        rw [if_pos ⟨by omega, by omega⟩, Int.toNat_natCast]
        refine z_ks ?_
        refine z_astore dX8_yarn_23 (Nat.le_of_ble_eq_true rfl) rfl ?_
        refine z_lload_n dX8_yarn_25 rfl ?_
        refine z_aload dX8_yarn_26 rfl ?_
        refine z_ifnonnull dX8_yarn_28 (tgt := 35) rfl (fun _ _ => ?_) (fun c2 => by cases c2)
        refine z_aload dX8_yarn_35 rfl ?_
        refine gf_X8_96 dX8_yarn_37 d0 rfl ?_
        refine cs_X8_229 dX8_yarn_40 (D_X7_yarnUsed st f2) d1 rfl rfl (Nat.le_of_ble_eq_true rfl) (by decide) (z_ki ?_)
        refine z_ieq (y := sG kY (kR Nw m) (zF Nw m)) (by rw [Int.toNat_natCast]; exact f3 kY) ?_
        have hyb : z_in (sG kY (kR Nw m) (zF Nw m)) := kY_in hR.1.2.2.1
        refine z_i2l dX8_yarn_43 hyb ?_
        refine z_ladd dX8_yarn_44 ?_
        refine z_leq (y := yS Nw (m + 1)) rfl ?_
        refine z_lstore_n dX8_yarn_45 (Nat.le_of_ble_eq_true rfl) rfl ?_
        refine z_iinc dX8_yarn_46 rfl rfl ?_
        refine z_goto dX8_yarn_49 (tgt := 4) rfl ?_
        exact ih (m + 1) _ (by omega) (by omega)
  exact L4 52 0 z_u (by omega) (by omega)
set_option maxHeartbeats 4000000 in
set_option maxRecDepth 100000 in
theorem D_X8_many {g : z_G} {h : z_H} {ad : Nat → Nat} {Rf Nw Th Tp Lk Ho Sz Im : z_row} {kp : Int} {t ca : Nat} {G Gt : Nat → z_G4} (hI : aJ ad) (hw : cW h ad Rf Nw Th Tp Lk Ho Sz Im kp t ca G Gt) (hwf : nWf Nw G) {t9 : Int} (ht : z_in t9) : z_D g mX8_many 4 0 0 [z_r (ad 0), z_i t9] h (fun rv h' => (0 ≤ t9 ∧ t9 ≤ 12 → rv = some (z_i (mS Nw t9 (Nw 5025).toNat)) ∧ h' = h) ∧ (¬ (0 ≤ t9 ∧ t9 ≤ 12) → rv = some (z_i (-92)) ∧ h' = rfH h ad Rf 0)) := by
  refine z_D.of (by decide +kernel) (Nat.le_of_ble_eq_true rfl) (fun X F => ?_)
  obtain ⟨⟨w0, w1, w2, w3⟩, wp, wc, ws, wn, wkk⟩ := id hw
  obtain ⟨Lf, lc, dc, nd, si, mo, se, sd, ln, zz, ff, hs, hL, hk9⟩ := wn
  obtain ⟨⟨rfl, rfl, rfl, rfl, rfl, rfl⟩, hcl, hln⟩ := hk9 trivial
  obtain ⟨e0, e1, e2, e3, b1, b2, b3, b4, b5⟩ := id hs
  obtain ⟨v1, v2, v3, v4, v5, v6, v7⟩ := id hwf
  show z_w g X cX8_many RX8 (4, 0, 0) 0 [z_r (ad 0), z_i t9, z_u, z_u, z_u] [] h 0 0
  refine z_iload_n dX8_many_0 rfl ?_
  refine cs_X8_114 dX8_many_1 (D_X2_isKind (a := t9) ⟨by omega, by omega⟩) rfl rfl (Nat.le_of_ble_eq_true rfl) (by decide) (z_ki ?_)
  refine z_if_ne dX8_many_4 (tgt := 14) rfl ⟨by split <;> omega, by split <;> omega⟩ (fun c1 => ?_) (fun c1 => ?_)
  · skip
    refine z_iconst dX8_many_14 ?_
    refine z_istore_n dX8_many_15 (Nat.le_of_ble_eq_true rfl) rfl ?_
    refine z_iconst dX8_many_16 ?_
    refine z_istore_n dX8_many_17 (Nat.le_of_ble_eq_true rfl) rfl ?_
    refine z_lseq (ls2 := [z_r (ad 0), z_i t9, z_i (mS Nw t9 0), z_i ((0 : Nat) : Int), z_u]) rfl ?_
    have L4 : ∀ (fu : Nat) (m : Nat) (y4 : z_V) (q1 : (m : Int) ≤ Nw 5025), 51 - m < fu → z_w g X cX8_many RX8 (4, 0, 0) 18 [z_r (ad 0), z_i t9, z_i (mS Nw t9 m), z_i (m : Int), y4] [] h 0 0 := by
      intro fu
      induction fu with
      | zero => intro m y4 q1 hm; exact absurd hm (Nat.not_lt_zero _)
      | succ fu ih =>
        intro m y4 q1 hm
        refine z_iload_n dX8_many_18 rfl ?_
        refine z_aload_n dX8_many_19 rfl ?_
        refine gf_X8_10 dX8_many_20 w0 rfl ?_
        refine gf_X8_175 dX8_many_23 e0 rfl ?_
        refine z_icmp_ge dX8_many_26 (tgt := 66) rfl ⟨by omega, by omega⟩ ⟨by omega, by omega⟩ (fun c2 => ?_) (fun c2 => ?_)
        · skip
          obtain rfl : m = (Nw 5025).toNat := by omega
          refine z_iload_n dX8_many_66 rfl ?_
          exact z_iret F dX8_many_67 rfl (by decide) ⟨fun q => ⟨congrArg (fun z => some (z_i z)) (rfl), rfl⟩, fun q => absurd (by omega) q⟩
        · skip
          refine z_aload_n dX8_many_29 rfl ?_
          refine gf_X8_10 dX8_many_30 w0 rfl ?_
          refine z_iload_n dX8_many_33 rfl ?_
          refine cs_X8_92 dX8_many_34 (D_X6_doneAt hs (i := (m : Int)) ⟨by omega, by omega⟩) e0 rfl rfl (Nat.le_of_ble_eq_true rfl) (by decide) (fun rv h' hq => ?_)
          obtain ⟨rfl, hq2⟩ := hq
          refine z_heq hq2 ?_
          obtain ⟨d0, d1, d2, d3⟩ := e3 m (by omega)
          obtain ⟨hc1, hc2, hc3, hc4⟩ := hcl m (by omega)
          obtain ⟨f1, f2, f3⟩ := hcl.f hwf (i := m) (by omega)
          have hR := v7 m (by omega)
          rw [hc1, hc2] at d0
          rw [f1] at d1 d3
          have st : oSt h (tN ad (4 + 3 * m)) (tN ad (5 + 3 * m)) (zF Nw m : Int) (ff m) := ⟨d1, d2, d3⟩
          rw [if_pos ⟨by omega, by omega⟩, Int.toNat_natCast]
          refine z_ks ?_
          refine z_astore dX8_many_37 (Nat.le_of_ble_eq_true rfl) rfl ?_
          refine z_iload_n dX8_many_39 rfl ?_
          refine z_aload dX8_many_40 rfl ?_
          refine z_ifnonnull dX8_many_42 (tgt := 49) rfl (fun _ _ => ?_) (fun c3 => by cases c3)
          refine z_aload dX8_many_49 rfl ?_
          refine gf_X8_96 dX8_many_51 d0 rfl ?_
          refine z_iload_n dX8_many_54 rfl ?_
          refine cs_X8_274 dX8_many_55 (D_X7_countUnder st f2 (t := t9) (by omega)) d1 rfl rfl (Nat.le_of_ble_eq_true rfl) (by decide) (z_ki ?_)
          refine z_ieq (y := sG (fun q => kUn q t9) (kR Nw m) (zF Nw m)) (by rw [Int.toNat_natCast]; exact f3 _) ?_
          refine z_iadd dX8_many_58 ?_
          refine z_ieq (y := mS Nw t9 (m + 1)) rfl ?_
          refine z_istore_n dX8_many_59 (Nat.le_of_ble_eq_true rfl) rfl ?_
          refine z_iinc dX8_many_60 rfl rfl ?_
          refine z_goto dX8_many_63 (tgt := 18) rfl ?_
          exact ih (m + 1) _ (by omega) (by omega)
    exact L4 52 0 z_u (by omega) (by omega)
  · skip
    refine z_aload_n dX8_many_7 rfl ?_
    refine z_bipush dX8_many_8 rfl ?_
    refine cs_X8_55 dX8_many_10 (D_X8_ref0 hI hw) w0 rfl rfl (Nat.le_of_ble_eq_true rfl) (by decide) (z_ki ?_)
    exact z_iret F dX8_many_13 rfl (by decide) ⟨fun q => absurd q (fun q => by omega), fun q => ⟨rfl, rfl⟩⟩
