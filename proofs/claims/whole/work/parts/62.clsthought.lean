/-! KnitReader: rows in thought -/
/-- a Line that tells row i -/
def lnX (h : z_H) (ad : Nat → Nat) (N : z_row) (G : Nat → z_G4) (i a : Nat) : Prop := ∃ (b s p u e : Nat) (t : z_row) (ix fl : Int), (off ad a ∧ off ad b ∧ off ad s ∧ off ad p ∧ off ad u ∧ off ad e) ∧ oLi h a b s p u e (nF N i) t (G i).1 (G i).2.1 (G i).2.2.1 (G i).2.2.2.1 ((G i).2.2.2.2 : Int) ((rdZ N i).2.2.2.1 : Int) (rdZ N i).2.2.2.2 ix fl ∧ ∀ k, k < nF N i → t k = tL N i k
theorem oLi_PH {h : z_H} {ad : Nat → Nat} {a b s p u e n : Nat} {t fs fp fn fe : z_row} {P d tl ix fl : Int} (ho : off ad a ∧ off ad b ∧ off ad s ∧ off ad p ∧ off ad u ∧ off ad e) (H : oLi h a b s p u e n t fs fp fn fe P d tl ix fl) (q : wkT) : oLi (PH h (ad 3) (ad 4) (ad 5) (ad 6) (ad 7) q) a b s p u e n t fs fp fn fe P d tl ix fl := by
  obtain ⟨o1, o2, o3, o4, o5, o6⟩ := ho
  obtain ⟨l1, l2, l3, l4, l5, l6, l7⟩ := H
  have key : ∀ y x, h y = some x → off ad y → PH h (ad 3) (ad 4) (ad 5) (ad 6) (ad 7) q y = some x := fun y x hy hf => (PH_O y (by rw [hy]; exact Option.some_ne_none _) hf).trans hy
  exact ⟨key _ _ l1 o1, key _ _ l2 o2, key _ _ l3 o3, key _ _ l4 o4, key _ _ l5 o5, key _ _ l6 o6, l7⟩
/-- a row is tried -/
theorem D_tr {g : z_G} {h : z_H} {ad : Nat → Nat} (hI : aJ ad) {N : z_row} {G : Nat → z_G4} {i la : Nat} (hX : lnX h ad N G i la) (hl : nL N i (G i)) {f fp ft : z_row} {z l m hi9 pl wi y : Int} (hy : 0 ≤ y ∧ y ≤ 60) : z_D g mX4_workLine 14 0 0 [z_r (ad 3), z_r la, z_i y] (PH h (ad 3) (ad 4) (ad 5) (ad 6) (ad 7) (f, fp, ft, z, l, m, hi9, pl, wi)) (fun rv h' => rv = none ∧ ∃ (f' fp' ft' : z_row) (z' l' m' hi' pl' wi' : Int), wkV 0 (wR N G i y) (f', fp', ft', z', l', m', hi', pl', wi') ∧ h' = PH h (ad 3) (ad 4) (ad 5) (ad 6) (ad 7) (f', fp', ft', z', l', m', hi', pl', wi')) := by
  obtain ⟨b, s, p, u, e, t, ix, fl, hO, hL, ht⟩ := hX
  have hG : sgP (nF N i) t (G i).1 (G i).2.1 (G i).2.2.1 (G i).2.2.2.1 6 0 (G i).2.2.2.2 0 (nF N i) := sgP_tx ht _ _ _ _ _ hl.2.2.1
  have hP := sgP_sz _ _ _ _ _ hG
  refine z_D.mono (D_X4_workLine hI.p (oLi_PH hO hL) hG (by omega) hy) ?_
  rintro rv h' ⟨rfl, rfl⟩
  refine ⟨rfl, _, _, _, _, _, _, _, _, _, ?_, rfl⟩
  exact wkR_V
/-- of a working: its bounds -/
theorem wR_b {N : z_row} {G : Nat → z_G4} {i : Nat} {y : Int} (hl : nL N i (G i)) (hy : 0 ≤ y ∧ y ≤ 60) : wkO (wR N G i y) := wkR_O hl.1.1 hl.2.2.1 hy
set_option maxHeartbeats 4000000 in
set_option maxRecDepth 100000 in
theorem D_X8_would {g : z_G} {h : z_H} {ad : Nat → Nat} {Rf Nw Th Tp Lk Ho Sz Im : z_row} {kp : Int} {t ca : Nat} {G Gt : Nat → z_G4} (hI : aJ ad) (hw : cW h ad Rf Nw Th Tp Lk Ho Sz Im kp t ca G Gt) (hwf : nWf Nw G) {li : Int} (hli : z_in li) {y wh : Int} (hy9 : z_in y) (hwh : z_in wh) : z_D g mX8_would 15 0 0 [z_r (ad 0), z_i li, z_i y, z_i wh] h (fun rv h' => (isL Nw li ∧ (0 ≤ y ∧ y ≤ 60) ∧ 0 ≤ wh ∧ wh ≤ 2 → rv = some (z_i (wdV (wR Nw G li.toNat y) wh)) ∧ (cW h' ad Rf Nw Th Tp Lk Ho Sz Im kp t ca G Gt ∧ zfr ad h h')) ∧ (¬ (isL Nw li ∧ (0 ≤ y ∧ y ≤ 60) ∧ 0 ≤ wh ∧ wh ≤ 2) → rv = some (z_i (-92)) ∧ h' = rfH h ad Rf 0)) := by
  refine z_D.of (by decide +kernel) (Nat.le_of_ble_eq_true rfl) (fun X F => ?_)
  obtain ⟨⟨w0, w1, w2, w3⟩, wp, wc, ws, wn, wkk⟩ := id hw
  obtain ⟨Lf, lc, dc, nd, si, mo, se, sd, ln, zz, ff, hs, hL, hk9⟩ := wn
  obtain ⟨⟨rfl, rfl, rfl, rfl, rfl, rfl⟩, hcl, hln⟩ := hk9 trivial
  obtain ⟨e0, e1, e2, e3, b1, b2, b3, b4, b5⟩ := id hs
  obtain ⟨v1, v2, v3, v4, v5, v6, v7⟩ := id hwf
  have w0Q : ∀ q, PH h (ad 3) (ad 4) (ad 5) (ad 6) (ad 7) q (ad 0) = some (c_O 7 [z_r (tN ad 0), z_r (tK ad 0), z_i kp, z_r (ad 1), z_i (t : Int), z_r (ad 2), z_r (ad 3), z_r (ad 8), z_r (ad 10)]) := fun q => (PH_T hI (l := 0) (u := 3) (by decide) (by decide) 0 (by decide) (by decide)).trans w0
  have hsQ : ∀ q, sH (PH h (ad 3) (ad 4) (ad 5) (ad 6) (ad 7) q) (tN ad) Lf (Nw 5020) (Nw 5025) (Nw 5023) (Nw 5022) (Nw 5021) (Nw 5024) sd ln zz ff := fun q => hs.fr (fun t ht => PH_T hI (l := 27) (u := 180) (by decide) (by decide) (27 + t) (by omega) (by omega))
  show z_w g X cX8_would RX8 (15, 0, 0) 0 [z_r (ad 0), z_i li, z_i y, z_i wh, z_u] [] h 0 0
  refine z_aload_n dX8_would_0 rfl ?_
  refine gf_X8_10 dX8_would_1 w0 rfl ?_
  refine z_iload_n dX8_would_4 rfl ?_
  by_cases cl : isL Nw li
  · skip
    refine cs_X8_155 dX8_would_5 (D_X6_lineAt hs (i := li) ⟨by omega, by omega⟩) e0 rfl rfl (Nat.le_of_ble_eq_true rfl) (by decide) (fun rv h' hq => ?_)
    obtain ⟨rfl, hq2⟩ := hq
    refine z_heq hq2 ?_
    obtain ⟨la, lb, ls, lp, lu, le, lt, lix, lfl, hLa, hLo, hLi, hLt, hLz⟩ := hln li.toNat (by omega)
    have hnl := v6 li.toNat (by omega)
    rw [if_pos (show 0 ≤ li ∧ li < Nw 5020 from cl), hLa]
    refine z_ks ?_
    refine z_astore dX8_would_8 (Nat.le_of_ble_eq_true rfl) rfl ?_
    refine z_aload dX8_would_10 rfl ?_
    refine z_ifnull dX8_would_12 (tgt := 34) rfl (fun c1 => by cases c1) (fun _ _ => ?_)
    refine z_iload_n dX8_would_15 rfl ?_
    refine z_if_lt dX8_would_16 (tgt := 34) rfl (by first | exact ⟨by omega, by omega⟩ | exact ⟨by split <;> omega, by split <;> omega⟩) (fun c2 => ?_) (fun c2 => ?_)
    · skip
      refine z_aload_n dX8_would_34 rfl ?_
      refine z_bipush dX8_would_35 rfl ?_
      refine cs_X8_55 dX8_would_37 (D_X8_ref0 hI hw) w0 rfl rfl (Nat.le_of_ble_eq_true rfl) (by decide) (z_ki ?_)
      exact z_iret F dX8_would_40 rfl (by decide) ⟨fun q => absurd q (fun q => by have h1 := q.2; omega), fun _ => ⟨rfl, rfl⟩⟩
    · skip
      refine z_iload_n dX8_would_19 rfl ?_
      refine z_bipush dX8_would_20 rfl ?_
      refine z_icmp_gt dX8_would_22 (tgt := 34) rfl ⟨by omega, by omega⟩ (by decide) (fun c3 => ?_) (fun c3 => ?_)
      · skip
        refine z_aload_n dX8_would_34 rfl ?_
        refine z_bipush dX8_would_35 rfl ?_
        refine cs_X8_55 dX8_would_37 (D_X8_ref0 hI hw) w0 rfl rfl (Nat.le_of_ble_eq_true rfl) (by decide) (z_ki ?_)
        exact z_iret F dX8_would_40 rfl (by decide) ⟨fun q => absurd q (fun q => by have h1 := q.2; omega), fun _ => ⟨rfl, rfl⟩⟩
      · skip
        refine z_iload_n dX8_would_25 rfl ?_
        refine z_if_lt dX8_would_26 (tgt := 34) rfl (by first | exact ⟨by omega, by omega⟩ | exact ⟨by split <;> omega, by split <;> omega⟩) (fun c4 => ?_) (fun c4 => ?_)
        · skip
          refine z_aload_n dX8_would_34 rfl ?_
          refine z_bipush dX8_would_35 rfl ?_
          refine cs_X8_55 dX8_would_37 (D_X8_ref0 hI hw) w0 rfl rfl (Nat.le_of_ble_eq_true rfl) (by decide) (z_ki ?_)
          exact z_iret F dX8_would_40 rfl (by decide) ⟨fun q => absurd q (fun q => by have h1 := q.2; omega), fun _ => ⟨rfl, rfl⟩⟩
        · skip
          refine z_iload_n dX8_would_29 rfl ?_
          refine z_iconst dX8_would_30 ?_
          refine z_icmp_le dX8_would_31 (tgt := 41) rfl ⟨by omega, by omega⟩ (by decide) (fun c5 => ?_) (fun c5 => ?_)
          · skip
            refine z_aload_n dX8_would_41 rfl ?_
            refine gf_X8_32 dX8_would_42 w0 rfl ?_
            refine z_aload dX8_would_45 rfl ?_
            refine z_iload_n dX8_would_47 rfl ?_
            obtain ⟨⟨f0, fp0, ft0, z0, l0, m0, hi0, pl0, wi0⟩, hq0⟩ := wp
            have hX : lnX h ad Nw G li.toNat la := ⟨lb, ls, lp, lu, le, lt, lix, lfl, hLo, hLi, hLt⟩
            refine z_heq hq0 ?_
            refine cs_X8_216 dX8_would_48 (D_tr hI hX hnl (y := y) (by omega)) PHx rfl rfl (Nat.le_of_ble_eq_true rfl) (by decide) (fun rv h' hq => ?_)
            obtain ⟨rfl, f1, fp1, ft1, z1, l1, m1, hi1, pl1, wi1, hV, rfl⟩ := hq
            have hO := wR_b (y := y) hnl (by omega)
            obtain ⟨o1, o2, o3, o4, o5, o6, o7⟩ := hO
            obtain ⟨V1, V2, V3, V4, V5, V6, V7, V8⟩ := id hV
            have Vz : z1 = k_z (wR Nw G li.toNat y) := V2
            have Vl : l1 = k_l (wR Nw G li.toNat y) := V3
            have Vm : m1 = k_m (wR Nw G li.toNat y) := V4
            have Vhi : hi1 = k_h (wR Nw G li.toNat y) := V5
            have Vf : ∀ j : Nat, (j : Int) < k_z (wR Nw G li.toNat y) → f1 j = k_f (wR Nw G li.toNat y) j := V6
            show z_w _ _ _ _ _ _ _ [] _ _ _
            refine z_aload_n dX8_would_51 rfl ?_
            refine gf_X8_32 dX8_would_52 (w0Q _) rfl ?_
            refine cs_X8_220 dX8_would_55 (D_X4_isHitched hI.p (hi := hi1) ⟨by omega, by omega⟩) PHx rfl rfl (Nat.le_of_ble_eq_true rfl) (by decide) (z_ki ?_)
            refine z_if_eq dX8_would_58 (tgt := 63) rfl (by first | exact ⟨by omega, by omega⟩ | exact ⟨by split <;> omega, by split <;> omega⟩) (fun c6 => ?_) (fun c6 => ?_)
            · skip
              refine z_iload_n dX8_would_63 rfl ?_
              by_cases c7_0 : wh = 0
              · refine z_lookup dX8_would_64 ⟨by omega, by omega⟩ (tgt := 92) (off := 28) (by decide) (by rw [c7_0]; rfl) rfl ?_
                refine z_aload_n dX8_would_92 rfl ?_
                refine gf_X8_32 dX8_would_93 (w0Q _) rfl ?_
                refine gf_X8_223 dX8_would_96 PHx rfl ?_
                exact z_iret F dX8_would_99 rfl (by decide) ⟨fun _ => ⟨congrArg (fun z => some (z_i z)) (by unfold wdV; rw [if_neg (by omega), if_pos (by omega)]; exact Vm), ⟨hw.ph hI, PH_Z⟩⟩, fun q => absurd ⟨cl, by omega, by omega⟩ q⟩
              by_cases c7_1 : wh = 1
              · refine z_lookup dX8_would_64 ⟨by omega, by omega⟩ (tgt := 100) (off := 36) (by decide) (by rw [c7_1]; rfl) rfl ?_
                refine z_aload_n dX8_would_100 rfl ?_
                refine gf_X8_32 dX8_would_101 (w0Q _) rfl ?_
                refine gf_X8_226 dX8_would_104 PHx rfl ?_
                refine gf_X8_227 dX8_would_107 (PHc hI.p) rfl ?_
                exact z_iret F dX8_would_110 rfl (by decide) ⟨fun _ => ⟨congrArg (fun z => some (z_i z)) (by unfold wdV; rw [if_neg (by omega), if_neg (by omega), if_pos (by omega)]; exact Vz), ⟨hw.ph hI, PH_Z⟩⟩, fun q => absurd ⟨cl, by omega, by omega⟩ q⟩
              refine z_lookup dX8_would_64 ⟨by omega, by omega⟩ (tgt := 111) (off := 47) (by decide) (by simp [Op.lookupswitch.offset, Ne.symm c7_0, Ne.symm c7_1]) rfl ?_
              refine z_aload_n dX8_would_111 rfl ?_
              refine gf_X8_32 dX8_would_112 (w0Q _) rfl ?_
              refine gf_X8_226 dX8_would_115 PHx rfl ?_
              refine cs_X8_229 dX8_would_118 (D_X7_yarnUsed (h := (PH h (ad 3) (ad 4) (ad 5) (ad 6) (ad 7) (f1, fp1, ft1, z1, l1, m1, hi1, pl1, wi1))) (a := ad 4) (k := ad 5) (z := z1) (f := f1) ⟨PHc hI.p, PHk hI.p, by omega, by omega⟩ (fun j hj => by rw [Vf j (by omega)]; exact o7 j (by omega))) (PHc hI.p) rfl rfl (Nat.le_of_ble_eq_true rfl) (by decide) (z_ki ?_)
              exact z_iret F dX8_would_121 rfl (by decide) ⟨fun _ => ⟨congrArg (fun z => some (z_i z)) (by unfold wdV; rw [if_neg (by omega), if_neg (by omega), if_neg (by omega), Vz]; exact sG_ag _ (fun j hj => Vf j (by omega))), ⟨hw.ph hI, PH_Z⟩⟩, fun q => absurd ⟨cl, by omega, by omega⟩ q⟩
            · skip
              refine z_iconst dX8_would_61 ?_
              exact z_iret F dX8_would_62 rfl (by decide) ⟨fun _ => ⟨congrArg (fun z => some (z_i z)) (by unfold wdV; rw [if_pos (by omega)]), ⟨hw.ph hI, PH_Z⟩⟩, fun q => absurd ⟨cl, by omega, by omega⟩ q⟩
          · skip
            refine z_aload_n dX8_would_34 rfl ?_
            refine z_bipush dX8_would_35 rfl ?_
            refine cs_X8_55 dX8_would_37 (D_X8_ref0 hI hw) w0 rfl rfl (Nat.le_of_ble_eq_true rfl) (by decide) (z_ki ?_)
            exact z_iret F dX8_would_40 rfl (by decide) ⟨fun q => absurd q (fun q => by have h1 := q.2; omega), fun _ => ⟨rfl, rfl⟩⟩
  · skip
    refine cs_X8_155 dX8_would_5 (D_X6_lineAt hs (i := li) ⟨by omega, by omega⟩) e0 rfl rfl (Nat.le_of_ble_eq_true rfl) (by decide) (fun rv h' hq => ?_)
    obtain ⟨rfl, hq2⟩ := hq
    refine z_heq hq2 ?_
    rw [if_neg (show ¬ (0 ≤ li ∧ li < Nw 5020) from cl)]
    refine z_ks ?_
    refine z_astore dX8_would_8 (Nat.le_of_ble_eq_true rfl) rfl ?_
    refine z_aload dX8_would_10 rfl ?_
    refine z_ifnull dX8_would_12 (tgt := 34) rfl (fun _ => ?_) (fun _ c8 => by cases c8)
    refine z_aload_n dX8_would_34 rfl ?_
    refine z_bipush dX8_would_35 rfl ?_
    refine cs_X8_55 dX8_would_37 (D_X8_ref0 hI hw) w0 rfl rfl (Nat.le_of_ble_eq_true rfl) (by decide) (z_ki ?_)
    exact z_iret F dX8_would_40 rfl (by decide) ⟨fun q => absurd q (fun q => cl q.1), fun _ => ⟨rfl, rfl⟩⟩
set_option maxHeartbeats 4000000 in
set_option maxRecDepth 100000 in
theorem D_X8_hitch {g : z_G} {h : z_H} {ad : Nat → Nat} {Rf Nw Th Tp Lk Ho Sz Im : z_row} {kp : Int} {t ca : Nat} {G Gt : Nat → z_G4} (hI : aJ ad) (hw : cW h ad Rf Nw Th Tp Lk Ho Sz Im kp t ca G Gt) (hwf : nWf Nw G) {li : Int} (hli : z_in li) {y : Int} (hy9 : z_in y) : z_D g mX8_hitch 15 0 0 [z_r (ad 0), z_i li, z_i y] h (fun rv h' => (isL Nw li ∧ 0 ≤ y ∧ y ≤ 60 → rv = some (z_i (htV (wR Nw G li.toNat y))) ∧ (cW h' ad Rf Nw Th Tp Lk Ho Sz Im kp t ca G Gt ∧ zfr ad h h')) ∧ (¬ (isL Nw li ∧ 0 ≤ y ∧ y ≤ 60) → rv = some (z_i (-92)) ∧ h' = rfH h ad Rf 0)) := by
  refine z_D.of (by decide +kernel) (Nat.le_of_ble_eq_true rfl) (fun X F => ?_)
  obtain ⟨⟨w0, w1, w2, w3⟩, wp, wc, ws, wn, wkk⟩ := id hw
  obtain ⟨Lf, lc, dc, nd, si, mo, se, sd, ln, zz, ff, hs, hL, hk9⟩ := wn
  obtain ⟨⟨rfl, rfl, rfl, rfl, rfl, rfl⟩, hcl, hln⟩ := hk9 trivial
  obtain ⟨e0, e1, e2, e3, b1, b2, b3, b4, b5⟩ := id hs
  obtain ⟨v1, v2, v3, v4, v5, v6, v7⟩ := id hwf
  have w0Q : ∀ q, PH h (ad 3) (ad 4) (ad 5) (ad 6) (ad 7) q (ad 0) = some (c_O 7 [z_r (tN ad 0), z_r (tK ad 0), z_i kp, z_r (ad 1), z_i (t : Int), z_r (ad 2), z_r (ad 3), z_r (ad 8), z_r (ad 10)]) := fun q => (PH_T hI (l := 0) (u := 3) (by decide) (by decide) 0 (by decide) (by decide)).trans w0
  have hsQ : ∀ q, sH (PH h (ad 3) (ad 4) (ad 5) (ad 6) (ad 7) q) (tN ad) Lf (Nw 5020) (Nw 5025) (Nw 5023) (Nw 5022) (Nw 5021) (Nw 5024) sd ln zz ff := fun q => hs.fr (fun t ht => PH_T hI (l := 27) (u := 180) (by decide) (by decide) (27 + t) (by omega) (by omega))
  show z_w g X cX8_hitch RX8 (15, 0, 0) 0 [z_r (ad 0), z_i li, z_i y, z_u] [] h 0 0
  refine z_aload_n dX8_hitch_0 rfl ?_
  refine gf_X8_10 dX8_hitch_1 w0 rfl ?_
  refine z_iload_n dX8_hitch_4 rfl ?_
  by_cases cl : isL Nw li
  · skip
    refine cs_X8_155 dX8_hitch_5 (D_X6_lineAt hs (i := li) ⟨by omega, by omega⟩) e0 rfl rfl (Nat.le_of_ble_eq_true rfl) (by decide) (fun rv h' hq => ?_)
    obtain ⟨rfl, hq2⟩ := hq
    refine z_heq hq2 ?_
    obtain ⟨la, lb, ls, lp, lu, le, lt, lix, lfl, hLa, hLo, hLi, hLt, hLz⟩ := hln li.toNat (by omega)
    have hnl := v6 li.toNat (by omega)
    rw [if_pos (show 0 ≤ li ∧ li < Nw 5020 from cl), hLa]
    refine z_ks ?_
    refine z_astore_n dX8_hitch_8 (Nat.le_of_ble_eq_true rfl) rfl ?_
    refine z_aload_n dX8_hitch_9 rfl ?_
    refine z_ifnull dX8_hitch_10 (tgt := 23) rfl (fun c1 => by cases c1) (fun _ _ => ?_)
    refine z_iload_n dX8_hitch_13 rfl ?_
    refine z_if_lt dX8_hitch_14 (tgt := 23) rfl (by first | exact ⟨by omega, by omega⟩ | exact ⟨by split <;> omega, by split <;> omega⟩) (fun c2 => ?_) (fun c2 => ?_)
    · skip
      refine z_aload_n dX8_hitch_23 rfl ?_
      refine z_bipush dX8_hitch_24 rfl ?_
      refine cs_X8_55 dX8_hitch_26 (D_X8_ref0 hI hw) w0 rfl rfl (Nat.le_of_ble_eq_true rfl) (by decide) (z_ki ?_)
      exact z_iret F dX8_hitch_29 rfl (by decide) ⟨fun q => absurd q (fun q => by have h1 := q.2; omega), fun _ => ⟨rfl, rfl⟩⟩
    · skip
      refine z_iload_n dX8_hitch_17 rfl ?_
      refine z_bipush dX8_hitch_18 rfl ?_
      refine z_icmp_le dX8_hitch_20 (tgt := 30) rfl ⟨by omega, by omega⟩ (by decide) (fun c3 => ?_) (fun c3 => ?_)
      · skip
        refine z_aload_n dX8_hitch_30 rfl ?_
        refine gf_X8_32 dX8_hitch_31 w0 rfl ?_
        refine z_aload_n dX8_hitch_34 rfl ?_
        refine z_iload_n dX8_hitch_35 rfl ?_
        obtain ⟨⟨f0, fp0, ft0, z0, l0, m0, hi0, pl0, wi0⟩, hq0⟩ := wp
        have hX : lnX h ad Nw G li.toNat la := ⟨lb, ls, lp, lu, le, lt, lix, lfl, hLo, hLi, hLt⟩
        refine z_heq hq0 ?_
        refine cs_X8_216 dX8_hitch_36 (D_tr hI hX hnl (y := y) (by omega)) PHx rfl rfl (Nat.le_of_ble_eq_true rfl) (by decide) (fun rv h' hq => ?_)
        obtain ⟨rfl, f1, fp1, ft1, z1, l1, m1, hi1, pl1, wi1, hV, rfl⟩ := hq
        have hO := wR_b (y := y) hnl (by omega)
        obtain ⟨o1, o2, o3, o4, o5, o6, o7⟩ := hO
        obtain ⟨V1, V2, V3, V4, V5, V6, V7, V8⟩ := id hV
        have Vz : z1 = k_z (wR Nw G li.toNat y) := V2
        have Vl : l1 = k_l (wR Nw G li.toNat y) := V3
        have Vm : m1 = k_m (wR Nw G li.toNat y) := V4
        have Vhi : hi1 = k_h (wR Nw G li.toNat y) := V5
        have Vf : ∀ j : Nat, (j : Int) < k_z (wR Nw G li.toNat y) → f1 j = k_f (wR Nw G li.toNat y) j := V6
        show z_w _ _ _ _ _ _ _ [] _ _ _
        refine z_aload_n dX8_hitch_39 rfl ?_
        refine gf_X8_32 dX8_hitch_40 (w0Q _) rfl ?_
        refine cs_X8_220 dX8_hitch_43 (D_X4_isHitched hI.p (hi := hi1) ⟨by omega, by omega⟩) PHx rfl rfl (Nat.le_of_ble_eq_true rfl) (by decide) (z_ki ?_)
        refine z_if_eq dX8_hitch_46 (tgt := 59) rfl (by first | exact ⟨by omega, by omega⟩ | exact ⟨by split <;> omega, by split <;> omega⟩) (fun c4 => ?_) (fun c4 => ?_)
        · skip
          refine z_iconst dX8_hitch_59 ?_
          exact z_iret F dX8_hitch_60 rfl (by decide) ⟨fun _ => ⟨congrArg (fun z => some (z_i z)) (by unfold htV; rw [if_pos (by omega)]), ⟨hw.ph hI, PH_Z⟩⟩, fun q => absurd ⟨cl, by omega, by omega⟩ q⟩
        · skip
          refine z_aload_n dX8_hitch_49 rfl ?_
          refine gf_X8_32 dX8_hitch_50 (w0Q _) rfl ?_
          refine gf_X8_232 dX8_hitch_53 PHx rfl ?_
          refine z_goto dX8_hitch_56 (tgt := 60) rfl ?_
          exact z_iret F dX8_hitch_60 rfl (by decide) ⟨fun _ => ⟨congrArg (fun z => some (z_i z)) (by unfold htV; rw [if_neg (by omega)]; exact Vhi), ⟨hw.ph hI, PH_Z⟩⟩, fun q => absurd ⟨cl, by omega, by omega⟩ q⟩
      · skip
        refine z_aload_n dX8_hitch_23 rfl ?_
        refine z_bipush dX8_hitch_24 rfl ?_
        refine cs_X8_55 dX8_hitch_26 (D_X8_ref0 hI hw) w0 rfl rfl (Nat.le_of_ble_eq_true rfl) (by decide) (z_ki ?_)
        exact z_iret F dX8_hitch_29 rfl (by decide) ⟨fun q => absurd q (fun q => by have h1 := q.2; omega), fun _ => ⟨rfl, rfl⟩⟩
  · skip
    refine cs_X8_155 dX8_hitch_5 (D_X6_lineAt hs (i := li) ⟨by omega, by omega⟩) e0 rfl rfl (Nat.le_of_ble_eq_true rfl) (by decide) (fun rv h' hq => ?_)
    obtain ⟨rfl, hq2⟩ := hq
    refine z_heq hq2 ?_
    rw [if_neg (show ¬ (0 ≤ li ∧ li < Nw 5020) from cl)]
    refine z_ks ?_
    refine z_astore_n dX8_hitch_8 (Nat.le_of_ble_eq_true rfl) rfl ?_
    refine z_aload_n dX8_hitch_9 rfl ?_
    refine z_ifnull dX8_hitch_10 (tgt := 23) rfl (fun _ => ?_) (fun _ c5 => by cases c5)
    refine z_aload_n dX8_hitch_23 rfl ?_
    refine z_bipush dX8_hitch_24 rfl ?_
    refine cs_X8_55 dX8_hitch_26 (D_X8_ref0 hI hw) w0 rfl rfl (Nat.le_of_ble_eq_true rfl) (by decide) (z_ki ?_)
    exact z_iret F dX8_hitch_29 rfl (by decide) ⟨fun q => absurd q (fun q => cl q.1), fun _ => ⟨rfl, rfl⟩⟩
set_option maxHeartbeats 4000000 in
set_option maxRecDepth 100000 in
theorem D_X8_fits {g : z_G} {h : z_H} {ad : Nat → Nat} {Rf Nw Th Tp Lk Ho Sz Im : z_row} {kp : Int} {t ca : Nat} {G Gt : Nat → z_G4} (hI : aJ ad) (hw : cW h ad Rf Nw Th Tp Lk Ho Sz Im kp t ca G Gt) (hwf : nWf Nw G) {li : Int} (hli : z_in li) : z_D g mX8_fits 15 0 0 [z_r (ad 0), z_i li] h (fun rv h' => (isL Nw li → (∃ v : Nat, rv = some (z_l (v : Int)) ∧ ∀ p, v.testBit p = true ↔ (p ≤ 60 ∧ k_h (wR Nw G li.toNat (p : Int)) = 0)) ∧ (cW h' ad Rf Nw Th Tp Lk Ho Sz Im kp t ca G Gt ∧ zfr ad h h')) ∧ (¬ (isL Nw li) → rv = some (z_l (-92 - 9000000000000000000)) ∧ h' = rfH h ad Rf 0)) := by
  refine z_D.of (by decide +kernel) (Nat.le_of_ble_eq_true rfl) (fun X F => ?_)
  obtain ⟨⟨w0, w1, w2, w3⟩, wp, wc, ws, wn, wkk⟩ := id hw
  obtain ⟨Lf, lc, dc, nd, si, mo, se, sd, ln, zz, ff, hs, hL, hk9⟩ := wn
  obtain ⟨⟨rfl, rfl, rfl, rfl, rfl, rfl⟩, hcl, hln⟩ := hk9 trivial
  obtain ⟨e0, e1, e2, e3, b1, b2, b3, b4, b5⟩ := id hs
  obtain ⟨v1, v2, v3, v4, v5, v6, v7⟩ := id hwf
  have w0Q : ∀ q, PH h (ad 3) (ad 4) (ad 5) (ad 6) (ad 7) q (ad 0) = some (c_O 7 [z_r (tN ad 0), z_r (tK ad 0), z_i kp, z_r (ad 1), z_i (t : Int), z_r (ad 2), z_r (ad 3), z_r (ad 8), z_r (ad 10)]) := fun q => (PH_T hI (l := 0) (u := 3) (by decide) (by decide) 0 (by decide) (by decide)).trans w0
  have hsQ : ∀ q, sH (PH h (ad 3) (ad 4) (ad 5) (ad 6) (ad 7) q) (tN ad) Lf (Nw 5020) (Nw 5025) (Nw 5023) (Nw 5022) (Nw 5021) (Nw 5024) sd ln zz ff := fun q => hs.fr (fun t ht => PH_T hI (l := 27) (u := 180) (by decide) (by decide) (27 + t) (by omega) (by omega))
  show z_w g X cX8_fits RX8 (15, 0, 0) 0 [z_r (ad 0), z_i li, z_u, z_u, z_u, z_u] [] h 0 0
  refine z_aload_n dX8_fits_0 rfl ?_
  refine gf_X8_10 dX8_fits_1 w0 rfl ?_
  refine z_iload_n dX8_fits_4 rfl ?_
  by_cases cl : isL Nw li
  · skip
    refine cs_X8_155 dX8_fits_5 (D_X6_lineAt hs (i := li) ⟨by omega, by omega⟩) e0 rfl rfl (Nat.le_of_ble_eq_true rfl) (by decide) (fun rv h' hq => ?_)
    obtain ⟨rfl, hq2⟩ := hq
    refine z_heq hq2 ?_
    obtain ⟨la, lb, ls, lp, lu, le, lt, lix, lfl, hLa, hLo, hLi, hLt, hLz⟩ := hln li.toNat (by omega)
    have hnl := v6 li.toNat (by omega)
    rw [if_pos (show 0 ≤ li ∧ li < Nw 5020 from cl), hLa]
    refine z_ks ?_
    refine z_astore_n dX8_fits_8 (Nat.le_of_ble_eq_true rfl) rfl ?_
    refine z_aload_n dX8_fits_9 rfl ?_
    refine z_ifnonnull dX8_fits_10 (tgt := 20) rfl (fun _ _ => ?_) (fun c1 => by cases c1)
    refine z_lconst0 dX8_fits_20 ?_
    refine z_lstore_n dX8_fits_21 (Nat.le_of_ble_eq_true rfl) rfl ?_
    refine z_iconst dX8_fits_22 ?_
    refine z_istore dX8_fits_23 (Nat.le_of_ble_eq_true rfl) rfl ?_
    obtain ⟨⟨f0, fp0, ft0, z0, l0, m0, hi0, pl0, wi0⟩, hq0⟩ := wp
    have hX : lnX h ad Nw G li.toNat la := ⟨lb, ls, lp, lu, le, lt, lix, lfl, hLo, hLi, hLt⟩
    refine z_heq hq0 ?_
    refine z_lseq (ls2 := [z_r (ad 0), z_i li, z_r la, z_l ((0 : Nat) : Int), z_u, z_i ((0 : Nat) : Int)]) rfl ?_
    have L4 : ∀ (fu : Nat) (r v : Nat) (f7 fp7 ft7 : z_row) (z7 l7 m7 hi7 pl7 wi7 : Int) (q1 : r ≤ 61) (q2 : v < 2 ^ 61 ∧ ∀ p, v.testBit p = true ↔ (p < r ∧ k_h (wR Nw G li.toNat (p : Int)) = 0)), 62 - r < fu → z_w g X cX8_fits RX8 (15, 0, 0) 25 [z_r (ad 0), z_i li, z_r la, z_l (v : Int), z_u, z_i (r : Int)] [] (PH h (ad 3) (ad 4) (ad 5) (ad 6) (ad 7) (f7, fp7, ft7, z7, l7, m7, hi7, pl7, wi7)) 0 0 := by
      intro fu
      induction fu with
      | zero => intro r v f7 fp7 ft7 z7 l7 m7 hi7 pl7 wi7 q1 q2 hm; exact absurd hm (Nat.not_lt_zero _)
      | succ fu ih =>
        intro r v f7 fp7 ft7 z7 l7 m7 hi7 pl7 wi7 q1 q2 hm
        refine z_iload dX8_fits_25 rfl ?_
        refine z_bipush dX8_fits_27 rfl ?_
        refine z_icmp_gt dX8_fits_29 (tgt := 65) rfl ⟨by omega, by omega⟩ (by decide) (fun c2 => ?_) (fun c2 => ?_)
        · skip
          refine z_lload_n dX8_fits_65 rfl ?_
          exact z_lret F dX8_fits_66 rfl (by decide) ⟨fun q => ⟨⟨v, rfl, fun p => (q2.2 p).trans ⟨fun h => ⟨by omega, h.2⟩, fun h => ⟨by omega, h.2⟩⟩⟩, ⟨hw.ph hI, PH_Z⟩⟩, fun q => absurd cl q⟩
        · skip
          refine z_aload_n dX8_fits_32 rfl ?_
          refine gf_X8_32 dX8_fits_33 (w0Q _) rfl ?_
          refine z_aload_n dX8_fits_36 rfl ?_
          refine z_iload dX8_fits_37 rfl ?_
          refine cs_X8_216 dX8_fits_39 (D_tr hI hX hnl (y := (r : Int)) (by omega)) PHx rfl rfl (Nat.le_of_ble_eq_true rfl) (by decide) (fun rv h' hq => ?_)
          obtain ⟨rfl, f1, fp1, ft1, z1, l1, m1, hi1, pl1, wi1, hV, rfl⟩ := hq
          have hO := wR_b (y := (r : Int)) hnl (by omega)
          obtain ⟨o1, o2, o3, o4, o5, o6, o7⟩ := hO
          obtain ⟨V1, V2, V3, V4, V5, V6, V7, V8⟩ := id hV
          have Vz : z1 = k_z (wR Nw G li.toNat (r : Int)) := V2
          have Vl : l1 = k_l (wR Nw G li.toNat (r : Int)) := V3
          have Vm : m1 = k_m (wR Nw G li.toNat (r : Int)) := V4
          have Vhi : hi1 = k_h (wR Nw G li.toNat (r : Int)) := V5
          have Vf : ∀ j : Nat, (j : Int) < k_z (wR Nw G li.toNat (r : Int)) → f1 j = k_f (wR Nw G li.toNat (r : Int)) j := V6
          show z_w _ _ _ _ _ _ _ [] _ _ _
          refine z_aload_n dX8_fits_42 rfl ?_
          refine gf_X8_32 dX8_fits_43 (w0Q _) rfl ?_
          refine cs_X8_220 dX8_fits_46 (D_X4_isHitched hI.p (hi := hi1) ⟨by omega, by omega⟩) PHx rfl rfl (Nat.le_of_ble_eq_true rfl) (by decide) (z_ki ?_)
          refine z_if_ne dX8_fits_49 (tgt := 59) rfl (by first | exact ⟨by omega, by omega⟩ | exact ⟨by split <;> omega, by split <;> omega⟩) (fun c3 => ?_) (fun c3 => ?_)
          · skip
            have h0 : ¬ k_h (wR Nw G li.toNat (r : Int)) = 0 := by intro q; rw [if_pos (by omega)] at c3; exact c3 rfl
            refine z_iinc dX8_fits_59 rfl rfl ?_
            refine z_goto dX8_fits_62 (tgt := 25) rfl ?_
            exact ih (r + 1) _ f1 fp1 ft1 z1 l1 m1 hi1 pl1 wi1 (by omega) ⟨Nat.lt_of_lt_of_le q2.1 (Nat.le_refl _), fun p => by rw [q2.2 p]; exact ⟨fun q => ⟨by omega, q.2⟩, fun q => ⟨(Nat.lt_or_ge p r).elim (fun c => c) (fun c => by obtain rfl : p = r := (by omega); exact absurd q.2 h0), q.2⟩⟩⟩ (by omega)
          · skip
            have h0 : k_h (wR Nw G li.toNat (r : Int)) = 0 := by by_cases q : hi1 = 0; omega; (rw [if_neg q] at c3; exact absurd c3 (by decide))
            have hp : (1 * 2 ^ r : Nat) < 2 ^ 61 := by rw [Nat.one_mul]; exact Nat.pow_lt_pow_right (by decide) (by omega)
            refine z_lload_n dX8_fits_52 rfl ?_
            refine z_lconst1 dX8_fits_53 ?_
            refine z_iload dX8_fits_54 rfl ?_
            refine z_lshl (a := 1) (s := r) (by omega) dX8_fits_56 ?_
            refine z_lor (a := v) (b := (1 * 2 ^ r)) (by have := q2.1; omega) (by omega) dX8_fits_57 ?_
            refine z_lstore_n dX8_fits_58 (Nat.le_of_ble_eq_true rfl) rfl ?_
            refine z_iinc dX8_fits_59 rfl rfl ?_
            refine z_goto dX8_fits_62 (tgt := 25) rfl ?_
            exact ih (r + 1) _ f1 fp1 ft1 z1 l1 m1 hi1 pl1 wi1 (by omega) ⟨Nat.or_lt_two_pow q2.1 hp, fun p => by rw [Nat.testBit_or, Nat.one_mul, Nat.testBit_two_pow, Bool.or_eq_true, q2.2 p, decide_eq_true_eq]; exact ⟨fun q => q.elim (fun q => ⟨by omega, q.2⟩) (fun q => by obtain rfl : r = p := q; exact ⟨by omega, h0⟩), fun q => (Nat.lt_or_ge p r).elim (fun c => Or.inl ⟨c, q.2⟩) (fun c => Or.inr (by omega))⟩⟩ (by omega)
    exact L4 63 0 0 f0 fp0 ft0 z0 l0 m0 hi0 pl0 wi0 (by omega) ⟨by decide, fun p => tb_0.trans ⟨fun h => h.elim, fun h => by omega⟩⟩ (by omega)
  · skip
    refine cs_X8_155 dX8_fits_5 (D_X6_lineAt hs (i := li) ⟨by omega, by omega⟩) e0 rfl rfl (Nat.le_of_ble_eq_true rfl) (by decide) (fun rv h' hq => ?_)
    obtain ⟨rfl, hq2⟩ := hq
    refine z_heq hq2 ?_
    rw [if_neg (show ¬ (0 ≤ li ∧ li < Nw 5020) from cl)]
    refine z_ks ?_
    refine z_astore_n dX8_fits_8 (Nat.le_of_ble_eq_true rfl) rfl ?_
    refine z_aload_n dX8_fits_9 rfl ?_
    refine z_ifnonnull dX8_fits_10 (tgt := 20) rfl (fun _ c4 => by cases c4) (fun _ => ?_)
    refine z_aload_n dX8_fits_13 rfl ?_
    refine z_bipush dX8_fits_14 rfl ?_
    refine cs_X8_235 dX8_fits_16 (D_X8_refuseLong hI hw) w0 rfl rfl (Nat.le_of_ble_eq_true rfl) (by decide) (z_kl ?_)
    exact z_lret F dX8_fits_19 rfl (by decide) ⟨fun q => absurd q (cl), fun q => ⟨rfl, rfl⟩⟩
set_option maxHeartbeats 4000000 in
set_option maxRecDepth 100000 in
theorem D_X8_countBehind {g : z_G} {h : z_H} {ad : Nat → Nat} {Rf Nw Th Tp Lk Ho Sz Im : z_row} {kp : Int} {t ca : Nat} {G Gt : Nat → z_G4} (hI : aJ ad) (hw : cW h ad Rf Nw Th Tp Lk Ho Sz Im kp t ca G Gt) (hwf : nWf Nw G) {a9 m9 : Nat} (ham : (a9 : Int) + m9 ≤ Nw 5020) {b9 : Int} (hb9 : b9 = (a9 : Int) + m9 - 1) {y : Int} (hy9 : 0 ≤ y ∧ y ≤ 60) : z_D g mX8_countBehind 15 0 0 [z_r (ad 0), z_i (a9 : Int), z_i b9, z_i y] h (fun rv h' => rv = some (z_i (cbF Nw G m9 a9 y)) ∧ ∃ (f6 fp6 ft6 : z_row) (z6 l6 m6 hi6 pl6 wi6 : Int), h' = (PH h (ad 3) (ad 4) (ad 5) (ad 6) (ad 7) (f6, fp6, ft6, z6, l6, m6, hi6, pl6, wi6))) := by
  refine z_D.of (by decide +kernel) (Nat.le_of_ble_eq_true rfl) (fun X F => ?_)
  obtain ⟨⟨w0, w1, w2, w3⟩, wp, wc, ws, wn, wkk⟩ := id hw
  obtain ⟨Lf, lc, dc, nd, si, mo, se, sd, ln, zz, ff, hs, hL, hk9⟩ := wn
  obtain ⟨⟨rfl, rfl, rfl, rfl, rfl, rfl⟩, hcl, hln⟩ := hk9 trivial
  obtain ⟨e0, e1, e2, e3, b1, b2, b3, b4, b5⟩ := id hs
  obtain ⟨v1, v2, v3, v4, v5, v6, v7⟩ := id hwf
  have w0Q : ∀ q, PH h (ad 3) (ad 4) (ad 5) (ad 6) (ad 7) q (ad 0) = some (c_O 7 [z_r (tN ad 0), z_r (tK ad 0), z_i kp, z_r (ad 1), z_i (t : Int), z_r (ad 2), z_r (ad 3), z_r (ad 8), z_r (ad 10)]) := fun q => (PH_T hI (l := 0) (u := 3) (by decide) (by decide) 0 (by decide) (by decide)).trans w0
  have hsQ : ∀ q, sH (PH h (ad 3) (ad 4) (ad 5) (ad 6) (ad 7) q) (tN ad) Lf (Nw 5020) (Nw 5025) (Nw 5023) (Nw 5022) (Nw 5021) (Nw 5024) sd ln zz ff := fun q => hs.fr (fun t ht => PH_T hI (l := 27) (u := 180) (by decide) (by decide) (27 + t) (by omega) (by omega))
  show z_w g X cX8_countBehind RX8 (15, 0, 0) 0 [z_r (ad 0), z_i (a9 : Int), z_i b9, z_i y, z_u, z_u, z_u] [] h 0 0
  refine z_iload_n dX8_countBehind_0 rfl ?_
  refine z_istore dX8_countBehind_1 (Nat.le_of_ble_eq_true rfl) rfl ?_
  refine z_iload_n dX8_countBehind_3 rfl ?_
  refine z_istore dX8_countBehind_4 (Nat.le_of_ble_eq_true rfl) rfl ?_
  obtain ⟨⟨f0, fp0, ft0, z0, l0, m0, hi0, pl0, wi0⟩, hq0⟩ := wp
  refine z_heq hq0 ?_
  have L4 : ∀ (fu : Nat) (k rm : Nat) (on : Int) (y6 : z_V) (f7 fp7 ft7 : z_row) (z7 l7 m7 hi7 pl7 wi7 : Int) (q1 : k + rm = a9 + m9) (q2 : 0 ≤ on ∧ on ≤ 60) (q3 : cbF Nw G m9 a9 y = cbF Nw G rm k on), rm < fu → z_w g X cX8_countBehind RX8 (15, 0, 0) 6 [z_r (ad 0), z_i (a9 : Int), z_i b9, z_i y, z_i on, z_i (k : Int), y6] [] (PH h (ad 3) (ad 4) (ad 5) (ad 6) (ad 7) (f7, fp7, ft7, z7, l7, m7, hi7, pl7, wi7)) 0 0 := by
    intro fu
    induction fu with
    | zero => intro k rm on y6 f7 fp7 ft7 z7 l7 m7 hi7 pl7 wi7 q1 q2 q3 hm; exact absurd hm (Nat.not_lt_zero _)
    | succ fu ih =>
      intro k rm on y6 f7 fp7 ft7 z7 l7 m7 hi7 pl7 wi7 q1 q2 q3 hm
      refine z_iload dX8_countBehind_6 rfl ?_
      refine z_iload_n dX8_countBehind_8 rfl ?_
      refine z_icmp_gt dX8_countBehind_9 (tgt := 68) rfl ⟨by omega, by omega⟩ ⟨by omega, by omega⟩ (fun c1 => ?_) (fun c1 => ?_)
      · skip
        obtain rfl : rm = 0 := by omega
        refine z_iload dX8_countBehind_68 rfl ?_
        exact z_iret F dX8_countBehind_70 rfl (by decide) ⟨congrArg (fun z => some (z_i z)) (by rw [q3]; rfl), _, _, _, _, _, _, _, _, _, rfl⟩
      · skip
        obtain ⟨rm2, rfl⟩ : ∃ y, rm = y + 1 := ⟨rm - 1, by omega⟩
        refine z_aload_n dX8_countBehind_12 rfl ?_
        refine gf_X8_10 dX8_countBehind_13 (w0Q _) rfl ?_
        refine z_iload dX8_countBehind_16 rfl ?_
        refine cs_X8_155 dX8_countBehind_18 (D_X6_lineAt (hsQ _) (i := (k : Int)) ⟨by omega, by omega⟩) (hsQ _).1 rfl rfl (Nat.le_of_ble_eq_true rfl) (by decide) (fun rv h' hq => ?_)
        obtain ⟨rfl, hq2⟩ := hq
        refine z_heq hq2 ?_
        obtain ⟨la, lb, ls, lp, lu, le, lt, lix, lfl, hLa, hLo, hLi, hLt, hLz⟩ := hln k (by omega)
        have hnl := v6 k (by omega)
        have hX : lnX h ad Nw G k la := ⟨lb, ls, lp, lu, le, lt, lix, lfl, hLo, hLi, hLt⟩
        rw [if_pos (show 0 ≤ (k : Int) ∧ (k : Int) < Nw 5020 from ⟨by omega, by omega⟩), Int.toNat_natCast, hLa]
        refine z_ks ?_
        refine z_astore dX8_countBehind_21 (Nat.le_of_ble_eq_true rfl) rfl ?_
        refine z_aload dX8_countBehind_23 rfl ?_
        refine z_ifnonnull dX8_countBehind_25 (tgt := 30) rfl (fun _ _ => ?_) (fun c2 => by cases c2)
        refine z_aload_n dX8_countBehind_30 rfl ?_
        refine gf_X8_32 dX8_countBehind_31 (w0Q _) rfl ?_
        refine z_aload dX8_countBehind_34 rfl ?_
        refine z_iload dX8_countBehind_36 rfl ?_
        refine cs_X8_216 dX8_countBehind_38 (D_tr hI hX hnl (y := on) (by omega)) PHx rfl rfl (Nat.le_of_ble_eq_true rfl) (by decide) (fun rv h' hq => ?_)
        obtain ⟨rfl, f1, fp1, ft1, z1, l1, m1, hi1, pl1, wi1, hV, rfl⟩ := hq
        have hO := wR_b (y := on) hnl (by omega)
        obtain ⟨o1, o2, o3, o4, o5, o6, o7⟩ := hO
        obtain ⟨V1, V2, V3, V4, V5, V6, V7, V8⟩ := id hV
        have Vz : z1 = k_z (wR Nw G k on) := V2
        have Vl : l1 = k_l (wR Nw G k on) := V3
        have Vm : m1 = k_m (wR Nw G k on) := V4
        have Vhi : hi1 = k_h (wR Nw G k on) := V5
        have Vf : ∀ j : Nat, (j : Int) < k_z (wR Nw G k on) → f1 j = k_f (wR Nw G k on) j := V6
        show z_w _ _ _ _ _ _ _ [] _ _ _
        refine z_aload_n dX8_countBehind_41 rfl ?_
        refine gf_X8_32 dX8_countBehind_42 (w0Q _) rfl ?_
        refine cs_X8_220 dX8_countBehind_45 (D_X4_isHitched hI.p (hi := hi1) ⟨by omega, by omega⟩) PHx rfl rfl (Nat.le_of_ble_eq_true rfl) (by decide) (z_ki ?_)
        refine z_if_eq dX8_countBehind_48 (tgt := 53) rfl (by first | exact ⟨by omega, by omega⟩ | exact ⟨by split <;> omega, by split <;> omega⟩) (fun c3 => ?_) (fun c3 => ?_)
        · skip
          have h0 : hi1 = 0 := by by_cases q : hi1 = 0; exact q; (rw [if_neg q] at c3; exact absurd c3 (by decide))
          refine z_aload_n dX8_countBehind_53 rfl ?_
          refine gf_X8_32 dX8_countBehind_54 (w0Q _) rfl ?_
          refine gf_X8_223 dX8_countBehind_57 PHx rfl ?_
          refine z_istore dX8_countBehind_60 (Nat.le_of_ble_eq_true rfl) rfl ?_
          refine z_iinc dX8_countBehind_62 rfl rfl ?_
          refine z_goto dX8_countBehind_65 (tgt := 6) rfl ?_
          exact ih (k + 1) rm2 _ _ f1 fp1 ft1 z1 l1 m1 hi1 pl1 wi1 (by omega) (by omega) (by rw [q3, Vm]; exact if_neg (fun q => q (by omega))) (by omega)
        · skip
          have hi0_ : hi1 ≠ 0 := fun q => by rw [if_pos q] at c3; exact c3 rfl
          refine z_iconst dX8_countBehind_51 ?_
          exact z_iret F dX8_countBehind_52 rfl (by decide) ⟨congrArg (fun z => some (z_i z)) (by rw [q3]; exact (if_pos (fun q => hi0_ (by omega))).symm), _, _, _, _, _, _, _, _, _, rfl⟩
  exact L4 (m9 + 1) a9 m9 y _ f0 fp0 ft0 z0 l0 m0 hi0 pl0 wi0 rfl hy9 rfl (by omega)
