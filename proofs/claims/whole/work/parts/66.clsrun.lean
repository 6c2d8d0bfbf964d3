/-! KnitReader: work, run, days -/
theorem lkN_8 {tm : Int} {q : wkT} (hw : 0 ≤ k_w q ∧ k_w q ≤ 5) : lkN tm q ≤ 8 := by
  unfold lkN
  split <;> omega
theorem tnP.iw {R : wkT} {f fp ft : z_row} {z l m h p w : Int} (H : tnP R (f, fp, ft, z, l, m, h, p, w)) : ∃ iw : Nat, w = (iw : Int) ∧ iw ≤ 5 := by
  obtain ⟨-, -, -, -, -, -, -, h1, h2⟩ := H
  have h1 : 0 ≤ w := h1
  have h2 : w ≤ 5 := h2
  exact ⟨w.toNat, by omega, by omega⟩
set_option maxHeartbeats 4000000 in
set_option maxRecDepth 100000 in
theorem D_X8_work {g : z_G} {h : z_H} {ad : Nat → Nat} {Rf Nw Th Tp Lk Ho Sz Im : z_row} {kp : Int} {t ca : Nat} {G Gt : Nat → z_G4} (hI : aJ ad) (hw : cW h ad Rf Nw Th Tp Lk Ho Sz Im kp t ca G Gt) (hwf : nWf Nw G) {li : Int} (hli : z_in li) : z_D g mX8_work 16 0 0 [z_r (ad 0), z_i li] h (fun rv h' => (¬ isL Nw li → rv = some (z_i (-92)) ∧ h' = rfH h ad Rf 0) ∧ (isL Nw li → (k_h (tnR Nw G li.toNat) ≠ 0 → rv = some (z_i (-95)) ∧ ∃ Lk' : z_row, lkP Lk' 0 li (tnR Nw G li.toNat) (lkN 0 (tnR Nw G li.toNat)) ∧ (cW h' ad (z_sf Rf 3 (Rf 3 + 1)) Nw Th Tp Lk' Ho Sz Im kp t (lkN 0 (tnR Nw G li.toNat)) G Gt ∧ zfr ad h h')) ∧ (k_h (tnR Nw G li.toNat) = 0 → rv = some (z_i (k_m (tnR Nw G li.toNat))) ∧ (cW h' ad Rf (dnS Nw G li.toNat) Th Tp Lk Ho Sz Im kp t ca G Gt ∧ zfr ad h h')))) := by
  refine z_D.of (by decide +kernel) (Nat.le_of_ble_eq_true rfl) (fun X F => ?_)
  obtain ⟨⟨w0, w1, w2, w3⟩, wp, wc, ws, wn, wkk⟩ := id hw
  obtain ⟨Lf, lc, dc, nd, si, mo, se, sd, ln, zz, ff, hs, hL, hk9⟩ := wn
  obtain ⟨⟨rfl, rfl, rfl, rfl, rfl, rfl⟩, hcl, hln⟩ := hk9 trivial
  obtain ⟨e0, e1, e2, e3, b1, b2, b3, b4, b5⟩ := id hs
  obtain ⟨v1, v2, v3, v4, v5, v6, v7⟩ := id hwf
  have w0Q : ∀ q, PH h (ad 3) (ad 4) (ad 5) (ad 6) (ad 7) q (ad 0) = some (c_O 7 [z_r (tN ad 0), z_r (tK ad 0), z_i kp, z_r (ad 1), z_i (t : Int), z_r (ad 2), z_r (ad 3), z_r (ad 8), z_r (ad 10)]) := fun q => (PH_T hI (l := 0) (u := 3) (by decide) (by decide) 0 (by decide) (by decide)).trans w0
  have hsQ : ∀ q, sH (PH h (ad 3) (ad 4) (ad 5) (ad 6) (ad 7) q) (tN ad) Lf (Nw 5020) (Nw 5025) (Nw 5023) (Nw 5022) (Nw 5021) (Nw 5024) sd ln zz ff := fun q => hs.fr (fun t ht => PH_T hI (l := 27) (u := 180) (by decide) (by decide) (27 + t) (by omega) (by omega))
  have e0Q : ∀ q, PH h (ad 3) (ad 4) (ad 5) (ad 6) (ad 7) q (tN ad 0) = some (c_O 5 [z_r (tN ad 1), z_r (tN ad 2), z_i (Nw 5020), z_i (Nw 5025), z_i (Nw 5023), z_i (Nw 5022), z_i (Nw 5021), z_i (Nw 5024)]) := fun q => (hsQ q).1
  obtain ⟨fc, wc1, wc2⟩ := wc
  show z_w g X cX8_work RX8 (16, 0, 0) 0 [z_r (ad 0), z_i li, z_u] [] h 0 0
  refine z_aload_n dX8_work_0 rfl ?_
  refine gf_X8_10 dX8_work_1 w0 rfl ?_
  refine z_iload_n dX8_work_4 rfl ?_
  by_cases cl : isL Nw li
  · skip
    refine cs_X8_155 dX8_work_5 (D_X6_lineAt hs (i := li) ⟨by omega, by omega⟩) e0 rfl rfl (Nat.le_of_ble_eq_true rfl) (by decide) (fun rv h' hq => ?_)
    obtain ⟨rfl, hq2⟩ := hq
    refine z_heq hq2 ?_
    obtain ⟨la, lb, ls, lp, lu, le, lt, lix, lfl, hLa, hLo, hLi, hLt, hLz⟩ := hln li.toNat (by omega)
    have hnl := v6 li.toNat (by omega)
    rw [if_pos (show 0 ≤ li ∧ li < Nw 5020 from cl), hLa]
    refine z_ks ?_
    refine z_astore_n dX8_work_8 (Nat.le_of_ble_eq_true rfl) rfl ?_
    refine z_aload_n dX8_work_9 rfl ?_
    refine z_ifnonnull dX8_work_10 (tgt := 20) rfl (fun _ _ => ?_) (fun c1 => by cases c1)
    refine z_aload_n dX8_work_20 rfl ?_
    refine z_aload_n dX8_work_21 rfl ?_
    refine z_iload_n dX8_work_22 rfl ?_
    refine z_ieq (y := (li.toNat : Int)) (by omega) ?_
    have hX : lnX h ad Nw G li.toNat la := ⟨lb, ls, lp, lu, le, lt, lix, lfl, hLo, hLi, hLt⟩
    refine cs_X8_187 dX8_work_23 (D_X8_workInTruth hI hw hwf (i := li.toNat) (by omega) hX) w0 rfl rfl (Nat.le_of_ble_eq_true rfl) (by decide) (fun rv h' hq => ?_)
    by_cases h0 : k_h (tnR Nw G li.toNat) = 0
    · obtain ⟨rfl, hw2, hz2⟩ := hq.2 h0
      refine z_ks ?_
      obtain ⟨⟨x0, -, -, -⟩, -, -, -, xn, -⟩ := id hw2
      obtain ⟨Lf2, lc2, dc2, nd2, si2, mo2, se2, sd2, ln2, zz2, ff2, hs2, -, hk2⟩ := xn
      obtain ⟨⟨rfl, rfl, rfl, rfl, rfl, rfl⟩, -, -⟩ := hk2 trivial
      have n23 : dnS Nw G li.toNat 5023 = k_m (tnR Nw G li.toNat) := dn_23
      refine z_if_ne dX8_work_26 (tgt := 48) rfl (by decide) (fun c2 => ?_) (fun c2 => ?_)
      · skip
        refine z_aload_n dX8_work_48 rfl ?_
        refine gf_X8_10 dX8_work_49 x0 rfl ?_
        refine gf_X8_181 dX8_work_52 hs2.1 rfl ?_
        exact z_iret F dX8_work_55 rfl (by decide) ⟨fun q => absurd cl q, fun _ => ⟨fun q => absurd h0 q, fun _ => ⟨congrArg (fun z => some (z_i z)) n23, hw2, hz2⟩⟩⟩
      · exact absurd c2 (by decide)
    · obtain ⟨rfl, f1, fp1, ft1, z1, l1, m1, hi1, pl1, wi1, hV, rfl⟩ := hq.1 h0
      refine z_ks ?_
      obtain ⟨iw, rfl, hiw⟩ := hV.iw
      have oc8 : oCh (PH h (ad 3) (ad 4) (ad 5) (ad 6) (ad 7) (f1, fp1, ft1, z1, l1, m1, hi1, pl1, (iw : Int))) (ad 8) (ad 9) ca fc := ⟨(PH_T hI (l := 8) (u := 10) (by decide) (by decide) 8 (by decide) (by decide)).trans wc1.1, (PH_T hI (l := 8) (u := 10) (by decide) (by decide) 9 (by decide) (by decide)).trans wc1.2.1, wc1.2.2⟩
      refine z_if_ne dX8_work_26 (tgt := 48) rfl (by decide) (fun c3 => ?_) (fun c3 => ?_)
      · exact absurd c3 (by decide)
      · skip
        refine z_aload_n dX8_work_29 rfl ?_
        refine gf_X8_39 dX8_work_30 (w0Q _) rfl ?_
        refine cs_X8_191 dX8_work_33 (D_X0_begin oc8) oc8.1 rfl rfl (Nat.le_of_ble_eq_true rfl) (by decide) (z_kv ?_)
        refine z_heq (chU_b hI wc1.2.1) ?_
        refine z_aload_n dX8_work_36 rfl ?_
        refine z_iload_n dX8_work_37 rfl ?_
        refine cs_X8_194 dX8_work_38 (D_X8_keepWhy hI w0 (b := 0) (tm := 0) (li := li) (rfl) hiw lkP_0) ((chU_T hI (t := 0) (by decide) (by decide)).trans w0) rfl rfl (Nat.le_of_ble_eq_true rfl) (by decide) (fun rv h' hq => ?_)
        obtain ⟨rfl, fL, hP, hq2⟩ := hq
        have hK := hV.2.2.1 h0
        have hP2 := hK.P hP
        rw [hK.N] at hP2 hq2
        refine z_heq hq2 ?_
        have hN8 : lkN 0 (tnR Nw G li.toNat) ≤ 8 := by rw [← hK.N]; exact lkN_8 ⟨by show 0 ≤ (iw : Int); omega, by show (iw : Int) ≤ 5; omega⟩
        have hcu := hw.cu hI (f := fL) (L := lkN 0 (tnR Nw G li.toNat)) (q := (f1, fp1, ft1, z1, l1, m1, hi1, pl1, (iw : Int))) hN8
        show z_w _ _ _ _ _ _ _ [] _ _ _
        refine z_aload_n dX8_work_41 rfl ?_
        refine z_bipush dX8_work_42 rfl ?_
        refine cs_X8_55 dX8_work_44 (D_X8_ref3 hI hcu.1) ((chU_T hI (t := 0) (by decide) (by decide)).trans w0) rfl rfl (Nat.le_of_ble_eq_true rfl) (by decide) (z_ki ?_)
        exact z_iret F dX8_work_47 rfl (by decide) ⟨fun q => absurd cl q, fun _ => ⟨fun _ => ⟨rfl, ⟨fL, hP2, hcu.1.rf hI, hcu.2.tr rfH_Z⟩⟩, fun q => absurd q h0⟩⟩
  · skip
    refine cs_X8_155 dX8_work_5 (D_X6_lineAt hs (i := li) ⟨by omega, by omega⟩) e0 rfl rfl (Nat.le_of_ble_eq_true rfl) (by decide) (fun rv h' hq => ?_)
    obtain ⟨rfl, hq2⟩ := hq
    refine z_heq hq2 ?_
    rw [if_neg (show ¬ (0 ≤ li ∧ li < Nw 5020) from cl)]
    refine z_ks ?_
    refine z_astore_n dX8_work_8 (Nat.le_of_ble_eq_true rfl) rfl ?_
    refine z_aload_n dX8_work_9 rfl ?_
    refine z_ifnonnull dX8_work_10 (tgt := 20) rfl (fun _ c4 => by cases c4) (fun _ => ?_)
    refine z_aload_n dX8_work_13 rfl ?_
    refine z_bipush dX8_work_14 rfl ?_
    refine cs_X8_55 dX8_work_16 (D_X8_ref0 hI hw) w0 rfl rfl (Nat.le_of_ble_eq_true rfl) (by decide) (z_ki ?_)
    exact z_iret F dX8_work_19 rfl (by decide) ⟨fun _ => ⟨rfl, rfl⟩, fun q => absurd q cl⟩
set_option maxHeartbeats 4000000 in
set_option maxRecDepth 100000 in
theorem D_X8_run {g : z_G} {h : z_H} {ad : Nat → Nat} {Rf Nw Th Tp Lk Ho Sz Im : z_row} {kp : Int} {t ca : Nat} {G Gt : Nat → z_G4} (hI : aJ ad) (hw : cW h ad Rf Nw Th Tp Lk Ho Sz Im kp t ca G Gt) (hwf : nWf Nw G) {fi ti9 n9 : Int} (hfi : z_in fi) (hti : z_in ti9) (hn9 : z_in n9) : z_D g mX8_run 16 0 0 [z_r (ad 0), z_i fi, z_i ti9, z_i n9] h (fun rv h' => (¬ ((isL Nw fi ∧ isL Nw ti9 ∧ fi ≤ ti9) ∧ 1 ≤ n9 ∧ n9 ≤ 20) → rv = some (z_i (-92)) ∧ h' = rfH h ad Rf 0) ∧ (((isL Nw fi ∧ isL Nw ti9 ∧ fi ≤ ti9) ∧ 1 ≤ n9 ∧ n9 ≤ 20) → ((rnO G (ti9 - fi + 1).toNat fi.toNat n9.toNat 1 Nw 0).1 ≠ 0 → rv = some (z_i (-95)) ∧ ∃ Lk' : z_row, lkP Lk' (rnO G (ti9 - fi + 1).toNat fi.toNat n9.toNat 1 Nw 0).1 (rnO G (ti9 - fi + 1).toNat fi.toNat n9.toNat 1 Nw 0).2.1 (tnR (rnO G (ti9 - fi + 1).toNat fi.toNat n9.toNat 1 Nw 0).2.2.1 G (rnO G (ti9 - fi + 1).toNat fi.toNat n9.toNat 1 Nw 0).2.1.toNat) (lkN (rnO G (ti9 - fi + 1).toNat fi.toNat n9.toNat 1 Nw 0).1 (tnR (rnO G (ti9 - fi + 1).toNat fi.toNat n9.toNat 1 Nw 0).2.2.1 G (rnO G (ti9 - fi + 1).toNat fi.toNat n9.toNat 1 Nw 0).2.1.toNat)) ∧ (cW h' ad (z_sf Rf 3 (Rf 3 + 1)) ((rnO G (ti9 - fi + 1).toNat fi.toNat n9.toNat 1 Nw 0).2.2.1) Th Tp Lk' Ho Sz Im kp t (lkN (rnO G (ti9 - fi + 1).toNat fi.toNat n9.toNat 1 Nw 0).1 (tnR (rnO G (ti9 - fi + 1).toNat fi.toNat n9.toNat 1 Nw 0).2.2.1 G (rnO G (ti9 - fi + 1).toNat fi.toNat n9.toNat 1 Nw 0).2.1.toNat)) G Gt ∧ zfr ad h h')) ∧ ((rnO G (ti9 - fi + 1).toNat fi.toNat n9.toNat 1 Nw 0).1 = 0 → rv = some (z_i ((rnO G (ti9 - fi + 1).toNat fi.toNat n9.toNat 1 Nw 0).2.2.2 : Int)) ∧ (cW h' ad Rf ((rnO G (ti9 - fi + 1).toNat fi.toNat n9.toNat 1 Nw 0).2.2.1) Th Tp Lk Ho Sz Im kp t ca G Gt ∧ zfr ad h h')))) := by
  refine z_D.of (by decide +kernel) (Nat.le_of_ble_eq_true rfl) (fun X F => ?_)
  obtain ⟨⟨w0, w1, w2, w3⟩, wp, wc, ws, wn, wkk⟩ := id hw
  obtain ⟨Lf, lc, dc, nd, si, mo, se, sd, ln, zz, ff, hs, hL, hk9⟩ := wn
  obtain ⟨⟨rfl, rfl, rfl, rfl, rfl, rfl⟩, hcl, hln⟩ := hk9 trivial
  obtain ⟨e0, e1, e2, e3, b1, b2, b3, b4, b5⟩ := id hs
  show z_w g X cX8_run RX8 (16, 0, 0) 0 [z_r (ad 0), z_i fi, z_i ti9, z_i n9, z_u, z_u, z_u, z_u] [] h 0 0
  refine z_aload_n dX8_run_0 rfl ?_
  refine gf_X8_10 dX8_run_1 w0 rfl ?_
  refine z_iload_n dX8_run_4 rfl ?_
  refine z_iload_n dX8_run_5 rfl ?_
  refine cs_X8_197 dX8_run_6 (D_X6_isSpan hs hfi hti) e0 rfl rfl (Nat.le_of_ble_eq_true rfl) (by decide) (z_ki ?_)
  refine z_if_eq dX8_run_9 (tgt := 23) rfl (by first | exact ⟨by omega, by omega⟩ | exact ⟨by split <;> omega, by split <;> omega⟩) (fun c1 => ?_) (fun c1 => ?_)
  · skip
    refine z_aload_n dX8_run_23 rfl ?_
    refine z_bipush dX8_run_24 rfl ?_
    refine cs_X8_55 dX8_run_26 (D_X8_ref0 hI hw) w0 rfl rfl (Nat.le_of_ble_eq_true rfl) (by decide) (z_ki ?_)
    exact z_iret F dX8_run_29 rfl (by decide) ⟨fun _ => ⟨rfl, rfl⟩, fun q => absurd q (fun q => by have h1 := q.1.1; have h2 := q.1.2.1; have h3 := q.1.2.2; have h4 := q.2; omega)⟩
  · skip
    refine z_iload_n dX8_run_12 rfl ?_
    refine z_iconst dX8_run_13 ?_
    refine z_icmp_lt dX8_run_14 (tgt := 23) rfl ⟨by omega, by omega⟩ (by decide) (fun c2 => ?_) (fun c2 => ?_)
    · skip
      refine z_aload_n dX8_run_23 rfl ?_
      refine z_bipush dX8_run_24 rfl ?_
      refine cs_X8_55 dX8_run_26 (D_X8_ref0 hI hw) w0 rfl rfl (Nat.le_of_ble_eq_true rfl) (by decide) (z_ki ?_)
      exact z_iret F dX8_run_29 rfl (by decide) ⟨fun _ => ⟨rfl, rfl⟩, fun q => absurd q (fun q => by have h1 := q.1.1; have h2 := q.1.2.1; have h3 := q.1.2.2; have h4 := q.2; omega)⟩
    · skip
      refine z_iload_n dX8_run_17 rfl ?_
      refine z_bipush dX8_run_18 rfl ?_
      refine z_icmp_le dX8_run_20 (tgt := 30) rfl ⟨by omega, by omega⟩ (by decide) (fun c3 => ?_) (fun c3 => ?_)
      · skip
        have hC : ((isL Nw fi ∧ isL Nw ti9 ∧ fi ≤ ti9) ∧ 1 ≤ n9 ∧ n9 ≤ 20) := ⟨⟨⟨by omega, by omega⟩, ⟨by omega, by omega⟩, by omega⟩, by omega, by omega⟩
        obtain ⟨a, ha9⟩ : ∃ y : Nat, fi = (y : Int) := ⟨fi.toNat, by omega⟩
        obtain ⟨b9, hb9⟩ : ∃ y : Nat, ti9 = (y : Int) := ⟨ti9.toNat, by omega⟩
        obtain ⟨E, hE⟩ : ∃ E : Nat, (ti9 - fi + 1).toNat = E := ⟨_, rfl⟩
        obtain ⟨R0, hR0⟩ : ∃ R0, (rnO G (ti9 - fi + 1).toNat fi.toNat n9.toNat 1 Nw 0) = R0 := ⟨_, rfl⟩
        have hR1 : rnO G E a n9.toNat 1 Nw 0 = R0 := by rw [← hR0, hE, ha9, Int.toNat_natCast]
        have h20 := hwf.1
        have hbL : (b9 : Int) < Nw 5020 := by omega
        obtain ⟨LC, hLC⟩ : ∃ LC, Nw 5020 = LC := ⟨_, rfl⟩
        rw [hLC] at hbL
        refine z_iconst dX8_run_30 ?_
        refine z_istore dX8_run_31 (Nat.le_of_ble_eq_true rfl) rfl ?_
        refine z_iconst dX8_run_33 ?_
        refine z_istore dX8_run_34 (Nat.le_of_ble_eq_true rfl) rfl ?_
        have L4 : ∀ (fu tm rem c9 : Nat) (H9 : z_H) (N9 : z_row) (y6 y7 : z_V), cW H9 ad Rf N9 Th Tp Lk Ho Sz Im kp t ca G Gt → nWf N9 G → zfr ad h H9 → N9 5020 = LC → 1 ≤ tm → ((tm + rem : Nat) : Int) = n9 + 1 → rnO G E a rem tm N9 c9 = R0 → rem < fu → z_w g X cX8_run RX8 (16, 0, 0) 36 [z_r (ad 0), z_i fi, z_i ti9, z_i n9, z_i (c9 : Int), z_i (tm : Int), y6, y7] [] H9 0 0 := by
          intro fu
          induction fu with
          | zero => intro tm rem c9 H9 N9 y6 y7 h1 h2 h3 h4 h5 h6 h7 hm; exact absurd hm (Nat.not_lt_zero _)
          | succ fu ih =>
            intro tm rem c9 H9 N9 y6 y7 hwO hwfO hzO hLO hO1 hO2 hO3 hm
            refine z_iload dX8_run_36 rfl ?_
            refine z_iload_n dX8_run_38 rfl ?_
            refine z_icmp_gt dX8_run_39 (tgt := 126) rfl ⟨by omega, by omega⟩ ⟨by omega, by omega⟩ (fun c4 => ?_) (fun c4 => ?_)
            · skip
              obtain rfl : rem = 0 := by omega
              refine z_iload dX8_run_126 rfl ?_
              have hRO : R0 = (0, -1, N9, c9) := hO3.symm
              exact z_iret F dX8_run_128 rfl (by decide) ⟨fun q => absurd hC q, fun _ => by rw [hR0]; exact ⟨fun q => absurd (by rw [hRO]) q, fun _ => ⟨by rw [hRO], by rw [hRO]; exact ⟨hwO, hzO⟩⟩⟩⟩
            · skip
              obtain ⟨rem2, rfl⟩ : ∃ y, rem = y + 1 := ⟨rem - 1, by omega⟩
              refine z_iload_n dX8_run_42 rfl ?_
              refine z_istore dX8_run_43 (Nat.le_of_ble_eq_true rfl) rfl ?_
              obtain ⟨RI, hRI⟩ : ∃ RI, rnI G E a N9 c9 = RI := ⟨_, rfl⟩
              have L5 : ∀ (fu2 k rm c2 : Nat) (H8 : z_H) (N8 : z_row) (y7 : z_V), cW H8 ad Rf N8 Th Tp Lk Ho Sz Im kp t ca G Gt → nWf N8 G → zfr ad h H8 → N8 5020 = LC → k + rm = b9 + 1 → rnI G rm k N8 c2 = RI → rm < fu2 → z_w g X cX8_run RX8 (16, 0, 0) 45 [z_r (ad 0), z_i fi, z_i ti9, z_i n9, z_i (c2 : Int), z_i (tm : Int), z_i (k : Int), y7] [] H8 0 0 := by
                intro fu2
                induction fu2 with
                | zero => intro k rm c2 H8 N8 y7 h1 h2 h3 h4 h5 h6 hm; exact absurd hm (Nat.not_lt_zero _)
                | succ fu2 ih2 =>
                  intro k rm c2 h Nw y7 hw hwf hzI hLI hI2 hI3 hm2
                  obtain ⟨⟨w0, w1, w2, w3⟩, wp, wc, ws, wn, wkk⟩ := id hw
                  obtain ⟨Lf, lc, dc, nd, si, mo, se, sd, ln, zz, ff, hs, hL, hk9⟩ := wn
                  obtain ⟨⟨rfl, rfl, rfl, rfl, rfl, rfl⟩, hcl, hln⟩ := hk9 trivial
                  obtain ⟨e0, e1, e2, e3, b1, b2, b3, b4, b5⟩ := id hs
                  obtain ⟨v1, v2, v3, v4, v5, v6, v7⟩ := id hwf
                  have w0Q : ∀ q, PH h (ad 3) (ad 4) (ad 5) (ad 6) (ad 7) q (ad 0) = some (c_O 7 [z_r (tN ad 0), z_r (tK ad 0), z_i kp, z_r (ad 1), z_i (t : Int), z_r (ad 2), z_r (ad 3), z_r (ad 8), z_r (ad 10)]) := fun q => (PH_T hI (l := 0) (u := 3) (by decide) (by decide) 0 (by decide) (by decide)).trans w0
                  have hsQ : ∀ q, sH (PH h (ad 3) (ad 4) (ad 5) (ad 6) (ad 7) q) (tN ad) Lf (Nw 5020) (Nw 5025) (Nw 5023) (Nw 5022) (Nw 5021) (Nw 5024) sd ln zz ff := fun q => hs.fr (fun t ht => PH_T hI (l := 27) (u := 180) (by decide) (by decide) (27 + t) (by omega) (by omega))
                  have e0Q : ∀ q, PH h (ad 3) (ad 4) (ad 5) (ad 6) (ad 7) q (tN ad 0) = some (c_O 5 [z_r (tN ad 1), z_r (tN ad 2), z_i (Nw 5020), z_i (Nw 5025), z_i (Nw 5023), z_i (Nw 5022), z_i (Nw 5021), z_i (Nw 5024)]) := fun q => (hsQ q).1
                  obtain ⟨fc, wc1, wc2⟩ := wc
                  refine z_iload dX8_run_45 rfl ?_
                  refine z_iload_n dX8_run_47 rfl ?_
                  refine z_icmp_gt dX8_run_48 (tgt := 120) rfl ⟨by omega, by omega⟩ ⟨by omega, by omega⟩ (fun c5 => ?_) (fun c5 => ?_)
                  · skip
                    obtain rfl : rm = 0 := by omega
                    refine z_iinc dX8_run_120 rfl rfl ?_
                    refine z_lseq (ls := [z_r (ad 0), z_i fi, z_i ti9, z_i n9, z_i (c2 : Int), z_i ((tm : Int) + 1), z_i (k : Int), y7]) (ls2 := [z_r (ad 0), z_i fi, z_i ti9, z_i n9, z_i (c2 : Int), z_i ((tm + 1 : Nat) : Int), z_i (k : Int), y7]) (by rw [show (tm : Int) + 1 = ((tm + 1 : Nat) : Int) by omega]) ?_
                    refine z_goto dX8_run_123 (tgt := 36) rfl ?_
                    exact ih (tm + 1) rem2 c2 _ _ _ _ hw hwf hzI hLI (by omega) (by omega) (by rw [← hO3]; exact ((if_neg (by rw [hRI]; rw [← hI3]; exact fun q => q rfl)).trans (by rw [hRI, ← hI3]; rfl)).symm) (by omega)
                  · skip
                    obtain ⟨rm2, rfl⟩ : ∃ y, rm = y + 1 := ⟨rm - 1, by omega⟩
                    refine z_aload_n dX8_run_51 rfl ?_
                    refine gf_X8_10 dX8_run_52 w0 rfl ?_
                    refine z_iload dX8_run_55 rfl ?_
                    refine cs_X8_155 dX8_run_57 (D_X6_lineAt hs (i := (k : Int)) ⟨by omega, by omega⟩) e0 rfl rfl (Nat.le_of_ble_eq_true rfl) (by decide) (fun rv h' hq => ?_)
                    obtain ⟨rfl, hq2⟩ := hq
                    refine z_heq hq2 ?_
                    obtain ⟨la, lb, ls, lp, lu, le, lt, lix, lfl, hLa, hLo, hLi, hLt, hLz⟩ := hln k (by omega)
                    have hnl := v6 k (by omega)
                    have hX : lnX h ad Nw G k la := ⟨lb, ls, lp, lu, le, lt, lix, lfl, hLo, hLi, hLt⟩
                    rw [if_pos (show 0 ≤ (k : Int) ∧ (k : Int) < Nw 5020 from ⟨by omega, by omega⟩), Int.toNat_natCast, hLa]
                    refine z_ks ?_
                    refine z_astore dX8_run_60 (Nat.le_of_ble_eq_true rfl) rfl ?_
                    refine z_aload dX8_run_62 rfl ?_
                    refine z_ifnull dX8_run_64 (tgt := 78) rfl (fun c6 => by cases c6) (fun _ _ => ?_)
                    refine z_aload_n dX8_run_67 rfl ?_
                    refine z_aload dX8_run_68 rfl ?_
                    refine z_iload dX8_run_70 rfl ?_
                    refine cs_X8_187 dX8_run_72 (D_X8_workInTruth hI hw hwf (i := k) (by omega) hX) w0 rfl rfl (Nat.le_of_ble_eq_true rfl) (by decide) (fun rv h' hq => ?_)
                    by_cases h0 : k_h (tnR Nw G k) = 0
                    · obtain ⟨rfl, hw2, hz2⟩ := hq.2 h0
                      refine z_ks ?_
                      refine z_if_ne dX8_run_75 (tgt := 111) rfl (by first | exact ⟨by omega, by omega⟩ | exact ⟨by split <;> omega, by split <;> omega⟩) (fun c7 => ?_) (fun c7 => ?_)
                      · skip
                        refine z_iinc dX8_run_111 rfl rfl ?_
                        refine z_lseq (ls := [z_r (ad 0), z_i fi, z_i ti9, z_i n9, z_i ((c2 : Int) + 1), z_i (tm : Int), z_i (k : Int), z_r la]) (ls2 := [z_r (ad 0), z_i fi, z_i ti9, z_i n9, z_i ((c2 + 1 : Nat) : Int), z_i (tm : Int), z_i (k : Int), z_r la]) (by rw [show (c2 : Int) + 1 = ((c2 + 1 : Nat) : Int) by omega]) ?_
                        refine z_iinc dX8_run_114 rfl rfl ?_
                        refine z_lseq (ls := [z_r (ad 0), z_i fi, z_i ti9, z_i n9, z_i ((c2 + 1 : Nat) : Int), z_i (tm : Int), z_i ((k : Int) + 1), z_r la]) (ls2 := [z_r (ad 0), z_i fi, z_i ti9, z_i n9, z_i ((c2 + 1 : Nat) : Int), z_i (tm : Int), z_i ((k + 1 : Nat) : Int), z_r la]) (by rw [show (k : Int) + 1 = ((k + 1 : Nat) : Int) by omega]) ?_
                        refine z_goto dX8_run_117 (tgt := 45) rfl ?_
                        exact ih2 (k + 1) rm2 (c2 + 1) _ _ _ hw2 (nWf_dnS hwf (by omega) h0) (hzI.tr hz2) ((dnS_20 hwf).trans hLI) (by omega) (by rw [← hI3]; exact (if_neg (fun q => q h0)).symm) (by omega)
                      · exact absurd c7 (by decide)
                    · obtain ⟨rfl, f1, fp1, ft1, z1, l1, m1, hi1, pl1, wi1, hV, rfl⟩ := hq.1 h0
                      refine z_ks ?_
                      obtain ⟨iw, rfl, hiw⟩ := hV.iw
                      have oc8 : oCh (PH h (ad 3) (ad 4) (ad 5) (ad 6) (ad 7) (f1, fp1, ft1, z1, l1, m1, hi1, pl1, (iw : Int))) (ad 8) (ad 9) ca fc := ⟨(PH_T hI (l := 8) (u := 10) (by decide) (by decide) 8 (by decide) (by decide)).trans wc1.1, (PH_T hI (l := 8) (u := 10) (by decide) (by decide) 9 (by decide) (by decide)).trans wc1.2.1, wc1.2.2⟩
                      refine z_if_ne dX8_run_75 (tgt := 111) rfl (by first | exact ⟨by omega, by omega⟩ | exact ⟨by split <;> omega, by split <;> omega⟩) (fun c8 => ?_) (fun c8 => ?_)
                      · exact absurd c8 (by decide)
                      · skip
                        refine z_aload_n dX8_run_78 rfl ?_
                        refine gf_X8_39 dX8_run_79 (w0Q _) rfl ?_
                        refine cs_X8_191 dX8_run_82 (D_X0_begin oc8) oc8.1 rfl rfl (Nat.le_of_ble_eq_true rfl) (by decide) (z_kv ?_)
                        refine z_heq (chU_b hI wc1.2.1) ?_
                        refine z_aload_n dX8_run_85 rfl ?_
                        refine gf_X8_39 dX8_run_86 ((chU_T hI (t := 0) (by decide) (by decide)).trans w0) rfl ?_
                        refine z_bipush dX8_run_89 rfl ?_
                        refine z_iload dX8_run_91 rfl ?_
                        refine z_iload dX8_run_93 rfl ?_
                        refine cs_X8_200 dX8_run_95 (D_X0_addLink (chU_o hI (f := fc) (L := 0) (by omega)) (by omega)) (chU_o hI (f := fc) (L := 0) (by omega)).1 rfl rfl (Nat.le_of_ble_eq_true rfl) (by decide) (fun rv h' hq => ?_)
                        obtain ⟨rfl, g1, hq2, hA1, hx1, hy1, hv1⟩ := hq
                        refine z_heq (hq2.trans (chU_u hI (L' := 1) (by omega))) ?_
                        have hP1 : lkP g1 (tm : Int) (k : Int) (f1, fp1, ft1, z1, l1, m1, hi1, pl1, (iw : Int)) (0 + 1) := lkP_s lkP_0 hA1 (lkQ_12 (by omega)) hx1 hy1 hv1
                        show z_w _ _ _ _ _ _ _ [] _ _ _
                        refine z_aload_n dX8_run_98 rfl ?_
                        refine z_iload dX8_run_99 rfl ?_
                        refine cs_X8_194 dX8_run_101 (D_X8_keepWhy hI w0 (b := 1) (tm := (tm : Int)) (li := (k : Int)) ((if_pos (by omega)).symm) hiw hP1) ((chU_T hI (t := 0) (by decide) (by decide)).trans w0) rfl rfl (Nat.le_of_ble_eq_true rfl) (by decide) (fun rv h' hq => ?_)
                        obtain ⟨rfl, fL, hP, hq2⟩ := hq
                        have hK := hV.2.2.1 h0
                        have hP2 := hK.P hP
                        rw [hK.N] at hP2 hq2
                        refine z_heq hq2 ?_
                        have hN8 : lkN (tm : Int) (tnR Nw G k) ≤ 8 := by rw [← hK.N]; exact lkN_8 ⟨by show 0 ≤ (iw : Int); omega, by show (iw : Int) ≤ 5; omega⟩
                        have hcu := hw.cu hI (f := fL) (L := lkN (tm : Int) (tnR Nw G k)) (q := (f1, fp1, ft1, z1, l1, m1, hi1, pl1, (iw : Int))) hN8
                        show z_w _ _ _ _ _ _ _ [] _ _ _
                        refine z_aload_n dX8_run_104 rfl ?_
                        refine z_bipush dX8_run_105 rfl ?_
                        refine cs_X8_55 dX8_run_107 (D_X8_ref3 hI hcu.1) ((chU_T hI (t := 0) (by decide) (by decide)).trans w0) rfl rfl (Nat.le_of_ble_eq_true rfl) (by decide) (z_ki ?_)
                        have hRI2 : RI = ((k : Int), Nw, c2) := by rw [← hI3]; exact if_pos h0
                        have hRO : R0 = ((tm : Int), (k : Int), Nw, c2) := by rw [← hO3]; exact (if_pos (by rw [hRI, hRI2]; show ¬ (k : Int) = -1; omega)).trans (by rw [hRI, hRI2])
                        exact z_iret F dX8_run_110 rfl (by decide) ⟨fun q => absurd hC q, fun _ => by rw [hR0]; exact ⟨fun _ => ⟨rfl, by rw [hRO]; show ∃ Lk' : z_row, lkP Lk' (tm : Int) (k : Int) (tnR Nw G ((k : Int)).toNat) _ ∧ _; rw [Int.toNat_natCast]; exact ⟨fL, hP2, hcu.1.rf hI, hzI.tr (hcu.2.tr rfH_Z)⟩⟩, fun q => absurd (show (tm : Int) = 0 by rw [hRO] at q; exact q) (by omega)⟩⟩
              refine z_lseq (ls := [z_r (ad 0), z_i fi, z_i ti9, z_i n9, z_i (c9 : Int), z_i (tm : Int), z_i fi, y7]) (ls2 := [z_r (ad 0), z_i fi, z_i ti9, z_i n9, z_i (c9 : Int), z_i (tm : Int), z_i (a : Int), y7]) (by rw [ha9]) ?_
              exact L5 (b9 + 2) a E c9 H9 N9 _ hwO hwfO hzO hLO (by omega) hRI (by omega)
        exact L4 (n9.toNat + 1) 1 n9.toNat 0 h Nw _ _ hw hwf zfr.rfl' hLC (by decide) (by omega) hR1 (by omega)
      · skip
        refine z_aload_n dX8_run_23 rfl ?_
        refine z_bipush dX8_run_24 rfl ?_
        refine cs_X8_55 dX8_run_26 (D_X8_ref0 hI hw) w0 rfl rfl (Nat.le_of_ble_eq_true rfl) (by decide) (z_ki ?_)
        exact z_iret F dX8_run_29 rfl (by decide) ⟨fun _ => ⟨rfl, rfl⟩, fun q => absurd q (fun q => by have h1 := q.1.1; have h2 := q.1.2.1; have h3 := q.1.2.2; have h4 := q.2; omega)⟩
