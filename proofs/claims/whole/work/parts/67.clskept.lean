/-! KnitReader: days, what is kept -/
section ZKP
variable {h h' : z_H} {ad : Nat → Nat} {Rf Nw Th Tp Lk Ho Sz Im : z_row} {kp : Int} {t ca : Nat} {G Gt : Nat → z_G4}
/-- a State that was copied -/
theorem sX.cp1 {U T : Nat → Nat} {ok : Prop} {N N' : z_row} {Lf Lf' : Nat → Option Nat} {lc dc nd si mo se : Int} {sd ln zz sd' ln' zz' : Nat → Int} {ff ff' : Nat → z_row} (hs : sH h U Lf lc dc nd si mo se sd ln zz ff) (hL : ∀ i, i < 20 → ∀ a, Lf i = some a → (∃ fs, h a = some (c_O 2 fs)) ∧ off ad a) (hk9 : (lc = N 5020 ∧ dc = N 5025 ∧ nd = N 5023 ∧ si = N 5022 ∧ mo = N 5021 ∧ se = N 5024) ∧ clR N dc sd ln zz ff ∧ lnR h ad Lf N G) (hw : nWf N G) (hag : ∀ k, k < 15226 → N' k = N k) (ho : agO ad h h') (c1 : sH h' T Lf' lc dc nd si mo se sd' ln' zz' ff') (c2 : ∀ i, i < 20 → Lf' i = Lf i) (c3 : cpR dc sd ln zz ff sd' ln' zz' ff') : sX h' ad T ok N' G := by
  obtain ⟨⟨rfl, rfl, rfl, rfl, rfl, rfl⟩, hcl, hln⟩ := hk9
  obtain ⟨v1, v2, v3, v4, v5, v6, v7⟩ := hw
  refine ⟨Lf', _, _, _, _, _, _, sd', ln', zz', ff', c1, fun i hi a ha => ?_, fun _ => ⟨⟨(hag _ (by decide)).symm, (hag _ (by decide)).symm, (hag _ (by decide)).symm, (hag _ (by decide)).symm, (hag _ (by decide)).symm, (hag _ (by decide)).symm⟩, fun w hw => ?_, (hln.ag (fun k hk => hag k (by omega)) (by rw [hag _ (by decide)]; exact Int.le_refl _) v1.2 c2).fr ho⟩⟩
  · rw [c2 i hi] at ha
    obtain ⟨⟨fs, k1⟩, k2⟩ := hL i hi a ha
    exact ⟨⟨fs, (ho a (by rw [k1]; exact Option.some_ne_none _) k2).trans k1⟩, k2⟩
  · obtain ⟨h1, h2, h3, h4⟩ := hcl w hw
    obtain ⟨d1, d2, d3, d4⟩ := c3 w hw
    have hz := (v7 w hw).1.2.2.1
    have eF : zF N' w = zF N w := congrArg Int.toNat (hag _ (by omega))
    refine ⟨d1.trans (h1.trans (hag _ (by omega)).symm), d2.trans (h2.trans (hag _ (by omega)).symm), by rw [eF]; exact d3.trans h3, fun j hj => ?_⟩
    rw [eF] at hj
    exact (d4 j (by omega)).trans ((h4 j hj).trans (hag _ (by omega)).symm)
end ZKP
set_option maxHeartbeats 4000000 in
set_option maxRecDepth 100000 in
theorem D_X8_days {g : z_G} {h : z_H} {ad : Nat → Nat} {Rf Nw Th Tp Lk Ho Sz Im : z_row} {kp : Int} {t ca : Nat} {G Gt : Nat → z_G4} (hI : aJ ad) (hw : cW h ad Rf Nw Th Tp Lk Ho Sz Im kp t ca G Gt) (hwf : nWf Nw G) {n9 : Int} (hn9 : z_in n9) : z_D g mX8_days 16 0 0 [z_r (ad 0), z_i n9] h (fun rv h' => (¬ (1 ≤ n9 ∧ n9 ≤ 60) → rv = some (z_i (-92)) ∧ h' = rfH h ad Rf 0) ∧ (1 ≤ n9 ∧ n9 ≤ 60 → (Nw 5020 = 0 → rv = some (z_i (-95)) ∧ h' = rfH h ad Rf 3) ∧ (Nw 5020 ≠ 0 → rv = some (z_i (dyF G n9.toNat Nw 0).1) ∧ (cW h' ad Rf ((dyF G n9.toNat Nw 0).2) Th Tp Lk Ho Sz Im kp t ca G Gt ∧ zfr ad h h')))) := by
  refine z_D.of (by decide +kernel) (Nat.le_of_ble_eq_true rfl) (fun X F => ?_)
  obtain ⟨⟨w0, w1, w2, w3⟩, wp, wc, ws, wn, wkk⟩ := id hw
  obtain ⟨Lf, lc, dc, nd, si, mo, se, sd, ln, zz, ff, hs, hL, hk9⟩ := wn
  obtain ⟨⟨rfl, rfl, rfl, rfl, rfl, rfl⟩, hcl, hln⟩ := hk9 trivial
  obtain ⟨e0, e1, e2, e3, b1, b2, b3, b4, b5⟩ := id hs
  show z_w g X cX8_days RX8 (16, 0, 0) 0 [z_r (ad 0), z_i n9, z_u, z_u, z_u, z_u] [] h 0 0
  refine z_iload_n dX8_days_0 rfl ?_
  refine z_iconst dX8_days_1 ?_
  refine z_icmp_lt dX8_days_2 (tgt := 11) rfl ⟨by omega, by omega⟩ (by decide) (fun c1 => ?_) (fun c1 => ?_)
  · skip
    refine z_aload_n dX8_days_11 rfl ?_
    refine z_bipush dX8_days_12 rfl ?_
    refine cs_X8_55 dX8_days_14 (D_X8_ref0 hI hw) w0 rfl rfl (Nat.le_of_ble_eq_true rfl) (by decide) (z_ki ?_)
    exact z_iret F dX8_days_17 rfl (by decide) ⟨fun _ => ⟨rfl, rfl⟩, fun q => absurd q (by omega)⟩
  · skip
    refine z_iload_n dX8_days_5 rfl ?_
    refine z_bipush dX8_days_6 rfl ?_
    refine z_icmp_le dX8_days_8 (tgt := 18) rfl ⟨by omega, by omega⟩ (by decide) (fun c2 => ?_) (fun c2 => ?_)
    · skip
      refine z_aload_n dX8_days_18 rfl ?_
      refine gf_X8_10 dX8_days_19 w0 rfl ?_
      refine gf_X8_149 dX8_days_22 e0 rfl ?_
      refine z_if_ne dX8_days_25 (tgt := 35) rfl ⟨by omega, by omega⟩ (fun c3 => ?_) (fun c3 => ?_)
      · skip
        obtain ⟨R0, hR0⟩ : ∃ R0, (dyF G n9.toNat Nw 0) = R0 := ⟨_, rfl⟩
        obtain ⟨LC, hLC⟩ : ∃ LC, Nw 5020 = LC := ⟨_, rfl⟩
        have hLC1 : 1 ≤ LC ∧ LC ≤ 20 := by have := hwf.1; omega
        refine z_iconst dX8_days_35 ?_
        refine z_istore_n dX8_days_36 (Nat.le_of_ble_eq_true rfl) rfl ?_
        refine z_iconst dX8_days_37 ?_
        refine z_istore_n dX8_days_38 (Nat.le_of_ble_eq_true rfl) rfl ?_
        have L4 : ∀ (fu r rem : Nat) (c9 : Int) (H9 : z_H) (N9 : z_row) (y4 y5 : z_V), cW H9 ad Rf N9 Th Tp Lk Ho Sz Im kp t ca G Gt → nWf N9 G → zfr ad h H9 → N9 5020 = LC → ((r + rem : Nat) : Int) = n9 → dyF G rem N9 c9 = R0 → rem < fu → z_w g X cX8_days RX8 (16, 0, 0) 39 [z_r (ad 0), z_i n9, z_i c9, z_i (r : Int), y4, y5] [] H9 0 0 := by
          intro fu
          induction fu with
          | zero => intro r rem c9 H9 N9 y4 y5 h1 h2 h3 h4 h5 h6 hm; exact absurd hm (Nat.not_lt_zero _)
          | succ fu ih =>
            intro r rem c9 h Nw y4 y5 hw hwf hzI hLI hI2 hI3 hm
            obtain ⟨⟨w0, w1, w2, w3⟩, wp, wc, ws, wn, wkk⟩ := id hw
            obtain ⟨Lf, lc, dc, nd, si, mo, se, sd, ln, zz, ff, hs, hL, hk9⟩ := wn
            obtain ⟨⟨rfl, rfl, rfl, rfl, rfl, rfl⟩, hcl, hln⟩ := hk9 trivial
            obtain ⟨e0, e1, e2, e3, b1, b2, b3, b4, b5⟩ := id hs
            obtain ⟨v1, v2, v3, v4, v5, v6, v7⟩ := id hwf
            refine z_iload_n dX8_days_39 rfl ?_
            refine z_iload_n dX8_days_40 rfl ?_
            refine z_icmp_ge dX8_days_41 (tgt := 107) rfl ⟨by omega, by omega⟩ ⟨by omega, by omega⟩ (fun c4 => ?_) (fun c4 => ?_)
            · skip
              obtain rfl : rem = 0 := by omega
              refine z_iload_n dX8_days_107 rfl ?_
              exact z_iret F dX8_days_108 rfl (by decide) ⟨fun q => absurd (by omega) q, fun _ => ⟨fun q => absurd (hLC.symm.trans q) (by omega), fun _ => by rw [hR0, ← hI3]; exact ⟨rfl, hw, hzI⟩⟩⟩
            · skip
              obtain ⟨rem2, rfl⟩ : ∃ y, rem = y + 1 := ⟨rem - 1, by omega⟩
              refine z_aload_n dX8_days_44 rfl ?_
              refine gf_X8_10 dX8_days_45 w0 rfl ?_
              refine z_aload_n dX8_days_48 rfl ?_
              refine gf_X8_10 dX8_days_49 w0 rfl ?_
              refine gf_X8_149 dX8_days_52 e0 rfl ?_
              refine cs_X8_283 dX8_days_55 (D_X6_drawBelow hs (m := Nw 5020) (by omega)) e0 rfl rfl (Nat.le_of_ble_eq_true rfl) (by decide) (z_ki ?_)
              have hdy := dyI_lt (N := Nw) (by omega)
              refine z_ieq (y := (dyI Nw : Int)) (by have h9 := hdy.1; unfold drN at h9; exact h9.symm) ?_
              have hw9 := hw.no hI hwf (N' := (z_sf Nw 5024 (drN Nw))) (fun k hk => z_sf_n (by omega)) ⟨v1.1, Int.le_refl _⟩ v2 v3 v4 ⟨v5.1, Int.le_refl _⟩
              have K58 : ∀ (H9 : z_H) (N9 : z_row) (I : Nat), cW H9 ad Rf N9 Th Tp Lk Ho Sz Im kp t ca G Gt → nWf N9 G → zfr ad h H9 → N9 5020 = LC → (I : Int) < LC → dyS Nw G = (if k_h (tnR N9 G I) = 0 then (1, dnS N9 G I) else if N9 5025 > 0 then (0, rpN N9 ((N9 5025).toNat - 1)) else (0, N9)) → z_w g X cX8_days RX8 (16, 0, 0) 58 [z_r (ad 0), z_i n9, z_i c9, z_i (r : Int), y4, y5] [z_i (I : Int)] H9 0 0 := by
                intro h Nw I hw hwf hz2 hL2 hIL hdS
                have hz3 := hzI.tr hz2
                obtain ⟨⟨w0, w1, w2, w3⟩, wp, wc, ws, wn, wkk⟩ := id hw
                obtain ⟨Lf, lc, dc, nd, si, mo, se, sd, ln, zz, ff, hs, hL, hk9⟩ := wn
                obtain ⟨⟨rfl, rfl, rfl, rfl, rfl, rfl⟩, hcl, hln⟩ := hk9 trivial
                obtain ⟨e0, e1, e2, e3, b1, b2, b3, b4, b5⟩ := id hs
                obtain ⟨v1, v2, v3, v4, v5, v6, v7⟩ := id hwf
                have w0Q : ∀ q, PH h (ad 3) (ad 4) (ad 5) (ad 6) (ad 7) q (ad 0) = some (c_O 7 [z_r (tN ad 0), z_r (tK ad 0), z_i kp, z_r (ad 1), z_i (t : Int), z_r (ad 2), z_r (ad 3), z_r (ad 8), z_r (ad 10)]) := fun q => (PH_T hI (l := 0) (u := 3) (by decide) (by decide) 0 (by decide) (by decide)).trans w0
                have hsQ : ∀ q, sH (PH h (ad 3) (ad 4) (ad 5) (ad 6) (ad 7) q) (tN ad) Lf (Nw 5020) (Nw 5025) (Nw 5023) (Nw 5022) (Nw 5021) (Nw 5024) sd ln zz ff := fun q => hs.fr (fun t ht => PH_T hI (l := 27) (u := 180) (by decide) (by decide) (27 + t) (by omega) (by omega))
                have e0Q : ∀ q, PH h (ad 3) (ad 4) (ad 5) (ad 6) (ad 7) q (tN ad 0) = some (c_O 5 [z_r (tN ad 1), z_r (tN ad 2), z_i (Nw 5020), z_i (Nw 5025), z_i (Nw 5023), z_i (Nw 5022), z_i (Nw 5021), z_i (Nw 5024)]) := fun q => (hsQ q).1
                obtain ⟨fc, wc1, wc2⟩ := wc
                refine z_istore dX8_days_58 (Nat.le_of_ble_eq_true rfl) rfl ?_
                refine z_aload_n dX8_days_60 rfl ?_
                refine gf_X8_10 dX8_days_61 w0 rfl ?_
                refine z_iload dX8_days_64 rfl ?_
                refine cs_X8_155 dX8_days_66 (D_X6_lineAt hs (i := (I : Int)) ⟨by omega, by omega⟩) e0 rfl rfl (Nat.le_of_ble_eq_true rfl) (by decide) (fun rv h' hq => ?_)
                obtain ⟨rfl, hq2⟩ := hq
                refine z_heq hq2 ?_
                obtain ⟨la, lb, ls, lp, lu, le, lt, lix, lfl, hLa, hLo, hLi, hLt, hLz⟩ := hln I (by omega)
                have hnl := v6 I (by omega)
                have hX : lnX h ad Nw G I la := ⟨lb, ls, lp, lu, le, lt, lix, lfl, hLo, hLi, hLt⟩
                rw [if_pos (show 0 ≤ (I : Int) ∧ (I : Int) < Nw 5020 from ⟨by omega, by omega⟩), Int.toNat_natCast, hLa]
                refine z_ks ?_
                refine z_astore dX8_days_69 (Nat.le_of_ble_eq_true rfl) rfl ?_
                refine z_aload dX8_days_71 rfl ?_
                refine z_ifnull dX8_days_73 (tgt := 93) rfl (fun c5 => by cases c5) (fun _ _ => ?_)
                refine z_aload_n dX8_days_76 rfl ?_
                refine z_aload dX8_days_77 rfl ?_
                refine z_iload dX8_days_79 rfl ?_
                refine cs_X8_187 dX8_days_81 (D_X8_workInTruth hI hw hwf (i := I) (by omega) hX) w0 rfl rfl (Nat.le_of_ble_eq_true rfl) (by decide) (fun rv h' hq => ?_)
                by_cases h0 : k_h (tnR Nw G I) = 0
                · obtain ⟨rfl, hw2, hz2⟩ := hq.2 h0
                  refine z_ks ?_
                  have hd1 := hdS.trans (if_pos h0)
                  refine z_if_eq dX8_days_84 (tgt := 93) rfl (by first | exact ⟨by omega, by omega⟩ | exact ⟨by split <;> omega, by split <;> omega⟩) (fun c6 => ?_) (fun c6 => ?_)
                  · exact absurd c6 (by decide)
                  · skip
                    refine z_iinc dX8_days_87 rfl rfl ?_
                    refine z_goto dX8_days_90 (tgt := 101) rfl ?_
                    refine z_iinc dX8_days_101 rfl rfl ?_
                    refine z_lseq (ls := [z_r (ad 0), z_i n9, z_i (c9 + 1), z_i ((r : Int) + 1), z_i (I : Int), z_r la]) (ls2 := [z_r (ad 0), z_i n9, z_i (c9 + 1), z_i ((r + 1 : Nat) : Int), z_i (I : Int), z_r la]) (by rw [show (r : Int) + 1 = ((r + 1 : Nat) : Int) by omega]) ?_
                    refine z_goto dX8_days_104 (tgt := 39) rfl ?_
                    exact ih (r + 1) rem2 (c9 + 1) _ _ _ _ hw2 (nWf_dnS hwf (by omega) h0) (hz3.tr hz2) ((dnS_20 hwf).trans hL2) (by omega) (by rw [← hI3]; show _ = dyF G rem2 (dyS _ G).2 (c9 + (dyS _ G).1); rw [hd1]) (by omega)
                · obtain ⟨rfl, f1, fp1, ft1, z1, l1, m1, hi1, pl1, wi1, hV, rfl⟩ := hq.1 h0
                  refine z_ks ?_
                  obtain ⟨iw, rfl, hiw⟩ := hV.iw
                  have oc8 : oCh (PH h (ad 3) (ad 4) (ad 5) (ad 6) (ad 7) (f1, fp1, ft1, z1, l1, m1, hi1, pl1, (iw : Int))) (ad 8) (ad 9) ca fc := ⟨(PH_T hI (l := 8) (u := 10) (by decide) (by decide) 8 (by decide) (by decide)).trans wc1.1, (PH_T hI (l := 8) (u := 10) (by decide) (by decide) 9 (by decide) (by decide)).trans wc1.2.1, wc1.2.2⟩
                  have hd1 := hdS.trans (if_neg h0)
                  refine z_if_eq dX8_days_84 (tgt := 93) rfl (by first | exact ⟨by omega, by omega⟩ | exact ⟨by split <;> omega, by split <;> omega⟩) (fun c7 => ?_) (fun c7 => ?_)
                  · skip
                    refine z_aload_n dX8_days_93 rfl ?_
                    refine gf_X8_10 dX8_days_94 (w0Q _) rfl ?_
                    refine z_iconst dX8_days_97 ?_
                    refine cs_X8_204 dX8_days_98 (D_X6_ripBack (hsQ _) hI.tN (n9 := 1) (by decide) (fun m hm => by have hh := hcl.f hwf hm; rw [hh.1]; exact hh.2.1)) (hsQ _).1 rfl rfl (Nat.le_of_ble_eq_true rfl) (by decide) (fun rv h' hq => ?_)
                    obtain ⟨rfl, hq1, hq2⟩ := hq
                    show z_w _ _ _ _ _ _ _ [] _ _ _
                    by_cases c0 : Nw 5025 = 0
                    · refine z_heq (hq1 c0) ?_
                      have hd2 := hd1.trans (if_neg (by omega))
                      refine z_iinc dX8_days_101 rfl rfl ?_
                      refine z_lseq (ls := [z_r (ad 0), z_i n9, z_i c9, z_i ((r : Int) + 1), z_i (I : Int), z_r la]) (ls2 := [z_r (ad 0), z_i n9, z_i c9, z_i ((r + 1 : Nat) : Int), z_i (I : Int), z_r la]) (by rw [show (r : Int) + 1 = ((r + 1 : Nat) : Int) by omega]) ?_
                      refine z_goto dX8_days_104 (tgt := 39) rfl ?_
                      exact ih (r + 1) rem2 c9 _ _ _ _ (hw.ph hI) hwf (hz3.tr PH_Z) hL2 (by omega) (by rw [← hI3]; show _ = dyF G rem2 (dyS _ G).2 (c9 + (dyS _ G).1); rw [hd2]; show _ = dyF G rem2 Nw (c9 + 0); rw [Int.add_zero]) (by omega)
                    · obtain ⟨m, hm8, hq3⟩ := hq2 c0
                      have hm2 : (m : Int) < Nw 5025 := by rw [hm8]; split <;> omega
                      have hm4 : (m : Int) = Nw 5025 - 1 := by rw [hm8]; split <;> omega
                      have hm3 : (Nw 5025).toNat - 1 = m := by omega
                      obtain ⟨hc1, hc2, hc3, hc4⟩ := hcl m hm2
                      obtain ⟨hf1, hf2, hf3⟩ := hcl.f hwf hm2
                      have hR := v7 m hm2
                      have hq4 : h' = (z_up (PH h (ad 3) (ad 4) (ad 5) (ad 6) (ad 7) (f1, fp1, ft1, z1, l1, m1, hi1, pl1, (iw : Int))) (tN ad 0) (c_O 5 [z_r (tN ad 1), z_r (tN ad 2), z_i (Nw 5020), z_i (m : Int), z_i (Nw (5026 + 204 * m + 3)), z_i (Nw (5026 + 204 * m)), z_i (Nw 5021), z_i (Nw 5024)])) := by rw [hq3, hc1, hf1, Int.toNat_natCast, hf3, hR.2.2.2.1]
                      refine z_heq hq4 ?_
                      have hd2 := hd1.trans (if_pos (by omega))
                      rw [hm3] at hd2
                      have hw8 := (hw.ph hI (q := (f1, fp1, ft1, z1, l1, m1, hi1, pl1, (iw : Int)))).no hI hwf (N' := rpN Nw m) (fun k hk => by unfold rpN; rw [z_sf_n (by omega), z_sf_n (by omega), z_sf_n (by omega)]) ⟨v1.1, Int.le_refl _⟩ v2 hR.2.1 (show 0 ≤ Nw (5026 + 204 * m + 3) ∧ Nw (5026 + 204 * m + 3) ≤ 60 by have h5 := hR.2.2.2.1; have h6 := hR.2.2.2.2.1; have h7 := sG_0 kT_0 (f := kR Nw m) (m := zF Nw m); omega) (show 0 ≤ (m : Int) ∧ (m : Int) ≤ Nw 5025 by omega)
                      refine z_iinc dX8_days_101 rfl rfl ?_
                      refine z_lseq (ls := [z_r (ad 0), z_i n9, z_i c9, z_i ((r : Int) + 1), z_i (I : Int), z_r la]) (ls2 := [z_r (ad 0), z_i n9, z_i c9, z_i ((r + 1 : Nat) : Int), z_i (I : Int), z_r la]) (by rw [show (r : Int) + 1 = ((r + 1 : Nat) : Int) by omega]) ?_
                      refine z_goto dX8_days_104 (tgt := 39) rfl ?_
                      exact ih (r + 1) rem2 c9 _ _ _ _ hw8 (nWf_rp hwf hm2) (hz3.tr (PH_Z.tr (zfr.up (j := 27) (by decide)))) hL2 (by omega) (by rw [← hI3]; show _ = dyF G rem2 (dyS _ G).2 (c9 + (dyS _ G).1); rw [hd2]; show _ = dyF G rem2 (rpN Nw m) (c9 + 0); rw [Int.add_zero]) (by omega)
                  · exact absurd c7 (by decide)
              exact K58 _ _ _ hw9 (nWf_seed hwf) (zfr.up (j := 27) (by decide)) hLI (by rw [← hLI]; exact hdy.2) rfl
        exact L4 (n9.toNat + 1) 0 n9.toNat 0 h Nw _ _ hw hwf zfr.rfl' hLC (by omega) hR0 (by omega)
      · skip
        skip
        refine z_aload_n dX8_days_28 rfl ?_
        refine z_bipush dX8_days_29 rfl ?_
        refine cs_X8_55 dX8_days_31 (D_X8_ref3 hI hw) w0 rfl rfl (Nat.le_of_ble_eq_true rfl) (by decide) (z_ki ?_)
        exact z_iret F dX8_days_34 rfl (by decide) ⟨fun q => absurd (by omega) q, fun _ => ⟨fun _ => ⟨rfl, rfl⟩, fun q => absurd (by omega) q⟩⟩
    · skip
      refine z_aload_n dX8_days_11 rfl ?_
      refine z_bipush dX8_days_12 rfl ?_
      refine cs_X8_55 dX8_days_14 (D_X8_ref0 hI hw) w0 rfl rfl (Nat.le_of_ble_eq_true rfl) (by decide) (z_ki ?_)
      exact z_iret F dX8_days_17 rfl (by decide) ⟨fun _ => ⟨rfl, rfl⟩, fun q => absurd q (by omega)⟩
set_option maxHeartbeats 4000000 in
set_option maxRecDepth 100000 in
theorem D_X8_image {g : z_G} {h : z_H} {ad : Nat → Nat} {Rf Nw Th Tp Lk Ho Sz Im : z_row} {kp : Int} {t ca : Nat} {G Gt : Nat → z_G4} (hI : aJ ad) (hw : cW h ad Rf Nw Th Tp Lk Ho Sz Im kp t ca G Gt) (hwf : nWf Nw G) : z_D g mX8_image 4 0 0 [z_r (ad 0)] h (fun rv h' => rv = some (z_i 1) ∧ (cW h' ad Rf Nw (cpT Nw 0 15226 Th) Tp Lk Ho Sz Im 1 t ca G G ∧ zfr ad h h')) := by
  refine z_D.of (by decide +kernel) (Nat.le_of_ble_eq_true rfl) (fun X F => ?_)
  obtain ⟨⟨w0, w1, w2, w3⟩, wp, wc, ws, wn, wkk⟩ := id hw
  obtain ⟨kLf, klc, kdc, knd, ksi, kmo, kse, ksd, kln, kzz, kff, kh, -, -⟩ := wkk
  obtain ⟨Lf, lc, dc, nd, si, mo, se, sd, ln, zz, ff, hs, hL, hk9⟩ := id wn
  have w0K := kh.1
  have w0N := hs.1
  show z_w g X cX8_image RX8 (4, 0, 0) 0 [z_r (ad 0)] [] h 0 0
  refine z_aload_n dX8_image_0 rfl ?_
  refine gf_X8_16 dX8_image_1 w0 rfl ?_
  refine z_aload_n dX8_image_4 rfl ?_
  refine gf_X8_10 dX8_image_5 w0 rfl ?_
  refine cs_X8_289 dX8_image_8 (D_X6_takeFrom kh hI.tK hs hI.tN (fun i j hi hj => hI.ne (i := 27 + i) (j := 180 + j) (by omega) (by omega) (by omega)) (fun i hi a ha => ⟨(hL i hi a ha).1, fun x hx => (hL i hi a ha).2 (180 + x) (by omega)⟩)) w0K rfl rfl (Nat.le_of_ble_eq_true rfl) (by decide) (fun rv h' hq => ?_)
  obtain ⟨rfl, hC⟩ := hq
  have hfr : ∀ y, (∀ x, x < 153 → y ≠ tK ad x) → h' y = h y := by obtain ⟨_, _, _, _, _, -, -, -, hf⟩ := hC; exact hf
  have hU : ∀ l u, u ≤ 347 → (333 ≤ l ∨ u ≤ 180) → agT ad h h' l u := fun l u h1 h2 x h3 h4 => hfr _ (fun y hy => hI.ne (i := x) (j := 180 + y) (by omega) (by omega) (by omega))
  have hO : agO ad h h' := fun q _ h2 => hfr q (fun y hy => h2 (180 + y) (by omega))
  have hZ : zfr ad h h' := fun q _ h2 => hfr q (fun y hy => h2 (180 + y) (by omega))
  show z_w _ _ _ _ _ _ _ [] _ _ _
  have k0 : h' (ad 0) = some (c_O 7 [z_r (tN ad 0), z_r (tK ad 0), z_i kp, z_r (ad 1), z_i (t : Int), z_r (ad 2), z_r (ad 3), z_r (ad 8), z_r (ad 10)]) := (hU 0 3 (by decide) (by decide) 0 (by decide) (by decide)).trans w0
  refine z_aload_n dX8_image_11 rfl ?_
  refine z_iconst dX8_image_12 ?_
  refine pf_X8_293 (by omega) dX8_image_13 k0 (Nat.le_of_ble_eq_true rfl) ?_
  refine z_iconst dX8_image_16 ?_
  have hsx : sX h' ad (tK ad) ((1 : Int) ≠ 0) (cpT Nw 0 15226 Th) G := by
    obtain ⟨Lf9, sd9, ln9, zz9, ff9, g1, g2, g3, -⟩ := hC
    obtain ⟨⟨rfl, rfl, rfl, rfl, rfl, rfl⟩, hcl, hln⟩ := hk9 trivial
    exact sX.cp1 hs hL ⟨⟨rfl, rfl, rfl, rfl, rfl, rfl⟩, hcl, hln⟩ hwf (fun k hk => by rw [cpT_in hk, Nat.zero_add]) hO g1 g2 g3
  have hUp : ∀ l u e, u ≤ 347 → (0 < l ∨ u ≤ 0) → agT ad h' (z_up h' (ad 0) e) l u := fun l u e h1 h2 => agT.up hI (by decide) h1 h2
  have hOp : ∀ e, agO ad h' (z_up h' (ad 0) e) := fun e => agO.up (by decide)
  exact z_iret F dX8_image_17 rfl (by decide) ⟨rfl, ⟨⟨z_up_s, ((hUp 1 180 _ (by decide) (by decide) 1 (by decide) (by decide)).trans (hU 0 180 (by decide) (by decide) 1 (by decide) (by decide))).trans w1, ((hUp 1 180 _ (by decide) (by decide) 2 (by decide) (by decide)).trans (hU 0 180 (by decide) (by decide) 2 (by decide) (by decide))).trans w2, ((hUp 1 180 _ (by decide) (by decide) 10 (by decide) (by decide)).trans (hU 0 180 (by decide) (by decide) 10 (by decide) (by decide))).trans w3⟩, wp.fr ((hU 3 8 (by decide) (by decide)).tr (hUp 3 8 _ (by decide) (by decide))), wc.fr ((hU 8 10 (by decide) (by decide)).tr (hUp 8 10 _ (by decide) (by decide))), ws.fr ((hU 11 27 (by decide) (by decide)).tr (hUp 11 27 _ (by decide) (by decide))), wn.frN ((hU 27 180 (by decide) (by decide)).tr (hUp 27 180 _ (by decide) (by decide))) (hO.tr (hOp _)), hsx.frK (hUp _ _ _ (by decide) (by decide)) (hOp _)⟩, hZ.tr (zfr.up (by decide))⟩
set_option maxHeartbeats 4000000 in
set_option maxRecDepth 100000 in
theorem D_X8_back {g : z_G} {h : z_H} {ad : Nat → Nat} {Rf Nw Th Tp Lk Ho Sz Im : z_row} {kp : Int} {t ca : Nat} {G Gt : Nat → z_G4} (hI : aJ ad) (hw : cW h ad Rf Nw Th Tp Lk Ho Sz Im kp t ca G Gt) (hkp : kp = 0 ∨ kp = 1) (hwt : kp ≠ 0 → nWf Th Gt) : z_D g mX8_back 4 0 0 [z_r (ad 0)] h (fun rv h' => (kp = 0 → rv = some (z_i (-95)) ∧ h' = rfH h ad Rf 3) ∧ (kp ≠ 0 → rv = some (z_i 1) ∧ (cW h' ad Rf (cpT Th 0 15226 Nw) Th Tp Lk Ho Sz Im kp t ca Gt Gt ∧ zfr ad h h'))) := by
  refine z_D.of (by decide +kernel) (Nat.le_of_ble_eq_true rfl) (fun X F => ?_)
  obtain ⟨⟨w0, w1, w2, w3⟩, wp, wc, ws, wn, wkk⟩ := id hw
  obtain ⟨kLf, klc, kdc, knd, ksi, kmo, kse, ksd, kln, kzz, kff, kh, kL, kk9⟩ := id wkk
  obtain ⟨Lf, lc, dc, nd, si, mo, se, sd, ln, zz, ff, hs, hL, hk9⟩ := id wn
  have w0K := kh.1
  have w0N := hs.1
  show z_w g X cX8_back RX8 (4, 0, 0) 0 [z_r (ad 0)] [] h 0 0
  refine z_aload_n dX8_back_0 rfl ?_
  refine gf_X8_293 dX8_back_1 w0 rfl ?_
  refine z_if_ne dX8_back_4 (tgt := 14) rfl ⟨by omega, by omega⟩ (fun c1 => ?_) (fun c1 => ?_)
  · skip
    refine z_aload_n dX8_back_14 rfl ?_
    refine gf_X8_10 dX8_back_15 w0 rfl ?_
    refine z_aload_n dX8_back_18 rfl ?_
    refine gf_X8_16 dX8_back_19 w0 rfl ?_
    refine cs_X8_289 dX8_back_22 (D_X6_takeFrom hs hI.tN kh hI.tK (fun i j hi hj => hI.ne (i := 180 + i) (j := 27 + j) (by omega) (by omega) (by omega)) (fun i hi a ha => ⟨(kL i hi a ha).1, fun x hx => (kL i hi a ha).2 (27 + x) (by omega)⟩)) w0N rfl rfl (Nat.le_of_ble_eq_true rfl) (by decide) (fun rv h' hq => ?_)
    obtain ⟨rfl, hC⟩ := hq
    have hfr : ∀ y, (∀ x, x < 153 → y ≠ tN ad x) → h' y = h y := by obtain ⟨_, _, _, _, _, -, -, -, hf⟩ := hC; exact hf
    have hU : ∀ l u, u ≤ 347 → (180 ≤ l ∨ u ≤ 27) → agT ad h h' l u := fun l u h1 h2 x h3 h4 => hfr _ (fun y hy => hI.ne (i := x) (j := 27 + y) (by omega) (by omega) (by omega))
    have hO : agO ad h h' := fun q _ h2 => hfr q (fun y hy => h2 (27 + y) (by omega))
    have hZ : zfr ad h h' := fun q _ h2 => hfr q (fun y hy => h2 (27 + y) (by omega))
    show z_w _ _ _ _ _ _ _ [] _ _ _
    refine z_iconst dX8_back_25 ?_
    have hsx : sX h' ad (tN ad) True (cpT Th 0 15226 Nw) Gt := by
      obtain ⟨Lf9, sd9, ln9, zz9, ff9, g1, g2, g3, -⟩ := hC
      exact sX.cp1 kh kL (kk9 (by omega)) (hwt (by omega)) (fun k hk => by rw [cpT_in hk, Nat.zero_add]) hO g1 g2 g3
    exact z_iret F dX8_back_26 rfl (by decide) ⟨fun q => absurd q (by omega), fun _ => ⟨rfl, hw.nw (hU _ _ (by decide) (by decide)) (hU _ _ (by decide) (by decide)) hO hsx, hZ⟩⟩
  · skip
    refine z_aload_n dX8_back_7 rfl ?_
    refine z_bipush dX8_back_8 rfl ?_
    refine cs_X8_55 dX8_back_10 (D_X8_ref3 hI hw) w0 rfl rfl (Nat.le_of_ble_eq_true rfl) (by decide) (z_ki ?_)
    exact z_iret F dX8_back_13 rfl (by decide) ⟨fun _ => ⟨rfl, rfl⟩, fun q => absurd (by omega) q⟩
