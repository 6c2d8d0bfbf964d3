/-! KnitReader: work, run, days -/
set_option maxHeartbeats 4000000 in
set_option maxRecDepth 100000 in
theorem D_X8_workInTruth {g : z_G} {h : z_H} {ad : Nat → Nat} {Rf Nw Th Tp Lk Ho Sz Im : z_row} {kp : Int} {t ca : Nat} {G Gt : Nat → z_G4} (hI : aJ ad) (hw : cW h ad Rf Nw Th Tp Lk Ho Sz Im kp t ca G Gt) (hwf : nWf Nw G) {i la : Nat} (hil : (i : Int) < Nw 5020) (hX : lnX h ad Nw G i la) : z_D g mX8_workInTruth 15 0 0 [z_r (ad 0), z_r la, z_i (i : Int)] h (fun rv h' => (k_h (tnR Nw G i) ≠ 0 → rv = some (z_i 0) ∧ ∃ (f6 fp6 ft6 : z_row) (z6 l6 m6 hi6 pl6 wi6 : Int), tnP (tnR Nw G i) (f6, fp6, ft6, z6, l6, m6, hi6, pl6, wi6) ∧ h' = (PH h (ad 3) (ad 4) (ad 5) (ad 6) (ad 7) (f6, fp6, ft6, z6, l6, m6, hi6, pl6, wi6))) ∧ (k_h (tnR Nw G i) = 0 → rv = some (z_i 1) ∧ (cW h' ad Rf (dnS Nw G i) Th Tp Lk Ho Sz Im kp t ca G Gt ∧ zfr ad h h'))) := by
  refine z_D.of (by decide +kernel) (Nat.le_of_ble_eq_true rfl) (fun X F => ?_)
  obtain ⟨⟨w0, w1, w2, w3⟩, wp, wc, ws, wn, wkk⟩ := id hw
  obtain ⟨Lf, lc, dc, nd, si, mo, se, sd, ln, zz, ff, hs, hL, hk9⟩ := wn
  obtain ⟨⟨rfl, rfl, rfl, rfl, rfl, rfl⟩, hcl, hln⟩ := hk9 trivial
  obtain ⟨e0, e1, e2, e3, b1, b2, b3, b4, b5⟩ := id hs
  obtain ⟨v1, v2, v3, v4, v5, v6, v7⟩ := id hwf
  have hnl := v6 i hil
  have w0Q : ∀ q, PH h (ad 3) (ad 4) (ad 5) (ad 6) (ad 7) q (ad 0) = some (c_O 7 [z_r (tN ad 0), z_r (tK ad 0), z_i kp, z_r (ad 1), z_i (t : Int), z_r (ad 2), z_r (ad 3), z_r (ad 8), z_r (ad 10)]) := fun q => (PH_T hI (l := 0) (u := 3) (by decide) (by decide) 0 (by decide) (by decide)).trans w0
  have hsQ : ∀ q, sH (PH h (ad 3) (ad 4) (ad 5) (ad 6) (ad 7) q) (tN ad) Lf (Nw 5020) (Nw 5025) (Nw 5023) (Nw 5022) (Nw 5021) (Nw 5024) sd ln zz ff := fun q => hs.fr (fun t ht => PH_T hI (l := 27) (u := 180) (by decide) (by decide) (27 + t) (by omega) (by omega))
  have e0Q : ∀ q, PH h (ad 3) (ad 4) (ad 5) (ad 6) (ad 7) q (tN ad 0) = some (c_O 5 [z_r (tN ad 1), z_r (tN ad 2), z_i (Nw 5020), z_i (Nw 5025), z_i (Nw 5023), z_i (Nw 5022), z_i (Nw 5021), z_i (Nw 5024)]) := fun q => (hsQ q).1
  show z_w g X cX8_workInTruth RX8 (15, 0, 0) 0 [z_r (ad 0), z_r la, z_i (i : Int)] [] h 0 0
  refine z_aload_n dX8_workInTruth_0 rfl ?_
  refine gf_X8_10 dX8_workInTruth_1 w0 rfl ?_
  refine gf_X8_175 dX8_workInTruth_4 e0 rfl ?_
  refine z_bipush dX8_workInTruth_7 rfl ?_
  refine z_icmp_lt dX8_workInTruth_9 (tgt := 28) rfl ⟨by omega, by omega⟩ (by decide) (fun c1 => ?_) (fun c1 => ?_)
  · skip
    refine z_aload_n dX8_workInTruth_28 rfl ?_
    refine gf_X8_32 dX8_workInTruth_29 w0 rfl ?_
    refine z_aload_n dX8_workInTruth_32 rfl ?_
    refine z_aload_n dX8_workInTruth_33 rfl ?_
    refine gf_X8_10 dX8_workInTruth_34 w0 rfl ?_
    refine gf_X8_181 dX8_workInTruth_37 e0 rfl ?_
    obtain ⟨⟨f0, fp0, ft0, z0, l0, m0, hi0, pl0, wi0⟩, hq0⟩ := wp
    refine z_heq hq0 ?_
    refine cs_X8_216 dX8_workInTruth_40 (D_tr hI hX hnl (y := (Nw 5023)) (by omega)) PHx rfl rfl (Nat.le_of_ble_eq_true rfl) (by decide) (fun rv h' hq => ?_)
    obtain ⟨rfl, f1, fp1, ft1, z1, l1, m1, hi1, pl1, wi1, hV, rfl⟩ := hq
    have hO := wR_b (y := (Nw 5023)) hnl (by omega)
    obtain ⟨o1, o2, o3, o4, o5, o6, o7⟩ := hO
    obtain ⟨V1, V2, V3, V4, V5, V6, V7, V8⟩ := id hV
    have Vz : z1 = k_z (wR Nw G i (Nw 5023)) := V2
    have Vl : l1 = k_l (wR Nw G i (Nw 5023)) := V3
    have Vm : m1 = k_m (wR Nw G i (Nw 5023)) := V4
    have Vhi : hi1 = k_h (wR Nw G i (Nw 5023)) := V5
    have Vf : ∀ j : Nat, (j : Int) < k_z (wR Nw G i (Nw 5023)) → f1 j = k_f (wR Nw G i (Nw 5023)) j := V6
    show z_w _ _ _ _ _ _ _ [] _ _ _
    refine z_aload_n dX8_workInTruth_43 rfl ?_
    refine gf_X8_32 dX8_workInTruth_44 (w0Q _) rfl ?_
    refine cs_X8_220 dX8_workInTruth_47 (D_X4_isHitched hI.p (hi := hi1) ⟨by omega, by omega⟩) PHx rfl rfl (Nat.le_of_ble_eq_true rfl) (by decide) (z_ki ?_)
    refine z_if_ne dX8_workInTruth_50 (tgt := 72) rfl (by first | exact ⟨by omega, by omega⟩ | exact ⟨by split <;> omega, by split <;> omega⟩) (fun c2 => ?_) (fun c2 => ?_)
    · skip
      have h0 : ¬ hi1 = 0 := by intro q; rw [if_pos q] at c2; exact c2 rfl
      refine z_iconst dX8_workInTruth_72 ?_
      have hV9 := tnP_w (by omega) hV ⟨by show 0 ≤ z1 ∧ z1 ≤ 200; omega, by show 0 ≤ l1 ∧ l1 ≤ 60; omega, by show 0 ≤ m1 ∧ m1 ≤ 60; omega, by show 0 ≤ hi1 ∧ hi1 ≤ 7; omega, by show 0 ≤ pl1 ∧ pl1 ≤ 250; have e9 : pl1 = k_a (wR Nw G i (Nw 5023)) := (V8 (by omega)).1; omega, by show 0 ≤ wi1 ∧ wi1 ≤ 5; have e9 : wi1 = k_w (wR Nw G i (Nw 5023)) := (V8 (by omega)).2.1; omega, fun j hj => by show kOk (f1 j); have hj2 : (j : Int) < z1 := hj; rw [Vf j (by omega)]; exact o7 j (by omega)⟩
      exact z_zret F dX8_workInTruth_73 rfl (by omega) (by decide) ⟨fun _ => ⟨rfl, _, _, _, _, _, _, _, _, _, hV9, rfl⟩, fun q => absurd (hV9.1.trans q) h0⟩
    · skip
      have h0 : hi1 = 0 := by by_cases q : hi1 = 0; exact q; (rw [if_neg q] at c2; exact absurd c2 (by decide))
      refine z_aload_n dX8_workInTruth_53 rfl ?_
      refine gf_X8_10 dX8_workInTruth_54 (w0Q _) rfl ?_
      refine z_aload_n dX8_workInTruth_57 rfl ?_
      refine gf_X8_32 dX8_workInTruth_58 (w0Q _) rfl ?_
      refine z_iload_n dX8_workInTruth_61 rfl ?_
      refine cs_X8_310 dX8_workInTruth_62 (D_X6_addDone (hsQ _) hI.tN (by omega) PHx (f := f1) (Z := z1.toNat) ⟨(PHc hI.p).trans (by rw [Int.toNat_of_nonneg (by omega)]), PHk hI.p, by omega, by omega⟩ (fun i hi => hI.ne (i := 4) (j := 27 + (4 + 3 * i)) (by decide) (by omega) (by omega)) (fun i hi => hI.ne (i := 5) (j := 27 + (5 + 3 * i)) (by decide) (by omega) (by omega)) (li := (i : Int))) (hsQ _).1 rfl rfl (Nat.le_of_ble_eq_true rfl) (by decide) (fun rv h' hq => ?_)
      obtain ⟨rfl, M, f', hM, hf', hq2⟩ := hq
      have hdn := (hw.ph hI (q := (f1, fp1, ft1, z1, l1, m1, hi1, pl1, wi1))).dn hI hwf hM.symm (by omega) (i := (i : Int)) (m := k_m (wR Nw G i (Nw 5023))) (f := k_f (wR Nw G i (Nw 5023))) (f' := f') (z := (k_z (wR Nw G i (Nw 5023))).toNat) (by omega) o3 (fun j hj => (hf' j (by omega)).trans (Vf j (by omega)))
      rw [← Vm, show (((k_z (wR Nw G i (Nw 5023))).toNat : Nat) : Int) = ((z1.toNat : Nat) : Int) by rw [Vz], ← hq2] at hdn
      refine z_ks ?_
      refine z_if_eq dX8_workInTruth_65 (tgt := 72) rfl (by first | exact ⟨by omega, by omega⟩ | exact ⟨by split <;> omega, by split <;> omega⟩) (fun c3 => ?_) (fun c3 => ?_)
      · exact absurd c3 (by decide)
      · skip
        refine z_iconst dX8_workInTruth_68 ?_
        refine z_goto dX8_workInTruth_69 (tgt := 73) rfl ?_
        have htn := tnR_w (G := G) (i := i) (show ¬ Nw 5025 = 50 by omega)
        exact z_zret F dX8_workInTruth_73 rfl (by omega) (by decide) ⟨fun q => absurd (by rw [htn]; exact Vhi.symm.trans h0) q, fun _ => ⟨rfl, by unfold dnS; rw [htn, ← Vm]; exact hdn.1, PH_Z.tr hdn.2⟩⟩
  · skip
    refine z_aload_n dX8_workInTruth_12 rfl ?_
    refine gf_X8_32 dX8_workInTruth_13 w0 rfl ?_
    refine z_aload_n dX8_workInTruth_16 rfl ?_
    refine gf_X8_10 dX8_workInTruth_17 w0 rfl ?_
    refine gf_X8_181 dX8_workInTruth_20 e0 rfl ?_
    obtain ⟨⟨f0, fp0, ft0, z0, l0, m0, hi0, pl0, wi0⟩, hq0⟩ := wp
    refine z_heq hq0 ?_
    refine cs_X8_307 dX8_workInTruth_23 (D_X4_stopFilled hI.p (j := Nw 5023)) PHx rfl rfl (Nat.le_of_ble_eq_true rfl) (by decide) (z_kv ?_)
    refine z_iconst dX8_workInTruth_26 ?_
    have h5 : Nw 5025 = 50 := by omega
    exact z_zret F dX8_workInTruth_27 rfl (by omega) (by decide) ⟨fun _ => ⟨rfl, _, _, _, _, _, _, _, _, _, tnP_7 h5 v4, rfl⟩, fun q => absurd q (by rw [tnR_7 h5]; show ¬ (7 : Int) = 0; decide)⟩
