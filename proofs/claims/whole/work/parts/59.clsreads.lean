/-! KnitReader: shelves read, tape, what the state tells -/
section ZCW
variable {h : z_H} {ad : Nat → Nat} {Rf Nw Th Tp Lk Ho Sz Im : z_row} {kp : Int} {t ca : Nat} {G Gt : Nat → z_G4}
/-- the numbers of now are others -/
theorem cW.no (hI : aJ ad) (H : cW h ad Rf Nw Th Tp Lk Ho Sz Im kp t ca G Gt) (hwf : nWf Nw G) {N' : z_row} (hk : ∀ k, k < 5020 ∨ 5026 ≤ k → N' k = Nw k) (h0 : 0 ≤ N' 5020 ∧ N' 5020 ≤ Nw 5020) (h1 : N' 5021 = 0 ∨ N' 5021 = 1) (h2 : N' 5022 = 0 ∨ N' 5022 = 1) (h3 : 0 ≤ N' 5023 ∧ N' 5023 ≤ 60) (h5 : 0 ≤ N' 5025 ∧ N' 5025 ≤ Nw 5025) : cW (z_up h (tN ad 0) (c_O 5 [z_r (tN ad 1), z_r (tN ad 2), z_i (N' 5020), z_i (N' 5025), z_i (N' 5023), z_i (N' 5022), z_i (N' 5021), z_i (N' 5024)])) ad Rf N' Th Tp Lk Ho Sz Im kp t ca G Gt := by
  obtain ⟨v1, v2, v3, v4, v5, v6, v7⟩ := hwf
  have wn := H.2.2.2.2.1
  obtain ⟨Lf, lc, dc, nd, si, mo, se, sd, ln, zz, ff, hs, hL, hk9⟩ := wn
  obtain ⟨⟨rfl, rfl, rfl, rfl, rfl, rfl⟩, hcl, hln⟩ := hk9 trivial
  have hU : ∀ l u e, u ≤ 347 → (27 < l ∨ u ≤ 27) → agT ad h (z_up h (tN ad 0) e) l u := fun l u e h1 h2 => agT.up (j := 27) hI (by decide) h1 h2
  have hO : ∀ e, agO ad h (z_up h (tN ad 0) e) := fun e => agO.up (j := 27) (by decide)
  refine H.nw (hU _ _ _ (by decide) (by decide)) (hU _ _ _ (by decide) (by decide)) (hO _) ⟨Lf, _, _, _, _, _, _, sd, ln, zz, ff, hs.o hI.tN ⟨by omega, by omega, h3, h2, h1⟩, fun i hi a ha => ?_, fun _ => ⟨⟨rfl, rfl, rfl, rfl, rfl, rfl⟩, hcl.ag (fun k k1 _ => hk k (by omega)) h5.2 v5.2 (fun i hi => (v7 i hi).1.2.2.1), (hln.ag (fun k k1 => hk k (by omega)) h0.2 v1.2 (fun _ _ => rfl)).fr (hO _)⟩⟩
  obtain ⟨⟨fs, k1⟩, k2⟩ := hL i hi a ha
  exact ⟨⟨fs, (hO _ a (by rw [k1]; exact Option.some_ne_none _) k2).trans k1⟩, k2⟩
end ZCW
set_option maxHeartbeats 4000000 in
set_option maxRecDepth 100000 in
theorem D_X8_holds {g : z_G} {h : z_H} {ad : Nat → Nat} {Rf Nw Th Tp Lk Ho Sz Im : z_row} {kp : Int} {t ca : Nat} {G Gt : Nat → z_G4} (hI : aJ ad) (hw : cW h ad Rf Nw Th Tp Lk Ho Sz Im kp t ca G Gt) (hhs : hWf Ho Sz) {si : Int} (hsi : z_in si) : z_D g mX8_holds 2 0 0 [z_r (ad 0), z_i si] h (z_Pi (if isS si then Ho si.toNat else -1) h) := by
  refine z_D.of (by decide +kernel) (Nat.le_of_ble_eq_true rfl) (fun X F => ?_)
  obtain ⟨⟨w0, w1, w2, w3⟩, wp, wc, ws, wn, wkk⟩ := id hw
  show z_w g X cX8_holds RX8 (2, 0, 0) 0 [z_r (ad 0), z_i si, z_u] [] h 0 0
  refine z_aload_n dX8_holds_0 rfl ?_
  refine z_iload_n dX8_holds_1 rfl ?_
  by_cases cs : isS si
  · skip
    refine cs_X8_47 dX8_holds_2 (D_X8_shelfAt hI hw (j := si) ⟨by omega, by omega⟩) w0 rfl rfl (Nat.le_of_ble_eq_true rfl) (by decide) (fun rv h' hq => ?_)
    obtain ⟨rfl, hq2⟩ := hq
    refine z_heq hq2 ?_
    obtain ⟨sz, ff, st, ss, se⟩ := ws si.toNat (by omega)
    have hsw := hhs si.toNat (by omega)
    rw [if_pos (show 0 ≤ si ∧ si ≤ 7 from cs)]
    refine z_ks ?_
    refine z_astore_n dX8_holds_5 (Nat.le_of_ble_eq_true rfl) rfl ?_
    refine z_aload_n dX8_holds_6 rfl ?_
    refine z_ifnonnull dX8_holds_7 (tgt := 14) rfl (fun _ _ => ?_) (fun c1 => by cases c1)
    refine z_aload_n dX8_holds_14 rfl ?_
    refine gf_X8_77 dX8_holds_15 st.1 rfl ?_
    exact z_iret F dX8_holds_18 rfl (by decide) ⟨congrArg (fun z => some (z_i z)) ((if_pos cs).symm), rfl⟩
  · skip
    refine cs_X8_47 dX8_holds_2 (D_X8_shelfAt hI hw (j := si) ⟨by omega, by omega⟩) w0 rfl rfl (Nat.le_of_ble_eq_true rfl) (by decide) (fun rv h' hq => ?_)
    obtain ⟨rfl, hq2⟩ := hq
    refine z_heq hq2 ?_
    rw [if_neg (show ¬ (0 ≤ si ∧ si ≤ 7) from cs)]
    refine z_ks ?_
    refine z_astore_n dX8_holds_5 (Nat.le_of_ble_eq_true rfl) rfl ?_
    refine z_aload_n dX8_holds_6 rfl ?_
    refine z_ifnonnull dX8_holds_7 (tgt := 14) rfl (fun _ c2 => by cases c2) (fun _ => ?_)
    refine z_iconst dX8_holds_10 ?_
    refine z_goto dX8_holds_11 (tgt := 18) rfl ?_
    exact z_iret F dX8_holds_18 rfl (by decide) ⟨congrArg (fun z => some (z_i z)) ((if_neg cs).symm), rfl⟩
set_option maxHeartbeats 4000000 in
set_option maxRecDepth 100000 in
theorem D_X8_element {g : z_G} {h : z_H} {ad : Nat → Nat} {Rf Nw Th Tp Lk Ho Sz Im : z_row} {kp : Int} {t ca : Nat} {G Gt : Nat → z_G4} (hI : aJ ad) (hw : cW h ad Rf Nw Th Tp Lk Ho Sz Im kp t ca G Gt) (hhs : hWf Ho Sz) {si i9 : Int} (hsi : z_in si) (hi9 : z_in i9) : z_D g mX8_element 5 0 0 [z_r (ad 0), z_i si, z_i i9] h (z_Pl (if isS si ∧ amI (Ho si.toNat) = 0 ∧ 0 ≤ i9 ∧ i9 < Sz si.toNat then Im (40 * si.toNat + i9.toNat) else 0) h) := by
  refine z_D.of (by decide +kernel) (Nat.le_of_ble_eq_true rfl) (fun X F => ?_)
  obtain ⟨⟨w0, w1, w2, w3⟩, wp, wc, ws, wn, wkk⟩ := id hw
  show z_w g X cX8_element RX8 (5, 0, 0) 0 [z_r (ad 0), z_i si, z_i i9, z_u] [] h 0 0
  refine z_aload_n dX8_element_0 rfl ?_
  refine z_iload_n dX8_element_1 rfl ?_
  by_cases cs : isS si
  · skip
    refine cs_X8_47 dX8_element_2 (D_X8_shelfAt hI hw (j := si) ⟨by omega, by omega⟩) w0 rfl rfl (Nat.le_of_ble_eq_true rfl) (by decide) (fun rv h' hq => ?_)
    obtain ⟨rfl, hq2⟩ := hq
    refine z_heq hq2 ?_
    obtain ⟨sz, ff, st, ss, se⟩ := ws si.toNat (by omega)
    have hsw := hhs si.toNat (by omega)
    rw [if_pos (show 0 ≤ si ∧ si ≤ 7 from cs)]
    refine z_ks ?_
    refine z_astore_n dX8_element_5 (Nat.le_of_ble_eq_true rfl) rfl ?_
    refine z_aload_n dX8_element_6 rfl ?_
    refine z_ifnonnull dX8_element_7 (tgt := 14) rfl (fun _ _ => ?_) (fun c1 => by cases c1)
    refine z_aload_n dX8_element_14 rfl ?_
    refine z_iload_n dX8_element_15 rfl ?_
    refine cs_X8_85 dX8_element_16 (D_X5_elementAt st (i := i9) ⟨by omega, by omega⟩) st.1 rfl rfl (Nat.le_of_ble_eq_true rfl) (by decide) (z_kl ?_)
    have hai : amI (Ho si.toNat) = 0 ↔ (0 ≤ Ho si.toNat ∧ Ho si.toNat ≤ 4) := by
      unfold amI; split
      · omega
      · split <;> omega
    refine z_lret F dX8_element_19 rfl (by decide) ⟨congrArg (fun z => some (z_l z)) ?_, rfl⟩
    by_cases c9 : (0 ≤ Ho si.toNat ∧ Ho si.toNat ≤ 4) ∧ 0 ≤ i9 ∧ i9 < sz
    · have hz := ss (hai.mpr c9.1)
      rw [if_pos c9, if_pos ⟨cs, hai.mpr c9.1, by omega, by omega⟩]
      have := st.2.2.2.2
      exact se _ (by omega)
    · rw [if_neg c9, if_neg (fun q => c9 ⟨hai.mp q.2.1, by have := ss q.2.1; omega⟩)]
  · skip
    refine cs_X8_47 dX8_element_2 (D_X8_shelfAt hI hw (j := si) ⟨by omega, by omega⟩) w0 rfl rfl (Nat.le_of_ble_eq_true rfl) (by decide) (fun rv h' hq => ?_)
    obtain ⟨rfl, hq2⟩ := hq
    refine z_heq hq2 ?_
    rw [if_neg (show ¬ (0 ≤ si ∧ si ≤ 7) from cs)]
    refine z_ks ?_
    refine z_astore_n dX8_element_5 (Nat.le_of_ble_eq_true rfl) rfl ?_
    refine z_aload_n dX8_element_6 rfl ?_
    refine z_ifnonnull dX8_element_7 (tgt := 14) rfl (fun _ c2 => by cases c2) (fun _ => ?_)
    refine z_lconst0 dX8_element_10 ?_
    refine z_goto dX8_element_11 (tgt := 19) rfl ?_
    exact z_lret F dX8_element_19 rfl (by decide) ⟨congrArg (fun z => some (z_l z)) ((if_neg (fun q => cs q.1)).symm), rfl⟩
set_option maxHeartbeats 4000000 in
set_option maxRecDepth 100000 in
theorem D_X8_wipe {g : z_G} {h : z_H} {ad : Nat → Nat} {Rf Nw Th Tp Lk Ho Sz Im : z_row} {kp : Int} {t ca : Nat} {G Gt : Nat → z_G4} (hI : aJ ad) (hw : cW h ad Rf Nw Th Tp Lk Ho Sz Im kp t ca G Gt)  : z_D g mX8_wipe 1 0 0 [z_r (ad 0)] h (fun rv h' => rv = some (z_i (t : Int)) ∧ (cW h' ad Rf Nw Th Tp Lk Ho Sz Im kp 0 ca G Gt ∧ zfr ad h h')) := by
  refine z_D.of (by decide +kernel) (Nat.le_of_ble_eq_true rfl) (fun X F => ?_)
  obtain ⟨⟨w0, w1, w2, w3⟩, wp, wc, ws, wn, wkk⟩ := id hw
  show z_w g X cX8_wipe RX8 (1, 0, 0) 0 [z_r (ad 0), z_u] [] h 0 0
  refine z_aload_n dX8_wipe_0 rfl ?_
  refine gf_X8_131 dX8_wipe_1 w0 rfl ?_
  refine z_istore_n dX8_wipe_4 (Nat.le_of_ble_eq_true rfl) rfl ?_
  refine z_aload_n dX8_wipe_5 rfl ?_
  refine z_iconst dX8_wipe_6 ?_
  refine pf_X8_131 dX8_wipe_7 w0 (Nat.le_of_ble_eq_true rfl) ?_
  refine z_iload_n dX8_wipe_10 rfl ?_
  exact z_iret F dX8_wipe_11 rfl (by decide) ⟨rfl, hw.ob hI (t' := 0), zfr.up (by decide)⟩
set_option maxHeartbeats 4000000 in
set_option maxRecDepth 100000 in
theorem D_X8_feed {g : z_G} {h : z_H} {ad : Nat → Nat} {Rf Nw Th Tp Lk Ho Sz Im : z_row} {kp : Int} {t ca : Nat} {G Gt : Nat → z_G4} (hI : aJ ad) (hw : cW h ad Rf Nw Th Tp Lk Ho Sz Im kp t ca G Gt) (ht9 : t ≤ 250) {x : Int} (hx : z_in x) : z_D g mX8_feed 2 0 0 [z_r (ad 0), z_i x] h (fun rv h' => (¬ (0 ≤ x ∧ x ≤ 255) → rv = some (z_i (-92)) ∧ h' = rfH h ad Rf 0) ∧ (0 ≤ x ∧ x ≤ 255 → (t = 250 → rv = some (z_i (-96)) ∧ h' = rfH h ad Rf 4) ∧ (t ≠ 250 → rv = some (z_i ((t + 1 : Nat) : Int)) ∧ (cW h' ad Rf Nw Th (z_sf Tp t x) Lk Ho Sz Im kp (t + 1) ca G Gt ∧ zfr ad h h')))) := by
  refine z_D.of (by decide +kernel) (Nat.le_of_ble_eq_true rfl) (fun X F => ?_)
  obtain ⟨⟨w0, w1, w2, w3⟩, wp, wc, ws, wn, wkk⟩ := id hw
  show z_w g X cX8_feed RX8 (2, 0, 0) 0 [z_r (ad 0), z_i x] [] h 0 0
  refine z_iload_n dX8_feed_0 rfl ?_
  refine z_if_lt dX8_feed_1 (tgt := 11) rfl ⟨by omega, by omega⟩ (fun c1 => ?_) (fun c1 => ?_)
  · skip
    refine z_aload_n dX8_feed_11 rfl ?_
    refine z_bipush dX8_feed_12 rfl ?_
    refine cs_X8_55 dX8_feed_14 (D_X8_ref0 hI hw) w0 rfl rfl (Nat.le_of_ble_eq_true rfl) (by decide) (z_ki ?_)
    exact z_iret F dX8_feed_17 rfl (by decide) ⟨fun q => ⟨rfl, rfl⟩, fun q => absurd q (by omega)⟩
  · skip
    refine z_iload_n dX8_feed_4 rfl ?_
    refine z_sipush dX8_feed_5 rfl ?_
    refine z_icmp_le dX8_feed_8 (tgt := 18) rfl ⟨by omega, by omega⟩ (by decide) (fun c2 => ?_) (fun c2 => ?_)
    · skip
      refine z_aload_n dX8_feed_18 rfl ?_
      refine gf_X8_131 dX8_feed_19 w0 rfl ?_
      refine z_if_lt dX8_feed_22 (tgt := 37) rfl ⟨by omega, by omega⟩ (fun c3 => ?_) (fun c3 => ?_)
      · skip
        exfalso
        omega
      · skip
        refine z_aload_n dX8_feed_25 rfl ?_
        refine gf_X8_131 dX8_feed_26 w0 rfl ?_
        refine z_aload_n dX8_feed_29 rfl ?_
        refine gf_X8_19 dX8_feed_30 w0 rfl ?_
        refine z_alenI dX8_feed_33 w1 ?_
        refine z_icmp_lt dX8_feed_34 (tgt := 44) rfl ⟨by omega, by omega⟩ ⟨by omega, by omega⟩ (fun c4 => ?_) (fun c4 => ?_)
        · skip
          refine z_aload_n dX8_feed_44 rfl ?_
          refine gf_X8_19 dX8_feed_45 w0 rfl ?_
          refine z_aload_n dX8_feed_48 rfl ?_
          refine gf_X8_131 dX8_feed_49 w0 rfl ?_
          refine z_iload_n dX8_feed_52 rfl ?_
          refine z_iastN (m := t) dX8_feed_53 w1 (by omega) ⟨by omega, by omega⟩ ?_
          refine z_aload_n dX8_feed_54 rfl ?_
          refine z_dup dX8_feed_55 rfl ?_
          refine gf_X8_131 dX8_feed_56 ((z_up_n (hI.ne (i := 0) (j := 1) (by omega) (by omega) (by omega))).trans w0) rfl ?_
          refine z_iconst dX8_feed_59 ?_
          refine z_iadd dX8_feed_60 ?_
          refine z_ieq (y := ((t + 1 : Nat) : Int)) (by omega) ?_
          refine pf_X8_131 dX8_feed_61 ((z_up_n (hI.ne (i := 0) (j := 1) (by omega) (by omega) (by omega))).trans w0) (Nat.le_of_ble_eq_true rfl) ?_
          refine z_aload_n dX8_feed_64 rfl ?_
          refine gf_X8_131 dX8_feed_65 z_up_s rfl ?_
          exact z_iret F dX8_feed_68 rfl (by decide) ⟨fun q => absurd (by omega) q, fun q => ⟨fun q => absurd q (by omega), fun q => ⟨rfl, (hw.tp hI).ob hI, (zfr.up (by decide)).tr (zfr.up (by decide))⟩⟩⟩
        · skip
          refine z_aload_n dX8_feed_37 rfl ?_
          refine z_bipush dX8_feed_38 rfl ?_
          refine cs_X8_55 dX8_feed_40 (D_X8_ref4 hI hw) w0 rfl rfl (Nat.le_of_ble_eq_true rfl) (by decide) (z_ki ?_)
          exact z_iret F dX8_feed_43 rfl (by decide) ⟨fun q => absurd (by omega) q, fun q => ⟨fun q => ⟨rfl, rfl⟩, fun q => absurd (by omega) q⟩⟩
    · skip
      refine z_aload_n dX8_feed_11 rfl ?_
      refine z_bipush dX8_feed_12 rfl ?_
      refine cs_X8_55 dX8_feed_14 (D_X8_ref0 hI hw) w0 rfl rfl (Nat.le_of_ble_eq_true rfl) (by decide) (z_ki ?_)
      exact z_iret F dX8_feed_17 rfl (by decide) ⟨fun q => ⟨rfl, rfl⟩, fun q => absurd q (by omega)⟩
set_option maxHeartbeats 4000000 in
set_option maxRecDepth 100000 in
theorem D_X8_causes {g : z_G} {h : z_H} {ad : Nat → Nat} {Rf Nw Th Tp Lk Ho Sz Im : z_row} {kp : Int} {t ca : Nat} {G Gt : Nat → z_G4} (hI : aJ ad) (hw : cW h ad Rf Nw Th Tp Lk Ho Sz Im kp t ca G Gt)  : z_D g mX8_causes 1 0 0 [z_r (ad 0)] h (z_Pi (ca : Int) h) := by
  refine z_D.of (by decide +kernel) (Nat.le_of_ble_eq_true rfl) (fun X F => ?_)
  obtain ⟨⟨w0, w1, w2, w3⟩, wp, wc, ws, wn, wkk⟩ := id hw
  obtain ⟨fc, wc1, wc2⟩ := wc
  show z_w g X cX8_causes RX8 (1, 0, 0) 0 [z_r (ad 0)] [] h 0 0
  refine z_aload_n dX8_causes_0 rfl ?_
  refine gf_X8_39 dX8_causes_1 w0 rfl ?_
  refine gf_X8_207 dX8_causes_4 wc1.1 rfl ?_
  exact z_iret F dX8_causes_7 rfl (by decide) ⟨congrArg (fun z => some (z_i z)) (by rfl), rfl⟩
set_option maxHeartbeats 4000000 in
set_option maxRecDepth 100000 in
theorem D_X8_why {g : z_G} {h : z_H} {ad : Nat → Nat} {Rf Nw Th Tp Lk Ho Sz Im : z_row} {kp : Int} {t ca : Nat} {G Gt : Nat → z_G4} (hI : aJ ad) (hw : cW h ad Rf Nw Th Tp Lk Ho Sz Im kp t ca G Gt) {li wh : Int} (hli : z_in li) (hwh : z_in wh) : z_D g mX8_why 2 0 0 [z_r (ad 0), z_i li, z_i wh] h (fun rv h' => ((0 ≤ li ∧ li < (ca : Int)) ∧ 0 ≤ wh ∧ wh ≤ 2 → rv = some (z_i (Lk (3 * li + wh).toNat)) ∧ h' = h) ∧ (¬ ((0 ≤ li ∧ li < (ca : Int)) ∧ 0 ≤ wh ∧ wh ≤ 2) → rv = some (z_i (-92)) ∧ h' = rfH h ad Rf 0)) := by
  refine z_D.of (by decide +kernel) (Nat.le_of_ble_eq_true rfl) (fun X F => ?_)
  obtain ⟨⟨w0, w1, w2, w3⟩, wp, wc, ws, wn, wkk⟩ := id hw
  obtain ⟨fc, wc1, wc2⟩ := wc
  have hca := wc1.2.2
  show z_w g X cX8_why RX8 (2, 0, 0) 0 [z_r (ad 0), z_i li, z_i wh] [] h 0 0
  refine z_aload_n dX8_why_0 rfl ?_
  refine gf_X8_39 dX8_why_1 w0 rfl ?_
  refine z_iload_n dX8_why_4 rfl ?_
  refine z_iload_n dX8_why_5 rfl ?_
  refine cs_X8_210 dX8_why_6 (D_X0_hasNumber wc1 hli hwh) wc1.1 rfl rfl (Nat.le_of_ble_eq_true rfl) (by decide) (z_ki ?_)
  refine z_if_eq dX8_why_9 (tgt := 24) rfl ⟨by split <;> omega, by split <;> omega⟩ (fun c1 => ?_) (fun c1 => ?_)
  · skip
    refine z_aload_n dX8_why_24 rfl ?_
    refine z_bipush dX8_why_25 rfl ?_
    refine cs_X8_55 dX8_why_27 (D_X8_ref0 hI hw) w0 rfl rfl (Nat.le_of_ble_eq_true rfl) (by decide) (z_ki ?_)
    exact z_iret F dX8_why_30 rfl (by decide) ⟨fun q => absurd q (fun q => by omega), fun q => ⟨rfl, rfl⟩⟩
  · skip
    refine z_aload_n dX8_why_12 rfl ?_
    refine gf_X8_39 dX8_why_13 w0 rfl ?_
    refine z_iload_n dX8_why_16 rfl ?_
    refine z_iload_n dX8_why_17 rfl ?_
    refine cs_X8_213 dX8_why_18 (D_X0_numberAt wc1 (i := li) (w := wh) (by omega)) wc1.1 rfl rfl (Nat.le_of_ble_eq_true rfl) (by decide) (z_ki ?_)
    refine z_goto dX8_why_21 (tgt := 30) rfl ?_
    exact z_iret F dX8_why_30 rfl (by decide) ⟨fun q => ⟨congrArg (fun z => some (z_i z)) (wc2 _ (by omega)), rfl⟩, fun q => absurd ⟨by omega, by omega⟩ q⟩
set_option maxHeartbeats 4000000 in
set_option maxRecDepth 100000 in
theorem D_X8_shelvesInUse {g : z_G} {h : z_H} {ad : Nat → Nat} {Rf Nw Th Tp Lk Ho Sz Im : z_row} {kp : Int} {t ca : Nat} {G Gt : Nat → z_G4} (hI : aJ ad) (hw : cW h ad Rf Nw Th Tp Lk Ho Sz Im kp t ca G Gt) (hhs : hWf Ho Sz) : z_D g mX8_shelvesInUse 3 0 0 [z_r (ad 0)] h (z_Pi (hcF Ho 8) h) := by
  refine z_D.of (by decide +kernel) (Nat.le_of_ble_eq_true rfl) (fun X F => ?_)
  obtain ⟨⟨w0, w1, w2, w3⟩, wp, wc, ws, wn, wkk⟩ := id hw
  show z_w g X cX8_shelvesInUse RX8 (3, 0, 0) 0 [z_r (ad 0), z_u, z_u] [] h 0 0
  refine z_iconst dX8_shelvesInUse_0 ?_
  refine z_istore_n dX8_shelvesInUse_1 (Nat.le_of_ble_eq_true rfl) rfl ?_
  refine z_iconst dX8_shelvesInUse_2 ?_
  refine z_istore_n dX8_shelvesInUse_3 (Nat.le_of_ble_eq_true rfl) rfl ?_
  refine z_lseq (ls2 := [z_r (ad 0), z_i (hcF Ho 0), z_i ((0 : Nat) : Int)]) rfl ?_
  have L4 : ∀ (fu : Nat) (m : Nat) (q1 : m ≤ 8), 8 - m < fu → z_w g X cX8_shelvesInUse RX8 (3, 0, 0) 4 [z_r (ad 0), z_i (hcF Ho m), z_i (m : Int)] [] h 0 0 := by
    intro fu
    induction fu with
    | zero => intro m q1 hm; exact absurd hm (Nat.not_lt_zero _)
    | succ fu ih =>
      intro m q1 hm
      refine z_iload_n dX8_shelvesInUse_4 rfl ?_
      refine z_aload_n dX8_shelvesInUse_5 rfl ?_
      refine gf_X8_25 dX8_shelvesInUse_6 w0 rfl ?_
      refine z_alenA dX8_shelvesInUse_9 (by decide) w2 ?_
      refine z_icmp_ge dX8_shelvesInUse_10 (tgt := 36) rfl ⟨by omega, by omega⟩ (by decide) (fun c1 => ?_) (fun c1 => ?_)
      · skip
        obtain rfl : m = 8 := by omega
        refine z_iload_n dX8_shelvesInUse_36 rfl ?_
        exact z_iret F dX8_shelvesInUse_37 rfl (by decide) ⟨congrArg (fun z => some (z_i z)) (by rfl), rfl⟩
      · skip
        have hh := hhs m (by omega)
        refine z_iload_n dX8_shelvesInUse_13 rfl ?_
        refine z_aload_n dX8_shelvesInUse_14 rfl ?_
        refine z_iload_n dX8_shelvesInUse_15 rfl ?_
        refine cs_X8_304 dX8_shelvesInUse_16 (D_X8_holds hI hw hhs (si := (m : Int)) ⟨by omega, by omega⟩) w0 rfl rfl (Nat.le_of_ble_eq_true rfl) (by decide) (z_ki ?_)
        refine z_ieq (y := Ho m) (by rw [if_pos (show isS (m : Int) from ⟨by omega, by omega⟩), Int.toNat_natCast]) ?_
        refine z_iconst dX8_shelvesInUse_19 ?_
        refine z_icmp_ne dX8_shelvesInUse_20 (tgt := 27) rfl ⟨by omega, by omega⟩ (by decide) (fun c2 => ?_) (fun c2 => ?_)
        · skip
          refine z_iconst dX8_shelvesInUse_27 ?_
          refine z_iadd dX8_shelvesInUse_28 ?_
          refine z_ieq (y := hcF Ho (m + 1)) (by show _ = hcF Ho m + (if Ho m < 0 then 0 else 1); first | rw [if_pos (by omega)] | rw [if_neg (by omega)]) ?_
          refine z_istore_n dX8_shelvesInUse_29 (Nat.le_of_ble_eq_true rfl) rfl ?_
          refine z_iinc dX8_shelvesInUse_30 rfl rfl ?_
          refine z_goto dX8_shelvesInUse_33 (tgt := 4) rfl ?_
          exact ih (m + 1) (by omega) (by omega)
        · skip
          refine z_iconst dX8_shelvesInUse_23 ?_
          refine z_goto dX8_shelvesInUse_24 (tgt := 28) rfl ?_
          refine z_iadd dX8_shelvesInUse_28 ?_
          refine z_ieq (y := hcF Ho (m + 1)) (by show _ = hcF Ho m + (if Ho m < 0 then 0 else 1); first | rw [if_pos (by omega)] | rw [if_neg (by omega)]) ?_
          refine z_istore_n dX8_shelvesInUse_29 (Nat.le_of_ble_eq_true rfl) rfl ?_
          refine z_iinc dX8_shelvesInUse_30 rfl rfl ?_
          refine z_goto dX8_shelvesInUse_33 (tgt := 4) rfl ?_
          exact ih (m + 1) (by omega) (by omega)
  exact L4 9 0 (by omega) (by omega)
theorem D_X8_refusalsOf_w {g : z_G} {h : z_H} {ad : Nat → Nat} {Rf Nw Th Tp Lk Ho Sz Im : z_row} {kp : Int} {t ca : Nat} {G Gt : Nat → z_G4} (hI : aJ ad) (hw : cW h ad Rf Nw Th Tp Lk Ho Sz Im kp t ca G Gt) {j : Int} (hj : -2147483660 ≤ j ∧ j ≤ 2147483647) : z_D g mX8_refusalsOf 1 0 0 [z_r (ad 0), z_i j] h (z_Pi (if 0 ≤ j ∧ j < 5 then Rf j.toNat else -1) h) := by
  by_cases hb : -2147483648 ≤ j
  · exact D_X8_refusalsOf hI hw ⟨by omega, by omega⟩
  · have h0 := D_X8_refusalsOf (g := g) hI hw (j := j + 4294967296) ⟨by omega, by omega⟩
    rw [if_neg (by omega)] at h0
    rw [if_neg (by omega)]
    refine z_D.arg ?_ h0
    simp only [List.map_cons, List.map_nil]
    rw [z_viw (i := j + 4294967296) (j := j) (by first | exact Or.inr (by omega) | exact Or.inl (by omega))]
set_option maxHeartbeats 4000000 in
set_option maxRecDepth 100000 in
theorem D_X8_status {g : z_G} {h : z_H} {ad : Nat → Nat} {Rf Nw Th Tp Lk Ho Sz Im : z_row} {kp : Int} {t ca : Nat} {G Gt : Nat → z_G4} (hI : aJ ad) (hw : cW h ad Rf Nw Th Tp Lk Ho Sz Im kp t ca G Gt) (hhs : hWf Ho Sz) {wh : Int} (hwh : z_in wh) : z_D g mX8_status 4 0 0 [z_r (ad 0), z_i wh] h (z_Pi (sttV Rf Nw Ho (t : Int) wh) h) := by
  refine z_D.of (by decide +kernel) (Nat.le_of_ble_eq_true rfl) (fun X F => ?_)
  obtain ⟨⟨w0, w1, w2, w3⟩, wp, wc, ws, wn, wkk⟩ := id hw
  obtain ⟨Lf, lc, dc, nd, si, mo, se, sd, ln, zz, ff, hs, hL, hk9⟩ := wn
  obtain ⟨⟨rfl, rfl, rfl, rfl, rfl, rfl⟩, hcl, hln⟩ := hk9 trivial
  obtain ⟨e0, e1, e2, e3, b1, b2, b3, b4, b5⟩ := id hs
  show z_w g X cX8_status RX8 (4, 0, 0) 0 [z_r (ad 0), z_i wh] [] h 0 0
  refine z_iload_n dX8_status_0 rfl ?_
  by_cases c1_0 : wh = 0
  · refine z_tabIn dX8_status_1 ⟨by omega, by omega⟩ (tgt := 48) (off := 47) (by omega) (by omega) (by rw [c1_0]; rfl) rfl ?_
    refine z_aload_n dX8_status_48 rfl ?_
    refine gf_X8_10 dX8_status_49 w0 rfl ?_
    refine gf_X8_149 dX8_status_52 e0 rfl ?_
    exact z_iret F dX8_status_55 rfl (by decide) ⟨congrArg (fun z => some (z_i z)) (by unfold sttV; (repeat (first | rw [if_pos (by omega)] | rw [if_neg (by omega)]))), rfl⟩
  by_cases c1_1 : wh = 1
  · refine z_tabIn dX8_status_1 ⟨by omega, by omega⟩ (tgt := 56) (off := 55) (by omega) (by omega) (by rw [c1_1]; rfl) rfl ?_
    refine z_aload_n dX8_status_56 rfl ?_
    refine gf_X8_10 dX8_status_57 w0 rfl ?_
    refine gf_X8_175 dX8_status_60 e0 rfl ?_
    exact z_iret F dX8_status_63 rfl (by decide) ⟨congrArg (fun z => some (z_i z)) (by unfold sttV; (repeat (first | rw [if_pos (by omega)] | rw [if_neg (by omega)]))), rfl⟩
  by_cases c1_2 : wh = 2
  · refine z_tabIn dX8_status_1 ⟨by omega, by omega⟩ (tgt := 64) (off := 63) (by omega) (by omega) (by rw [c1_2]; rfl) rfl ?_
    refine z_aload_n dX8_status_64 rfl ?_
    refine gf_X8_10 dX8_status_65 w0 rfl ?_
    refine gf_X8_181 dX8_status_68 e0 rfl ?_
    exact z_iret F dX8_status_71 rfl (by decide) ⟨congrArg (fun z => some (z_i z)) (by unfold sttV; (repeat (first | rw [if_pos (by omega)] | rw [if_neg (by omega)]))), rfl⟩
  by_cases c1_3 : wh = 3
  · refine z_tabIn dX8_status_1 ⟨by omega, by omega⟩ (tgt := 72) (off := 71) (by omega) (by omega) (by rw [c1_3]; rfl) rfl ?_
    refine z_aload_n dX8_status_72 rfl ?_
    refine gf_X8_10 dX8_status_73 w0 rfl ?_
    refine gf_X8_184 dX8_status_76 e0 rfl ?_
    exact z_iret F dX8_status_79 rfl (by decide) ⟨congrArg (fun z => some (z_i z)) (by unfold sttV; (repeat (first | rw [if_pos (by omega)] | rw [if_neg (by omega)]))), rfl⟩
  by_cases c1_4 : wh = 4
  · refine z_tabIn dX8_status_1 ⟨by omega, by omega⟩ (tgt := 80) (off := 79) (by omega) (by omega) (by rw [c1_4]; rfl) rfl ?_
    refine z_aload_n dX8_status_80 rfl ?_
    refine gf_X8_10 dX8_status_81 w0 rfl ?_
    refine gf_X8_178 dX8_status_84 e0 rfl ?_
    exact z_iret F dX8_status_87 rfl (by decide) ⟨congrArg (fun z => some (z_i z)) (by unfold sttV; (repeat (first | rw [if_pos (by omega)] | rw [if_neg (by omega)]))), rfl⟩
  by_cases c1_5 : wh = 5
  · refine z_tabIn dX8_status_1 ⟨by omega, by omega⟩ (tgt := 88) (off := 87) (by omega) (by omega) (by rw [c1_5]; rfl) rfl ?_
    refine z_aload_n dX8_status_88 rfl ?_
    refine gf_X8_131 dX8_status_89 w0 rfl ?_
    exact z_iret F dX8_status_92 rfl (by decide) ⟨congrArg (fun z => some (z_i z)) (by unfold sttV; (repeat (first | rw [if_pos (by omega)] | rw [if_neg (by omega)]))), rfl⟩
  by_cases c1_6 : wh = 6
  · refine z_tabIn dX8_status_1 ⟨by omega, by omega⟩ (tgt := 93) (off := 92) (by omega) (by omega) (by rw [c1_6]; rfl) rfl ?_
    refine z_aload_n dX8_status_93 rfl ?_
    refine gf_X8_10 dX8_status_94 w0 rfl ?_
    refine gf_X8_286 dX8_status_97 e0 rfl ?_
    exact z_iret F dX8_status_100 rfl (by decide) ⟨congrArg (fun z => some (z_i z)) (by unfold sttV; (repeat (first | rw [if_pos (by omega)] | rw [if_neg (by omega)]))), rfl⟩
  by_cases c1_7 : wh = 7
  · refine z_tabIn dX8_status_1 ⟨by omega, by omega⟩ (tgt := 101) (off := 100) (by omega) (by omega) (by rw [c1_7]; rfl) rfl ?_
    refine z_aload_n dX8_status_101 rfl ?_
    refine cs_X8_296 dX8_status_102 (D_X8_shelvesInUse hI hw hhs) w0 rfl rfl (Nat.le_of_ble_eq_true rfl) (by decide) (z_ki ?_)
    exact z_iret F dX8_status_105 rfl (by decide) ⟨congrArg (fun z => some (z_i z)) (by unfold sttV; (repeat (first | rw [if_pos (by omega)] | rw [if_neg (by omega)]))), rfl⟩
  refine z_tabOut dX8_status_1 ⟨by omega, by omega⟩ (tgt := 106) (by omega) rfl ?_
  refine z_aload_n dX8_status_106 rfl ?_
  refine z_iload_n dX8_status_107 rfl ?_
  refine z_bipush dX8_status_108 rfl ?_
  refine z_isub dX8_status_110 ?_
  refine cs_X8_299 dX8_status_111 (D_X8_refusalsOf_w hI hw (j := wh - 12) ⟨by omega, by omega⟩) w0 rfl rfl (Nat.le_of_ble_eq_true rfl) (by decide) (z_ki ?_)
  exact z_iret F dX8_status_114 rfl (by decide) ⟨congrArg (fun z => some (z_i z)) (by unfold sttV; by_cases c9 : 12 ≤ wh ∧ wh ≤ 16; (rw [if_pos c9, if_pos (by omega)]); (rw [if_neg c9, if_neg (by omega)]; repeat (rw [if_neg (by omega)]))), rfl⟩
set_option maxHeartbeats 4000000 in
set_option maxRecDepth 100000 in
theorem D_X8_seed {g : z_G} {h : z_H} {ad : Nat → Nat} {Rf Nw Th Tp Lk Ho Sz Im : z_row} {kp : Int} {t ca : Nat} {G Gt : Nat → z_G4} (hI : aJ ad) (hw : cW h ad Rf Nw Th Tp Lk Ho Sz Im kp t ca G Gt) (hwf : nWf Nw G) {x : Int} : z_D g mX8_seed 1 0 0 [z_r (ad 0), z_i x] h (fun rv h' => rv = some (z_i (Nw 5024)) ∧ (cW h' ad Rf (z_sf Nw 5024 x) Th Tp Lk Ho Sz Im kp t ca G Gt ∧ zfr ad h h')) := by
  refine z_D.of (by decide +kernel) (Nat.le_of_ble_eq_true rfl) (fun X F => ?_)
  obtain ⟨⟨w0, w1, w2, w3⟩, wp, wc, ws, wn, wkk⟩ := id hw
  obtain ⟨Lf, lc, dc, nd, si, mo, se, sd, ln, zz, ff, hs, hL, hk9⟩ := wn
  obtain ⟨⟨rfl, rfl, rfl, rfl, rfl, rfl⟩, hcl, hln⟩ := hk9 trivial
  obtain ⟨e0, e1, e2, e3, b1, b2, b3, b4, b5⟩ := id hs
  obtain ⟨v1, v2, v3, v4, v5, v6, v7⟩ := id hwf
  show z_w g X cX8_seed RX8 (1, 0, 0) 0 [z_r (ad 0), z_i x, z_u] [] h 0 0
  refine z_aload_n dX8_seed_0 rfl ?_
  refine gf_X8_10 dX8_seed_1 w0 rfl ?_
  refine gf_X8_286 dX8_seed_4 e0 rfl ?_
  refine z_istore_n dX8_seed_7 (Nat.le_of_ble_eq_true rfl) rfl ?_
  refine z_aload_n dX8_seed_8 rfl ?_
  refine gf_X8_10 dX8_seed_9 w0 rfl ?_
  refine z_iload_n dX8_seed_12 rfl ?_
  refine pf_X8_286 dX8_seed_13 e0 (Nat.le_of_ble_eq_true rfl) ?_
  refine z_iload_n dX8_seed_16 rfl ?_
  exact z_iret F dX8_seed_17 rfl (by decide) ⟨rfl, hw.no hI hwf (N' := z_sf Nw 5024 x) (fun k hk => z_sf_n (by omega)) ⟨v1.1, Int.le_refl _⟩ v2 v3 v4 ⟨v5.1, Int.le_refl _⟩, zfr.up (j := 27) (by decide)⟩
set_option maxHeartbeats 4000000 in
set_option maxRecDepth 100000 in
theorem D_X8_mode {g : z_G} {h : z_H} {ad : Nat → Nat} {Rf Nw Th Tp Lk Ho Sz Im : z_row} {kp : Int} {t ca : Nat} {G Gt : Nat → z_G4} (hI : aJ ad) (hw : cW h ad Rf Nw Th Tp Lk Ho Sz Im kp t ca G Gt) (hwf : nWf Nw G) {x : Int} (hx : z_in x) : z_D g mX8_mode 2 0 0 [z_r (ad 0), z_i x] h (fun rv h' => (¬ (0 ≤ x ∧ x ≤ 1) → rv = some (z_i (-92)) ∧ h' = rfH h ad Rf 0) ∧ (0 ≤ x ∧ x ≤ 1 → (Nw 5025 > 0 → rv = some (z_i (-95)) ∧ h' = rfH h ad Rf 3) ∧ (¬ Nw 5025 > 0 → rv = some (z_i (Nw 5021)) ∧ (cW h' ad Rf (z_sf Nw 5021 x) Th Tp Lk Ho Sz Im kp t ca G Gt ∧ zfr ad h h')))) := by
  refine z_D.of (by decide +kernel) (Nat.le_of_ble_eq_true rfl) (fun X F => ?_)
  obtain ⟨⟨w0, w1, w2, w3⟩, wp, wc, ws, wn, wkk⟩ := id hw
  obtain ⟨Lf, lc, dc, nd, si, mo, se, sd, ln, zz, ff, hs, hL, hk9⟩ := wn
  obtain ⟨⟨rfl, rfl, rfl, rfl, rfl, rfl⟩, hcl, hln⟩ := hk9 trivial
  obtain ⟨e0, e1, e2, e3, b1, b2, b3, b4, b5⟩ := id hs
  obtain ⟨v1, v2, v3, v4, v5, v6, v7⟩ := id hwf
  show z_w g X cX8_mode RX8 (2, 0, 0) 0 [z_r (ad 0), z_i x, z_u] [] h 0 0
  refine z_iload_n dX8_mode_0 rfl ?_
  refine z_if_eq dX8_mode_1 (tgt := 16) rfl ⟨by omega, by omega⟩ (fun c1 => ?_) (fun c1 => ?_)
  · skip
    refine z_aload_n dX8_mode_16 rfl ?_
    refine gf_X8_10 dX8_mode_17 w0 rfl ?_
    refine gf_X8_175 dX8_mode_20 e0 rfl ?_
    refine z_if_le dX8_mode_23 (tgt := 33) rfl ⟨by omega, by omega⟩ (fun c2 => ?_) (fun c2 => ?_)
    · skip
      refine z_aload_n dX8_mode_33 rfl ?_
      refine gf_X8_10 dX8_mode_34 w0 rfl ?_
      refine gf_X8_178 dX8_mode_37 e0 rfl ?_
      refine z_istore_n dX8_mode_40 (Nat.le_of_ble_eq_true rfl) rfl ?_
      refine z_aload_n dX8_mode_41 rfl ?_
      refine gf_X8_10 dX8_mode_42 w0 rfl ?_
      refine z_iload_n dX8_mode_45 rfl ?_
      refine pf_X8_178 dX8_mode_46 e0 (Nat.le_of_ble_eq_true rfl) ?_
      refine z_iload_n dX8_mode_49 rfl ?_
      exact z_iret F dX8_mode_50 rfl (by decide) ⟨fun q => absurd (by omega) q, fun _ => ⟨fun q => absurd q (by omega), fun _ => ⟨rfl, hw.no hI hwf (N' := z_sf Nw 5021 x) (fun k hk => z_sf_n (by omega)) ⟨v1.1, Int.le_refl _⟩ (show x = 0 ∨ x = 1 by omega) v3 v4 ⟨v5.1, Int.le_refl _⟩, zfr.up (j := 27) (by decide)⟩⟩⟩
    · skip
      refine z_aload_n dX8_mode_26 rfl ?_
      refine z_bipush dX8_mode_27 rfl ?_
      refine cs_X8_55 dX8_mode_29 (D_X8_ref3 hI hw) w0 rfl rfl (Nat.le_of_ble_eq_true rfl) (by decide) (z_ki ?_)
      exact z_iret F dX8_mode_32 rfl (by decide) ⟨fun q => absurd (by omega) q, fun _ => ⟨fun _ => ⟨rfl, rfl⟩, fun q => absurd (by omega) q⟩⟩
  · skip
    refine z_iload_n dX8_mode_4 rfl ?_
    refine z_iconst dX8_mode_5 ?_
    refine z_icmp_eq dX8_mode_6 (tgt := 16) rfl ⟨by omega, by omega⟩ (by decide) (fun c3 => ?_) (fun c3 => ?_)
    · skip
      refine z_aload_n dX8_mode_16 rfl ?_
      refine gf_X8_10 dX8_mode_17 w0 rfl ?_
      refine gf_X8_175 dX8_mode_20 e0 rfl ?_
      refine z_if_le dX8_mode_23 (tgt := 33) rfl ⟨by omega, by omega⟩ (fun c4 => ?_) (fun c4 => ?_)
      · skip
        refine z_aload_n dX8_mode_33 rfl ?_
        refine gf_X8_10 dX8_mode_34 w0 rfl ?_
        refine gf_X8_178 dX8_mode_37 e0 rfl ?_
        refine z_istore_n dX8_mode_40 (Nat.le_of_ble_eq_true rfl) rfl ?_
        refine z_aload_n dX8_mode_41 rfl ?_
        refine gf_X8_10 dX8_mode_42 w0 rfl ?_
        refine z_iload_n dX8_mode_45 rfl ?_
        refine pf_X8_178 dX8_mode_46 e0 (Nat.le_of_ble_eq_true rfl) ?_
        refine z_iload_n dX8_mode_49 rfl ?_
        exact z_iret F dX8_mode_50 rfl (by decide) ⟨fun q => absurd (by omega) q, fun _ => ⟨fun q => absurd q (by omega), fun _ => ⟨rfl, hw.no hI hwf (N' := z_sf Nw 5021 x) (fun k hk => z_sf_n (by omega)) ⟨v1.1, Int.le_refl _⟩ (show x = 0 ∨ x = 1 by omega) v3 v4 ⟨v5.1, Int.le_refl _⟩, zfr.up (j := 27) (by decide)⟩⟩⟩
      · skip
        refine z_aload_n dX8_mode_26 rfl ?_
        refine z_bipush dX8_mode_27 rfl ?_
        refine cs_X8_55 dX8_mode_29 (D_X8_ref3 hI hw) w0 rfl rfl (Nat.le_of_ble_eq_true rfl) (by decide) (z_ki ?_)
        exact z_iret F dX8_mode_32 rfl (by decide) ⟨fun q => absurd (by omega) q, fun _ => ⟨fun _ => ⟨rfl, rfl⟩, fun q => absurd (by omega) q⟩⟩
    · skip
      refine z_aload_n dX8_mode_9 rfl ?_
      refine z_bipush dX8_mode_10 rfl ?_
      refine cs_X8_55 dX8_mode_12 (D_X8_ref0 hI hw) w0 rfl rfl (Nat.le_of_ble_eq_true rfl) (by decide) (z_ki ?_)
      exact z_iret F dX8_mode_15 rfl (by decide) ⟨fun q => ⟨rfl, rfl⟩, fun q => absurd q (by omega)⟩
set_option maxHeartbeats 4000000 in
set_option maxRecDepth 100000 in
theorem D_X8_cast {g : z_G} {h : z_H} {ad : Nat → Nat} {Rf Nw Th Tp Lk Ho Sz Im : z_row} {kp : Int} {t ca : Nat} {G Gt : Nat → z_G4} (hI : aJ ad) (hw : cW h ad Rf Nw Th Tp Lk Ho Sz Im kp t ca G Gt) (hwf : nWf Nw G) {x : Int} (hx : z_in x) : z_D g mX8_cast 2 0 0 [z_r (ad 0), z_i x] h (fun rv h' => (¬ (1 ≤ x ∧ x ≤ 60) → rv = some (z_i (-92)) ∧ h' = rfH h ad Rf 0) ∧ (1 ≤ x ∧ x ≤ 60 → (Nw 5023 > 0 ∨ Nw 5025 > 0 → rv = some (z_i (-95)) ∧ h' = rfH h ad Rf 3) ∧ (¬ (Nw 5023 > 0 ∨ Nw 5025 > 0) → rv = some (z_i x) ∧ (cW h' ad Rf (z_sf (z_sf Nw 5023 x) 5022 0) Th Tp Lk Ho Sz Im kp t ca G Gt ∧ zfr ad h h')))) := by
  refine z_D.of (by decide +kernel) (Nat.le_of_ble_eq_true rfl) (fun X F => ?_)
  obtain ⟨⟨w0, w1, w2, w3⟩, wp, wc, ws, wn, wkk⟩ := id hw
  obtain ⟨Lf, lc, dc, nd, si, mo, se, sd, ln, zz, ff, hs, hL, hk9⟩ := wn
  obtain ⟨⟨rfl, rfl, rfl, rfl, rfl, rfl⟩, hcl, hln⟩ := hk9 trivial
  obtain ⟨e0, e1, e2, e3, b1, b2, b3, b4, b5⟩ := id hs
  obtain ⟨v1, v2, v3, v4, v5, v6, v7⟩ := id hwf
  show z_w g X cX8_cast RX8 (2, 0, 0) 0 [z_r (ad 0), z_i x] [] h 0 0
  refine z_iload_n dX8_cast_0 rfl ?_
  refine z_iconst dX8_cast_1 ?_
  refine z_icmp_lt dX8_cast_2 (tgt := 11) rfl ⟨by omega, by omega⟩ (by decide) (fun c1 => ?_) (fun c1 => ?_)
  · skip
    refine z_aload_n dX8_cast_11 rfl ?_
    refine z_bipush dX8_cast_12 rfl ?_
    refine cs_X8_55 dX8_cast_14 (D_X8_ref0 hI hw) w0 rfl rfl (Nat.le_of_ble_eq_true rfl) (by decide) (z_ki ?_)
    exact z_iret F dX8_cast_17 rfl (by decide) ⟨fun q => ⟨rfl, rfl⟩, fun q => absurd q (by omega)⟩
  · skip
    refine z_iload_n dX8_cast_5 rfl ?_
    refine z_bipush dX8_cast_6 rfl ?_
    refine z_icmp_le dX8_cast_8 (tgt := 18) rfl ⟨by omega, by omega⟩ (by decide) (fun c2 => ?_) (fun c2 => ?_)
    · skip
      refine z_aload_n dX8_cast_18 rfl ?_
      refine gf_X8_10 dX8_cast_19 w0 rfl ?_
      refine gf_X8_181 dX8_cast_22 e0 rfl ?_
      refine z_if_gt dX8_cast_25 (tgt := 38) rfl ⟨by omega, by omega⟩ (fun c3 => ?_) (fun c3 => ?_)
      · skip
        refine z_aload_n dX8_cast_38 rfl ?_
        refine z_bipush dX8_cast_39 rfl ?_
        refine cs_X8_55 dX8_cast_41 (D_X8_ref3 hI hw) w0 rfl rfl (Nat.le_of_ble_eq_true rfl) (by decide) (z_ki ?_)
        exact z_iret F dX8_cast_44 rfl (by decide) ⟨fun q => absurd (by omega) q, fun _ => ⟨fun _ => ⟨rfl, rfl⟩, fun q => absurd (by omega) q⟩⟩
      · skip
        refine z_aload_n dX8_cast_28 rfl ?_
        refine gf_X8_10 dX8_cast_29 w0 rfl ?_
        refine gf_X8_175 dX8_cast_32 e0 rfl ?_
        refine z_if_le dX8_cast_35 (tgt := 45) rfl ⟨by omega, by omega⟩ (fun c4 => ?_) (fun c4 => ?_)
        · skip
          refine z_aload_n dX8_cast_45 rfl ?_
          refine gf_X8_10 dX8_cast_46 w0 rfl ?_
          refine z_iload_n dX8_cast_49 rfl ?_
          refine pf_X8_181 dX8_cast_50 e0 (Nat.le_of_ble_eq_true rfl) ?_
          refine z_aload_n dX8_cast_53 rfl ?_
          refine gf_X8_10 dX8_cast_54 ((z_up_n (hI.ne (i := 0) (j := 27 + 0) (by omega) (by omega) (by omega))).trans w0) rfl ?_
          refine z_iconst dX8_cast_57 ?_
          refine pf_X8_184 dX8_cast_58 z_up_s (Nat.le_of_ble_eq_true rfl) ?_
          refine z_heq (h' := z_up h (tN ad 0) (c_O 5 [z_r (tN ad 1), z_r (tN ad 2), z_i (Nw 5020), z_i (Nw 5025), z_i x, z_i 0, z_i (Nw 5021), z_i (Nw 5024)])) z_up_up ?_
          refine z_iload_n dX8_cast_61 rfl ?_
          exact z_iret F dX8_cast_62 rfl (by decide) ⟨fun q => absurd (by omega) q, fun _ => ⟨fun q => absurd q (by omega), fun _ => ⟨rfl, hw.no hI hwf (N' := z_sf (z_sf Nw 5023 x) 5022 0) (fun k hk => by rw [z_sf_n (by omega), z_sf_n (by omega)]) ⟨v1.1, Int.le_refl _⟩ v2 (Or.inl rfl) (show 0 ≤ x ∧ x ≤ 60 by omega) ⟨v5.1, Int.le_refl _⟩, zfr.up (j := 27) (by decide)⟩⟩⟩
        · skip
          refine z_aload_n dX8_cast_38 rfl ?_
          refine z_bipush dX8_cast_39 rfl ?_
          refine cs_X8_55 dX8_cast_41 (D_X8_ref3 hI hw) w0 rfl rfl (Nat.le_of_ble_eq_true rfl) (by decide) (z_ki ?_)
          exact z_iret F dX8_cast_44 rfl (by decide) ⟨fun q => absurd (by omega) q, fun _ => ⟨fun _ => ⟨rfl, rfl⟩, fun q => absurd (by omega) q⟩⟩
    · skip
      refine z_aload_n dX8_cast_11 rfl ?_
      refine z_bipush dX8_cast_12 rfl ?_
      refine cs_X8_55 dX8_cast_14 (D_X8_ref0 hI hw) w0 rfl rfl (Nat.le_of_ble_eq_true rfl) (by decide) (z_ki ?_)
      exact z_iret F dX8_cast_17 rfl (by decide) ⟨fun q => ⟨rfl, rfl⟩, fun q => absurd q (by omega)⟩
set_option maxHeartbeats 4000000 in
set_option maxRecDepth 100000 in
theorem D_X8_drop {g : z_G} {h : z_H} {ad : Nat → Nat} {Rf Nw Th Tp Lk Ho Sz Im : z_row} {kp : Int} {t ca : Nat} {G Gt : Nat → z_G4} (hI : aJ ad) (hw : cW h ad Rf Nw Th Tp Lk Ho Sz Im kp t ca G Gt) (hwf : nWf Nw G) : z_D g mX8_drop 2 0 0 [z_r (ad 0)] h (fun rv h' => (Nw 5020 = 0 → rv = some (z_i (-95)) ∧ h' = rfH h ad Rf 3) ∧ (Nw 5020 ≠ 0 → rv = some (z_i (Nw 5020 - 1)) ∧ (cW h' ad Rf (z_sf Nw 5020 (Nw 5020 - 1)) Th Tp Lk Ho Sz Im kp t ca G Gt ∧ zfr ad h h'))) := by
  refine z_D.of (by decide +kernel) (Nat.le_of_ble_eq_true rfl) (fun X F => ?_)
  obtain ⟨⟨w0, w1, w2, w3⟩, wp, wc, ws, wn, wkk⟩ := id hw
  obtain ⟨Lf, lc, dc, nd, si, mo, se, sd, ln, zz, ff, hs, hL, hk9⟩ := wn
  obtain ⟨⟨rfl, rfl, rfl, rfl, rfl, rfl⟩, hcl, hln⟩ := hk9 trivial
  obtain ⟨e0, e1, e2, e3, b1, b2, b3, b4, b5⟩ := id hs
  obtain ⟨v1, v2, v3, v4, v5, v6, v7⟩ := id hwf
  show z_w g X cX8_drop RX8 (2, 0, 0) 0 [z_r (ad 0)] [] h 0 0
  refine z_aload_n dX8_drop_0 rfl ?_
  refine gf_X8_10 dX8_drop_1 w0 rfl ?_
  refine cs_X8_152 dX8_drop_4 (D_X6_dropLine hs) e0 rfl rfl (Nat.le_of_ble_eq_true rfl) (by decide) (fun rv h' hq => ?_)
  by_cases c0 : Nw 5020 = 0
  · obtain ⟨rfl, hq2⟩ := hq.1 c0
    refine z_heq hq2 ?_
    refine z_ks ?_
    refine z_if_eq dX8_drop_7 (tgt := 20) rfl (by decide) (fun c1 => ?_) (fun c1 => ?_)
    · skip
      refine z_aload_n dX8_drop_20 rfl ?_
      refine z_bipush dX8_drop_21 rfl ?_
      refine cs_X8_55 dX8_drop_23 (D_X8_ref3 hI hw) w0 rfl rfl (Nat.le_of_ble_eq_true rfl) (by decide) (z_ki ?_)
      exact z_iret F dX8_drop_26 rfl (by decide) ⟨fun _ => ⟨rfl, rfl⟩, fun q => absurd c0 q⟩
    · exact absurd c1 (by decide)
  · obtain ⟨rfl, hq2⟩ := hq.2 c0
    refine z_heq hq2 ?_
    refine z_ks ?_
    have k0 : (z_up h (tN ad 0) (c_O 5 [z_r (tN ad 1), z_r (tN ad 2), z_i (Nw 5020 - 1), z_i (Nw 5025), z_i (Nw 5023), z_i (Nw 5022), z_i (Nw 5021), z_i (Nw 5024)])) (ad 0) = some (c_O 7 [z_r (tN ad 0), z_r (tK ad 0), z_i kp, z_r (ad 1), z_i (t : Int), z_r (ad 2), z_r (ad 3), z_r (ad 8), z_r (ad 10)]) := (z_up_n (hI.ne (i := 0) (j := 27) (by decide) (by decide) (by decide))).trans w0
    refine z_if_eq dX8_drop_7 (tgt := 20) rfl (by decide) (fun c2 => ?_) (fun c2 => ?_)
    · exact absurd c2 (by decide)
    · skip
      refine z_aload_n dX8_drop_10 rfl ?_
      refine gf_X8_10 dX8_drop_11 k0 rfl ?_
      refine gf_X8_149 dX8_drop_14 z_up_s rfl ?_
      refine z_goto dX8_drop_17 (tgt := 26) rfl ?_
      exact z_iret F dX8_drop_26 rfl (by decide) ⟨fun q => absurd q c0, fun _ => ⟨rfl, hw.no hI hwf (N' := z_sf Nw 5020 (Nw 5020 - 1)) (fun k hk => z_sf_n (by omega)) (show 0 ≤ Nw 5020 - 1 ∧ Nw 5020 - 1 ≤ Nw 5020 by omega) v2 v3 v4 ⟨v5.1, Int.le_refl _⟩, zfr.up (j := 27) (by decide)⟩⟩
set_option maxHeartbeats 4000000 in
set_option maxRecDepth 100000 in
theorem D_X8_rip {g : z_G} {h : z_H} {ad : Nat → Nat} {Rf Nw Th Tp Lk Ho Sz Im : z_row} {kp : Int} {t ca : Nat} {G Gt : Nat → z_G4} (hI : aJ ad) (hw : cW h ad Rf Nw Th Tp Lk Ho Sz Im kp t ca G Gt) (hwf : nWf Nw G) {n9 : Int} (hn9 : z_in n9) : z_D g mX8_rip 5 0 0 [z_r (ad 0), z_i n9] h (fun rv h' => (1 ≤ n9 ∧ n9 ≤ Nw 5025 → rv = some (z_i (Nw 5025 - n9)) ∧ (cW h' ad Rf (rpN Nw (Nw 5025 - n9).toNat) Th Tp Lk Ho Sz Im kp t ca G Gt ∧ zfr ad h h')) ∧ (¬ (1 ≤ n9 ∧ n9 ≤ Nw 5025) → rv = some (z_i (-92)) ∧ h' = rfH h ad Rf 0)) := by
  refine z_D.of (by decide +kernel) (Nat.le_of_ble_eq_true rfl) (fun X F => ?_)
  obtain ⟨⟨w0, w1, w2, w3⟩, wp, wc, ws, wn, wkk⟩ := id hw
  obtain ⟨Lf, lc, dc, nd, si, mo, se, sd, ln, zz, ff, hs, hL, hk9⟩ := wn
  obtain ⟨⟨rfl, rfl, rfl, rfl, rfl, rfl⟩, hcl, hln⟩ := hk9 trivial
  obtain ⟨e0, e1, e2, e3, b1, b2, b3, b4, b5⟩ := id hs
  obtain ⟨v1, v2, v3, v4, v5, v6, v7⟩ := id hwf
  show z_w g X cX8_rip RX8 (5, 0, 0) 0 [z_r (ad 0), z_i n9] [] h 0 0
  refine z_iload_n dX8_rip_0 rfl ?_
  refine z_iconst dX8_rip_1 ?_
  refine z_icmp_lt dX8_rip_2 (tgt := 16) rfl ⟨by omega, by omega⟩ (by decide) (fun c1 => ?_) (fun c1 => ?_)
  · skip
    refine z_aload_n dX8_rip_16 rfl ?_
    refine z_bipush dX8_rip_17 rfl ?_
    refine cs_X8_55 dX8_rip_19 (D_X8_ref0 hI hw) w0 rfl rfl (Nat.le_of_ble_eq_true rfl) (by decide) (z_ki ?_)
    exact z_iret F dX8_rip_22 rfl (by decide) ⟨fun q => absurd q (by omega), fun _ => ⟨rfl, rfl⟩⟩
  · skip
    refine z_iload_n dX8_rip_5 rfl ?_
    refine z_aload_n dX8_rip_6 rfl ?_
    refine gf_X8_10 dX8_rip_7 w0 rfl ?_
    refine gf_X8_175 dX8_rip_10 e0 rfl ?_
    refine z_icmp_le dX8_rip_13 (tgt := 23) rfl ⟨by omega, by omega⟩ ⟨by omega, by omega⟩ (fun c2 => ?_) (fun c2 => ?_)
    · skip
      refine z_aload_n dX8_rip_23 rfl ?_
      refine gf_X8_10 dX8_rip_24 w0 rfl ?_
      refine z_iload_n dX8_rip_27 rfl ?_
      refine cs_X8_204 dX8_rip_28 (D_X6_ripBack hs hI.tN (n9 := n9) ⟨by omega, by omega⟩ (fun m hm => by have hh := hcl.f hwf hm; rw [hh.1]; exact hh.2.1)) e0 rfl rfl (Nat.le_of_ble_eq_true rfl) (by decide) (fun rv h' hq => ?_)
      obtain ⟨rfl, -, hq2⟩ := hq
      obtain ⟨m, hm, hq3⟩ := hq2 (by omega)
      have hm2 : (m : Int) < Nw 5025 := by rw [hm]; split <;> omega
      have hm3 : (m : Int) = Nw 5025 - n9 := by rw [hm]; split <;> omega
      obtain ⟨c1, c2, c3, c4⟩ := hcl m hm2
      obtain ⟨f1, f2, f3⟩ := hcl.f hwf hm2
      have hR := v7 m hm2
      have hq4 : h' = (z_up h (tN ad 0) (c_O 5 [z_r (tN ad 1), z_r (tN ad 2), z_i (Nw 5020), z_i (m : Int), z_i (Nw (5026 + 204 * m + 3)), z_i (Nw (5026 + 204 * m)), z_i (Nw 5021), z_i (Nw 5024)])) := by rw [hq3, c1, f1, Int.toNat_natCast, f3, hR.2.2.2.1]
      refine z_heq hq4 ?_
      show z_w _ _ _ _ _ _ _ [] _ _ _
      have k0 : (z_up h (tN ad 0) (c_O 5 [z_r (tN ad 1), z_r (tN ad 2), z_i (Nw 5020), z_i (m : Int), z_i (Nw (5026 + 204 * m + 3)), z_i (Nw (5026 + 204 * m)), z_i (Nw 5021), z_i (Nw 5024)])) (ad 0) = some (c_O 7 [z_r (tN ad 0), z_r (tK ad 0), z_i kp, z_r (ad 1), z_i (t : Int), z_r (ad 2), z_r (ad 3), z_r (ad 8), z_r (ad 10)]) := (z_up_n (hI.ne (i := 0) (j := 27) (by decide) (by decide) (by decide))).trans w0
      refine z_aload_n dX8_rip_31 rfl ?_
      refine gf_X8_10 dX8_rip_32 k0 rfl ?_
      refine gf_X8_175 dX8_rip_35 z_up_s rfl ?_
      obtain rfl : m = (Nw 5025 - n9).toNat := by omega
      exact z_iret F dX8_rip_38 rfl (by decide) ⟨fun _ => ⟨congrArg (fun z => some (z_i z)) (by omega), hw.no hI hwf (N' := rpN Nw (Nw 5025 - n9).toNat) (fun k hk => by unfold rpN; rw [z_sf_n (by omega), z_sf_n (by omega), z_sf_n (by omega)]) ⟨v1.1, Int.le_refl _⟩ v2 hR.2.1 (show 0 ≤ Nw (5026 + 204 * (Nw 5025 - n9).toNat + 3) ∧ Nw (5026 + 204 * (Nw 5025 - n9).toNat + 3) ≤ 60 by have h5 := hR.2.2.2.1; have h6 := hR.2.2.2.2.1; have h7 := sG_0 kT_0 (f := kR Nw (Nw 5025 - n9).toNat) (m := zF Nw (Nw 5025 - n9).toNat); omega) (show 0 ≤ (((Nw 5025 - n9).toNat : Nat) : Int) ∧ (((Nw 5025 - n9).toNat : Nat) : Int) ≤ Nw 5025 by omega), zfr.up (j := 27) (by decide)⟩, fun q => absurd (by omega) q⟩
    · skip
      refine z_aload_n dX8_rip_16 rfl ?_
      refine z_bipush dX8_rip_17 rfl ?_
      refine cs_X8_55 dX8_rip_19 (D_X8_ref0 hI hw) w0 rfl rfl (Nat.le_of_ble_eq_true rfl) (by decide) (z_ki ?_)
      exact z_iret F dX8_rip_22 rfl (by decide) ⟨fun q => absurd q (by omega), fun _ => ⟨rfl, rfl⟩⟩
set_option maxHeartbeats 4000000 in
set_option maxRecDepth 100000 in
theorem D_X8_text {g : z_G} {h : z_H} {ad : Nat → Nat} {Rf Nw Th Tp Lk Ho Sz Im : z_row} {kp : Int} {t ca : Nat} {G Gt : Nat → z_G4} (hI : aJ ad) (hw : cW h ad Rf Nw Th Tp Lk Ho Sz Im kp t ca G Gt) (hwf : nWf Nw G) {li ki : Int} (hli : z_in li) (hki : z_in ki) : z_D g mX8_text 2 0 0 [z_r (ad 0), z_i li, z_i ki] h (fun rv h' => (isL Nw li → rv = some (z_i (if 0 ≤ ki ∧ ki < (nF Nw li.toNat : Int) then tL Nw li.toNat ki.toNat else -1)) ∧ h' = h) ∧ (¬ (isL Nw li) → rv = some (z_i (-92)) ∧ h' = rfH h ad Rf 0)) := by
  refine z_D.of (by decide +kernel) (Nat.le_of_ble_eq_true rfl) (fun X F => ?_)
  obtain ⟨⟨w0, w1, w2, w3⟩, wp, wc, ws, wn, wkk⟩ := id hw
  obtain ⟨Lf, lc, dc, nd, si, mo, se, sd, ln, zz, ff, hs, hL, hk9⟩ := wn
  obtain ⟨⟨rfl, rfl, rfl, rfl, rfl, rfl⟩, hcl, hln⟩ := hk9 trivial
  obtain ⟨e0, e1, e2, e3, b1, b2, b3, b4, b5⟩ := id hs
  obtain ⟨v1, v2, v3, v4, v5, v6, v7⟩ := id hwf
  show z_w g X cX8_text RX8 (2, 0, 0) 0 [z_r (ad 0), z_i li, z_i ki, z_u] [] h 0 0
  refine z_aload_n dX8_text_0 rfl ?_
  refine gf_X8_10 dX8_text_1 w0 rfl ?_
  refine z_iload_n dX8_text_4 rfl ?_
  by_cases cl : isL Nw li
  · skip
    refine cs_X8_155 dX8_text_5 (D_X6_lineAt hs (i := li) ⟨by omega, by omega⟩) e0 rfl rfl (Nat.le_of_ble_eq_true rfl) (by decide) (fun rv h' hq => ?_)
    obtain ⟨rfl, hq2⟩ := hq
    refine z_heq hq2 ?_
    obtain ⟨la, lb, ls, lp, lu, le, lt, lix, lfl, hLa, hLo, hLi, hLt, hLz⟩ := hln li.toNat (by omega)
    have hnl := v6 li.toNat (by omega)
    rw [if_pos (show 0 ≤ li ∧ li < Nw 5020 from cl), hLa]
    refine z_ks ?_
    refine z_astore_n dX8_text_8 (Nat.le_of_ble_eq_true rfl) rfl ?_
    refine z_aload_n dX8_text_9 rfl ?_
    refine z_ifnonnull dX8_text_10 (tgt := 22) rfl (fun _ _ => ?_) (fun c1 => by cases c1)
    refine z_aload_n dX8_text_22 rfl ?_
    refine z_iload_n dX8_text_23 rfl ?_
    refine cs_X8_172 dX8_text_24 (D_X3_byteAt hLi (j := ki) ⟨by omega, by omega⟩) hLi.1 rfl rfl (Nat.le_of_ble_eq_true rfl) (by decide) (z_ki ?_)
    exact z_iret F dX8_text_27 rfl (by decide) ⟨fun q => ⟨congrArg (fun z => some (z_i z)) (by by_cases c9 : 0 ≤ ki ∧ ki < (nF Nw li.toNat : Int); (rw [if_pos c9, if_pos c9]; exact hLt _ (by omega)); (rw [if_neg c9, if_neg c9])), rfl⟩, fun q => absurd cl q⟩
  · skip
    refine cs_X8_155 dX8_text_5 (D_X6_lineAt hs (i := li) ⟨by omega, by omega⟩) e0 rfl rfl (Nat.le_of_ble_eq_true rfl) (by decide) (fun rv h' hq => ?_)
    obtain ⟨rfl, hq2⟩ := hq
    refine z_heq hq2 ?_
    rw [if_neg (show ¬ (0 ≤ li ∧ li < Nw 5020) from cl)]
    refine z_ks ?_
    refine z_astore_n dX8_text_8 (Nat.le_of_ble_eq_true rfl) rfl ?_
    refine z_aload_n dX8_text_9 rfl ?_
    refine z_ifnonnull dX8_text_10 (tgt := 22) rfl (fun _ c2 => by cases c2) (fun _ => ?_)
    refine z_aload_n dX8_text_13 rfl ?_
    refine z_bipush dX8_text_14 rfl ?_
    refine cs_X8_55 dX8_text_16 (D_X8_ref0 hI hw) w0 rfl rfl (Nat.le_of_ble_eq_true rfl) (by decide) (z_ki ?_)
    refine z_goto dX8_text_19 (tgt := 27) rfl ?_
    exact z_iret F dX8_text_27 rfl (by decide) ⟨fun q => absurd q (cl), fun q => ⟨rfl, rfl⟩⟩
set_option maxHeartbeats 4000000 in
set_option maxRecDepth 100000 in
theorem D_X8_lineOf {g : z_G} {h : z_H} {ad : Nat → Nat} {Rf Nw Th Tp Lk Ho Sz Im : z_row} {kp : Int} {t ca : Nat} {G Gt : Nat → z_G4} (hI : aJ ad) (hw : cW h ad Rf Nw Th Tp Lk Ho Sz Im kp t ca G Gt) (hwf : nWf Nw G) {li wh : Int} (hli : z_in li) (hwh : z_in wh) : z_D g mX8_lineOf 2 0 0 [z_r (ad 0), z_i li, z_i wh] h (fun rv h' => (isL Nw li ∧ 0 ≤ wh ∧ wh ≤ 3 → rv = some (z_i (loV Nw li.toNat wh)) ∧ h' = h) ∧ (¬ (isL Nw li ∧ 0 ≤ wh ∧ wh ≤ 3) → rv = some (z_i (-92)) ∧ h' = rfH h ad Rf 0)) := by
  refine z_D.of (by decide +kernel) (Nat.le_of_ble_eq_true rfl) (fun X F => ?_)
  obtain ⟨⟨w0, w1, w2, w3⟩, wp, wc, ws, wn, wkk⟩ := id hw
  obtain ⟨Lf, lc, dc, nd, si, mo, se, sd, ln, zz, ff, hs, hL, hk9⟩ := wn
  obtain ⟨⟨rfl, rfl, rfl, rfl, rfl, rfl⟩, hcl, hln⟩ := hk9 trivial
  obtain ⟨e0, e1, e2, e3, b1, b2, b3, b4, b5⟩ := id hs
  obtain ⟨v1, v2, v3, v4, v5, v6, v7⟩ := id hwf
  show z_w g X cX8_lineOf RX8 (2, 0, 0) 0 [z_r (ad 0), z_i li, z_i wh, z_u] [] h 0 0
  refine z_aload_n dX8_lineOf_0 rfl ?_
  refine gf_X8_10 dX8_lineOf_1 w0 rfl ?_
  refine z_iload_n dX8_lineOf_4 rfl ?_
  by_cases cl : isL Nw li
  · skip
    refine cs_X8_155 dX8_lineOf_5 (D_X6_lineAt hs (i := li) ⟨by omega, by omega⟩) e0 rfl rfl (Nat.le_of_ble_eq_true rfl) (by decide) (fun rv h' hq => ?_)
    obtain ⟨rfl, hq2⟩ := hq
    refine z_heq hq2 ?_
    obtain ⟨la, lb, ls, lp, lu, le, lt, lix, lfl, hLa, hLo, hLi, hLt, hLz⟩ := hln li.toNat (by omega)
    have hnl := v6 li.toNat (by omega)
    rw [if_pos (show 0 ≤ li ∧ li < Nw 5020 from cl), hLa]
    refine z_ks ?_
    refine z_astore_n dX8_lineOf_8 (Nat.le_of_ble_eq_true rfl) rfl ?_
    refine z_aload_n dX8_lineOf_9 rfl ?_
    refine z_ifnonnull dX8_lineOf_10 (tgt := 20) rfl (fun _ _ => ?_) (fun c1 => by cases c1)
    refine z_iload_n dX8_lineOf_20 rfl ?_
    by_cases c2_0 : wh = 0
    · refine z_tabIn dX8_lineOf_21 ⟨by omega, by omega⟩ (tgt := 52) (off := 31) (by omega) (by omega) (by rw [c2_0]; rfl) rfl ?_
      refine z_aload_n dX8_lineOf_52 rfl ?_
      refine gf_X8_159 dX8_lineOf_53 hLi.1 rfl ?_
      exact z_iret F dX8_lineOf_56 rfl (by decide) ⟨fun q => ⟨congrArg (fun z => some (z_i z)) (by unfold loV; rw [hnl.2.2.2.2.2]; repeat (first | rw [if_pos (by omega)] | rw [if_neg (by omega)])), rfl⟩, fun q => absurd ⟨cl, by omega, by omega⟩ q⟩
    by_cases c2_1 : wh = 1
    · refine z_tabIn dX8_lineOf_21 ⟨by omega, by omega⟩ (tgt := 57) (off := 36) (by omega) (by omega) (by rw [c2_1]; rfl) rfl ?_
      refine z_aload_n dX8_lineOf_57 rfl ?_
      refine gf_X8_162 dX8_lineOf_58 hLi.1 rfl ?_
      exact z_iret F dX8_lineOf_61 rfl (by decide) ⟨fun q => ⟨congrArg (fun z => some (z_i z)) (by unfold loV; repeat (first | rw [if_pos (by omega)] | rw [if_neg (by omega)])), rfl⟩, fun q => absurd ⟨cl, by omega, by omega⟩ q⟩
    by_cases c2_2 : wh = 2
    · refine z_tabIn dX8_lineOf_21 ⟨by omega, by omega⟩ (tgt := 62) (off := 41) (by omega) (by omega) (by rw [c2_2]; rfl) rfl ?_
      refine z_aload_n dX8_lineOf_62 rfl ?_
      refine cs_X8_165 dX8_lineOf_63 (D_X3_size hLi) hLi.1 rfl rfl (Nat.le_of_ble_eq_true rfl) (by decide) (z_ki ?_)
      exact z_iret F dX8_lineOf_66 rfl (by decide) ⟨fun q => ⟨congrArg (fun z => some (z_i z)) (by unfold loV; repeat (first | rw [if_pos (by omega)] | rw [if_neg (by omega)])), rfl⟩, fun q => absurd ⟨cl, by omega, by omega⟩ q⟩
    by_cases c2_3 : wh = 3
    · refine z_tabIn dX8_lineOf_21 ⟨by omega, by omega⟩ (tgt := 67) (off := 46) (by omega) (by omega) (by rw [c2_3]; rfl) rfl ?_
      refine z_aload_n dX8_lineOf_67 rfl ?_
      refine gf_X8_168 dX8_lineOf_68 hLi.1 rfl ?_
      refine z_if_eq dX8_lineOf_71 (tgt := 78) rfl ⟨by omega, by omega⟩ (fun c3 => ?_) (fun c3 => ?_)
      · skip
        skip
        refine z_iconst dX8_lineOf_78 ?_
        exact z_iret F dX8_lineOf_79 rfl (by decide) ⟨fun q => ⟨congrArg (fun z => some (z_i z)) (by unfold loV; rw [if_neg (by omega), if_neg (by omega), if_neg (by omega)]; exact (show (rdZ Nw li.toNat).2.2.2.2 = 0 by omega).symm), rfl⟩, fun q => absurd ⟨cl, by omega, by omega⟩ q⟩
      · skip
        refine z_iconst dX8_lineOf_74 ?_
        refine z_goto dX8_lineOf_75 (tgt := 79) rfl ?_
        exact z_iret F dX8_lineOf_79 rfl (by decide) ⟨fun q => ⟨congrArg (fun z => some (z_i z)) (by unfold loV; rw [if_neg (by omega), if_neg (by omega), if_neg (by omega)]; exact (show (rdZ Nw li.toNat).2.2.2.2 = 1 by omega).symm), rfl⟩, fun q => absurd ⟨cl, by omega, by omega⟩ q⟩
    refine z_tabOut dX8_lineOf_21 ⟨by omega, by omega⟩ (tgt := 80) (by omega) rfl ?_
    refine z_aload_n dX8_lineOf_80 rfl ?_
    refine z_bipush dX8_lineOf_81 rfl ?_
    refine cs_X8_55 dX8_lineOf_83 (D_X8_ref0 hI hw) w0 rfl rfl (Nat.le_of_ble_eq_true rfl) (by decide) (z_ki ?_)
    exact z_iret F dX8_lineOf_86 rfl (by decide) ⟨fun q => absurd q (fun q => by have := q.2; omega), fun q => ⟨rfl, rfl⟩⟩
  · skip
    refine cs_X8_155 dX8_lineOf_5 (D_X6_lineAt hs (i := li) ⟨by omega, by omega⟩) e0 rfl rfl (Nat.le_of_ble_eq_true rfl) (by decide) (fun rv h' hq => ?_)
    obtain ⟨rfl, hq2⟩ := hq
    refine z_heq hq2 ?_
    rw [if_neg (show ¬ (0 ≤ li ∧ li < Nw 5020) from cl)]
    refine z_ks ?_
    refine z_astore_n dX8_lineOf_8 (Nat.le_of_ble_eq_true rfl) rfl ?_
    refine z_aload_n dX8_lineOf_9 rfl ?_
    refine z_ifnonnull dX8_lineOf_10 (tgt := 20) rfl (fun _ c4 => by cases c4) (fun _ => ?_)
    refine z_aload_n dX8_lineOf_13 rfl ?_
    refine z_bipush dX8_lineOf_14 rfl ?_
    refine cs_X8_55 dX8_lineOf_16 (D_X8_ref0 hI hw) w0 rfl rfl (Nat.le_of_ble_eq_true rfl) (by decide) (z_ki ?_)
    exact z_iret F dX8_lineOf_19 rfl (by decide) ⟨fun q => absurd q (fun q => cl q.1), fun q => ⟨rfl, rfl⟩⟩
set_option maxHeartbeats 4000000 in
set_option maxRecDepth 100000 in
theorem D_X8_origin {g : z_G} {h : z_H} {ad : Nat → Nat} {Rf Nw Th Tp Lk Ho Sz Im : z_row} {kp : Int} {t ca : Nat} {G Gt : Nat → z_G4} (hI : aJ ad) (hw : cW h ad Rf Nw Th Tp Lk Ho Sz Im kp t ca G Gt) (hwf : nWf Nw G) {j9 : Int} (hj9 : z_in j9) : z_D g mX8_origin 5 0 0 [z_r (ad 0), z_i j9] h (fun rv h' => (0 ≤ j9 ∧ j9 < Nw 5023 → (∃ v : Nat, rv = some (z_l (v : Int)) ∧ ∀ p, v.testBit p = true ↔ orP Nw (Nw 5025).toNat (fun q => q = j9.toNat) p) ∧ h' = h) ∧ (¬ (0 ≤ j9 ∧ j9 < Nw 5023) → rv = some (z_l (-92 - 9000000000000000000)) ∧ h' = rfH h ad Rf 0)) := by
  refine z_D.of (by decide +kernel) (Nat.le_of_ble_eq_true rfl) (fun X F => ?_)
  obtain ⟨⟨w0, w1, w2, w3⟩, wp, wc, ws, wn, wkk⟩ := id hw
  obtain ⟨Lf, lc, dc, nd, si, mo, se, sd, ln, zz, ff, hs, hL, hk9⟩ := wn
  obtain ⟨⟨rfl, rfl, rfl, rfl, rfl, rfl⟩, hcl, hln⟩ := hk9 trivial
  obtain ⟨e0, e1, e2, e3, b1, b2, b3, b4, b5⟩ := id hs
  obtain ⟨v1, v2, v3, v4, v5, v6, v7⟩ := id hwf
  show z_w g X cX8_origin RX8 (5, 0, 0) 0 [z_r (ad 0), z_i j9] [] h 0 0
  refine z_iload_n dX8_origin_0 rfl ?_
  refine z_if_lt dX8_origin_1 (tgt := 15) rfl ⟨by omega, by omega⟩ (fun c1 => ?_) (fun c1 => ?_)
  · skip
    refine z_aload_n dX8_origin_15 rfl ?_
    refine z_bipush dX8_origin_16 rfl ?_
    refine cs_X8_235 dX8_origin_18 (D_X8_refuseLong hI hw) w0 rfl rfl (Nat.le_of_ble_eq_true rfl) (by decide) (z_kl ?_)
    exact z_lret F dX8_origin_21 rfl (by decide) ⟨fun q => absurd q (by omega), fun _ => ⟨rfl, rfl⟩⟩
  · skip
    refine z_iload_n dX8_origin_4 rfl ?_
    refine z_aload_n dX8_origin_5 rfl ?_
    refine gf_X8_10 dX8_origin_6 w0 rfl ?_
    refine gf_X8_181 dX8_origin_9 e0 rfl ?_
    refine z_icmp_lt dX8_origin_12 (tgt := 22) rfl ⟨by omega, by omega⟩ ⟨by omega, by omega⟩ (fun c2 => ?_) (fun c2 => ?_)
    · skip
      refine z_aload_n dX8_origin_22 rfl ?_
      refine gf_X8_10 dX8_origin_23 w0 rfl ?_
      refine z_iload_n dX8_origin_26 rfl ?_
      refine z_ieq (y := (j9.toNat : Int)) (by omega) ?_
      refine cs_X8_271 dX8_origin_27 (D_X6_placesAtFirst hs hwf hcl (j := j9.toNat) (by omega)) e0 rfl rfl (Nat.le_of_ble_eq_true rfl) (by decide) (fun rv h' hq => ?_)
      obtain ⟨⟨v, rfl, hv⟩, hq2⟩ := hq
      refine z_heq hq2 ?_
      refine z_ks ?_
      exact z_lret F dX8_origin_30 rfl (by decide) ⟨fun _ => ⟨⟨v, rfl, hv⟩, rfl⟩, fun q => absurd (by omega) q⟩
    · skip
      refine z_aload_n dX8_origin_15 rfl ?_
      refine z_bipush dX8_origin_16 rfl ?_
      refine cs_X8_235 dX8_origin_18 (D_X8_refuseLong hI hw) w0 rfl rfl (Nat.le_of_ble_eq_true rfl) (by decide) (z_kl ?_)
      exact z_lret F dX8_origin_21 rfl (by decide) ⟨fun q => absurd q (by omega), fun _ => ⟨rfl, rfl⟩⟩
