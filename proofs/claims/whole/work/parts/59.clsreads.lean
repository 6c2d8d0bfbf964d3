/-! KnitReader: shelves read, tape, what the state tells -/
section ZCW
variable {h : z_H} {ad : Nat → Nat} {Rf Nw Th Tp Lk Ho Sz Im : z_row} {kp : Int} {t ca : Nat} {G Gt : Nat → z_G4}
/-- the numbers of now are others -/
theorem cW.no (hI : aJ ad) (H : cW h ad Rf Nw Th Tp Lk Ho Sz Im kp t ca G Gt) (hwf : nWf Nw G) {N' : z_row} (hk : ∀ k, k < 5020 ∨ 5026 ≤ k → N' k = Nw k) (h0 : 0 ≤ N' 5020 ∧ N' 5020 ≤ Nw 5020) (h1 : N' 5021 = 0 ∨ N' 5021 = 1) (h2 : N' 5022 = 0 ∨ N' 5022 = 1) (h3 : 0 ≤ N' 5023 ∧ N' 5023 ≤ 60) (h5 : 0 ≤ N' 5025 ∧ N' 5025 ≤ Nw 5025) : cW (z_up h (tN ad 0) (c_O 5 [z_r (tN ad 1), z_r (tN ad 2), z_i (N' 5020), z_i (N' 5025), z_i (N' 5023), z_i (N' 5022), z_i (N' 5021), z_i (N' 5024)])) ad Rf N' Th Tp Lk Ho Sz Im kp t ca G Gt := by
  obtain ⟨v1, v2, v3, v4, v5, v6, v7⟩ := hwf
  have wn := H.2.2.2.2.1
  obtain ⟨Lf, lc, dc, nd, si, mo, se, sd, ln, zz, ff, hs, hL, hk9⟩ := wn
  obtain ⟨⟨rfl, rfl, rfl, rfl, rfl, rfl⟩, hcl, hln⟩ := hk9 trivial
  have hU : ∀ l u e, u ≤ 347 → (27 < l ∨ u ≤ 27) → agT ad h (z_up h (tN ad 0) e) l u := fun l u e h1 h2 => agT.up (j := 27) hI (by decide) h1 h2
  have hO : ∀ e, agO ad h (z_up h (tN ad 0) e) := fun e => agO.up (j := 27) (by decide)
  refine H.nw (hU _ _ _ (by decide) (by decide)) (hU _ _ _ (by decide) (by decide)) (hO _) ⟨Lf, _, _, _, _, _, _, sd, ln, zz, ff, hs.o hI.tN ⟨by omega, by omega, h3, h2, h1⟩, fun i hi a ha => ?_, fun _ => ⟨⟨rfl, rfl, rfl, rfl, rfl, rfl⟩, hcl.ag (fun k k1 _ => hk k (by omega)) h5.2 v5.2 (fun i hi => (v7 i hi).1.2.2.1), (hln.ag (fun k k1 => hk k (by omega)) h0.2 v1.2 (fun _ _ => rfl)).fr (hO _)⟩⟩
  obtain ⟨⟨fs, k1⟩, k2⟩ := hL i hi a ha
  exact ⟨⟨fs, (hO _ a (by rw [k1]; exact Option.some_ne_none _) k2).trans k1⟩, k2⟩
end ZCW
set_option maxHeartbeats 4000000 in
set_option maxRecDepth 100000 in
theorem D_X8_holds {g : z_G} {h : z_H} {ad : Nat → Nat} {Rf Nw Th Tp Lk Ho Sz Im : z_row} {kp : Int} {t ca : Nat} {G Gt : Nat → z_G4} (hI : aJ ad) (hw : cW h ad Rf Nw Th Tp Lk Ho Sz Im kp t ca G Gt) (hhs : hWf Ho Sz) {si : Int} (hsi : z_in si) : z_D g mX8_holds 2 0 0 [z_r (ad 0), z_i si] h (z_Pi (if isS si then Ho si.toNat else -1) h) := by
  refine z_D.of (by decide +kernel) (Nat.le_of_ble_eq_true rfl) (fun X F => ?_)
  obtain ⟨⟨w0, w1, w2, w3⟩, wp, wc, ws, wn, wk⟩ := id hw
  show z_w g X cX8_holds RX8 (2, 0, 0) 0 [z_r (ad 0), z_i si, z_u] [] h 0 0
  refine z_aload_n dX8_holds_0 rfl ?_
  refine z_iload_n dX8_holds_1 rfl ?_
  by_cases cs : isS si
  · skip
    refine cs_X8_47 dX8_holds_2 (D_X8_shelfAt hI hw (j := si) ⟨by omega, by omega⟩) w0 rfl rfl (Nat.le_of_ble_eq_true rfl) (by decide) (fun rv h' hq => ?_)
    obtain ⟨rfl, hq2⟩ := hq
    refine z_heq hq2 ?_
    obtain ⟨sz, ff, st, ss, se⟩ := ws si.toNat (by omega)
    have hw := hhs si.toNat (by omega)
    rw [if_pos (show 0 ≤ si ∧ si ≤ 7 from cs)]
    refine z_ks ?_
    refine z_astore_n dX8_holds_5 (Nat.le_of_ble_eq_true rfl) rfl ?_
    refine z_aload_n dX8_holds_6 rfl ?_
    refine z_ifnonnull dX8_holds_7 (tgt := 14) rfl (fun _ _ => ?_) (fun c1 => by cases c1)
    refine z_aload_n dX8_holds_14 rfl ?_
    refine gf_X8_77 dX8_holds_15 st.1 rfl ?_
    exact z_iret F dX8_holds_18 rfl (by decide) ⟨congrArg (fun z => some (z_i z)) ((if_pos cs).symm), rfl⟩
  · skip
    refine cs_X8_47 dX8_holds_2 (D_X8_shelfAt hI hw (j := si) ⟨by omega, by omega⟩) w0 rfl rfl (Nat.le_of_ble_eq_true rfl) (by decide) (fun rv h' hq => ?_)
    obtain ⟨rfl, hq2⟩ := hq
    refine z_heq hq2 ?_
    rw [if_neg (show ¬ (0 ≤ si ∧ si ≤ 7) from cs)]
    refine z_ks ?_
    refine z_astore_n dX8_holds_5 (Nat.le_of_ble_eq_true rfl) rfl ?_
    refine z_aload_n dX8_holds_6 rfl ?_
    refine z_ifnonnull dX8_holds_7 (tgt := 14) rfl (fun _ c2 => by cases c2) (fun _ => ?_)
    refine z_iconst dX8_holds_10 ?_
    refine z_goto dX8_holds_11 (tgt := 18) rfl ?_
    exact z_iret F dX8_holds_18 rfl (by decide) ⟨congrArg (fun z => some (z_i z)) ((if_neg cs).symm), rfl⟩
set_option maxHeartbeats 4000000 in
set_option maxRecDepth 100000 in
theorem D_X8_element {g : z_G} {h : z_H} {ad : Nat → Nat} {Rf Nw Th Tp Lk Ho Sz Im : z_row} {kp : Int} {t ca : Nat} {G Gt : Nat → z_G4} (hI : aJ ad) (hw : cW h ad Rf Nw Th Tp Lk Ho Sz Im kp t ca G Gt) (hhs : hWf Ho Sz) {si i9 : Int} (hsi : z_in si) (hi9 : z_in i9) : z_D g mX8_element 5 0 0 [z_r (ad 0), z_i si, z_i i9] h (z_Pl (if isS si ∧ amI (Ho si.toNat) = 0 ∧ 0 ≤ i9 ∧ i9 < Sz si.toNat then Im (40 * si.toNat + i9.toNat) else 0) h) := by
  refine z_D.of (by decide +kernel) (Nat.le_of_ble_eq_true rfl) (fun X F => ?_)
  obtain ⟨⟨w0, w1, w2, w3⟩, wp, wc, ws, wn, wk⟩ := id hw
  show z_w g X cX8_element RX8 (5, 0, 0) 0 [z_r (ad 0), z_i si, z_i i9, z_u] [] h 0 0
  refine z_aload_n dX8_element_0 rfl ?_
  refine z_iload_n dX8_element_1 rfl ?_
  by_cases cs : isS si
  · skip
    refine cs_X8_47 dX8_element_2 (D_X8_shelfAt hI hw (j := si) ⟨by omega, by omega⟩) w0 rfl rfl (Nat.le_of_ble_eq_true rfl) (by decide) (fun rv h' hq => ?_)
    obtain ⟨rfl, hq2⟩ := hq
    refine z_heq hq2 ?_
    obtain ⟨sz, ff, st, ss, se⟩ := ws si.toNat (by omega)
    have hw := hhs si.toNat (by omega)
    rw [if_pos (show 0 ≤ si ∧ si ≤ 7 from cs)]
    refine z_ks ?_
    refine z_astore_n dX8_element_5 (Nat.le_of_ble_eq_true rfl) rfl ?_
    refine z_aload_n dX8_element_6 rfl ?_
    refine z_ifnonnull dX8_element_7 (tgt := 14) rfl (fun _ _ => ?_) (fun c1 => by cases c1)
    refine z_aload_n dX8_element_14 rfl ?_
    refine z_iload_n dX8_element_15 rfl ?_
    refine cs_X8_85 dX8_element_16 (D_X5_elementAt st (i := i9) ⟨by omega, by omega⟩) st.1 rfl rfl (Nat.le_of_ble_eq_true rfl) (by decide) (z_kl ?_)
    have hai : amI (Ho si.toNat) = 0 ↔ (0 ≤ Ho si.toNat ∧ Ho si.toNat ≤ 4) := by
      unfold amI; split
      · omega
      · split <;> omega
    refine z_lret F dX8_element_19 rfl (by decide) ⟨congrArg (fun z => some (z_l z)) ?_, rfl⟩
    by_cases c9 : (0 ≤ Ho si.toNat ∧ Ho si.toNat ≤ 4) ∧ 0 ≤ i9 ∧ i9 < sz
    · have hz := ss (hai.mpr c9.1)
      rw [if_pos c9, if_pos ⟨cs, hai.mpr c9.1, by omega, by omega⟩]
      have := st.2.2.2.2
      exact se _ (by omega)
    · rw [if_neg c9, if_neg (fun q => c9 ⟨hai.mp q.2.1, by have := ss q.2.1; omega⟩)]
  · skip
    refine cs_X8_47 dX8_element_2 (D_X8_shelfAt hI hw (j := si) ⟨by omega, by omega⟩) w0 rfl rfl (Nat.le_of_ble_eq_true rfl) (by decide) (fun rv h' hq => ?_)
    obtain ⟨rfl, hq2⟩ := hq
    refine z_heq hq2 ?_
    rw [if_neg (show ¬ (0 ≤ si ∧ si ≤ 7) from cs)]
    refine z_ks ?_
    refine z_astore_n dX8_element_5 (Nat.le_of_ble_eq_true rfl) rfl ?_
    refine z_aload_n dX8_element_6 rfl ?_
    refine z_ifnonnull dX8_element_7 (tgt := 14) rfl (fun _ c2 => by cases c2) (fun _ => ?_)
    refine z_lconst0 dX8_element_10 ?_
    refine z_goto dX8_element_11 (tgt := 19) rfl ?_
    exact z_lret F dX8_element_19 rfl (by decide) ⟨congrArg (fun z => some (z_l z)) ((if_neg (fun q => cs q.1)).symm), rfl⟩
set_option maxHeartbeats 4000000 in
set_option maxRecDepth 100000 in
theorem D_X8_wipe {g : z_G} {h : z_H} {ad : Nat → Nat} {Rf Nw Th Tp Lk Ho Sz Im : z_row} {kp : Int} {t ca : Nat} {G Gt : Nat → z_G4} (hI : aJ ad) (hw : cW h ad Rf Nw Th Tp Lk Ho Sz Im kp t ca G Gt)  : z_D g mX8_wipe 1 0 0 [z_r (ad 0)] h (fun rv h' => rv = some (z_i (t : Int)) ∧ (cW h' ad Rf Nw Th Tp Lk Ho Sz Im kp 0 ca G Gt ∧ zfr ad h h')) := by
  refine z_D.of (by decide +kernel) (Nat.le_of_ble_eq_true rfl) (fun X F => ?_)
  obtain ⟨⟨w0, w1, w2, w3⟩, wp, wc, ws, wn, wk⟩ := id hw
  show z_w g X cX8_wipe RX8 (1, 0, 0) 0 [z_r (ad 0), z_u] [] h 0 0
  refine z_aload_n dX8_wipe_0 rfl ?_
  refine gf_X8_131 dX8_wipe_1 w0 rfl ?_
  refine z_istore_n dX8_wipe_4 (Nat.le_of_ble_eq_true rfl) rfl ?_
  refine z_aload_n dX8_wipe_5 rfl ?_
  refine z_iconst dX8_wipe_6 ?_
  refine pf_X8_131 dX8_wipe_7 w0 (Nat.le_of_ble_eq_true rfl) ?_
  refine z_iload_n dX8_wipe_10 rfl ?_
  exact z_iret F dX8_wipe_11 rfl (by decide) ⟨rfl, hw.ob hI (t' := 0), zfr.up (by decide)⟩
set_option maxHeartbeats 4000000 in
set_option maxRecDepth 100000 in
theorem D_X8_feed {g : z_G} {h : z_H} {ad : Nat → Nat} {Rf Nw Th Tp Lk Ho Sz Im : z_row} {kp : Int} {t ca : Nat} {G Gt : Nat → z_G4} (hI : aJ ad) (hw : cW h ad Rf Nw Th Tp Lk Ho Sz Im kp t ca G Gt) (ht9 : t ≤ 250) {x : Int} (hx : z_in x) : z_D g mX8_feed 2 0 0 [z_r (ad 0), z_i x] h (fun rv h' => (¬ (0 ≤ x ∧ x ≤ 255) → rv = some (z_i (-92)) ∧ h' = rfH h ad Rf 0) ∧ (0 ≤ x ∧ x ≤ 255 → (t = 250 → rv = some (z_i (-96)) ∧ h' = rfH h ad Rf 4) ∧ (t ≠ 250 → rv = some (z_i ((t + 1 : Nat) : Int)) ∧ (cW h' ad Rf Nw Th (z_sf Tp t x) Lk Ho Sz Im kp (t + 1) ca G Gt ∧ zfr ad h h')))) := by
  refine z_D.of (by decide +kernel) (Nat.le_of_ble_eq_true rfl) (fun X F => ?_)
  obtain ⟨⟨w0, w1, w2, w3⟩, wp, wc, ws, wn, wk⟩ := id hw
  show z_w g X cX8_feed RX8 (2, 0, 0) 0 [z_r (ad 0), z_i x] [] h 0 0
  refine z_iload_n dX8_feed_0 rfl ?_
  refine z_if_lt dX8_feed_1 (tgt := 11) rfl ⟨by omega, by omega⟩ (fun c1 => ?_) (fun c1 => ?_)
  · skip
    refine z_aload_n dX8_feed_11 rfl ?_
    refine z_bipush dX8_feed_12 rfl ?_
    refine cs_X8_55 dX8_feed_14 (D_X8_ref0 hI hw) w0 rfl rfl (Nat.le_of_ble_eq_true rfl) (by decide) (z_ki ?_)
    exact z_iret F dX8_feed_17 rfl (by decide) ⟨fun q => ⟨rfl, rfl⟩, fun q => absurd q (by omega)⟩
  · skip
    refine z_iload_n dX8_feed_4 rfl ?_
    refine z_sipush dX8_feed_5 rfl ?_
    refine z_icmp_le dX8_feed_8 (tgt := 18) rfl ⟨by omega, by omega⟩ (by decide) (fun c2 => ?_) (fun c2 => ?_)
    · skip
      refine z_aload_n dX8_feed_18 rfl ?_
      refine gf_X8_131 dX8_feed_19 w0 rfl ?_
      refine z_if_lt dX8_feed_22 (tgt := 37) rfl ⟨by omega, by omega⟩ (fun c3 => ?_) (fun c3 => ?_)
      · skip
        exfalso
        omega
      · skip
        refine z_aload_n dX8_feed_25 rfl ?_
        refine gf_X8_131 dX8_feed_26 w0 rfl ?_
        refine z_aload_n dX8_feed_29 rfl ?_
        refine gf_X8_19 dX8_feed_30 w0 rfl ?_
        refine z_alenI dX8_feed_33 w1 ?_
        refine z_icmp_lt dX8_feed_34 (tgt := 44) rfl ⟨by omega, by omega⟩ ⟨by omega, by omega⟩ (fun c4 => ?_) (fun c4 => ?_)
        · skip
          refine z_aload_n dX8_feed_44 rfl ?_
          refine gf_X8_19 dX8_feed_45 w0 rfl ?_
          refine z_aload_n dX8_feed_48 rfl ?_
          refine gf_X8_131 dX8_feed_49 w0 rfl ?_
          refine z_iload_n dX8_feed_52 rfl ?_
          refine z_iastN (m := t) dX8_feed_53 w1 (by omega) ⟨by omega, by omega⟩ ?_
          refine z_aload_n dX8_feed_54 rfl ?_
          refine z_dup dX8_feed_55 rfl ?_
          refine gf_X8_131 dX8_feed_56 ((z_up_n (hI.ne (i := 0) (j := 1) (by omega) (by omega) (by omega))).trans w0) rfl ?_
          refine z_iconst dX8_feed_59 ?_
          refine z_iadd dX8_feed_60 ?_
          refine z_ieq (y := ((t + 1 : Nat) : Int)) (by omega) ?_
          refine pf_X8_131 dX8_feed_61 ((z_up_n (hI.ne (i := 0) (j := 1) (by omega) (by omega) (by omega))).trans w0) (Nat.le_of_ble_eq_true rfl) ?_
          refine z_aload_n dX8_feed_64 rfl ?_
          refine gf_X8_131 dX8_feed_65 z_up_s rfl ?_
          exact z_iret F dX8_feed_68 rfl (by decide) ⟨fun q => absurd (by omega) q, fun q => ⟨fun q => absurd q (by omega), fun q => ⟨rfl, (hw.tp hI).ob hI, (zfr.up (by decide)).tr (zfr.up (by decide))⟩⟩⟩
        · skip
          refine z_aload_n dX8_feed_37 rfl ?_
          refine z_bipush dX8_feed_38 rfl ?_
          refine cs_X8_55 dX8_feed_40 (D_X8_ref4 hI hw) w0 rfl rfl (Nat.le_of_ble_eq_true rfl) (by decide) (z_ki ?_)
          exact z_iret F dX8_feed_43 rfl (by decide) ⟨fun q => absurd (by omega) q, fun q => ⟨fun q => ⟨rfl, rfl⟩, fun q => absurd (by omega) q⟩⟩
    · skip
      refine z_aload_n dX8_feed_11 rfl ?_
      refine z_bipush dX8_feed_12 rfl ?_
      refine cs_X8_55 dX8_feed_14 (D_X8_ref0 hI hw) w0 rfl rfl (Nat.le_of_ble_eq_true rfl) (by decide) (z_ki ?_)
      exact z_iret F dX8_feed_17 rfl (by decide) ⟨fun q => ⟨rfl, rfl⟩, fun q => absurd q (by omega)⟩
set_option maxHeartbeats 4000000 in
set_option maxRecDepth 100000 in
theorem D_X8_causes {g : z_G} {h : z_H} {ad : Nat → Nat} {Rf Nw Th Tp Lk Ho Sz Im : z_row} {kp : Int} {t ca : Nat} {G Gt : Nat → z_G4} (hI : aJ ad) (hw : cW h ad Rf Nw Th Tp Lk Ho Sz Im kp t ca G Gt)  : z_D g mX8_causes 1 0 0 [z_r (ad 0)] h (z_Pi (ca : Int) h) := by
  refine z_D.of (by decide +kernel) (Nat.le_of_ble_eq_true rfl) (fun X F => ?_)
  obtain ⟨⟨w0, w1, w2, w3⟩, wp, wc, ws, wn, wk⟩ := id hw
  obtain ⟨fc, wc1, wc2⟩ := wc
  show z_w g X cX8_causes RX8 (1, 0, 0) 0 [z_r (ad 0)] [] h 0 0
  refine z_aload_n dX8_causes_0 rfl ?_
  refine gf_X8_39 dX8_causes_1 w0 rfl ?_
  refine gf_X8_207 dX8_causes_4 wc1.1 rfl ?_
  exact z_iret F dX8_causes_7 rfl (by decide) ⟨congrArg (fun z => some (z_i z)) (by rfl), rfl⟩
set_option maxHeartbeats 4000000 in
set_option maxRecDepth 100000 in
theorem D_X8_why {g : z_G} {h : z_H} {ad : Nat → Nat} {Rf Nw Th Tp Lk Ho Sz Im : z_row} {kp : Int} {t ca : Nat} {G Gt : Nat → z_G4} (hI : aJ ad) (hw : cW h ad Rf Nw Th Tp Lk Ho Sz Im kp t ca G Gt) {li wh : Int} (hli : z_in li) (hwh : z_in wh) : z_D g mX8_why 2 0 0 [z_r (ad 0), z_i li, z_i wh] h (fun rv h' => ((0 ≤ li ∧ li < (ca : Int)) ∧ 0 ≤ wh ∧ wh ≤ 2 → rv = some (z_i (Lk (3 * li + wh).toNat)) ∧ h' = h) ∧ (¬ ((0 ≤ li ∧ li < (ca : Int)) ∧ 0 ≤ wh ∧ wh ≤ 2) → rv = some (z_i (-92)) ∧ h' = rfH h ad Rf 0)) := by
  refine z_D.of (by decide +kernel) (Nat.le_of_ble_eq_true rfl) (fun X F => ?_)
  obtain ⟨⟨w0, w1, w2, w3⟩, wp, wc, ws, wn, wk⟩ := id hw
  obtain ⟨fc, wc1, wc2⟩ := wc
  have hca := wc1.2.2
  show z_w g X cX8_why RX8 (2, 0, 0) 0 [z_r (ad 0), z_i li, z_i wh] [] h 0 0
  refine z_aload_n dX8_why_0 rfl ?_
  refine gf_X8_39 dX8_why_1 w0 rfl ?_
  refine z_iload_n dX8_why_4 rfl ?_
  refine z_iload_n dX8_why_5 rfl ?_
  refine cs_X8_210 dX8_why_6 (D_X0_hasNumber wc1 hli hwh) wc1.1 rfl rfl (Nat.le_of_ble_eq_true rfl) (by decide) (z_ki ?_)
  refine z_if_eq dX8_why_9 (tgt := 24) rfl ⟨by split <;> omega, by split <;> omega⟩ (fun c1 => ?_) (fun c1 => ?_)
  · skip
    refine z_aload_n dX8_why_24 rfl ?_
    refine z_bipush dX8_why_25 rfl ?_
    refine cs_X8_55 dX8_why_27 (D_X8_ref0 hI hw) w0 rfl rfl (Nat.le_of_ble_eq_true rfl) (by decide) (z_ki ?_)
    exact z_iret F dX8_why_30 rfl (by decide) ⟨fun q => absurd q (fun q => by omega), fun q => ⟨rfl, rfl⟩⟩
  · skip
    refine z_aload_n dX8_why_12 rfl ?_
    refine gf_X8_39 dX8_why_13 w0 rfl ?_
    refine z_iload_n dX8_why_16 rfl ?_
    refine z_iload_n dX8_why_17 rfl ?_
    refine cs_X8_213 dX8_why_18 (D_X0_numberAt wc1 (i := li) (w := wh) (by omega)) wc1.1 rfl rfl (Nat.le_of_ble_eq_true rfl) (by decide) (z_ki ?_)
    refine z_goto dX8_why_21 (tgt := 30) rfl ?_
    exact z_iret F dX8_why_30 rfl (by decide) ⟨fun q => ⟨congrArg (fun z => some (z_i z)) (wc2 _ (by omega)), rfl⟩, fun q => absurd ⟨by omega, by omega⟩ q⟩
set_option maxHeartbeats 4000000 in
set_option maxRecDepth 100000 in
theorem D_X8_shelvesInUse {g : z_G} {h : z_H} {ad : Nat → Nat} {Rf Nw Th Tp Lk Ho Sz Im : z_row} {kp : Int} {t ca : Nat} {G Gt : Nat → z_G4} (hI : aJ ad) (hw : cW h ad Rf Nw Th Tp Lk Ho Sz Im kp t ca G Gt) (hhs : hWf Ho Sz) : z_D g mX8_shelvesInUse 3 0 0 [z_r (ad 0)] h (z_Pi (hcF Ho 8) h) := by
  refine z_D.of (by decide +kernel) (Nat.le_of_ble_eq_true rfl) (fun X F => ?_)
  obtain ⟨⟨w0, w1, w2, w3⟩, wp, wc, ws, wn, wk⟩ := id hw
  show z_w g X cX8_shelvesInUse RX8 (3, 0, 0) 0 [z_r (ad 0), z_u, z_u] [] h 0 0
  refine z_iconst dX8_shelvesInUse_0 ?_
  refine z_istore_n dX8_shelvesInUse_1 (Nat.le_of_ble_eq_true rfl) rfl ?_
  refine z_iconst dX8_shelvesInUse_2 ?_
  refine z_istore_n dX8_shelvesInUse_3 (Nat.le_of_ble_eq_true rfl) rfl ?_
  refine z_lseq (ls2 := [z_r (ad 0), z_i (hcF Ho 0), z_i ((0 : Nat) : Int)]) rfl ?_
  have L4 : ∀ (fu : Nat) (m : Nat) (q1 : m ≤ 8), 8 - m < fu → z_w g X cX8_shelvesInUse RX8 (3, 0, 0) 4 [z_r (ad 0), z_i (hcF Ho m), z_i (m : Int)] [] h 0 0 := by
    intro fu
    induction fu with
    | zero => intro m q1 hm; exact absurd hm (Nat.not_lt_zero _)
    | succ fu ih =>
      intro m q1 hm
      refine z_iload_n dX8_shelvesInUse_4 rfl ?_
      refine z_aload_n dX8_shelvesInUse_5 rfl ?_
      refine gf_X8_25 dX8_shelvesInUse_6 w0 rfl ?_
      refine z_alenA dX8_shelvesInUse_9 (by decide) w2 ?_
      refine z_icmp_ge dX8_shelvesInUse_10 (tgt := 36) rfl ⟨by omega, by omega⟩ (by decide) (fun c1 => ?_) (fun c1 => ?_)
      · skip
        obtain rfl : m = 8 := by omega
        refine z_iload_n dX8_shelvesInUse_36 rfl ?_
        exact z_iret F dX8_shelvesInUse_37 rfl (by decide) ⟨congrArg (fun z => some (z_i z)) (by rfl), rfl⟩
      · skip
        have hh := hhs m (by omega)
        refine z_iload_n dX8_shelvesInUse_13 rfl ?_
        refine z_aload_n dX8_shelvesInUse_14 rfl ?_
        refine z_iload_n dX8_shelvesInUse_15 rfl ?_
        refine cs_X8_304 dX8_shelvesInUse_16 (D_X8_holds hI hw hhs (si := (m : Int)) ⟨by omega, by omega⟩) w0 rfl rfl (Nat.le_of_ble_eq_true rfl) (by decide) (z_ki ?_)
        refine z_ieq (y := Ho m) (by rw [if_pos (show isS (m : Int) from ⟨by omega, by omega⟩), Int.toNat_natCast]) ?_
        refine z_iconst dX8_shelvesInUse_19 ?_
        refine z_icmp_ne dX8_shelvesInUse_20 (tgt := 27) rfl ⟨by omega, by omega⟩ (by decide) (fun c2 => ?_) (fun c2 => ?_)
        · skip
          refine z_iconst dX8_shelvesInUse_27 ?_
          refine z_iadd dX8_shelvesInUse_28 ?_
          refine z_ieq (y := hcF Ho (m + 1)) (by show _ = hcF Ho m + (if Ho m < 0 then 0 else 1); first | rw [if_pos (by omega)] | rw [if_neg (by omega)]) ?_
          refine z_istore_n dX8_shelvesInUse_29 (Nat.le_of_ble_eq_true rfl) rfl ?_
          refine z_iinc dX8_shelvesInUse_30 rfl rfl ?_
          refine z_goto dX8_shelvesInUse_33 (tgt := 4) rfl ?_
          exact ih (m + 1) (by omega) (by omega)
        · skip
          refine z_iconst dX8_shelvesInUse_23 ?_
          refine z_goto dX8_shelvesInUse_24 (tgt := 28) rfl ?_
          refine z_iadd dX8_shelvesInUse_28 ?_
          refine z_ieq (y := hcF Ho (m + 1)) (by show _ = hcF Ho m + (if Ho m < 0 then 0 else 1); first | rw [if_pos (by omega)] | rw [if_neg (by omega)]) ?_
          refine z_istore_n dX8_shelvesInUse_29 (Nat.le_of_ble_eq_true rfl) rfl ?_
          refine z_iinc dX8_shelvesInUse_30 rfl rfl ?_
          refine z_goto dX8_shelvesInUse_33 (tgt := 4) rfl ?_
          exact ih (m + 1) (by omega) (by omega)
  exact L4 9 0 (by omega) (by omega)
