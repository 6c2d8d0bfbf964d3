/-! KnitReader: the shelves; rows held against one another -/
theorem amI_v {x : Int} (hx : x = -1 ∨ (0 ≤ x ∧ x ≤ 4) ∨ (14 ≤ x ∧ x ≤ 22)) : (x = -1 ∧ amI x = -94) ∨ ((0 ≤ x ∧ x ≤ 4) ∧ amI x = 0) ∨ ((14 ≤ x ∧ x ≤ 22) ∧ amI x = -93) := by
  unfold amI
  rcases hx with rfl | h | h
  · exact Or.inl ⟨rfl, rfl⟩
  · exact Or.inr (Or.inl ⟨h, by rw [if_neg (by omega), if_neg (by omega)]⟩)
  · exact Or.inr (Or.inr ⟨h, by rw [if_neg (by omega), if_pos (by omega)]⟩)
theorem amB_in {Ho : z_row} {s : Int} (h : isS s) : amB Ho s = amI (Ho s.toNat) := if_pos h
theorem amB_out {Ho : z_row} {s : Int} (h : ¬ isS s) : amB Ho s = -92 := if_neg h
theorem shX.put {h h' : z_H} {ad : Nat → Nat} {Ho Sz Im Ho' Sz' Im' : z_row} (H : shX h ad Ho Sz Im) {s0 : Nat} (hT : ∀ t, 11 ≤ t → t < 27 → t ≠ 11 + 2 * s0 → t ≠ 12 + 2 * s0 → h' (ad t) = h (ad t)) (hn : ∃ (sz : Int) (f : z_row), oSh h' (ad (11 + 2 * s0)) (ad (12 + 2 * s0)) (Ho' s0) sz f ∧ (amI (Ho' s0) = 0 → sz = Sz' s0) ∧ ∀ k, k < 40 → f k = Im' (40 * s0 + k)) (ho : ∀ s, s ≠ s0 → s < 8 → Ho' s = Ho s ∧ Sz' s = Sz s ∧ ∀ k, k < 40 → Im' (40 * s + k) = Im (40 * s + k)) : shX h' ad Ho' Sz' Im' := fun s hs => by
  by_cases c : s = s0
  · rw [c]; exact hn
  · obtain ⟨sz, f, ⟨h1, h2, h3⟩, h4, h5⟩ := H s hs
    obtain ⟨o1, o2, o3⟩ := ho s c hs
    rw [o1, o2]
    exact ⟨sz, f, ⟨(hT _ (by omega) (by omega) (by omega) (by omega)).trans h1, (hT _ (by omega) (by omega) (by omega) (by omega)).trans h2, h3⟩, h4, fun k hk => (h5 k hk).trans (o3 k hk).symm⟩
section ZCW
variable {h : z_H} {ad : Nat → Nat} {Rf Nw Th Tp Lk Ho Sz Im : z_row} {kp : Int} {t ca : Nat} {G Gt : Nat → z_G4}
/-- one shelf is another one -/
theorem cW.s1 (hI : aJ ad) (H : cW h ad Rf Nw Th Tp Lk Ho Sz Im kp t ca G Gt) {s0 : Nat} (hs0 : s0 < 8) {h' : z_H} (hT : ∀ q, q ≠ ad (11 + 2 * s0) → q ≠ ad (12 + 2 * s0) → h' q = h q) {Ho' Sz' Im' : z_row} (hn : ∃ (sz : Int) (f : z_row), oSh h' (ad (11 + 2 * s0)) (ad (12 + 2 * s0)) (Ho' s0) sz f ∧ (amI (Ho' s0) = 0 → sz = Sz' s0) ∧ ∀ k, k < 40 → f k = Im' (40 * s0 + k)) (ho : ∀ s, s ≠ s0 → s < 8 → Ho' s = Ho s ∧ Sz' s = Sz s ∧ ∀ k, k < 40 → Im' (40 * s + k) = Im (40 * s + k)) : cW h' ad Rf Nw Th Tp Lk Ho' Sz' Im' kp t ca G Gt ∧ zfr ad h h' := by
  have hU : ∀ l u, u ≤ 347 → (27 ≤ l ∨ u ≤ 11) → agT ad h h' l u := fun l u h1 h2 t h3 h4 => hT _ (hI.ne (by omega) (by omega) (by omega)) (hI.ne (by omega) (by omega) (by omega))
  exact ⟨H.sh (hU _ _ (by decide) (by decide)) (hU _ _ (by decide) (by decide)) (fun q _ h2 => hT q (h2 _ (by omega)) (h2 _ (by omega))) (H.2.2.2.1.put (fun t h1 h2 h3 h4 => hT _ (hI.ne (by omega) (by omega) h3) (hI.ne (by omega) (by omega) h4)) hn ho), fun q _ h2 => hT q (h2 _ (by omega)) (h2 _ (by omega))⟩
end ZCW
set_option maxHeartbeats 4000000 in
set_option maxRecDepth 100000 in
theorem D_X8_row {g : z_G} {h : z_H} {ad : Nat → Nat} {Rf Nw Th Tp Lk Ho Sz Im : z_row} {kp : Int} {t ca : Nat} {G Gt : Nat → z_G4} (hI : aJ ad) (hw : cW h ad Rf Nw Th Tp Lk Ho Sz Im kp t ca G Gt) (hhs : hWf Ho Sz) {si so n9 : Int} (hsi : z_in si) (hso : z_in so) (hn9 : z_in n9) : z_D g mX8_row 3 0 0 [z_r (ad 0), z_i si, z_i so, z_i n9] h (fun rv h' => (isS si ∧ (0 ≤ so ∧ so ≤ 4) ∧ 0 ≤ n9 ∧ n9 ≤ 40 → rv = some (z_i 1) ∧ (cW h' ad Rf Nw Th Tp Lk (z_sf Ho si.toNat so) (z_sf Sz si.toNat n9) (cpA Im (40 * si.toNat) 40 (fun _ => 0)) kp t ca G Gt ∧ zfr ad h h')) ∧ (¬ (isS si ∧ (0 ≤ so ∧ so ≤ 4) ∧ 0 ≤ n9 ∧ n9 ≤ 40) → rv = some (z_i (-92)) ∧ h' = rfH h ad Rf 0)) := by
  refine z_D.of (by decide +kernel) (Nat.le_of_ble_eq_true rfl) (fun X F => ?_)
  obtain ⟨⟨w0, w1, w2, w3⟩, wp, wc, ws, wn, wkk⟩ := id hw
  show z_w g X cX8_row RX8 (3, 0, 0) 0 [z_r (ad 0), z_i si, z_i so, z_i n9, z_u] [] h 0 0
  refine z_aload_n dX8_row_0 rfl ?_
  refine z_iload_n dX8_row_1 rfl ?_
  by_cases cs : isS si
  · skip
    refine cs_X8_47 dX8_row_2 (D_X8_shelfAt hI hw (j := si) ⟨by omega, by omega⟩) w0 rfl rfl (Nat.le_of_ble_eq_true rfl) (by decide) (fun rv h' hq => ?_)
    obtain ⟨rfl, hq2⟩ := hq
    refine z_heq hq2 ?_
    obtain ⟨sz, ff, st, ss, se⟩ := ws si.toNat (by omega)
    have hsw := hhs si.toNat (by omega)
    rw [if_pos (show 0 ≤ si ∧ si ≤ 7 from cs)]
    refine z_ks ?_
    refine z_astore dX8_row_5 (Nat.le_of_ble_eq_true rfl) rfl ?_
    refine z_aload dX8_row_7 rfl ?_
    refine z_ifnull dX8_row_9 (tgt := 29) rfl (fun c1 => by cases c1) (fun _ _ => ?_)
    refine z_iload_n dX8_row_12 rfl ?_
    refine cs_X8_51 dX8_row_13 (D_X5_isSort (s := so) hso) rfl rfl (Nat.le_of_ble_eq_true rfl) (by decide) (z_ki ?_)
    refine z_if_eq dX8_row_16 (tgt := 29) rfl (by first | exact ⟨by omega, by omega⟩ | exact ⟨by split <;> omega, by split <;> omega⟩) (fun c2 => ?_) (fun c2 => ?_)
    · skip
      refine z_aload_n dX8_row_29 rfl ?_
      refine z_bipush dX8_row_30 rfl ?_
      refine cs_X8_55 dX8_row_32 (D_X8_ref0 hI hw) w0 rfl rfl (Nat.le_of_ble_eq_true rfl) (by decide) (z_ki ?_)
      exact z_iret F dX8_row_35 rfl (by decide) ⟨fun q => absurd q (fun q => by have h1 := q.2.1; have h2 := q.2.2; omega), fun _ => ⟨rfl, rfl⟩⟩
    · skip
      refine z_iload_n dX8_row_19 rfl ?_
      refine z_if_lt dX8_row_20 (tgt := 29) rfl (by first | exact ⟨by omega, by omega⟩ | exact ⟨by split <;> omega, by split <;> omega⟩) (fun c3 => ?_) (fun c3 => ?_)
      · skip
        refine z_aload_n dX8_row_29 rfl ?_
        refine z_bipush dX8_row_30 rfl ?_
        refine cs_X8_55 dX8_row_32 (D_X8_ref0 hI hw) w0 rfl rfl (Nat.le_of_ble_eq_true rfl) (by decide) (z_ki ?_)
        exact z_iret F dX8_row_35 rfl (by decide) ⟨fun q => absurd q (fun q => by have h1 := q.2.1; have h2 := q.2.2; omega), fun _ => ⟨rfl, rfl⟩⟩
      · skip
        refine z_iload_n dX8_row_23 rfl ?_
        refine z_bipush dX8_row_24 rfl ?_
        refine z_icmp_le dX8_row_26 (tgt := 36) rfl ⟨by omega, by omega⟩ (by decide) (fun c4 => ?_) (fun c4 => ?_)
        · skip
          refine z_aload dX8_row_36 rfl ?_
          refine z_iload_n dX8_row_38 rfl ?_
          refine z_iload_n dX8_row_39 rfl ?_
          refine cs_X8_59 dX8_row_40 (D_X5_putRow st (s := so) (m := n9)) st.1 rfl rfl (Nat.le_of_ble_eq_true rfl) (by decide) (fun rv h' hq => ?_)
          obtain ⟨rfl, f', hq2, hf'⟩ := hq
          have ne12 : ad (11 + 2 * si.toNat) ≠ ad (12 + 2 * si.toNat) := hI.ne (by omega) (by omega) (by omega)
          have hS := hw.s1 (h' := h') hI (s0 := si.toNat) (by omega) (fun q h1 h2 => by rw [hq2, z_up_n h2, z_up_n h1]) (Ho' := z_sf Ho si.toNat so) (Sz' := z_sf Sz si.toNat n9) (Im' := cpA Im (40 * si.toNat) 40 (fun _ => 0)) ⟨n9, f', ⟨by rw [hq2, z_up_n ne12, z_up_s, z_sf_s], by rw [hq2, z_up_s], by rw [z_sf_s]; omega, by omega⟩, fun _ => by rw [z_sf_s], fun k hk => by rw [hf' k hk]; unfold cpA; rw [if_pos (by omega)]⟩ (fun s h1 h2 => ⟨z_sf_n h1, z_sf_n h1, fun k hk => by unfold cpA; rw [if_neg (by omega)]⟩)
          show z_w _ _ _ _ _ _ _ [] _ _ _
          refine z_iconst dX8_row_43 ?_
          exact z_iret F dX8_row_44 rfl (by decide) ⟨fun _ => ⟨rfl, hS⟩, fun q => absurd ⟨cs, by omega, by omega, by omega⟩ q⟩
        · skip
          refine z_aload_n dX8_row_29 rfl ?_
          refine z_bipush dX8_row_30 rfl ?_
          refine cs_X8_55 dX8_row_32 (D_X8_ref0 hI hw) w0 rfl rfl (Nat.le_of_ble_eq_true rfl) (by decide) (z_ki ?_)
          exact z_iret F dX8_row_35 rfl (by decide) ⟨fun q => absurd q (fun q => by have h1 := q.2.1; have h2 := q.2.2; omega), fun _ => ⟨rfl, rfl⟩⟩
  · skip
    refine cs_X8_47 dX8_row_2 (D_X8_shelfAt hI hw (j := si) ⟨by omega, by omega⟩) w0 rfl rfl (Nat.le_of_ble_eq_true rfl) (by decide) (fun rv h' hq => ?_)
    obtain ⟨rfl, hq2⟩ := hq
    refine z_heq hq2 ?_
    rw [if_neg (show ¬ (0 ≤ si ∧ si ≤ 7) from cs)]
    refine z_ks ?_
    refine z_astore dX8_row_5 (Nat.le_of_ble_eq_true rfl) rfl ?_
    refine z_aload dX8_row_7 rfl ?_
    refine z_ifnull dX8_row_9 (tgt := 29) rfl (fun _ => ?_) (fun _ c5 => by cases c5)
    refine z_aload_n dX8_row_29 rfl ?_
    refine z_bipush dX8_row_30 rfl ?_
    refine cs_X8_55 dX8_row_32 (D_X8_ref0 hI hw) w0 rfl rfl (Nat.le_of_ble_eq_true rfl) (by decide) (z_ki ?_)
    exact z_iret F dX8_row_35 rfl (by decide) ⟨fun q => absurd q (fun q => by exact cs q.1), fun _ => ⟨rfl, rfl⟩⟩
set_option maxHeartbeats 4000000 in
set_option maxRecDepth 100000 in
theorem D_X8_set {g : z_G} {h : z_H} {ad : Nat → Nat} {Rf Nw Th Tp Lk Ho Sz Im : z_row} {kp : Int} {t ca : Nat} {G Gt : Nat → z_G4} (hI : aJ ad) (hw : cW h ad Rf Nw Th Tp Lk Ho Sz Im kp t ca G Gt) (hhs : hWf Ho Sz) {si i9 v9 : Int} (hsi : z_in si) (hi9 : z_in i9) (hv9 : z_inL v9) : z_D g mX8_set 5 0 0 [z_r (ad 0), z_i si, z_i i9, z_l v9] h (fun rv h' => (amB Ho si ≠ 0 → rv = some (z_i (amB Ho si)) ∧ h' = rfH h ad Rf (-92 - amB Ho si).toNat) ∧ (amB Ho si = 0 → (0 ≤ i9 ∧ i9 < Sz si.toNat → rv = some (z_i 1) ∧ (cW h' ad Rf Nw Th Tp Lk Ho Sz (z_sf Im (40 * si.toNat + i9.toNat) (loB (Ho si.toNat) v9)) kp t ca G Gt ∧ zfr ad h h')) ∧ (¬ (0 ≤ i9 ∧ i9 < Sz si.toNat) → rv = some (z_i (-92)) ∧ h' = rfH h ad Rf 0))) := by
  refine z_D.of (by decide +kernel) (Nat.le_of_ble_eq_true rfl) (fun X F => ?_)
  obtain ⟨⟨w0, w1, w2, w3⟩, wp, wc, ws, wn, wkk⟩ := id hw
  show z_w g X cX8_set RX8 (5, 0, 0) 0 [z_r (ad 0), z_i si, z_i i9, z_l v9, z_u, z_u] [] h 0 0
  refine z_aload_n dX8_set_0 rfl ?_
  refine z_iload_n dX8_set_1 rfl ?_
  by_cases cs : isS si
  · skip
    refine cs_X8_47 dX8_set_2 (D_X8_shelfAt hI hw (j := si) ⟨by omega, by omega⟩) w0 rfl rfl (Nat.le_of_ble_eq_true rfl) (by decide) (fun rv h' hq => ?_)
    obtain ⟨rfl, hq2⟩ := hq
    refine z_heq hq2 ?_
    obtain ⟨sz, ff, st, ss, se⟩ := ws si.toNat (by omega)
    have hsw := hhs si.toNat (by omega)
    rw [if_pos (show 0 ≤ si ∧ si ≤ 7 from cs)]
    refine z_ks ?_
    refine z_astore dX8_set_5 (Nat.le_of_ble_eq_true rfl) rfl ?_
    refine z_aload dX8_set_7 rfl ?_
    refine z_ifnonnull dX8_set_9 (tgt := 19) rfl (fun _ _ => ?_) (fun c1 => by cases c1)
    refine z_aload dX8_set_19 rfl ?_
    refine cs_X8_63 dX8_set_21 (D_X5_hasRow st) st.1 rfl rfl (Nat.le_of_ble_eq_true rfl) (by decide) (z_ki ?_)
    refine z_if_ne dX8_set_24 (tgt := 47) rfl (by first | exact ⟨by omega, by omega⟩ | exact ⟨by split <;> omega, by split <;> omega⟩) (fun c2 => ?_) (fun c2 => ?_)
    · skip
      skip
      refine z_aload dX8_set_47 rfl ?_
      refine z_iload_n dX8_set_49 rfl ?_
      refine z_lload_n dX8_set_50 rfl ?_
      have ham : amI (Ho si.toNat) = 0 := by have := amI_v hsw.1; omega
      have hss := ss ham
      refine cs_X8_70 dX8_set_51 (D_X5_putElement st (i := i9) (v := v9) hi9 hv9) st.1 rfl rfl (Nat.le_of_ble_eq_true rfl) (by decide) (fun rv h' hq => ?_)
      by_cases c9 : (0 ≤ Ho si.toNat ∧ Ho si.toNat ≤ 4) ∧ 0 ≤ i9 ∧ i9 < sz
      · rw [if_pos c9] at hq
        obtain ⟨rfl, hq2⟩ := hq
        have hs40 := st.2.2.2.2
        have ne12 : ad (11 + 2 * si.toNat) ≠ ad (12 + 2 * si.toNat) := hI.ne (by omega) (by omega) (by omega)
        have hS := hw.s1 (h' := h') hI (s0 := si.toNat) (by omega) (fun q h1 h2 => by rw [hq2, z_up_n h2]) (Ho' := Ho) (Sz' := Sz) (Im' := z_sf Im (40 * si.toNat + i9.toNat) (loB (Ho si.toNat) v9)) ⟨sz, z_sf ff i9.toNat (loB (Ho si.toNat) v9), ⟨by rw [hq2, z_up_n ne12]; exact st.1, by rw [hq2, z_up_s], st.2.2⟩, ss, fun k hk => by
          by_cases ck : k = i9.toNat
          · rw [ck, z_sf_s, z_sf_s]
          · rw [z_sf_n ck, z_sf_n (by omega)]; exact se k hk⟩ (fun s h1 h2 => ⟨rfl, rfl, fun k hk => z_sf_n (by omega)⟩)
        refine z_ks ?_
        refine z_if_eq dX8_set_54 (tgt := 61) rfl (by first | exact ⟨by omega, by omega⟩ | exact ⟨by split <;> omega, by split <;> omega⟩) (fun c3 => ?_) (fun c3 => ?_)
        · exact absurd c3 (by decide)
        · skip
          refine z_iconst dX8_set_57 ?_
          refine z_goto dX8_set_58 (tgt := 67) rfl ?_
          exact z_iret F dX8_set_67 rfl (by decide) ⟨fun q => absurd ((amB_in cs).trans ham) q, fun _ => ⟨fun _ => ⟨rfl, hS⟩, fun q => absurd (by omega) q⟩⟩
      · rw [if_neg c9] at hq
        obtain ⟨rfl, hq2⟩ := hq
        refine z_heq hq2 ?_
        refine z_ks ?_
        refine z_if_eq dX8_set_54 (tgt := 61) rfl (by first | exact ⟨by omega, by omega⟩ | exact ⟨by split <;> omega, by split <;> omega⟩) (fun c4 => ?_) (fun c4 => ?_)
        · skip
          refine z_aload_n dX8_set_61 rfl ?_
          refine z_bipush dX8_set_62 rfl ?_
          refine cs_X8_55 dX8_set_64 (D_X8_ref0 hI hw) w0 rfl rfl (Nat.le_of_ble_eq_true rfl) (by decide) (z_ki ?_)
          exact z_iret F dX8_set_67 rfl (by decide) ⟨fun q => absurd ((amB_in cs).trans ham) q, fun _ => ⟨fun q => absurd (by omega) c9, fun _ => ⟨rfl, rfl⟩⟩⟩
        · exact absurd c4 (by decide)
    · skip
      refine z_aload_n dX8_set_27 rfl ?_
      refine z_aload dX8_set_28 rfl ?_
      refine cs_X8_67 dX8_set_30 (D_X5_isBare st) st.1 rfl rfl (Nat.le_of_ble_eq_true rfl) (by decide) (z_ki ?_)
      refine z_if_eq dX8_set_33 (tgt := 41) rfl (by first | exact ⟨by omega, by omega⟩ | exact ⟨by split <;> omega, by split <;> omega⟩) (fun c5 => ?_) (fun c5 => ?_)
      · skip
        refine z_bipush dX8_set_41 rfl ?_
        refine cs_X8_55 dX8_set_43 (D_X8_ref1 hI hw) w0 rfl rfl (Nat.le_of_ble_eq_true rfl) (by decide) (z_ki ?_)
        have hb9 : amB Ho si = -93 := by rw [amB_in cs]; have := amI_v hsw.1; omega
        exact z_iret F dX8_set_46 rfl (by decide) ⟨fun _ => ⟨by rw [hb9], by rw [hb9]; rfl⟩, fun q => absurd (hb9.symm.trans q) (by decide)⟩
      · skip
        refine z_bipush dX8_set_36 rfl ?_
        refine z_goto dX8_set_38 (tgt := 43) rfl ?_
        refine cs_X8_55 dX8_set_43 (D_X8_ref2 hI hw) w0 rfl rfl (Nat.le_of_ble_eq_true rfl) (by decide) (z_ki ?_)
        have hb9 : amB Ho si = -94 := by rw [amB_in cs]; have := amI_v hsw.1; omega
        exact z_iret F dX8_set_46 rfl (by decide) ⟨fun _ => ⟨by rw [hb9], by rw [hb9]; rfl⟩, fun q => absurd (hb9.symm.trans q) (by decide)⟩
  · skip
    refine cs_X8_47 dX8_set_2 (D_X8_shelfAt hI hw (j := si) ⟨by omega, by omega⟩) w0 rfl rfl (Nat.le_of_ble_eq_true rfl) (by decide) (fun rv h' hq => ?_)
    obtain ⟨rfl, hq2⟩ := hq
    refine z_heq hq2 ?_
    rw [if_neg (show ¬ (0 ≤ si ∧ si ≤ 7) from cs)]
    refine z_ks ?_
    refine z_astore dX8_set_5 (Nat.le_of_ble_eq_true rfl) rfl ?_
    refine z_aload dX8_set_7 rfl ?_
    refine z_ifnonnull dX8_set_9 (tgt := 19) rfl (fun _ c6 => by cases c6) (fun _ => ?_)
    refine z_aload_n dX8_set_12 rfl ?_
    refine z_bipush dX8_set_13 rfl ?_
    refine cs_X8_55 dX8_set_15 (D_X8_ref0 hI hw) w0 rfl rfl (Nat.le_of_ble_eq_true rfl) (by decide) (z_ki ?_)
    exact z_iret F dX8_set_18 rfl (by decide) ⟨fun _ => ⟨by rw [amB_out cs], by rw [amB_out cs]; rfl⟩, fun q => absurd ((amB_out cs).symm.trans q) (by decide)⟩
