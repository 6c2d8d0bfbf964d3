/-! KnitReader: the shelves; rows held against one another -/
theorem amI_v {x : Int} (hx : x = -1 ∨ (0 ≤ x ∧ x ≤ 4) ∨ (14 ≤ x ∧ x ≤ 22)) : (x = -1 ∧ amI x = -94) ∨ ((0 ≤ x ∧ x ≤ 4) ∧ amI x = 0) ∨ ((14 ≤ x ∧ x ≤ 22) ∧ amI x = -93) := by
  unfold amI
  rcases hx with rfl | h | h
  · exact Or.inl ⟨rfl, rfl⟩
  · exact Or.inr (Or.inl ⟨h, by rw [if_neg (by omega), if_neg (by omega)]⟩)
  · exact Or.inr (Or.inr ⟨h, by rw [if_neg (by omega), if_pos (by omega)]⟩)
theorem amB_in {Ho : z_row} {s : Int} (h : isS s) : amB Ho s = amI (Ho s.toNat) := if_pos h
theorem amB_out {Ho : z_row} {s : Int} (h : ¬ isS s) : amB Ho s = -92 := if_neg h
theorem shX.put {h h' : z_H} {ad : Nat → Nat} {Ho Sz Im Ho' Sz' Im' : z_row} (H : shX h ad Ho Sz Im) {s0 : Nat} (hT : ∀ t, 11 ≤ t → t < 27 → t ≠ 11 + 2 * s0 → t ≠ 12 + 2 * s0 → h' (ad t) = h (ad t)) (hn : ∃ (sz : Int) (f : z_row), oSh h' (ad (11 + 2 * s0)) (ad (12 + 2 * s0)) (Ho' s0) sz f ∧ (amI (Ho' s0) = 0 → sz = Sz' s0) ∧ ∀ k, k < 40 → f k = Im' (40 * s0 + k)) (ho : ∀ s, s ≠ s0 → s < 8 → Ho' s = Ho s ∧ Sz' s = Sz s ∧ ∀ k, k < 40 → Im' (40 * s + k) = Im (40 * s + k)) : shX h' ad Ho' Sz' Im' := fun s hs => by
  by_cases c : s = s0
  · rw [c]; exact hn
  · obtain ⟨sz, f, ⟨h1, h2, h3⟩, h4, h5⟩ := H s hs
    obtain ⟨o1, o2, o3⟩ := ho s c hs
    rw [o1, o2]
    exact ⟨sz, f, ⟨(hT _ (by omega) (by omega) (by omega) (by omega)).trans h1, (hT _ (by omega) (by omega) (by omega) (by omega)).trans h2, h3⟩, h4, fun k hk => (h5 k hk).trans (o3 k hk).symm⟩
section ZCW
variable {h : z_H} {ad : Nat → Nat} {Rf Nw Th Tp Lk Ho Sz Im : z_row} {kp : Int} {t ca : Nat} {G Gt : Nat → z_G4}
/-- one shelf is another one -/
theorem cW.s1 (hI : aJ ad) (H : cW h ad Rf Nw Th Tp Lk Ho Sz Im kp t ca G Gt) {s0 : Nat} (hs0 : s0 < 8) {h' : z_H} (hT : ∀ q, q ≠ ad (11 + 2 * s0) → q ≠ ad (12 + 2 * s0) → h' q = h q) {Ho' Sz' Im' : z_row} (hn : ∃ (sz : Int) (f : z_row), oSh h' (ad (11 + 2 * s0)) (ad (12 + 2 * s0)) (Ho' s0) sz f ∧ (amI (Ho' s0) = 0 → sz = Sz' s0) ∧ ∀ k, k < 40 → f k = Im' (40 * s0 + k)) (ho : ∀ s, s ≠ s0 → s < 8 → Ho' s = Ho s ∧ Sz' s = Sz s ∧ ∀ k, k < 40 → Im' (40 * s + k) = Im (40 * s + k)) : cW h' ad Rf Nw Th Tp Lk Ho' Sz' Im' kp t ca G Gt ∧ zfr ad h h' := by
  have hU : ∀ l u, u ≤ 347 → (27 ≤ l ∨ u ≤ 11) → agT ad h h' l u := fun l u h1 h2 t h3 h4 => hT _ (hI.ne (by omega) (by omega) (by omega)) (hI.ne (by omega) (by omega) (by omega))
  exact ⟨H.sh (hU _ _ (by decide) (by decide)) (hU _ _ (by decide) (by decide)) (fun q _ h2 => hT q (h2 _ (by omega)) (h2 _ (by omega))) (H.2.2.2.1.put (fun t h1 h2 h3 h4 => hT _ (hI.ne (by omega) (by omega) h3) (hI.ne (by omega) (by omega) h4)) hn ho), fun q _ h2 => hT q (h2 _ (by omega)) (h2 _ (by omega))⟩
end ZCW
set_option maxHeartbeats 4000000 in
set_option maxRecDepth 100000 in
theorem D_X8_row {g : z_G} {h : z_H} {ad : Nat → Nat} {Rf Nw Th Tp Lk Ho Sz Im : z_row} {kp : Int} {t ca : Nat} {G Gt : Nat → z_G4} (hI : aJ ad) (hw : cW h ad Rf Nw Th Tp Lk Ho Sz Im kp t ca G Gt) (hhs : hWf Ho Sz) {si so n9 : Int} (hsi : z_in si) (hso : z_in so) (hn9 : z_in n9) : z_D g mX8_row 3 0 0 [z_r (ad 0), z_i si, z_i so, z_i n9] h (fun rv h' => (isS si ∧ (0 ≤ so ∧ so ≤ 4) ∧ 0 ≤ n9 ∧ n9 ≤ 40 → rv = some (z_i 1) ∧ (cW h' ad Rf Nw Th Tp Lk (z_sf Ho si.toNat so) (z_sf Sz si.toNat n9) (cpA Im (40 * si.toNat) 40 (fun _ => 0)) kp t ca G Gt ∧ zfr ad h h')) ∧ (¬ (isS si ∧ (0 ≤ so ∧ so ≤ 4) ∧ 0 ≤ n9 ∧ n9 ≤ 40) → rv = some (z_i (-92)) ∧ h' = rfH h ad Rf 0)) := by
  refine z_D.of (by decide +kernel) (Nat.le_of_ble_eq_true rfl) (fun X F => ?_)
  obtain ⟨⟨w0, w1, w2, w3⟩, wp, wc, ws, wn, wkk⟩ := id hw
  show z_w g X cX8_row RX8 (3, 0, 0) 0 [z_r (ad 0), z_i si, z_i so, z_i n9, z_u] [] h 0 0
  refine z_aload_n dX8_row_0 rfl ?_
  refine z_iload_n dX8_row_1 rfl ?_
  by_cases cs : isS si
  · skip
    refine cs_X8_47 dX8_row_2 (D_X8_shelfAt hI hw (j := si) ⟨by omega, by omega⟩) w0 rfl rfl (Nat.le_of_ble_eq_true rfl) (by decide) (fun rv h' hq => ?_)
    obtain ⟨rfl, hq2⟩ := hq
    refine z_heq hq2 ?_
    obtain ⟨sz, ff, st, ss, se⟩ := ws si.toNat (by omega)
    have hsw := hhs si.toNat (by omega)
    rw [if_pos (show 0 ≤ si ∧ si ≤ 7 from cs)]
    refine z_ks ?_
    refine z_astore dX8_row_5 (Nat.le_of_ble_eq_true rfl) rfl ?_
    refine z_aload dX8_row_7 rfl ?_
    refine z_ifnull dX8_row_9 (tgt := 29) rfl (fun c1 => by cases c1) (fun _ _ => ?_)
    refine z_iload_n dX8_row_12 rfl ?_
    refine cs_X8_51 dX8_row_13 (D_X5_isSort (s := so) hso) rfl rfl (Nat.le_of_ble_eq_true rfl) (by decide) (z_ki ?_)
    refine z_if_eq dX8_row_16 (tgt := 29) rfl (by first | exact ⟨by omega, by omega⟩ | exact ⟨by split <;> omega, by split <;> omega⟩) (fun c2 => ?_) (fun c2 => ?_)
    · skip
      refine z_aload_n dX8_row_29 rfl ?_
      refine z_bipush dX8_row_30 rfl ?_
      refine cs_X8_55 dX8_row_32 (D_X8_ref0 hI hw) w0 rfl rfl (Nat.le_of_ble_eq_true rfl) (by decide) (z_ki ?_)
      exact z_iret F dX8_row_35 rfl (by decide) ⟨fun q => absurd q (fun q => by have h1 := q.2.1; have h2 := q.2.2; omega), fun _ => ⟨rfl, rfl⟩⟩
    · skip
      refine z_iload_n dX8_row_19 rfl ?_
      refine z_if_lt dX8_row_20 (tgt := 29) rfl (by first | exact ⟨by omega, by omega⟩ | exact ⟨by split <;> omega, by split <;> omega⟩) (fun c3 => ?_) (fun c3 => ?_)
      · skip
        refine z_aload_n dX8_row_29 rfl ?_
        refine z_bipush dX8_row_30 rfl ?_
        refine cs_X8_55 dX8_row_32 (D_X8_ref0 hI hw) w0 rfl rfl (Nat.le_of_ble_eq_true rfl) (by decide) (z_ki ?_)
        exact z_iret F dX8_row_35 rfl (by decide) ⟨fun q => absurd q (fun q => by have h1 := q.2.1; have h2 := q.2.2; omega), fun _ => ⟨rfl, rfl⟩⟩
      · skip
        refine z_iload_n dX8_row_23 rfl ?_
        refine z_bipush dX8_row_24 rfl ?_
        refine z_icmp_le dX8_row_26 (tgt := 36) rfl ⟨by omega, by omega⟩ (by decide) (fun c4 => ?_) (fun c4 => ?_)
        · skip
          refine z_aload dX8_row_36 rfl ?_
          refine z_iload_n dX8_row_38 rfl ?_
          refine z_iload_n dX8_row_39 rfl ?_
          refine cs_X8_59 dX8_row_40 (D_X5_putRow st (s := so) (m := n9)) st.1 rfl rfl (Nat.le_of_ble_eq_true rfl) (by decide) (fun rv h' hq => ?_)
          obtain ⟨rfl, f', hq2, hf'⟩ := hq
          have ne12 : ad (11 + 2 * si.toNat) ≠ ad (12 + 2 * si.toNat) := hI.ne (by omega) (by omega) (by omega)
          have hS := hw.s1 (h' := h') hI (s0 := si.toNat) (by omega) (fun q h1 h2 => by rw [hq2, z_up_n h2, z_up_n h1]) (Ho' := z_sf Ho si.toNat so) (Sz' := z_sf Sz si.toNat n9) (Im' := cpA Im (40 * si.toNat) 40 (fun _ => 0)) ⟨n9, f', ⟨by rw [hq2, z_up_n ne12, z_up_s, z_sf_s], by rw [hq2, z_up_s], by rw [z_sf_s]; omega, by omega⟩, fun _ => by rw [z_sf_s], fun k hk => by rw [hf' k hk]; unfold cpA; rw [if_pos (by omega)]⟩ (fun s h1 h2 => ⟨z_sf_n h1, z_sf_n h1, fun k hk => by unfold cpA; rw [if_neg (by omega)]⟩)
          show z_w _ _ _ _ _ _ _ [] _ _ _
          refine z_iconst dX8_row_43 ?_
          exact z_iret F dX8_row_44 rfl (by decide) ⟨fun _ => ⟨rfl, hS⟩, fun q => absurd ⟨cs, by omega, by omega, by omega⟩ q⟩
        · skip
          refine z_aload_n dX8_row_29 rfl ?_
          refine z_bipush dX8_row_30 rfl ?_
          refine cs_X8_55 dX8_row_32 (D_X8_ref0 hI hw) w0 rfl rfl (Nat.le_of_ble_eq_true rfl) (by decide) (z_ki ?_)
          exact z_iret F dX8_row_35 rfl (by decide) ⟨fun q => absurd q (fun q => by have h1 := q.2.1; have h2 := q.2.2; omega), fun _ => ⟨rfl, rfl⟩⟩
  · skip
    refine cs_X8_47 dX8_row_2 (D_X8_shelfAt hI hw (j := si) ⟨by omega, by omega⟩) w0 rfl rfl (Nat.le_of_ble_eq_true rfl) (by decide) (fun rv h' hq => ?_)
    obtain ⟨rfl, hq2⟩ := hq
    refine z_heq hq2 ?_
    rw [if_neg (show ¬ (0 ≤ si ∧ si ≤ 7) from cs)]
    refine z_ks ?_
    refine z_astore dX8_row_5 (Nat.le_of_ble_eq_true rfl) rfl ?_
    refine z_aload dX8_row_7 rfl ?_
    refine z_ifnull dX8_row_9 (tgt := 29) rfl (fun _ => ?_) (fun _ c5 => by cases c5)
    refine z_aload_n dX8_row_29 rfl ?_
    refine z_bipush dX8_row_30 rfl ?_
    refine cs_X8_55 dX8_row_32 (D_X8_ref0 hI hw) w0 rfl rfl (Nat.le_of_ble_eq_true rfl) (by decide) (z_ki ?_)
    exact z_iret F dX8_row_35 rfl (by decide) ⟨fun q => absurd q (fun q => by exact cs q.1), fun _ => ⟨rfl, rfl⟩⟩
set_option maxHeartbeats 4000000 in
set_option maxRecDepth 100000 in
theorem D_X8_set {g : z_G} {h : z_H} {ad : Nat → Nat} {Rf Nw Th Tp Lk Ho Sz Im : z_row} {kp : Int} {t ca : Nat} {G Gt : Nat → z_G4} (hI : aJ ad) (hw : cW h ad Rf Nw Th Tp Lk Ho Sz Im kp t ca G Gt) (hhs : hWf Ho Sz) {si i9 v9 : Int} (hsi : z_in si) (hi9 : z_in i9) (hv9 : z_inL v9) : z_D g mX8_set 5 0 0 [z_r (ad 0), z_i si, z_i i9, z_l v9] h (fun rv h' => (amB Ho si ≠ 0 → rv = some (z_i (amB Ho si)) ∧ h' = rfH h ad Rf (-92 - amB Ho si).toNat) ∧ (amB Ho si = 0 → (0 ≤ i9 ∧ i9 < Sz si.toNat → rv = some (z_i 1) ∧ (cW h' ad Rf Nw Th Tp Lk Ho Sz (z_sf Im (40 * si.toNat + i9.toNat) (loB (Ho si.toNat) v9)) kp t ca G Gt ∧ zfr ad h h')) ∧ (¬ (0 ≤ i9 ∧ i9 < Sz si.toNat) → rv = some (z_i (-92)) ∧ h' = rfH h ad Rf 0))) := by
  refine z_D.of (by decide +kernel) (Nat.le_of_ble_eq_true rfl) (fun X F => ?_)
  obtain ⟨⟨w0, w1, w2, w3⟩, wp, wc, ws, wn, wkk⟩ := id hw
  show z_w g X cX8_set RX8 (5, 0, 0) 0 [z_r (ad 0), z_i si, z_i i9, z_l v9, z_u, z_u] [] h 0 0
  refine z_aload_n dX8_set_0 rfl ?_
  refine z_iload_n dX8_set_1 rfl ?_
  by_cases cs : isS si
  · skip
    refine cs_X8_47 dX8_set_2 (D_X8_shelfAt hI hw (j := si) ⟨by omega, by omega⟩) w0 rfl rfl (Nat.le_of_ble_eq_true rfl) (by decide) (fun rv h' hq => ?_)
    obtain ⟨rfl, hq2⟩ := hq
    refine z_heq hq2 ?_
    obtain ⟨sz, ff, st, ss, se⟩ := ws si.toNat (by omega)
    have hsw := hhs si.toNat (by omega)
    rw [if_pos (show 0 ≤ si ∧ si ≤ 7 from cs)]
    refine z_ks ?_
    refine z_astore dX8_set_5 (Nat.le_of_ble_eq_true rfl) rfl ?_
    refine z_aload dX8_set_7 rfl ?_
    refine z_ifnonnull dX8_set_9 (tgt := 19) rfl (fun _ _ => ?_) (fun c1 => by cases c1)
    refine z_aload dX8_set_19 rfl ?_
    refine cs_X8_63 dX8_set_21 (D_X5_hasRow st) st.1 rfl rfl (Nat.le_of_ble_eq_true rfl) (by decide) (z_ki ?_)
    refine z_if_ne dX8_set_24 (tgt := 47) rfl (by first | exact ⟨by omega, by omega⟩ | exact ⟨by split <;> omega, by split <;> omega⟩) (fun c2 => ?_) (fun c2 => ?_)
    · skip
      skip
      refine z_aload dX8_set_47 rfl ?_
      refine z_iload_n dX8_set_49 rfl ?_
      refine z_lload_n dX8_set_50 rfl ?_
      have ham : amI (Ho si.toNat) = 0 := by have := amI_v hsw.1; omega
      have hss := ss ham
      refine cs_X8_70 dX8_set_51 (D_X5_putElement st (i := i9) (v := v9) hi9 hv9) st.1 rfl rfl (Nat.le_of_ble_eq_true rfl) (by decide) (fun rv h' hq => ?_)
      by_cases cz9 : (0 ≤ Ho si.toNat ∧ Ho si.toNat ≤ 4) ∧ 0 ≤ i9 ∧ i9 < sz
      · rw [if_pos cz9] at hq
        obtain ⟨rfl, hq2⟩ := hq
        have hs40 := st.2.2.2.2
        have ne12 : ad (11 + 2 * si.toNat) ≠ ad (12 + 2 * si.toNat) := hI.ne (by omega) (by omega) (by omega)
        have hS := hw.s1 (h' := h') hI (s0 := si.toNat) (by omega) (fun q h1 h2 => by rw [hq2, z_up_n h2]) (Ho' := Ho) (Sz' := Sz) (Im' := z_sf Im (40 * si.toNat + i9.toNat) (loB (Ho si.toNat) v9)) ⟨sz, z_sf ff i9.toNat (loB (Ho si.toNat) v9), ⟨by rw [hq2, z_up_n ne12]; exact st.1, by rw [hq2, z_up_s], st.2.2⟩, ss, fun k hk => by
          by_cases ck : k = i9.toNat
          · rw [ck, z_sf_s, z_sf_s]
          · rw [z_sf_n ck, z_sf_n (by omega)]; exact se k hk⟩ (fun s h1 h2 => ⟨rfl, rfl, fun k hk => z_sf_n (by omega)⟩)
        refine z_ks ?_
        refine z_if_eq dX8_set_54 (tgt := 61) rfl (by first | exact ⟨by omega, by omega⟩ | exact ⟨by split <;> omega, by split <;> omega⟩) (fun c3 => ?_) (fun c3 => ?_)
        · exact absurd c3 (by decide)
        · skip
          refine z_iconst dX8_set_57 ?_
          refine z_goto dX8_set_58 (tgt := 67) rfl ?_
          exact z_iret F dX8_set_67 rfl (by decide) ⟨fun q => absurd ((amB_in cs).trans ham) q, fun _ => ⟨fun _ => ⟨rfl, hS⟩, fun q => absurd (by omega) q⟩⟩
      · rw [if_neg cz9] at hq
        obtain ⟨rfl, hq2⟩ := hq
        refine z_heq hq2 ?_
        refine z_ks ?_
        refine z_if_eq dX8_set_54 (tgt := 61) rfl (by first | exact ⟨by omega, by omega⟩ | exact ⟨by split <;> omega, by split <;> omega⟩) (fun c4 => ?_) (fun c4 => ?_)
        · skip
          refine z_aload_n dX8_set_61 rfl ?_
          refine z_bipush dX8_set_62 rfl ?_
          refine cs_X8_55 dX8_set_64 (D_X8_ref0 hI hw) w0 rfl rfl (Nat.le_of_ble_eq_true rfl) (by decide) (z_ki ?_)
          exact z_iret F dX8_set_67 rfl (by decide) ⟨fun q => absurd ((amB_in cs).trans ham) q, fun _ => ⟨fun q => absurd (by omega) cz9, fun _ => ⟨rfl, rfl⟩⟩⟩
        · exact absurd c4 (by decide)
    · skip
      refine z_aload_n dX8_set_27 rfl ?_
      refine z_aload dX8_set_28 rfl ?_
      refine cs_X8_67 dX8_set_30 (D_X5_isBare st) st.1 rfl rfl (Nat.le_of_ble_eq_true rfl) (by decide) (z_ki ?_)
      refine z_if_eq dX8_set_33 (tgt := 41) rfl (by first | exact ⟨by omega, by omega⟩ | exact ⟨by split <;> omega, by split <;> omega⟩) (fun c5 => ?_) (fun c5 => ?_)
      · skip
        refine z_bipush dX8_set_41 rfl ?_
        refine cs_X8_55 dX8_set_43 (D_X8_ref1 hI hw) w0 rfl rfl (Nat.le_of_ble_eq_true rfl) (by decide) (z_ki ?_)
        have hb9 : amB Ho si = -93 := by rw [amB_in cs]; have := amI_v hsw.1; omega
        exact z_iret F dX8_set_46 rfl (by decide) ⟨fun _ => ⟨by rw [hb9], by rw [hb9]; rfl⟩, fun q => absurd (hb9.symm.trans q) (by decide)⟩
      · skip
        refine z_bipush dX8_set_36 rfl ?_
        refine z_goto dX8_set_38 (tgt := 43) rfl ?_
        refine cs_X8_55 dX8_set_43 (D_X8_ref2 hI hw) w0 rfl rfl (Nat.le_of_ble_eq_true rfl) (by decide) (z_ki ?_)
        have hb9 : amB Ho si = -94 := by rw [amB_in cs]; have := amI_v hsw.1; omega
        exact z_iret F dX8_set_46 rfl (by decide) ⟨fun _ => ⟨by rw [hb9], by rw [hb9]; rfl⟩, fun q => absurd (hb9.symm.trans q) (by decide)⟩
  · skip
    refine cs_X8_47 dX8_set_2 (D_X8_shelfAt hI hw (j := si) ⟨by omega, by omega⟩) w0 rfl rfl (Nat.le_of_ble_eq_true rfl) (by decide) (fun rv h' hq => ?_)
    obtain ⟨rfl, hq2⟩ := hq
    refine z_heq hq2 ?_
    rw [if_neg (show ¬ (0 ≤ si ∧ si ≤ 7) from cs)]
    refine z_ks ?_
    refine z_astore dX8_set_5 (Nat.le_of_ble_eq_true rfl) rfl ?_
    refine z_aload dX8_set_7 rfl ?_
    refine z_ifnonnull dX8_set_9 (tgt := 19) rfl (fun _ c6 => by cases c6) (fun _ => ?_)
    refine z_aload_n dX8_set_12 rfl ?_
    refine z_bipush dX8_set_13 rfl ?_
    refine cs_X8_55 dX8_set_15 (D_X8_ref0 hI hw) w0 rfl rfl (Nat.le_of_ble_eq_true rfl) (by decide) (z_ki ?_)
    exact z_iret F dX8_set_18 rfl (by decide) ⟨fun _ => ⟨by rw [amB_out cs], by rw [amB_out cs]; rfl⟩, fun q => absurd ((amB_out cs).symm.trans q) (by decide)⟩
set_option maxHeartbeats 4000000 in
set_option maxRecDepth 100000 in
theorem D_X8_copy {g : z_G} {h : z_H} {ad : Nat → Nat} {Rf Nw Th Tp Lk Ho Sz Im : z_row} {kp : Int} {t ca : Nat} {G Gt : Nat → z_G4} (hI : aJ ad) (hw : cW h ad Rf Nw Th Tp Lk Ho Sz Im kp t ca G Gt) (hhs : hWf Ho Sz) {p9 q9 i9 j9 n9 : Int} (hp9 : z_in p9) (hq9 : z_in q9) (hi9 : z_in i9) (hj9 : z_in j9) (hn9 : z_in n9) : z_D g mX8_copy 3 0 0 [z_r (ad 0), z_i p9, z_i q9, z_i i9, z_i j9, z_i n9] h (fun rv h' => (¬ (isS p9 ∧ isS q9) → rv = some (z_i (-92)) ∧ h' = rfH h ad Rf 0) ∧ (isS p9 ∧ isS q9 → ((amI (Ho p9.toNat) = -93 ∨ amI (Ho q9.toNat) = -93 ∨ (amI (Ho p9.toNat) = 0 ∧ amI (Ho q9.toNat) = 0 ∧ Ho p9.toNat ≠ Ho q9.toNat)) → rv = some (z_i (-93)) ∧ h' = rfH h ad Rf 1) ∧ (¬ (amI (Ho p9.toNat) = -93 ∨ amI (Ho q9.toNat) = -93 ∨ (amI (Ho p9.toNat) = 0 ∧ amI (Ho q9.toNat) = 0 ∧ Ho p9.toNat ≠ Ho q9.toNat)) → ((amI (Ho p9.toNat) ≠ 0 ∨ amI (Ho q9.toNat) ≠ 0) → rv = some (z_i (-94)) ∧ h' = rfH h ad Rf 2) ∧ (¬ (amI (Ho p9.toNat) ≠ 0 ∨ amI (Ho q9.toNat) ≠ 0) → (¬ (0 ≤ n9 ∧ 0 ≤ i9 ∧ 0 ≤ j9 ∧ n9 ≤ Sz p9.toNat - i9 ∧ n9 ≤ Sz q9.toNat - j9) → rv = some (z_i (-92)) ∧ h' = rfH h ad Rf 0) ∧ ((0 ≤ n9 ∧ 0 ≤ i9 ∧ 0 ≤ j9 ∧ n9 ≤ Sz p9.toNat - i9 ∧ n9 ≤ Sz q9.toNat - j9) → rv = some (z_i n9) ∧ (cW h' ad Rf Nw Th Tp Lk Ho Sz (cpA Im (40 * q9.toNat + j9.toNat) n9.toNat (fun k => Im (40 * p9.toNat + i9.toNat + k))) kp t ca G Gt ∧ zfr ad h h')))))) := by
  refine z_D.of (by decide +kernel) (Nat.le_of_ble_eq_true rfl) (fun X F => ?_)
  obtain ⟨⟨w0, w1, w2, w3⟩, wp, wc, ws, wn, wkk⟩ := id hw
  show z_w g X cX8_copy RX8 (3, 0, 0) 0 [z_r (ad 0), z_i p9, z_i q9, z_i i9, z_i j9, z_i n9, z_u, z_u] [] h 0 0
  refine z_aload_n dX8_copy_0 rfl ?_
  refine z_iload_n dX8_copy_1 rfl ?_
  by_cases cs : isS p9
  · skip
    refine cs_X8_47 dX8_copy_2 (D_X8_shelfAt hI hw (j := p9) ⟨by omega, by omega⟩) w0 rfl rfl (Nat.le_of_ble_eq_true rfl) (by decide) (fun rv h' hq => ?_)
    obtain ⟨rfl, hq2⟩ := hq
    refine z_heq hq2 ?_
    obtain ⟨sz, ff, st, ss, se⟩ := ws p9.toNat (by omega)
    have hsw := hhs p9.toNat (by omega)
    rw [if_pos (show 0 ≤ p9 ∧ p9 ≤ 7 from cs)]
    refine z_ks ?_
    refine z_astore dX8_copy_5 (Nat.le_of_ble_eq_true rfl) rfl ?_
    refine z_aload_n dX8_copy_7 rfl ?_
    refine z_iload_n dX8_copy_8 rfl ?_
    by_cases csb : isS q9
    · skip
      refine cs_X8_47 dX8_copy_9 (D_X8_shelfAt hI hw (j := q9) ⟨by omega, by omega⟩) w0 rfl rfl (Nat.le_of_ble_eq_true rfl) (by decide) (fun rv h' hq => ?_)
      obtain ⟨rfl, hq2⟩ := hq
      refine z_heq hq2 ?_
      obtain ⟨bsz, bff, bst, bss, bse⟩ := ws q9.toNat (by omega)
      have bhsw := hhs q9.toNat (by omega)
      rw [if_pos (show 0 ≤ q9 ∧ q9 ≤ 7 from csb)]
      refine z_ks ?_
      refine z_astore dX8_copy_12 (Nat.le_of_ble_eq_true rfl) rfl ?_
      refine z_aload dX8_copy_14 rfl ?_
      refine z_ifnull dX8_copy_16 (tgt := 24) rfl (fun c1 => by cases c1) (fun _ _ => ?_)
      refine z_aload dX8_copy_19 rfl ?_
      refine z_ifnonnull dX8_copy_21 (tgt := 31) rfl (fun _ _ => ?_) (fun c2 => by cases c2)
      have amp := amI_v hsw.1
      have amq := amI_v bhsw.1
      refine z_aload dX8_copy_31 rfl ?_
      refine cs_X8_74 dX8_copy_33 (D_X5_hasStitch st) st.1 rfl rfl (Nat.le_of_ble_eq_true rfl) (by decide) (z_ki ?_)
      refine z_if_ne dX8_copy_36 (tgt := 47) rfl (by first | exact ⟨by omega, by omega⟩ | exact ⟨by split <;> omega, by split <;> omega⟩) (fun c3 => ?_) (fun c3 => ?_)
      · skip
        refine z_aload_n dX8_copy_47 rfl ?_
        refine z_bipush dX8_copy_48 rfl ?_
        refine cs_X8_55 dX8_copy_50 (D_X8_ref1 hI hw) w0 rfl rfl (Nat.le_of_ble_eq_true rfl) (by decide) (z_ki ?_)
        exact z_iret F dX8_copy_53 rfl (by decide) ⟨fun q => absurd ⟨cs, csb⟩ q, fun _ => ⟨fun _ => ⟨rfl, rfl⟩, fun q => absurd (by omega) q⟩⟩
      · skip
        refine z_aload dX8_copy_39 rfl ?_
        refine cs_X8_74 dX8_copy_41 (D_X5_hasStitch bst) bst.1 rfl rfl (Nat.le_of_ble_eq_true rfl) (by decide) (z_ki ?_)
        refine z_if_eq dX8_copy_44 (tgt := 54) rfl (by first | exact ⟨by omega, by omega⟩ | exact ⟨by split <;> omega, by split <;> omega⟩) (fun c4 => ?_) (fun c4 => ?_)
        · skip
          refine z_aload dX8_copy_54 rfl ?_
          refine cs_X8_67 dX8_copy_56 (D_X5_isBare st) st.1 rfl rfl (Nat.le_of_ble_eq_true rfl) (by decide) (z_ki ?_)
          refine z_if_ne dX8_copy_59 (tgt := 70) rfl (by first | exact ⟨by omega, by omega⟩ | exact ⟨by split <;> omega, by split <;> omega⟩) (fun c5 => ?_) (fun c5 => ?_)
          · skip
            refine z_aload_n dX8_copy_70 rfl ?_
            refine z_bipush dX8_copy_71 rfl ?_
            refine cs_X8_55 dX8_copy_73 (D_X8_ref2 hI hw) w0 rfl rfl (Nat.le_of_ble_eq_true rfl) (by decide) (z_ki ?_)
            exact z_iret F dX8_copy_76 rfl (by decide) ⟨fun q => absurd ⟨cs, csb⟩ q, fun _ => ⟨fun q => absurd q (by omega), fun _ => ⟨fun _ => ⟨rfl, rfl⟩, fun q => absurd (by omega) q⟩⟩⟩
          · skip
            refine z_aload dX8_copy_62 rfl ?_
            refine cs_X8_67 dX8_copy_64 (D_X5_isBare bst) bst.1 rfl rfl (Nat.le_of_ble_eq_true rfl) (by decide) (z_ki ?_)
            refine z_if_eq dX8_copy_67 (tgt := 77) rfl (by first | exact ⟨by omega, by omega⟩ | exact ⟨by split <;> omega, by split <;> omega⟩) (fun c6 => ?_) (fun c6 => ?_)
            · skip
              refine z_aload dX8_copy_77 rfl ?_
              refine gf_X8_77 dX8_copy_79 st.1 rfl ?_
              refine z_aload dX8_copy_82 rfl ?_
              refine gf_X8_77 dX8_copy_84 bst.1 rfl ?_
              refine z_icmp_eq dX8_copy_87 (tgt := 97) rfl ⟨by omega, by omega⟩ ⟨by omega, by omega⟩ (fun c7 => ?_) (fun c7 => ?_)
              · skip
                refine z_aload dX8_copy_97 rfl ?_
                refine z_iload_n dX8_copy_99 rfl ?_
                refine z_aload dX8_copy_100 rfl ?_
                refine z_iload dX8_copy_102 rfl ?_
                refine z_iload dX8_copy_104 rfl ?_
                have ap0 : amI (Ho p9.toNat) = 0 := by omega
                have aq0 : amI (Ho q9.toNat) = 0 := by omega
                have hss := ss ap0
                have bhss := bss aq0
                refine cs_X8_81 dX8_copy_106 (D_X5_giveElements st bst (i := i9) (j := j9) (n := n9) hi9 hj9 hn9) st.1 rfl rfl (Nat.le_of_ble_eq_true rfl) (by decide) (fun rv h' hq => ?_)
                by_cases cz9 : 0 ≤ n9 ∧ 0 ≤ i9 ∧ i9 ≤ sz - n9 ∧ 0 ≤ j9 ∧ j9 ≤ bsz - n9
                · rw [if_pos cz9] at hq
                  obtain ⟨rfl, hq2⟩ := hq
                  have hs40 := st.2.2.2.2
                  have bs40 := bst.2.2.2.2
                  have ne12 : ad (11 + 2 * q9.toNat) ≠ ad (12 + 2 * q9.toNat) := hI.ne (by omega) (by omega) (by omega)
                  have hS := hw.s1 (h' := h') hI (s0 := q9.toNat) (by omega) (fun q h1 h2 => by rw [hq2, z_up_n h2]) (Ho' := Ho) (Sz' := Sz) (Im' := (cpA Im (40 * q9.toNat + j9.toNat) n9.toNat (fun k => Im (40 * p9.toNat + i9.toNat + k)))) ⟨bsz, va_cpy ff bff i9.toNat j9.toNat n9.toNat, ⟨by rw [hq2, z_up_n ne12]; exact bst.1, by rw [hq2, z_up_s], bst.2.2⟩, bss, fun k hk => by
                    unfold va_cpy cpA
                    by_cases ck : j9.toNat ≤ k ∧ k < j9.toNat + n9.toNat
                    · rw [if_pos ck, if_pos (by omega), se _ (by omega)]; congr 1; omega
                    · rw [if_neg ck, if_neg (by omega)]; exact bse k hk⟩ (fun s h1 h2 => ⟨rfl, rfl, fun k hk => by unfold cpA; rw [if_neg (by omega)]⟩)
                  refine z_ks ?_
                  refine z_if_eq dX8_copy_109 (tgt := 117) rfl (by first | exact ⟨by omega, by omega⟩ | exact ⟨by split <;> omega, by split <;> omega⟩) (fun c8 => ?_) (fun c8 => ?_)
                  · exact absurd c8 (by decide)
                  · skip
                    refine z_iload dX8_copy_112 rfl ?_
                    refine z_goto dX8_copy_114 (tgt := 123) rfl ?_
                    exact z_iret F dX8_copy_123 rfl (by decide) ⟨fun q => absurd ⟨cs, csb⟩ q, fun _ => ⟨fun q => absurd q (by omega), fun _ => ⟨fun q => absurd q (by omega), fun _ => ⟨fun q => absurd (by omega) q, fun _ => ⟨rfl, hS⟩⟩⟩⟩⟩
                · rw [if_neg cz9] at hq
                  obtain ⟨rfl, hq2⟩ := hq
                  refine z_heq hq2 ?_
                  refine z_ks ?_
                  refine z_if_eq dX8_copy_109 (tgt := 117) rfl (by first | exact ⟨by omega, by omega⟩ | exact ⟨by split <;> omega, by split <;> omega⟩) (fun c9 => ?_) (fun c9 => ?_)
                  · skip
                    refine z_aload_n dX8_copy_117 rfl ?_
                    refine z_bipush dX8_copy_118 rfl ?_
                    refine cs_X8_55 dX8_copy_120 (D_X8_ref0 hI hw) w0 rfl rfl (Nat.le_of_ble_eq_true rfl) (by decide) (z_ki ?_)
                    exact z_iret F dX8_copy_123 rfl (by decide) ⟨fun q => absurd ⟨cs, csb⟩ q, fun _ => ⟨fun q => absurd q (by omega), fun _ => ⟨fun q => absurd q (by omega), fun _ => ⟨fun _ => ⟨rfl, rfl⟩, fun q => absurd (by omega) cz9⟩⟩⟩⟩
                  · exact absurd c9 (by decide)
              · skip
                refine z_aload_n dX8_copy_90 rfl ?_
                refine z_bipush dX8_copy_91 rfl ?_
                refine cs_X8_55 dX8_copy_93 (D_X8_ref1 hI hw) w0 rfl rfl (Nat.le_of_ble_eq_true rfl) (by decide) (z_ki ?_)
                exact z_iret F dX8_copy_96 rfl (by decide) ⟨fun q => absurd ⟨cs, csb⟩ q, fun _ => ⟨fun _ => ⟨rfl, rfl⟩, fun q => absurd (by omega) q⟩⟩
            · skip
              refine z_aload_n dX8_copy_70 rfl ?_
              refine z_bipush dX8_copy_71 rfl ?_
              refine cs_X8_55 dX8_copy_73 (D_X8_ref2 hI hw) w0 rfl rfl (Nat.le_of_ble_eq_true rfl) (by decide) (z_ki ?_)
              exact z_iret F dX8_copy_76 rfl (by decide) ⟨fun q => absurd ⟨cs, csb⟩ q, fun _ => ⟨fun q => absurd q (by omega), fun _ => ⟨fun _ => ⟨rfl, rfl⟩, fun q => absurd (by omega) q⟩⟩⟩
        · skip
          refine z_aload_n dX8_copy_47 rfl ?_
          refine z_bipush dX8_copy_48 rfl ?_
          refine cs_X8_55 dX8_copy_50 (D_X8_ref1 hI hw) w0 rfl rfl (Nat.le_of_ble_eq_true rfl) (by decide) (z_ki ?_)
          exact z_iret F dX8_copy_53 rfl (by decide) ⟨fun q => absurd ⟨cs, csb⟩ q, fun _ => ⟨fun _ => ⟨rfl, rfl⟩, fun q => absurd (by omega) q⟩⟩
    · skip
      refine cs_X8_47 dX8_copy_9 (D_X8_shelfAt hI hw (j := q9) ⟨by omega, by omega⟩) w0 rfl rfl (Nat.le_of_ble_eq_true rfl) (by decide) (fun rv h' hq => ?_)
      obtain ⟨rfl, hq2⟩ := hq
      refine z_heq hq2 ?_
      rw [if_neg (show ¬ (0 ≤ q9 ∧ q9 ≤ 7) from csb)]
      refine z_ks ?_
      refine z_astore dX8_copy_12 (Nat.le_of_ble_eq_true rfl) rfl ?_
      refine z_aload dX8_copy_14 rfl ?_
      refine z_ifnull dX8_copy_16 (tgt := 24) rfl (fun c10 => by cases c10) (fun _ _ => ?_)
      refine z_aload dX8_copy_19 rfl ?_
      refine z_ifnonnull dX8_copy_21 (tgt := 31) rfl (fun _ c11 => by cases c11) (fun _ => ?_)
      refine z_aload_n dX8_copy_24 rfl ?_
      refine z_bipush dX8_copy_25 rfl ?_
      refine cs_X8_55 dX8_copy_27 (D_X8_ref0 hI hw) w0 rfl rfl (Nat.le_of_ble_eq_true rfl) (by decide) (z_ki ?_)
      exact z_iret F dX8_copy_30 rfl (by decide) ⟨fun _ => ⟨rfl, rfl⟩, fun q => absurd q (fun q => csb q.2)⟩
  · skip
    refine cs_X8_47 dX8_copy_2 (D_X8_shelfAt hI hw (j := p9) ⟨by omega, by omega⟩) w0 rfl rfl (Nat.le_of_ble_eq_true rfl) (by decide) (fun rv h' hq => ?_)
    obtain ⟨rfl, hq2⟩ := hq
    refine z_heq hq2 ?_
    rw [if_neg (show ¬ (0 ≤ p9 ∧ p9 ≤ 7) from cs)]
    refine z_ks ?_
    refine z_astore dX8_copy_5 (Nat.le_of_ble_eq_true rfl) rfl ?_
    refine z_aload_n dX8_copy_7 rfl ?_
    refine z_iload_n dX8_copy_8 rfl ?_
    by_cases csb : isS q9
    · skip
      refine cs_X8_47 dX8_copy_9 (D_X8_shelfAt hI hw (j := q9) ⟨by omega, by omega⟩) w0 rfl rfl (Nat.le_of_ble_eq_true rfl) (by decide) (fun rv h' hq => ?_)
      obtain ⟨rfl, hq2⟩ := hq
      refine z_heq hq2 ?_
      obtain ⟨bsz, bff, bst, bss, bse⟩ := ws q9.toNat (by omega)
      have bhsw := hhs q9.toNat (by omega)
      rw [if_pos (show 0 ≤ q9 ∧ q9 ≤ 7 from csb)]
      refine z_ks ?_
      refine z_astore dX8_copy_12 (Nat.le_of_ble_eq_true rfl) rfl ?_
      refine z_aload dX8_copy_14 rfl ?_
      refine z_ifnull dX8_copy_16 (tgt := 24) rfl (fun _ => ?_) (fun _ c12 => by cases c12)
      refine z_aload_n dX8_copy_24 rfl ?_
      refine z_bipush dX8_copy_25 rfl ?_
      refine cs_X8_55 dX8_copy_27 (D_X8_ref0 hI hw) w0 rfl rfl (Nat.le_of_ble_eq_true rfl) (by decide) (z_ki ?_)
      exact z_iret F dX8_copy_30 rfl (by decide) ⟨fun _ => ⟨rfl, rfl⟩, fun q => absurd q (fun q => cs q.1)⟩
    · skip
      refine cs_X8_47 dX8_copy_9 (D_X8_shelfAt hI hw (j := q9) ⟨by omega, by omega⟩) w0 rfl rfl (Nat.le_of_ble_eq_true rfl) (by decide) (fun rv h' hq => ?_)
      obtain ⟨rfl, hq2⟩ := hq
      refine z_heq hq2 ?_
      rw [if_neg (show ¬ (0 ≤ q9 ∧ q9 ≤ 7) from csb)]
      refine z_ks ?_
      refine z_astore dX8_copy_12 (Nat.le_of_ble_eq_true rfl) rfl ?_
      refine z_aload dX8_copy_14 rfl ?_
      refine z_ifnull dX8_copy_16 (tgt := 24) rfl (fun _ => ?_) (fun _ c13 => by cases c13)
      refine z_aload_n dX8_copy_24 rfl ?_
      refine z_bipush dX8_copy_25 rfl ?_
      refine cs_X8_55 dX8_copy_27 (D_X8_ref0 hI hw) w0 rfl rfl (Nat.le_of_ble_eq_true rfl) (by decide) (z_ki ?_)
      exact z_iret F dX8_copy_30 rfl (by decide) ⟨fun _ => ⟨rfl, rfl⟩, fun q => absurd q (fun q => cs q.1)⟩
set_option maxHeartbeats 4000000 in
set_option maxRecDepth 100000 in
theorem D_X8_show {g : z_G} {h : z_H} {ad : Nat → Nat} {Rf Nw Th Tp Lk Ho Sz Im : z_row} {kp : Int} {t ca : Nat} {G Gt : Nat → z_G4} (hI : aJ ad) (hw : cW h ad Rf Nw Th Tp Lk Ho Sz Im kp t ca G Gt) (hwf : nWf Nw G) (hhs : hWf Ho Sz) {si wk i9 : Int} (hsi : z_in si) (hwk : z_in wk) (hi9 : z_in i9) : z_D g mX8_show 3 0 0 [z_r (ad 0), z_i si, z_i wk, z_i i9] h (fun rv h' => ((isS si ∧ (wk = -1 ∨ (isW Nw wk ∧ 0 ≤ i9 ∧ i9 < (zF Nw wk.toNat : Int)))) → rv = some (z_i 1) ∧ (cW h' ad Rf Nw Th Tp Lk (z_sf Ho si.toNat (if wk = -1 then -1 else 10 + kR Nw wk.toNat i9.toNat)) Sz Im kp t ca G Gt ∧ zfr ad h h')) ∧ (¬ (isS si ∧ (wk = -1 ∨ (isW Nw wk ∧ 0 ≤ i9 ∧ i9 < (zF Nw wk.toNat : Int)))) → rv = some (z_i (-92)) ∧ h' = rfH h ad Rf 0)) := by
  refine z_D.of (by decide +kernel) (Nat.le_of_ble_eq_true rfl) (fun X F => ?_)
  obtain ⟨⟨w0, w1, w2, w3⟩, wp, wc, ws, wn, wkk⟩ := id hw
  obtain ⟨Lf, lc, dc, nd, si, mo, se, sd, ln, zz, ff, hs, hL, hk9⟩ := wn
  obtain ⟨⟨rfl, rfl, rfl, rfl, rfl, rfl⟩, hcl, hln⟩ := hk9 trivial
  obtain ⟨e0, e1, e2, e3, b1, b2, b3, b4, b5⟩ := id hs
  obtain ⟨v1, v2, v3, v4, v5, v6, v7⟩ := id hwf
  show z_w g X cX8_show RX8 (3, 0, 0) 0 [z_r (ad 0), z_i si, z_i wk, z_i i9, z_u, z_u] [] h 0 0
  refine z_aload_n dX8_show_0 rfl ?_
  refine z_iload_n dX8_show_1 rfl ?_
  by_cases csb : isS si
  · skip
    refine cs_X8_47 dX8_show_2 (D_X8_shelfAt hI hw (j := si) ⟨by omega, by omega⟩) w0 rfl rfl (Nat.le_of_ble_eq_true rfl) (by decide) (fun rv h' hq => ?_)
    obtain ⟨rfl, hq2⟩ := hq
    refine z_heq hq2 ?_
    obtain ⟨bsz, bff, bst, bss, bse⟩ := ws si.toNat (by omega)
    have bhsw := hhs si.toNat (by omega)
    rw [if_pos (show 0 ≤ si ∧ si ≤ 7 from csb)]
    refine z_ks ?_
    refine z_astore dX8_show_5 (Nat.le_of_ble_eq_true rfl) rfl ?_
    refine z_aload dX8_show_7 rfl ?_
    refine z_ifnonnull dX8_show_9 (tgt := 19) rfl (fun _ _ => ?_) (fun c1 => by cases c1)
    refine z_iload_n dX8_show_19 rfl ?_
    refine z_iconst dX8_show_20 ?_
    refine z_icmp_ne dX8_show_21 (tgt := 31) rfl ⟨by omega, by omega⟩ (by decide) (fun c2 => ?_) (fun c2 => ?_)
    · skip
      refine z_aload_n dX8_show_31 rfl ?_
      refine gf_X8_10 dX8_show_32 w0 rfl ?_
      refine z_iload_n dX8_show_35 rfl ?_
      by_cases cd : isW Nw wk
      · skip
        refine cs_X8_92 dX8_show_36 (D_X6_doneAt hs (i := wk) ⟨by omega, by omega⟩) e0 rfl rfl (Nat.le_of_ble_eq_true rfl) (by decide) (fun rv h' hq => ?_)
        obtain ⟨rfl, hq2⟩ := hq
        refine z_heq hq2 ?_
        obtain ⟨d0, d1, d2, d3⟩ := e3 wk.toNat (by omega)
        obtain ⟨hc1, hc2, hc3, hc4⟩ := hcl wk.toNat (by omega)
        obtain ⟨f1, f2, f3⟩ := hcl.f hwf (i := wk.toNat) (by omega)
        have hR := v7 wk.toNat (by omega)
        rw [hc1, hc2] at d0
        rw [f1] at d1 d3
        have st : oSt h (tN ad (4 + 3 * wk.toNat)) (tN ad (5 + 3 * wk.toNat)) (zF Nw wk.toNat : Int) (ff wk.toNat) := ⟨d1, d2, d3⟩
        rw [if_pos (show 0 ≤ wk ∧ wk < Nw 5025 from cd)]
        refine z_ks ?_
        refine z_astore dX8_show_39 (Nat.le_of_ble_eq_true rfl) rfl ?_
        refine z_aload dX8_show_41 rfl ?_
        refine z_ifnull dX8_show_43 (tgt := 58) rfl (fun c3 => by cases c3) (fun _ _ => ?_)
        refine z_aload dX8_show_46 rfl ?_
        refine gf_X8_96 dX8_show_48 d0 rfl ?_
        refine z_iload_n dX8_show_51 rfl ?_
        refine cs_X8_102 dX8_show_52 (D_X7_hasPlace st hi9) d1 rfl rfl (Nat.le_of_ble_eq_true rfl) (by decide) (z_ki ?_)
        refine z_if_ne dX8_show_55 (tgt := 65) rfl (by first | exact ⟨by omega, by omega⟩ | exact ⟨by split <;> omega, by split <;> omega⟩) (fun c4 => ?_) (fun c4 => ?_)
        · skip
          refine z_aload dX8_show_65 rfl ?_
          refine z_aload dX8_show_67 rfl ?_
          refine gf_X8_96 dX8_show_69 d0 rfl ?_
          refine z_iload_n dX8_show_72 rfl ?_
          refine cs_X8_107 dX8_show_73 (D_X7_kindAt st hi9) d1 rfl rfl (Nat.le_of_ble_eq_true rfl) (by decide) (z_ki ?_)
          refine cs_X8_110 dX8_show_76 (D_X5_putStitch bst) bst.1 rfl rfl (Nat.le_of_ble_eq_true rfl) (by decide) (fun rv h' hq => ?_)
          obtain ⟨rfl, hq2⟩ := hq
          have ne12 : ad (11 + 2 * si.toNat) ≠ ad (12 + 2 * si.toNat) := hI.ne (by omega) (by omega) (by omega)
          have kk := hR.1.2.2.2 i9.toNat (by omega)
          have kk2 := hc4 i9.toNat (by omega)
          rw [if_pos ⟨by omega, by omega⟩, kk2] at hq2
          have hv : (if wk = -1 then -1 else 10 + kR Nw wk.toNat i9.toNat) = 10 + kR Nw wk.toNat i9.toNat := if_neg (by omega)
          have hS := hw.s1 (h' := h') hI (s0 := si.toNat) (by omega) (fun q h1 h2 => by rw [hq2, z_up_n h1]) (Ho' := z_sf Ho si.toNat (if wk = -1 then -1 else 10 + kR Nw wk.toNat i9.toNat)) (Sz' := Sz) (Im' := Im) ⟨0, bff, ⟨by rw [hq2, z_up_s, z_sf_s, hv], by rw [hq2, z_up_n ne12.symm]; exact bst.2.1, by rw [z_sf_s, hv]; omega, by decide⟩, fun q => by rw [z_sf_s, hv] at q; have := amI_0 q; omega, bse⟩ (fun s h1 h2 => ⟨z_sf_n h1, rfl, fun k hk => rfl⟩)
          show z_w _ _ _ _ _ _ _ [] _ _ _
          refine z_iconst dX8_show_79 ?_
          exact z_iret F dX8_show_80 rfl (by decide) ⟨fun _ => ⟨rfl, hS⟩, fun q => absurd ⟨csb, Or.inr ⟨cd, by omega⟩⟩ q⟩
        · skip
          refine z_aload_n dX8_show_58 rfl ?_
          refine z_bipush dX8_show_59 rfl ?_
          refine cs_X8_55 dX8_show_61 (D_X8_ref0 hI hw) w0 rfl rfl (Nat.le_of_ble_eq_true rfl) (by decide) (z_ki ?_)
          exact z_iret F dX8_show_64 rfl (by decide) ⟨fun q => absurd q.2 (fun q => by rcases q with q | q; (first | omega | exact absurd q (by omega)); have := q.2; omega), fun _ => ⟨rfl, rfl⟩⟩
      · skip
        refine cs_X8_92 dX8_show_36 (D_X6_doneAt hs (i := wk) ⟨by omega, by omega⟩) e0 rfl rfl (Nat.le_of_ble_eq_true rfl) (by decide) (fun rv h' hq => ?_)
        obtain ⟨rfl, hq2⟩ := hq
        refine z_heq hq2 ?_
        rw [if_neg (show ¬ (0 ≤ wk ∧ wk < Nw 5025) from cd)]
        refine z_ks ?_
        refine z_astore dX8_show_39 (Nat.le_of_ble_eq_true rfl) rfl ?_
        refine z_aload dX8_show_41 rfl ?_
        refine z_ifnull dX8_show_43 (tgt := 58) rfl (fun _ => ?_) (fun _ c5 => by cases c5)
        refine z_aload_n dX8_show_58 rfl ?_
        refine z_bipush dX8_show_59 rfl ?_
        refine cs_X8_55 dX8_show_61 (D_X8_ref0 hI hw) w0 rfl rfl (Nat.le_of_ble_eq_true rfl) (by decide) (z_ki ?_)
        exact z_iret F dX8_show_64 rfl (by decide) ⟨fun q => absurd q.2 (fun q => by rcases q with q | q; (first | omega | exact absurd q (by omega)); exact cd q.1), fun _ => ⟨rfl, rfl⟩⟩
    · skip
      refine z_aload dX8_show_24 rfl ?_
      refine cs_X8_89 dX8_show_26 (D_X5_putNothing bst) bst.1 rfl rfl (Nat.le_of_ble_eq_true rfl) (by decide) (fun rv h' hq => ?_)
      obtain ⟨rfl, hq2⟩ := hq
      have ne12 : ad (11 + 2 * si.toNat) ≠ ad (12 + 2 * si.toNat) := hI.ne (by omega) (by omega) (by omega)
      have hv : (if wk = -1 then -1 else 10 + kR Nw wk.toNat i9.toNat) = -1 := if_pos (by omega)
      have hS := hw.s1 (h' := h') hI (s0 := si.toNat) (by omega) (fun q h1 h2 => by rw [hq2, z_up_n h1]) (Ho' := z_sf Ho si.toNat (if wk = -1 then -1 else 10 + kR Nw wk.toNat i9.toNat)) (Sz' := Sz) (Im' := Im) ⟨0, bff, ⟨by rw [hq2, z_up_s, z_sf_s, hv], by rw [hq2, z_up_n ne12.symm]; exact bst.2.1, by rw [z_sf_s, hv]; omega, by decide⟩, fun q => by rw [z_sf_s, hv] at q; have := amI_0 q; omega, bse⟩ (fun s h1 h2 => ⟨z_sf_n h1, rfl, fun k hk => rfl⟩)
      show z_w _ _ _ _ _ _ _ [] _ _ _
      refine z_iconst dX8_show_29 ?_
      exact z_iret F dX8_show_30 rfl (by decide) ⟨fun _ => ⟨rfl, hS⟩, fun q => absurd ⟨csb, Or.inl (by omega)⟩ q⟩
  · skip
    refine cs_X8_47 dX8_show_2 (D_X8_shelfAt hI hw (j := si) ⟨by omega, by omega⟩) w0 rfl rfl (Nat.le_of_ble_eq_true rfl) (by decide) (fun rv h' hq => ?_)
    obtain ⟨rfl, hq2⟩ := hq
    refine z_heq hq2 ?_
    rw [if_neg (show ¬ (0 ≤ si ∧ si ≤ 7) from csb)]
    refine z_ks ?_
    refine z_astore dX8_show_5 (Nat.le_of_ble_eq_true rfl) rfl ?_
    refine z_aload dX8_show_7 rfl ?_
    refine z_ifnonnull dX8_show_9 (tgt := 19) rfl (fun _ c6 => by cases c6) (fun _ => ?_)
    refine z_aload_n dX8_show_12 rfl ?_
    refine z_bipush dX8_show_13 rfl ?_
    refine cs_X8_55 dX8_show_15 (D_X8_ref0 hI hw) w0 rfl rfl (Nat.le_of_ble_eq_true rfl) (by decide) (z_ki ?_)
    exact z_iret F dX8_show_18 rfl (by decide) ⟨fun q => absurd q.1 csb, fun _ => ⟨rfl, rfl⟩⟩
set_option maxHeartbeats 4000000 in
set_option maxRecDepth 100000 in
theorem D_X8_says {g : z_G} {h : z_H} {ad : Nat → Nat} {Rf Nw Th Tp Lk Ho Sz Im : z_row} {kp : Int} {t ca : Nat} {G Gt : Nat → z_G4} (hI : aJ ad) (hw : cW h ad Rf Nw Th Tp Lk Ho Sz Im kp t ca G Gt) (hhs : hWf Ho Sz) {si k9 : Int} (hsi : z_in si) (hk9 : z_in k9) : z_D g mX8_says 4 0 0 [z_r (ad 0), z_i si, z_i k9] h (fun rv h' => (¬ (isS si ∧ 0 ≤ k9 ∧ k9 ≤ 12) → rv = some (z_i (-92)) ∧ h' = rfH h ad Rf 0) ∧ (isS si ∧ 0 ≤ k9 ∧ k9 ≤ 12 → (Ho si.toNat < 0 → rv = some (z_i (-94)) ∧ h' = rfH h ad Rf 2) ∧ (¬ Ho si.toNat < 0 → (Ho si.toNat < 10 ∨ kUn (Ho si.toNat - 10) k9 = 0 → rv = some (z_i (-93)) ∧ h' = rfH h ad Rf 1) ∧ (¬ (Ho si.toNat < 10 ∨ kUn (Ho si.toNat - 10) k9 = 0) → rv = some (z_i (syV (Ho si.toNat - 10) k9)) ∧ h' = h)))) := by
  refine z_D.of (by decide +kernel) (Nat.le_of_ble_eq_true rfl) (fun X F => ?_)
  obtain ⟨⟨w0, w1, w2, w3⟩, wp, wc, ws, wn, wkk⟩ := id hw
  show z_w g X cX8_says RX8 (4, 0, 0) 0 [z_r (ad 0), z_i si, z_i k9, z_u, z_u] [] h 0 0
  refine z_aload_n dX8_says_0 rfl ?_
  refine z_iload_n dX8_says_1 rfl ?_
  by_cases cs : isS si
  · skip
    refine cs_X8_47 dX8_says_2 (D_X8_shelfAt hI hw (j := si) ⟨by omega, by omega⟩) w0 rfl rfl (Nat.le_of_ble_eq_true rfl) (by decide) (fun rv h' hq => ?_)
    obtain ⟨rfl, hq2⟩ := hq
    refine z_heq hq2 ?_
    obtain ⟨sz, ff, st, ss, se⟩ := ws si.toNat (by omega)
    have hsw := hhs si.toNat (by omega)
    rw [if_pos (show 0 ≤ si ∧ si ≤ 7 from cs)]
    refine z_ks ?_
    refine z_astore_n dX8_says_5 (Nat.le_of_ble_eq_true rfl) rfl ?_
    refine z_aload_n dX8_says_6 rfl ?_
    refine z_ifnull dX8_says_7 (tgt := 17) rfl (fun c1 => by cases c1) (fun _ _ => ?_)
    refine z_iload_n dX8_says_10 rfl ?_
    refine cs_X8_114 dX8_says_11 (D_X2_isKind (a := k9) hk9) rfl rfl (Nat.le_of_ble_eq_true rfl) (by decide) (z_ki ?_)
    refine z_if_ne dX8_says_14 (tgt := 24) rfl (by first | exact ⟨by omega, by omega⟩ | exact ⟨by split <;> omega, by split <;> omega⟩) (fun c2 => ?_) (fun c2 => ?_)
    · skip
      refine z_aload_n dX8_says_24 rfl ?_
      refine cs_X8_67 dX8_says_25 (D_X5_isBare st) st.1 rfl rfl (Nat.le_of_ble_eq_true rfl) (by decide) (z_ki ?_)
      refine z_if_eq dX8_says_28 (tgt := 38) rfl (by first | exact ⟨by omega, by omega⟩ | exact ⟨by split <;> omega, by split <;> omega⟩) (fun c3 => ?_) (fun c3 => ?_)
      · skip
        refine z_aload_n dX8_says_38 rfl ?_
        refine cs_X8_119 dX8_says_39 (D_X5_stitchKind st) st.1 rfl rfl (Nat.le_of_ble_eq_true rfl) (by decide) (z_ki ?_)
        refine z_istore dX8_says_42 (Nat.le_of_ble_eq_true rfl) rfl ?_
        refine z_iload dX8_says_44 rfl ?_
        refine z_iload_n dX8_says_46 rfl ?_
        refine cs_X8_123 dX8_says_47 (D_X2_isUnder (a := (if 10 ≤ Ho si.toNat then Ho si.toNat - 10 else -1)) (t := k9) ⟨by split <;> omega, by split <;> omega⟩ hk9) rfl rfl (Nat.le_of_ble_eq_true rfl) (by decide) (z_ki ?_)
        have hup : upF 4 (if 10 ≤ Ho si.toNat then Ho si.toNat - 10 else -1) k9 = (if Ho si.toNat < 10 then 0 else kUn (Ho si.toNat - 10) k9) := by
          by_cases cz8 : 10 ≤ Ho si.toNat
          · rw [if_pos cz8, if_neg (by omega)]; exact upF_kUn ⟨by omega, by omega⟩ (by omega)
          · rw [if_neg cz8, if_pos (by omega)]; exact if_neg (by omega)
        have hu01 := upF_01 4 (if 10 ≤ Ho si.toNat then Ho si.toNat - 10 else -1) k9
        refine z_if_eq dX8_says_50 (tgt := 62) rfl ⟨by omega, by omega⟩ (fun c4 => ?_) (fun c4 => ?_)
        · skip
          refine z_aload_n dX8_says_62 rfl ?_
          refine z_bipush dX8_says_63 rfl ?_
          refine cs_X8_55 dX8_says_65 (D_X8_ref1 hI hw) w0 rfl rfl (Nat.le_of_ble_eq_true rfl) (by decide) (z_ki ?_)
          exact z_iret F dX8_says_68 rfl (by decide) ⟨fun q => absurd ⟨cs, by omega, by omega⟩ q, fun _ => ⟨fun q => absurd q (by omega), fun _ => ⟨fun _ => ⟨rfl, rfl⟩, fun q => absurd (by by_cases cz8 : Ho si.toNat < 10; exact Or.inl cz8; (rw [if_neg cz8] at hup; omega)) q⟩⟩⟩
        · skip
          have h10 : 10 ≤ Ho si.toNat := by by_cases cz8 : Ho si.toNat < 10; exact absurd (hup.trans (if_pos cz8)) c4; omega
          have hup2 := hup.trans (if_neg (show ¬ Ho si.toNat < 10 by omega))
          refine z_lseq (ls := [z_r (ad 0), z_i si, z_i k9, z_r (ad (11 + 2 * si.toNat)), z_i (if 10 ≤ Ho si.toNat then Ho si.toNat - 10 else -1)]) (ls2 := [z_r (ad 0), z_i si, z_i k9, z_r (ad (11 + 2 * si.toNat)), z_i (Ho si.toNat - 10)]) (by rw [if_pos h10]) ?_
          refine z_iload dX8_says_53 rfl ?_
          refine z_iload_n dX8_says_55 rfl ?_
          refine cs_X8_127 dX8_says_56 (D_X2_saying (a := Ho si.toNat - 10) (t := k9) ⟨by omega, by omega⟩ (by omega)) rfl rfl (Nat.le_of_ble_eq_true rfl) (by decide) (z_ki ?_)
          refine z_goto dX8_says_59 (tgt := 68) rfl ?_
          exact z_iret F dX8_says_68 rfl (by decide) ⟨fun q => absurd ⟨cs, by omega, by omega⟩ q, fun _ => ⟨fun q => absurd q (by omega), fun _ => ⟨fun q => absurd q (by omega), fun _ => ⟨rfl, rfl⟩⟩⟩⟩
      · skip
        refine z_aload_n dX8_says_31 rfl ?_
        refine z_bipush dX8_says_32 rfl ?_
        refine cs_X8_55 dX8_says_34 (D_X8_ref2 hI hw) w0 rfl rfl (Nat.le_of_ble_eq_true rfl) (by decide) (z_ki ?_)
        exact z_iret F dX8_says_37 rfl (by decide) ⟨fun q => absurd ⟨cs, by omega, by omega⟩ q, fun _ => ⟨fun _ => ⟨rfl, rfl⟩, fun q => absurd (by omega) q⟩⟩
    · skip
      refine z_aload_n dX8_says_17 rfl ?_
      refine z_bipush dX8_says_18 rfl ?_
      refine cs_X8_55 dX8_says_20 (D_X8_ref0 hI hw) w0 rfl rfl (Nat.le_of_ble_eq_true rfl) (by decide) (z_ki ?_)
      exact z_iret F dX8_says_23 rfl (by decide) ⟨fun _ => ⟨rfl, rfl⟩, fun q => absurd q (fun q => by have := q.2; omega)⟩
  · skip
    refine cs_X8_47 dX8_says_2 (D_X8_shelfAt hI hw (j := si) ⟨by omega, by omega⟩) w0 rfl rfl (Nat.le_of_ble_eq_true rfl) (by decide) (fun rv h' hq => ?_)
    obtain ⟨rfl, hq2⟩ := hq
    refine z_heq hq2 ?_
    rw [if_neg (show ¬ (0 ≤ si ∧ si ≤ 7) from cs)]
    refine z_ks ?_
    refine z_astore_n dX8_says_5 (Nat.le_of_ble_eq_true rfl) rfl ?_
    refine z_aload_n dX8_says_6 rfl ?_
    refine z_ifnull dX8_says_7 (tgt := 17) rfl (fun _ => ?_) (fun _ c5 => by cases c5)
    refine z_aload_n dX8_says_17 rfl ?_
    refine z_bipush dX8_says_18 rfl ?_
    refine cs_X8_55 dX8_says_20 (D_X8_ref0 hI hw) w0 rfl rfl (Nat.le_of_ble_eq_true rfl) (by decide) (z_ki ?_)
    exact z_iret F dX8_says_23 rfl (by decide) ⟨fun _ => ⟨rfl, rfl⟩, fun q => absurd q (fun q => cs q.1)⟩
theorem kTu_b {f : z_row} {sd c : Int} {z : Nat} (hk : ∀ j, j < z → kOk (f j)) : z_in (cH sd (z : Int) f c) := by
  unfold cH
  by_cases q : 0 ≤ c ∧ c < (z : Int)
  · rw [if_pos q]
    have h1 := hk c.toNat (by omega)
    have h2 := hk ((z : Int) - 1 - c).toNat (by omega)
    by_cases q2 : sd = 0
    · rw [if_pos q2]; exact ⟨by omega, by omega⟩
    · rw [if_neg q2]; exact kTu_in ⟨by omega, by omega⟩
  · rw [if_neg q]
    decide
set_option maxHeartbeats 4000000 in
set_option maxRecDepth 100000 in
theorem D_X8_differ {g : z_G} {h : z_H} {ad : Nat → Nat} {Rf Nw Th Tp Lk Ho Sz Im : z_row} {kp : Int} {t ca : Nat} {G Gt : Nat → z_G4} (hI : aJ ad) (hw : cW h ad Rf Nw Th Tp Lk Ho Sz Im kp t ca G Gt) (hwf : nWf Nw G) {wk vk : Int} (hwk : z_in wk) (hvk : z_in vk) : z_D g mX8_differ 4 0 0 [z_r (ad 0), z_i wk, z_i vk] h (fun rv h' => (isW Nw wk ∧ isW Nw vk → rv = some (z_i (dfG (fun c => cH (Nw (5026 + 204 * wk.toNat)) (zF Nw wk.toNat : Int) (kR Nw wk.toNat) c) (fun c => cH (Nw (5026 + 204 * vk.toNat)) (zF Nw vk.toNat : Int) (kR Nw vk.toNat) c) (max (zF Nw wk.toNat) (zF Nw vk.toNat)) 0)) ∧ h' = h) ∧ (¬ (isW Nw wk ∧ isW Nw vk) → rv = some (z_i (-92)) ∧ h' = rfH h ad Rf 0)) := by
  refine z_D.of (by decide +kernel) (Nat.le_of_ble_eq_true rfl) (fun X F => ?_)
  obtain ⟨⟨w0, w1, w2, w3⟩, wp, wc, ws, wn, wkk⟩ := id hw
  obtain ⟨Lf, lc, dc, nd, si, mo, se, sd, ln, zz, ff, hs, hL, hk9⟩ := wn
  obtain ⟨⟨rfl, rfl, rfl, rfl, rfl, rfl⟩, hcl, hln⟩ := hk9 trivial
  obtain ⟨e0, e1, e2, e3, b1, b2, b3, b4, b5⟩ := id hs
  obtain ⟨v1, v2, v3, v4, v5, v6, v7⟩ := id hwf
  show z_w g X cX8_differ RX8 (4, 0, 0) 0 [z_r (ad 0), z_i wk, z_i vk, z_u, z_u, z_u, z_u] [] h 0 0
  refine z_aload_n dX8_differ_0 rfl ?_
  refine gf_X8_10 dX8_differ_1 w0 rfl ?_
  refine z_iload_n dX8_differ_4 rfl ?_
  by_cases cd : isW Nw wk
  · skip
    refine cs_X8_92 dX8_differ_5 (D_X6_doneAt hs (i := wk) ⟨by omega, by omega⟩) e0 rfl rfl (Nat.le_of_ble_eq_true rfl) (by decide) (fun rv h' hq => ?_)
    obtain ⟨rfl, hq2⟩ := hq
    refine z_heq hq2 ?_
    obtain ⟨d0, d1, d2, d3⟩ := e3 wk.toNat (by omega)
    obtain ⟨hc1, hc2, hc3, hc4⟩ := hcl wk.toNat (by omega)
    obtain ⟨f1, f2, f3⟩ := hcl.f hwf (i := wk.toNat) (by omega)
    have hR := v7 wk.toNat (by omega)
    rw [hc1, hc2] at d0
    rw [f1] at d1 d3
    have st : oSt h (tN ad (4 + 3 * wk.toNat)) (tN ad (5 + 3 * wk.toNat)) (zF Nw wk.toNat : Int) (ff wk.toNat) := ⟨d1, d2, d3⟩
    rw [if_pos (show 0 ≤ wk ∧ wk < Nw 5025 from cd)]
    refine z_ks ?_
    refine z_astore_n dX8_differ_8 (Nat.le_of_ble_eq_true rfl) rfl ?_
    refine z_aload_n dX8_differ_9 rfl ?_
    refine gf_X8_10 dX8_differ_10 w0 rfl ?_
    refine z_iload_n dX8_differ_13 rfl ?_
    by_cases cdb : isW Nw vk
    · skip
      refine cs_X8_92 dX8_differ_14 (D_X6_doneAt hs (i := vk) ⟨by omega, by omega⟩) e0 rfl rfl (Nat.le_of_ble_eq_true rfl) (by decide) (fun rv h' hq => ?_)
      obtain ⟨rfl, hq2⟩ := hq
      refine z_heq hq2 ?_
      obtain ⟨bd0, bd1, bd2, bd3⟩ := e3 vk.toNat (by omega)
      obtain ⟨bhc1, bhc2, bhc3, bhc4⟩ := hcl vk.toNat (by omega)
      obtain ⟨bf1, bf2, bf3⟩ := hcl.f hwf (i := vk.toNat) (by omega)
      have bhR := v7 vk.toNat (by omega)
      rw [bhc1, bhc2] at bd0
      rw [bf1] at bd1 bd3
      have bst : oSt h (tN ad (4 + 3 * vk.toNat)) (tN ad (5 + 3 * vk.toNat)) (zF Nw vk.toNat : Int) (ff vk.toNat) := ⟨bd1, bd2, bd3⟩
      rw [if_pos (show 0 ≤ vk ∧ vk < Nw 5025 from cdb)]
      refine z_ks ?_
      refine z_astore dX8_differ_17 (Nat.le_of_ble_eq_true rfl) rfl ?_
      refine z_aload_n dX8_differ_19 rfl ?_
      refine z_ifnull dX8_differ_20 (tgt := 28) rfl (fun c1 => by cases c1) (fun _ _ => ?_)
      refine z_aload dX8_differ_23 rfl ?_
      refine z_ifnonnull dX8_differ_25 (tgt := 35) rfl (fun _ _ => ?_) (fun c2 => by cases c2)
      refine z_aload_n dX8_differ_35 rfl ?_
      refine gf_X8_96 dX8_differ_36 d0 rfl ?_
      refine gf_X8_227 dX8_differ_39 d1 rfl ?_
      refine z_aload dX8_differ_42 rfl ?_
      refine gf_X8_96 dX8_differ_44 bd0 rfl ?_
      refine gf_X8_227 dX8_differ_47 bd1 rfl ?_
      refine mm_X8_277 dX8_differ_50 ⟨by omega, by have := hR.1.2.2.1; omega⟩ ⟨by omega, by have := bhR.1.2.2.1; omega⟩ (by decide) (Nat.le_of_ble_eq_true rfl) ?_
      refine z_istore dX8_differ_53 (Nat.le_of_ble_eq_true rfl) rfl ?_
      refine z_iconst dX8_differ_55 ?_
      refine z_istore dX8_differ_56 (Nat.le_of_ble_eq_true rfl) rfl ?_
      have bnd1 := hR.1.2.2.1
      have bnd2 := bhR.1.2.2.1
      have hmax : (if (zF Nw wk.toNat : Int) < (zF Nw vk.toNat : Int) then (zF Nw vk.toNat : Int) else (zF Nw wk.toNat : Int)) = ((max (zF Nw wk.toNat) (zF Nw vk.toNat) : Nat) : Int) := by split <;> omega
      obtain ⟨M, hM⟩ : ∃ M : Nat, max (zF Nw wk.toNat) (zF Nw vk.toNat) = M := ⟨_, rfl⟩
      rw [hM] at hmax
      have hM2 : M ≤ 200 := by omega
      refine z_lseq (ls2 := [z_r (ad 0), z_i wk, z_i vk, z_r (tN ad (3 + 3 * wk.toNat)), z_r (tN ad (3 + 3 * vk.toNat)), z_i (M : Int), z_i ((0 : Nat) : Int)]) (by rw [hmax]; rfl) ?_
      have L4 : ∀ (fu : Nat) (x r : Nat) (q1 : x + r = M) (q2 : dfG (fun c => cH (Nw (5026 + 204 * wk.toNat)) (zF Nw wk.toNat : Int) (kR Nw wk.toNat) c) (fun c => cH (Nw (5026 + 204 * vk.toNat)) (zF Nw vk.toNat : Int) (kR Nw vk.toNat) c) M 0 = dfG (fun c => cH (Nw (5026 + 204 * wk.toNat)) (zF Nw wk.toNat : Int) (kR Nw wk.toNat) c) (fun c => cH (Nw (5026 + 204 * vk.toNat)) (zF Nw vk.toNat : Int) (kR Nw vk.toNat) c) r x), r < fu → z_w g X cX8_differ RX8 (4, 0, 0) 58 [z_r (ad 0), z_i wk, z_i vk, z_r (tN ad (3 + 3 * wk.toNat)), z_r (tN ad (3 + 3 * vk.toNat)), z_i (M : Int), z_i (x : Int)] [] h 0 0 := by
        intro fu
        induction fu with
        | zero => intro x r q1 q2 hm; exact absurd hm (Nat.not_lt_zero _)
        | succ fu ih =>
          intro x r q1 q2 hm
          refine z_iload dX8_differ_58 rfl ?_
          refine z_iload dX8_differ_60 rfl ?_
          refine z_icmp_ge dX8_differ_62 (tgt := 90) rfl ⟨by omega, by omega⟩ ⟨by omega, by omega⟩ (fun c3 => ?_) (fun c3 => ?_)
          · skip
            obtain rfl : r = 0 := by omega
            refine z_iconst dX8_differ_90 ?_
            exact z_iret F dX8_differ_91 rfl (by decide) ⟨fun _ => ⟨congrArg (fun z => some (z_i z)) (by rw [hM, q2]; exact rfl), rfl⟩, fun q => absurd ⟨cd, cdb⟩ q⟩
          · skip
            obtain ⟨r2, rfl⟩ : ∃ y, r = y + 1 := ⟨r - 1, by omega⟩
            refine z_aload_n dX8_differ_65 rfl ?_
            refine z_iload dX8_differ_66 rfl ?_
            refine cs_X8_252 dX8_differ_68 (D_X1_chartAt (h := h) (d := tN ad (3 + 3 * wk.toNat)) (a := tN ad (4 + 3 * wk.toNat)) (k := tN ad (5 + 3 * wk.toNat)) (sd := Nw (5026 + 204 * wk.toNat)) (ln := Nw (5026 + 204 * wk.toNat + 1)) ⟨d0, st⟩ f2 (by have := hR.2.1; exact ⟨by omega, by omega⟩) (c := (x : Int)) ⟨by omega, by omega⟩) d0 rfl rfl (Nat.le_of_ble_eq_true rfl) (by decide) (z_ki ?_)
            have hx1 := kTu_b (f := kR Nw wk.toNat) hR.1.2.2.2 (sd := Nw (5026 + 204 * wk.toNat)) (c := (x : Int))
            refine z_ieq (cH_ag (f := kR Nw wk.toNat) (fun j hj => hc4 j (by omega))) ?_
            refine z_aload dX8_differ_71 rfl ?_
            refine z_iload dX8_differ_73 rfl ?_
            refine cs_X8_252 dX8_differ_75 (D_X1_chartAt (h := h) (d := tN ad (3 + 3 * vk.toNat)) (a := tN ad (4 + 3 * vk.toNat)) (k := tN ad (5 + 3 * vk.toNat)) (sd := Nw (5026 + 204 * vk.toNat)) (ln := Nw (5026 + 204 * vk.toNat + 1)) ⟨bd0, bst⟩ bf2 (by have := bhR.2.1; exact ⟨by omega, by omega⟩) (c := (x : Int)) ⟨by omega, by omega⟩) bd0 rfl rfl (Nat.le_of_ble_eq_true rfl) (by decide) (z_ki ?_)
            have hx2 := kTu_b (f := kR Nw vk.toNat) bhR.1.2.2.2 (sd := Nw (5026 + 204 * vk.toNat)) (c := (x : Int))
            refine z_ieq (cH_ag (f := kR Nw vk.toNat) (fun j hj => bhc4 j (by omega))) ?_
            refine z_icmp_eq dX8_differ_78 (tgt := 84) rfl hx1 hx2 (fun c4 => ?_) (fun c4 => ?_)
            · skip
              refine z_iinc dX8_differ_84 rfl rfl ?_
              refine z_goto dX8_differ_87 (tgt := 58) rfl ?_
              exact ih (x + 1) r2 (by omega) (by rw [q2]; exact if_neg (fun q => q c4)) (by omega)
            · skip
              refine z_iload dX8_differ_81 rfl ?_
              exact z_iret F dX8_differ_83 rfl (by decide) ⟨fun _ => ⟨congrArg (fun z => some (z_i z)) (by rw [hM, q2]; exact (if_pos c4).symm), rfl⟩, fun q => absurd ⟨cd, cdb⟩ q⟩
      exact L4 (M + 1) 0 M (by omega) rfl (by omega)
    · skip
      refine cs_X8_92 dX8_differ_14 (D_X6_doneAt hs (i := vk) ⟨by omega, by omega⟩) e0 rfl rfl (Nat.le_of_ble_eq_true rfl) (by decide) (fun rv h' hq => ?_)
      obtain ⟨rfl, hq2⟩ := hq
      refine z_heq hq2 ?_
      rw [if_neg (show ¬ (0 ≤ vk ∧ vk < Nw 5025) from cdb)]
      refine z_ks ?_
      refine z_astore dX8_differ_17 (Nat.le_of_ble_eq_true rfl) rfl ?_
      refine z_aload_n dX8_differ_19 rfl ?_
      refine z_ifnull dX8_differ_20 (tgt := 28) rfl (fun c5 => by cases c5) (fun _ _ => ?_)
      refine z_aload dX8_differ_23 rfl ?_
      refine z_ifnonnull dX8_differ_25 (tgt := 35) rfl (fun _ c6 => by cases c6) (fun _ => ?_)
      refine z_aload_n dX8_differ_28 rfl ?_
      refine z_bipush dX8_differ_29 rfl ?_
      refine cs_X8_55 dX8_differ_31 (D_X8_ref0 hI hw) w0 rfl rfl (Nat.le_of_ble_eq_true rfl) (by decide) (z_ki ?_)
      exact z_iret F dX8_differ_34 rfl (by decide) ⟨fun q => absurd q (fun q => cdb q.2), fun _ => ⟨rfl, rfl⟩⟩
  · skip
    refine cs_X8_92 dX8_differ_5 (D_X6_doneAt hs (i := wk) ⟨by omega, by omega⟩) e0 rfl rfl (Nat.le_of_ble_eq_true rfl) (by decide) (fun rv h' hq => ?_)
    obtain ⟨rfl, hq2⟩ := hq
    refine z_heq hq2 ?_
    rw [if_neg (show ¬ (0 ≤ wk ∧ wk < Nw 5025) from cd)]
    refine z_ks ?_
    refine z_astore_n dX8_differ_8 (Nat.le_of_ble_eq_true rfl) rfl ?_
    refine z_aload_n dX8_differ_9 rfl ?_
    refine gf_X8_10 dX8_differ_10 w0 rfl ?_
    refine z_iload_n dX8_differ_13 rfl ?_
    by_cases cdb : isW Nw vk
    · skip
      refine cs_X8_92 dX8_differ_14 (D_X6_doneAt hs (i := vk) ⟨by omega, by omega⟩) e0 rfl rfl (Nat.le_of_ble_eq_true rfl) (by decide) (fun rv h' hq => ?_)
      obtain ⟨rfl, hq2⟩ := hq
      refine z_heq hq2 ?_
      obtain ⟨bd0, bd1, bd2, bd3⟩ := e3 vk.toNat (by omega)
      obtain ⟨bhc1, bhc2, bhc3, bhc4⟩ := hcl vk.toNat (by omega)
      obtain ⟨bf1, bf2, bf3⟩ := hcl.f hwf (i := vk.toNat) (by omega)
      have bhR := v7 vk.toNat (by omega)
      rw [bhc1, bhc2] at bd0
      rw [bf1] at bd1 bd3
      have bst : oSt h (tN ad (4 + 3 * vk.toNat)) (tN ad (5 + 3 * vk.toNat)) (zF Nw vk.toNat : Int) (ff vk.toNat) := ⟨bd1, bd2, bd3⟩
      rw [if_pos (show 0 ≤ vk ∧ vk < Nw 5025 from cdb)]
      refine z_ks ?_
      refine z_astore dX8_differ_17 (Nat.le_of_ble_eq_true rfl) rfl ?_
      refine z_aload_n dX8_differ_19 rfl ?_
      refine z_ifnull dX8_differ_20 (tgt := 28) rfl (fun _ => ?_) (fun _ c7 => by cases c7)
      refine z_aload_n dX8_differ_28 rfl ?_
      refine z_bipush dX8_differ_29 rfl ?_
      refine cs_X8_55 dX8_differ_31 (D_X8_ref0 hI hw) w0 rfl rfl (Nat.le_of_ble_eq_true rfl) (by decide) (z_ki ?_)
      exact z_iret F dX8_differ_34 rfl (by decide) ⟨fun q => absurd q (fun q => cd q.1), fun _ => ⟨rfl, rfl⟩⟩
    · skip
      refine cs_X8_92 dX8_differ_14 (D_X6_doneAt hs (i := vk) ⟨by omega, by omega⟩) e0 rfl rfl (Nat.le_of_ble_eq_true rfl) (by decide) (fun rv h' hq => ?_)
      obtain ⟨rfl, hq2⟩ := hq
      refine z_heq hq2 ?_
      rw [if_neg (show ¬ (0 ≤ vk ∧ vk < Nw 5025) from cdb)]
      refine z_ks ?_
      refine z_astore dX8_differ_17 (Nat.le_of_ble_eq_true rfl) rfl ?_
      refine z_aload_n dX8_differ_19 rfl ?_
      refine z_ifnull dX8_differ_20 (tgt := 28) rfl (fun _ => ?_) (fun _ c8 => by cases c8)
      refine z_aload_n dX8_differ_28 rfl ?_
      refine z_bipush dX8_differ_29 rfl ?_
      refine cs_X8_55 dX8_differ_31 (D_X8_ref0 hI hw) w0 rfl rfl (Nat.le_of_ble_eq_true rfl) (by decide) (z_ki ?_)
      exact z_iret F dX8_differ_34 rfl (by decide) ⟨fun q => absurd q (fun q => cd q.1), fun _ => ⟨rfl, rfl⟩⟩
set_option maxHeartbeats 4000000 in
set_option maxRecDepth 100000 in
theorem D_X8_judge {g : z_G} {h : z_H} {ad : Nat → Nat} {Rf Nw Th Tp Lk Ho Sz Im : z_row} {kp : Int} {t ca : Nat} {G Gt : Nat → z_G4} (hI : aJ ad) (hw : cW h ad Rf Nw Th Tp Lk Ho Sz Im kp t ca G Gt) (hwf : nWf Nw G) (hhs : hWf Ho Sz) (him : iWf Im) {wk si n9 : Int} (hwk : z_in wk) (hsi : z_in si) (hn9 : z_in n9) : z_D g mX8_judge 5 0 0 [z_r (ad 0), z_i wk, z_i si, z_i n9] h (fun rv h' => (¬ (isW Nw wk ∧ isS si ∧ 0 ≤ n9 ∧ n9 ≤ 40) → rv = some (z_i (-92)) ∧ h' = rfH h ad Rf 0) ∧ ((isW Nw wk ∧ isS si ∧ 0 ≤ n9 ∧ n9 ≤ 40) → (amI (Ho si.toNat) ≠ 0 → rv = some (z_i (amI (Ho si.toNat))) ∧ h' = rfH h ad Rf (-92 - amI (Ho si.toNat)).toNat) ∧ (amI (Ho si.toNat) = 0 → (n9 > Sz si.toNat → rv = some (z_i (-92)) ∧ h' = rfH h ad Rf 0) ∧ (¬ n9 > Sz si.toNat → rv = some (z_i (jdG (zF Nw wk.toNat) (fun k => Im (40 * si.toNat + k)) (kR Nw wk.toNat) n9 n9.toNat 0)) ∧ h' = h)))) := by
  refine z_D.of (by decide +kernel) (Nat.le_of_ble_eq_true rfl) (fun X F => ?_)
  obtain ⟨⟨w0, w1, w2, w3⟩, wp, wc, ws, wn, wkk⟩ := id hw
  obtain ⟨Lf, lc, dc, nd, si, mo, se, sd, ln, zz, ff, hs, hL, hk9⟩ := wn
  obtain ⟨⟨rfl, rfl, rfl, rfl, rfl, rfl⟩, hcl, hln⟩ := hk9 trivial
  obtain ⟨e0, e1, e2, e3, b1, b2, b3, b4, b5⟩ := id hs
  obtain ⟨v1, v2, v3, v4, v5, v6, v7⟩ := id hwf
  show z_w g X cX8_judge RX8 (5, 0, 0) 0 [z_r (ad 0), z_i wk, z_i si, z_i n9, z_u, z_u, z_u] [] h 0 0
  refine z_aload_n dX8_judge_0 rfl ?_
  refine gf_X8_10 dX8_judge_1 w0 rfl ?_
  refine z_iload_n dX8_judge_4 rfl ?_
  by_cases cd : isW Nw wk
  · skip
    refine cs_X8_92 dX8_judge_5 (D_X6_doneAt hs (i := wk) ⟨by omega, by omega⟩) e0 rfl rfl (Nat.le_of_ble_eq_true rfl) (by decide) (fun rv h' hq => ?_)
    obtain ⟨rfl, hq2⟩ := hq
    refine z_heq hq2 ?_
    obtain ⟨d0, d1, d2, d3⟩ := e3 wk.toNat (by omega)
    obtain ⟨hc1, hc2, hc3, hc4⟩ := hcl wk.toNat (by omega)
    obtain ⟨f1, f2, f3⟩ := hcl.f hwf (i := wk.toNat) (by omega)
    have hR := v7 wk.toNat (by omega)
    rw [hc1, hc2] at d0
    rw [f1] at d1 d3
    have st : oSt h (tN ad (4 + 3 * wk.toNat)) (tN ad (5 + 3 * wk.toNat)) (zF Nw wk.toNat : Int) (ff wk.toNat) := ⟨d1, d2, d3⟩
    rw [if_pos (show 0 ≤ wk ∧ wk < Nw 5025 from cd)]
    refine z_ks ?_
    refine z_astore dX8_judge_8 (Nat.le_of_ble_eq_true rfl) rfl ?_
    refine z_aload_n dX8_judge_10 rfl ?_
    refine z_iload_n dX8_judge_11 rfl ?_
    by_cases csb : isS si
    · skip
      refine cs_X8_47 dX8_judge_12 (D_X8_shelfAt hI hw (j := si) ⟨by omega, by omega⟩) w0 rfl rfl (Nat.le_of_ble_eq_true rfl) (by decide) (fun rv h' hq => ?_)
      obtain ⟨rfl, hq2⟩ := hq
      refine z_heq hq2 ?_
      obtain ⟨bsz, bff, bst, bss, bse⟩ := ws si.toNat (by omega)
      have bhsw := hhs si.toNat (by omega)
      rw [if_pos (show 0 ≤ si ∧ si ≤ 7 from csb)]
      refine z_ks ?_
      refine z_astore dX8_judge_15 (Nat.le_of_ble_eq_true rfl) rfl ?_
      refine z_aload dX8_judge_17 rfl ?_
      refine z_ifnull dX8_judge_19 (tgt := 37) rfl (fun c1 => by cases c1) (fun _ _ => ?_)
      refine z_aload dX8_judge_22 rfl ?_
      refine z_ifnull dX8_judge_24 (tgt := 37) rfl (fun c2 => by cases c2) (fun _ _ => ?_)
      refine z_iload_n dX8_judge_27 rfl ?_
      refine z_if_lt dX8_judge_28 (tgt := 37) rfl (by first | exact ⟨by omega, by omega⟩ | exact ⟨by split <;> omega, by split <;> omega⟩) (fun c3 => ?_) (fun c3 => ?_)
      · skip
        refine z_aload_n dX8_judge_37 rfl ?_
        refine z_bipush dX8_judge_38 rfl ?_
        refine cs_X8_55 dX8_judge_40 (D_X8_ref0 hI hw) w0 rfl rfl (Nat.le_of_ble_eq_true rfl) (by decide) (z_ki ?_)
        exact z_iret F dX8_judge_43 rfl (by decide) ⟨fun _ => ⟨rfl, rfl⟩, fun q => absurd q (fun q => by first | exact cd q.1 | exact csb q.2.1 | (have h1 := q.2.2; omega))⟩
      · skip
        refine z_iload_n dX8_judge_31 rfl ?_
        refine z_bipush dX8_judge_32 rfl ?_
        refine z_icmp_le dX8_judge_34 (tgt := 44) rfl ⟨by omega, by omega⟩ (by decide) (fun c4 => ?_) (fun c4 => ?_)
        · skip
          refine z_aload dX8_judge_44 rfl ?_
          refine cs_X8_63 dX8_judge_46 (D_X5_hasRow bst) bst.1 rfl rfl (Nat.le_of_ble_eq_true rfl) (by decide) (z_ki ?_)
          refine z_if_ne dX8_judge_49 (tgt := 72) rfl (by first | exact ⟨by omega, by omega⟩ | exact ⟨by split <;> omega, by split <;> omega⟩) (fun c5 => ?_) (fun c5 => ?_)
          · skip
            have ham : amI (Ho si.toNat) = 0 := by have := amI_v bhsw.1; omega
            have hss := bss ham
            have hs40 := bst.2.2.2.2
            refine z_aload dX8_judge_72 rfl ?_
            refine gf_X8_282 dX8_judge_74 bst.1 rfl ?_
            refine z_iload_n dX8_judge_77 rfl ?_
            refine z_icmp_ge dX8_judge_78 (tgt := 88) rfl ⟨by omega, by omega⟩ ⟨by omega, by omega⟩ (fun c6 => ?_) (fun c6 => ?_)
            · skip
              refine z_iconst dX8_judge_88 ?_
              refine z_istore dX8_judge_89 (Nat.le_of_ble_eq_true rfl) rfl ?_
              have bnd1 := hR.1.2.2.1
              refine z_lseq (ls2 := [z_r (ad 0), z_i wk, z_i si, z_i n9, z_r (tN ad (3 + 3 * wk.toNat)), z_r (ad (11 + 2 * si.toNat)), z_i ((0 : Nat) : Int)]) rfl ?_
              have L4 : ∀ (fu : Nat) (x r : Nat) (q1 : ((x + r : Nat) : Int) = n9) (q2 : jdG (zF Nw wk.toNat) (fun k => Im (40 * si.toNat + k)) (kR Nw wk.toNat) n9 n9.toNat 0 = jdG (zF Nw wk.toNat) (fun k => Im (40 * si.toNat + k)) (kR Nw wk.toNat) n9 r x), r < fu → z_w g X cX8_judge RX8 (5, 0, 0) 91 [z_r (ad 0), z_i wk, z_i si, z_i n9, z_r (tN ad (3 + 3 * wk.toNat)), z_r (ad (11 + 2 * si.toNat)), z_i (x : Int)] [] h 0 0 := by
                intro fu
                induction fu with
                | zero => intro x r q1 q2 hm; exact absurd hm (Nat.not_lt_zero _)
                | succ fu ih =>
                  intro x r q1 q2 hm
                  refine z_iload dX8_judge_91 rfl ?_
                  refine z_iload_n dX8_judge_93 rfl ?_
                  refine z_icmp_ge dX8_judge_94 (tgt := 141) rfl ⟨by omega, by omega⟩ ⟨by omega, by omega⟩ (fun c7 => ?_) (fun c7 => ?_)
                  · skip
                    obtain rfl : r = 0 := by omega
                    refine z_aload dX8_judge_141 rfl ?_
                    refine gf_X8_96 dX8_judge_143 d0 rfl ?_
                    refine gf_X8_227 dX8_judge_146 d1 rfl ?_
                    refine z_iload_n dX8_judge_149 rfl ?_
                    refine z_icmp_le dX8_judge_150 (tgt := 157) rfl ⟨by omega, by omega⟩ ⟨by omega, by omega⟩ (fun c8 => ?_) (fun c8 => ?_)
                    · skip
                      refine z_iconst dX8_judge_157 ?_
                      exact z_iret F dX8_judge_158 rfl (by decide) ⟨fun q => absurd ⟨cd, csb, by omega, by omega⟩ q, fun _ => ⟨fun q => absurd ham q, fun _ => ⟨fun q => absurd q (by omega), fun _ => ⟨congrArg (fun z => some (z_i z)) (by rw [q2]; show _ = (if (zF Nw wk.toNat : Int) > n9 then n9 else -1); first | rw [if_pos (by omega)] | rw [if_neg (by omega)]), rfl⟩⟩⟩⟩
                    · skip
                      refine z_iload_n dX8_judge_153 rfl ?_
                      refine z_goto dX8_judge_154 (tgt := 158) rfl ?_
                      exact z_iret F dX8_judge_158 rfl (by decide) ⟨fun q => absurd ⟨cd, csb, by omega, by omega⟩ q, fun _ => ⟨fun q => absurd ham q, fun _ => ⟨fun q => absurd q (by omega), fun _ => ⟨congrArg (fun z => some (z_i z)) (by rw [q2]; show _ = (if (zF Nw wk.toNat : Int) > n9 then n9 else -1); first | rw [if_pos (by omega)] | rw [if_neg (by omega)]), rfl⟩⟩⟩⟩
                  · skip
                    obtain ⟨r2, rfl⟩ : ∃ y, r = y + 1 := ⟨r - 1, by omega⟩
                    refine z_aload dX8_judge_97 rfl ?_
                    refine gf_X8_96 dX8_judge_99 d0 rfl ?_
                    refine z_iload dX8_judge_102 rfl ?_
                    refine cs_X8_102 dX8_judge_104 (D_X7_hasPlace st (i := (x : Int)) ⟨by omega, by omega⟩) d1 rfl rfl (Nat.le_of_ble_eq_true rfl) (by decide) (z_ki ?_)
                    refine z_if_eq dX8_judge_107 (tgt := 132) rfl (by first | exact ⟨by omega, by omega⟩ | exact ⟨by split <;> omega, by split <;> omega⟩) (fun c9 => ?_) (fun c9 => ?_)
                    · skip
                      refine z_iload dX8_judge_132 rfl ?_
                      exact z_iret F dX8_judge_134 rfl (by decide) ⟨fun q => absurd ⟨cd, csb, by omega, by omega⟩ q, fun _ => ⟨fun q => absurd ham q, fun _ => ⟨fun q => absurd q (by omega), fun _ => ⟨congrArg (fun z => some (z_i z)) (by rw [q2]; exact (if_pos (by first | exact Or.inl (by omega) | exact Or.inr c9)).symm), rfl⟩⟩⟩⟩
                    · skip
                      refine z_aload dX8_judge_110 rfl ?_
                      refine z_iload dX8_judge_112 rfl ?_
                      refine cs_X8_85 dX8_judge_114 (D_X5_elementAt bst (i := (x : Int)) ⟨by omega, by omega⟩) bst.1 rfl rfl (Nat.le_of_ble_eq_true rfl) (by decide) (z_kl ?_)
                      have hx40 : x < 40 := by omega
                      refine z_leq (y := Im (40 * si.toNat + x)) (by have := amI_v bhsw.1; rw [if_pos ⟨by omega, by omega, by omega⟩, Int.toNat_natCast]; exact bse x hx40) ?_
                      refine z_aload dX8_judge_117 rfl ?_
                      refine gf_X8_96 dX8_judge_119 d0 rfl ?_
                      refine z_iload dX8_judge_122 rfl ?_
                      refine cs_X8_107 dX8_judge_124 (D_X7_kindAt st (i := (x : Int)) ⟨by omega, by omega⟩) d1 rfl rfl (Nat.le_of_ble_eq_true rfl) (by decide) (z_ki ?_)
                      have hkx := hR.1.2.2.2 x (by omega)
                      refine z_ieq (y := kR Nw wk.toNat x) (by rw [if_pos ⟨by omega, by omega⟩, Int.toNat_natCast]; exact hc4 x (by omega)) ?_
                      refine z_i2l dX8_judge_127 ⟨by omega, by omega⟩ ?_
                      refine z_lcmp dX8_judge_128 (him _ (by omega)) ⟨by omega, by omega⟩ ?_
                      refine z_if_eq dX8_judge_129 (tgt := 135) rfl (z_cmpin _ _) (fun c10 => ?_) (fun c10 => ?_)
                      · have c10 : (Im (40 * si.toNat + x)) = (kR Nw wk.toNat x) := z_cmp_eq c10
                        refine z_iinc dX8_judge_135 rfl rfl ?_
                        refine z_goto dX8_judge_138 (tgt := 91) rfl ?_
                        exact ih (x + 1) r2 (by omega) (by rw [q2]; exact if_neg (fun q => by rcases q with q | q; (exact absurd q (by omega)); (exact q c10))) (by omega)
                      · have c10 : (Im (40 * si.toNat + x)) ≠ (kR Nw wk.toNat x) := z_cmp_neq c10
                        refine z_iload dX8_judge_132 rfl ?_
                        exact z_iret F dX8_judge_134 rfl (by decide) ⟨fun q => absurd ⟨cd, csb, by omega, by omega⟩ q, fun _ => ⟨fun q => absurd ham q, fun _ => ⟨fun q => absurd q (by omega), fun _ => ⟨congrArg (fun z => some (z_i z)) (by rw [q2]; exact (if_pos (by first | exact Or.inl (by omega) | exact Or.inr c10)).symm), rfl⟩⟩⟩⟩
              exact L4 (n9.toNat + 1) 0 n9.toNat (by omega) rfl (by omega)
            · skip
              refine z_aload_n dX8_judge_81 rfl ?_
              refine z_bipush dX8_judge_82 rfl ?_
              refine cs_X8_55 dX8_judge_84 (D_X8_ref0 hI hw) w0 rfl rfl (Nat.le_of_ble_eq_true rfl) (by decide) (z_ki ?_)
              exact z_iret F dX8_judge_87 rfl (by decide) ⟨fun q => absurd ⟨cd, csb, by omega, by omega⟩ q, fun _ => ⟨fun q => absurd ham q, fun _ => ⟨fun _ => ⟨rfl, rfl⟩, fun q => absurd (by omega) q⟩⟩⟩
          · skip
            refine z_aload_n dX8_judge_52 rfl ?_
            refine z_aload dX8_judge_53 rfl ?_
            refine cs_X8_67 dX8_judge_55 (D_X5_isBare bst) bst.1 rfl rfl (Nat.le_of_ble_eq_true rfl) (by decide) (z_ki ?_)
            refine z_if_eq dX8_judge_58 (tgt := 66) rfl (by first | exact ⟨by omega, by omega⟩ | exact ⟨by split <;> omega, by split <;> omega⟩) (fun c11 => ?_) (fun c11 => ?_)
            · skip
              refine z_bipush dX8_judge_66 rfl ?_
              refine cs_X8_55 dX8_judge_68 (D_X8_ref1 hI hw) w0 rfl rfl (Nat.le_of_ble_eq_true rfl) (by decide) (z_ki ?_)
              have hb9 : amI (Ho si.toNat) = -93 := by have := amI_v bhsw.1; omega
              exact z_iret F dX8_judge_71 rfl (by decide) ⟨fun q => absurd ⟨cd, csb, by omega, by omega⟩ q, fun _ => ⟨fun _ => ⟨by rw [hb9], by rw [hb9]; rfl⟩, fun q => absurd (hb9.symm.trans q) (by decide)⟩⟩
            · skip
              refine z_bipush dX8_judge_61 rfl ?_
              refine z_goto dX8_judge_63 (tgt := 68) rfl ?_
              refine cs_X8_55 dX8_judge_68 (D_X8_ref2 hI hw) w0 rfl rfl (Nat.le_of_ble_eq_true rfl) (by decide) (z_ki ?_)
              have hb9 : amI (Ho si.toNat) = -94 := by have := amI_v bhsw.1; omega
              exact z_iret F dX8_judge_71 rfl (by decide) ⟨fun q => absurd ⟨cd, csb, by omega, by omega⟩ q, fun _ => ⟨fun _ => ⟨by rw [hb9], by rw [hb9]; rfl⟩, fun q => absurd (hb9.symm.trans q) (by decide)⟩⟩
        · skip
          refine z_aload_n dX8_judge_37 rfl ?_
          refine z_bipush dX8_judge_38 rfl ?_
          refine cs_X8_55 dX8_judge_40 (D_X8_ref0 hI hw) w0 rfl rfl (Nat.le_of_ble_eq_true rfl) (by decide) (z_ki ?_)
          exact z_iret F dX8_judge_43 rfl (by decide) ⟨fun _ => ⟨rfl, rfl⟩, fun q => absurd q (fun q => by first | exact cd q.1 | exact csb q.2.1 | (have h1 := q.2.2; omega))⟩
    · skip
      refine cs_X8_47 dX8_judge_12 (D_X8_shelfAt hI hw (j := si) ⟨by omega, by omega⟩) w0 rfl rfl (Nat.le_of_ble_eq_true rfl) (by decide) (fun rv h' hq => ?_)
      obtain ⟨rfl, hq2⟩ := hq
      refine z_heq hq2 ?_
      rw [if_neg (show ¬ (0 ≤ si ∧ si ≤ 7) from csb)]
      refine z_ks ?_
      refine z_astore dX8_judge_15 (Nat.le_of_ble_eq_true rfl) rfl ?_
      refine z_aload dX8_judge_17 rfl ?_
      refine z_ifnull dX8_judge_19 (tgt := 37) rfl (fun c12 => by cases c12) (fun _ _ => ?_)
      refine z_aload dX8_judge_22 rfl ?_
      refine z_ifnull dX8_judge_24 (tgt := 37) rfl (fun _ => ?_) (fun _ c13 => by cases c13)
      refine z_aload_n dX8_judge_37 rfl ?_
      refine z_bipush dX8_judge_38 rfl ?_
      refine cs_X8_55 dX8_judge_40 (D_X8_ref0 hI hw) w0 rfl rfl (Nat.le_of_ble_eq_true rfl) (by decide) (z_ki ?_)
      exact z_iret F dX8_judge_43 rfl (by decide) ⟨fun _ => ⟨rfl, rfl⟩, fun q => absurd q (fun q => by first | exact cd q.1 | exact csb q.2.1 | (have h1 := q.2.2; omega))⟩
  · skip
    refine cs_X8_92 dX8_judge_5 (D_X6_doneAt hs (i := wk) ⟨by omega, by omega⟩) e0 rfl rfl (Nat.le_of_ble_eq_true rfl) (by decide) (fun rv h' hq => ?_)
    obtain ⟨rfl, hq2⟩ := hq
    refine z_heq hq2 ?_
    rw [if_neg (show ¬ (0 ≤ wk ∧ wk < Nw 5025) from cd)]
    refine z_ks ?_
    refine z_astore dX8_judge_8 (Nat.le_of_ble_eq_true rfl) rfl ?_
    refine z_aload_n dX8_judge_10 rfl ?_
    refine z_iload_n dX8_judge_11 rfl ?_
    by_cases csb : isS si
    · skip
      refine cs_X8_47 dX8_judge_12 (D_X8_shelfAt hI hw (j := si) ⟨by omega, by omega⟩) w0 rfl rfl (Nat.le_of_ble_eq_true rfl) (by decide) (fun rv h' hq => ?_)
      obtain ⟨rfl, hq2⟩ := hq
      refine z_heq hq2 ?_
      obtain ⟨bsz, bff, bst, bss, bse⟩ := ws si.toNat (by omega)
      have bhsw := hhs si.toNat (by omega)
      rw [if_pos (show 0 ≤ si ∧ si ≤ 7 from csb)]
      refine z_ks ?_
      refine z_astore dX8_judge_15 (Nat.le_of_ble_eq_true rfl) rfl ?_
      refine z_aload dX8_judge_17 rfl ?_
      refine z_ifnull dX8_judge_19 (tgt := 37) rfl (fun _ => ?_) (fun _ c14 => by cases c14)
      refine z_aload_n dX8_judge_37 rfl ?_
      refine z_bipush dX8_judge_38 rfl ?_
      refine cs_X8_55 dX8_judge_40 (D_X8_ref0 hI hw) w0 rfl rfl (Nat.le_of_ble_eq_true rfl) (by decide) (z_ki ?_)
      exact z_iret F dX8_judge_43 rfl (by decide) ⟨fun _ => ⟨rfl, rfl⟩, fun q => absurd q (fun q => by first | exact cd q.1 | exact csb q.2.1 | (have h1 := q.2.2; omega))⟩
    · skip
      refine cs_X8_47 dX8_judge_12 (D_X8_shelfAt hI hw (j := si) ⟨by omega, by omega⟩) w0 rfl rfl (Nat.le_of_ble_eq_true rfl) (by decide) (fun rv h' hq => ?_)
      obtain ⟨rfl, hq2⟩ := hq
      refine z_heq hq2 ?_
      rw [if_neg (show ¬ (0 ≤ si ∧ si ≤ 7) from csb)]
      refine z_ks ?_
      refine z_astore dX8_judge_15 (Nat.le_of_ble_eq_true rfl) rfl ?_
      refine z_aload dX8_judge_17 rfl ?_
      refine z_ifnull dX8_judge_19 (tgt := 37) rfl (fun _ => ?_) (fun _ c15 => by cases c15)
      refine z_aload_n dX8_judge_37 rfl ?_
      refine z_bipush dX8_judge_38 rfl ?_
      refine cs_X8_55 dX8_judge_40 (D_X8_ref0 hI hw) w0 rfl rfl (Nat.le_of_ble_eq_true rfl) (by decide) (z_ki ?_)
      exact z_iret F dX8_judge_43 rfl (by decide) ⟨fun _ => ⟨rfl, rfl⟩, fun q => absurd q (fun q => by first | exact cd q.1 | exact csb q.2.1 | (have h1 := q.2.2; omega))⟩
