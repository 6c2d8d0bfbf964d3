/-! the state stays as it must be -/
theorem nL_ag {N N' : z_row} {i : Nat} {G : z_G4} (h : ∀ k, k < 251 → N' (251 * i + k) = N (251 * i + k)) (hL : nL N i G) : nL N' i G := by
  obtain ⟨⟨h1, h2⟩, h3, h4, h5, h6, h7⟩ := hL
  have e0 : N' (251 * i) = N (251 * i) := h 0 (by omega)
  have eF : nF N' i = nF N i := by unfold nF; rw [e0]
  have eT : ∀ k, k < nF N i → tL N' i k = tL N i k := fun k hk => by
    have := h (1 + k) (by omega)
    rw [← Nat.add_assoc] at this
    exact this
  have eR : rdZ N' i = rdZ N i := by
    unfold rdZ
    rw [eF]
    exact rdS_tx eT _ _ _
  refine ⟨by rw [eF, e0]; exact ⟨h1, h2⟩, fun k hk => ?_, ?_, by rw [eR]; exact h5, by rw [eR, eF]; exact h6, by rw [eR]; exact h7⟩
  · rw [eF] at hk
    rw [eT k hk]
    exact h3 k hk
  · unfold sgG
    rw [eF]
    exact sgP_tx eT _ _ _ _ _ h4
theorem nR_ag {N N' : z_row} {w : Nat} (h : ∀ k, k < 204 → N' (5026 + 204 * w + k) = N (5026 + 204 * w + k)) (hc : sG kM (kR N w) (zF N w) = (if (w : Int) + 1 = N' 5025 then N' 5023 else N' (5026 + 204 * (w + 1) + 3))) (hR : nR N w) : nR N' w := by
  obtain ⟨⟨a1, a2, a3, a4⟩, h2, h3, h4, h5, h6, h7⟩ := hR
  have eF : zF N' w = zF N w := by unfold zF; rw [h 2 (by omega)]
  have e0 : N' (5026 + 204 * w) = N (5026 + 204 * w) := h 0 (by omega)
  have eK : ∀ j, j < zF N w → kR N' w j = kR N w j := fun j hj => by
    have := h (4 + j) (by omega)
    rw [← Nat.add_assoc] at this
    exact this
  have eS : ∀ t, sG t (kR N' w) (zF N w) = sG t (kR N w) (zF N w) := fun t => sG_ag _ eK
  refine ⟨⟨a1, ?_, by rw [eF]; exact a3, fun j hj => ?_⟩, by rw [e0]; exact h2, by rw [h 1 (by omega)]; exact h3, by rw [eF, eS, h 3 (by omega)]; exact h4, by rw [eF, eS]; exact h5, by rw [eF, eS]; exact h6, by rw [eF, eS]; exact hc⟩
  · rw [h 2 (by omega), eF]
    exact a2
  · rw [eF] at hj
    rw [eK j hj]
    exact a4 j hj
theorem nWf_ag {N N' : z_row} {G : Nat → z_G4} (h : ∀ k, k < 15226 → N' k = N k) (hw : nWf N G) : nWf N' G := by
  obtain ⟨w1, w2, w3, w4, w5, w6, w7⟩ := hw
  have e0 := h 5020 (by decide)
  have e1 := h 5021 (by decide)
  have e2 := h 5022 (by decide)
  have e3 := h 5023 (by decide)
  have e5 := h 5025 (by decide)
  refine ⟨by rw [e0]; exact w1, by rw [e1]; exact w2, by rw [e2]; exact w3, by rw [e3]; exact w4, by rw [e5]; exact w5, fun i hi => ?_, fun w hw => ?_⟩
  · rw [e0] at hi
    exact nL_ag (fun k hk => h _ (by omega)) (w6 i hi)
  · rw [e5] at hw
    have hR := w7 w hw
    refine nR_ag (fun k hk => h _ (by omega)) ?_ hR
    rw [hR.2.2.2.2.2.2, e5, e3]
    by_cases c : (w : Int) + 1 = N 5025
    · rw [if_pos c, if_pos c]
    · rw [if_neg c, if_neg c, h _ (by omega)]
section ZDN
variable {N : z_row} {i m : Int} {f : z_row} {z M : Nat} (hM : N 5025 = (M : Int))
theorem dn_b (hM : N 5025 = (M : Int)) : (N 5025).toNat = M := by omega
theorem dn_22 : dnN N i f z m 5022 = if N 5021 = 0 then 1 - N 5022 else N 5022 := z_sf_s
theorem dn_23 : dnN N i f z m 5023 = m := by
  unfold dnN
  rw [z_sf_n (by decide), z_sf_s]
theorem dn_25 : dnN N i f z m 5025 = N 5025 + 1 := by
  unfold dnN
  rw [z_sf_n (by decide), z_sf_n (by decide), z_sf_s]
theorem dn_lo {k : Nat} (hM : N 5025 = (M : Int)) (h1 : k < 5026 + 204 * M) (h2 : k ≠ 5022) (h3 : k ≠ 5023) (h5 : k ≠ 5025) : dnN N i f z m k = N k := by
  unfold dnN
  rw [z_sf_n h2, z_sf_n h3, z_sf_n h5]
  unfold cpA
  rw [if_neg (by omega), z_sf_n (by omega), z_sf_n (by omega), z_sf_n (by omega), z_sf_n (by omega)]
theorem dn_r0 (hM : N 5025 = (M : Int)) : dnN N i f z m (5026 + 204 * M) = N 5022 := by
  unfold dnN
  rw [z_sf_n (by omega), z_sf_n (by omega), z_sf_n (by omega), dn_b hM]
  unfold cpA
  rw [if_neg (by omega), z_sf_n (by omega), z_sf_n (by omega), z_sf_n (by omega), z_sf_s]
theorem dn_r1 (hM : N 5025 = (M : Int)) : dnN N i f z m (5026 + 204 * M + 1) = i := by
  unfold dnN
  rw [z_sf_n (by omega), z_sf_n (by omega), z_sf_n (by omega), dn_b hM]
  unfold cpA
  rw [if_neg (by omega), z_sf_n (by omega), z_sf_n (by omega), z_sf_s]
theorem dn_r2 (hM : N 5025 = (M : Int)) : dnN N i f z m (5026 + 204 * M + 2) = (z : Int) := by
  unfold dnN
  rw [z_sf_n (by omega), z_sf_n (by omega), z_sf_n (by omega), dn_b hM]
  unfold cpA
  rw [if_neg (by omega), z_sf_n (by omega), z_sf_s]
theorem dn_r3 (hM : N 5025 = (M : Int)) : dnN N i f z m (5026 + 204 * M + 3) = N 5023 := by
  unfold dnN
  rw [z_sf_n (by omega), z_sf_n (by omega), z_sf_n (by omega), dn_b hM]
  unfold cpA
  rw [if_neg (by omega), z_sf_s]
theorem dn_r4 {j : Nat} (hM : N 5025 = (M : Int)) (hj : j < z) : dnN N i f z m (5026 + 204 * M + 4 + j) = f j := by
  unfold dnN
  rw [z_sf_n (by omega), z_sf_n (by omega), z_sf_n (by omega), dn_b hM]
  unfold cpA
  rw [if_pos (by omega)]
  congr 1
  omega
end ZDN
theorem nWf_dn {N : z_row} {G : Nat → z_G4} {i m : Int} {f : z_row} {z : Nat} (hw : nWf N G) (hM : N 5025 < 50) (hi : z_in i) (hz : z ≤ 200) (hk : ∀ j, j < z → kOk (f j)) (hT : sG kT f z = N 5023) (hm : m = sG kM f z) (hm6 : 0 ≤ m ∧ m ≤ 60) : nWf (dnN N i f z m) G := by
  obtain ⟨w1, w2, w3, w4, w5, w6, w7⟩ := hw
  obtain ⟨M, h5⟩ : ∃ M : Nat, N 5025 = (M : Int) := ⟨(N 5025).toNat, by omega⟩
  have e0 : dnN N i f z m 5020 = N 5020 := dn_lo h5 (by omega) (by decide) (by decide) (by decide)
  have e1 : dnN N i f z m 5021 = N 5021 := dn_lo h5 (by omega) (by decide) (by decide) (by decide)
  refine ⟨by rw [e0]; exact w1, by rw [e1]; exact w2, ?_, by rw [dn_23]; exact hm6, by rw [dn_25]; omega, fun j hj => ?_, fun w hw => ?_⟩
  · rw [dn_22]
    split <;> omega
  · rw [e0] at hj
    exact nL_ag (fun k hk => dn_lo h5 (by omega) (by omega) (by omega) (by omega)) (w6 j hj)
  · rw [dn_25] at hw
    rcases (show w < M ∨ w = M by omega) with c | c
    · have hR := w7 w (by omega)
      refine nR_ag (fun k hk => dn_lo h5 (by omega) (by omega) (by omega) (by omega)) ?_ hR
      rw [hR.2.2.2.2.2.2, dn_25, dn_23, if_neg (show ¬ (w : Int) + 1 = N 5025 + 1 by omega)]
      by_cases c2 : (w : Int) + 1 = N 5025
      · rw [if_pos c2]
        obtain rfl : M = w + 1 := by omega
        exact (dn_r3 h5).symm
      · rw [if_neg c2]
        exact (dn_lo h5 (by omega) (by omega) (by omega) (by omega)).symm
    · subst c
      have eF : zF (dnN N i f z m) w = z := by
        unfold zF
        rw [dn_r2 h5]
        exact Int.toNat_natCast z
      have eK : ∀ j, j < z → kR (dnN N i f z m) w j = f j := fun j hj => dn_r4 h5 hj
      have eS : ∀ t, sG t (kR (dnN N i f z m) w) z = sG t f z := fun t => sG_ag _ eK
      refine ⟨⟨by omega, by rw [dn_r2 h5, eF], by rw [eF]; exact hz, fun j hj => ?_⟩, by rw [dn_r0 h5]; exact w3, by rw [dn_r1 h5]; exact hi, by rw [eF, eS, dn_r3 h5]; exact hT, by rw [eF, eS]; omega, by rw [eF, eS]; omega, ?_⟩
      · rw [eF] at hj
        rw [eK j hj]
        exact hk j hj
      · rw [eF, eS, dn_25, dn_23, if_pos (by omega)]
        exact hm.symm
/-- only what stands in the state's own places is changed -/
theorem nWf_c {N N' : z_row} {G : Nat → z_G4} (hw : nWf N G) (h : ∀ k, (k < 5020 ∨ 5026 ≤ k) → N' k = N k) (h0 : 0 ≤ N' 5020 ∧ N' 5020 ≤ N 5020) (h1 : N' 5021 = 0 ∨ N' 5021 = 1) (h2 : N' 5022 = 0 ∨ N' 5022 = 1) (h3 : 0 ≤ N' 5023 ∧ N' 5023 ≤ 60) (h5 : 0 ≤ N' 5025 ∧ N' 5025 ≤ N 5025) (hc : ∀ w : Nat, (w : Int) + 1 = N' 5025 → sG kM (kR N w) (zF N w) = N' 5023) : nWf N' G := by
  obtain ⟨w1, w2, w3, w4, w5, w6, w7⟩ := hw
  refine ⟨by omega, h1, h2, h3, by omega, fun i hi => nL_ag (fun k hk => h _ (by omega)) (w6 i (by omega)), fun w hw => ?_⟩
  have hR := w7 w (by omega)
  refine nR_ag (fun k hk => h _ (by omega)) ?_ hR
  by_cases c : (w : Int) + 1 = N' 5025
  · rw [if_pos c]
    exact hc w c
  · rw [if_neg c, hR.2.2.2.2.2.2, if_neg (by omega)]
    exact (h _ (by omega)).symm
theorem nWf_seed {N : z_row} {G : Nat → z_G4} {v : Int} (hw : nWf N G) : nWf (z_sf N 5024 v) G := by
  have e : ∀ k, k ≠ 5024 → z_sf N 5024 v k = N k := fun k hk => z_sf_n hk
  obtain ⟨w1, w2, w3, w4, w5, w6, w7⟩ := id hw
  refine nWf_c hw (fun k hk => e k (by omega)) ?_ ?_ ?_ ?_ ?_ ?_
  · rw [e _ (by decide)]; omega
  · rw [e _ (by decide)]; exact w2
  · rw [e _ (by decide)]; exact w3
  · rw [e _ (by decide)]; exact w4
  · rw [e _ (by decide)]; omega
  · intro w hw
    rw [e _ (by decide)] at hw
    rw [e _ (by decide), (w7 w (by omega)).2.2.2.2.2.2, if_pos hw]
theorem nWf_drop {N : z_row} {G : Nat → z_G4} (hw : nWf N G) (h0 : N 5020 ≠ 0) : nWf (z_sf N 5020 (N 5020 - 1)) G := by
  have e : ∀ k, k ≠ 5020 → z_sf N 5020 (N 5020 - 1) k = N k := fun k hk => z_sf_n hk
  obtain ⟨w1, w2, w3, w4, w5, w6, w7⟩ := id hw
  refine nWf_c hw (fun k hk => e k (by omega)) ?_ ?_ ?_ ?_ ?_ ?_
  · rw [z_sf_s]; omega
  · rw [e _ (by decide)]; exact w2
  · rw [e _ (by decide)]; exact w3
  · rw [e _ (by decide)]; exact w4
  · rw [e _ (by decide)]; omega
  · intro w hw
    rw [e _ (by decide)] at hw
    rw [e _ (by decide), (w7 w (by omega)).2.2.2.2.2.2, if_pos hw]
theorem nWf_mode {N : z_row} {G : Nat → z_G4} {v : Int} (hw : nWf N G) (hv : v = 0 ∨ v = 1) : nWf (z_sf N 5021 v) G := by
  have e : ∀ k, k ≠ 5021 → z_sf N 5021 v k = N k := fun k hk => z_sf_n hk
  obtain ⟨w1, w2, w3, w4, w5, w6, w7⟩ := id hw
  refine nWf_c hw (fun k hk => e k (by omega)) ?_ ?_ ?_ ?_ ?_ ?_
  · rw [e _ (by decide)]; omega
  · rw [z_sf_s]; exact hv
  · rw [e _ (by decide)]; exact w3
  · rw [e _ (by decide)]; exact w4
  · rw [e _ (by decide)]; omega
  · intro w hw
    rw [e _ (by decide)] at hw
    rw [e _ (by decide), (w7 w (by omega)).2.2.2.2.2.2, if_pos hw]
theorem nWf_cast {N : z_row} {G : Nat → z_G4} {v : Int} (hw : nWf N G) (hv : 0 ≤ v ∧ v ≤ 60) (h5 : N 5025 = 0) : nWf (z_sf (z_sf N 5023 v) 5022 0) G := by
  have e : ∀ k, k ≠ 5022 → k ≠ 5023 → z_sf (z_sf N 5023 v) 5022 0 k = N k := fun k hk hk2 => by rw [z_sf_n hk, z_sf_n hk2]
  obtain ⟨w1, w2, w3, w4, w5, w6, w7⟩ := id hw
  refine nWf_c hw (fun k hk => e k (by omega) (by omega)) ?_ ?_ ?_ ?_ ?_ ?_
  · rw [e _ (by decide) (by decide)]; omega
  · rw [e _ (by decide) (by decide)]; exact w2
  · rw [z_sf_s]; exact Or.inl rfl
  · rw [z_sf_n (by decide), z_sf_s]; exact hv
  · rw [e _ (by decide) (by decide)]; omega
  · intro w hw
    rw [e _ (by decide) (by decide)] at hw
    omega
theorem nWf_rp {N : z_row} {G : Nat → z_G4} {m : Nat} (hw : nWf N G) (hm : (m : Int) < N 5025) : nWf (rpN N m) G := by
  obtain ⟨w1, w2, w3, w4, w5, w6, w7⟩ := id hw
  have e : ∀ k, k ≠ 5022 → k ≠ 5023 → k ≠ 5025 → rpN N m k = N k := fun k h1 h2 h3 => by unfold rpN; rw [z_sf_n h1, z_sf_n h2, z_sf_n h3]
  have hR := w7 m hm
  have e2 : rpN N m 5022 = N (5026 + 204 * m) := z_sf_s
  have e3 : rpN N m 5023 = N (5026 + 204 * m + 3) := by unfold rpN; rw [z_sf_n (by decide), z_sf_s]
  have e5 : rpN N m 5025 = (m : Int) := by unfold rpN; rw [z_sf_n (by decide), z_sf_n (by decide), z_sf_s]
  have h0 := sG_0 kT_0 (f := kR N m) (m := zF N m)
  have h4 := hR.2.2.2.1
  have h6 := hR.2.2.2.2.1
  refine nWf_c hw (fun k hk => e k (by omega) (by omega) (by omega)) ?_ ?_ ?_ ?_ ?_ ?_
  · rw [e _ (by decide) (by decide) (by decide)]; omega
  · rw [e _ (by decide) (by decide) (by decide)]; exact w2
  · rw [e2]; exact hR.2.1
  · rw [e3]; omega
  · rw [e5]; omega
  · intro w hw
    rw [e5] at hw
    obtain rfl : m = w + 1 := by omega
    rw [e3, (w7 w (by omega)).2.2.2.2.2.2, if_neg (by omega)]
theorem nWf_ln {N : z_row} {G : Nat → z_G4} {n : Nat} {t : z_row} {g4 : z_G4} (hw : nWf N G) (h20 : N 5020 < 20) (hn : n ≤ 250) (ht : ∀ k, k < n → 0 ≤ t k ∧ t k ≤ 255) (hG : sgG n t g4) (hr : (rdS n t (n + 1) 0 (0, 0, 0, 0)).1 = true ∧ (rdS n t (n + 1) 0 (0, 0, 0, 0)).2.1 = n ∧ (rdS n t (n + 1) 0 (0, 0, 0, 0)).2.2.1 = g4.2.2.2.2) :
    nWf (lnN N n t) (fun i => if i = (N 5020).toNat then g4 else G i) := by
  obtain ⟨w1, w2, w3, w4, w5, w6, w7⟩ := id hw
  obtain ⟨I, hI⟩ : ∃ I : Nat, N 5020 = (I : Int) := ⟨(N 5020).toNat, by omega⟩
  have hI2 : (N 5020).toNat = I := by omega
  have e20 : lnN N n t 5020 = N 5020 + 1 := z_sf_s
  have eh : ∀ k, (k < 251 * I ∨ 251 * I + 251 ≤ k) → k ≠ 5020 → lnN N n t k = N k := fun k h1 h2 => by
    unfold lnN cpA
    rw [z_sf_n h2, hI2, if_neg (by omega), z_sf_n (by omega)]
  have ez : lnN N n t (251 * I) = (n : Int) := by
    unfold lnN cpA
    rw [z_sf_n (by omega), hI2, if_neg (by omega), z_sf_s]
  have et : ∀ k, k < n → lnN N n t (251 * I + 1 + k) = t k := fun k hk => by
    unfold lnN cpA
    rw [z_sf_n (by omega), hI2, if_pos (by omega)]
    congr 1
    omega
  refine ⟨by rw [e20]; omega, by rw [eh _ (by omega) (by decide)]; exact w2, by rw [eh _ (by omega) (by decide)]; exact w3, by rw [eh _ (by omega) (by decide)]; exact w4, by rw [eh _ (by omega) (by decide)]; exact w5, fun i hi => ?_, fun w hw => ?_⟩
  · rw [e20] at hi
    show nL (lnN N n t) i (if i = (N 5020).toNat then g4 else G i)
    rw [hI2]
    by_cases c : i = I
    · subst c
      rw [if_pos rfl]
      have eF : nF (lnN N n t) i = n := by unfold nF; rw [ez]; exact Int.toNat_natCast n
      have eT : ∀ k, k < n → tL (lnN N n t) i k = t k := fun k hk => et k hk
      have eR : rdZ (lnN N n t) i = rdS n t (n + 1) 0 (0, 0, 0, 0) := by
        unfold rdZ
        rw [eF]
        exact rdS_tx eT _ _ _
      refine ⟨by rw [eF, ez]; exact ⟨hn, rfl⟩, fun k hk => ?_, ?_, by rw [eR]; exact hr.1, by rw [eR, eF]; exact hr.2.1, by rw [eR]; exact hr.2.2⟩
      · rw [eF] at hk
        rw [eT k hk]
        exact ht k hk
      · unfold sgG
        rw [eF]
        exact sgP_tx eT _ _ _ _ _ hG
    · rw [if_neg c]
      exact nL_ag (fun k hk => eh _ (by omega) (by omega)) (w6 i (by omega))
  · rw [eh _ (by omega) (by decide)] at hw
    have hR := w7 w hw
    refine nR_ag (fun k hk => eh _ (by omega) (by omega)) ?_ hR
    rw [hR.2.2.2.2.2.2, eh _ (by omega) (by decide), eh _ (by omega) (by decide), eh _ (by omega) (by omega)]
theorem lnN_ag {N : z_row} {n : Nat} {t u : z_row} (h : ∀ j, j < n → u j = t j) : lnN N n u = lnN N n t := by
  unfold lnN
  rw [cpA_ag h]
