/-! the law: its start -/
def z_N0 : z_row := z_sf (fun _ => 0) 5024 1
theorem z_N0e (k : Nat) (hk : k ≠ 5024) : z_N0 k = 0 := z_sf_n hk
theorem z_N0w (G : Nat → z_G4) : nWf z_N0 G := by
  refine ⟨?_, ?_, ?_, ?_, ?_, fun i hi => ?_, fun w hw => ?_⟩
  · rw [z_N0e 5020 (by decide)]; decide
  · exact Or.inl (z_N0e 5021 (by decide))
  · exact Or.inl (z_N0e 5022 (by decide))
  · rw [z_N0e 5023 (by decide)]; decide
  · rw [z_N0e 5025 (by decide)]; decide
  · rw [z_N0e 5020 (by decide)] at hi; omega
  · rw [z_N0e 5025 (by decide)] at hw; omega
theorem prm_lt {t : Nat} (h : t < 333) : prm t < 333 := by
  unfold prm
  split
  · decide
  · split <;> omega
theorem prm_in {i j : Nat} (hi : i < 333) (hj : j < 333) (e : prm i = prm j) : i = j := by
  unfold prm at e
  by_cases a1 : i = 0
  · rw [if_pos a1] at e
    by_cases b1 : j = 0
    · omega
    · rw [if_neg b1] at e
      by_cases b2 : j < 27
      · rw [if_pos b2] at e; omega
      · rw [if_neg b2] at e; omega
  · rw [if_neg a1] at e
    by_cases a2 : i < 27
    · rw [if_pos a2] at e
      by_cases b1 : j = 0
      · rw [if_pos b1] at e; omega
      · rw [if_neg b1] at e
        by_cases b2 : j < 27
        · rw [if_pos b2] at e; omega
        · rw [if_neg b2] at e; omega
    · rw [if_neg a2] at e
      by_cases b1 : j = 0
      · rw [if_pos b1] at e; omega
      · rw [if_neg b1] at e
        by_cases b2 : j < 27
        · rw [if_pos b2] at e; omega
        · rw [if_neg b2] at e; omega
theorem w_made {b a : Nat} {h0 h1 h2 : z_H} {al A : Nat → Nat} {Ho : z_row} {E : z_C} (hAL : AL b h0 h1 al 333) (hcW : ∀ (ad : Nat → Nat) (Th Lk Ho Sz : z_row) (G Gt : Nat → z_G4), (∀ t, t < 333 → ad t = al (prm t)) → (∀ s, s < 8 → Ho s = -1) → cW h1 ad (fun _ => 0) z_N0 Th (fun _ => 0) Lk Ho Sz (fun _ => 0) 0 0 0 G Gt) (ha : h1 a = none) (hA0 : A 0 = a) (hMD : mD A) (hA1 : ∀ j, 1 ≤ j → j < 14 → (z_up h1 a E) (A j) = none) (hHo : ∀ s, s < 8 → Ho s = -1) (e : h2 = MH (z_up h1 a E) A (fun _ => 0) z_N0 (fun _ => 0) (fun _ => 0) (fun _ => 0) (fun _ => 0) (fun _ => 0) (fun _ => 0) (fun _ => 0) Ho (fun _ => 0) (fun _ => 0) (fun _ => 0) 0 0 0 0 0 0 0 0 0 0 0 0 0 0 0) : ∃ ad, aJ ad ∧ ad 0 = b ∧ lA ad 0 = a ∧ lI h2 ad := by
  obtain ⟨ad, hlo, hhi⟩ : ∃ ad : Nat → Nat, (∀ t, t < 333 → ad t = al (prm t)) ∧ (∀ t, ad (333 + t) = A t) := ⟨fun t => if t < 333 then al (prm t) else A (t - 333), fun t ht => if_pos ht, fun t => by
    show (if 333 + t < 333 then al (prm (333 + t)) else A (333 + t - 333)) = A t
    rw [if_neg (by omega), show 333 + t - 333 = t by omega]⟩
  have hlA : lA ad = A := funext hhi
  obtain ⟨a1, a2, a3, a4, a5⟩ := hAL
  have hAn : ∀ j, j < 14 → h1 (A j) = none := fun j hj => by
    by_cases c : j = 0
    · rw [c, hA0]; exact ha
    · have q := hA1 j (by omega) hj
      have ne : A j ≠ a := by rw [← hA0]; exact hMD.ne hj (by decide) c
      rw [z_up_n ne] at q
      exact q
  have hI : aJ ad := fun i j hi hj q => by
    by_cases c : i < 333
    · by_cases d : j < 333
      · rw [hlo i c, hlo j d] at q
        exact prm_in c d (a2 _ _ (prm_lt c) (prm_lt d) q)
      · obtain ⟨j', rfl⟩ : ∃ j', j = 333 + j' := ⟨j - 333, by omega⟩
        rw [hlo i c, hhi j'] at q
        exact absurd (by rw [q]; exact hAn j' (by omega)) (a4 _ (prm_lt c))
    · obtain ⟨i', rfl⟩ : ∃ i', i = 333 + i' := ⟨i - 333, by omega⟩
      by_cases d : j < 333
      · rw [hlo j d, hhi i'] at q
        exact absurd (by rw [← q]; exact hAn i' (by omega)) (a4 _ (prm_lt d))
      · obtain ⟨j', rfl⟩ : ∃ j', j = 333 + j' := ⟨j - 333, by omega⟩
        rw [hhi i', hhi j'] at q
        have := hMD i' j' (by omega) (by omega) q
        omega
  have h333 : ad 333 = a := (hhi 0).trans hA0
  obtain ⟨G, -⟩ : ∃ G : Nat → z_G4, G = G := ⟨fun _ => ((fun _ => 0), (fun _ => 0), (fun _ => 0), (fun _ => 0), 0), rfl⟩
  have c1 := hcW ad (fun _ => 0) (fun _ => 0) Ho (fun _ => 0) G G hlo hHo
  have c2 : cW (z_up h1 a E) ad (fun _ => 0) z_N0 (fun _ => 0) (fun _ => 0) (fun _ => 0) Ho (fun _ => 0) (fun _ => 0) 0 0 0 G G := by
    refine c1.fr (fun t _ h2 => z_up_n ?_) (fun q _ h2 => z_up_n ?_)
    · rw [← h333]; exact hI.ne (by omega) (by decide) (by omega)
    · rw [← h333]; exact h2 333 (by decide)
  refine ⟨ad, hI, (hlo 0 (by decide)).trans a1, (hhi 0).trans hA0, l_fin hI c2 ⟨z_N0w G, Or.inl rfl, fun q => absurd rfl q, ⟨by decide, fun k hk => absurd hk (Nat.not_lt_zero _)⟩, fun s hs => ⟨Or.inl (hHo s hs), show (0 : Int) ≤ 0 by decide, show (0 : Int) ≤ 40 by decide⟩, fun k hk => ⟨show (-9223372036854775808 : Int) ≤ 0 by decide, show (0 : Int) < 9223372036854775808 by decide⟩⟩ ⟨(fun _ => 0), (fun _ => 0), (fun _ => 0), (fun _ => 0), (fun _ => 0), 0, 0, 0, 0, 0, 0, 0, 0, 0, 0, 0, 0, ⟨by decide, by decide⟩, ?_⟩⟩
  rw [hlA]
  exact e
set_option maxHeartbeats 4000000 in
set_option maxRecDepth 100000 in
theorem w_body {g : z_G} {X : z_X} {r : Nat × Nat × Nat} (hN : g_L g ≤ 3072) (hr : 40 ≤ r.1 ∧ 4000 ≤ r.2.1 ∧ 720000 ≤ r.2.2) (hE : ∀ (h : z_H) (ls : List z_V) (k n : Nat), k ≤ 4000 → n ≤ 720000 → z_w g X cL_law RL r 1481 ls [z_i 1] h k n) : z_w g X cL_law RL r 0 [z_r (g_b g), z_u, z_u, z_u] [] (fun _ => none) 0 0 := by
  refine nw_L_7 dL_law_0 ⟨by omega, by omega⟩ (fun b hb => ?_)
  refine z_dup dL_law_3 rfl ?_
  refine cs_L_9 dL_law_4 (D_X8_init z_up_s) rfl rfl (Nat.le_of_ble_eq_true rfl) ⟨by omega, by omega, by omega⟩ (fun rv h1 HH => ?_)
  obtain ⟨rfl, al, hAL, hcW⟩ := HH
  show z_w g X cL_law RL r 7 [z_r (g_b g), z_u, z_u, z_u] [z_r b] h1 (0 + 1 + 332) (0 + 9 + 21509)
  refine z_astore_n dL_law_7 (Nat.le_of_ble_eq_true rfl) rfl ?_
  refine nw_L_10 dL_law_8 ⟨by omega, by omega⟩ (fun a ha => ?_)
  refine z_dup dL_law_11 rfl ?_
  refine cs_L_12 dL_law_12 (D_X9_init z_up_s) rfl rfl (Nat.le_of_ble_eq_true rfl) ⟨by omega, by omega, by omega⟩ (fun rv h2 HH => ?_)
  obtain ⟨rfl, A, Ho, hA0, hMD, hA1, hHo, e⟩ := HH
  show z_w g X cL_law RL r 15 [z_r (g_b g), z_r b, z_u, z_u] [z_r a] h2 (0 + 1 + 332 + 1 + 13) (0 + 9 + 21509 + 28 + 31575)
  refine z_astore_n dL_law_15 (Nat.le_of_ble_eq_true rfl) rfl ?_
  refine z_iconst dL_law_16 ?_
  refine z_istore_n dL_law_17 (Nat.le_of_ble_eq_true rfl) rfl ?_
  obtain ⟨ad, hI, e0, e1, hL⟩ := w_made hAL hcW ha hA0 hMD hA1 hHo e
  show z_w g X cL_law RL r 18 [z_r (g_b g), z_r b, z_r a, z_i ((0 : Nat) : Int)] [] h2 (0 + 1 + 332 + 1 + 13) (0 + 9 + 21509 + 28 + 31575)
  rw [← e0, ← e1]
  exact w_loop hI hN hr hE (g_L g + 7) 0 _ _ h2 hL (by omega) (by omega) (by omega) (by omega)
