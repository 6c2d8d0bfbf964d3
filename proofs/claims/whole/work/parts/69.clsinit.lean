/-! KnitReader is made -/
/-- the first n places that were made, b the first of them -/
def AL (b : Nat) (h0 H : z_H) (al : Nat → Nat) (n : Nat) : Prop := al 0 = b ∧ (∀ i j, i < n → j < n → al i = al j → i = j) ∧ (∀ t, 1 ≤ t → t < n → h0 (al t) = none) ∧ (∀ t, t < n → H (al t) ≠ none) ∧ ∀ y, h0 y ≠ none → y ≠ b → H y = h0 y
def alx (al : Nat → Nat) (n : Nat) (T : Nat → Nat) : Nat → Nat := fun i => if i < n then al i else T (i - n)
theorem alx_lo {al T : Nat → Nat} {n i : Nat} (h : i < n) : alx al n T i = al i := if_pos h
theorem alx_hi {al T : Nat → Nat} {n i : Nat} (h : n ≤ i) : alx al n T i = T (i - n) := if_neg (by omega)
theorem AL.ext {b : Nat} {h0 H H' : z_H} {al T : Nat → Nat} {n m x : Nat} (A : AL b h0 H al n) (hn : 1 ≤ n) (hT : ∀ i j, i < m → j < m → T i = T j → i = j) (hf : ∀ t, t < m → H (T t) = none) (hs : ∀ t, t < m → H' (T t) ≠ none) (hx : H' x ≠ none) (hx0 : x = b ∨ h0 x = none) (hfr : ∀ y, H y ≠ none → y ≠ x → H' y = H y) : AL b h0 H' (alx al n T) (n + m) := by
  obtain ⟨a1, a2, a3, a4, a5⟩ := A
  have hne : ∀ i t, i < n → t < m → al i ≠ T t := fun i t h1 h2 e => a4 i h1 (by rw [e]; exact hf t h2)
  have cs : ∀ i, i < n + m → (i < n ∧ alx al n T i = al i) ∨ (n ≤ i ∧ i - n < m ∧ alx al n T i = T (i - n)) := fun i hi => by
    by_cases c : i < n
    · exact Or.inl ⟨c, alx_lo c⟩
    · exact Or.inr ⟨by omega, by omega, alx_hi (by omega)⟩
  refine ⟨(alx_lo hn).trans a1, fun i j hi hj e => ?_, fun t h1 h2 => ?_, fun t ht => ?_, fun y h1 h2 => ?_⟩
  · rcases cs i hi with ⟨c1, c2⟩ | ⟨c1, c3, c2⟩ <;> rcases cs j hj with ⟨d1, d2⟩ | ⟨d1, d3, d2⟩ <;> rw [c2, d2] at e
    · exact a2 i j c1 d1 e
    · exact absurd e (hne i _ c1 d3)
    · exact absurd e.symm (hne j _ d1 c3)
    · have := hT _ _ c3 d3 e
      omega
  · rcases cs t h2 with ⟨c1, c2⟩ | ⟨c1, c3, c2⟩ <;> rw [c2]
    · exact a3 t h1 c1
    · have hq := hf _ c3
      cases h9 : h0 (T (t - n)) with
      | none => rfl
      | some z =>
        exfalso
        by_cases e : T (t - n) = b
        · rw [e, ← a1] at hq
          exact a4 0 hn hq
        · rw [a5 _ (by rw [h9]; exact Option.some_ne_none _) e, h9] at hq
          cases hq
  · rcases cs t ht with ⟨c1, c2⟩ | ⟨c1, c3, c2⟩ <;> rw [c2]
    · by_cases e : al t = x
      · rw [e]; exact hx
      · rw [hfr _ (a4 t c1) e]; exact a4 t c1
    · exact hs _ c3
  · have h9 := a5 y h1 h2
    rw [← h9]
    refine hfr y (by rw [h9]; exact h1) (fun e => ?_)
    rcases hx0 with q | q
    · exact h2 (e.trans q)
    · exact h1 (by rw [e]; exact q)
theorem AL.pf {b : Nat} {h0 H : z_H} {al : Nat → Nat} {n : Nat} {e : z_C} (A : AL b h0 H al n) : AL b h0 (z_up H b e) al n := by
  obtain ⟨a1, a2, a3, a4, a5⟩ := A
  refine ⟨a1, a2, a3, fun t ht => ?_, fun y h1 h2 => (z_up_n h2).trans (a5 y h1 h2)⟩
  by_cases c : al t = b
  · rw [c, z_up_s]; exact Option.some_ne_none _
  · rw [z_up_n c]; exact a4 t ht
theorem sH.cg {h : z_H} {T T' : Nat → Nat} {Lf : Nat → Option Nat} {lc dc nd si mo se : Int} {sd ln zz : Nat → Int} {ff : Nat → z_row} (H : sH h T Lf lc dc nd si mo se sd ln zz ff) (hT : ∀ t, t < 153 → T' t = T t) : sH h T' Lf lc dc nd si mo se sd ln zz ff := by
  obtain ⟨e0, e1, e2, e3, e4⟩ := H
  have hr : dnR T' = dnR T := funext fun i => by
    unfold dnR
    by_cases c : i < 50
    · rw [if_pos c, if_pos c, hT _ (by omega)]
    · rw [if_neg c, if_neg c]
  refine ⟨by rw [hT 0 (by decide), hT 1 (by decide), hT 2 (by decide)]; exact e0, by rw [hT 1 (by decide)]; exact e1, by rw [hT 2 (by decide), hr]; exact e2, fun i hi => ?_, e4⟩
  rw [hT _ (by omega), hT _ (by omega), hT _ (by omega)]
  exact e3 i hi
/-- the tags, by the order in which the places are made -/
def prm (t : Nat) : Nat := if t = 0 then 0 else if t < 27 then t + 306 else t - 26
set_option maxHeartbeats 4000000 in
set_option maxRecDepth 100000 in
theorem D_X8_init {g : z_G} {h : z_H} {b : Nat} (h1 : h b = some (c_O 7 [z_n, z_n, z_i 0, z_n, z_i 0, z_n, z_n, z_n, z_n])) : z_D g mX8_init 5 332 21509 [z_r b] h (fun rv h' => rv = none ∧ ∃ al : Nat → Nat, AL b h h' al 333 ∧ ∀ (ad : Nat → Nat) (Th Lk Ho Sz : z_row) (G Gt : Nat → z_G4), (∀ t, t < 333 → ad t = al (prm t)) → (∀ s, s < 8 → Ho s = -1) → cW h' ad (fun _ => 0) (z_sf (fun _ => 0) 5024 1) Th (fun _ => 0) Lk Ho Sz (fun _ => 0) 0 0 0 G Gt) := by
  refine z_D.of (by decide +kernel) (Nat.le_of_ble_eq_true rfl) (fun X F => ?_)
  have A0 : AL b h h (fun _ => b) 1 := ⟨rfl, fun i j hi hj _ => by omega, fun t h2 h3 => absurd h2 (by omega), fun t _ => by rw [h1]; exact Option.some_ne_none _, fun y _ _ => rfl⟩
  show z_w g X cX8_init RX8 (5, 332, 21509) 0 [z_r b, z_u] [] h 0 0
  refine z_aload_n dX8_init_0 rfl ?_
  refine oi_X8_1 dX8_init_1 (by decide) (Nat.le_of_ble_eq_true rfl) ?_
  refine z_aload_n dX8_init_4 rfl ?_
  refine nw_X8_7 dX8_init_5 ⟨by decide, by decide⟩ (fun p1 hp1 => ?_)
  have nbp1 : p1 ≠ b := fun e => by rw [e, h1] at hp1; cases hp1
  refine z_dup dX8_init_8 rfl ?_
  refine cs_X8_9 dX8_init_9 (D_X6_init (b := p1) z_up_s) rfl rfl (Nat.le_of_ble_eq_true rfl) (by decide) (fun rv Gp1 hq9 => ?_)
  obtain ⟨rfl, T, eT, iT, fT, sT, rT⟩ := hq9
  have ffp1 : ∀ y, h y ≠ none → Gp1 y = h y := fun y hy => by
    have n1 : y ≠ p1 := fun e => hy (by rw [e]; exact hp1)
    rw [rT y (by rw [z_up_n n1]; exact hy) n1, z_up_n n1]
  have gT : ∀ t, t < 153 → h (T t) = none := fun t ht => by
    by_cases c : t = 0
    · rw [c, eT]; exact hp1
    · have := fT t (by omega) ht
      rwa [z_up_n (fun e => c (iT t 0 ht (by decide) (e.trans eT.symm)))] at this
  have nbT : ∀ t, t < 153 → T t ≠ b := fun t ht e => by have := gT t ht; rw [e, h1] at this; cases this
  rw [← eT]
  show z_w _ _ _ _ _ _ _ [z_r (T 0), z_r b] _ _ _
  refine pf_X8_10 F rfl dX8_init_12 ((ffp1 b (by rw [h1]; exact Option.some_ne_none _)).trans h1) (Nat.le_of_ble_eq_true rfl) ?_
  obtain ⟨H11, hH11⟩ : ∃ H11, H11 = z_up Gp1 b (c_O 7 [z_r (T 0), z_n, z_i 0, z_n, z_i 0, z_n, z_n, z_n, z_n]) := ⟨_, rfl⟩
  refine z_heq hH11.symm ?_
  have hb1 : H11 b = some (c_O 7 [z_r (T 0), z_n, z_i 0, z_n, z_i 0, z_n, z_n, z_n, z_n]) := by rw [hH11]; exact z_up_s
  have A1 : AL b h H11 (alx (fun _ => b) 1 T) (1 + 153) := by rw [hH11]; exact (A0.ext (by decide) iT gT (fun t ht => sT.dom ht) (x := b) (by rw [ffp1 b (by rw [h1]; exact Option.some_ne_none _), h1]; exact Option.some_ne_none _) (Or.inl rfl) (fun y hy _ => ffp1 y hy)).pf
  have fr1 : ∀ y, h y ≠ none → y ≠ b → H11 y = h y := fun y hy hyb => by rw [hH11, z_up_n hyb]; exact ffp1 y hy
  have sT_1 : sH H11 T (fun _ => none) 0 0 0 0 0 1 (fun _ => 0) (fun _ => 0) (fun _ => 0) (fun _ _ => 0) := by rw [hH11]; exact sT.fr (fun t ht => z_up_n (nbT t ht))
  refine z_aload_n dX8_init_15 rfl ?_
  refine nw_X8_7 dX8_init_16 ⟨by decide, by decide⟩ (fun p2 hp2 => ?_)
  have nbp2 : p2 ≠ b := fun e => by rw [e, hb1] at hp2; cases hp2
  refine z_dup dX8_init_19 rfl ?_
  refine cs_X8_9 dX8_init_20 (D_X6_init (b := p2) z_up_s) rfl rfl (Nat.le_of_ble_eq_true rfl) (by decide) (fun rv Gp2 hq9 => ?_)
  obtain ⟨rfl, U, eU, iU, fU, sU, rU⟩ := hq9
  have ffp2 : ∀ y, H11 y ≠ none → Gp2 y = H11 y := fun y hy => by
    have n1 : y ≠ p2 := fun e => hy (by rw [e]; exact hp2)
    rw [rU y (by rw [z_up_n n1]; exact hy) n1, z_up_n n1]
  have gU : ∀ t, t < 153 → H11 (U t) = none := fun t ht => by
    by_cases c : t = 0
    · rw [c, eU]; exact hp2
    · have := fU t (by omega) ht
      rwa [z_up_n (fun e => c (iU t 0 ht (by decide) (e.trans eU.symm)))] at this
  have nbU : ∀ t, t < 153 → U t ≠ b := fun t ht e => by have := gU t ht; rw [e, hb1] at this; cases this
  rw [← eU]
  show z_w _ _ _ _ _ _ _ [z_r (U 0), z_r b] _ _ _
  refine pf_X8_16 F rfl dX8_init_23 ((ffp2 b (by rw [hb1]; exact Option.some_ne_none _)).trans hb1) (Nat.le_of_ble_eq_true rfl) ?_
  obtain ⟨H12, hH12⟩ : ∃ H12, H12 = z_up Gp2 b (c_O 7 [z_r (T 0), z_r (U 0), z_i 0, z_n, z_i 0, z_n, z_n, z_n, z_n]) := ⟨_, rfl⟩
  refine z_heq hH12.symm ?_
  have hb2 : H12 b = some (c_O 7 [z_r (T 0), z_r (U 0), z_i 0, z_n, z_i 0, z_n, z_n, z_n, z_n]) := by rw [hH12]; exact z_up_s
  have A2 : AL b h H12 (alx (alx (fun _ => b) 1 T) 154 U) (154 + 153) := by rw [hH12]; exact (A1.ext (by decide) iU gU (fun t ht => sU.dom ht) (x := b) (by rw [ffp2 b (by rw [hb1]; exact Option.some_ne_none _), hb1]; exact Option.some_ne_none _) (Or.inl rfl) (fun y hy _ => ffp2 y hy)).pf
  have fr2 : ∀ y, H11 y ≠ none → y ≠ b → H12 y = H11 y := fun y hy hyb => by rw [hH12, z_up_n hyb]; exact ffp2 y hy
  have sT_2 : sH H12 T (fun _ => none) 0 0 0 0 0 1 (fun _ => 0) (fun _ => 0) (fun _ => 0) (fun _ _ => 0) := sT_1.fr (fun t ht => fr2 _ (sT_1.dom ht) (nbT t ht))
  have sU_2 : sH H12 U (fun _ => none) 0 0 0 0 0 1 (fun _ => 0) (fun _ => 0) (fun _ => 0) (fun _ _ => 0) := by rw [hH12]; exact sU.fr (fun t ht => z_up_n (nbU t ht))
  refine z_aload_n dX8_init_26 rfl ?_
  refine z_sipush dX8_init_27 rfl ?_
  refine z_newI (N := 250) wA_I dX8_init_30 rfl (by decide) ⟨by decide, by decide⟩ (fun q3 hq3 => ?_)
  have nbq3 : q3 ≠ b := fun e => by rw [e, hb2] at hq3; cases hq3
  have ffq3 : ∀ y, H12 y ≠ none → z_up H12 q3 (c_I 250 (fun _ => 0)) y = H12 y := fun y hy => by
    have n1 : y ≠ q3 := fun e => hy (by rw [e]; exact hq3)
    exact z_up_n n1
  have cq3 : z_up H12 q3 (c_I 250 (fun _ => 0)) q3 = some (c_I 250 (fun _ => 0)) := z_up_s
  refine pf_X8_19 F rfl dX8_init_32 ((z_up_n nbq3.symm).trans hb2) (Nat.le_of_ble_eq_true rfl) ?_
  obtain ⟨H13, hH13⟩ : ∃ H13, H13 = z_up (z_up H12 q3 (c_I 250 (fun _ => 0))) b (c_O 7 [z_r (T 0), z_r (U 0), z_i 0, z_r q3, z_i 0, z_n, z_n, z_n, z_n]) := ⟨_, rfl⟩
  refine z_heq hH13.symm ?_
  have hb3 : H13 b = some (c_O 7 [z_r (T 0), z_r (U 0), z_i 0, z_r q3, z_i 0, z_n, z_n, z_n, z_n]) := by rw [hH13]; exact z_up_s
  have A3 : AL b h H13 (alx (alx (alx (fun _ => b) 1 T) 154 U) 307 (fun _ => q3)) (307 + 1) := by rw [hH13]; exact (A2.ext (by decide) (fun i j hi hj _ => by omega) (fun _ _ => hq3) (fun _ _ => by rw [cq3]; exact Option.some_ne_none _) (x := b) (by rw [ffq3 b (by rw [hb2]; exact Option.some_ne_none _), hb2]; exact Option.some_ne_none _) (Or.inl rfl) (fun y hy _ => ffq3 y hy)).pf
  have fr3 : ∀ y, H12 y ≠ none → y ≠ b → H13 y = H12 y := fun y hy hyb => by rw [hH13, z_up_n hyb]; exact ffq3 y hy
  have sT_3 : sH H13 T (fun _ => none) 0 0 0 0 0 1 (fun _ => 0) (fun _ => 0) (fun _ => 0) (fun _ _ => 0) := sT_2.fr (fun t ht => fr3 _ (sT_2.dom ht) (nbT t ht))
  have sU_3 : sH H13 U (fun _ => none) 0 0 0 0 0 1 (fun _ => 0) (fun _ => 0) (fun _ => 0) (fun _ _ => 0) := sU_2.fr (fun t ht => fr3 _ (sU_2.dom ht) (nbU t ht))
  have cq3_3 : H13 q3 = some (c_I 250 (fun _ => 0)) := by rw [hH13, z_up_n nbq3]; exact cq3
  refine z_aload_n dX8_init_35 rfl ?_
  refine z_bipush dX8_init_36 rfl ?_
  refine na_X8_23 (N := 8) dX8_init_38 rfl (by decide) ⟨by decide, by decide⟩ (fun q4 hq4 => ?_)
  have nbq4 : q4 ≠ b := fun e => by rw [e, hb3] at hq4; cases hq4
  have ffq4 : ∀ y, H13 y ≠ none → z_up H13 q4 (c_A 2 8 (fun _ => none)) y = H13 y := fun y hy => by
    have n1 : y ≠ q4 := fun e => hy (by rw [e]; exact hq4)
    exact z_up_n n1
  have cq4 : z_up H13 q4 (c_A 2 8 (fun _ => none)) q4 = some (c_A 2 8 (fun _ => none)) := z_up_s
  refine pf_X8_25 F rfl dX8_init_41 ((z_up_n nbq4.symm).trans hb3) (Nat.le_of_ble_eq_true rfl) ?_
  obtain ⟨H14, hH14⟩ : ∃ H14, H14 = z_up (z_up H13 q4 (c_A 2 8 (fun _ => none))) b (c_O 7 [z_r (T 0), z_r (U 0), z_i 0, z_r q3, z_i 0, z_r q4, z_n, z_n, z_n]) := ⟨_, rfl⟩
  refine z_heq hH14.symm ?_
  have hb4 : H14 b = some (c_O 7 [z_r (T 0), z_r (U 0), z_i 0, z_r q3, z_i 0, z_r q4, z_n, z_n, z_n]) := by rw [hH14]; exact z_up_s
  have A4 : AL b h H14 (alx (alx (alx (alx (fun _ => b) 1 T) 154 U) 307 (fun _ => q3)) 308 (fun _ => q4)) (308 + 1) := by rw [hH14]; exact (A3.ext (by decide) (fun i j hi hj _ => by omega) (fun _ _ => hq4) (fun _ _ => by rw [cq4]; exact Option.some_ne_none _) (x := b) (by rw [ffq4 b (by rw [hb3]; exact Option.some_ne_none _), hb3]; exact Option.some_ne_none _) (Or.inl rfl) (fun y hy _ => ffq4 y hy)).pf
  have fr4 : ∀ y, H13 y ≠ none → y ≠ b → H14 y = H13 y := fun y hy hyb => by rw [hH14, z_up_n hyb]; exact ffq4 y hy
  have sT_4 : sH H14 T (fun _ => none) 0 0 0 0 0 1 (fun _ => 0) (fun _ => 0) (fun _ => 0) (fun _ _ => 0) := sT_3.fr (fun t ht => fr4 _ (sT_3.dom ht) (nbT t ht))
  have sU_4 : sH H14 U (fun _ => none) 0 0 0 0 0 1 (fun _ => 0) (fun _ => 0) (fun _ => 0) (fun _ _ => 0) := sU_3.fr (fun t ht => fr4 _ (sU_3.dom ht) (nbU t ht))
  have cq3_4 : H14 q3 = some (c_I 250 (fun _ => 0)) := (fr4 _ (by rw [cq3_3]; exact Option.some_ne_none _) nbq3).trans cq3_3
  have cq4_4 : H14 q4 = some (c_A 2 8 (fun _ => none)) := by rw [hH14, z_up_n nbq4]; exact cq4
  refine z_aload_n dX8_init_44 rfl ?_
  refine nw_X8_29 dX8_init_45 ⟨by decide, by decide⟩ (fun q5 hq5 => ?_)
  have nbq5 : q5 ≠ b := fun e => by rw [e, hb4] at hq5; cases hq5
  refine z_dup dX8_init_48 rfl ?_
  refine cs_X8_31 dX8_init_49 (D_X4_init (a := q5) z_up_s) rfl rfl (Nat.le_of_ble_eq_true rfl) (by decide) (fun rv Gq5 hq9 => ?_)
  obtain ⟨rfl, pc, pk, po, pv, ⟨g6, g7, g8, g9⟩, hpD, ⟨x3, x4, x5, x6, x7⟩, r5⟩ := hq9
  have uc := z_up_none g6
  have uk := z_up_none g7
  have uo := z_up_none g8
  have uv := z_up_none g9
  have ffq5 : ∀ y, H14 y ≠ none → Gq5 y = H14 y := fun y hy => by
    have n1 : y ≠ q5 := fun e => hy (by rw [e]; exact hq5)
    rw [r5 y n1 (fun e => hy (by rw [e]; exact uc.2)) (fun e => hy (by rw [e]; exact uk.2)) (fun e => hy (by rw [e]; exact uo.2)) (fun e => hy (by rw [e]; exact uv.2)), z_up_n n1]
  have nbpc : pc ≠ b := fun e => by have := uc.2; rw [e, hb4] at this; cases this
  have nbpk : pk ≠ b := fun e => by have := uk.2; rw [e, hb4] at this; cases this
  have nbpo : po ≠ b := fun e => by have := uo.2; rw [e, hb4] at this; cases this
  have nbpv : pv ≠ b := fun e => by have := uv.2; rw [e, hb4] at this; cases this
  obtain ⟨V, hV⟩ : ∃ V : Nat → Nat, V = fun t => if t = 0 then q5 else if t = 1 then pc else if t = 2 then pk else if t = 3 then po else pv := ⟨_, rfl⟩
  have V0 : V 0 = q5 := by rw [hV]; rfl
  have V1 : V 1 = pc := by rw [hV]; rfl
  have V2 : V 2 = pk := by rw [hV]; rfl
  have V3 : V 3 = po := by rw [hV]; rfl
  have V4 : V 4 = pv := by rw [hV]; rfl
  have hVf : ∀ t, t < 5 → H14 (V t) = none := fun t ht => by
    rcases (show t = 0 ∨ t = 1 ∨ t = 2 ∨ t = 3 ∨ t = 4 by omega) with rfl | rfl | rfl | rfl | rfl
    · rw [V0]; exact hq5
    · rw [V1]; exact uc.2
    · rw [V2]; exact uk.2
    · rw [V3]; exact uo.2
    · rw [V4]; exact uv.2
  have hVs : ∀ t, t < 5 → Gq5 (V t) ≠ none := fun t ht => by
    rcases (show t = 0 ∨ t = 1 ∨ t = 2 ∨ t = 3 ∨ t = 4 by omega) with rfl | rfl | rfl | rfl | rfl
    · rw [V0, x3]; exact Option.some_ne_none _
    · rw [V1, x4]; exact Option.some_ne_none _
    · rw [V2, x5]; exact Option.some_ne_none _
    · rw [V3, x6]; exact Option.some_ne_none _
    · rw [V4, x7]; exact Option.some_ne_none _
  obtain ⟨⟨d1, d2, d3, d4⟩, ⟨d5, d6, d7⟩, ⟨d8, d9⟩, d10⟩ := hpD
  have hVi : ∀ i j, i < 5 → j < 5 → V i = V j → i = j := fun i j hi hj e => by
    rcases (show i = 0 ∨ i = 1 ∨ i = 2 ∨ i = 3 ∨ i = 4 by omega) with rfl | rfl | rfl | rfl | rfl <;> rcases (show j = 0 ∨ j = 1 ∨ j = 2 ∨ j = 3 ∨ j = 4 by omega) with rfl | rfl | rfl | rfl | rfl <;> (try simp only [V0, V1, V2, V3, V4] at e) <;> first | rfl | exact absurd e d1 | exact absurd e.symm d1 | exact absurd e d2 | exact absurd e.symm d2 | exact absurd e d3 | exact absurd e.symm d3 | exact absurd e d4 | exact absurd e.symm d4 | exact absurd e d5 | exact absurd e.symm d5 | exact absurd e d6 | exact absurd e.symm d6 | exact absurd e d7 | exact absurd e.symm d7 | exact absurd e d8 | exact absurd e.symm d8 | exact absurd e d9 | exact absurd e.symm d9 | exact absurd e d10 | exact absurd e.symm d10
  show z_w _ _ _ _ _ _ _ [z_r q5, z_r b] _ _ _
  refine pf_X8_32 F rfl dX8_init_52 ((ffq5 b (by rw [hb4]; exact Option.some_ne_none _)).trans hb4) (Nat.le_of_ble_eq_true rfl) ?_
  obtain ⟨H15, hH15⟩ : ∃ H15, H15 = z_up Gq5 b (c_O 7 [z_r (T 0), z_r (U 0), z_i 0, z_r q3, z_i 0, z_r q4, z_r q5, z_n, z_n]) := ⟨_, rfl⟩
  refine z_heq hH15.symm ?_
  have hb5 : H15 b = some (c_O 7 [z_r (T 0), z_r (U 0), z_i 0, z_r q3, z_i 0, z_r q4, z_r q5, z_n, z_n]) := by rw [hH15]; exact z_up_s
  have A5 : AL b h H15 (alx (alx (alx (alx (alx (fun _ => b) 1 T) 154 U) 307 (fun _ => q3)) 308 (fun _ => q4)) 309 V) (309 + 5) := by rw [hH15]; exact (A4.ext (by decide) hVi hVf hVs (x := b) (by rw [ffq5 b (by rw [hb4]; exact Option.some_ne_none _), hb4]; exact Option.some_ne_none _) (Or.inl rfl) (fun y hy _ => ffq5 y hy)).pf
  have fr5 : ∀ y, H14 y ≠ none → y ≠ b → H15 y = H14 y := fun y hy hyb => by rw [hH15, z_up_n hyb]; exact ffq5 y hy
  have sT_5 : sH H15 T (fun _ => none) 0 0 0 0 0 1 (fun _ => 0) (fun _ => 0) (fun _ => 0) (fun _ _ => 0) := sT_4.fr (fun t ht => fr5 _ (sT_4.dom ht) (nbT t ht))
  have sU_5 : sH H15 U (fun _ => none) 0 0 0 0 0 1 (fun _ => 0) (fun _ => 0) (fun _ => 0) (fun _ _ => 0) := sU_4.fr (fun t ht => fr5 _ (sU_4.dom ht) (nbU t ht))
  have cq3_5 : H15 q3 = some (c_I 250 (fun _ => 0)) := (fr5 _ (by rw [cq3_4]; exact Option.some_ne_none _) nbq3).trans cq3_4
  have cq4_5 : H15 q4 = some (c_A 2 8 (fun _ => none)) := (fr5 _ (by rw [cq4_4]; exact Option.some_ne_none _) nbq4).trans cq4_4
  have x3_5 : H15 q5 = some (c_O 3 [z_r pc, z_r po, z_r pv, z_i 0, z_i 0, z_i 0, z_i 0, z_i 0]) := by rw [hH15, z_up_n nbq5]; exact x3
  have x4_5 : H15 pc = some (c_O 6 [z_r pk, z_i 0]) := by rw [hH15, z_up_n nbpc]; exact x4
  have x5_5 : H15 pk = some (c_I 200 (fun _ => 0)) := by rw [hH15, z_up_n nbpk]; exact x5
  have x6_5 : H15 po = some (c_I 5 (fun _ => 0)) := by rw [hH15, z_up_n nbpo]; exact x6
  have x7_5 : H15 pv = some (c_I 5 (fun _ => 0)) := by rw [hH15, z_up_n nbpv]; exact x7
  refine z_aload_n dX8_init_55 rfl ?_
  refine nw_X8_36 dX8_init_56 ⟨by decide, by decide⟩ (fun q6 hq6 => ?_)
  have nbq6 : q6 ≠ b := fun e => by rw [e, hb5] at hq6; cases hq6
  refine z_dup dX8_init_59 rfl ?_
  refine cs_X8_38 dX8_init_60 (D_X0_init (a := q6) z_up_s) rfl rfl (Nat.le_of_ble_eq_true rfl) (by decide) (fun rv Gq6 hq9 => ?_)
  obtain ⟨rfl, q7, g9, n76, ⟨y1, y2, -⟩, r6⟩ := hq9
  have u7 := z_up_none g9
  have ffq6 : ∀ y, H15 y ≠ none → Gq6 y = H15 y := fun y hy => by
    have n1 : y ≠ q6 := fun e => hy (by rw [e]; exact hq6)
    rw [r6 y n1 (fun e => hy (by rw [e]; exact u7.2)), z_up_n n1]
  have nbq7 : q7 ≠ b := fun e => by have := u7.2; rw [e, hb5] at this; cases this
  obtain ⟨C, hC⟩ : ∃ C : Nat → Nat, C = fun t => if t = 0 then q6 else q7 := ⟨_, rfl⟩
  have C0 : C 0 = q6 := by rw [hC]; rfl
  have C1 : C 1 = q7 := by rw [hC]; rfl
  have hCf : ∀ t, t < 2 → H15 (C t) = none := fun t ht => by
    rcases (show t = 0 ∨ t = 1 by omega) with rfl | rfl
    · rw [C0]; exact hq6
    · rw [C1]; exact u7.2
  have hCs : ∀ t, t < 2 → Gq6 (C t) ≠ none := fun t ht => by
    rcases (show t = 0 ∨ t = 1 by omega) with rfl | rfl
    · rw [C0, y1]; exact Option.some_ne_none _
    · rw [C1, y2]; exact Option.some_ne_none _
  have hCi : ∀ i j, i < 2 → j < 2 → C i = C j → i = j := fun i j hi hj e => by
    rcases (show i = 0 ∨ i = 1 by omega) with rfl | rfl <;> rcases (show j = 0 ∨ j = 1 by omega) with rfl | rfl <;> (try simp only [C0, C1] at e) <;> first | rfl | exact absurd e n76 | exact absurd e.symm n76
  show z_w _ _ _ _ _ _ _ [z_r q6, z_r b] _ _ _
  refine pf_X8_39 F rfl dX8_init_63 ((ffq6 b (by rw [hb5]; exact Option.some_ne_none _)).trans hb5) (Nat.le_of_ble_eq_true rfl) ?_
  obtain ⟨H16, hH16⟩ : ∃ H16, H16 = z_up Gq6 b (c_O 7 [z_r (T 0), z_r (U 0), z_i 0, z_r q3, z_i 0, z_r q4, z_r q5, z_r q6, z_n]) := ⟨_, rfl⟩
  refine z_heq hH16.symm ?_
  have hb6 : H16 b = some (c_O 7 [z_r (T 0), z_r (U 0), z_i 0, z_r q3, z_i 0, z_r q4, z_r q5, z_r q6, z_n]) := by rw [hH16]; exact z_up_s
  have A6 : AL b h H16 (alx (alx (alx (alx (alx (alx (fun _ => b) 1 T) 154 U) 307 (fun _ => q3)) 308 (fun _ => q4)) 309 V) 314 C) (314 + 2) := by rw [hH16]; exact (A5.ext (by decide) hCi hCf hCs (x := b) (by rw [ffq6 b (by rw [hb5]; exact Option.some_ne_none _), hb5]; exact Option.some_ne_none _) (Or.inl rfl) (fun y hy _ => ffq6 y hy)).pf
  have fr6 : ∀ y, H15 y ≠ none → y ≠ b → H16 y = H15 y := fun y hy hyb => by rw [hH16, z_up_n hyb]; exact ffq6 y hy
  have sT_6 : sH H16 T (fun _ => none) 0 0 0 0 0 1 (fun _ => 0) (fun _ => 0) (fun _ => 0) (fun _ _ => 0) := sT_5.fr (fun t ht => fr6 _ (sT_5.dom ht) (nbT t ht))
  have sU_6 : sH H16 U (fun _ => none) 0 0 0 0 0 1 (fun _ => 0) (fun _ => 0) (fun _ => 0) (fun _ _ => 0) := sU_5.fr (fun t ht => fr6 _ (sU_5.dom ht) (nbU t ht))
  have cq3_6 : H16 q3 = some (c_I 250 (fun _ => 0)) := (fr6 _ (by rw [cq3_5]; exact Option.some_ne_none _) nbq3).trans cq3_5
  have cq4_6 : H16 q4 = some (c_A 2 8 (fun _ => none)) := (fr6 _ (by rw [cq4_5]; exact Option.some_ne_none _) nbq4).trans cq4_5
  have x3_6 : H16 q5 = some (c_O 3 [z_r pc, z_r po, z_r pv, z_i 0, z_i 0, z_i 0, z_i 0, z_i 0]) := (fr6 _ (by rw [x3_5]; exact Option.some_ne_none _) nbq5).trans x3_5
  have x4_6 : H16 pc = some (c_O 6 [z_r pk, z_i 0]) := (fr6 _ (by rw [x4_5]; exact Option.some_ne_none _) nbpc).trans x4_5
  have x5_6 : H16 pk = some (c_I 200 (fun _ => 0)) := (fr6 _ (by rw [x5_5]; exact Option.some_ne_none _) nbpk).trans x5_5
  have x6_6 : H16 po = some (c_I 5 (fun _ => 0)) := (fr6 _ (by rw [x6_5]; exact Option.some_ne_none _) nbpo).trans x6_5
  have x7_6 : H16 pv = some (c_I 5 (fun _ => 0)) := (fr6 _ (by rw [x7_5]; exact Option.some_ne_none _) nbpv).trans x7_5
  have y1_6 : H16 q6 = some (c_O 0 [z_r q7, z_i ((0 : Nat) : Int)]) := by rw [hH16, z_up_n nbq6]; exact y1
  have y2_6 : H16 q7 = some (c_I 24 (fun _ => 0)) := by rw [hH16, z_up_n nbq7]; exact y2
  refine z_aload_n dX8_init_66 rfl ?_
  refine z_iconst dX8_init_67 ?_
  refine z_newI (N := 5) wA_I dX8_init_68 rfl (by decide) ⟨by decide, by decide⟩ (fun q8 hq8 => ?_)
  have nbq8 : q8 ≠ b := fun e => by rw [e, hb6] at hq8; cases hq8
  have ffq8 : ∀ y, H16 y ≠ none → z_up H16 q8 (c_I 5 (fun _ => 0)) y = H16 y := fun y hy => by
    have n1 : y ≠ q8 := fun e => hy (by rw [e]; exact hq8)
    exact z_up_n n1
  have cq8 : z_up H16 q8 (c_I 5 (fun _ => 0)) q8 = some (c_I 5 (fun _ => 0)) := z_up_s
  refine pf_X8_43 F rfl dX8_init_70 ((z_up_n nbq8.symm).trans hb6) (Nat.le_of_ble_eq_true rfl) ?_
  obtain ⟨H17, hH17⟩ : ∃ H17, H17 = z_up (z_up H16 q8 (c_I 5 (fun _ => 0))) b (c_O 7 [z_r (T 0), z_r (U 0), z_i 0, z_r q3, z_i 0, z_r q4, z_r q5, z_r q6, z_r q8]) := ⟨_, rfl⟩
  refine z_heq hH17.symm ?_
  have hb7 : H17 b = some (c_O 7 [z_r (T 0), z_r (U 0), z_i 0, z_r q3, z_i 0, z_r q4, z_r q5, z_r q6, z_r q8]) := by rw [hH17]; exact z_up_s
  have A7 : AL b h H17 (alx (alx (alx (alx (alx (alx (alx (fun _ => b) 1 T) 154 U) 307 (fun _ => q3)) 308 (fun _ => q4)) 309 V) 314 C) 316 (fun _ => q8)) (316 + 1) := by rw [hH17]; exact (A6.ext (by decide) (fun i j hi hj _ => by omega) (fun _ _ => hq8) (fun _ _ => by rw [cq8]; exact Option.some_ne_none _) (x := b) (by rw [ffq8 b (by rw [hb6]; exact Option.some_ne_none _), hb6]; exact Option.some_ne_none _) (Or.inl rfl) (fun y hy _ => ffq8 y hy)).pf
  have fr7 : ∀ y, H16 y ≠ none → y ≠ b → H17 y = H16 y := fun y hy hyb => by rw [hH17, z_up_n hyb]; exact ffq8 y hy
  have sT_7 : sH H17 T (fun _ => none) 0 0 0 0 0 1 (fun _ => 0) (fun _ => 0) (fun _ => 0) (fun _ _ => 0) := sT_6.fr (fun t ht => fr7 _ (sT_6.dom ht) (nbT t ht))
  have sU_7 : sH H17 U (fun _ => none) 0 0 0 0 0 1 (fun _ => 0) (fun _ => 0) (fun _ => 0) (fun _ _ => 0) := sU_6.fr (fun t ht => fr7 _ (sU_6.dom ht) (nbU t ht))
  have cq3_7 : H17 q3 = some (c_I 250 (fun _ => 0)) := (fr7 _ (by rw [cq3_6]; exact Option.some_ne_none _) nbq3).trans cq3_6
  have cq4_7 : H17 q4 = some (c_A 2 8 (fun _ => none)) := (fr7 _ (by rw [cq4_6]; exact Option.some_ne_none _) nbq4).trans cq4_6
  have x3_7 : H17 q5 = some (c_O 3 [z_r pc, z_r po, z_r pv, z_i 0, z_i 0, z_i 0, z_i 0, z_i 0]) := (fr7 _ (by rw [x3_6]; exact Option.some_ne_none _) nbq5).trans x3_6
  have x4_7 : H17 pc = some (c_O 6 [z_r pk, z_i 0]) := (fr7 _ (by rw [x4_6]; exact Option.some_ne_none _) nbpc).trans x4_6
  have x5_7 : H17 pk = some (c_I 200 (fun _ => 0)) := (fr7 _ (by rw [x5_6]; exact Option.some_ne_none _) nbpk).trans x5_6
  have x6_7 : H17 po = some (c_I 5 (fun _ => 0)) := (fr7 _ (by rw [x6_6]; exact Option.some_ne_none _) nbpo).trans x6_6
  have x7_7 : H17 pv = some (c_I 5 (fun _ => 0)) := (fr7 _ (by rw [x7_6]; exact Option.some_ne_none _) nbpv).trans x7_6
  have y1_7 : H17 q6 = some (c_O 0 [z_r q7, z_i ((0 : Nat) : Int)]) := (fr7 _ (by rw [y1_6]; exact Option.some_ne_none _) nbq6).trans y1_6
  have y2_7 : H17 q7 = some (c_I 24 (fun _ => 0)) := (fr7 _ (by rw [y2_6]; exact Option.some_ne_none _) nbq7).trans y2_6
  have cq8_7 : H17 q8 = some (c_I 5 (fun _ => 0)) := by rw [hH17, z_up_n nbq8]; exact cq8
  refine z_iconst dX8_init_73 ?_
  refine z_istore_n dX8_init_74 (Nat.le_of_ble_eq_true rfl) rfl ?_
  have L4 : ∀ (fu r : Nat) (S : Nat → Nat) (H : z_H) (k n : Nat), r ≤ 8 → k = 316 + 2 * r → n = 21165 + 43 * r → (∀ i j, i < 2 * r → j < 2 * r → S i = S j → i = j) → (∀ t, t < 2 * r → H17 (S t) = none) → H q4 = some (c_A 2 8 (fun i => if i < r then some (S (2 * i)) else none)) → (∀ i, i < r → oSh H (S (2 * i)) (S (2 * i + 1)) (-1) 0 (fun _ => 0)) → (∀ y, H17 y ≠ none → y ≠ q4 → H y = H17 y) → 9 - r < fu → z_w g X cX8_init RX8 (5, 332, 21509) 75 [z_r b, z_i (r : Int)] [] H k n := by
    intro fu
    induction fu with
    | zero => intro r S H k n p1 p2 p3 q1 q2 q3 q9 q5 hm; exact absurd hm (Nat.not_lt_zero _)
    | succ fu ih =>
      intro r S H k n p1 p2 p3 q1 q2 q33 q9 q55 hm
      have nb4 : b ≠ q4 := nbq4.symm
      have bH : H b = some (c_O 7 [z_r (T 0), z_r (U 0), z_i 0, z_r q3, z_i 0, z_r q4, z_r q5, z_r q6, z_r q8]) := (q55 b (by rw [hb7]; exact Option.some_ne_none _) nb4).trans hb7
      refine z_iload_n dX8_init_75 rfl ?_
      refine z_aload_n dX8_init_76 rfl ?_
      refine gf_X8_25 dX8_init_77 bH rfl ?_
      refine z_alenA dX8_init_80 (by decide) q33 ?_
      refine z_icmp_ge dX8_init_81 (tgt := 103) rfl ⟨by omega, by omega⟩ (by decide) (fun c1 => ?_) (fun c1 => ?_)
      · skip
        obtain rfl : r = 8 := by omega
        have h0q4 : h q4 = none := by have := A7.2.2.1 308 (by decide) (by decide); rwa [show (alx (alx (alx (alx (alx (alx (alx (fun _ => b) 1 T) 154 U) 307 (fun _ => q3)) 308 (fun _ => q4)) 309 V) 314 C) 316 (fun _ => q8)) 308 = q4 from rfl] at this
        have AF : AL b h H (alx (alx (alx (alx (alx (alx (alx (alx (fun _ => b) 1 T) 154 U) 307 (fun _ => q3)) 308 (fun _ => q4)) 309 V) 314 C) 316 (fun _ => q8)) 317 S) 333 := A7.ext (m := 16) (x := q4) (by decide) q1 q2 (fun t ht => ?_) (by rw [q33]; exact Option.some_ne_none _) (Or.inr h0q4) q55
        refine z_vret F dX8_init_103 rfl ⟨by show _ ≤ 332; omega, by show _ ≤ 21509; omega⟩ ⟨rfl, _, AF, fun ad Th Lk Ho Sz G Gt hA hHo => ?_⟩
        · have aT : ∀ t, t < 153 → tN ad t = T t := fun t ht => by
              show ad (27 + t) = T t
              rw [hA _ (by omega), show prm (27 + t) = 1 + t by unfold prm; rw [if_neg (by omega), if_neg (by omega)]; omega, alx_lo (by omega), alx_lo (by omega), alx_lo (by omega), alx_lo (by omega), alx_lo (by omega), alx_lo (by omega), alx_lo (by omega), alx_hi (by omega)]; congr 1; omega
          have aU : ∀ t, t < 153 → tK ad t = U t := fun t ht => by
              show ad (180 + t) = U t
              rw [hA _ (by omega), show prm (180 + t) = 154 + t by unfold prm; rw [if_neg (by omega), if_neg (by omega)]; omega, alx_lo (by omega), alx_lo (by omega), alx_lo (by omega), alx_lo (by omega), alx_lo (by omega), alx_lo (by omega), alx_hi (by omega)]; congr 1; omega
          have aS : ∀ j, j < 16 → ad (11 + j) = S j := fun j hj => by
              rw [hA _ (by omega), show prm (11 + j) = 317 + j by unfold prm; rw [if_neg (by omega), if_pos (by omega)]; omega, alx_hi (by omega)]; congr 1; omega
          have a_0 : ad 0 = b := (hA 0 (by decide)).trans rfl
          have a_1 : ad 1 = q3 := (hA 1 (by decide)).trans rfl
          have a_2 : ad 2 = q4 := (hA 2 (by decide)).trans rfl
          have a_10 : ad 10 = q8 := (hA 10 (by decide)).trans rfl
          have a_3 : ad 3 = q5 := (hA 3 (by decide)).trans V0
          have a_4 : ad 4 = pc := (hA 4 (by decide)).trans V1
          have a_5 : ad 5 = pk := (hA 5 (by decide)).trans V2
          have a_6 : ad 6 = po := (hA 6 (by decide)).trans V3
          have a_7 : ad 7 = pv := (hA 7 (by decide)).trans V4
          have a_8 : ad 8 = q6 := (hA 8 (by decide)).trans C0
          have a_9 : ad 9 = q7 := (hA 9 (by decide)).trans C1
          have mq3 : q3 ≠ q4 := fun e => absurd (A7.2.1 307 308 (by decide) (by decide) (show (alx (alx (alx (alx (alx (alx (alx (fun _ => b) 1 T) 154 U) 307 (fun _ => q3)) 308 (fun _ => q4)) 309 V) 314 C) 316 (fun _ => q8)) 307 = (alx (alx (alx (alx (alx (alx (alx (fun _ => b) 1 T) 154 U) 307 (fun _ => q3)) 308 (fun _ => q4)) 309 V) 314 C) 316 (fun _ => q8)) 308 from e)) (by decide)
          have mq5 : q5 ≠ q4 := fun e => absurd (A7.2.1 309 308 (by decide) (by decide) (show (alx (alx (alx (alx (alx (alx (alx (fun _ => b) 1 T) 154 U) 307 (fun _ => q3)) 308 (fun _ => q4)) 309 V) 314 C) 316 (fun _ => q8)) 309 = (alx (alx (alx (alx (alx (alx (alx (fun _ => b) 1 T) 154 U) 307 (fun _ => q3)) 308 (fun _ => q4)) 309 V) 314 C) 316 (fun _ => q8)) 308 from (V0.trans e : _))) (by decide)
          have mpc : pc ≠ q4 := fun e => absurd (A7.2.1 310 308 (by decide) (by decide) (show (alx (alx (alx (alx (alx (alx (alx (fun _ => b) 1 T) 154 U) 307 (fun _ => q3)) 308 (fun _ => q4)) 309 V) 314 C) 316 (fun _ => q8)) 310 = (alx (alx (alx (alx (alx (alx (alx (fun _ => b) 1 T) 154 U) 307 (fun _ => q3)) 308 (fun _ => q4)) 309 V) 314 C) 316 (fun _ => q8)) 308 from (V1.trans e : _))) (by decide)
          have mpk : pk ≠ q4 := fun e => absurd (A7.2.1 311 308 (by decide) (by decide) (show (alx (alx (alx (alx (alx (alx (alx (fun _ => b) 1 T) 154 U) 307 (fun _ => q3)) 308 (fun _ => q4)) 309 V) 314 C) 316 (fun _ => q8)) 311 = (alx (alx (alx (alx (alx (alx (alx (fun _ => b) 1 T) 154 U) 307 (fun _ => q3)) 308 (fun _ => q4)) 309 V) 314 C) 316 (fun _ => q8)) 308 from (V2.trans e : _))) (by decide)
          have mpo : po ≠ q4 := fun e => absurd (A7.2.1 312 308 (by decide) (by decide) (show (alx (alx (alx (alx (alx (alx (alx (fun _ => b) 1 T) 154 U) 307 (fun _ => q3)) 308 (fun _ => q4)) 309 V) 314 C) 316 (fun _ => q8)) 312 = (alx (alx (alx (alx (alx (alx (alx (fun _ => b) 1 T) 154 U) 307 (fun _ => q3)) 308 (fun _ => q4)) 309 V) 314 C) 316 (fun _ => q8)) 308 from (V3.trans e : _))) (by decide)
          have mpv : pv ≠ q4 := fun e => absurd (A7.2.1 313 308 (by decide) (by decide) (show (alx (alx (alx (alx (alx (alx (alx (fun _ => b) 1 T) 154 U) 307 (fun _ => q3)) 308 (fun _ => q4)) 309 V) 314 C) 316 (fun _ => q8)) 313 = (alx (alx (alx (alx (alx (alx (alx (fun _ => b) 1 T) 154 U) 307 (fun _ => q3)) 308 (fun _ => q4)) 309 V) 314 C) 316 (fun _ => q8)) 308 from (V4.trans e : _))) (by decide)
          have mq6 : q6 ≠ q4 := fun e => absurd (A7.2.1 314 308 (by decide) (by decide) (show (alx (alx (alx (alx (alx (alx (alx (fun _ => b) 1 T) 154 U) 307 (fun _ => q3)) 308 (fun _ => q4)) 309 V) 314 C) 316 (fun _ => q8)) 314 = (alx (alx (alx (alx (alx (alx (alx (fun _ => b) 1 T) 154 U) 307 (fun _ => q3)) 308 (fun _ => q4)) 309 V) 314 C) 316 (fun _ => q8)) 308 from (C0.trans e : _))) (by decide)
          have mq7 : q7 ≠ q4 := fun e => absurd (A7.2.1 315 308 (by decide) (by decide) (show (alx (alx (alx (alx (alx (alx (alx (fun _ => b) 1 T) 154 U) 307 (fun _ => q3)) 308 (fun _ => q4)) 309 V) 314 C) 316 (fun _ => q8)) 315 = (alx (alx (alx (alx (alx (alx (alx (fun _ => b) 1 T) 154 U) 307 (fun _ => q3)) 308 (fun _ => q4)) 309 V) 314 C) 316 (fun _ => q8)) 308 from (C1.trans e : _))) (by decide)
          have mq8 : q8 ≠ q4 := fun e => absurd (A7.2.1 316 308 (by decide) (by decide) (show (alx (alx (alx (alx (alx (alx (alx (fun _ => b) 1 T) 154 U) 307 (fun _ => q3)) 308 (fun _ => q4)) 309 V) 314 C) 316 (fun _ => q8)) 316 = (alx (alx (alx (alx (alx (alx (alx (fun _ => b) 1 T) 154 U) 307 (fun _ => q3)) 308 (fun _ => q4)) 309 V) 314 C) 316 (fun _ => q8)) 308 from e)) (by decide)
          have mT : ∀ t, t < 153 → T t ≠ q4 := fun t ht e => by
              have e9 : (alx (alx (alx (alx (alx (alx (alx (fun _ => b) 1 T) 154 U) 307 (fun _ => q3)) 308 (fun _ => q4)) 309 V) 314 C) 316 (fun _ => q8)) (1 + t) = T t := by rw [alx_lo (by omega), alx_lo (by omega), alx_lo (by omega), alx_lo (by omega), alx_lo (by omega), alx_lo (by omega), alx_hi (by omega)]; congr 1; omega
              have := A7.2.1 (1 + t) 308 (by omega) (by decide) (e9.trans e)
              omega
          have mU : ∀ t, t < 153 → U t ≠ q4 := fun t ht e => by
              have e9 : (alx (alx (alx (alx (alx (alx (alx (fun _ => b) 1 T) 154 U) 307 (fun _ => q3)) 308 (fun _ => q4)) 309 V) 314 C) 316 (fun _ => q8)) (154 + t) = U t := by rw [alx_lo (by omega), alx_lo (by omega), alx_lo (by omega), alx_lo (by omega), alx_lo (by omega), alx_hi (by omega)]; congr 1; omega
              have := A7.2.1 (154 + t) 308 (by omega) (by decide) (e9.trans e)
              omega
          have hsT := (sT_7.fr (fun t ht => q55 _ (sT_7.dom ht) (mT t ht))).cg aT
          have hsU := (sU_7.fr (fun t ht => q55 _ (sU_7.dom ht) (mU t ht))).cg aU
          refine ⟨⟨?_, ?_, ?_, ?_⟩, ⟨(fun _ => 0, fun _ => 0, fun _ => 0, 0, 0, 0, 0, 0, 0), ?_⟩, ⟨fun _ => 0, ⟨?_, ?_, by decide⟩, fun k hk => absurd hk (by omega)⟩, fun s hs => ?_, ⟨_, _, _, _, _, _, _, _, _, _, _, hsT, fun i hi a ha => (by cases ha), fun _ => ⟨⟨rfl, rfl, rfl, rfl, rfl, rfl⟩, fun i hi => absurd hi (by omega), fun i hi => absurd hi (show ¬ ((i : Int) < 0) by omega)⟩⟩, ⟨_, _, _, _, _, _, _, _, _, _, _, hsU, fun i hi a ha => (by cases ha), fun q => absurd rfl q⟩⟩
          · rw [aT 0 (by decide), aU 0 (by decide), a_0, a_1, a_2, a_3, a_8, a_10]; exact bH
          · rw [a_1]; exact ((q55 _ (by rw [cq3_7]; exact Option.some_ne_none _) mq3).trans cq3_7)
          · rw [a_2, q33]
            refine congrArg (fun f => some (c_A 2 8 f)) (funext fun i => ?_)
            show (if i < 8 then some (S (2 * i)) else none) = if i < 8 then some (ad (11 + 2 * i)) else none
            by_cases c : i < 8
            · rw [if_pos c, if_pos c, aS _ (by omega)]
            · rw [if_neg c, if_neg c]
          · rw [a_10]; exact ((q55 _ (by rw [cq8_7]; exact Option.some_ne_none _) mq8).trans cq8_7)
          · rw [a_3, a_4, a_5, a_6, a_7]
            funext j
            unfold PH
            by_cases cq5 : j = q5
            · rw [if_pos cq5, cq5]; exact ((q55 _ (by rw [x3_7]; exact Option.some_ne_none _) mq5).trans x3_7)
            rw [if_neg cq5]
            by_cases cpc : j = pc
            · rw [if_pos cpc, cpc]; exact ((q55 _ (by rw [x4_7]; exact Option.some_ne_none _) mpc).trans x4_7)
            rw [if_neg cpc]
            by_cases cpk : j = pk
            · rw [if_pos cpk, cpk]; exact ((q55 _ (by rw [x5_7]; exact Option.some_ne_none _) mpk).trans x5_7)
            rw [if_neg cpk]
            by_cases cpo : j = po
            · rw [if_pos cpo, cpo]; exact ((q55 _ (by rw [x6_7]; exact Option.some_ne_none _) mpo).trans x6_7)
            rw [if_neg cpo]
            by_cases cpv : j = pv
            · rw [if_pos cpv, cpv]; exact ((q55 _ (by rw [x7_7]; exact Option.some_ne_none _) mpv).trans x7_7)
            rw [if_neg cpv]
          · rw [a_8, a_9]; exact ((q55 _ (by rw [y1_7]; exact Option.some_ne_none _) mq6).trans y1_7)
          · rw [a_9]; exact ((q55 _ (by rw [y2_7]; exact Option.some_ne_none _) mq7).trans y2_7)
          · have hS := q9 s hs
            rw [show ad (11 + 2 * s) = S (2 * s) from aS _ (by omega), show ad (12 + 2 * s) = S (2 * s + 1) by rw [show 12 + 2 * s = 11 + (2 * s + 1) by omega]; exact aS _ (by omega), hHo s hs]
            exact ⟨0, fun _ => 0, hS, fun q => absurd q (by decide), fun _ _ => rfl⟩
        · rcases (show t = 2 * (t / 2) ∨ t = 2 * (t / 2) + 1 by omega) with c | c
          · rw [c, (q9 (t / 2) (by omega)).1]; exact Option.some_ne_none _
          · rw [c, (q9 (t / 2) (by omega)).2.1]; exact Option.some_ne_none _
      · skip
        refine z_aload_n dX8_init_84 rfl ?_
        refine gf_X8_25 dX8_init_85 bH rfl ?_
        refine z_iload_n dX8_init_88 rfl ?_
        have H4n : H17 q4 ≠ none := by rw [cq4_7]; exact Option.some_ne_none _
        have hdS : ∀ t, t < 2 * r → H (S t) ≠ none := fun t ht => by
          rcases (show t = 2 * (t / 2) ∨ t = 2 * (t / 2) + 1 by omega) with c | c
          · rw [c, (q9 (t / 2) (by omega)).1]; exact Option.some_ne_none _
          · rw [c, (q9 (t / 2) (by omega)).2.1]; exact Option.some_ne_none _
        refine nw_X8_23 dX8_init_89 ⟨by show _ ≤ 332; omega, by show _ ≤ 21509; omega⟩ (fun q hq => ?_)
        refine z_dup dX8_init_92 rfl ?_
        refine cs_X8_46 dX8_init_93 (D_X5_init (a := q) z_up_s) rfl rfl (Nat.le_of_ble_eq_true rfl) ⟨by decide, by show _ ≤ 332; omega, by show _ ≤ 21509; omega⟩ (fun rv H2 hq8_ => ?_)
        obtain ⟨rfl, k9, hk9, hkq, ⟨z1, z2, z3⟩, hfr⟩ := hq8_
        have uk9 := z_up_none hk9
        have key : ∀ y, H y ≠ none → H2 y = H y := fun y hy => by
          have n1 : y ≠ q := fun e => hy (by rw [e]; exact hq)
          rw [hfr y n1 (fun e => hy (by rw [e]; exact uk9.2)), z_up_n n1]
        have H64 : ∀ y, H17 y ≠ none → H y ≠ none := fun y hy => by
          by_cases c : y = q4
          · rw [c, q33]; exact Option.some_ne_none _
          · rw [q55 y hy c]; exact hy
        have fq : H17 q = none := by cases h9 : H17 q with | none => rfl | some z => exact absurd hq (H64 q (by rw [h9]; exact Option.some_ne_none _))
        have fk : H17 k9 = none := by cases h9 : H17 k9 with | none => rfl | some z => exact absurd uk9.2 (H64 k9 (by rw [h9]; exact Option.some_ne_none _))
        have q4H2 : H2 q4 = some (c_A 2 8 (fun i => if i < r then some (S (2 * i)) else none)) := (key q4 (by rw [q33]; exact Option.some_ne_none _)).trans q33
        have nq4 : q ≠ q4 := fun e => by rw [e, q33] at hq; cases hq
        have nk4 : k9 ≠ q4 := fun e => by have := uk9.2; rw [e, q33] at this; cases this
        show z_w _ _ _ _ _ _ _ [z_r q, z_i (r : Int), z_r q4] _ _ _
        refine z_aastQ (m := r) dX8_init_96 q4H2 rfl ⟨by omega, by omega⟩ z1 rfl rfl ?_
        refine z_iinc dX8_init_97 rfl rfl ?_
        refine z_goto dX8_init_100 (tgt := 75) rfl ?_
        obtain ⟨S', hS'⟩ : ∃ S' : Nat → Nat, S' = fun t => if t = 2 * r then q else if t = 2 * r + 1 then k9 else S t := ⟨_, rfl⟩
        have S1 : ∀ t, t < 2 * r → S' t = S t := fun t ht => by rw [hS']; show (if _ then _ else _) = _; rw [if_neg (by omega), if_neg (by omega)]
        have S2 : S' (2 * r) = q := by rw [hS']; exact if_pos rfl
        have S3 : S' (2 * r + 1) = k9 := by rw [hS']; show (if _ then _ else _) = _; rw [if_neg (by omega), if_pos rfl]
        have cs : ∀ t, t < 2 * (r + 1) → (t < 2 * r ∧ S' t = S t) ∨ (t = 2 * r ∧ S' t = q) ∨ (t = 2 * r + 1 ∧ S' t = k9) := fun t ht => by
          rcases (show t < 2 * r ∨ t = 2 * r ∨ t = 2 * r + 1 by omega) with c | c | c
          · exact Or.inl ⟨c, S1 t c⟩
          · exact Or.inr (Or.inl ⟨c, by rw [c]; exact S2⟩)
          · exact Or.inr (Or.inr ⟨c, by rw [c]; exact S3⟩)
        have nS : ∀ t, t < 2 * r → S t ≠ q := fun t ht e => hdS t ht (by rw [e]; exact hq)
        have nK : ∀ t, t < 2 * r → S t ≠ k9 := fun t ht e => hdS t ht (by rw [e]; exact uk9.2)
        have n4 : ∀ t, t < 2 * r → S t ≠ q4 := fun t ht e => H4n (by rw [← e]; exact q2 t ht)
        refine ih (r + 1) S' _ _ _ (by omega) (by omega) (by omega) ?_ ?_ ?_ ?_ ?_ (by omega)
        · intro i j hi hj e
          rcases cs i hi with ⟨c1, c2⟩ | ⟨c1, c2⟩ | ⟨c1, c2⟩ <;> rcases cs j hj with ⟨b1, b2⟩ | ⟨b1, b2⟩ | ⟨b1, b2⟩ <;> rw [c2, b2] at e
          · exact q1 i j c1 b1 e
          · exact absurd e (nS i c1)
          · exact absurd e (nK i c1)
          · exact absurd e.symm (nS j b1)
          · omega
          · exact absurd e.symm hkq
          · exact absurd e.symm (nK j b1)
          · exact absurd e hkq
          · omega
        · intro t ht
          rcases cs t ht with ⟨c1, c2⟩ | ⟨c1, c2⟩ | ⟨c1, c2⟩ <;> rw [c2]
          · exact q2 t c1
          · exact fq
          · exact fk
        · rw [z_up_s]
          refine congrArg (fun f => some (c_A 2 8 f)) (funext fun i => ?_)
          show (if i = r then some q else if i < r then some (S (2 * i)) else none) = if i < r + 1 then some (S' (2 * i)) else none
          rcases (show i < r ∨ i = r ∨ r < i by omega) with c | c | c
          · rw [if_neg (by omega), if_pos c, if_pos (by omega), S1 _ (by omega)]
          · rw [if_pos c, if_pos (by omega), c, S2]
          · rw [if_neg (by omega), if_neg (by omega), if_neg (by omega)]
        · intro i hi
          rcases (show i < r ∨ i = r by omega) with c | c
          · obtain ⟨u1, u2, u3⟩ := q9 i c
            rw [S1 _ (by omega), S1 _ (by omega)]
            exact ⟨(z_up_n (n4 _ (by omega))).trans ((key _ (by rw [u1]; exact Option.some_ne_none _)).trans u1), (z_up_n (n4 _ (by omega))).trans ((key _ (by rw [u2]; exact Option.some_ne_none _)).trans u2), u3⟩
          · rw [c, S2, S3]; exact ⟨(z_up_n nq4).trans z1, (z_up_n nk4).trans z2, z3⟩
        · intro y hy hy4
          rw [z_up_n hy4, key y (by rw [q55 y hy hy4]; exact hy)]; exact q55 y hy hy4
  exact L4 10 0 (fun _ => 0) H17 _ _ (by omega) rfl rfl (fun i j hi hj _ => absurd hi (by omega)) (fun t ht => absurd ht (by omega)) cq4_7 (fun i hi => absurd hi (Nat.not_lt_zero _)) (fun y _ _ => rfl) (by omega)
