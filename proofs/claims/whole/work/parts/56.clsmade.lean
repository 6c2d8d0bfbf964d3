/-! State: where the first stitches came from; all that is made -/
/-- worked rows tell what the state's row tells -/
def clR (N : z_row) (dc : Int) (sd ln zz : Nat → Int) (ff : Nat → z_row) : Prop := ∀ i : Nat, (i : Int) < dc → sd i = N (5026 + 204 * i) ∧ ln i = N (5026 + 204 * i + 1) ∧ zz i = (zF N i : Int) ∧ ∀ j, j < zF N i → ff i j = kR N i j
theorem clR.f {N : z_row} {G : Nat → z_G4} {sd ln zz : Nat → Int} {ff : Nat → z_row} (h : clR N (N 5025) sd ln zz ff) (hw : nWf N G) {i : Nat} (hi : (i : Int) < N 5025) : zz i = (zF N i : Int) ∧ fOk (zF N i : Int) (ff i) ∧ ∀ t, sG t (ff i) (zF N i) = sG t (kR N i) (zF N i) := by
  obtain ⟨h1, h2, h3, h4⟩ := h i hi
  have hR := hw.2.2.2.2.2.2 i hi
  exact ⟨h3, fun j hj => by rw [h4 j (by omega)]; exact hR.1.2.2.2 j (by omega), fun t => sG_ag _ h4⟩
set_option maxHeartbeats 4000000 in
set_option maxRecDepth 100000 in
theorem D_X6_placesAtFirst {g : z_G} {h : z_H} {T : Nat → Nat} {Lf : Nat → Option Nat} {sd ln zz : Nat → Int} {ff : Nat → z_row} {N : z_row} {G : Nat → z_G4} (hs : sH h T Lf (N 5020) (N 5025) (N 5023) (N 5022) (N 5021) (N 5024) sd ln zz ff) (hw : nWf N G) (hr : clR N (N 5025) sd ln zz ff) {j : Nat} (hj : (j : Int) < N 5023) : z_D g mX6_placesAtFirst 4 0 0 [z_r (T 0), z_i (j : Int)] h (fun rv h' => (∃ v : Nat, rv = some (z_l (v : Int)) ∧ ∀ p, v.testBit p = true ↔ orP N (N 5025).toNat (fun q => q = j) p) ∧ h' = h) := by
  refine z_D.of (by decide +kernel) (Nat.le_of_ble_eq_true rfl) (fun X F => ?_)
  obtain ⟨e0, e1, e2, e3, b1, b2, b3, b4, b5⟩ := id hs
  obtain ⟨w1, w2, w3, w4, w5, w6, w7⟩ := id hw
  show z_w g X cX6_placesAtFirst RX6 (4, 0, 0) 0 [z_r (T 0), z_i (j : Int), z_u, z_u, z_u, z_u, z_u, z_u, z_u] [] h 0 0
  refine z_lconst1 dX6_placesAtFirst_0 ?_
  refine z_iload_n dX6_placesAtFirst_1 rfl ?_
  refine z_lshl (a := 1) (s := j) (by omega) dX6_placesAtFirst_2 ?_
  refine z_lstore_n dX6_placesAtFirst_3 (Nat.le_of_ble_eq_true rfl) rfl ?_
  refine z_aload_n dX6_placesAtFirst_4 rfl ?_
  refine gf_X6_48 dX6_placesAtFirst_5 e0 rfl ?_
  refine z_istore dX6_placesAtFirst_8 (Nat.le_of_ble_eq_true rfl) rfl ?_
  refine z_aload_n dX6_placesAtFirst_10 rfl ?_
  refine gf_X6_34 dX6_placesAtFirst_11 e0 rfl ?_
  refine z_iconst dX6_placesAtFirst_14 ?_
  refine z_isub dX6_placesAtFirst_15 ?_
  refine z_istore dX6_placesAtFirst_16 (Nat.le_of_ble_eq_true rfl) rfl ?_
  obtain ⟨M, hM9⟩ : ∃ M : Nat, N 5025 = (M : Int) := ⟨(N 5025).toNat, by omega⟩
  have hM8 : (N 5025).toNat = M := by omega
  obtain ⟨c0, hc0⟩ : ∃ c0 : Nat, N 5023 = (c0 : Int) := ⟨(N 5023).toNat, by omega⟩
  have hv0 : (1 * 2 ^ j : Nat) < 2 ^ 60 := by rw [Nat.one_mul]; exact Nat.pow_lt_pow_right (by decide) (by omega)
  have hv1 : orP N M (fun q => q = j) = orP N M (fun p => (1 * 2 ^ j : Nat).testBit p = true) := congrArg _ (by funext p; rw [Nat.one_mul, Nat.testBit_two_pow, decide_eq_true_eq]; exact propext ⟨fun q => q.symm, fun q => q.symm⟩)
  refine z_lseq (ls2 := [z_r (T 0), z_i (j : Int), z_l ((1 * 2 ^ j : Nat) : Int), z_u, z_i (c0 : Int), z_i ((M : Int) - 1), z_u, z_u, z_u]) (by rw [hM9, hc0]; rfl) ?_
  have L4 : ∀ (fu : Nat) (m v cn : Nat) (y6 y7 y8 : z_V) (q1 : (m : Int) ≤ N 5025) (q2 : v < 2 ^ 60) (q3 : orP N M (fun q => q = j) = orP N m (fun p => v.testBit p = true)) (q4 : (∀ w : Nat, m = w + 1 → (cn : Int) = sG kM (kR N w) (zF N w))), m < fu → z_w g X cX6_placesAtFirst RX6 (4, 0, 0) 18 [z_r (T 0), z_i (j : Int), z_l (v : Int), z_u, z_i (cn : Int), z_i ((m : Int) - 1), y6, y7, y8] [] h 0 0 := by
    intro fu
    induction fu with
    | zero => intro m v cn y6 y7 y8 q1 q2 q3 q4 hm; exact absurd hm (Nat.not_lt_zero _)
    | succ fu ih =>
      intro m v cn y6 y7 y8 q1 q2 q3 q4 hm
      refine z_iload dX6_placesAtFirst_18 rfl ?_
      refine z_if_lt dX6_placesAtFirst_20 (tgt := 92) rfl ⟨by omega, by omega⟩ (fun c1 => ?_) (fun c1 => ?_)
      · skip
        obtain rfl : m = 0 := by omega
        refine z_lload_n dX6_placesAtFirst_92 rfl ?_
        exact z_lret F dX6_placesAtFirst_93 rfl (by decide) ⟨⟨v, rfl, fun p => by rw [hM8, q3]; exact Iff.rfl⟩, rfl⟩
      · skip
        obtain ⟨m2, rfl⟩ : ∃ y, m = y + 1 := ⟨m - 1, by omega⟩
        have hR := w7 m2 (by omega)
        have hW := hR.1
        have s1 := hR.2.2.2.2.1
        have s2 := hR.2.2.2.2.2.1
        have s0 := sG_0 kM_0 (f := kR N m2) (m := zF N m2)
        have t0 := sG_0 kT_0 (f := kR N m2) (m := zF N m2)
        have hz200 := hW.2.2.1
        have hcn := q4 m2 rfl
        obtain ⟨f1, f2, f3⟩ := hr.f hw (i := m2) (by omega)
        obtain ⟨d0, d1, d2, d3⟩ := e3 m2 (by omega)
        rw [f1] at d1 d3
        have hm2 : ((m2 + 1 : Nat) : Int) - 1 = (m2 : Int) := by omega
        refine z_lseq (ls2 := [z_r (T 0), z_i (j : Int), z_l (v : Int), z_u, z_i (cn : Int), z_i (m2 : Int), y6, y7, y8]) (by rw [hm2]) ?_
        refine z_aload_n dX6_placesAtFirst_23 rfl ?_
        refine z_iload dX6_placesAtFirst_24 rfl ?_
        refine cs_X6_37 dX6_placesAtFirst_26 (D_X6_doneAt hs (i := (m2 : Int)) ⟨by omega, by omega⟩) e0 rfl rfl (Nat.le_of_ble_eq_true rfl) (by decide) (fun rv h9 hq => ?_)
        have hq1 := hq.1
        have hq2 := hq.2
        subst hq1
        subst hq2
        rw [if_pos ⟨by omega, by omega⟩, Int.toNat_natCast]
        refine z_ks ?_
        refine z_astore dX6_placesAtFirst_29 (Nat.le_of_ble_eq_true rfl) rfl ?_
        refine z_aload dX6_placesAtFirst_31 rfl ?_
        refine z_ifnonnull dX6_placesAtFirst_33 (tgt := 38) rfl (fun _ _ => ?_) (fun c2 => by cases c2)
        refine z_aload_n dX6_placesAtFirst_38 rfl ?_
        refine gf_X6_27 dX6_placesAtFirst_39 e0 rfl ?_
        refine z_if_ne dX6_placesAtFirst_42 (tgt := 54) rfl ⟨by omega, by omega⟩ (fun c3 => ?_) (fun c3 => ?_)
        · skip
          refine z_lload_n dX6_placesAtFirst_54 rfl ?_
          have hbk : ∀ k, k < cn → (v.testBit k = true ↔ v.testBit (if N 5021 = 0 then (sG kM (kR N m2) (zF N m2)).toNat - 1 - k else k) = true) := fun k hk => by
            rw [if_neg (by omega)]
          refine z_lstore dX6_placesAtFirst_55 (Nat.le_of_ble_eq_true rfl) rfl ?_
          refine z_aload dX6_placesAtFirst_57 rfl ?_
          refine gf_X6_51 dX6_placesAtFirst_59 d0 rfl ?_
          refine z_lload dX6_placesAtFirst_62 rfl ?_
          refine cs_X6_87 dX6_placesAtFirst_64 (D_X7_rootsOf (Z := zF N m2) ⟨d1, d2, d3⟩ f2 (by rw [f3]; exact s1) (by rw [f3]; exact s2) (bt := v) (by omega)) d1 rfl rfl (Nat.le_of_ble_eq_true rfl) (by decide) (fun rv h9 hq => ?_)
          obtain ⟨⟨u, rfl, hu2, hut⟩, hq2⟩ := hq
          subst hq2
          refine z_ks ?_
          have hOR : orP N (m2 + 1) (fun p => v.testBit p = true) = orP N m2 (fun p => u.testBit p = true) := by
            show orP N m2 (RB (kR N m2) (zF N m2) (fun k => v.testBit (if N 5021 = 0 then (sG kM (kR N m2) (zF N m2)).toNat - 1 - k else k) = true)) = _
            refine congrArg _ (funext fun p => propext ?_)
            rw [hut p]
            have hag : ∀ j, j < zF N m2 → ff m2 j = kR N m2 j := (hr m2 (by omega)).2.2.2
            have hk1 : ∀ i, i < zF N m2 → kM (kR N m2 i) = 1 → (sG kM (kR N m2) i).toNat < cn := fun i h1 h2 => by
              have h5 := sG_mono kM_0 (f := kR N m2) (zF N m2) (i + 1) h1
              have h6 := sG_0 kM_0 (f := kR N m2) (m := i)
              rw [sG_s] at h5
              omega
            constructor
            · rintro ⟨i, h1, h2, h3, h4⟩
              exact RB_ag (fun j hj => (hag j hj).symm) ⟨i, h1, h2, (hbk _ (hk1 i h1 h2)).mpr h3, h4⟩
            · intro hh
              obtain ⟨i, h1, h2, h3, h4⟩ := RB_ag hag hh
              exact ⟨i, h1, h2, (hbk _ (hk1 i h1 h2)).mp h3, h4⟩
          refine z_lstore_n dX6_placesAtFirst_67 (Nat.le_of_ble_eq_true rfl) rfl ?_
          refine z_aload dX6_placesAtFirst_68 rfl ?_
          refine gf_X6_51 dX6_placesAtFirst_70 d0 rfl ?_
          refine z_aload dX6_placesAtFirst_73 rfl ?_
          refine gf_X6_51 dX6_placesAtFirst_75 d0 rfl ?_
          refine gf_X6_76 dX6_placesAtFirst_78 d1 rfl ?_
          refine cs_X6_79 dX6_placesAtFirst_81 (D_X7_takenAhead (z := (zF N m2 : Int)) ⟨d1, d2, d3⟩ f2 (i := (zF N m2 : Int)) ⟨by omega, by omega⟩) d1 rfl rfl (Nat.le_of_ble_eq_true rfl) (by decide) (z_ki ?_)
          obtain ⟨c9, hc9⟩ : ∃ c9 : Nat, sG kT (kR N m2) (zF N m2) = (c9 : Int) := ⟨(sG kT (kR N m2) (zF N m2)).toNat, by omega⟩
          refine z_ieq (y := (c9 : Int)) (by rw [if_neg (by omega), Int.toNat_natCast, f3]; exact hc9) ?_
          have hCN : ∀ w : Nat, m2 = w + 1 → (c9 : Int) = sG kM (kR N w) (zF N w) := fun w hw9 => by
            subst hw9
            rw [(w7 w (by omega)).2.2.2.2.2.2, if_neg (by omega), ← hc9]
            exact hR.2.2.2.1
          refine z_istore dX6_placesAtFirst_84 (Nat.le_of_ble_eq_true rfl) rfl ?_
          refine z_iinc dX6_placesAtFirst_86 rfl rfl ?_
          refine z_goto dX6_placesAtFirst_89 (tgt := 18) rfl ?_
          exact ih m2 u _ _ _ _ (by omega) hu2 (q3.trans hOR) hCN (by omega)
        · skip
          refine z_lload_n dX6_placesAtFirst_45 rfl ?_
          refine z_iload dX6_placesAtFirst_46 rfl ?_
          refine cs_X6_83 dX6_placesAtFirst_48 (D_X6_turnedAbout (n := cn) q2 (by omega)) rfl rfl (Nat.le_of_ble_eq_true rfl) (by decide) (fun rv h9 hq => ?_)
          obtain ⟨⟨mt, rfl, hmt, hmtb⟩, hq2⟩ := hq
          subst hq2
          refine z_ks ?_
          refine z_goto dX6_placesAtFirst_51 (tgt := 55) rfl ?_
          have hbk : ∀ k, k < cn → (mt.testBit k = true ↔ v.testBit (if N 5021 = 0 then (sG kM (kR N m2) (zF N m2)).toNat - 1 - k else k) = true) := fun k hk => by
            rw [if_pos (by omega), show (sG kM (kR N m2) (zF N m2)).toNat = cn by omega, hmtb k]
            exact ⟨fun q => q.2, fun q => ⟨hk, q⟩⟩
          refine z_lstore dX6_placesAtFirst_55 (Nat.le_of_ble_eq_true rfl) rfl ?_
          refine z_aload dX6_placesAtFirst_57 rfl ?_
          refine gf_X6_51 dX6_placesAtFirst_59 d0 rfl ?_
          refine z_lload dX6_placesAtFirst_62 rfl ?_
          refine cs_X6_87 dX6_placesAtFirst_64 (D_X7_rootsOf (Z := zF N m2) ⟨d1, d2, d3⟩ f2 (by rw [f3]; exact s1) (by rw [f3]; exact s2) (bt := mt) (by omega)) d1 rfl rfl (Nat.le_of_ble_eq_true rfl) (by decide) (fun rv h9 hq => ?_)
          obtain ⟨⟨u, rfl, hu2, hut⟩, hq2⟩ := hq
          subst hq2
          refine z_ks ?_
          have hOR : orP N (m2 + 1) (fun p => v.testBit p = true) = orP N m2 (fun p => u.testBit p = true) := by
            show orP N m2 (RB (kR N m2) (zF N m2) (fun k => v.testBit (if N 5021 = 0 then (sG kM (kR N m2) (zF N m2)).toNat - 1 - k else k) = true)) = _
            refine congrArg _ (funext fun p => propext ?_)
            rw [hut p]
            have hag : ∀ j, j < zF N m2 → ff m2 j = kR N m2 j := (hr m2 (by omega)).2.2.2
            have hk1 : ∀ i, i < zF N m2 → kM (kR N m2 i) = 1 → (sG kM (kR N m2) i).toNat < cn := fun i h1 h2 => by
              have h5 := sG_mono kM_0 (f := kR N m2) (zF N m2) (i + 1) h1
              have h6 := sG_0 kM_0 (f := kR N m2) (m := i)
              rw [sG_s] at h5
              omega
            constructor
            · rintro ⟨i, h1, h2, h3, h4⟩
              exact RB_ag (fun j hj => (hag j hj).symm) ⟨i, h1, h2, (hbk _ (hk1 i h1 h2)).mpr h3, h4⟩
            · intro hh
              obtain ⟨i, h1, h2, h3, h4⟩ := RB_ag hag hh
              exact ⟨i, h1, h2, (hbk _ (hk1 i h1 h2)).mp h3, h4⟩
          refine z_lstore_n dX6_placesAtFirst_67 (Nat.le_of_ble_eq_true rfl) rfl ?_
          refine z_aload dX6_placesAtFirst_68 rfl ?_
          refine gf_X6_51 dX6_placesAtFirst_70 d0 rfl ?_
          refine z_aload dX6_placesAtFirst_73 rfl ?_
          refine gf_X6_51 dX6_placesAtFirst_75 d0 rfl ?_
          refine gf_X6_76 dX6_placesAtFirst_78 d1 rfl ?_
          refine cs_X6_79 dX6_placesAtFirst_81 (D_X7_takenAhead (z := (zF N m2 : Int)) ⟨d1, d2, d3⟩ f2 (i := (zF N m2 : Int)) ⟨by omega, by omega⟩) d1 rfl rfl (Nat.le_of_ble_eq_true rfl) (by decide) (z_ki ?_)
          obtain ⟨c9, hc9⟩ : ∃ c9 : Nat, sG kT (kR N m2) (zF N m2) = (c9 : Int) := ⟨(sG kT (kR N m2) (zF N m2)).toNat, by omega⟩
          refine z_ieq (y := (c9 : Int)) (by rw [if_neg (by omega), Int.toNat_natCast, f3]; exact hc9) ?_
          have hCN : ∀ w : Nat, m2 = w + 1 → (c9 : Int) = sG kM (kR N w) (zF N w) := fun w hw9 => by
            subst hw9
            rw [(w7 w (by omega)).2.2.2.2.2.2, if_neg (by omega), ← hc9]
            exact hR.2.2.2.1
          refine z_istore dX6_placesAtFirst_84 (Nat.le_of_ble_eq_true rfl) rfl ?_
          refine z_iinc dX6_placesAtFirst_86 rfl rfl ?_
          refine z_goto dX6_placesAtFirst_89 (tgt := 18) rfl ?_
          exact ih m2 u _ _ _ _ (by omega) hu2 (q3.trans hOR) hCN (by omega)
  exact L4 (M + 1) M _ c0 z_u z_u z_u (by omega) hv0 hv1 (fun w hw9 => by rw [(w7 w (by omega)).2.2.2.2.2.2, if_pos (by omega)]; exact hc0.symm) (by omega)
set_option maxHeartbeats 4000000 in
set_option maxRecDepth 100000 in
theorem D_X7_init {g : z_G} {h : z_H} {a : Nat} (h1 : h a = some (c_O 6 [z_n, z_i 0])) : z_D g mX7_init 2 1 200 [z_r a] h (fun rv h' => rv = none ∧ ∃ k : Nat, h k = none ∧ k ≠ a ∧ oSt h' a k 0 (fun _ => 0) ∧ ∀ y, y ≠ a → y ≠ k → h' y = h y) := by
  refine z_D.of (by decide +kernel) (Nat.le_of_ble_eq_true rfl) (fun X F => ?_)
  have fr0 : ∀ y, y ≠ a → h y = h y := fun y _ => rfl
  show z_w g X cX7_init RX7 (2, 1, 200) 0 [z_r a] [] h 0 0
  refine z_aload_n dX7_init_0 rfl ?_
  refine oi_X7_3 dX7_init_1 (by decide) (Nat.le_of_ble_eq_true rfl) ?_
  refine z_aload_n dX7_init_4 rfl ?_
  refine z_sipush dX7_init_5 rfl ?_
  refine z_newI (N := 200) wA_I dX7_init_8 rfl (by decide) ⟨by decide, by decide⟩ (fun q1 hq1 => ?_)
  have ne_a_q1 : a ≠ q1 := z_nef h1 hq1
  have fresh_q1 : h q1 = none := by rw [← fr0 q1 ne_a_q1.symm]; exact hq1
  obtain ⟨H1, hH1⟩ : ∃ H1, H1 = z_up h q1 (c_I 200 (fun _ => 0)) := ⟨_, rfl⟩
  refine z_heq hH1.symm ?_
  have e1_a : H1 a = some (c_O 6 [z_n, z_i 0]) := by rw [hH1, z_up_n ne_a_q1]; exact h1
  have e1_q1 : H1 q1 = some (c_I 200 (fun _ => 0)) := by rw [hH1]; exact z_up_s
  have fr1 : ∀ y, y ≠ a → y ≠ q1 → H1 y = h y := fun y n_a n_q1 => by rw [hH1, z_up_n n_q1] <;> exact fr0 y n_a
  refine pf_X7_9 F rfl dX7_init_10 e1_a (Nat.le_of_ble_eq_true rfl) ?_
  obtain ⟨H2, hH2⟩ : ∃ H2, H2 = z_up H1 a (c_O 6 [z_r q1, z_i 0]) := ⟨_, rfl⟩
  refine z_heq hH2.symm ?_
  have e2_q1 : H2 q1 = some (c_I 200 (fun _ => 0)) := by rw [hH2, z_up_n ne_a_q1.symm]; exact e1_q1
  have e2_a : H2 a = some (c_O 6 [z_r q1, z_i 0]) := by rw [hH2]; exact z_up_s
  have fr2 : ∀ y, y ≠ a → y ≠ q1 → H2 y = h y := fun y n_a n_q1 => by rw [hH2, z_up_n n_a] <;> exact fr1 y n_a n_q1
  exact z_vret F dX7_init_13 rfl ⟨by decide, by decide⟩ ⟨rfl, q1, fresh_q1, ne_a_q1.symm, ⟨e2_a, e2_q1, by decide, by decide⟩, fr2⟩
set_option maxHeartbeats 4000000 in
set_option maxRecDepth 100000 in
theorem D_X1_init {g : z_G} {h : z_H} {a : Nat} (h1 : h a = some (c_O 1 [z_n, z_i 0, z_i 0])) : z_D g mX1_init 3 2 202 [z_r a] h (fun rv h' => rv = none ∧ ∃ s k : Nat, (h s = none ∧ h k = none ∧ s ≠ a ∧ k ≠ a ∧ k ≠ s) ∧ oDo h' a s k 0 0 0 (fun _ => 0) ∧ ∀ y, y ≠ a → y ≠ s → y ≠ k → h' y = h y) := by
  refine z_D.of (by decide +kernel) (Nat.le_of_ble_eq_true rfl) (fun X F => ?_)
  have fr0 : ∀ y, y ≠ a → h y = h y := fun y _ => rfl
  show z_w g X cX1_init RX1 (3, 2, 202) 0 [z_r a] [] h 0 0
  refine z_aload_n dX1_init_0 rfl ?_
  refine oi_X1_3 dX1_init_1 (by decide) (Nat.le_of_ble_eq_true rfl) ?_
  refine z_aload_n dX1_init_4 rfl ?_
  refine nw_X1_9 dX1_init_5 ⟨by decide, by decide⟩ (fun s hs => ?_)
  have ne_a_s : a ≠ s := z_nef h1 hs
  have fresh_s : h s = none := by rw [← fr0 s ne_a_s.symm]; exact hs
  obtain ⟨H1, hH1⟩ : ∃ H1, H1 = z_up h s (c_O 6 [z_n, z_i 0]) := ⟨_, rfl⟩
  refine z_heq hH1.symm ?_
  have e1_a : H1 a = some (c_O 1 [z_n, z_i 0, z_i 0]) := by rw [hH1, z_up_n ne_a_s]; exact h1
  have e1_s : H1 s = some (c_O 6 [z_n, z_i 0]) := by rw [hH1]; exact z_up_s
  have fr1 : ∀ y, y ≠ a → y ≠ s → H1 y = h y := fun y n_a n_s => by rw [hH1, z_up_n n_s] <;> exact fr0 y n_a
  refine z_dup dX1_init_8 rfl ?_
  refine cs_X1_11 dX1_init_9 (D_X7_init (a := s) e1_s) rfl rfl (Nat.le_of_ble_eq_true rfl) ⟨by decide, by decide, by decide⟩ (fun rv H2 hq => ?_)
  obtain ⟨rfl, k, hk, hks, hst, hfr⟩ := hq
  have nka : k ≠ a := fun e => by rw [e, e1_a] at hk; cases hk
  have fk : h k = none := by rw [← fr1 k nka hks]; exact hk
  have e2a : H2 a = some (c_O 1 [z_n, z_i 0, z_i 0]) := (hfr a ne_a_s (Ne.symm nka)).trans e1_a
  have e2s : H2 s = some (c_O 6 [z_r k, z_i 0]) := hst.1
  show z_w _ _ _ _ _ _ _ [z_r s, z_r a] _ _ _
  refine pf_X1_12 F rfl dX1_init_12 e2a (Nat.le_of_ble_eq_true rfl) ?_
  exact z_vret F dX1_init_15 rfl ⟨by decide, by decide⟩ ⟨rfl, s, k, ⟨fresh_s, fk, ne_a_s.symm, nka, hks⟩, ⟨z_up_s, (z_up_n ne_a_s.symm).trans hst.1, (z_up_n nka).trans hst.2.1, hst.2.2⟩, fun y h1 h2 h3 => (z_up_n h1).trans ((hfr y h2 h3).trans (fr1 y h1 h2))⟩
set_option maxHeartbeats 4000000 in
set_option maxRecDepth 100000 in
theorem D_X5_init {g : z_G} {h : z_H} {a : Nat} (h1 : h a = some (c_O 4 [z_n, z_i 0, z_i 0])) : z_D g mX5_init 2 1 40 [z_r a] h (fun rv h' => rv = none ∧ ∃ k : Nat, h k = none ∧ k ≠ a ∧ oSh h' a k (-1) 0 (fun _ => 0) ∧ ∀ y, y ≠ a → y ≠ k → h' y = h y) := by
  refine z_D.of (by decide +kernel) (Nat.le_of_ble_eq_true rfl) (fun X F => ?_)
  have fr0 : ∀ y, y ≠ a → h y = h y := fun y _ => rfl
  show z_w g X cX5_init RX5 (2, 1, 40) 0 [z_r a] [] h 0 0
  refine z_aload_n dX5_init_0 rfl ?_
  refine oi_X5_3 dX5_init_1 (by decide) (Nat.le_of_ble_eq_true rfl) ?_
  refine z_aload_n dX5_init_4 rfl ?_
  refine z_bipush dX5_init_5 rfl ?_
  refine z_newJ (N := 40) wA_J dX5_init_7 rfl (by decide) ⟨by decide, by decide⟩ (fun q1 hq1 => ?_)
  have ne_a_q1 : a ≠ q1 := z_nef h1 hq1
  have fresh_q1 : h q1 = none := by rw [← fr0 q1 ne_a_q1.symm]; exact hq1
  obtain ⟨H1, hH1⟩ : ∃ H1, H1 = z_up h q1 (c_J 40 (fun _ => 0)) := ⟨_, rfl⟩
  refine z_heq hH1.symm ?_
  have e1_a : H1 a = some (c_O 4 [z_n, z_i 0, z_i 0]) := by rw [hH1, z_up_n ne_a_q1]; exact h1
  have e1_q1 : H1 q1 = some (c_J 40 (fun _ => 0)) := by rw [hH1]; exact z_up_s
  have fr1 : ∀ y, y ≠ a → y ≠ q1 → H1 y = h y := fun y n_a n_q1 => by rw [hH1, z_up_n n_q1] <;> exact fr0 y n_a
  refine pf_X5_9 F rfl dX5_init_9 e1_a (Nat.le_of_ble_eq_true rfl) ?_
  obtain ⟨H2, hH2⟩ : ∃ H2, H2 = z_up H1 a (c_O 4 [z_r q1, z_i 0, z_i 0]) := ⟨_, rfl⟩
  refine z_heq hH2.symm ?_
  have e2_q1 : H2 q1 = some (c_J 40 (fun _ => 0)) := by rw [hH2, z_up_n ne_a_q1.symm]; exact e1_q1
  have e2_a : H2 a = some (c_O 4 [z_r q1, z_i 0, z_i 0]) := by rw [hH2]; exact z_up_s
  have fr2 : ∀ y, y ≠ a → y ≠ q1 → H2 y = h y := fun y n_a n_q1 => by rw [hH2, z_up_n n_a] <;> exact fr1 y n_a n_q1
  refine z_aload_n dX5_init_12 rfl ?_
  refine z_iconst dX5_init_13 ?_
  refine pf_X5_15 dX5_init_14 e2_a (Nat.le_of_ble_eq_true rfl) ?_
  obtain ⟨H3, hH3⟩ : ∃ H3, H3 = z_up H2 a (c_O 4 [z_r q1, z_i (-1), z_i 0]) := ⟨_, rfl⟩
  refine z_heq hH3.symm ?_
  have e3_q1 : H3 q1 = some (c_J 40 (fun _ => 0)) := by rw [hH3, z_up_n ne_a_q1.symm]; exact e2_q1
  have e3_a : H3 a = some (c_O 4 [z_r q1, z_i (-1), z_i 0]) := by rw [hH3]; exact z_up_s
  have fr3 : ∀ y, y ≠ a → y ≠ q1 → H3 y = h y := fun y n_a n_q1 => by rw [hH3, z_up_n n_a] <;> exact fr2 y n_a n_q1
  exact z_vret F dX5_init_17 rfl ⟨by decide, by decide⟩ ⟨rfl, q1, fresh_q1, ne_a_q1.symm, ⟨e3_a, e3_q1, by decide, by decide⟩, fr3⟩
set_option maxHeartbeats 4000000 in
set_option maxRecDepth 100000 in
theorem D_X0_init {g : z_G} {h : z_H} {a : Nat} (h1 : h a = some (c_O 0 [z_n, z_i 0])) : z_D g mX0_init 2 1 24 [z_r a] h (fun rv h' => rv = none ∧ ∃ k : Nat, h k = none ∧ k ≠ a ∧ oCh h' a k 0 (fun _ => 0) ∧ ∀ y, y ≠ a → y ≠ k → h' y = h y) := by
  refine z_D.of (by decide +kernel) (Nat.le_of_ble_eq_true rfl) (fun X F => ?_)
  have fr0 : ∀ y, y ≠ a → h y = h y := fun y _ => rfl
  show z_w g X cX0_init RX0 (2, 1, 24) 0 [z_r a] [] h 0 0
  refine z_aload_n dX0_init_0 rfl ?_
  refine oi_X0_3 dX0_init_1 (by decide) (Nat.le_of_ble_eq_true rfl) ?_
  refine z_aload_n dX0_init_4 rfl ?_
  refine z_bipush dX0_init_5 rfl ?_
  refine z_newI (N := 24) wA_I dX0_init_7 rfl (by decide) ⟨by decide, by decide⟩ (fun q1 hq1 => ?_)
  have ne_a_q1 : a ≠ q1 := z_nef h1 hq1
  have fresh_q1 : h q1 = none := by rw [← fr0 q1 ne_a_q1.symm]; exact hq1
  obtain ⟨H1, hH1⟩ : ∃ H1, H1 = z_up h q1 (c_I 24 (fun _ => 0)) := ⟨_, rfl⟩
  refine z_heq hH1.symm ?_
  have e1_a : H1 a = some (c_O 0 [z_n, z_i 0]) := by rw [hH1, z_up_n ne_a_q1]; exact h1
  have e1_q1 : H1 q1 = some (c_I 24 (fun _ => 0)) := by rw [hH1]; exact z_up_s
  have fr1 : ∀ y, y ≠ a → y ≠ q1 → H1 y = h y := fun y n_a n_q1 => by rw [hH1, z_up_n n_q1] <;> exact fr0 y n_a
  refine pf_X0_11 F rfl dX0_init_9 e1_a (Nat.le_of_ble_eq_true rfl) ?_
  obtain ⟨H2, hH2⟩ : ∃ H2, H2 = z_up H1 a (c_O 0 [z_r q1, z_i 0]) := ⟨_, rfl⟩
  refine z_heq hH2.symm ?_
  have e2_q1 : H2 q1 = some (c_I 24 (fun _ => 0)) := by rw [hH2, z_up_n ne_a_q1.symm]; exact e1_q1
  have e2_a : H2 a = some (c_O 0 [z_r q1, z_i 0]) := by rw [hH2]; exact z_up_s
  have fr2 : ∀ y, y ≠ a → y ≠ q1 → H2 y = h y := fun y n_a n_q1 => by rw [hH2, z_up_n n_a] <;> exact fr1 y n_a n_q1
  exact z_vret F dX0_init_12 rfl ⟨by decide, by decide⟩ ⟨rfl, q1, fresh_q1, ne_a_q1.symm, ⟨e2_a, e2_q1, by decide⟩, fr2⟩
set_option maxHeartbeats 4000000 in
set_option maxRecDepth 100000 in
theorem D_X4_init {g : z_G} {h : z_H} {a : Nat} (h1 : h a = some (c_O 3 [z_n, z_n, z_n, z_i 0, z_i 0, z_i 0, z_i 0, z_i 0])) : z_D g mX4_init 3 4 212 [z_r a] h (fun rv h' => rv = none ∧ ∃ c k o v : Nat, (h c = none ∧ h k = none ∧ h o = none ∧ h v = none) ∧ pD a c k o v ∧ (h' a = some (c_O 3 [z_r c, z_r o, z_r v, z_i 0, z_i 0, z_i 0, z_i 0, z_i 0]) ∧ h' c = some (c_O 6 [z_r k, z_i 0]) ∧ h' k = some (c_I 200 (fun _ => 0)) ∧ h' o = some (c_I 5 (fun _ => 0)) ∧ h' v = some (c_I 5 (fun _ => 0))) ∧ ∀ y, y ≠ a → y ≠ c → y ≠ k → y ≠ o → y ≠ v → h' y = h y) := by
  refine z_D.of (by decide +kernel) (Nat.le_of_ble_eq_true rfl) (fun X F => ?_)
  have fr0 : ∀ y, y ≠ a → h y = h y := fun y _ => rfl
  show z_w g X cX4_init RX4 (3, 4, 212) 0 [z_r a] [] h 0 0
  refine z_aload_n dX4_init_0 rfl ?_
  refine oi_X4_3 dX4_init_1 (by decide) (Nat.le_of_ble_eq_true rfl) ?_
  refine z_aload_n dX4_init_4 rfl ?_
  refine nw_X4_9 dX4_init_5 ⟨by decide, by decide⟩ (fun c hc => ?_)
  have ne_a_c : a ≠ c := z_nef h1 hc
  have fresh_c : h c = none := by rw [← fr0 c ne_a_c.symm]; exact hc
  obtain ⟨H1, hH1⟩ : ∃ H1, H1 = z_up h c (c_O 6 [z_n, z_i 0]) := ⟨_, rfl⟩
  refine z_heq hH1.symm ?_
  have e1_a : H1 a = some (c_O 3 [z_n, z_n, z_n, z_i 0, z_i 0, z_i 0, z_i 0, z_i 0]) := by rw [hH1, z_up_n ne_a_c]; exact h1
  have e1_c : H1 c = some (c_O 6 [z_n, z_i 0]) := by rw [hH1]; exact z_up_s
  have fr1 : ∀ y, y ≠ a → y ≠ c → H1 y = h y := fun y n_a n_c => by rw [hH1, z_up_n n_c] <;> exact fr0 y n_a
  refine z_dup dX4_init_8 rfl ?_
  refine cs_X4_11 dX4_init_9 (D_X7_init (a := c) e1_c) rfl rfl (Nat.le_of_ble_eq_true rfl) ⟨by decide, by decide, by decide⟩ (fun rv H2 hq => ?_)
  obtain ⟨rfl, k, hk, hkc, hst, hfr⟩ := hq
  have ne_k_a : k ≠ a := fun e => by rw [e, e1_a] at hk; cases hk
  have ne_k_c : k ≠ c := hkc
  have fresh_k : h k = none := by rw [← fr1 k ne_k_a hkc]; exact hk
  have e2_a : H2 a = some (c_O 3 [z_n, z_n, z_n, z_i 0, z_i 0, z_i 0, z_i 0, z_i 0]) := (hfr a ne_a_c (Ne.symm ne_k_a)).trans e1_a
  have e2_c : H2 c = some (c_O 6 [z_r k, z_i 0]) := hst.1
  have e2_k : H2 k = some (c_I 200 (fun _ => 0)) := hst.2.1
  have fr2 : ∀ y, y ≠ a → y ≠ c → y ≠ k → H2 y = h y := fun y n_a n_c n_k => (hfr y n_c n_k).trans (fr1 y n_a n_c)
  show z_w _ _ _ _ _ _ _ [z_r c, z_r a] _ _ _
  refine pf_X4_12 F rfl dX4_init_12 e2_a (Nat.le_of_ble_eq_true rfl) ?_
  obtain ⟨H3, hH3⟩ : ∃ H3, H3 = z_up H2 a (c_O 3 [z_r c, z_n, z_n, z_i 0, z_i 0, z_i 0, z_i 0, z_i 0]) := ⟨_, rfl⟩
  refine z_heq hH3.symm ?_
  have e3_c : H3 c = some (c_O 6 [z_r k, z_i 0]) := by rw [hH3, z_up_n ne_a_c.symm]; exact e2_c
  have e3_k : H3 k = some (c_I 200 (fun _ => 0)) := by rw [hH3, z_up_n ne_k_a]; exact e2_k
  have e3_a : H3 a = some (c_O 3 [z_r c, z_n, z_n, z_i 0, z_i 0, z_i 0, z_i 0, z_i 0]) := by rw [hH3]; exact z_up_s
  have fr3 : ∀ y, y ≠ a → y ≠ c → y ≠ k → H3 y = h y := fun y n_a n_c n_k => by rw [hH3, z_up_n n_a] <;> exact fr2 y n_a n_c n_k
  refine z_aload_n dX4_init_15 rfl ?_
  refine z_iconst dX4_init_16 ?_
  refine z_newI (N := 5) wA_I dX4_init_17 rfl (by decide) ⟨by decide, by decide⟩ (fun o ho => ?_)
  have ne_a_o : a ≠ o := z_nef e3_a ho
  have ne_c_o : c ≠ o := z_nef e3_c ho
  have ne_k_o : k ≠ o := z_nef e3_k ho
  have fresh_o : h o = none := by rw [← fr3 o ne_a_o.symm ne_c_o.symm ne_k_o.symm]; exact ho
  obtain ⟨H4, hH4⟩ : ∃ H4, H4 = z_up H3 o (c_I 5 (fun _ => 0)) := ⟨_, rfl⟩
  refine z_heq hH4.symm ?_
  have e4_a : H4 a = some (c_O 3 [z_r c, z_n, z_n, z_i 0, z_i 0, z_i 0, z_i 0, z_i 0]) := by rw [hH4, z_up_n ne_a_o]; exact e3_a
  have e4_c : H4 c = some (c_O 6 [z_r k, z_i 0]) := by rw [hH4, z_up_n ne_c_o]; exact e3_c
  have e4_k : H4 k = some (c_I 200 (fun _ => 0)) := by rw [hH4, z_up_n ne_k_o]; exact e3_k
  have e4_o : H4 o = some (c_I 5 (fun _ => 0)) := by rw [hH4]; exact z_up_s
  have fr4 : ∀ y, y ≠ a → y ≠ c → y ≠ k → y ≠ o → H4 y = h y := fun y n_a n_c n_k n_o => by rw [hH4, z_up_n n_o] <;> exact fr3 y n_a n_c n_k
  refine pf_X4_18 F rfl dX4_init_19 e4_a (Nat.le_of_ble_eq_true rfl) ?_
  obtain ⟨H5, hH5⟩ : ∃ H5, H5 = z_up H4 a (c_O 3 [z_r c, z_r o, z_n, z_i 0, z_i 0, z_i 0, z_i 0, z_i 0]) := ⟨_, rfl⟩
  refine z_heq hH5.symm ?_
  have e5_c : H5 c = some (c_O 6 [z_r k, z_i 0]) := by rw [hH5, z_up_n ne_a_c.symm]; exact e4_c
  have e5_k : H5 k = some (c_I 200 (fun _ => 0)) := by rw [hH5, z_up_n ne_k_a]; exact e4_k
  have e5_o : H5 o = some (c_I 5 (fun _ => 0)) := by rw [hH5, z_up_n ne_a_o.symm]; exact e4_o
  have e5_a : H5 a = some (c_O 3 [z_r c, z_r o, z_n, z_i 0, z_i 0, z_i 0, z_i 0, z_i 0]) := by rw [hH5]; exact z_up_s
  have fr5 : ∀ y, y ≠ a → y ≠ c → y ≠ k → y ≠ o → H5 y = h y := fun y n_a n_c n_k n_o => by rw [hH5, z_up_n n_a] <;> exact fr4 y n_a n_c n_k n_o
  refine z_aload_n dX4_init_22 rfl ?_
  refine z_iconst dX4_init_23 ?_
  refine z_newI (N := 5) wA_I dX4_init_24 rfl (by decide) ⟨by decide, by decide⟩ (fun v hv => ?_)
  have ne_a_v : a ≠ v := z_nef e5_a hv
  have ne_c_v : c ≠ v := z_nef e5_c hv
  have ne_k_v : k ≠ v := z_nef e5_k hv
  have ne_o_v : o ≠ v := z_nef e5_o hv
  have fresh_v : h v = none := by rw [← fr5 v ne_a_v.symm ne_c_v.symm ne_k_v.symm ne_o_v.symm]; exact hv
  obtain ⟨H6, hH6⟩ : ∃ H6, H6 = z_up H5 v (c_I 5 (fun _ => 0)) := ⟨_, rfl⟩
  refine z_heq hH6.symm ?_
  have e6_a : H6 a = some (c_O 3 [z_r c, z_r o, z_n, z_i 0, z_i 0, z_i 0, z_i 0, z_i 0]) := by rw [hH6, z_up_n ne_a_v]; exact e5_a
  have e6_c : H6 c = some (c_O 6 [z_r k, z_i 0]) := by rw [hH6, z_up_n ne_c_v]; exact e5_c
  have e6_k : H6 k = some (c_I 200 (fun _ => 0)) := by rw [hH6, z_up_n ne_k_v]; exact e5_k
  have e6_o : H6 o = some (c_I 5 (fun _ => 0)) := by rw [hH6, z_up_n ne_o_v]; exact e5_o
  have e6_v : H6 v = some (c_I 5 (fun _ => 0)) := by rw [hH6]; exact z_up_s
  have fr6 : ∀ y, y ≠ a → y ≠ c → y ≠ k → y ≠ o → y ≠ v → H6 y = h y := fun y n_a n_c n_k n_o n_v => by rw [hH6, z_up_n n_v] <;> exact fr5 y n_a n_c n_k n_o
  refine pf_X4_22 F rfl dX4_init_26 e6_a (Nat.le_of_ble_eq_true rfl) ?_
  obtain ⟨H7, hH7⟩ : ∃ H7, H7 = z_up H6 a (c_O 3 [z_r c, z_r o, z_r v, z_i 0, z_i 0, z_i 0, z_i 0, z_i 0]) := ⟨_, rfl⟩
  refine z_heq hH7.symm ?_
  have e7_c : H7 c = some (c_O 6 [z_r k, z_i 0]) := by rw [hH7, z_up_n ne_a_c.symm]; exact e6_c
  have e7_k : H7 k = some (c_I 200 (fun _ => 0)) := by rw [hH7, z_up_n ne_k_a]; exact e6_k
  have e7_o : H7 o = some (c_I 5 (fun _ => 0)) := by rw [hH7, z_up_n ne_a_o.symm]; exact e6_o
  have e7_v : H7 v = some (c_I 5 (fun _ => 0)) := by rw [hH7, z_up_n ne_a_v.symm]; exact e6_v
  have e7_a : H7 a = some (c_O 3 [z_r c, z_r o, z_r v, z_i 0, z_i 0, z_i 0, z_i 0, z_i 0]) := by rw [hH7]; exact z_up_s
  have fr7 : ∀ y, y ≠ a → y ≠ c → y ≠ k → y ≠ o → y ≠ v → H7 y = h y := fun y n_a n_c n_k n_o n_v => by rw [hH7, z_up_n n_a] <;> exact fr6 y n_a n_c n_k n_o n_v
  exact z_vret F dX4_init_29 rfl ⟨by decide, by decide⟩ ⟨rfl, c, k, o, v, ⟨fresh_c, fresh_k, fresh_o, fresh_v⟩, ⟨⟨ne_a_c.symm, ne_k_a, ne_a_o.symm, ne_a_v.symm⟩, ⟨ne_k_c, ne_c_o.symm, ne_c_v.symm⟩, ⟨ne_k_o.symm, ne_k_v.symm⟩, ne_o_v.symm⟩, ⟨e7_a, e7_c, e7_k, e7_o, e7_v⟩, fr7⟩
