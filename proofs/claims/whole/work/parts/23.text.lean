/-! Line: readText and the constructor -/
def lnT (h0 : z_H) (a b s p u e n : Nat) (t : Nat → Int) (r : Bool × rdT) : z_P := fun rv h' => rv = none ∧ ∃ (fs' fp' fn' fe' : z_row) (P' d' i' : Nat) (tl' fl' : Int), h' = LH h0 a b s p u e n fs' fp' fn' fe' P' d' tl' i' fl' ∧
  ((r.1 = true ∧ n ≤ r.2.1 ∧ fl' = -1 ∧ r.2 = (i', P', d', tl') ∧ P' ≤ n ∧ i' = n ∧ d' ≤ 5 ∧ (tl' = 0 ∨ tl' = 1) ∧ sgP n t fs' fp' fn' fe' 6 0 P' 0 n) ∨ (¬ (r.1 = true ∧ n ≤ r.2.1) ∧ fl' = (r.2.1 : Int) ∧ r.2.1 ≤ n))
theorem z_nef {h : z_H} {a q : Nat} {x : z_C} (ha : h a = some x) (hq : h q = none) : a ≠ q := fun e => by
  rw [e, hq] at ha
  cases ha
theorem z_up_none {h : z_H} {a q : Nat} {x : z_C} (h1 : z_up h a x q = none) : q ≠ a ∧ h q = none := by
  unfold z_up at h1
  by_cases e : q = a
  · rw [if_pos e] at h1
    cases h1
  · rw [if_neg e] at h1
    exact ⟨e, h1⟩
set_option maxHeartbeats 2000000 in
set_option maxRecDepth 100000 in
theorem D_X3_readText {g : z_G} {h0 : z_H} {a b s p u e n : Nat} {t : Nat → Int} (hD : lD h0 a b s p u e n t) {fs fp fn fe : z_row} : z_D g mX3_readText 25 0 0 [z_r a] (LH h0 a b s p u e n fs fp fn fe ((0 : Nat) : Int) ((0 : Nat) : Int) 0 ((0 : Nat) : Int) (-1)) (lnT h0 a b s p u e n t (rdS n t (n + 1) 0 (0, 0, 0, 0))) := by
  refine z_D.of (by decide +kernel) (Nat.le_of_ble_eq_true rfl) (fun X F => ?_)
  have h7 := hD.2.2.2.2.2.2.1
  have h8 := hD.2.2.2.2.2.2.2
  show z_w g X cX3_readText RX3 (25, 0, 0) 0 [z_r a] [] (LH h0 a b s p u e n fs fp fn fe ((0 : Nat) : Int) ((0 : Nat) : Int) 0 ((0 : Nat) : Int) (-1)) 0 0
  refine z_aload_n dX3_readText_0 rfl ?_
  refine z_iconst dX3_readText_1 ?_
  refine cs_X3_49 dX3_readText_2 (PP_all hD (n + 1) 0 fs fp fn fe 0 0 0 0 (by decide) (by decide) (Nat.le_refl _) (Nat.zero_le _) (Or.inl rfl) (by omega)) LHa rfl rfl (Nat.le_of_ble_eq_true rfl) (by decide) (fun rv h' hq => ?_)
  obtain ⟨rfl, fs', fp', fn', fe', P', d', i', tl', fl', rfl, hag, hok⟩ := hq
  show z_w _ _ _ _ _ _ _ [] _ _ _
  refine z_aload_n dX3_readText_5 rfl ?_
  refine gf_X3_9 dX3_readText_6 LHa rfl ?_
  refine z_iconst dX3_readText_9 ?_
  refine z_icmp_ne dX3_readText_10 (tgt := 33) rfl (by rcases hok with ⟨_, z, _⟩ | ⟨_, z, _⟩ <;> exact ⟨by omega, by omega⟩) (by decide) (fun c1 => ?_) (fun c1 => ?_)
  · skip
    obtain ⟨k1, k2, k3⟩ := hok.resolve_left (fun q => c1 q.2.1)
    exact z_vret F dX3_readText_33 rfl (by decide) ⟨rfl, _, _, _, _, _, _, _, _, _, rfl, Or.inr ⟨fun q => by rw [k1] at q; exact absurd q.1 (by decide), k2, k3⟩⟩
  · skip
    obtain ⟨k1, k2, k3, k4, k5, k6, k7, k8, k9⟩ := hok.resolve_right (fun q => by have := q.2.1; omega)
    subst k2
    refine z_aload_n dX3_readText_13 rfl ?_
    refine gf_X3_53 dX3_readText_14 LHa rfl ?_
    refine z_aload_n dX3_readText_17 rfl ?_
    refine gf_X3_30 dX3_readText_18 LHa rfl ?_
    refine z_alenI dX3_readText_21 (LHb hD) ?_
    refine z_icmp_ge dX3_readText_22 (tgt := 33) rfl ⟨by omega, by omega⟩ ⟨by omega, by omega⟩ (fun c2 => ?_) (fun c2 => ?_)
    · skip
      have ki : (rdS n t (n + 1) 0 (0, 0, 0, 0)).2.1 = i' := by rw [k3]
      exact z_vret F dX3_readText_33 rfl (by decide) (have e : i' = n := by omega
                                  ⟨rfl, _, _, _, _, _, _, _, _, _, rfl, Or.inl ⟨k1, by rw [ki]; omega, rfl, k3, by omega, e, k7, k8, (e ▸ k9 :)⟩⟩)
    · skip
      have ki : (rdS n t (n + 1) 0 (0, 0, 0, 0)).2.1 = i' := by rw [k3]
      refine z_aload_n dX3_readText_25 rfl ?_
      refine z_aload_n dX3_readText_26 rfl ?_
      refine gf_X3_53 dX3_readText_27 LHa rfl ?_
      refine pf_X3_9 dX3_readText_30 LHa (Nat.le_of_ble_eq_true rfl) ?_
      refine z_heq LHua ?_
      exact z_vret F dX3_readText_33 rfl (by decide) ⟨rfl, _, _, _, _, _, _, _, _, _, rfl, Or.inr ⟨fun q => by rw [ki] at q; omega, by rw [ki], by rw [ki]; omega⟩⟩
set_option maxHeartbeats 2000000 in
set_option maxRecDepth 100000 in
theorem D_X3_init {g : z_G} {h : z_H} {a tp m : Nat} {f : Nat → Int} (h1 : h a = some (c_O 2 [z_n, z_n, z_n, z_n, z_n, z_i 0, z_i 0, z_i 0, z_i 0, z_i 0])) (h2 : h tp = some (c_I 250 f)) (hm : m ≤ 250) (hf : ∀ j, j < m → 0 ≤ f j ∧ f j ≤ 255) : z_D g mX3_init 3 5 1250 [z_r a, z_r tp, z_i (m : Int)] h (fun rv h' => rv = none ∧ ∃ (b s p u e : Nat) (t : Nat → Int), (∀ j, j < m → t j = f j) ∧ lD (z_up h b (c_I m t)) a b s p u e m t ∧ h' = LH (z_up h b (c_I m t)) a b s p u e m (fun _ => 0) (fun _ => 0) (fun _ => 0) (fun _ => 0) ((0 : Nat) : Int) ((0 : Nat) : Int) 0 ((0 : Nat) : Int) (-1) ∧ h b = none ∧ h s = none ∧ h p = none ∧ h u = none ∧ h e = none) := by
  refine z_D.of (by decide +kernel) (Nat.le_of_ble_eq_true rfl) (fun X F => ?_)
  have hat : tp ≠ a := (z_neOI h1 h2).symm
  show z_w g X cX3_init RX3 (3, 5, 1250) 0 [z_r a, z_r tp, z_i (m : Int), z_u] [] h 0 0
  refine z_aload_n dX3_init_0 rfl ?_
  refine oi_X3_3 dX3_init_1 (by decide) (Nat.le_of_ble_eq_true rfl) ?_
  refine z_aload_n dX3_init_4 rfl ?_
  refine z_iconst dX3_init_5 ?_
  refine pf_X3_9 dX3_init_6 h1 (Nat.le_of_ble_eq_true rfl) ?_
  refine z_iconst dX3_init_9 ?_
  refine z_iload_n dX3_init_10 rfl ?_
  refine z_aload_n dX3_init_11 rfl ?_
  refine z_alenI dX3_init_12 ((z_up_n hat).trans h2) ?_
  refine mm_X3_15 dX3_init_13 ⟨by omega, by omega⟩ ⟨by omega, by omega⟩ (by decide) (Nat.le_of_ble_eq_true rfl) ?_
  rw [show (if ((250 : Nat) : Int) < (m : Int) then ((250 : Nat) : Int) else (m : Int)) = (m : Int) from if_neg (by omega)]
  refine mm_X3_21 dX3_init_16 (by decide) ⟨by omega, by omega⟩ (by decide) (Nat.le_of_ble_eq_true rfl) ?_
  refine z_ieq (y := (m : Int)) (by split <;> omega) ?_
  refine z_istore_n dX3_init_19 (Nat.le_of_ble_eq_true rfl) rfl ?_
  refine z_aload_n dX3_init_20 rfl ?_
  refine z_aload_n dX3_init_21 rfl ?_
  refine z_iload_n dX3_init_22 rfl ?_
  refine cs_X3_24 dX3_init_23 (D_J7_copyOf ((z_up_n hat).trans h2) hm) rfl rfl (Nat.le_of_ble_eq_true rfl) (by decide) (fun rv h' hq => ?_)
  obtain ⟨b, t, rfl, hb, rfl, ht⟩ := hq
  show z_w _ _ _ _ _ _ _ [z_r b, z_r a] _ _ _
  refine pf_X3_30 F rfl dX3_init_26 ((z_up_n (z_nef z_up_s hb)).trans z_up_s) (Nat.le_of_ble_eq_true rfl) ?_
  refine z_aload_n dX3_init_29 rfl ?_
  refine z_iload_n dX3_init_30 rfl ?_
  refine z_newI (N := m) wA_I dX3_init_31 rfl (by omega) ⟨by decide, by show (_ : Nat) ≤ 1250; omega⟩ (fun s hs => ?_)
  refine pf_X3_34 F rfl dX3_init_33 ((z_up_n (z_nef z_up_s hs)).trans z_up_s) (Nat.le_of_ble_eq_true rfl) ?_
  refine z_aload_n dX3_init_36 rfl ?_
  refine z_iload_n dX3_init_37 rfl ?_
  refine z_newI (N := m) wA_I dX3_init_38 rfl (by omega) ⟨by decide, by show (_ : Nat) ≤ 1250; omega⟩ (fun p hp => ?_)
  refine pf_X3_37 F rfl dX3_init_40 ((z_up_n (z_nef z_up_s hp)).trans z_up_s) (Nat.le_of_ble_eq_true rfl) ?_
  refine z_aload_n dX3_init_43 rfl ?_
  refine z_iload_n dX3_init_44 rfl ?_
  refine z_newI (N := m) wA_I dX3_init_45 rfl (by omega) ⟨by decide, by show (_ : Nat) ≤ 1250; omega⟩ (fun u hu => ?_)
  refine pf_X3_40 F rfl dX3_init_47 ((z_up_n (z_nef z_up_s hu)).trans z_up_s) (Nat.le_of_ble_eq_true rfl) ?_
  refine z_aload_n dX3_init_50 rfl ?_
  refine z_iload_n dX3_init_51 rfl ?_
  refine z_newI (N := m) wA_I dX3_init_52 rfl (by omega) ⟨by decide, by show (_ : Nat) ≤ 1250; omega⟩ (fun e he => ?_)
  refine pf_X3_43 F rfl dX3_init_54 ((z_up_n (z_nef z_up_s he)).trans z_up_s) (Nat.le_of_ble_eq_true rfl) ?_
  exact z_vret F dX3_init_57 rfl ⟨by decide, by show _ ≤ 1250; omega⟩ (by
    obtain ⟨x1, x2⟩ := z_up_none hb
    obtain ⟨s1, s2⟩ := z_up_none hs
    obtain ⟨s3, s4⟩ := z_up_none s2
    obtain ⟨s5, s6⟩ := z_up_none s4
    obtain ⟨p1, p2⟩ := z_up_none hp
    obtain ⟨p3, p4⟩ := z_up_none p2
    obtain ⟨p5, p6⟩ := z_up_none p4
    obtain ⟨p7, p8⟩ := z_up_none p6
    obtain ⟨p9, p10⟩ := z_up_none p8
    obtain ⟨u1, u2⟩ := z_up_none hu
    obtain ⟨u3, u4⟩ := z_up_none u2
    obtain ⟨u5, u6⟩ := z_up_none u4
    obtain ⟨u7, u8⟩ := z_up_none u6
    obtain ⟨u9, u10⟩ := z_up_none u8
    obtain ⟨u11, u12⟩ := z_up_none u10
    obtain ⟨u13, u14⟩ := z_up_none u12
    obtain ⟨e1, e2⟩ := z_up_none he
    obtain ⟨e3, e4⟩ := z_up_none e2
    obtain ⟨e5, e6⟩ := z_up_none e4
    obtain ⟨e7, e8⟩ := z_up_none e6
    obtain ⟨e9, e10⟩ := z_up_none e8
    obtain ⟨e11, e12⟩ := z_up_none e10
    obtain ⟨e13, e14⟩ := z_up_none e12
    obtain ⟨e15, e16⟩ := z_up_none e14
    obtain ⟨e17, e18⟩ := z_up_none e16
    refine ⟨rfl, b, s, p, u, e, t, ht, ⟨z_up_s, ⟨x1, Ne.symm s3, Ne.symm p7, Ne.symm u11, Ne.symm e15⟩, ⟨s1, p1, u1, e1⟩, ⟨p3, u7, e11⟩, ⟨u3, e7⟩, e3, hm, fun j hj => by rw [ht j hj]; exact hf j hj⟩, ?_, x2, s6, p10, u14, e18⟩
    funext q
    simp only [z_up, LH]
    by_cases q0 : q = a
    · simp [q0]
    by_cases q1 : q = s
    · simp [q1, s1, Ne.symm p3, Ne.symm u7, Ne.symm e11]
    by_cases q2 : q = p
    · simp [q2, p1, p3, Ne.symm u3, Ne.symm e7]
    by_cases q3 : q = u
    · simp [q3, u1, u3, u7, Ne.symm e3]
    by_cases q4 : q = e
    · simp [q4, e1, e3, e7, e11]
    simp [q0, q1, q2, q3, q4])
