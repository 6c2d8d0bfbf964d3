/-! the reference is made -/
set_option maxHeartbeats 8000000 in
set_option maxRecDepth 100000 in
theorem D_X9_init {g : z_G} {h : z_H} {a : Nat} (h1 : h a = some (c_O 8 [z_n, z_n, z_n, z_i 0, z_n, z_i 0, z_n, z_i 0, z_i 0, z_i 0, z_i 0, z_i 0, z_i 0, z_i 0, z_i 0, z_i 0, z_n, z_i 0, z_i 0, z_n, z_n, z_i 0, z_n, z_i 0, z_n, z_n, z_n, z_n])) : z_D g mX9_init 2 13 31575 [z_r a] h (fun rv h' => rv = none ∧ ∃ (A : Nat → Nat) (Ho' : z_row), A 0 = a ∧ mD A ∧ (∀ j, 1 ≤ j → j < 14 → h (A j) = none) ∧ (∀ s, s < 8 → Ho' s = -1) ∧ h' = (MH h A (fun _ => 0) (z_sf (fun _ => 0) 5024 1) (fun _ => 0) (fun _ => 0) (fun _ => 0) (fun _ => 0) (fun _ => 0) (fun _ => 0) (fun _ => 0) Ho' (fun _ => 0) (fun _ => 0) (fun _ => 0) 0 0 0 0 0 0 0 0 0 0 0 0 0 0 0)) := by
  refine z_D.of (by decide +kernel) (Nat.le_of_ble_eq_true rfl) (fun X F => ?_)
  have fr0 : ∀ y, y ≠ a → h y = h y := fun y _ => rfl
  show z_w g X cX9_init RX9 (2, 13, 31575) 0 [z_r a] [] h 0 0
  refine z_aload_n dX9_init_0 rfl ?_
  refine oi_X9_7 dX9_init_1 (by decide) (Nat.le_of_ble_eq_true rfl) ?_
  refine z_aload_n dX9_init_4 rfl ?_
  refine z_iconst dX9_init_5 ?_
  refine z_newI (N := 5) wA_I dX9_init_6 rfl (by decide) ⟨by decide, by decide⟩ (fun q1 hq1 => ?_)
  have ne_a_q1 : a ≠ q1 := z_nef h1 hq1
  have fresh_q1 : h q1 = none := by rw [← fr0 q1 ne_a_q1.symm]; exact hq1
  obtain ⟨H1, hH1⟩ : ∃ H1, H1 = z_up h q1 (c_I 5 (fun _ => 0)) := ⟨_, rfl⟩
  refine z_heq hH1.symm ?_
  have e1_a : H1 a = some (c_O 8 [z_n, z_n, z_n, z_i 0, z_n, z_i 0, z_n, z_i 0, z_i 0, z_i 0, z_i 0, z_i 0, z_i 0, z_i 0, z_i 0, z_i 0, z_n, z_i 0, z_i 0, z_n, z_n, z_i 0, z_n, z_i 0, z_n, z_n, z_n, z_n]) := by rw [hH1, z_up_n ne_a_q1]; exact h1
  have e1_q1 : H1 q1 = some (c_I 5 (fun _ => 0)) := by rw [hH1]; exact z_up_s
  have fr1 : ∀ y, y ≠ a → y ≠ q1 → H1 y = h y := fun y n_a n_q1 => by rw [hH1, z_up_n n_q1] <;> exact fr0 y n_a
  refine pf_X9_1 F rfl dX9_init_8 e1_a (Nat.le_of_ble_eq_true rfl) ?_
  obtain ⟨H2, hH2⟩ : ∃ H2, H2 = z_up H1 a (c_O 8 [z_r q1, z_n, z_n, z_i 0, z_n, z_i 0, z_n, z_i 0, z_i 0, z_i 0, z_i 0, z_i 0, z_i 0, z_i 0, z_i 0, z_i 0, z_n, z_i 0, z_i 0, z_n, z_n, z_i 0, z_n, z_i 0, z_n, z_n, z_n, z_n]) := ⟨_, rfl⟩
  refine z_heq hH2.symm ?_
  have e2_q1 : H2 q1 = some (c_I 5 (fun _ => 0)) := by rw [hH2, z_up_n ne_a_q1.symm]; exact e1_q1
  have e2_a : H2 a = some (c_O 8 [z_r q1, z_n, z_n, z_i 0, z_n, z_i 0, z_n, z_i 0, z_i 0, z_i 0, z_i 0, z_i 0, z_i 0, z_i 0, z_i 0, z_i 0, z_n, z_i 0, z_i 0, z_n, z_n, z_i 0, z_n, z_i 0, z_n, z_n, z_n, z_n]) := by rw [hH2]; exact z_up_s
  have fr2 : ∀ y, y ≠ a → y ≠ q1 → H2 y = h y := fun y n_a n_q1 => by rw [hH2, z_up_n n_a] <;> exact fr1 y n_a n_q1
  refine z_aload_n dX9_init_11 rfl ?_
  refine z_sipush dX9_init_12 rfl ?_
  refine z_newI (N := 15226) wA_I dX9_init_15 rfl (by decide) ⟨by decide, by decide⟩ (fun q2 hq2 => ?_)
  have ne_a_q2 : a ≠ q2 := z_nef e2_a hq2
  have ne_q1_q2 : q1 ≠ q2 := z_nef e2_q1 hq2
  have fresh_q2 : h q2 = none := by rw [← fr2 q2 ne_a_q2.symm ne_q1_q2.symm]; exact hq2
  obtain ⟨H3, hH3⟩ : ∃ H3, H3 = z_up H2 q2 (c_I 15226 (fun _ => 0)) := ⟨_, rfl⟩
  refine z_heq hH3.symm ?_
  have e3_a : H3 a = some (c_O 8 [z_r q1, z_n, z_n, z_i 0, z_n, z_i 0, z_n, z_i 0, z_i 0, z_i 0, z_i 0, z_i 0, z_i 0, z_i 0, z_i 0, z_i 0, z_n, z_i 0, z_i 0, z_n, z_n, z_i 0, z_n, z_i 0, z_n, z_n, z_n, z_n]) := by rw [hH3, z_up_n ne_a_q2]; exact e2_a
  have e3_q1 : H3 q1 = some (c_I 5 (fun _ => 0)) := by rw [hH3, z_up_n ne_q1_q2]; exact e2_q1
  have e3_q2 : H3 q2 = some (c_I 15226 (fun _ => 0)) := by rw [hH3]; exact z_up_s
  have fr3 : ∀ y, y ≠ a → y ≠ q1 → y ≠ q2 → H3 y = h y := fun y n_a n_q1 n_q2 => by rw [hH3, z_up_n n_q2] <;> exact fr2 y n_a n_q1
  refine pf_X9_13 F rfl dX9_init_17 e3_a (Nat.le_of_ble_eq_true rfl) ?_
  obtain ⟨H4, hH4⟩ : ∃ H4, H4 = z_up H3 a (c_O 8 [z_r q1, z_r q2, z_n, z_i 0, z_n, z_i 0, z_n, z_i 0, z_i 0, z_i 0, z_i 0, z_i 0, z_i 0, z_i 0, z_i 0, z_i 0, z_n, z_i 0, z_i 0, z_n, z_n, z_i 0, z_n, z_i 0, z_n, z_n, z_n, z_n]) := ⟨_, rfl⟩
  refine z_heq hH4.symm ?_
  have e4_q1 : H4 q1 = some (c_I 5 (fun _ => 0)) := by rw [hH4, z_up_n ne_a_q1.symm]; exact e3_q1
  have e4_q2 : H4 q2 = some (c_I 15226 (fun _ => 0)) := by rw [hH4, z_up_n ne_a_q2.symm]; exact e3_q2
  have e4_a : H4 a = some (c_O 8 [z_r q1, z_r q2, z_n, z_i 0, z_n, z_i 0, z_n, z_i 0, z_i 0, z_i 0, z_i 0, z_i 0, z_i 0, z_i 0, z_i 0, z_i 0, z_n, z_i 0, z_i 0, z_n, z_n, z_i 0, z_n, z_i 0, z_n, z_n, z_n, z_n]) := by rw [hH4]; exact z_up_s
  have fr4 : ∀ y, y ≠ a → y ≠ q1 → y ≠ q2 → H4 y = h y := fun y n_a n_q1 n_q2 => by rw [hH4, z_up_n n_a] <;> exact fr3 y n_a n_q1 n_q2
  refine z_aload_n dX9_init_20 rfl ?_
  refine z_sipush dX9_init_21 rfl ?_
  refine z_newI (N := 15226) wA_I dX9_init_24 rfl (by decide) ⟨by decide, by decide⟩ (fun q3 hq3 => ?_)
  have ne_a_q3 : a ≠ q3 := z_nef e4_a hq3
  have ne_q1_q3 : q1 ≠ q3 := z_nef e4_q1 hq3
  have ne_q2_q3 : q2 ≠ q3 := z_nef e4_q2 hq3
  have fresh_q3 : h q3 = none := by rw [← fr4 q3 ne_a_q3.symm ne_q1_q3.symm ne_q2_q3.symm]; exact hq3
  obtain ⟨H5, hH5⟩ : ∃ H5, H5 = z_up H4 q3 (c_I 15226 (fun _ => 0)) := ⟨_, rfl⟩
  refine z_heq hH5.symm ?_
  have e5_a : H5 a = some (c_O 8 [z_r q1, z_r q2, z_n, z_i 0, z_n, z_i 0, z_n, z_i 0, z_i 0, z_i 0, z_i 0, z_i 0, z_i 0, z_i 0, z_i 0, z_i 0, z_n, z_i 0, z_i 0, z_n, z_n, z_i 0, z_n, z_i 0, z_n, z_n, z_n, z_n]) := by rw [hH5, z_up_n ne_a_q3]; exact e4_a
  have e5_q1 : H5 q1 = some (c_I 5 (fun _ => 0)) := by rw [hH5, z_up_n ne_q1_q3]; exact e4_q1
  have e5_q2 : H5 q2 = some (c_I 15226 (fun _ => 0)) := by rw [hH5, z_up_n ne_q2_q3]; exact e4_q2
  have e5_q3 : H5 q3 = some (c_I 15226 (fun _ => 0)) := by rw [hH5]; exact z_up_s
  have fr5 : ∀ y, y ≠ a → y ≠ q1 → y ≠ q2 → y ≠ q3 → H5 y = h y := fun y n_a n_q1 n_q2 n_q3 => by rw [hH5, z_up_n n_q3] <;> exact fr4 y n_a n_q1 n_q2
  refine pf_X9_16 F rfl dX9_init_26 e5_a (Nat.le_of_ble_eq_true rfl) ?_
  obtain ⟨H6, hH6⟩ : ∃ H6, H6 = z_up H5 a (c_O 8 [z_r q1, z_r q2, z_r q3, z_i 0, z_n, z_i 0, z_n, z_i 0, z_i 0, z_i 0, z_i 0, z_i 0, z_i 0, z_i 0, z_i 0, z_i 0, z_n, z_i 0, z_i 0, z_n, z_n, z_i 0, z_n, z_i 0, z_n, z_n, z_n, z_n]) := ⟨_, rfl⟩
  refine z_heq hH6.symm ?_
  have e6_q1 : H6 q1 = some (c_I 5 (fun _ => 0)) := by rw [hH6, z_up_n ne_a_q1.symm]; exact e5_q1
  have e6_q2 : H6 q2 = some (c_I 15226 (fun _ => 0)) := by rw [hH6, z_up_n ne_a_q2.symm]; exact e5_q2
  have e6_q3 : H6 q3 = some (c_I 15226 (fun _ => 0)) := by rw [hH6, z_up_n ne_a_q3.symm]; exact e5_q3
  have e6_a : H6 a = some (c_O 8 [z_r q1, z_r q2, z_r q3, z_i 0, z_n, z_i 0, z_n, z_i 0, z_i 0, z_i 0, z_i 0, z_i 0, z_i 0, z_i 0, z_i 0, z_i 0, z_n, z_i 0, z_i 0, z_n, z_n, z_i 0, z_n, z_i 0, z_n, z_n, z_n, z_n]) := by rw [hH6]; exact z_up_s
  have fr6 : ∀ y, y ≠ a → y ≠ q1 → y ≠ q2 → y ≠ q3 → H6 y = h y := fun y n_a n_q1 n_q2 n_q3 => by rw [hH6, z_up_n n_a] <;> exact fr5 y n_a n_q1 n_q2 n_q3
  refine z_aload_n dX9_init_29 rfl ?_
  refine z_sipush dX9_init_30 rfl ?_
  refine z_newI (N := 250) wA_I dX9_init_33 rfl (by decide) ⟨by decide, by decide⟩ (fun q4 hq4 => ?_)
  have ne_a_q4 : a ≠ q4 := z_nef e6_a hq4
  have ne_q1_q4 : q1 ≠ q4 := z_nef e6_q1 hq4
  have ne_q2_q4 : q2 ≠ q4 := z_nef e6_q2 hq4
  have ne_q3_q4 : q3 ≠ q4 := z_nef e6_q3 hq4
  have fresh_q4 : h q4 = none := by rw [← fr6 q4 ne_a_q4.symm ne_q1_q4.symm ne_q2_q4.symm ne_q3_q4.symm]; exact hq4
  obtain ⟨H7, hH7⟩ : ∃ H7, H7 = z_up H6 q4 (c_I 250 (fun _ => 0)) := ⟨_, rfl⟩
  refine z_heq hH7.symm ?_
  have e7_a : H7 a = some (c_O 8 [z_r q1, z_r q2, z_r q3, z_i 0, z_n, z_i 0, z_n, z_i 0, z_i 0, z_i 0, z_i 0, z_i 0, z_i 0, z_i 0, z_i 0, z_i 0, z_n, z_i 0, z_i 0, z_n, z_n, z_i 0, z_n, z_i 0, z_n, z_n, z_n, z_n]) := by rw [hH7, z_up_n ne_a_q4]; exact e6_a
  have e7_q1 : H7 q1 = some (c_I 5 (fun _ => 0)) := by rw [hH7, z_up_n ne_q1_q4]; exact e6_q1
  have e7_q2 : H7 q2 = some (c_I 15226 (fun _ => 0)) := by rw [hH7, z_up_n ne_q2_q4]; exact e6_q2
  have e7_q3 : H7 q3 = some (c_I 15226 (fun _ => 0)) := by rw [hH7, z_up_n ne_q3_q4]; exact e6_q3
  have e7_q4 : H7 q4 = some (c_I 250 (fun _ => 0)) := by rw [hH7]; exact z_up_s
  have fr7 : ∀ y, y ≠ a → y ≠ q1 → y ≠ q2 → y ≠ q3 → y ≠ q4 → H7 y = h y := fun y n_a n_q1 n_q2 n_q3 n_q4 => by rw [hH7, z_up_n n_q4] <;> exact fr6 y n_a n_q1 n_q2 n_q3
  refine pf_X9_19 F rfl dX9_init_35 e7_a (Nat.le_of_ble_eq_true rfl) ?_
  obtain ⟨H8, hH8⟩ : ∃ H8, H8 = z_up H7 a (c_O 8 [z_r q1, z_r q2, z_r q3, z_i 0, z_r q4, z_i 0, z_n, z_i 0, z_i 0, z_i 0, z_i 0, z_i 0, z_i 0, z_i 0, z_i 0, z_i 0, z_n, z_i 0, z_i 0, z_n, z_n, z_i 0, z_n, z_i 0, z_n, z_n, z_n, z_n]) := ⟨_, rfl⟩
  refine z_heq hH8.symm ?_
  have e8_q1 : H8 q1 = some (c_I 5 (fun _ => 0)) := by rw [hH8, z_up_n ne_a_q1.symm]; exact e7_q1
  have e8_q2 : H8 q2 = some (c_I 15226 (fun _ => 0)) := by rw [hH8, z_up_n ne_a_q2.symm]; exact e7_q2
  have e8_q3 : H8 q3 = some (c_I 15226 (fun _ => 0)) := by rw [hH8, z_up_n ne_a_q3.symm]; exact e7_q3
  have e8_q4 : H8 q4 = some (c_I 250 (fun _ => 0)) := by rw [hH8, z_up_n ne_a_q4.symm]; exact e7_q4
  have e8_a : H8 a = some (c_O 8 [z_r q1, z_r q2, z_r q3, z_i 0, z_r q4, z_i 0, z_n, z_i 0, z_i 0, z_i 0, z_i 0, z_i 0, z_i 0, z_i 0, z_i 0, z_i 0, z_n, z_i 0, z_i 0, z_n, z_n, z_i 0, z_n, z_i 0, z_n, z_n, z_n, z_n]) := by rw [hH8]; exact z_up_s
  have fr8 : ∀ y, y ≠ a → y ≠ q1 → y ≠ q2 → y ≠ q3 → y ≠ q4 → H8 y = h y := fun y n_a n_q1 n_q2 n_q3 n_q4 => by rw [hH8, z_up_n n_a] <;> exact fr7 y n_a n_q1 n_q2 n_q3 n_q4
  refine z_aload_n dX9_init_38 rfl ?_
  refine z_sipush dX9_init_39 rfl ?_
  refine z_newI (N := 250) wA_I dX9_init_42 rfl (by decide) ⟨by decide, by decide⟩ (fun q5 hq5 => ?_)
  have ne_a_q5 : a ≠ q5 := z_nef e8_a hq5
  have ne_q1_q5 : q1 ≠ q5 := z_nef e8_q1 hq5
  have ne_q2_q5 : q2 ≠ q5 := z_nef e8_q2 hq5
  have ne_q3_q5 : q3 ≠ q5 := z_nef e8_q3 hq5
  have ne_q4_q5 : q4 ≠ q5 := z_nef e8_q4 hq5
  have fresh_q5 : h q5 = none := by rw [← fr8 q5 ne_a_q5.symm ne_q1_q5.symm ne_q2_q5.symm ne_q3_q5.symm ne_q4_q5.symm]; exact hq5
  obtain ⟨H9, hH9⟩ : ∃ H9, H9 = z_up H8 q5 (c_I 250 (fun _ => 0)) := ⟨_, rfl⟩
  refine z_heq hH9.symm ?_
  have e9_a : H9 a = some (c_O 8 [z_r q1, z_r q2, z_r q3, z_i 0, z_r q4, z_i 0, z_n, z_i 0, z_i 0, z_i 0, z_i 0, z_i 0, z_i 0, z_i 0, z_i 0, z_i 0, z_n, z_i 0, z_i 0, z_n, z_n, z_i 0, z_n, z_i 0, z_n, z_n, z_n, z_n]) := by rw [hH9, z_up_n ne_a_q5]; exact e8_a
  have e9_q1 : H9 q1 = some (c_I 5 (fun _ => 0)) := by rw [hH9, z_up_n ne_q1_q5]; exact e8_q1
  have e9_q2 : H9 q2 = some (c_I 15226 (fun _ => 0)) := by rw [hH9, z_up_n ne_q2_q5]; exact e8_q2
  have e9_q3 : H9 q3 = some (c_I 15226 (fun _ => 0)) := by rw [hH9, z_up_n ne_q3_q5]; exact e8_q3
  have e9_q4 : H9 q4 = some (c_I 250 (fun _ => 0)) := by rw [hH9, z_up_n ne_q4_q5]; exact e8_q4
  have e9_q5 : H9 q5 = some (c_I 250 (fun _ => 0)) := by rw [hH9]; exact z_up_s
  have fr9 : ∀ y, y ≠ a → y ≠ q1 → y ≠ q2 → y ≠ q3 → y ≠ q4 → y ≠ q5 → H9 y = h y := fun y n_a n_q1 n_q2 n_q3 n_q4 n_q5 => by rw [hH9, z_up_n n_q5] <;> exact fr8 y n_a n_q1 n_q2 n_q3 n_q4
  refine pf_X9_22 F rfl dX9_init_44 e9_a (Nat.le_of_ble_eq_true rfl) ?_
  obtain ⟨H10, hH10⟩ : ∃ H10, H10 = z_up H9 a (c_O 8 [z_r q1, z_r q2, z_r q3, z_i 0, z_r q4, z_i 0, z_r q5, z_i 0, z_i 0, z_i 0, z_i 0, z_i 0, z_i 0, z_i 0, z_i 0, z_i 0, z_n, z_i 0, z_i 0, z_n, z_n, z_i 0, z_n, z_i 0, z_n, z_n, z_n, z_n]) := ⟨_, rfl⟩
  refine z_heq hH10.symm ?_
  have e10_q1 : H10 q1 = some (c_I 5 (fun _ => 0)) := by rw [hH10, z_up_n ne_a_q1.symm]; exact e9_q1
  have e10_q2 : H10 q2 = some (c_I 15226 (fun _ => 0)) := by rw [hH10, z_up_n ne_a_q2.symm]; exact e9_q2
  have e10_q3 : H10 q3 = some (c_I 15226 (fun _ => 0)) := by rw [hH10, z_up_n ne_a_q3.symm]; exact e9_q3
  have e10_q4 : H10 q4 = some (c_I 250 (fun _ => 0)) := by rw [hH10, z_up_n ne_a_q4.symm]; exact e9_q4
  have e10_q5 : H10 q5 = some (c_I 250 (fun _ => 0)) := by rw [hH10, z_up_n ne_a_q5.symm]; exact e9_q5
  have e10_a : H10 a = some (c_O 8 [z_r q1, z_r q2, z_r q3, z_i 0, z_r q4, z_i 0, z_r q5, z_i 0, z_i 0, z_i 0, z_i 0, z_i 0, z_i 0, z_i 0, z_i 0, z_i 0, z_n, z_i 0, z_i 0, z_n, z_n, z_i 0, z_n, z_i 0, z_n, z_n, z_n, z_n]) := by rw [hH10]; exact z_up_s
  have fr10 : ∀ y, y ≠ a → y ≠ q1 → y ≠ q2 → y ≠ q3 → y ≠ q4 → y ≠ q5 → H10 y = h y := fun y n_a n_q1 n_q2 n_q3 n_q4 n_q5 => by rw [hH10, z_up_n n_a] <;> exact fr9 y n_a n_q1 n_q2 n_q3 n_q4 n_q5
  refine z_aload_n dX9_init_47 rfl ?_
  refine z_sipush dX9_init_48 rfl ?_
  refine z_newI (N := 200) wA_I dX9_init_51 rfl (by decide) ⟨by decide, by decide⟩ (fun q6 hq6 => ?_)
  have ne_a_q6 : a ≠ q6 := z_nef e10_a hq6
  have ne_q1_q6 : q1 ≠ q6 := z_nef e10_q1 hq6
  have ne_q2_q6 : q2 ≠ q6 := z_nef e10_q2 hq6
  have ne_q3_q6 : q3 ≠ q6 := z_nef e10_q3 hq6
  have ne_q4_q6 : q4 ≠ q6 := z_nef e10_q4 hq6
  have ne_q5_q6 : q5 ≠ q6 := z_nef e10_q5 hq6
  have fresh_q6 : h q6 = none := by rw [← fr10 q6 ne_a_q6.symm ne_q1_q6.symm ne_q2_q6.symm ne_q3_q6.symm ne_q4_q6.symm ne_q5_q6.symm]; exact hq6
  obtain ⟨H11, hH11⟩ : ∃ H11, H11 = z_up H10 q6 (c_I 200 (fun _ => 0)) := ⟨_, rfl⟩
  refine z_heq hH11.symm ?_
  have e11_a : H11 a = some (c_O 8 [z_r q1, z_r q2, z_r q3, z_i 0, z_r q4, z_i 0, z_r q5, z_i 0, z_i 0, z_i 0, z_i 0, z_i 0, z_i 0, z_i 0, z_i 0, z_i 0, z_n, z_i 0, z_i 0, z_n, z_n, z_i 0, z_n, z_i 0, z_n, z_n, z_n, z_n]) := by rw [hH11, z_up_n ne_a_q6]; exact e10_a
  have e11_q1 : H11 q1 = some (c_I 5 (fun _ => 0)) := by rw [hH11, z_up_n ne_q1_q6]; exact e10_q1
  have e11_q2 : H11 q2 = some (c_I 15226 (fun _ => 0)) := by rw [hH11, z_up_n ne_q2_q6]; exact e10_q2
  have e11_q3 : H11 q3 = some (c_I 15226 (fun _ => 0)) := by rw [hH11, z_up_n ne_q3_q6]; exact e10_q3
  have e11_q4 : H11 q4 = some (c_I 250 (fun _ => 0)) := by rw [hH11, z_up_n ne_q4_q6]; exact e10_q4
  have e11_q5 : H11 q5 = some (c_I 250 (fun _ => 0)) := by rw [hH11, z_up_n ne_q5_q6]; exact e10_q5
  have e11_q6 : H11 q6 = some (c_I 200 (fun _ => 0)) := by rw [hH11]; exact z_up_s
  have fr11 : ∀ y, y ≠ a → y ≠ q1 → y ≠ q2 → y ≠ q3 → y ≠ q4 → y ≠ q5 → y ≠ q6 → H11 y = h y := fun y n_a n_q1 n_q2 n_q3 n_q4 n_q5 n_q6 => by rw [hH11, z_up_n n_q6] <;> exact fr10 y n_a n_q1 n_q2 n_q3 n_q4 n_q5
  refine pf_X9_25 F rfl dX9_init_53 e11_a (Nat.le_of_ble_eq_true rfl) ?_
  obtain ⟨H12, hH12⟩ : ∃ H12, H12 = z_up H11 a (c_O 8 [z_r q1, z_r q2, z_r q3, z_i 0, z_r q4, z_i 0, z_r q5, z_i 0, z_i 0, z_i 0, z_i 0, z_i 0, z_i 0, z_i 0, z_i 0, z_i 0, z_r q6, z_i 0, z_i 0, z_n, z_n, z_i 0, z_n, z_i 0, z_n, z_n, z_n, z_n]) := ⟨_, rfl⟩
  refine z_heq hH12.symm ?_
  have e12_q1 : H12 q1 = some (c_I 5 (fun _ => 0)) := by rw [hH12, z_up_n ne_a_q1.symm]; exact e11_q1
  have e12_q2 : H12 q2 = some (c_I 15226 (fun _ => 0)) := by rw [hH12, z_up_n ne_a_q2.symm]; exact e11_q2
  have e12_q3 : H12 q3 = some (c_I 15226 (fun _ => 0)) := by rw [hH12, z_up_n ne_a_q3.symm]; exact e11_q3
  have e12_q4 : H12 q4 = some (c_I 250 (fun _ => 0)) := by rw [hH12, z_up_n ne_a_q4.symm]; exact e11_q4
  have e12_q5 : H12 q5 = some (c_I 250 (fun _ => 0)) := by rw [hH12, z_up_n ne_a_q5.symm]; exact e11_q5
  have e12_q6 : H12 q6 = some (c_I 200 (fun _ => 0)) := by rw [hH12, z_up_n ne_a_q6.symm]; exact e11_q6
  have e12_a : H12 a = some (c_O 8 [z_r q1, z_r q2, z_r q3, z_i 0, z_r q4, z_i 0, z_r q5, z_i 0, z_i 0, z_i 0, z_i 0, z_i 0, z_i 0, z_i 0, z_i 0, z_i 0, z_r q6, z_i 0, z_i 0, z_n, z_n, z_i 0, z_n, z_i 0, z_n, z_n, z_n, z_n]) := by rw [hH12]; exact z_up_s
  have fr12 : ∀ y, y ≠ a → y ≠ q1 → y ≠ q2 → y ≠ q3 → y ≠ q4 → y ≠ q5 → y ≠ q6 → H12 y = h y := fun y n_a n_q1 n_q2 n_q3 n_q4 n_q5 n_q6 => by rw [hH12, z_up_n n_a] <;> exact fr11 y n_a n_q1 n_q2 n_q3 n_q4 n_q5 n_q6
  refine z_aload_n dX9_init_56 rfl ?_
  refine z_bipush dX9_init_57 rfl ?_
  refine z_newI (N := 6) wA_I dX9_init_59 rfl (by decide) ⟨by decide, by decide⟩ (fun q7 hq7 => ?_)
  have ne_a_q7 : a ≠ q7 := z_nef e12_a hq7
  have ne_q1_q7 : q1 ≠ q7 := z_nef e12_q1 hq7
  have ne_q2_q7 : q2 ≠ q7 := z_nef e12_q2 hq7
  have ne_q3_q7 : q3 ≠ q7 := z_nef e12_q3 hq7
  have ne_q4_q7 : q4 ≠ q7 := z_nef e12_q4 hq7
  have ne_q5_q7 : q5 ≠ q7 := z_nef e12_q5 hq7
  have ne_q6_q7 : q6 ≠ q7 := z_nef e12_q6 hq7
  have fresh_q7 : h q7 = none := by rw [← fr12 q7 ne_a_q7.symm ne_q1_q7.symm ne_q2_q7.symm ne_q3_q7.symm ne_q4_q7.symm ne_q5_q7.symm ne_q6_q7.symm]; exact hq7
  obtain ⟨H13, hH13⟩ : ∃ H13, H13 = z_up H12 q7 (c_I 6 (fun _ => 0)) := ⟨_, rfl⟩
  refine z_heq hH13.symm ?_
  have e13_a : H13 a = some (c_O 8 [z_r q1, z_r q2, z_r q3, z_i 0, z_r q4, z_i 0, z_r q5, z_i 0, z_i 0, z_i 0, z_i 0, z_i 0, z_i 0, z_i 0, z_i 0, z_i 0, z_r q6, z_i 0, z_i 0, z_n, z_n, z_i 0, z_n, z_i 0, z_n, z_n, z_n, z_n]) := by rw [hH13, z_up_n ne_a_q7]; exact e12_a
  have e13_q1 : H13 q1 = some (c_I 5 (fun _ => 0)) := by rw [hH13, z_up_n ne_q1_q7]; exact e12_q1
  have e13_q2 : H13 q2 = some (c_I 15226 (fun _ => 0)) := by rw [hH13, z_up_n ne_q2_q7]; exact e12_q2
  have e13_q3 : H13 q3 = some (c_I 15226 (fun _ => 0)) := by rw [hH13, z_up_n ne_q3_q7]; exact e12_q3
  have e13_q4 : H13 q4 = some (c_I 250 (fun _ => 0)) := by rw [hH13, z_up_n ne_q4_q7]; exact e12_q4
  have e13_q5 : H13 q5 = some (c_I 250 (fun _ => 0)) := by rw [hH13, z_up_n ne_q5_q7]; exact e12_q5
  have e13_q6 : H13 q6 = some (c_I 200 (fun _ => 0)) := by rw [hH13, z_up_n ne_q6_q7]; exact e12_q6
  have e13_q7 : H13 q7 = some (c_I 6 (fun _ => 0)) := by rw [hH13]; exact z_up_s
  have fr13 : ∀ y, y ≠ a → y ≠ q1 → y ≠ q2 → y ≠ q3 → y ≠ q4 → y ≠ q5 → y ≠ q6 → y ≠ q7 → H13 y = h y := fun y n_a n_q1 n_q2 n_q3 n_q4 n_q5 n_q6 n_q7 => by rw [hH13, z_up_n n_q7] <;> exact fr12 y n_a n_q1 n_q2 n_q3 n_q4 n_q5 n_q6
  refine pf_X9_28 F rfl dX9_init_61 e13_a (Nat.le_of_ble_eq_true rfl) ?_
  obtain ⟨H14, hH14⟩ : ∃ H14, H14 = z_up H13 a (c_O 8 [z_r q1, z_r q2, z_r q3, z_i 0, z_r q4, z_i 0, z_r q5, z_i 0, z_i 0, z_i 0, z_i 0, z_i 0, z_i 0, z_i 0, z_i 0, z_i 0, z_r q6, z_i 0, z_i 0, z_r q7, z_n, z_i 0, z_n, z_i 0, z_n, z_n, z_n, z_n]) := ⟨_, rfl⟩
  refine z_heq hH14.symm ?_
  have e14_q1 : H14 q1 = some (c_I 5 (fun _ => 0)) := by rw [hH14, z_up_n ne_a_q1.symm]; exact e13_q1
  have e14_q2 : H14 q2 = some (c_I 15226 (fun _ => 0)) := by rw [hH14, z_up_n ne_a_q2.symm]; exact e13_q2
  have e14_q3 : H14 q3 = some (c_I 15226 (fun _ => 0)) := by rw [hH14, z_up_n ne_a_q3.symm]; exact e13_q3
  have e14_q4 : H14 q4 = some (c_I 250 (fun _ => 0)) := by rw [hH14, z_up_n ne_a_q4.symm]; exact e13_q4
  have e14_q5 : H14 q5 = some (c_I 250 (fun _ => 0)) := by rw [hH14, z_up_n ne_a_q5.symm]; exact e13_q5
  have e14_q6 : H14 q6 = some (c_I 200 (fun _ => 0)) := by rw [hH14, z_up_n ne_a_q6.symm]; exact e13_q6
  have e14_q7 : H14 q7 = some (c_I 6 (fun _ => 0)) := by rw [hH14, z_up_n ne_a_q7.symm]; exact e13_q7
  have e14_a : H14 a = some (c_O 8 [z_r q1, z_r q2, z_r q3, z_i 0, z_r q4, z_i 0, z_r q5, z_i 0, z_i 0, z_i 0, z_i 0, z_i 0, z_i 0, z_i 0, z_i 0, z_i 0, z_r q6, z_i 0, z_i 0, z_r q7, z_n, z_i 0, z_n, z_i 0, z_n, z_n, z_n, z_n]) := by rw [hH14]; exact z_up_s
  have fr14 : ∀ y, y ≠ a → y ≠ q1 → y ≠ q2 → y ≠ q3 → y ≠ q4 → y ≠ q5 → y ≠ q6 → y ≠ q7 → H14 y = h y := fun y n_a n_q1 n_q2 n_q3 n_q4 n_q5 n_q6 n_q7 => by rw [hH14, z_up_n n_a] <;> exact fr13 y n_a n_q1 n_q2 n_q3 n_q4 n_q5 n_q6 n_q7
  refine z_aload_n dX9_init_64 rfl ?_
  refine z_bipush dX9_init_65 rfl ?_
  refine z_newI (N := 6) wA_I dX9_init_67 rfl (by decide) ⟨by decide, by decide⟩ (fun q8 hq8 => ?_)
  have ne_a_q8 : a ≠ q8 := z_nef e14_a hq8
  have ne_q1_q8 : q1 ≠ q8 := z_nef e14_q1 hq8
  have ne_q2_q8 : q2 ≠ q8 := z_nef e14_q2 hq8
  have ne_q3_q8 : q3 ≠ q8 := z_nef e14_q3 hq8
  have ne_q4_q8 : q4 ≠ q8 := z_nef e14_q4 hq8
  have ne_q5_q8 : q5 ≠ q8 := z_nef e14_q5 hq8
  have ne_q6_q8 : q6 ≠ q8 := z_nef e14_q6 hq8
  have ne_q7_q8 : q7 ≠ q8 := z_nef e14_q7 hq8
  have fresh_q8 : h q8 = none := by rw [← fr14 q8 ne_a_q8.symm ne_q1_q8.symm ne_q2_q8.symm ne_q3_q8.symm ne_q4_q8.symm ne_q5_q8.symm ne_q6_q8.symm ne_q7_q8.symm]; exact hq8
  obtain ⟨H15, hH15⟩ : ∃ H15, H15 = z_up H14 q8 (c_I 6 (fun _ => 0)) := ⟨_, rfl⟩
  refine z_heq hH15.symm ?_
  have e15_a : H15 a = some (c_O 8 [z_r q1, z_r q2, z_r q3, z_i 0, z_r q4, z_i 0, z_r q5, z_i 0, z_i 0, z_i 0, z_i 0, z_i 0, z_i 0, z_i 0, z_i 0, z_i 0, z_r q6, z_i 0, z_i 0, z_r q7, z_n, z_i 0, z_n, z_i 0, z_n, z_n, z_n, z_n]) := by rw [hH15, z_up_n ne_a_q8]; exact e14_a
  have e15_q1 : H15 q1 = some (c_I 5 (fun _ => 0)) := by rw [hH15, z_up_n ne_q1_q8]; exact e14_q1
  have e15_q2 : H15 q2 = some (c_I 15226 (fun _ => 0)) := by rw [hH15, z_up_n ne_q2_q8]; exact e14_q2
  have e15_q3 : H15 q3 = some (c_I 15226 (fun _ => 0)) := by rw [hH15, z_up_n ne_q3_q8]; exact e14_q3
  have e15_q4 : H15 q4 = some (c_I 250 (fun _ => 0)) := by rw [hH15, z_up_n ne_q4_q8]; exact e14_q4
  have e15_q5 : H15 q5 = some (c_I 250 (fun _ => 0)) := by rw [hH15, z_up_n ne_q5_q8]; exact e14_q5
  have e15_q6 : H15 q6 = some (c_I 200 (fun _ => 0)) := by rw [hH15, z_up_n ne_q6_q8]; exact e14_q6
  have e15_q7 : H15 q7 = some (c_I 6 (fun _ => 0)) := by rw [hH15, z_up_n ne_q7_q8]; exact e14_q7
  have e15_q8 : H15 q8 = some (c_I 6 (fun _ => 0)) := by rw [hH15]; exact z_up_s
  have fr15 : ∀ y, y ≠ a → y ≠ q1 → y ≠ q2 → y ≠ q3 → y ≠ q4 → y ≠ q5 → y ≠ q6 → y ≠ q7 → y ≠ q8 → H15 y = h y := fun y n_a n_q1 n_q2 n_q3 n_q4 n_q5 n_q6 n_q7 n_q8 => by rw [hH15, z_up_n n_q8] <;> exact fr14 y n_a n_q1 n_q2 n_q3 n_q4 n_q5 n_q6 n_q7
  refine pf_X9_31 F rfl dX9_init_69 e15_a (Nat.le_of_ble_eq_true rfl) ?_
  obtain ⟨H16, hH16⟩ : ∃ H16, H16 = z_up H15 a (c_O 8 [z_r q1, z_r q2, z_r q3, z_i 0, z_r q4, z_i 0, z_r q5, z_i 0, z_i 0, z_i 0, z_i 0, z_i 0, z_i 0, z_i 0, z_i 0, z_i 0, z_r q6, z_i 0, z_i 0, z_r q7, z_r q8, z_i 0, z_n, z_i 0, z_n, z_n, z_n, z_n]) := ⟨_, rfl⟩
  refine z_heq hH16.symm ?_
  have e16_q1 : H16 q1 = some (c_I 5 (fun _ => 0)) := by rw [hH16, z_up_n ne_a_q1.symm]; exact e15_q1
  have e16_q2 : H16 q2 = some (c_I 15226 (fun _ => 0)) := by rw [hH16, z_up_n ne_a_q2.symm]; exact e15_q2
  have e16_q3 : H16 q3 = some (c_I 15226 (fun _ => 0)) := by rw [hH16, z_up_n ne_a_q3.symm]; exact e15_q3
  have e16_q4 : H16 q4 = some (c_I 250 (fun _ => 0)) := by rw [hH16, z_up_n ne_a_q4.symm]; exact e15_q4
  have e16_q5 : H16 q5 = some (c_I 250 (fun _ => 0)) := by rw [hH16, z_up_n ne_a_q5.symm]; exact e15_q5
  have e16_q6 : H16 q6 = some (c_I 200 (fun _ => 0)) := by rw [hH16, z_up_n ne_a_q6.symm]; exact e15_q6
  have e16_q7 : H16 q7 = some (c_I 6 (fun _ => 0)) := by rw [hH16, z_up_n ne_a_q7.symm]; exact e15_q7
  have e16_q8 : H16 q8 = some (c_I 6 (fun _ => 0)) := by rw [hH16, z_up_n ne_a_q8.symm]; exact e15_q8
  have e16_a : H16 a = some (c_O 8 [z_r q1, z_r q2, z_r q3, z_i 0, z_r q4, z_i 0, z_r q5, z_i 0, z_i 0, z_i 0, z_i 0, z_i 0, z_i 0, z_i 0, z_i 0, z_i 0, z_r q6, z_i 0, z_i 0, z_r q7, z_r q8, z_i 0, z_n, z_i 0, z_n, z_n, z_n, z_n]) := by rw [hH16]; exact z_up_s
  have fr16 : ∀ y, y ≠ a → y ≠ q1 → y ≠ q2 → y ≠ q3 → y ≠ q4 → y ≠ q5 → y ≠ q6 → y ≠ q7 → y ≠ q8 → H16 y = h y := fun y n_a n_q1 n_q2 n_q3 n_q4 n_q5 n_q6 n_q7 n_q8 => by rw [hH16, z_up_n n_a] <;> exact fr15 y n_a n_q1 n_q2 n_q3 n_q4 n_q5 n_q6 n_q7 n_q8
  refine z_aload_n dX9_init_72 rfl ?_
  refine z_bipush dX9_init_73 rfl ?_
  refine z_newI (N := 30) wA_I dX9_init_75 rfl (by decide) ⟨by decide, by decide⟩ (fun q9 hq9 => ?_)
  have ne_a_q9 : a ≠ q9 := z_nef e16_a hq9
  have ne_q1_q9 : q1 ≠ q9 := z_nef e16_q1 hq9
  have ne_q2_q9 : q2 ≠ q9 := z_nef e16_q2 hq9
  have ne_q3_q9 : q3 ≠ q9 := z_nef e16_q3 hq9
  have ne_q4_q9 : q4 ≠ q9 := z_nef e16_q4 hq9
  have ne_q5_q9 : q5 ≠ q9 := z_nef e16_q5 hq9
  have ne_q6_q9 : q6 ≠ q9 := z_nef e16_q6 hq9
  have ne_q7_q9 : q7 ≠ q9 := z_nef e16_q7 hq9
  have ne_q8_q9 : q8 ≠ q9 := z_nef e16_q8 hq9
  have fresh_q9 : h q9 = none := by rw [← fr16 q9 ne_a_q9.symm ne_q1_q9.symm ne_q2_q9.symm ne_q3_q9.symm ne_q4_q9.symm ne_q5_q9.symm ne_q6_q9.symm ne_q7_q9.symm ne_q8_q9.symm]; exact hq9
  obtain ⟨H17, hH17⟩ : ∃ H17, H17 = z_up H16 q9 (c_I 30 (fun _ => 0)) := ⟨_, rfl⟩
  refine z_heq hH17.symm ?_
  have e17_a : H17 a = some (c_O 8 [z_r q1, z_r q2, z_r q3, z_i 0, z_r q4, z_i 0, z_r q5, z_i 0, z_i 0, z_i 0, z_i 0, z_i 0, z_i 0, z_i 0, z_i 0, z_i 0, z_r q6, z_i 0, z_i 0, z_r q7, z_r q8, z_i 0, z_n, z_i 0, z_n, z_n, z_n, z_n]) := by rw [hH17, z_up_n ne_a_q9]; exact e16_a
  have e17_q1 : H17 q1 = some (c_I 5 (fun _ => 0)) := by rw [hH17, z_up_n ne_q1_q9]; exact e16_q1
  have e17_q2 : H17 q2 = some (c_I 15226 (fun _ => 0)) := by rw [hH17, z_up_n ne_q2_q9]; exact e16_q2
  have e17_q3 : H17 q3 = some (c_I 15226 (fun _ => 0)) := by rw [hH17, z_up_n ne_q3_q9]; exact e16_q3
  have e17_q4 : H17 q4 = some (c_I 250 (fun _ => 0)) := by rw [hH17, z_up_n ne_q4_q9]; exact e16_q4
  have e17_q5 : H17 q5 = some (c_I 250 (fun _ => 0)) := by rw [hH17, z_up_n ne_q5_q9]; exact e16_q5
  have e17_q6 : H17 q6 = some (c_I 200 (fun _ => 0)) := by rw [hH17, z_up_n ne_q6_q9]; exact e16_q6
  have e17_q7 : H17 q7 = some (c_I 6 (fun _ => 0)) := by rw [hH17, z_up_n ne_q7_q9]; exact e16_q7
  have e17_q8 : H17 q8 = some (c_I 6 (fun _ => 0)) := by rw [hH17, z_up_n ne_q8_q9]; exact e16_q8
  have e17_q9 : H17 q9 = some (c_I 30 (fun _ => 0)) := by rw [hH17]; exact z_up_s
  have fr17 : ∀ y, y ≠ a → y ≠ q1 → y ≠ q2 → y ≠ q3 → y ≠ q4 → y ≠ q5 → y ≠ q6 → y ≠ q7 → y ≠ q8 → y ≠ q9 → H17 y = h y := fun y n_a n_q1 n_q2 n_q3 n_q4 n_q5 n_q6 n_q7 n_q8 n_q9 => by rw [hH17, z_up_n n_q9] <;> exact fr16 y n_a n_q1 n_q2 n_q3 n_q4 n_q5 n_q6 n_q7 n_q8
  refine pf_X9_34 F rfl dX9_init_77 e17_a (Nat.le_of_ble_eq_true rfl) ?_
  obtain ⟨H18, hH18⟩ : ∃ H18, H18 = z_up H17 a (c_O 8 [z_r q1, z_r q2, z_r q3, z_i 0, z_r q4, z_i 0, z_r q5, z_i 0, z_i 0, z_i 0, z_i 0, z_i 0, z_i 0, z_i 0, z_i 0, z_i 0, z_r q6, z_i 0, z_i 0, z_r q7, z_r q8, z_i 0, z_r q9, z_i 0, z_n, z_n, z_n, z_n]) := ⟨_, rfl⟩
  refine z_heq hH18.symm ?_
  have e18_q1 : H18 q1 = some (c_I 5 (fun _ => 0)) := by rw [hH18, z_up_n ne_a_q1.symm]; exact e17_q1
  have e18_q2 : H18 q2 = some (c_I 15226 (fun _ => 0)) := by rw [hH18, z_up_n ne_a_q2.symm]; exact e17_q2
  have e18_q3 : H18 q3 = some (c_I 15226 (fun _ => 0)) := by rw [hH18, z_up_n ne_a_q3.symm]; exact e17_q3
  have e18_q4 : H18 q4 = some (c_I 250 (fun _ => 0)) := by rw [hH18, z_up_n ne_a_q4.symm]; exact e17_q4
  have e18_q5 : H18 q5 = some (c_I 250 (fun _ => 0)) := by rw [hH18, z_up_n ne_a_q5.symm]; exact e17_q5
  have e18_q6 : H18 q6 = some (c_I 200 (fun _ => 0)) := by rw [hH18, z_up_n ne_a_q6.symm]; exact e17_q6
  have e18_q7 : H18 q7 = some (c_I 6 (fun _ => 0)) := by rw [hH18, z_up_n ne_a_q7.symm]; exact e17_q7
  have e18_q8 : H18 q8 = some (c_I 6 (fun _ => 0)) := by rw [hH18, z_up_n ne_a_q8.symm]; exact e17_q8
  have e18_q9 : H18 q9 = some (c_I 30 (fun _ => 0)) := by rw [hH18, z_up_n ne_a_q9.symm]; exact e17_q9
  have e18_a : H18 a = some (c_O 8 [z_r q1, z_r q2, z_r q3, z_i 0, z_r q4, z_i 0, z_r q5, z_i 0, z_i 0, z_i 0, z_i 0, z_i 0, z_i 0, z_i 0, z_i 0, z_i 0, z_r q6, z_i 0, z_i 0, z_r q7, z_r q8, z_i 0, z_r q9, z_i 0, z_n, z_n, z_n, z_n]) := by rw [hH18]; exact z_up_s
  have fr18 : ∀ y, y ≠ a → y ≠ q1 → y ≠ q2 → y ≠ q3 → y ≠ q4 → y ≠ q5 → y ≠ q6 → y ≠ q7 → y ≠ q8 → y ≠ q9 → H18 y = h y := fun y n_a n_q1 n_q2 n_q3 n_q4 n_q5 n_q6 n_q7 n_q8 n_q9 => by rw [hH18, z_up_n n_a] <;> exact fr17 y n_a n_q1 n_q2 n_q3 n_q4 n_q5 n_q6 n_q7 n_q8 n_q9
  refine z_aload_n dX9_init_80 rfl ?_
  refine z_bipush dX9_init_81 rfl ?_
  refine z_newI (N := 8) wA_I dX9_init_83 rfl (by decide) ⟨by decide, by decide⟩ (fun q10 hq10 => ?_)
  have ne_a_q10 : a ≠ q10 := z_nef e18_a hq10
  have ne_q1_q10 : q1 ≠ q10 := z_nef e18_q1 hq10
  have ne_q2_q10 : q2 ≠ q10 := z_nef e18_q2 hq10
  have ne_q3_q10 : q3 ≠ q10 := z_nef e18_q3 hq10
  have ne_q4_q10 : q4 ≠ q10 := z_nef e18_q4 hq10
  have ne_q5_q10 : q5 ≠ q10 := z_nef e18_q5 hq10
  have ne_q6_q10 : q6 ≠ q10 := z_nef e18_q6 hq10
  have ne_q7_q10 : q7 ≠ q10 := z_nef e18_q7 hq10
  have ne_q8_q10 : q8 ≠ q10 := z_nef e18_q8 hq10
  have ne_q9_q10 : q9 ≠ q10 := z_nef e18_q9 hq10
  have fresh_q10 : h q10 = none := by rw [← fr18 q10 ne_a_q10.symm ne_q1_q10.symm ne_q2_q10.symm ne_q3_q10.symm ne_q4_q10.symm ne_q5_q10.symm ne_q6_q10.symm ne_q7_q10.symm ne_q8_q10.symm ne_q9_q10.symm]; exact hq10
  obtain ⟨H19, hH19⟩ : ∃ H19, H19 = z_up H18 q10 (c_I 8 (fun _ => 0)) := ⟨_, rfl⟩
  refine z_heq hH19.symm ?_
  have e19_a : H19 a = some (c_O 8 [z_r q1, z_r q2, z_r q3, z_i 0, z_r q4, z_i 0, z_r q5, z_i 0, z_i 0, z_i 0, z_i 0, z_i 0, z_i 0, z_i 0, z_i 0, z_i 0, z_r q6, z_i 0, z_i 0, z_r q7, z_r q8, z_i 0, z_r q9, z_i 0, z_n, z_n, z_n, z_n]) := by rw [hH19, z_up_n ne_a_q10]; exact e18_a
  have e19_q1 : H19 q1 = some (c_I 5 (fun _ => 0)) := by rw [hH19, z_up_n ne_q1_q10]; exact e18_q1
  have e19_q2 : H19 q2 = some (c_I 15226 (fun _ => 0)) := by rw [hH19, z_up_n ne_q2_q10]; exact e18_q2
  have e19_q3 : H19 q3 = some (c_I 15226 (fun _ => 0)) := by rw [hH19, z_up_n ne_q3_q10]; exact e18_q3
  have e19_q4 : H19 q4 = some (c_I 250 (fun _ => 0)) := by rw [hH19, z_up_n ne_q4_q10]; exact e18_q4
  have e19_q5 : H19 q5 = some (c_I 250 (fun _ => 0)) := by rw [hH19, z_up_n ne_q5_q10]; exact e18_q5
  have e19_q6 : H19 q6 = some (c_I 200 (fun _ => 0)) := by rw [hH19, z_up_n ne_q6_q10]; exact e18_q6
  have e19_q7 : H19 q7 = some (c_I 6 (fun _ => 0)) := by rw [hH19, z_up_n ne_q7_q10]; exact e18_q7
  have e19_q8 : H19 q8 = some (c_I 6 (fun _ => 0)) := by rw [hH19, z_up_n ne_q8_q10]; exact e18_q8
  have e19_q9 : H19 q9 = some (c_I 30 (fun _ => 0)) := by rw [hH19, z_up_n ne_q9_q10]; exact e18_q9
  have e19_q10 : H19 q10 = some (c_I 8 (fun _ => 0)) := by rw [hH19]; exact z_up_s
  have fr19 : ∀ y, y ≠ a → y ≠ q1 → y ≠ q2 → y ≠ q3 → y ≠ q4 → y ≠ q5 → y ≠ q6 → y ≠ q7 → y ≠ q8 → y ≠ q9 → y ≠ q10 → H19 y = h y := fun y n_a n_q1 n_q2 n_q3 n_q4 n_q5 n_q6 n_q7 n_q8 n_q9 n_q10 => by rw [hH19, z_up_n n_q10] <;> exact fr18 y n_a n_q1 n_q2 n_q3 n_q4 n_q5 n_q6 n_q7 n_q8 n_q9
  refine z_dup dX9_init_85 rfl ?_
  refine z_iconst dX9_init_86 ?_
  refine z_iconst dX9_init_87 ?_
  refine z_iastN (m := 0) dX9_init_88 e19_q10 rfl ⟨by decide, by decide⟩ ?_
  obtain ⟨H20, hH20⟩ : ∃ H20, H20 = z_up H19 q10 (c_I 8 (z_sf (fun _ => 0) 0 (-1))) := ⟨_, rfl⟩
  refine z_heq hH20.symm ?_
  have e20_a : H20 a = some (c_O 8 [z_r q1, z_r q2, z_r q3, z_i 0, z_r q4, z_i 0, z_r q5, z_i 0, z_i 0, z_i 0, z_i 0, z_i 0, z_i 0, z_i 0, z_i 0, z_i 0, z_r q6, z_i 0, z_i 0, z_r q7, z_r q8, z_i 0, z_r q9, z_i 0, z_n, z_n, z_n, z_n]) := by rw [hH20, z_up_n ne_a_q10]; exact e19_a
  have e20_q1 : H20 q1 = some (c_I 5 (fun _ => 0)) := by rw [hH20, z_up_n ne_q1_q10]; exact e19_q1
  have e20_q2 : H20 q2 = some (c_I 15226 (fun _ => 0)) := by rw [hH20, z_up_n ne_q2_q10]; exact e19_q2
  have e20_q3 : H20 q3 = some (c_I 15226 (fun _ => 0)) := by rw [hH20, z_up_n ne_q3_q10]; exact e19_q3
  have e20_q4 : H20 q4 = some (c_I 250 (fun _ => 0)) := by rw [hH20, z_up_n ne_q4_q10]; exact e19_q4
  have e20_q5 : H20 q5 = some (c_I 250 (fun _ => 0)) := by rw [hH20, z_up_n ne_q5_q10]; exact e19_q5
  have e20_q6 : H20 q6 = some (c_I 200 (fun _ => 0)) := by rw [hH20, z_up_n ne_q6_q10]; exact e19_q6
  have e20_q7 : H20 q7 = some (c_I 6 (fun _ => 0)) := by rw [hH20, z_up_n ne_q7_q10]; exact e19_q7
  have e20_q8 : H20 q8 = some (c_I 6 (fun _ => 0)) := by rw [hH20, z_up_n ne_q8_q10]; exact e19_q8
  have e20_q9 : H20 q9 = some (c_I 30 (fun _ => 0)) := by rw [hH20, z_up_n ne_q9_q10]; exact e19_q9
  have e20_q10 : H20 q10 = some (c_I 8 (z_sf (fun _ => 0) 0 (-1))) := by rw [hH20]; exact z_up_s
  have fr20 : ∀ y, y ≠ a → y ≠ q1 → y ≠ q2 → y ≠ q3 → y ≠ q4 → y ≠ q5 → y ≠ q6 → y ≠ q7 → y ≠ q8 → y ≠ q9 → y ≠ q10 → H20 y = h y := fun y n_a n_q1 n_q2 n_q3 n_q4 n_q5 n_q6 n_q7 n_q8 n_q9 n_q10 => by rw [hH20, z_up_n n_q10] <;> exact fr19 y n_a n_q1 n_q2 n_q3 n_q4 n_q5 n_q6 n_q7 n_q8 n_q9 n_q10
  refine z_dup dX9_init_89 rfl ?_
  refine z_iconst dX9_init_90 ?_
  refine z_iconst dX9_init_91 ?_
  refine z_iastN (m := 1) dX9_init_92 e20_q10 rfl ⟨by decide, by decide⟩ ?_
  obtain ⟨H21, hH21⟩ : ∃ H21, H21 = z_up H20 q10 (c_I 8 (z_sf (z_sf (fun _ => 0) 0 (-1)) 1 (-1))) := ⟨_, rfl⟩
  refine z_heq hH21.symm ?_
  have e21_a : H21 a = some (c_O 8 [z_r q1, z_r q2, z_r q3, z_i 0, z_r q4, z_i 0, z_r q5, z_i 0, z_i 0, z_i 0, z_i 0, z_i 0, z_i 0, z_i 0, z_i 0, z_i 0, z_r q6, z_i 0, z_i 0, z_r q7, z_r q8, z_i 0, z_r q9, z_i 0, z_n, z_n, z_n, z_n]) := by rw [hH21, z_up_n ne_a_q10]; exact e20_a
  have e21_q1 : H21 q1 = some (c_I 5 (fun _ => 0)) := by rw [hH21, z_up_n ne_q1_q10]; exact e20_q1
  have e21_q2 : H21 q2 = some (c_I 15226 (fun _ => 0)) := by rw [hH21, z_up_n ne_q2_q10]; exact e20_q2
  have e21_q3 : H21 q3 = some (c_I 15226 (fun _ => 0)) := by rw [hH21, z_up_n ne_q3_q10]; exact e20_q3
  have e21_q4 : H21 q4 = some (c_I 250 (fun _ => 0)) := by rw [hH21, z_up_n ne_q4_q10]; exact e20_q4
  have e21_q5 : H21 q5 = some (c_I 250 (fun _ => 0)) := by rw [hH21, z_up_n ne_q5_q10]; exact e20_q5
  have e21_q6 : H21 q6 = some (c_I 200 (fun _ => 0)) := by rw [hH21, z_up_n ne_q6_q10]; exact e20_q6
  have e21_q7 : H21 q7 = some (c_I 6 (fun _ => 0)) := by rw [hH21, z_up_n ne_q7_q10]; exact e20_q7
  have e21_q8 : H21 q8 = some (c_I 6 (fun _ => 0)) := by rw [hH21, z_up_n ne_q8_q10]; exact e20_q8
  have e21_q9 : H21 q9 = some (c_I 30 (fun _ => 0)) := by rw [hH21, z_up_n ne_q9_q10]; exact e20_q9
  have e21_q10 : H21 q10 = some (c_I 8 (z_sf (z_sf (fun _ => 0) 0 (-1)) 1 (-1))) := by rw [hH21]; exact z_up_s
  have fr21 : ∀ y, y ≠ a → y ≠ q1 → y ≠ q2 → y ≠ q3 → y ≠ q4 → y ≠ q5 → y ≠ q6 → y ≠ q7 → y ≠ q8 → y ≠ q9 → y ≠ q10 → H21 y = h y := fun y n_a n_q1 n_q2 n_q3 n_q4 n_q5 n_q6 n_q7 n_q8 n_q9 n_q10 => by rw [hH21, z_up_n n_q10] <;> exact fr20 y n_a n_q1 n_q2 n_q3 n_q4 n_q5 n_q6 n_q7 n_q8 n_q9 n_q10
  refine z_dup dX9_init_93 rfl ?_
  refine z_iconst dX9_init_94 ?_
  refine z_iconst dX9_init_95 ?_
  refine z_iastN (m := 2) dX9_init_96 e21_q10 rfl ⟨by decide, by decide⟩ ?_
  obtain ⟨H22, hH22⟩ : ∃ H22, H22 = z_up H21 q10 (c_I 8 (z_sf (z_sf (z_sf (fun _ => 0) 0 (-1)) 1 (-1)) 2 (-1))) := ⟨_, rfl⟩
  refine z_heq hH22.symm ?_
  have e22_a : H22 a = some (c_O 8 [z_r q1, z_r q2, z_r q3, z_i 0, z_r q4, z_i 0, z_r q5, z_i 0, z_i 0, z_i 0, z_i 0, z_i 0, z_i 0, z_i 0, z_i 0, z_i 0, z_r q6, z_i 0, z_i 0, z_r q7, z_r q8, z_i 0, z_r q9, z_i 0, z_n, z_n, z_n, z_n]) := by rw [hH22, z_up_n ne_a_q10]; exact e21_a
  have e22_q1 : H22 q1 = some (c_I 5 (fun _ => 0)) := by rw [hH22, z_up_n ne_q1_q10]; exact e21_q1
  have e22_q2 : H22 q2 = some (c_I 15226 (fun _ => 0)) := by rw [hH22, z_up_n ne_q2_q10]; exact e21_q2
  have e22_q3 : H22 q3 = some (c_I 15226 (fun _ => 0)) := by rw [hH22, z_up_n ne_q3_q10]; exact e21_q3
  have e22_q4 : H22 q4 = some (c_I 250 (fun _ => 0)) := by rw [hH22, z_up_n ne_q4_q10]; exact e21_q4
  have e22_q5 : H22 q5 = some (c_I 250 (fun _ => 0)) := by rw [hH22, z_up_n ne_q5_q10]; exact e21_q5
  have e22_q6 : H22 q6 = some (c_I 200 (fun _ => 0)) := by rw [hH22, z_up_n ne_q6_q10]; exact e21_q6
  have e22_q7 : H22 q7 = some (c_I 6 (fun _ => 0)) := by rw [hH22, z_up_n ne_q7_q10]; exact e21_q7
  have e22_q8 : H22 q8 = some (c_I 6 (fun _ => 0)) := by rw [hH22, z_up_n ne_q8_q10]; exact e21_q8
  have e22_q9 : H22 q9 = some (c_I 30 (fun _ => 0)) := by rw [hH22, z_up_n ne_q9_q10]; exact e21_q9
  have e22_q10 : H22 q10 = some (c_I 8 (z_sf (z_sf (z_sf (fun _ => 0) 0 (-1)) 1 (-1)) 2 (-1))) := by rw [hH22]; exact z_up_s
  have fr22 : ∀ y, y ≠ a → y ≠ q1 → y ≠ q2 → y ≠ q3 → y ≠ q4 → y ≠ q5 → y ≠ q6 → y ≠ q7 → y ≠ q8 → y ≠ q9 → y ≠ q10 → H22 y = h y := fun y n_a n_q1 n_q2 n_q3 n_q4 n_q5 n_q6 n_q7 n_q8 n_q9 n_q10 => by rw [hH22, z_up_n n_q10] <;> exact fr21 y n_a n_q1 n_q2 n_q3 n_q4 n_q5 n_q6 n_q7 n_q8 n_q9 n_q10
  refine z_dup dX9_init_97 rfl ?_
  refine z_iconst dX9_init_98 ?_
  refine z_iconst dX9_init_99 ?_
  refine z_iastN (m := 3) dX9_init_100 e22_q10 rfl ⟨by decide, by decide⟩ ?_
  obtain ⟨H23, hH23⟩ : ∃ H23, H23 = z_up H22 q10 (c_I 8 (z_sf (z_sf (z_sf (z_sf (fun _ => 0) 0 (-1)) 1 (-1)) 2 (-1)) 3 (-1))) := ⟨_, rfl⟩
  refine z_heq hH23.symm ?_
  have e23_a : H23 a = some (c_O 8 [z_r q1, z_r q2, z_r q3, z_i 0, z_r q4, z_i 0, z_r q5, z_i 0, z_i 0, z_i 0, z_i 0, z_i 0, z_i 0, z_i 0, z_i 0, z_i 0, z_r q6, z_i 0, z_i 0, z_r q7, z_r q8, z_i 0, z_r q9, z_i 0, z_n, z_n, z_n, z_n]) := by rw [hH23, z_up_n ne_a_q10]; exact e22_a
  have e23_q1 : H23 q1 = some (c_I 5 (fun _ => 0)) := by rw [hH23, z_up_n ne_q1_q10]; exact e22_q1
  have e23_q2 : H23 q2 = some (c_I 15226 (fun _ => 0)) := by rw [hH23, z_up_n ne_q2_q10]; exact e22_q2
  have e23_q3 : H23 q3 = some (c_I 15226 (fun _ => 0)) := by rw [hH23, z_up_n ne_q3_q10]; exact e22_q3
  have e23_q4 : H23 q4 = some (c_I 250 (fun _ => 0)) := by rw [hH23, z_up_n ne_q4_q10]; exact e22_q4
  have e23_q5 : H23 q5 = some (c_I 250 (fun _ => 0)) := by rw [hH23, z_up_n ne_q5_q10]; exact e22_q5
  have e23_q6 : H23 q6 = some (c_I 200 (fun _ => 0)) := by rw [hH23, z_up_n ne_q6_q10]; exact e22_q6
  have e23_q7 : H23 q7 = some (c_I 6 (fun _ => 0)) := by rw [hH23, z_up_n ne_q7_q10]; exact e22_q7
  have e23_q8 : H23 q8 = some (c_I 6 (fun _ => 0)) := by rw [hH23, z_up_n ne_q8_q10]; exact e22_q8
  have e23_q9 : H23 q9 = some (c_I 30 (fun _ => 0)) := by rw [hH23, z_up_n ne_q9_q10]; exact e22_q9
  have e23_q10 : H23 q10 = some (c_I 8 (z_sf (z_sf (z_sf (z_sf (fun _ => 0) 0 (-1)) 1 (-1)) 2 (-1)) 3 (-1))) := by rw [hH23]; exact z_up_s
  have fr23 : ∀ y, y ≠ a → y ≠ q1 → y ≠ q2 → y ≠ q3 → y ≠ q4 → y ≠ q5 → y ≠ q6 → y ≠ q7 → y ≠ q8 → y ≠ q9 → y ≠ q10 → H23 y = h y := fun y n_a n_q1 n_q2 n_q3 n_q4 n_q5 n_q6 n_q7 n_q8 n_q9 n_q10 => by rw [hH23, z_up_n n_q10] <;> exact fr22 y n_a n_q1 n_q2 n_q3 n_q4 n_q5 n_q6 n_q7 n_q8 n_q9 n_q10
  refine z_dup dX9_init_101 rfl ?_
  refine z_iconst dX9_init_102 ?_
  refine z_iconst dX9_init_103 ?_
  refine z_iastN (m := 4) dX9_init_104 e23_q10 rfl ⟨by decide, by decide⟩ ?_
  obtain ⟨H24, hH24⟩ : ∃ H24, H24 = z_up H23 q10 (c_I 8 (z_sf (z_sf (z_sf (z_sf (z_sf (fun _ => 0) 0 (-1)) 1 (-1)) 2 (-1)) 3 (-1)) 4 (-1))) := ⟨_, rfl⟩
  refine z_heq hH24.symm ?_
  have e24_a : H24 a = some (c_O 8 [z_r q1, z_r q2, z_r q3, z_i 0, z_r q4, z_i 0, z_r q5, z_i 0, z_i 0, z_i 0, z_i 0, z_i 0, z_i 0, z_i 0, z_i 0, z_i 0, z_r q6, z_i 0, z_i 0, z_r q7, z_r q8, z_i 0, z_r q9, z_i 0, z_n, z_n, z_n, z_n]) := by rw [hH24, z_up_n ne_a_q10]; exact e23_a
  have e24_q1 : H24 q1 = some (c_I 5 (fun _ => 0)) := by rw [hH24, z_up_n ne_q1_q10]; exact e23_q1
  have e24_q2 : H24 q2 = some (c_I 15226 (fun _ => 0)) := by rw [hH24, z_up_n ne_q2_q10]; exact e23_q2
  have e24_q3 : H24 q3 = some (c_I 15226 (fun _ => 0)) := by rw [hH24, z_up_n ne_q3_q10]; exact e23_q3
  have e24_q4 : H24 q4 = some (c_I 250 (fun _ => 0)) := by rw [hH24, z_up_n ne_q4_q10]; exact e23_q4
  have e24_q5 : H24 q5 = some (c_I 250 (fun _ => 0)) := by rw [hH24, z_up_n ne_q5_q10]; exact e23_q5
  have e24_q6 : H24 q6 = some (c_I 200 (fun _ => 0)) := by rw [hH24, z_up_n ne_q6_q10]; exact e23_q6
  have e24_q7 : H24 q7 = some (c_I 6 (fun _ => 0)) := by rw [hH24, z_up_n ne_q7_q10]; exact e23_q7
  have e24_q8 : H24 q8 = some (c_I 6 (fun _ => 0)) := by rw [hH24, z_up_n ne_q8_q10]; exact e23_q8
  have e24_q9 : H24 q9 = some (c_I 30 (fun _ => 0)) := by rw [hH24, z_up_n ne_q9_q10]; exact e23_q9
  have e24_q10 : H24 q10 = some (c_I 8 (z_sf (z_sf (z_sf (z_sf (z_sf (fun _ => 0) 0 (-1)) 1 (-1)) 2 (-1)) 3 (-1)) 4 (-1))) := by rw [hH24]; exact z_up_s
  have fr24 : ∀ y, y ≠ a → y ≠ q1 → y ≠ q2 → y ≠ q3 → y ≠ q4 → y ≠ q5 → y ≠ q6 → y ≠ q7 → y ≠ q8 → y ≠ q9 → y ≠ q10 → H24 y = h y := fun y n_a n_q1 n_q2 n_q3 n_q4 n_q5 n_q6 n_q7 n_q8 n_q9 n_q10 => by rw [hH24, z_up_n n_q10] <;> exact fr23 y n_a n_q1 n_q2 n_q3 n_q4 n_q5 n_q6 n_q7 n_q8 n_q9 n_q10
  refine z_dup dX9_init_105 rfl ?_
  refine z_iconst dX9_init_106 ?_
  refine z_iconst dX9_init_107 ?_
  refine z_iastN (m := 5) dX9_init_108 e24_q10 rfl ⟨by decide, by decide⟩ ?_
  obtain ⟨H25, hH25⟩ : ∃ H25, H25 = z_up H24 q10 (c_I 8 (z_sf (z_sf (z_sf (z_sf (z_sf (z_sf (fun _ => 0) 0 (-1)) 1 (-1)) 2 (-1)) 3 (-1)) 4 (-1)) 5 (-1))) := ⟨_, rfl⟩
  refine z_heq hH25.symm ?_
  have e25_a : H25 a = some (c_O 8 [z_r q1, z_r q2, z_r q3, z_i 0, z_r q4, z_i 0, z_r q5, z_i 0, z_i 0, z_i 0, z_i 0, z_i 0, z_i 0, z_i 0, z_i 0, z_i 0, z_r q6, z_i 0, z_i 0, z_r q7, z_r q8, z_i 0, z_r q9, z_i 0, z_n, z_n, z_n, z_n]) := by rw [hH25, z_up_n ne_a_q10]; exact e24_a
  have e25_q1 : H25 q1 = some (c_I 5 (fun _ => 0)) := by rw [hH25, z_up_n ne_q1_q10]; exact e24_q1
  have e25_q2 : H25 q2 = some (c_I 15226 (fun _ => 0)) := by rw [hH25, z_up_n ne_q2_q10]; exact e24_q2
  have e25_q3 : H25 q3 = some (c_I 15226 (fun _ => 0)) := by rw [hH25, z_up_n ne_q3_q10]; exact e24_q3
  have e25_q4 : H25 q4 = some (c_I 250 (fun _ => 0)) := by rw [hH25, z_up_n ne_q4_q10]; exact e24_q4
  have e25_q5 : H25 q5 = some (c_I 250 (fun _ => 0)) := by rw [hH25, z_up_n ne_q5_q10]; exact e24_q5
  have e25_q6 : H25 q6 = some (c_I 200 (fun _ => 0)) := by rw [hH25, z_up_n ne_q6_q10]; exact e24_q6
  have e25_q7 : H25 q7 = some (c_I 6 (fun _ => 0)) := by rw [hH25, z_up_n ne_q7_q10]; exact e24_q7
  have e25_q8 : H25 q8 = some (c_I 6 (fun _ => 0)) := by rw [hH25, z_up_n ne_q8_q10]; exact e24_q8
  have e25_q9 : H25 q9 = some (c_I 30 (fun _ => 0)) := by rw [hH25, z_up_n ne_q9_q10]; exact e24_q9
  have e25_q10 : H25 q10 = some (c_I 8 (z_sf (z_sf (z_sf (z_sf (z_sf (z_sf (fun _ => 0) 0 (-1)) 1 (-1)) 2 (-1)) 3 (-1)) 4 (-1)) 5 (-1))) := by rw [hH25]; exact z_up_s
  have fr25 : ∀ y, y ≠ a → y ≠ q1 → y ≠ q2 → y ≠ q3 → y ≠ q4 → y ≠ q5 → y ≠ q6 → y ≠ q7 → y ≠ q8 → y ≠ q9 → y ≠ q10 → H25 y = h y := fun y n_a n_q1 n_q2 n_q3 n_q4 n_q5 n_q6 n_q7 n_q8 n_q9 n_q10 => by rw [hH25, z_up_n n_q10] <;> exact fr24 y n_a n_q1 n_q2 n_q3 n_q4 n_q5 n_q6 n_q7 n_q8 n_q9 n_q10
  refine z_dup dX9_init_109 rfl ?_
  refine z_bipush dX9_init_110 rfl ?_
  refine z_iconst dX9_init_112 ?_
  refine z_iastN (m := 6) dX9_init_113 e25_q10 rfl ⟨by decide, by decide⟩ ?_
  obtain ⟨H26, hH26⟩ : ∃ H26, H26 = z_up H25 q10 (c_I 8 (z_sf (z_sf (z_sf (z_sf (z_sf (z_sf (z_sf (fun _ => 0) 0 (-1)) 1 (-1)) 2 (-1)) 3 (-1)) 4 (-1)) 5 (-1)) 6 (-1))) := ⟨_, rfl⟩
  refine z_heq hH26.symm ?_
  have e26_a : H26 a = some (c_O 8 [z_r q1, z_r q2, z_r q3, z_i 0, z_r q4, z_i 0, z_r q5, z_i 0, z_i 0, z_i 0, z_i 0, z_i 0, z_i 0, z_i 0, z_i 0, z_i 0, z_r q6, z_i 0, z_i 0, z_r q7, z_r q8, z_i 0, z_r q9, z_i 0, z_n, z_n, z_n, z_n]) := by rw [hH26, z_up_n ne_a_q10]; exact e25_a
  have e26_q1 : H26 q1 = some (c_I 5 (fun _ => 0)) := by rw [hH26, z_up_n ne_q1_q10]; exact e25_q1
  have e26_q2 : H26 q2 = some (c_I 15226 (fun _ => 0)) := by rw [hH26, z_up_n ne_q2_q10]; exact e25_q2
  have e26_q3 : H26 q3 = some (c_I 15226 (fun _ => 0)) := by rw [hH26, z_up_n ne_q3_q10]; exact e25_q3
  have e26_q4 : H26 q4 = some (c_I 250 (fun _ => 0)) := by rw [hH26, z_up_n ne_q4_q10]; exact e25_q4
  have e26_q5 : H26 q5 = some (c_I 250 (fun _ => 0)) := by rw [hH26, z_up_n ne_q5_q10]; exact e25_q5
  have e26_q6 : H26 q6 = some (c_I 200 (fun _ => 0)) := by rw [hH26, z_up_n ne_q6_q10]; exact e25_q6
  have e26_q7 : H26 q7 = some (c_I 6 (fun _ => 0)) := by rw [hH26, z_up_n ne_q7_q10]; exact e25_q7
  have e26_q8 : H26 q8 = some (c_I 6 (fun _ => 0)) := by rw [hH26, z_up_n ne_q8_q10]; exact e25_q8
  have e26_q9 : H26 q9 = some (c_I 30 (fun _ => 0)) := by rw [hH26, z_up_n ne_q9_q10]; exact e25_q9
  have e26_q10 : H26 q10 = some (c_I 8 (z_sf (z_sf (z_sf (z_sf (z_sf (z_sf (z_sf (fun _ => 0) 0 (-1)) 1 (-1)) 2 (-1)) 3 (-1)) 4 (-1)) 5 (-1)) 6 (-1))) := by rw [hH26]; exact z_up_s
  have fr26 : ∀ y, y ≠ a → y ≠ q1 → y ≠ q2 → y ≠ q3 → y ≠ q4 → y ≠ q5 → y ≠ q6 → y ≠ q7 → y ≠ q8 → y ≠ q9 → y ≠ q10 → H26 y = h y := fun y n_a n_q1 n_q2 n_q3 n_q4 n_q5 n_q6 n_q7 n_q8 n_q9 n_q10 => by rw [hH26, z_up_n n_q10] <;> exact fr25 y n_a n_q1 n_q2 n_q3 n_q4 n_q5 n_q6 n_q7 n_q8 n_q9 n_q10
  refine z_dup dX9_init_114 rfl ?_
  refine z_bipush dX9_init_115 rfl ?_
  refine z_iconst dX9_init_117 ?_
  refine z_iastN (m := 7) dX9_init_118 e26_q10 rfl ⟨by decide, by decide⟩ ?_
  obtain ⟨H27, hH27⟩ : ∃ H27, H27 = z_up H26 q10 (c_I 8 (z_sf (z_sf (z_sf (z_sf (z_sf (z_sf (z_sf (z_sf (fun _ => 0) 0 (-1)) 1 (-1)) 2 (-1)) 3 (-1)) 4 (-1)) 5 (-1)) 6 (-1)) 7 (-1))) := ⟨_, rfl⟩
  refine z_heq hH27.symm ?_
  have e27_a : H27 a = some (c_O 8 [z_r q1, z_r q2, z_r q3, z_i 0, z_r q4, z_i 0, z_r q5, z_i 0, z_i 0, z_i 0, z_i 0, z_i 0, z_i 0, z_i 0, z_i 0, z_i 0, z_r q6, z_i 0, z_i 0, z_r q7, z_r q8, z_i 0, z_r q9, z_i 0, z_n, z_n, z_n, z_n]) := by rw [hH27, z_up_n ne_a_q10]; exact e26_a
  have e27_q1 : H27 q1 = some (c_I 5 (fun _ => 0)) := by rw [hH27, z_up_n ne_q1_q10]; exact e26_q1
  have e27_q2 : H27 q2 = some (c_I 15226 (fun _ => 0)) := by rw [hH27, z_up_n ne_q2_q10]; exact e26_q2
  have e27_q3 : H27 q3 = some (c_I 15226 (fun _ => 0)) := by rw [hH27, z_up_n ne_q3_q10]; exact e26_q3
  have e27_q4 : H27 q4 = some (c_I 250 (fun _ => 0)) := by rw [hH27, z_up_n ne_q4_q10]; exact e26_q4
  have e27_q5 : H27 q5 = some (c_I 250 (fun _ => 0)) := by rw [hH27, z_up_n ne_q5_q10]; exact e26_q5
  have e27_q6 : H27 q6 = some (c_I 200 (fun _ => 0)) := by rw [hH27, z_up_n ne_q6_q10]; exact e26_q6
  have e27_q7 : H27 q7 = some (c_I 6 (fun _ => 0)) := by rw [hH27, z_up_n ne_q7_q10]; exact e26_q7
  have e27_q8 : H27 q8 = some (c_I 6 (fun _ => 0)) := by rw [hH27, z_up_n ne_q8_q10]; exact e26_q8
  have e27_q9 : H27 q9 = some (c_I 30 (fun _ => 0)) := by rw [hH27, z_up_n ne_q9_q10]; exact e26_q9
  have e27_q10 : H27 q10 = some (c_I 8 (z_sf (z_sf (z_sf (z_sf (z_sf (z_sf (z_sf (z_sf (fun _ => 0) 0 (-1)) 1 (-1)) 2 (-1)) 3 (-1)) 4 (-1)) 5 (-1)) 6 (-1)) 7 (-1))) := by rw [hH27]; exact z_up_s
  have fr27 : ∀ y, y ≠ a → y ≠ q1 → y ≠ q2 → y ≠ q3 → y ≠ q4 → y ≠ q5 → y ≠ q6 → y ≠ q7 → y ≠ q8 → y ≠ q9 → y ≠ q10 → H27 y = h y := fun y n_a n_q1 n_q2 n_q3 n_q4 n_q5 n_q6 n_q7 n_q8 n_q9 n_q10 => by rw [hH27, z_up_n n_q10] <;> exact fr26 y n_a n_q1 n_q2 n_q3 n_q4 n_q5 n_q6 n_q7 n_q8 n_q9 n_q10
  refine pf_X9_37 F rfl dX9_init_119 e27_a (Nat.le_of_ble_eq_true rfl) ?_
  obtain ⟨H28, hH28⟩ : ∃ H28, H28 = z_up H27 a (c_O 8 [z_r q1, z_r q2, z_r q3, z_i 0, z_r q4, z_i 0, z_r q5, z_i 0, z_i 0, z_i 0, z_i 0, z_i 0, z_i 0, z_i 0, z_i 0, z_i 0, z_r q6, z_i 0, z_i 0, z_r q7, z_r q8, z_i 0, z_r q9, z_i 0, z_r q10, z_n, z_n, z_n]) := ⟨_, rfl⟩
  refine z_heq hH28.symm ?_
  have e28_q1 : H28 q1 = some (c_I 5 (fun _ => 0)) := by rw [hH28, z_up_n ne_a_q1.symm]; exact e27_q1
  have e28_q2 : H28 q2 = some (c_I 15226 (fun _ => 0)) := by rw [hH28, z_up_n ne_a_q2.symm]; exact e27_q2
  have e28_q3 : H28 q3 = some (c_I 15226 (fun _ => 0)) := by rw [hH28, z_up_n ne_a_q3.symm]; exact e27_q3
  have e28_q4 : H28 q4 = some (c_I 250 (fun _ => 0)) := by rw [hH28, z_up_n ne_a_q4.symm]; exact e27_q4
  have e28_q5 : H28 q5 = some (c_I 250 (fun _ => 0)) := by rw [hH28, z_up_n ne_a_q5.symm]; exact e27_q5
  have e28_q6 : H28 q6 = some (c_I 200 (fun _ => 0)) := by rw [hH28, z_up_n ne_a_q6.symm]; exact e27_q6
  have e28_q7 : H28 q7 = some (c_I 6 (fun _ => 0)) := by rw [hH28, z_up_n ne_a_q7.symm]; exact e27_q7
  have e28_q8 : H28 q8 = some (c_I 6 (fun _ => 0)) := by rw [hH28, z_up_n ne_a_q8.symm]; exact e27_q8
  have e28_q9 : H28 q9 = some (c_I 30 (fun _ => 0)) := by rw [hH28, z_up_n ne_a_q9.symm]; exact e27_q9
  have e28_q10 : H28 q10 = some (c_I 8 (z_sf (z_sf (z_sf (z_sf (z_sf (z_sf (z_sf (z_sf (fun _ => 0) 0 (-1)) 1 (-1)) 2 (-1)) 3 (-1)) 4 (-1)) 5 (-1)) 6 (-1)) 7 (-1))) := by rw [hH28, z_up_n ne_a_q10.symm]; exact e27_q10
  have e28_a : H28 a = some (c_O 8 [z_r q1, z_r q2, z_r q3, z_i 0, z_r q4, z_i 0, z_r q5, z_i 0, z_i 0, z_i 0, z_i 0, z_i 0, z_i 0, z_i 0, z_i 0, z_i 0, z_r q6, z_i 0, z_i 0, z_r q7, z_r q8, z_i 0, z_r q9, z_i 0, z_r q10, z_n, z_n, z_n]) := by rw [hH28]; exact z_up_s
  have fr28 : ∀ y, y ≠ a → y ≠ q1 → y ≠ q2 → y ≠ q3 → y ≠ q4 → y ≠ q5 → y ≠ q6 → y ≠ q7 → y ≠ q8 → y ≠ q9 → y ≠ q10 → H28 y = h y := fun y n_a n_q1 n_q2 n_q3 n_q4 n_q5 n_q6 n_q7 n_q8 n_q9 n_q10 => by rw [hH28, z_up_n n_a] <;> exact fr27 y n_a n_q1 n_q2 n_q3 n_q4 n_q5 n_q6 n_q7 n_q8 n_q9 n_q10
  refine z_aload_n dX9_init_122 rfl ?_
  refine z_bipush dX9_init_123 rfl ?_
  refine z_newI (N := 8) wA_I dX9_init_125 rfl (by decide) ⟨by decide, by decide⟩ (fun q11 hq11 => ?_)
  have ne_a_q11 : a ≠ q11 := z_nef e28_a hq11
  have ne_q1_q11 : q1 ≠ q11 := z_nef e28_q1 hq11
  have ne_q2_q11 : q2 ≠ q11 := z_nef e28_q2 hq11
  have ne_q3_q11 : q3 ≠ q11 := z_nef e28_q3 hq11
  have ne_q4_q11 : q4 ≠ q11 := z_nef e28_q4 hq11
  have ne_q5_q11 : q5 ≠ q11 := z_nef e28_q5 hq11
  have ne_q6_q11 : q6 ≠ q11 := z_nef e28_q6 hq11
  have ne_q7_q11 : q7 ≠ q11 := z_nef e28_q7 hq11
  have ne_q8_q11 : q8 ≠ q11 := z_nef e28_q8 hq11
  have ne_q9_q11 : q9 ≠ q11 := z_nef e28_q9 hq11
  have ne_q10_q11 : q10 ≠ q11 := z_nef e28_q10 hq11
  have fresh_q11 : h q11 = none := by rw [← fr28 q11 ne_a_q11.symm ne_q1_q11.symm ne_q2_q11.symm ne_q3_q11.symm ne_q4_q11.symm ne_q5_q11.symm ne_q6_q11.symm ne_q7_q11.symm ne_q8_q11.symm ne_q9_q11.symm ne_q10_q11.symm]; exact hq11
  obtain ⟨H29, hH29⟩ : ∃ H29, H29 = z_up H28 q11 (c_I 8 (fun _ => 0)) := ⟨_, rfl⟩
  refine z_heq hH29.symm ?_
  have e29_a : H29 a = some (c_O 8 [z_r q1, z_r q2, z_r q3, z_i 0, z_r q4, z_i 0, z_r q5, z_i 0, z_i 0, z_i 0, z_i 0, z_i 0, z_i 0, z_i 0, z_i 0, z_i 0, z_r q6, z_i 0, z_i 0, z_r q7, z_r q8, z_i 0, z_r q9, z_i 0, z_r q10, z_n, z_n, z_n]) := by rw [hH29, z_up_n ne_a_q11]; exact e28_a
  have e29_q1 : H29 q1 = some (c_I 5 (fun _ => 0)) := by rw [hH29, z_up_n ne_q1_q11]; exact e28_q1
  have e29_q2 : H29 q2 = some (c_I 15226 (fun _ => 0)) := by rw [hH29, z_up_n ne_q2_q11]; exact e28_q2
  have e29_q3 : H29 q3 = some (c_I 15226 (fun _ => 0)) := by rw [hH29, z_up_n ne_q3_q11]; exact e28_q3
  have e29_q4 : H29 q4 = some (c_I 250 (fun _ => 0)) := by rw [hH29, z_up_n ne_q4_q11]; exact e28_q4
  have e29_q5 : H29 q5 = some (c_I 250 (fun _ => 0)) := by rw [hH29, z_up_n ne_q5_q11]; exact e28_q5
  have e29_q6 : H29 q6 = some (c_I 200 (fun _ => 0)) := by rw [hH29, z_up_n ne_q6_q11]; exact e28_q6
  have e29_q7 : H29 q7 = some (c_I 6 (fun _ => 0)) := by rw [hH29, z_up_n ne_q7_q11]; exact e28_q7
  have e29_q8 : H29 q8 = some (c_I 6 (fun _ => 0)) := by rw [hH29, z_up_n ne_q8_q11]; exact e28_q8
  have e29_q9 : H29 q9 = some (c_I 30 (fun _ => 0)) := by rw [hH29, z_up_n ne_q9_q11]; exact e28_q9
  have e29_q10 : H29 q10 = some (c_I 8 (z_sf (z_sf (z_sf (z_sf (z_sf (z_sf (z_sf (z_sf (fun _ => 0) 0 (-1)) 1 (-1)) 2 (-1)) 3 (-1)) 4 (-1)) 5 (-1)) 6 (-1)) 7 (-1))) := by rw [hH29, z_up_n ne_q10_q11]; exact e28_q10
  have e29_q11 : H29 q11 = some (c_I 8 (fun _ => 0)) := by rw [hH29]; exact z_up_s
  have fr29 : ∀ y, y ≠ a → y ≠ q1 → y ≠ q2 → y ≠ q3 → y ≠ q4 → y ≠ q5 → y ≠ q6 → y ≠ q7 → y ≠ q8 → y ≠ q9 → y ≠ q10 → y ≠ q11 → H29 y = h y := fun y n_a n_q1 n_q2 n_q3 n_q4 n_q5 n_q6 n_q7 n_q8 n_q9 n_q10 n_q11 => by rw [hH29, z_up_n n_q11] <;> exact fr28 y n_a n_q1 n_q2 n_q3 n_q4 n_q5 n_q6 n_q7 n_q8 n_q9 n_q10
  refine pf_X9_40 F rfl dX9_init_127 e29_a (Nat.le_of_ble_eq_true rfl) ?_
  obtain ⟨H30, hH30⟩ : ∃ H30, H30 = z_up H29 a (c_O 8 [z_r q1, z_r q2, z_r q3, z_i 0, z_r q4, z_i 0, z_r q5, z_i 0, z_i 0, z_i 0, z_i 0, z_i 0, z_i 0, z_i 0, z_i 0, z_i 0, z_r q6, z_i 0, z_i 0, z_r q7, z_r q8, z_i 0, z_r q9, z_i 0, z_r q10, z_r q11, z_n, z_n]) := ⟨_, rfl⟩
  refine z_heq hH30.symm ?_
  have e30_q1 : H30 q1 = some (c_I 5 (fun _ => 0)) := by rw [hH30, z_up_n ne_a_q1.symm]; exact e29_q1
  have e30_q2 : H30 q2 = some (c_I 15226 (fun _ => 0)) := by rw [hH30, z_up_n ne_a_q2.symm]; exact e29_q2
  have e30_q3 : H30 q3 = some (c_I 15226 (fun _ => 0)) := by rw [hH30, z_up_n ne_a_q3.symm]; exact e29_q3
  have e30_q4 : H30 q4 = some (c_I 250 (fun _ => 0)) := by rw [hH30, z_up_n ne_a_q4.symm]; exact e29_q4
  have e30_q5 : H30 q5 = some (c_I 250 (fun _ => 0)) := by rw [hH30, z_up_n ne_a_q5.symm]; exact e29_q5
  have e30_q6 : H30 q6 = some (c_I 200 (fun _ => 0)) := by rw [hH30, z_up_n ne_a_q6.symm]; exact e29_q6
  have e30_q7 : H30 q7 = some (c_I 6 (fun _ => 0)) := by rw [hH30, z_up_n ne_a_q7.symm]; exact e29_q7
  have e30_q8 : H30 q8 = some (c_I 6 (fun _ => 0)) := by rw [hH30, z_up_n ne_a_q8.symm]; exact e29_q8
  have e30_q9 : H30 q9 = some (c_I 30 (fun _ => 0)) := by rw [hH30, z_up_n ne_a_q9.symm]; exact e29_q9
  have e30_q10 : H30 q10 = some (c_I 8 (z_sf (z_sf (z_sf (z_sf (z_sf (z_sf (z_sf (z_sf (fun _ => 0) 0 (-1)) 1 (-1)) 2 (-1)) 3 (-1)) 4 (-1)) 5 (-1)) 6 (-1)) 7 (-1))) := by rw [hH30, z_up_n ne_a_q10.symm]; exact e29_q10
  have e30_q11 : H30 q11 = some (c_I 8 (fun _ => 0)) := by rw [hH30, z_up_n ne_a_q11.symm]; exact e29_q11
  have e30_a : H30 a = some (c_O 8 [z_r q1, z_r q2, z_r q3, z_i 0, z_r q4, z_i 0, z_r q5, z_i 0, z_i 0, z_i 0, z_i 0, z_i 0, z_i 0, z_i 0, z_i 0, z_i 0, z_r q6, z_i 0, z_i 0, z_r q7, z_r q8, z_i 0, z_r q9, z_i 0, z_r q10, z_r q11, z_n, z_n]) := by rw [hH30]; exact z_up_s
  have fr30 : ∀ y, y ≠ a → y ≠ q1 → y ≠ q2 → y ≠ q3 → y ≠ q4 → y ≠ q5 → y ≠ q6 → y ≠ q7 → y ≠ q8 → y ≠ q9 → y ≠ q10 → y ≠ q11 → H30 y = h y := fun y n_a n_q1 n_q2 n_q3 n_q4 n_q5 n_q6 n_q7 n_q8 n_q9 n_q10 n_q11 => by rw [hH30, z_up_n n_a] <;> exact fr29 y n_a n_q1 n_q2 n_q3 n_q4 n_q5 n_q6 n_q7 n_q8 n_q9 n_q10 n_q11
  refine z_aload_n dX9_init_130 rfl ?_
  refine z_sipush dX9_init_131 rfl ?_
  refine z_newJ (N := 320) wA_J dX9_init_134 rfl (by decide) ⟨by decide, by decide⟩ (fun q12 hq12 => ?_)
  have ne_a_q12 : a ≠ q12 := z_nef e30_a hq12
  have ne_q1_q12 : q1 ≠ q12 := z_nef e30_q1 hq12
  have ne_q2_q12 : q2 ≠ q12 := z_nef e30_q2 hq12
  have ne_q3_q12 : q3 ≠ q12 := z_nef e30_q3 hq12
  have ne_q4_q12 : q4 ≠ q12 := z_nef e30_q4 hq12
  have ne_q5_q12 : q5 ≠ q12 := z_nef e30_q5 hq12
  have ne_q6_q12 : q6 ≠ q12 := z_nef e30_q6 hq12
  have ne_q7_q12 : q7 ≠ q12 := z_nef e30_q7 hq12
  have ne_q8_q12 : q8 ≠ q12 := z_nef e30_q8 hq12
  have ne_q9_q12 : q9 ≠ q12 := z_nef e30_q9 hq12
  have ne_q10_q12 : q10 ≠ q12 := z_nef e30_q10 hq12
  have ne_q11_q12 : q11 ≠ q12 := z_nef e30_q11 hq12
  have fresh_q12 : h q12 = none := by rw [← fr30 q12 ne_a_q12.symm ne_q1_q12.symm ne_q2_q12.symm ne_q3_q12.symm ne_q4_q12.symm ne_q5_q12.symm ne_q6_q12.symm ne_q7_q12.symm ne_q8_q12.symm ne_q9_q12.symm ne_q10_q12.symm ne_q11_q12.symm]; exact hq12
  obtain ⟨H31, hH31⟩ : ∃ H31, H31 = z_up H30 q12 (c_J 320 (fun _ => 0)) := ⟨_, rfl⟩
  refine z_heq hH31.symm ?_
  have e31_a : H31 a = some (c_O 8 [z_r q1, z_r q2, z_r q3, z_i 0, z_r q4, z_i 0, z_r q5, z_i 0, z_i 0, z_i 0, z_i 0, z_i 0, z_i 0, z_i 0, z_i 0, z_i 0, z_r q6, z_i 0, z_i 0, z_r q7, z_r q8, z_i 0, z_r q9, z_i 0, z_r q10, z_r q11, z_n, z_n]) := by rw [hH31, z_up_n ne_a_q12]; exact e30_a
  have e31_q1 : H31 q1 = some (c_I 5 (fun _ => 0)) := by rw [hH31, z_up_n ne_q1_q12]; exact e30_q1
  have e31_q2 : H31 q2 = some (c_I 15226 (fun _ => 0)) := by rw [hH31, z_up_n ne_q2_q12]; exact e30_q2
  have e31_q3 : H31 q3 = some (c_I 15226 (fun _ => 0)) := by rw [hH31, z_up_n ne_q3_q12]; exact e30_q3
  have e31_q4 : H31 q4 = some (c_I 250 (fun _ => 0)) := by rw [hH31, z_up_n ne_q4_q12]; exact e30_q4
  have e31_q5 : H31 q5 = some (c_I 250 (fun _ => 0)) := by rw [hH31, z_up_n ne_q5_q12]; exact e30_q5
  have e31_q6 : H31 q6 = some (c_I 200 (fun _ => 0)) := by rw [hH31, z_up_n ne_q6_q12]; exact e30_q6
  have e31_q7 : H31 q7 = some (c_I 6 (fun _ => 0)) := by rw [hH31, z_up_n ne_q7_q12]; exact e30_q7
  have e31_q8 : H31 q8 = some (c_I 6 (fun _ => 0)) := by rw [hH31, z_up_n ne_q8_q12]; exact e30_q8
  have e31_q9 : H31 q9 = some (c_I 30 (fun _ => 0)) := by rw [hH31, z_up_n ne_q9_q12]; exact e30_q9
  have e31_q10 : H31 q10 = some (c_I 8 (z_sf (z_sf (z_sf (z_sf (z_sf (z_sf (z_sf (z_sf (fun _ => 0) 0 (-1)) 1 (-1)) 2 (-1)) 3 (-1)) 4 (-1)) 5 (-1)) 6 (-1)) 7 (-1))) := by rw [hH31, z_up_n ne_q10_q12]; exact e30_q10
  have e31_q11 : H31 q11 = some (c_I 8 (fun _ => 0)) := by rw [hH31, z_up_n ne_q11_q12]; exact e30_q11
  have e31_q12 : H31 q12 = some (c_J 320 (fun _ => 0)) := by rw [hH31]; exact z_up_s
  have fr31 : ∀ y, y ≠ a → y ≠ q1 → y ≠ q2 → y ≠ q3 → y ≠ q4 → y ≠ q5 → y ≠ q6 → y ≠ q7 → y ≠ q8 → y ≠ q9 → y ≠ q10 → y ≠ q11 → y ≠ q12 → H31 y = h y := fun y n_a n_q1 n_q2 n_q3 n_q4 n_q5 n_q6 n_q7 n_q8 n_q9 n_q10 n_q11 n_q12 => by rw [hH31, z_up_n n_q12] <;> exact fr30 y n_a n_q1 n_q2 n_q3 n_q4 n_q5 n_q6 n_q7 n_q8 n_q9 n_q10 n_q11
  refine pf_X9_43 F rfl dX9_init_136 e31_a (Nat.le_of_ble_eq_true rfl) ?_
  obtain ⟨H32, hH32⟩ : ∃ H32, H32 = z_up H31 a (c_O 8 [z_r q1, z_r q2, z_r q3, z_i 0, z_r q4, z_i 0, z_r q5, z_i 0, z_i 0, z_i 0, z_i 0, z_i 0, z_i 0, z_i 0, z_i 0, z_i 0, z_r q6, z_i 0, z_i 0, z_r q7, z_r q8, z_i 0, z_r q9, z_i 0, z_r q10, z_r q11, z_r q12, z_n]) := ⟨_, rfl⟩
  refine z_heq hH32.symm ?_
  have e32_q1 : H32 q1 = some (c_I 5 (fun _ => 0)) := by rw [hH32, z_up_n ne_a_q1.symm]; exact e31_q1
  have e32_q2 : H32 q2 = some (c_I 15226 (fun _ => 0)) := by rw [hH32, z_up_n ne_a_q2.symm]; exact e31_q2
  have e32_q3 : H32 q3 = some (c_I 15226 (fun _ => 0)) := by rw [hH32, z_up_n ne_a_q3.symm]; exact e31_q3
  have e32_q4 : H32 q4 = some (c_I 250 (fun _ => 0)) := by rw [hH32, z_up_n ne_a_q4.symm]; exact e31_q4
  have e32_q5 : H32 q5 = some (c_I 250 (fun _ => 0)) := by rw [hH32, z_up_n ne_a_q5.symm]; exact e31_q5
  have e32_q6 : H32 q6 = some (c_I 200 (fun _ => 0)) := by rw [hH32, z_up_n ne_a_q6.symm]; exact e31_q6
  have e32_q7 : H32 q7 = some (c_I 6 (fun _ => 0)) := by rw [hH32, z_up_n ne_a_q7.symm]; exact e31_q7
  have e32_q8 : H32 q8 = some (c_I 6 (fun _ => 0)) := by rw [hH32, z_up_n ne_a_q8.symm]; exact e31_q8
  have e32_q9 : H32 q9 = some (c_I 30 (fun _ => 0)) := by rw [hH32, z_up_n ne_a_q9.symm]; exact e31_q9
  have e32_q10 : H32 q10 = some (c_I 8 (z_sf (z_sf (z_sf (z_sf (z_sf (z_sf (z_sf (z_sf (fun _ => 0) 0 (-1)) 1 (-1)) 2 (-1)) 3 (-1)) 4 (-1)) 5 (-1)) 6 (-1)) 7 (-1))) := by rw [hH32, z_up_n ne_a_q10.symm]; exact e31_q10
  have e32_q11 : H32 q11 = some (c_I 8 (fun _ => 0)) := by rw [hH32, z_up_n ne_a_q11.symm]; exact e31_q11
  have e32_q12 : H32 q12 = some (c_J 320 (fun _ => 0)) := by rw [hH32, z_up_n ne_a_q12.symm]; exact e31_q12
  have e32_a : H32 a = some (c_O 8 [z_r q1, z_r q2, z_r q3, z_i 0, z_r q4, z_i 0, z_r q5, z_i 0, z_i 0, z_i 0, z_i 0, z_i 0, z_i 0, z_i 0, z_i 0, z_i 0, z_r q6, z_i 0, z_i 0, z_r q7, z_r q8, z_i 0, z_r q9, z_i 0, z_r q10, z_r q11, z_r q12, z_n]) := by rw [hH32]; exact z_up_s
  have fr32 : ∀ y, y ≠ a → y ≠ q1 → y ≠ q2 → y ≠ q3 → y ≠ q4 → y ≠ q5 → y ≠ q6 → y ≠ q7 → y ≠ q8 → y ≠ q9 → y ≠ q10 → y ≠ q11 → y ≠ q12 → H32 y = h y := fun y n_a n_q1 n_q2 n_q3 n_q4 n_q5 n_q6 n_q7 n_q8 n_q9 n_q10 n_q11 n_q12 => by rw [hH32, z_up_n n_a] <;> exact fr31 y n_a n_q1 n_q2 n_q3 n_q4 n_q5 n_q6 n_q7 n_q8 n_q9 n_q10 n_q11 n_q12
  refine z_aload_n dX9_init_139 rfl ?_
  refine z_bipush dX9_init_140 rfl ?_
  refine z_newJ (N := 40) wA_J dX9_init_142 rfl (by decide) ⟨by decide, by decide⟩ (fun q13 hq13 => ?_)
  have ne_a_q13 : a ≠ q13 := z_nef e32_a hq13
  have ne_q1_q13 : q1 ≠ q13 := z_nef e32_q1 hq13
  have ne_q2_q13 : q2 ≠ q13 := z_nef e32_q2 hq13
  have ne_q3_q13 : q3 ≠ q13 := z_nef e32_q3 hq13
  have ne_q4_q13 : q4 ≠ q13 := z_nef e32_q4 hq13
  have ne_q5_q13 : q5 ≠ q13 := z_nef e32_q5 hq13
  have ne_q6_q13 : q6 ≠ q13 := z_nef e32_q6 hq13
  have ne_q7_q13 : q7 ≠ q13 := z_nef e32_q7 hq13
  have ne_q8_q13 : q8 ≠ q13 := z_nef e32_q8 hq13
  have ne_q9_q13 : q9 ≠ q13 := z_nef e32_q9 hq13
  have ne_q10_q13 : q10 ≠ q13 := z_nef e32_q10 hq13
  have ne_q11_q13 : q11 ≠ q13 := z_nef e32_q11 hq13
  have ne_q12_q13 : q12 ≠ q13 := z_nef e32_q12 hq13
  have fresh_q13 : h q13 = none := by rw [← fr32 q13 ne_a_q13.symm ne_q1_q13.symm ne_q2_q13.symm ne_q3_q13.symm ne_q4_q13.symm ne_q5_q13.symm ne_q6_q13.symm ne_q7_q13.symm ne_q8_q13.symm ne_q9_q13.symm ne_q10_q13.symm ne_q11_q13.symm ne_q12_q13.symm]; exact hq13
  obtain ⟨H33, hH33⟩ : ∃ H33, H33 = z_up H32 q13 (c_J 40 (fun _ => 0)) := ⟨_, rfl⟩
  refine z_heq hH33.symm ?_
  have e33_a : H33 a = some (c_O 8 [z_r q1, z_r q2, z_r q3, z_i 0, z_r q4, z_i 0, z_r q5, z_i 0, z_i 0, z_i 0, z_i 0, z_i 0, z_i 0, z_i 0, z_i 0, z_i 0, z_r q6, z_i 0, z_i 0, z_r q7, z_r q8, z_i 0, z_r q9, z_i 0, z_r q10, z_r q11, z_r q12, z_n]) := by rw [hH33, z_up_n ne_a_q13]; exact e32_a
  have e33_q1 : H33 q1 = some (c_I 5 (fun _ => 0)) := by rw [hH33, z_up_n ne_q1_q13]; exact e32_q1
  have e33_q2 : H33 q2 = some (c_I 15226 (fun _ => 0)) := by rw [hH33, z_up_n ne_q2_q13]; exact e32_q2
  have e33_q3 : H33 q3 = some (c_I 15226 (fun _ => 0)) := by rw [hH33, z_up_n ne_q3_q13]; exact e32_q3
  have e33_q4 : H33 q4 = some (c_I 250 (fun _ => 0)) := by rw [hH33, z_up_n ne_q4_q13]; exact e32_q4
  have e33_q5 : H33 q5 = some (c_I 250 (fun _ => 0)) := by rw [hH33, z_up_n ne_q5_q13]; exact e32_q5
  have e33_q6 : H33 q6 = some (c_I 200 (fun _ => 0)) := by rw [hH33, z_up_n ne_q6_q13]; exact e32_q6
  have e33_q7 : H33 q7 = some (c_I 6 (fun _ => 0)) := by rw [hH33, z_up_n ne_q7_q13]; exact e32_q7
  have e33_q8 : H33 q8 = some (c_I 6 (fun _ => 0)) := by rw [hH33, z_up_n ne_q8_q13]; exact e32_q8
  have e33_q9 : H33 q9 = some (c_I 30 (fun _ => 0)) := by rw [hH33, z_up_n ne_q9_q13]; exact e32_q9
  have e33_q10 : H33 q10 = some (c_I 8 (z_sf (z_sf (z_sf (z_sf (z_sf (z_sf (z_sf (z_sf (fun _ => 0) 0 (-1)) 1 (-1)) 2 (-1)) 3 (-1)) 4 (-1)) 5 (-1)) 6 (-1)) 7 (-1))) := by rw [hH33, z_up_n ne_q10_q13]; exact e32_q10
  have e33_q11 : H33 q11 = some (c_I 8 (fun _ => 0)) := by rw [hH33, z_up_n ne_q11_q13]; exact e32_q11
  have e33_q12 : H33 q12 = some (c_J 320 (fun _ => 0)) := by rw [hH33, z_up_n ne_q12_q13]; exact e32_q12
  have e33_q13 : H33 q13 = some (c_J 40 (fun _ => 0)) := by rw [hH33]; exact z_up_s
  have fr33 : ∀ y, y ≠ a → y ≠ q1 → y ≠ q2 → y ≠ q3 → y ≠ q4 → y ≠ q5 → y ≠ q6 → y ≠ q7 → y ≠ q8 → y ≠ q9 → y ≠ q10 → y ≠ q11 → y ≠ q12 → y ≠ q13 → H33 y = h y := fun y n_a n_q1 n_q2 n_q3 n_q4 n_q5 n_q6 n_q7 n_q8 n_q9 n_q10 n_q11 n_q12 n_q13 => by rw [hH33, z_up_n n_q13] <;> exact fr32 y n_a n_q1 n_q2 n_q3 n_q4 n_q5 n_q6 n_q7 n_q8 n_q9 n_q10 n_q11 n_q12
  refine pf_X9_47 F rfl dX9_init_144 e33_a (Nat.le_of_ble_eq_true rfl) ?_
  obtain ⟨H34, hH34⟩ : ∃ H34, H34 = z_up H33 a (c_O 8 [z_r q1, z_r q2, z_r q3, z_i 0, z_r q4, z_i 0, z_r q5, z_i 0, z_i 0, z_i 0, z_i 0, z_i 0, z_i 0, z_i 0, z_i 0, z_i 0, z_r q6, z_i 0, z_i 0, z_r q7, z_r q8, z_i 0, z_r q9, z_i 0, z_r q10, z_r q11, z_r q12, z_r q13]) := ⟨_, rfl⟩
  refine z_heq hH34.symm ?_
  have e34_q1 : H34 q1 = some (c_I 5 (fun _ => 0)) := by rw [hH34, z_up_n ne_a_q1.symm]; exact e33_q1
  have e34_q2 : H34 q2 = some (c_I 15226 (fun _ => 0)) := by rw [hH34, z_up_n ne_a_q2.symm]; exact e33_q2
  have e34_q3 : H34 q3 = some (c_I 15226 (fun _ => 0)) := by rw [hH34, z_up_n ne_a_q3.symm]; exact e33_q3
  have e34_q4 : H34 q4 = some (c_I 250 (fun _ => 0)) := by rw [hH34, z_up_n ne_a_q4.symm]; exact e33_q4
  have e34_q5 : H34 q5 = some (c_I 250 (fun _ => 0)) := by rw [hH34, z_up_n ne_a_q5.symm]; exact e33_q5
  have e34_q6 : H34 q6 = some (c_I 200 (fun _ => 0)) := by rw [hH34, z_up_n ne_a_q6.symm]; exact e33_q6
  have e34_q7 : H34 q7 = some (c_I 6 (fun _ => 0)) := by rw [hH34, z_up_n ne_a_q7.symm]; exact e33_q7
  have e34_q8 : H34 q8 = some (c_I 6 (fun _ => 0)) := by rw [hH34, z_up_n ne_a_q8.symm]; exact e33_q8
  have e34_q9 : H34 q9 = some (c_I 30 (fun _ => 0)) := by rw [hH34, z_up_n ne_a_q9.symm]; exact e33_q9
  have e34_q10 : H34 q10 = some (c_I 8 (z_sf (z_sf (z_sf (z_sf (z_sf (z_sf (z_sf (z_sf (fun _ => 0) 0 (-1)) 1 (-1)) 2 (-1)) 3 (-1)) 4 (-1)) 5 (-1)) 6 (-1)) 7 (-1))) := by rw [hH34, z_up_n ne_a_q10.symm]; exact e33_q10
  have e34_q11 : H34 q11 = some (c_I 8 (fun _ => 0)) := by rw [hH34, z_up_n ne_a_q11.symm]; exact e33_q11
  have e34_q12 : H34 q12 = some (c_J 320 (fun _ => 0)) := by rw [hH34, z_up_n ne_a_q12.symm]; exact e33_q12
  have e34_q13 : H34 q13 = some (c_J 40 (fun _ => 0)) := by rw [hH34, z_up_n ne_a_q13.symm]; exact e33_q13
  have e34_a : H34 a = some (c_O 8 [z_r q1, z_r q2, z_r q3, z_i 0, z_r q4, z_i 0, z_r q5, z_i 0, z_i 0, z_i 0, z_i 0, z_i 0, z_i 0, z_i 0, z_i 0, z_i 0, z_r q6, z_i 0, z_i 0, z_r q7, z_r q8, z_i 0, z_r q9, z_i 0, z_r q10, z_r q11, z_r q12, z_r q13]) := by rw [hH34]; exact z_up_s
  have fr34 : ∀ y, y ≠ a → y ≠ q1 → y ≠ q2 → y ≠ q3 → y ≠ q4 → y ≠ q5 → y ≠ q6 → y ≠ q7 → y ≠ q8 → y ≠ q9 → y ≠ q10 → y ≠ q11 → y ≠ q12 → y ≠ q13 → H34 y = h y := fun y n_a n_q1 n_q2 n_q3 n_q4 n_q5 n_q6 n_q7 n_q8 n_q9 n_q10 n_q11 n_q12 n_q13 => by rw [hH34, z_up_n n_a] <;> exact fr33 y n_a n_q1 n_q2 n_q3 n_q4 n_q5 n_q6 n_q7 n_q8 n_q9 n_q10 n_q11 n_q12 n_q13
  refine z_aload_n dX9_init_147 rfl ?_
  refine gf_X9_13 dX9_init_148 e34_a rfl ?_
  refine z_sipush dX9_init_151 rfl ?_
  refine z_iconst dX9_init_154 ?_
  refine z_iastN (m := 5024) dX9_init_155 e34_q2 rfl ⟨by decide, by decide⟩ ?_
  obtain ⟨H35, hH35⟩ : ∃ H35, H35 = z_up H34 q2 (c_I 15226 (z_sf (fun _ => 0) 5024 1)) := ⟨_, rfl⟩
  refine z_heq hH35.symm ?_
  have e35_a : H35 a = some (c_O 8 [z_r q1, z_r q2, z_r q3, z_i 0, z_r q4, z_i 0, z_r q5, z_i 0, z_i 0, z_i 0, z_i 0, z_i 0, z_i 0, z_i 0, z_i 0, z_i 0, z_r q6, z_i 0, z_i 0, z_r q7, z_r q8, z_i 0, z_r q9, z_i 0, z_r q10, z_r q11, z_r q12, z_r q13]) := by rw [hH35, z_up_n ne_a_q2]; exact e34_a
  have e35_q1 : H35 q1 = some (c_I 5 (fun _ => 0)) := by rw [hH35, z_up_n ne_q1_q2]; exact e34_q1
  have e35_q3 : H35 q3 = some (c_I 15226 (fun _ => 0)) := by rw [hH35, z_up_n ne_q2_q3.symm]; exact e34_q3
  have e35_q4 : H35 q4 = some (c_I 250 (fun _ => 0)) := by rw [hH35, z_up_n ne_q2_q4.symm]; exact e34_q4
  have e35_q5 : H35 q5 = some (c_I 250 (fun _ => 0)) := by rw [hH35, z_up_n ne_q2_q5.symm]; exact e34_q5
  have e35_q6 : H35 q6 = some (c_I 200 (fun _ => 0)) := by rw [hH35, z_up_n ne_q2_q6.symm]; exact e34_q6
  have e35_q7 : H35 q7 = some (c_I 6 (fun _ => 0)) := by rw [hH35, z_up_n ne_q2_q7.symm]; exact e34_q7
  have e35_q8 : H35 q8 = some (c_I 6 (fun _ => 0)) := by rw [hH35, z_up_n ne_q2_q8.symm]; exact e34_q8
  have e35_q9 : H35 q9 = some (c_I 30 (fun _ => 0)) := by rw [hH35, z_up_n ne_q2_q9.symm]; exact e34_q9
  have e35_q10 : H35 q10 = some (c_I 8 (z_sf (z_sf (z_sf (z_sf (z_sf (z_sf (z_sf (z_sf (fun _ => 0) 0 (-1)) 1 (-1)) 2 (-1)) 3 (-1)) 4 (-1)) 5 (-1)) 6 (-1)) 7 (-1))) := by rw [hH35, z_up_n ne_q2_q10.symm]; exact e34_q10
  have e35_q11 : H35 q11 = some (c_I 8 (fun _ => 0)) := by rw [hH35, z_up_n ne_q2_q11.symm]; exact e34_q11
  have e35_q12 : H35 q12 = some (c_J 320 (fun _ => 0)) := by rw [hH35, z_up_n ne_q2_q12.symm]; exact e34_q12
  have e35_q13 : H35 q13 = some (c_J 40 (fun _ => 0)) := by rw [hH35, z_up_n ne_q2_q13.symm]; exact e34_q13
  have e35_q2 : H35 q2 = some (c_I 15226 (z_sf (fun _ => 0) 5024 1)) := by rw [hH35]; exact z_up_s
  have fr35 : ∀ y, y ≠ a → y ≠ q1 → y ≠ q2 → y ≠ q3 → y ≠ q4 → y ≠ q5 → y ≠ q6 → y ≠ q7 → y ≠ q8 → y ≠ q9 → y ≠ q10 → y ≠ q11 → y ≠ q12 → y ≠ q13 → H35 y = h y := fun y n_a n_q1 n_q2 n_q3 n_q4 n_q5 n_q6 n_q7 n_q8 n_q9 n_q10 n_q11 n_q12 n_q13 => by rw [hH35, z_up_n n_q2] <;> exact fr34 y n_a n_q1 n_q2 n_q3 n_q4 n_q5 n_q6 n_q7 n_q8 n_q9 n_q10 n_q11 n_q12 n_q13
  have hAe : ∀ j, (fun i : Nat => [a, q1, q2, q3, q4, q5, q6, q7, q8, q9, q10, q11, q12, q13].getD i 0) j = [a, q1, q2, q3, q4, q5, q6, q7, q8, q9, q10, q11, q12, q13].getD j 0 := fun _ => rfl
  refine z_vret F dX9_init_156 rfl ⟨by decide, by decide⟩ ⟨rfl, (fun i : Nat => [a, q1, q2, q3, q4, q5, q6, q7, q8, q9, q10, q11, q12, q13].getD i 0), (z_sf (z_sf (z_sf (z_sf (z_sf (z_sf (z_sf (z_sf (fun _ => 0) 0 (-1)) 1 (-1)) 2 (-1)) 3 (-1)) 4 (-1)) 5 (-1)) 6 (-1)) 7 (-1)), rfl, ?_, ?_, ?_, ?_⟩
  · intro i j hi hj
    rcases (show i = 0 ∨ i = 1 ∨ i = 2 ∨ i = 3 ∨ i = 4 ∨ i = 5 ∨ i = 6 ∨ i = 7 ∨ i = 8 ∨ i = 9 ∨ i = 10 ∨ i = 11 ∨ i = 12 ∨ i = 13 by omega) with rfl | rfl | rfl | rfl | rfl | rfl | rfl | rfl | rfl | rfl | rfl | rfl | rfl | rfl
    all_goals rcases (show j = 0 ∨ j = 1 ∨ j = 2 ∨ j = 3 ∨ j = 4 ∨ j = 5 ∨ j = 6 ∨ j = 7 ∨ j = 8 ∨ j = 9 ∨ j = 10 ∨ j = 11 ∨ j = 12 ∨ j = 13 by omega) with rfl | rfl | rfl | rfl | rfl | rfl | rfl | rfl | rfl | rfl | rfl | rfl | rfl | rfl
    all_goals first | (intro _; rfl) | (intro hh; exact absurd hh (by first | exact ne_a_q1 | exact ne_a_q1.symm | exact ne_a_q2 | exact ne_a_q2.symm | exact ne_a_q3 | exact ne_a_q3.symm | exact ne_a_q4 | exact ne_a_q4.symm | exact ne_a_q5 | exact ne_a_q5.symm | exact ne_a_q6 | exact ne_a_q6.symm | exact ne_a_q7 | exact ne_a_q7.symm | exact ne_a_q8 | exact ne_a_q8.symm | exact ne_a_q9 | exact ne_a_q9.symm | exact ne_a_q10 | exact ne_a_q10.symm | exact ne_a_q11 | exact ne_a_q11.symm | exact ne_a_q12 | exact ne_a_q12.symm | exact ne_a_q13 | exact ne_a_q13.symm | exact ne_q1_q2 | exact ne_q1_q2.symm | exact ne_q1_q3 | exact ne_q1_q3.symm | exact ne_q1_q4 | exact ne_q1_q4.symm | exact ne_q1_q5 | exact ne_q1_q5.symm | exact ne_q1_q6 | exact ne_q1_q6.symm | exact ne_q1_q7 | exact ne_q1_q7.symm | exact ne_q1_q8 | exact ne_q1_q8.symm | exact ne_q1_q9 | exact ne_q1_q9.symm | exact ne_q1_q10 | exact ne_q1_q10.symm | exact ne_q1_q11 | exact ne_q1_q11.symm | exact ne_q1_q12 | exact ne_q1_q12.symm | exact ne_q1_q13 | exact ne_q1_q13.symm | exact ne_q2_q3 | exact ne_q2_q3.symm | exact ne_q2_q4 | exact ne_q2_q4.symm | exact ne_q2_q5 | exact ne_q2_q5.symm | exact ne_q2_q6 | exact ne_q2_q6.symm | exact ne_q2_q7 | exact ne_q2_q7.symm | exact ne_q2_q8 | exact ne_q2_q8.symm | exact ne_q2_q9 | exact ne_q2_q9.symm | exact ne_q2_q10 | exact ne_q2_q10.symm | exact ne_q2_q11 | exact ne_q2_q11.symm | exact ne_q2_q12 | exact ne_q2_q12.symm | exact ne_q2_q13 | exact ne_q2_q13.symm | exact ne_q3_q4 | exact ne_q3_q4.symm | exact ne_q3_q5 | exact ne_q3_q5.symm | exact ne_q3_q6 | exact ne_q3_q6.symm | exact ne_q3_q7 | exact ne_q3_q7.symm | exact ne_q3_q8 | exact ne_q3_q8.symm | exact ne_q3_q9 | exact ne_q3_q9.symm | exact ne_q3_q10 | exact ne_q3_q10.symm | exact ne_q3_q11 | exact ne_q3_q11.symm | exact ne_q3_q12 | exact ne_q3_q12.symm | exact ne_q3_q13 | exact ne_q3_q13.symm | exact ne_q4_q5 | exact ne_q4_q5.symm | exact ne_q4_q6 | exact ne_q4_q6.symm | exact ne_q4_q7 | exact ne_q4_q7.symm | exact ne_q4_q8 | exact ne_q4_q8.symm | exact ne_q4_q9 | exact ne_q4_q9.symm | exact ne_q4_q10 | exact ne_q4_q10.symm | exact ne_q4_q11 | exact ne_q4_q11.symm | exact ne_q4_q12 | exact ne_q4_q12.symm | exact ne_q4_q13 | exact ne_q4_q13.symm | exact ne_q5_q6 | exact ne_q5_q6.symm | exact ne_q5_q7 | exact ne_q5_q7.symm | exact ne_q5_q8 | exact ne_q5_q8.symm | exact ne_q5_q9 | exact ne_q5_q9.symm | exact ne_q5_q10 | exact ne_q5_q10.symm | exact ne_q5_q11 | exact ne_q5_q11.symm | exact ne_q5_q12 | exact ne_q5_q12.symm | exact ne_q5_q13 | exact ne_q5_q13.symm | exact ne_q6_q7 | exact ne_q6_q7.symm | exact ne_q6_q8 | exact ne_q6_q8.symm | exact ne_q6_q9 | exact ne_q6_q9.symm | exact ne_q6_q10 | exact ne_q6_q10.symm | exact ne_q6_q11 | exact ne_q6_q11.symm | exact ne_q6_q12 | exact ne_q6_q12.symm | exact ne_q6_q13 | exact ne_q6_q13.symm | exact ne_q7_q8 | exact ne_q7_q8.symm | exact ne_q7_q9 | exact ne_q7_q9.symm | exact ne_q7_q10 | exact ne_q7_q10.symm | exact ne_q7_q11 | exact ne_q7_q11.symm | exact ne_q7_q12 | exact ne_q7_q12.symm | exact ne_q7_q13 | exact ne_q7_q13.symm | exact ne_q8_q9 | exact ne_q8_q9.symm | exact ne_q8_q10 | exact ne_q8_q10.symm | exact ne_q8_q11 | exact ne_q8_q11.symm | exact ne_q8_q12 | exact ne_q8_q12.symm | exact ne_q8_q13 | exact ne_q8_q13.symm | exact ne_q9_q10 | exact ne_q9_q10.symm | exact ne_q9_q11 | exact ne_q9_q11.symm | exact ne_q9_q12 | exact ne_q9_q12.symm | exact ne_q9_q13 | exact ne_q9_q13.symm | exact ne_q10_q11 | exact ne_q10_q11.symm | exact ne_q10_q12 | exact ne_q10_q12.symm | exact ne_q10_q13 | exact ne_q10_q13.symm | exact ne_q11_q12 | exact ne_q11_q12.symm | exact ne_q11_q13 | exact ne_q11_q13.symm | exact ne_q12_q13 | exact ne_q12_q13.symm))
  · intro j h1 h2
    rcases (show j = 1 ∨ j = 2 ∨ j = 3 ∨ j = 4 ∨ j = 5 ∨ j = 6 ∨ j = 7 ∨ j = 8 ∨ j = 9 ∨ j = 10 ∨ j = 11 ∨ j = 12 ∨ j = 13 by omega) with rfl | rfl | rfl | rfl | rfl | rfl | rfl | rfl | rfl | rfl | rfl | rfl | rfl
    · exact fresh_q1
    · exact fresh_q2
    · exact fresh_q3
    · exact fresh_q4
    · exact fresh_q5
    · exact fresh_q6
    · exact fresh_q7
    · exact fresh_q8
    · exact fresh_q9
    · exact fresh_q10
    · exact fresh_q11
    · exact fresh_q12
    · exact fresh_q13
  · intro s hs
    rcases (show s = 0 ∨ s = 1 ∨ s = 2 ∨ s = 3 ∨ s = 4 ∨ s = 5 ∨ s = 6 ∨ s = 7 by omega) with rfl | rfl | rfl | rfl | rfl | rfl | rfl | rfl
    all_goals rfl
  · funext y
    unfold MH
    show H35 y = _
    by_cases c0 : y = a
    · rw [if_pos (show y = [a, q1, q2, q3, q4, q5, q6, q7, q8, q9, q10, q11, q12, q13].getD 0 0 from c0), c0]
      exact e35_a
    by_cases c1 : y = q1
    · rw [if_neg (show ¬ y = [a, q1, q2, q3, q4, q5, q6, q7, q8, q9, q10, q11, q12, q13].getD 0 0 from c0), if_pos (show y = [a, q1, q2, q3, q4, q5, q6, q7, q8, q9, q10, q11, q12, q13].getD 1 0 from c1), c1]
      exact e35_q1
    by_cases c2 : y = q2
    · rw [if_neg (show ¬ y = [a, q1, q2, q3, q4, q5, q6, q7, q8, q9, q10, q11, q12, q13].getD 0 0 from c0), if_neg (show ¬ y = [a, q1, q2, q3, q4, q5, q6, q7, q8, q9, q10, q11, q12, q13].getD 1 0 from c1), if_pos (show y = [a, q1, q2, q3, q4, q5, q6, q7, q8, q9, q10, q11, q12, q13].getD 2 0 from c2), c2]
      exact e35_q2
    by_cases c3 : y = q3
    · rw [if_neg (show ¬ y = [a, q1, q2, q3, q4, q5, q6, q7, q8, q9, q10, q11, q12, q13].getD 0 0 from c0), if_neg (show ¬ y = [a, q1, q2, q3, q4, q5, q6, q7, q8, q9, q10, q11, q12, q13].getD 1 0 from c1), if_neg (show ¬ y = [a, q1, q2, q3, q4, q5, q6, q7, q8, q9, q10, q11, q12, q13].getD 2 0 from c2), if_pos (show y = [a, q1, q2, q3, q4, q5, q6, q7, q8, q9, q10, q11, q12, q13].getD 3 0 from c3), c3]
      exact e35_q3
    by_cases c4 : y = q4
    · rw [if_neg (show ¬ y = [a, q1, q2, q3, q4, q5, q6, q7, q8, q9, q10, q11, q12, q13].getD 0 0 from c0), if_neg (show ¬ y = [a, q1, q2, q3, q4, q5, q6, q7, q8, q9, q10, q11, q12, q13].getD 1 0 from c1), if_neg (show ¬ y = [a, q1, q2, q3, q4, q5, q6, q7, q8, q9, q10, q11, q12, q13].getD 2 0 from c2), if_neg (show ¬ y = [a, q1, q2, q3, q4, q5, q6, q7, q8, q9, q10, q11, q12, q13].getD 3 0 from c3), if_pos (show y = [a, q1, q2, q3, q4, q5, q6, q7, q8, q9, q10, q11, q12, q13].getD 4 0 from c4), c4]
      exact e35_q4
    by_cases c5 : y = q5
    · rw [if_neg (show ¬ y = [a, q1, q2, q3, q4, q5, q6, q7, q8, q9, q10, q11, q12, q13].getD 0 0 from c0), if_neg (show ¬ y = [a, q1, q2, q3, q4, q5, q6, q7, q8, q9, q10, q11, q12, q13].getD 1 0 from c1), if_neg (show ¬ y = [a, q1, q2, q3, q4, q5, q6, q7, q8, q9, q10, q11, q12, q13].getD 2 0 from c2), if_neg (show ¬ y = [a, q1, q2, q3, q4, q5, q6, q7, q8, q9, q10, q11, q12, q13].getD 3 0 from c3), if_neg (show ¬ y = [a, q1, q2, q3, q4, q5, q6, q7, q8, q9, q10, q11, q12, q13].getD 4 0 from c4), if_pos (show y = [a, q1, q2, q3, q4, q5, q6, q7, q8, q9, q10, q11, q12, q13].getD 5 0 from c5), c5]
      exact e35_q5
    by_cases c6 : y = q6
    · rw [if_neg (show ¬ y = [a, q1, q2, q3, q4, q5, q6, q7, q8, q9, q10, q11, q12, q13].getD 0 0 from c0), if_neg (show ¬ y = [a, q1, q2, q3, q4, q5, q6, q7, q8, q9, q10, q11, q12, q13].getD 1 0 from c1), if_neg (show ¬ y = [a, q1, q2, q3, q4, q5, q6, q7, q8, q9, q10, q11, q12, q13].getD 2 0 from c2), if_neg (show ¬ y = [a, q1, q2, q3, q4, q5, q6, q7, q8, q9, q10, q11, q12, q13].getD 3 0 from c3), if_neg (show ¬ y = [a, q1, q2, q3, q4, q5, q6, q7, q8, q9, q10, q11, q12, q13].getD 4 0 from c4), if_neg (show ¬ y = [a, q1, q2, q3, q4, q5, q6, q7, q8, q9, q10, q11, q12, q13].getD 5 0 from c5), if_pos (show y = [a, q1, q2, q3, q4, q5, q6, q7, q8, q9, q10, q11, q12, q13].getD 6 0 from c6), c6]
      exact e35_q6
    by_cases c7 : y = q7
    · rw [if_neg (show ¬ y = [a, q1, q2, q3, q4, q5, q6, q7, q8, q9, q10, q11, q12, q13].getD 0 0 from c0), if_neg (show ¬ y = [a, q1, q2, q3, q4, q5, q6, q7, q8, q9, q10, q11, q12, q13].getD 1 0 from c1), if_neg (show ¬ y = [a, q1, q2, q3, q4, q5, q6, q7, q8, q9, q10, q11, q12, q13].getD 2 0 from c2), if_neg (show ¬ y = [a, q1, q2, q3, q4, q5, q6, q7, q8, q9, q10, q11, q12, q13].getD 3 0 from c3), if_neg (show ¬ y = [a, q1, q2, q3, q4, q5, q6, q7, q8, q9, q10, q11, q12, q13].getD 4 0 from c4), if_neg (show ¬ y = [a, q1, q2, q3, q4, q5, q6, q7, q8, q9, q10, q11, q12, q13].getD 5 0 from c5), if_neg (show ¬ y = [a, q1, q2, q3, q4, q5, q6, q7, q8, q9, q10, q11, q12, q13].getD 6 0 from c6), if_pos (show y = [a, q1, q2, q3, q4, q5, q6, q7, q8, q9, q10, q11, q12, q13].getD 7 0 from c7), c7]
      exact e35_q7
    by_cases c8 : y = q8
    · rw [if_neg (show ¬ y = [a, q1, q2, q3, q4, q5, q6, q7, q8, q9, q10, q11, q12, q13].getD 0 0 from c0), if_neg (show ¬ y = [a, q1, q2, q3, q4, q5, q6, q7, q8, q9, q10, q11, q12, q13].getD 1 0 from c1), if_neg (show ¬ y = [a, q1, q2, q3, q4, q5, q6, q7, q8, q9, q10, q11, q12, q13].getD 2 0 from c2), if_neg (show ¬ y = [a, q1, q2, q3, q4, q5, q6, q7, q8, q9, q10, q11, q12, q13].getD 3 0 from c3), if_neg (show ¬ y = [a, q1, q2, q3, q4, q5, q6, q7, q8, q9, q10, q11, q12, q13].getD 4 0 from c4), if_neg (show ¬ y = [a, q1, q2, q3, q4, q5, q6, q7, q8, q9, q10, q11, q12, q13].getD 5 0 from c5), if_neg (show ¬ y = [a, q1, q2, q3, q4, q5, q6, q7, q8, q9, q10, q11, q12, q13].getD 6 0 from c6), if_neg (show ¬ y = [a, q1, q2, q3, q4, q5, q6, q7, q8, q9, q10, q11, q12, q13].getD 7 0 from c7), if_pos (show y = [a, q1, q2, q3, q4, q5, q6, q7, q8, q9, q10, q11, q12, q13].getD 8 0 from c8), c8]
      exact e35_q8
    by_cases c9 : y = q9
    · rw [if_neg (show ¬ y = [a, q1, q2, q3, q4, q5, q6, q7, q8, q9, q10, q11, q12, q13].getD 0 0 from c0), if_neg (show ¬ y = [a, q1, q2, q3, q4, q5, q6, q7, q8, q9, q10, q11, q12, q13].getD 1 0 from c1), if_neg (show ¬ y = [a, q1, q2, q3, q4, q5, q6, q7, q8, q9, q10, q11, q12, q13].getD 2 0 from c2), if_neg (show ¬ y = [a, q1, q2, q3, q4, q5, q6, q7, q8, q9, q10, q11, q12, q13].getD 3 0 from c3), if_neg (show ¬ y = [a, q1, q2, q3, q4, q5, q6, q7, q8, q9, q10, q11, q12, q13].getD 4 0 from c4), if_neg (show ¬ y = [a, q1, q2, q3, q4, q5, q6, q7, q8, q9, q10, q11, q12, q13].getD 5 0 from c5), if_neg (show ¬ y = [a, q1, q2, q3, q4, q5, q6, q7, q8, q9, q10, q11, q12, q13].getD 6 0 from c6), if_neg (show ¬ y = [a, q1, q2, q3, q4, q5, q6, q7, q8, q9, q10, q11, q12, q13].getD 7 0 from c7), if_neg (show ¬ y = [a, q1, q2, q3, q4, q5, q6, q7, q8, q9, q10, q11, q12, q13].getD 8 0 from c8), if_pos (show y = [a, q1, q2, q3, q4, q5, q6, q7, q8, q9, q10, q11, q12, q13].getD 9 0 from c9), c9]
      exact e35_q9
    by_cases c10 : y = q10
    · rw [if_neg (show ¬ y = [a, q1, q2, q3, q4, q5, q6, q7, q8, q9, q10, q11, q12, q13].getD 0 0 from c0), if_neg (show ¬ y = [a, q1, q2, q3, q4, q5, q6, q7, q8, q9, q10, q11, q12, q13].getD 1 0 from c1), if_neg (show ¬ y = [a, q1, q2, q3, q4, q5, q6, q7, q8, q9, q10, q11, q12, q13].getD 2 0 from c2), if_neg (show ¬ y = [a, q1, q2, q3, q4, q5, q6, q7, q8, q9, q10, q11, q12, q13].getD 3 0 from c3), if_neg (show ¬ y = [a, q1, q2, q3, q4, q5, q6, q7, q8, q9, q10, q11, q12, q13].getD 4 0 from c4), if_neg (show ¬ y = [a, q1, q2, q3, q4, q5, q6, q7, q8, q9, q10, q11, q12, q13].getD 5 0 from c5), if_neg (show ¬ y = [a, q1, q2, q3, q4, q5, q6, q7, q8, q9, q10, q11, q12, q13].getD 6 0 from c6), if_neg (show ¬ y = [a, q1, q2, q3, q4, q5, q6, q7, q8, q9, q10, q11, q12, q13].getD 7 0 from c7), if_neg (show ¬ y = [a, q1, q2, q3, q4, q5, q6, q7, q8, q9, q10, q11, q12, q13].getD 8 0 from c8), if_neg (show ¬ y = [a, q1, q2, q3, q4, q5, q6, q7, q8, q9, q10, q11, q12, q13].getD 9 0 from c9), if_pos (show y = [a, q1, q2, q3, q4, q5, q6, q7, q8, q9, q10, q11, q12, q13].getD 10 0 from c10), c10]
      exact e35_q10
    by_cases c11 : y = q11
    · rw [if_neg (show ¬ y = [a, q1, q2, q3, q4, q5, q6, q7, q8, q9, q10, q11, q12, q13].getD 0 0 from c0), if_neg (show ¬ y = [a, q1, q2, q3, q4, q5, q6, q7, q8, q9, q10, q11, q12, q13].getD 1 0 from c1), if_neg (show ¬ y = [a, q1, q2, q3, q4, q5, q6, q7, q8, q9, q10, q11, q12, q13].getD 2 0 from c2), if_neg (show ¬ y = [a, q1, q2, q3, q4, q5, q6, q7, q8, q9, q10, q11, q12, q13].getD 3 0 from c3), if_neg (show ¬ y = [a, q1, q2, q3, q4, q5, q6, q7, q8, q9, q10, q11, q12, q13].getD 4 0 from c4), if_neg (show ¬ y = [a, q1, q2, q3, q4, q5, q6, q7, q8, q9, q10, q11, q12, q13].getD 5 0 from c5), if_neg (show ¬ y = [a, q1, q2, q3, q4, q5, q6, q7, q8, q9, q10, q11, q12, q13].getD 6 0 from c6), if_neg (show ¬ y = [a, q1, q2, q3, q4, q5, q6, q7, q8, q9, q10, q11, q12, q13].getD 7 0 from c7), if_neg (show ¬ y = [a, q1, q2, q3, q4, q5, q6, q7, q8, q9, q10, q11, q12, q13].getD 8 0 from c8), if_neg (show ¬ y = [a, q1, q2, q3, q4, q5, q6, q7, q8, q9, q10, q11, q12, q13].getD 9 0 from c9), if_neg (show ¬ y = [a, q1, q2, q3, q4, q5, q6, q7, q8, q9, q10, q11, q12, q13].getD 10 0 from c10), if_pos (show y = [a, q1, q2, q3, q4, q5, q6, q7, q8, q9, q10, q11, q12, q13].getD 11 0 from c11), c11]
      exact e35_q11
    by_cases c12 : y = q12
    · rw [if_neg (show ¬ y = [a, q1, q2, q3, q4, q5, q6, q7, q8, q9, q10, q11, q12, q13].getD 0 0 from c0), if_neg (show ¬ y = [a, q1, q2, q3, q4, q5, q6, q7, q8, q9, q10, q11, q12, q13].getD 1 0 from c1), if_neg (show ¬ y = [a, q1, q2, q3, q4, q5, q6, q7, q8, q9, q10, q11, q12, q13].getD 2 0 from c2), if_neg (show ¬ y = [a, q1, q2, q3, q4, q5, q6, q7, q8, q9, q10, q11, q12, q13].getD 3 0 from c3), if_neg (show ¬ y = [a, q1, q2, q3, q4, q5, q6, q7, q8, q9, q10, q11, q12, q13].getD 4 0 from c4), if_neg (show ¬ y = [a, q1, q2, q3, q4, q5, q6, q7, q8, q9, q10, q11, q12, q13].getD 5 0 from c5), if_neg (show ¬ y = [a, q1, q2, q3, q4, q5, q6, q7, q8, q9, q10, q11, q12, q13].getD 6 0 from c6), if_neg (show ¬ y = [a, q1, q2, q3, q4, q5, q6, q7, q8, q9, q10, q11, q12, q13].getD 7 0 from c7), if_neg (show ¬ y = [a, q1, q2, q3, q4, q5, q6, q7, q8, q9, q10, q11, q12, q13].getD 8 0 from c8), if_neg (show ¬ y = [a, q1, q2, q3, q4, q5, q6, q7, q8, q9, q10, q11, q12, q13].getD 9 0 from c9), if_neg (show ¬ y = [a, q1, q2, q3, q4, q5, q6, q7, q8, q9, q10, q11, q12, q13].getD 10 0 from c10), if_neg (show ¬ y = [a, q1, q2, q3, q4, q5, q6, q7, q8, q9, q10, q11, q12, q13].getD 11 0 from c11), if_pos (show y = [a, q1, q2, q3, q4, q5, q6, q7, q8, q9, q10, q11, q12, q13].getD 12 0 from c12), c12]
      exact e35_q12
    by_cases c13 : y = q13
    · rw [if_neg (show ¬ y = [a, q1, q2, q3, q4, q5, q6, q7, q8, q9, q10, q11, q12, q13].getD 0 0 from c0), if_neg (show ¬ y = [a, q1, q2, q3, q4, q5, q6, q7, q8, q9, q10, q11, q12, q13].getD 1 0 from c1), if_neg (show ¬ y = [a, q1, q2, q3, q4, q5, q6, q7, q8, q9, q10, q11, q12, q13].getD 2 0 from c2), if_neg (show ¬ y = [a, q1, q2, q3, q4, q5, q6, q7, q8, q9, q10, q11, q12, q13].getD 3 0 from c3), if_neg (show ¬ y = [a, q1, q2, q3, q4, q5, q6, q7, q8, q9, q10, q11, q12, q13].getD 4 0 from c4), if_neg (show ¬ y = [a, q1, q2, q3, q4, q5, q6, q7, q8, q9, q10, q11, q12, q13].getD 5 0 from c5), if_neg (show ¬ y = [a, q1, q2, q3, q4, q5, q6, q7, q8, q9, q10, q11, q12, q13].getD 6 0 from c6), if_neg (show ¬ y = [a, q1, q2, q3, q4, q5, q6, q7, q8, q9, q10, q11, q12, q13].getD 7 0 from c7), if_neg (show ¬ y = [a, q1, q2, q3, q4, q5, q6, q7, q8, q9, q10, q11, q12, q13].getD 8 0 from c8), if_neg (show ¬ y = [a, q1, q2, q3, q4, q5, q6, q7, q8, q9, q10, q11, q12, q13].getD 9 0 from c9), if_neg (show ¬ y = [a, q1, q2, q3, q4, q5, q6, q7, q8, q9, q10, q11, q12, q13].getD 10 0 from c10), if_neg (show ¬ y = [a, q1, q2, q3, q4, q5, q6, q7, q8, q9, q10, q11, q12, q13].getD 11 0 from c11), if_neg (show ¬ y = [a, q1, q2, q3, q4, q5, q6, q7, q8, q9, q10, q11, q12, q13].getD 12 0 from c12), if_pos (show y = [a, q1, q2, q3, q4, q5, q6, q7, q8, q9, q10, q11, q12, q13].getD 13 0 from c13), c13]
      exact e35_q13
    rw [if_neg (show ¬ y = [a, q1, q2, q3, q4, q5, q6, q7, q8, q9, q10, q11, q12, q13].getD 0 0 from c0), if_neg (show ¬ y = [a, q1, q2, q3, q4, q5, q6, q7, q8, q9, q10, q11, q12, q13].getD 1 0 from c1), if_neg (show ¬ y = [a, q1, q2, q3, q4, q5, q6, q7, q8, q9, q10, q11, q12, q13].getD 2 0 from c2), if_neg (show ¬ y = [a, q1, q2, q3, q4, q5, q6, q7, q8, q9, q10, q11, q12, q13].getD 3 0 from c3), if_neg (show ¬ y = [a, q1, q2, q3, q4, q5, q6, q7, q8, q9, q10, q11, q12, q13].getD 4 0 from c4), if_neg (show ¬ y = [a, q1, q2, q3, q4, q5, q6, q7, q8, q9, q10, q11, q12, q13].getD 5 0 from c5), if_neg (show ¬ y = [a, q1, q2, q3, q4, q5, q6, q7, q8, q9, q10, q11, q12, q13].getD 6 0 from c6), if_neg (show ¬ y = [a, q1, q2, q3, q4, q5, q6, q7, q8, q9, q10, q11, q12, q13].getD 7 0 from c7), if_neg (show ¬ y = [a, q1, q2, q3, q4, q5, q6, q7, q8, q9, q10, q11, q12, q13].getD 8 0 from c8), if_neg (show ¬ y = [a, q1, q2, q3, q4, q5, q6, q7, q8, q9, q10, q11, q12, q13].getD 9 0 from c9), if_neg (show ¬ y = [a, q1, q2, q3, q4, q5, q6, q7, q8, q9, q10, q11, q12, q13].getD 10 0 from c10), if_neg (show ¬ y = [a, q1, q2, q3, q4, q5, q6, q7, q8, q9, q10, q11, q12, q13].getD 11 0 from c11), if_neg (show ¬ y = [a, q1, q2, q3, q4, q5, q6, q7, q8, q9, q10, q11, q12, q13].getD 12 0 from c12), if_neg (show ¬ y = [a, q1, q2, q3, q4, q5, q6, q7, q8, q9, q10, q11, q12, q13].getD 13 0 from c13)]
    exact fr35 y c0 c1 c2 c3 c4 c5 c6 c7 c8 c9 c10 c11 c12 c13
