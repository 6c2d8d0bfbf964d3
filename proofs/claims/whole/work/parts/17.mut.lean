/-! Stitches, Done, Chain, Shelf: what changes them -/
theorem z_up_up {h : z_H} {a : Nat} {e1 e2 : z_C} : z_up (z_up h a e1) a e2 = z_up h a e2 := by
  funext q
  unfold z_up
  split <;> rfl
theorem z_up_co {h : z_H} {a b : Nat} {e1 e2 : z_C} (hab : a ≠ b) : z_up (z_up h a e1) b e2 = z_up (z_up h b e2) a e1 := by
  funext q
  unfold z_up
  by_cases h1 : q = b
  · subst h1
    rw [if_pos rfl, if_neg (Ne.symm hab), if_pos rfl]
  · rw [if_neg h1, if_neg h1]
theorem z_neOI {h : z_H} {a b c n : Nat} {fs : List z_V} {f : Nat → Int} (h1 : h a = some (c_O c fs)) (h2 : h b = some (c_I n f)) : a ≠ b := fun e => by rw [e, h2] at h1; cases h1
theorem z_neOJ {h : z_H} {a b c n : Nat} {fs : List z_V} {f : Nat → Int} (h1 : h a = some (c_O c fs)) (h2 : h b = some (c_J n f)) : a ≠ b := fun e => by rw [e, h2] at h1; cases h1
theorem z_neOA {h : z_H} {a b c n k : Nat} {fs : List z_V} {f : Nat → Option Nat} (h1 : h a = some (c_O c fs)) (h2 : h b = some (c_A k n f)) : a ≠ b := fun e => by rw [e, h2] at h1; cases h1
theorem z_neOO {h : z_H} {a b c d : Nat} {fs gs : List z_V} (h1 : h a = some (c_O c fs)) (h2 : h b = some (c_O d gs)) (hcd : c ≠ d) : a ≠ b := fun e => by
  rw [e, h2] at h1
  cases h1
  exact hcd rfl
theorem z_bmI (a : Int) : Int32.ofInt a = Int32.ofInt (a.bmod 4294967296) := by
  apply Int32.toInt_inj.mp
  rw [Int32.toInt_ofInt, Int32.toInt_ofInt]
  show a.bmod 4294967296 = (a.bmod 4294967296).bmod 4294967296
  rw [Int.bmod_bmod]
theorem z_bm {a : Int} {m : Nat} (hm : 0 < m) : -(m : Int) ≤ 2 * a.bmod m ∧ 2 * a.bmod m < (m : Int) := by
  have h1 := Int.le_bmod (x := a) hm
  have h2 := Int.bmod_lt (x := a) hm
  omega
set_option maxHeartbeats 4000000 in
set_option maxRecDepth 100000 in
theorem D_X7_addKind {g : z_G} {h : z_H} {a k : Nat} {z : Int} {f : Nat → Int} (hs : oSt h a k z f) (hz : z < 200) {c : Int} : z_D g mX7_addKind 1 0 0 [z_r a, z_i c] h (z_Pv (z_up (z_up h k (c_I 200 (z_sf f z.toNat c))) a (c_O 6 [z_r k, z_i (z + 1)]))) := by
  refine z_D.of (by decide +kernel) (Nat.le_of_ble_eq_true rfl) (fun X F => ?_)
  show z_w g X cX7_addKind RX7 (1, 0, 0) 0 [z_r a, z_i c] [] h 0 0
  obtain ⟨h1, h2, h3, h4⟩ := id hs
  have hne := z_neOI h1 h2
  refine z_aload_n dX7_addKind_0 rfl ?_
  refine gf_X7_21 dX7_addKind_1 h1 rfl ?_
  refine z_if_lt dX7_addKind_4 (tgt := 39) rfl ⟨by omega, by omega⟩ (fun c1 => ?_) (fun c1 => ?_)
  · skip
    exfalso
    omega
  · skip
    refine z_aload_n dX7_addKind_7 rfl ?_
    refine gf_X7_21 dX7_addKind_8 h1 rfl ?_
    refine z_aload_n dX7_addKind_11 rfl ?_
    refine gf_X7_9 dX7_addKind_12 h1 rfl ?_
    refine z_alenI dX7_addKind_15 h2 ?_
    refine z_icmp_ge dX7_addKind_16 (tgt := 39) rfl ⟨by omega, by omega⟩ (by decide) (fun c2 => ?_) (fun c2 => ?_)
    · skip
      exfalso
      omega
    · skip
      refine z_aload_n dX7_addKind_19 rfl ?_
      refine gf_X7_9 dX7_addKind_20 h1 rfl ?_
      refine z_aload_n dX7_addKind_23 rfl ?_
      refine gf_X7_21 dX7_addKind_24 h1 rfl ?_
      refine z_iload_n dX7_addKind_27 rfl ?_
      refine z_iast dX7_addKind_28 h2 ⟨by omega, by omega, by omega⟩ ?_
      refine z_aload_n dX7_addKind_29 rfl ?_
      refine z_dup dX7_addKind_30 rfl ?_
      refine gf_X7_21 dX7_addKind_31 ((z_up_n hne).trans h1) rfl ?_
      refine z_iconst dX7_addKind_34 ?_
      refine z_iadd dX7_addKind_35 ?_
      refine pf_X7_21 dX7_addKind_36 ((z_up_n hne).trans h1) (Nat.le_of_ble_eq_true rfl) ?_
      exact z_vret F dX7_addKind_39 rfl (by decide) ⟨rfl, rfl⟩
set_option maxHeartbeats 4000000 in
set_option maxRecDepth 100000 in
theorem D_X7_takeFrom {g : z_G} {h : z_H} {a k : Nat} {z : Int} {f : Nat → Int} (hs : oSt h a k z f) {a2 k2 : Nat} {z2 : Int} {f2 : Nat → Int} (hs2 : oSt h a2 k2 z2 f2) (hn : a2 ≠ a) (hnk : k2 ≠ k) : z_D g mX7_takeFrom 1 0 0 [z_r a, z_r a2] h (z_Pv (z_up (z_up h a (c_O 6 [z_r k, z_i z2])) k (c_I 200 (va_cpy f2 f 0 0 z2.toNat)))) := by
  refine z_D.of (by decide +kernel) (Nat.le_of_ble_eq_true rfl) (fun X F => ?_)
  show z_w g X cX7_takeFrom RX7 (1, 0, 0) 0 [z_r a, z_r a2, z_u] [] h 0 0
  obtain ⟨h1, h2, h3, h4⟩ := id hs
  obtain ⟨g1, g2, g3, g4⟩ := id hs2
  have hne := z_neOI h1 h2
  have hne2 := z_neOI h1 g2
  refine z_aload_n dX7_takeFrom_0 rfl ?_
  refine gf_X7_9 dX7_takeFrom_1 h1 rfl ?_
  refine z_alenI dX7_takeFrom_4 h2 ?_
  refine z_aload_n dX7_takeFrom_5 rfl ?_
  refine gf_X7_9 dX7_takeFrom_6 g1 rfl ?_
  refine z_alenI dX7_takeFrom_9 g2 ?_
  refine mm_X7_15 dX7_takeFrom_10 (by decide) (by decide) (by decide) (Nat.le_of_ble_eq_true rfl) ?_
  rw [show (if ((200 : Nat) : Int) < ((200 : Nat) : Int) then ((200 : Nat) : Int) else ((200 : Nat) : Int)) = ((200 : Nat) : Int) from if_neg (by omega)]
  refine z_istore_n dX7_takeFrom_13 (Nat.le_of_ble_eq_true rfl) rfl ?_
  refine z_aload_n dX7_takeFrom_14 rfl ?_
  refine z_iconst dX7_takeFrom_15 ?_
  refine z_aload_n dX7_takeFrom_16 rfl ?_
  refine gf_X7_21 dX7_takeFrom_17 g1 rfl ?_
  refine z_iload_n dX7_takeFrom_20 rfl ?_
  refine mm_X7_15 dX7_takeFrom_21 ⟨by omega, by omega⟩ (by decide) (by decide) (Nat.le_of_ble_eq_true rfl) ?_
  rw [show (if ((200 : Nat) : Int) < z2 then ((200 : Nat) : Int) else z2) = z2 from if_neg (by omega)]
  refine mm_X7_25 dX7_takeFrom_24 (by decide) ⟨by omega, by omega⟩ (by decide) (Nat.le_of_ble_eq_true rfl) ?_
  rw [show (if 0 < z2 then z2 else 0) = z2 by split <;> omega]
  refine pf_X7_21 dX7_takeFrom_27 h1 (Nat.le_of_ble_eq_true rfl) ?_
  refine z_aload_n dX7_takeFrom_30 rfl ?_
  refine gf_X7_9 dX7_takeFrom_31 ((z_up_n hn).trans g1) rfl ?_
  refine z_iconst dX7_takeFrom_34 ?_
  refine z_aload_n dX7_takeFrom_35 rfl ?_
  refine gf_X7_9 dX7_takeFrom_36 z_up_s rfl ?_
  refine z_iconst dX7_takeFrom_39 ?_
  refine z_aload_n dX7_takeFrom_40 rfl ?_
  refine gf_X7_21 dX7_takeFrom_41 z_up_s rfl ?_
  refine acI_X7_28 dX7_takeFrom_44 ((z_up_n hne2.symm).trans g2) ((z_up_n hne.symm).trans h2) ⟨by omega, by omega, by omega, by omega, by omega, by omega, by omega⟩ (by decide) (Nat.le_of_ble_eq_true rfl) ?_
  exact z_vret F dX7_takeFrom_47 rfl (by decide) ⟨rfl, rfl⟩
def oDo (h : z_H) (d a k : Nat) (sd ln z : Int) (f : Nat → Int) : Prop := h d = some (c_O 1 [z_r a, z_i sd, z_i ln]) ∧ oSt h a k z f
def cH (sd z : Int) (f : Nat → Int) (c : Int) : Int := if 0 ≤ c ∧ c < z then (if sd = 0 then f c.toNat else kTu (f (z - 1 - c).toNat)) else -1
theorem cH_0 {sd z : Int} {f : Nat → Int} {c : Int} (h : sd = 0) : (if 0 ≤ c ∧ c < z then f c.toNat else -1) = cH sd z f c := by
  unfold cH
  rw [if_pos h]
theorem cH_1 {sd z : Int} {f : Nat → Int} {c : Int} (h : ¬ sd = 0) : kTu (if 0 ≤ z - 1 - c ∧ z - 1 - c < z then f (z - 1 - c).toNat else -1) = cH sd z f c := by
  unfold cH
  rw [if_neg h]
  by_cases hc : 0 ≤ c ∧ c < z
  · rw [if_pos hc, if_pos (by omega)]
  · rw [if_neg hc, if_neg (by omega)]
    decide
theorem kTu_in {k : Int} (hk : z_in k) : z_in (kTu k) := by
  unfold kTu
  split
  · exact ⟨by omega, by omega⟩
  · split
    · exact ⟨by omega, by omega⟩
    · exact kMi_in hk
theorem cH_in {sd z : Int} {f : Nat → Int} (hf : fOk z f) {c : Int} : z_in (cH sd z f c) := by
  unfold cH
  by_cases h : 0 ≤ c ∧ c < z
  · rw [if_pos h]
    split
    · exact f_inN hf (by omega)
    · exact kTu_in (f_inN hf (by omega))
  · rw [if_neg h]
    exact ⟨by omega, by omega⟩
set_option maxHeartbeats 4000000 in
set_option maxRecDepth 100000 in
theorem D_X1_chartAt {g : z_G} {h : z_H} {d a k : Nat} {sd ln z : Int} {f : Nat → Int} (hd0 : oDo h d a k sd ln z f) (hf : fOk z f) (hsd : z_in sd) {c : Int} (hc : z_in c) : z_D g mX1_chartAt 3 0 0 [z_r d, z_i c] h (z_Pi (cH sd z f c) h) := by
  refine z_D.of (by decide +kernel) (Nat.le_of_ble_eq_true rfl) (fun X F => ?_)
  show z_w g X cX1_chartAt RX1 (3, 0, 0) 0 [z_r d, z_i c] [] h 0 0
  obtain ⟨h0, hs⟩ := id hd0
  obtain ⟨h1, h2, h3, h4⟩ := id hs
  refine z_aload_n dX1_chartAt_0 rfl ?_
  refine gf_X1_22 dX1_chartAt_1 h0 rfl ?_
  refine z_if_ne dX1_chartAt_4 (tgt := 16) rfl ⟨by omega, by omega⟩ (fun c1 => ?_) (fun c1 => ?_)
  · skip
    refine z_aload_n dX1_chartAt_16 rfl ?_
    refine gf_X1_12 dX1_chartAt_17 h0 rfl ?_
    refine z_aload_n dX1_chartAt_20 rfl ?_
    refine gf_X1_12 dX1_chartAt_21 h0 rfl ?_
    refine gf_X1_33 dX1_chartAt_24 h1 rfl ?_
    refine z_iconst dX1_chartAt_27 ?_
    refine z_isub dX1_chartAt_28 ?_
    refine z_iload_n dX1_chartAt_29 rfl ?_
    refine z_isub dX1_chartAt_30 ?_
    refine cs_X1_29 dX1_chartAt_31 (D_X7_kindAt_w hs (i := z - 1 - c) ⟨by omega, by omega⟩) h1 rfl rfl (Nat.le_of_ble_eq_true rfl) (by decide) (z_ki ?_)
    refine cs_X1_36 dX1_chartAt_34 (D_X2_turnedTo (f_in hf)) rfl rfl (Nat.le_of_ble_eq_true rfl) (by decide) (z_ki ?_)
    exact z_iret F dX1_chartAt_37 rfl (by decide) ⟨congrArg (fun z => some (z_i z)) (by exact cH_1 c1), rfl⟩
  · skip
    refine z_aload_n dX1_chartAt_7 rfl ?_
    refine gf_X1_12 dX1_chartAt_8 h0 rfl ?_
    refine z_iload_n dX1_chartAt_11 rfl ?_
    refine cs_X1_29 dX1_chartAt_12 (D_X7_kindAt hs hc) h1 rfl rfl (Nat.le_of_ble_eq_true rfl) (by decide) (z_ki ?_)
    exact z_iret F dX1_chartAt_15 rfl (by decide) ⟨congrArg (fun z => some (z_i z)) (by exact cH_0 c1), rfl⟩
set_option maxHeartbeats 4000000 in
set_option maxRecDepth 100000 in
theorem D_X1_takeFrom {g : z_G} {h : z_H} {d a k : Nat} {sd ln z : Int} {f : Nat → Int} (hd0 : oDo h d a k sd ln z f) {d2 a2 k2 : Nat} {sd2 ln2 z2 : Int} {f2 : Nat → Int} (hd2 : oDo h d2 a2 k2 sd2 ln2 z2 f2) (hn : a2 ≠ a) (hnk : k2 ≠ k) (hnd : d2 ≠ d) : z_D g mX1_takeFrom 2 0 0 [z_r d, z_r d2] h (z_Pv (z_up (z_up (z_up h a (c_O 6 [z_r k, z_i z2])) k (c_I 200 (va_cpy f2 f 0 0 z2.toNat))) d (c_O 1 [z_r a, z_i sd2, z_i ln2]))) := by
  refine z_D.of (by decide +kernel) (Nat.le_of_ble_eq_true rfl) (fun X F => ?_)
  show z_w g X cX1_takeFrom RX1 (2, 0, 0) 0 [z_r d, z_r d2] [] h 0 0
  obtain ⟨h0, hs⟩ := id hd0
  obtain ⟨h1, h2, h3, h4⟩ := id hs
  obtain ⟨j0, hs2⟩ := id hd2
  obtain ⟨g1, g2, g3, g4⟩ := id hs2
  refine z_aload_n dX1_takeFrom_0 rfl ?_
  refine gf_X1_12 dX1_takeFrom_1 h0 rfl ?_
  refine z_aload_n dX1_takeFrom_4 rfl ?_
  refine gf_X1_12 dX1_takeFrom_5 j0 rfl ?_
  refine cs_X1_18 dX1_takeFrom_8 (D_X7_takeFrom hs hs2 hn hnk) h1 rfl rfl (Nat.le_of_ble_eq_true rfl) (by decide) (z_kv ?_)
  generalize hH : z_up (z_up h a (c_O 6 [z_r k, z_i z2])) k (c_I 200 (va_cpy f2 f 0 0 z2.toNat)) = H
  have i0 : H d = some (c_O 1 [z_r a, z_i sd, z_i ln]) := by rw [← hH, z_up_n (z_neOI h0 h2), z_up_n (z_neOO h0 h1 (by decide))]; exact h0
  have i1 : H d2 = some (c_O 1 [z_r a2, z_i sd2, z_i ln2]) := by rw [← hH, z_up_n (z_neOI j0 h2), z_up_n (z_neOO j0 h1 (by decide))]; exact j0
  refine z_aload_n dX1_takeFrom_11 rfl ?_
  refine z_aload_n dX1_takeFrom_12 rfl ?_
  refine gf_X1_22 dX1_takeFrom_13 i1 rfl ?_
  refine pf_X1_22 dX1_takeFrom_16 i0 (Nat.le_of_ble_eq_true rfl) ?_
  refine z_aload_n dX1_takeFrom_19 rfl ?_
  refine z_aload_n dX1_takeFrom_20 rfl ?_
  refine gf_X1_26 dX1_takeFrom_21 ((z_up_n hnd).trans i1) rfl ?_
  refine pf_X1_26 dX1_takeFrom_24 z_up_s (Nat.le_of_ble_eq_true rfl) ?_
  exact z_vret F dX1_takeFrom_27 rfl (by decide) ⟨rfl, by rw [z_up_up, ← hH] <;> rfl⟩
def oCh (h : z_H) (a k : Nat) (L : Nat) (f : Nat → Int) : Prop := h a = some (c_O 0 [z_r k, z_i (L : Int)]) ∧ h k = some (c_I 24 f) ∧ L ≤ 8
set_option maxHeartbeats 4000000 in
set_option maxRecDepth 100000 in
theorem D_X0_begin {g : z_G} {h : z_H} {a k L : Nat} {f : Nat → Int} (hs : oCh h a k L f) : z_D g mX0_begin 1 0 0 [z_r a] h (z_Pv (z_up h a (c_O 0 [z_r k, z_i 0]))) := by
  refine z_D.of (by decide +kernel) (Nat.le_of_ble_eq_true rfl) (fun X F => ?_)
  show z_w g X cX0_begin RX0 (1, 0, 0) 0 [z_r a] [] h 0 0
  obtain ⟨h1, h2, h3⟩ := id hs
  have hne := z_neOI h1 h2
  refine z_aload_n dX0_begin_0 rfl ?_
  refine z_iconst dX0_begin_1 ?_
  refine pf_X0_15 dX0_begin_2 h1 (Nat.le_of_ble_eq_true rfl) ?_
  exact z_vret F dX0_begin_5 rfl (by decide) ⟨rfl, rfl⟩
set_option maxHeartbeats 4000000 in
set_option maxRecDepth 100000 in
theorem D_X0_addLink {g : z_G} {h : z_H} {a k L : Nat} {f : Nat → Int} (hs : oCh h a k L f) (hL : L < 8) {x y v : Int} : z_D g mX0_addLink 1 0 0 [z_r a, z_i x, z_i y, z_i v] h (fun rv h' => rv = none ∧ ∃ f' : Nat → Int, h' = z_up (z_up h k (c_I 24 f')) a (c_O 0 [z_r k, z_i ((L : Int) + 1)]) ∧ (∀ j, j < 3 * L → f' j = f j) ∧ f' (3 * L) = x ∧ f' (3 * L + 1) = y ∧ f' (3 * L + 2) = v) := by
  refine z_D.of (by decide +kernel) (Nat.le_of_ble_eq_true rfl) (fun X F => ?_)
  show z_w g X cX0_addLink RX0 (1, 0, 0) 0 [z_r a, z_i x, z_i y, z_i v, z_u] [] h 0 0
  obtain ⟨h1, h2, h3⟩ := id hs
  have hne := z_neOI h1 h2
  refine z_aload_n dX0_addLink_0 rfl ?_
  refine gf_X0_15 dX0_addLink_1 h1 rfl ?_
  refine z_iconst dX0_addLink_4 ?_
  refine z_imul dX0_addLink_5 ?_
  refine z_istore dX0_addLink_6 (Nat.le_of_ble_eq_true rfl) rfl ?_
  refine z_iload dX0_addLink_8 rfl ?_
  refine z_if_lt dX0_addLink_10 (tgt := 63) rfl ⟨by omega, by omega⟩ (fun c1 => ?_) (fun c1 => ?_)
  · skip
    exfalso
    omega
  · skip
    refine z_iload dX0_addLink_13 rfl ?_
    refine z_iconst dX0_addLink_15 ?_
    refine z_iadd dX0_addLink_16 ?_
    refine z_aload_n dX0_addLink_17 rfl ?_
    refine gf_X0_11 dX0_addLink_18 h1 rfl ?_
    refine z_alenI dX0_addLink_21 h2 ?_
    refine z_icmp_ge dX0_addLink_22 (tgt := 63) rfl ⟨by omega, by omega⟩ (by decide) (fun c2 => ?_) (fun c2 => ?_)
    · skip
      exfalso
      omega
    · skip
      refine z_aload_n dX0_addLink_25 rfl ?_
      refine gf_X0_11 dX0_addLink_26 h1 rfl ?_
      refine z_iload dX0_addLink_29 rfl ?_
      refine z_iload_n dX0_addLink_31 rfl ?_
      refine z_iast dX0_addLink_32 h2 ⟨by omega, by omega, by omega⟩ ?_
      refine z_aload_n dX0_addLink_33 rfl ?_
      refine gf_X0_11 dX0_addLink_34 ((z_up_n hne).trans h1) rfl ?_
      refine z_iload dX0_addLink_37 rfl ?_
      refine z_iconst dX0_addLink_39 ?_
      refine z_iadd dX0_addLink_40 ?_
      refine z_iload_n dX0_addLink_41 rfl ?_
      refine z_iast dX0_addLink_42 z_up_s ⟨by omega, by omega, by omega⟩ ?_
      refine z_aload_n dX0_addLink_43 rfl ?_
      refine gf_X0_11 dX0_addLink_44 ((z_up_n hne).trans ((z_up_n hne).trans h1)) rfl ?_
      refine z_iload dX0_addLink_47 rfl ?_
      refine z_iconst dX0_addLink_49 ?_
      refine z_iadd dX0_addLink_50 ?_
      refine z_iload_n dX0_addLink_51 rfl ?_
      refine z_iast dX0_addLink_52 z_up_s ⟨by omega, by omega, by omega⟩ ?_
      refine z_aload_n dX0_addLink_53 rfl ?_
      refine z_dup dX0_addLink_54 rfl ?_
      refine gf_X0_15 dX0_addLink_55 ((z_up_n hne).trans ((z_up_n hne).trans ((z_up_n hne).trans h1))) rfl ?_
      refine z_iconst dX0_addLink_58 ?_
      refine z_iadd dX0_addLink_59 ?_
      refine pf_X0_15 dX0_addLink_60 ((z_up_n hne).trans ((z_up_n hne).trans ((z_up_n hne).trans h1))) (Nat.le_of_ble_eq_true rfl) ?_
      exact z_vret F dX0_addLink_63 rfl (by decide) ⟨rfl, _, by rw [z_up_up, z_up_up] <;> rfl, fun j hj => by simp only [z_sf]; rw [if_neg (by omega), if_neg (by omega), if_neg (by omega)], by simp only [z_sf]; rw [if_neg (by omega), if_neg (by omega), if_pos (by omega)], by simp only [z_sf]; rw [if_neg (by omega), if_pos (by omega)], by simp only [z_sf]; rw [if_pos (by omega)]⟩
set_option maxHeartbeats 4000000 in
set_option maxRecDepth 100000 in
theorem D_X0_hasNumber {g : z_G} {h : z_H} {a k L : Nat} {f : Nat → Int} (hs : oCh h a k L f) {i w : Int} (hi : z_in i) (hw : z_in w) : z_D g mX0_hasNumber 1 0 0 [z_r a, z_i i, z_i w] h (z_Pi (if 0 ≤ i ∧ i < (L : Int) ∧ 0 ≤ w ∧ w < 3 then 1 else 0) h) := by
  refine z_D.of (by decide +kernel) (Nat.le_of_ble_eq_true rfl) (fun X F => ?_)
  show z_w g X cX0_hasNumber RX0 (1, 0, 0) 0 [z_r a, z_i i, z_i w] [] h 0 0
  obtain ⟨h1, h2, h3⟩ := id hs
  have hne := z_neOI h1 h2
  refine z_iload_n dX0_hasNumber_0 rfl ?_
  refine z_if_lt dX0_hasNumber_1 (tgt := 25) rfl ⟨by omega, by omega⟩ (fun c1 => ?_) (fun c1 => ?_)
  · skip
    refine z_iconst dX0_hasNumber_25 ?_
    exact z_zret F dX0_hasNumber_26 rfl (by omega) (by decide) ⟨congrArg (fun z => some (z_i z)) (by split <;> omega), rfl⟩
  · skip
    refine z_iload_n dX0_hasNumber_4 rfl ?_
    refine z_aload_n dX0_hasNumber_5 rfl ?_
    refine gf_X0_15 dX0_hasNumber_6 h1 rfl ?_
    refine z_icmp_ge dX0_hasNumber_9 (tgt := 25) rfl ⟨by omega, by omega⟩ ⟨by omega, by omega⟩ (fun c2 => ?_) (fun c2 => ?_)
    · skip
      refine z_iconst dX0_hasNumber_25 ?_
      exact z_zret F dX0_hasNumber_26 rfl (by omega) (by decide) ⟨congrArg (fun z => some (z_i z)) (by split <;> omega), rfl⟩
    · skip
      refine z_iload_n dX0_hasNumber_12 rfl ?_
      refine z_if_lt dX0_hasNumber_13 (tgt := 25) rfl ⟨by omega, by omega⟩ (fun c3 => ?_) (fun c3 => ?_)
      · skip
        refine z_iconst dX0_hasNumber_25 ?_
        exact z_zret F dX0_hasNumber_26 rfl (by omega) (by decide) ⟨congrArg (fun z => some (z_i z)) (by split <;> omega), rfl⟩
      · skip
        refine z_iload_n dX0_hasNumber_16 rfl ?_
        refine z_iconst dX0_hasNumber_17 ?_
        refine z_icmp_ge dX0_hasNumber_18 (tgt := 25) rfl ⟨by omega, by omega⟩ (by decide) (fun c4 => ?_) (fun c4 => ?_)
        · skip
          refine z_iconst dX0_hasNumber_25 ?_
          exact z_zret F dX0_hasNumber_26 rfl (by omega) (by decide) ⟨congrArg (fun z => some (z_i z)) (by split <;> omega), rfl⟩
        · skip
          refine z_iconst dX0_hasNumber_21 ?_
          refine z_goto dX0_hasNumber_22 (tgt := 26) rfl ?_
          exact z_zret F dX0_hasNumber_26 rfl (by omega) (by decide) ⟨congrArg (fun z => some (z_i z)) (by split <;> omega), rfl⟩
set_option maxHeartbeats 4000000 in
set_option maxRecDepth 100000 in
theorem D_X0_numberAt {g : z_G} {h : z_H} {a k L : Nat} {f : Nat → Int} (hs : oCh h a k L f) {i w : Int} (hi : 0 ≤ i ∧ i < (L : Int) ∧ 0 ≤ w ∧ w < 3) : z_D g mX0_numberAt 1 0 0 [z_r a, z_i i, z_i w] h (z_Pi (f (3 * i + w).toNat) h) := by
  refine z_D.of (by decide +kernel) (Nat.le_of_ble_eq_true rfl) (fun X F => ?_)
  show z_w g X cX0_numberAt RX0 (1, 0, 0) 0 [z_r a, z_i i, z_i w, z_u] [] h 0 0
  obtain ⟨h1, h2, h3⟩ := id hs
  have hne := z_neOI h1 h2
  refine z_iload_n dX0_numberAt_0 rfl ?_
  refine z_iconst dX0_numberAt_1 ?_
  refine z_imul dX0_numberAt_2 ?_
  refine z_iload_n dX0_numberAt_3 rfl ?_
  refine z_iadd dX0_numberAt_4 ?_
  refine z_istore_n dX0_numberAt_5 (Nat.le_of_ble_eq_true rfl) rfl ?_
  refine z_iload_n dX0_numberAt_6 rfl ?_
  refine z_if_lt dX0_numberAt_7 (tgt := 28) rfl ⟨by omega, by omega⟩ (fun c1 => ?_) (fun c1 => ?_)
  · skip
    exfalso
    omega
  · skip
    refine z_iload_n dX0_numberAt_10 rfl ?_
    refine z_aload_n dX0_numberAt_11 rfl ?_
    refine gf_X0_11 dX0_numberAt_12 h1 rfl ?_
    refine z_alenI dX0_numberAt_15 h2 ?_
    refine z_icmp_ge dX0_numberAt_16 (tgt := 28) rfl ⟨by omega, by omega⟩ (by decide) (fun c2 => ?_) (fun c2 => ?_)
    · skip
      exfalso
      omega
    · skip
      refine z_aload_n dX0_numberAt_19 rfl ?_
      refine gf_X0_11 dX0_numberAt_20 h1 rfl ?_
      refine z_iload_n dX0_numberAt_23 rfl ?_
      refine z_iald dX0_numberAt_24 h2 ⟨by omega, by omega, by omega⟩ ?_
      refine z_goto dX0_numberAt_25 (tgt := 29) rfl ?_
      exact z_iret F dX0_numberAt_29 rfl (by decide) ⟨congrArg (fun z => some (z_i z)) (by congr 1; omega), rfl⟩
def oSh (h : z_H) (a k : Nat) (hd sz : Int) (f : Nat → Int) : Prop := h a = some (c_O 4 [z_r k, z_i hd, z_i sz]) ∧ h k = some (c_J 40 f) ∧ (-1 ≤ hd ∧ hd ≤ 22) ∧ 0 ≤ sz ∧ sz ≤ 40
set_option maxHeartbeats 4000000 in
set_option maxRecDepth 100000 in
theorem D_X5_isSort {g : z_G} {h : z_H} {s : Int} (hs : z_in s) : z_D g mX5_isSort 1 0 0 [z_i s] h (z_Pi (if 0 ≤ s ∧ s ≤ 4 then 1 else 0) h) := by
  refine z_D.of (by decide +kernel) (Nat.le_of_ble_eq_true rfl) (fun X F => ?_)
  show z_w g X cX5_isSort RX5 (1, 0, 0) 0 [z_i s] [] h 0 0
  refine z_iload_n dX5_isSort_0 rfl ?_
  refine z_if_lt dX5_isSort_1 (tgt := 13) rfl ⟨by omega, by omega⟩ (fun c1 => ?_) (fun c1 => ?_)
  · skip
    refine z_iconst dX5_isSort_13 ?_
    exact z_zret F dX5_isSort_14 rfl (by omega) (by decide) ⟨congrArg (fun z => some (z_i z)) (by split <;> omega), rfl⟩
  · skip
    refine z_iload_n dX5_isSort_4 rfl ?_
    refine z_iconst dX5_isSort_5 ?_
    refine z_icmp_gt dX5_isSort_6 (tgt := 13) rfl ⟨by omega, by omega⟩ (by decide) (fun c2 => ?_) (fun c2 => ?_)
    · skip
      refine z_iconst dX5_isSort_13 ?_
      exact z_zret F dX5_isSort_14 rfl (by omega) (by decide) ⟨congrArg (fun z => some (z_i z)) (by split <;> omega), rfl⟩
    · skip
      refine z_iconst dX5_isSort_9 ?_
      refine z_goto dX5_isSort_10 (tgt := 14) rfl ?_
      exact z_zret F dX5_isSort_14 rfl (by omega) (by decide) ⟨congrArg (fun z => some (z_i z)) (by split <;> omega), rfl⟩
set_option maxHeartbeats 4000000 in
set_option maxRecDepth 100000 in
theorem D_X5_isBare {g : z_G} {h : z_H} {a k : Nat} {hd sz : Int} {f : Nat → Int} (hs : oSh h a k hd sz f) : z_D g mX5_isBare 1 0 0 [z_r a] h (z_Pi (if hd = -1 then 1 else 0) h) := by
  refine z_D.of (by decide +kernel) (Nat.le_of_ble_eq_true rfl) (fun X F => ?_)
  show z_w g X cX5_isBare RX5 (1, 0, 0) 0 [z_r a] [] h 0 0
  obtain ⟨h1, h2, h3, h4⟩ := id hs
  have hne := z_neOJ h1 h2
  refine z_aload_n dX5_isBare_0 rfl ?_
  refine gf_X5_15 dX5_isBare_1 h1 rfl ?_
  refine z_iconst dX5_isBare_4 ?_
  refine z_icmp_ne dX5_isBare_5 (tgt := 12) rfl ⟨by omega, by omega⟩ (by decide) (fun c1 => ?_) (fun c1 => ?_)
  · skip
    refine z_iconst dX5_isBare_12 ?_
    exact z_zret F dX5_isBare_13 rfl (by omega) (by decide) ⟨congrArg (fun z => some (z_i z)) (by split <;> omega), rfl⟩
  · skip
    refine z_iconst dX5_isBare_8 ?_
    refine z_goto dX5_isBare_9 (tgt := 13) rfl ?_
    exact z_zret F dX5_isBare_13 rfl (by omega) (by decide) ⟨congrArg (fun z => some (z_i z)) (by split <;> omega), rfl⟩
set_option maxHeartbeats 4000000 in
set_option maxRecDepth 100000 in
theorem D_X5_hasRow {g : z_G} {h : z_H} {a k : Nat} {hd sz : Int} {f : Nat → Int} (hs : oSh h a k hd sz f) : z_D g mX5_hasRow 2 0 0 [z_r a] h (z_Pi (if 0 ≤ hd ∧ hd ≤ 4 then 1 else 0) h) := by
  refine z_D.of (by decide +kernel) (Nat.le_of_ble_eq_true rfl) (fun X F => ?_)
  show z_w g X cX5_hasRow RX5 (2, 0, 0) 0 [z_r a] [] h 0 0
  obtain ⟨h1, h2, h3, h4⟩ := id hs
  have hne := z_neOJ h1 h2
  refine z_aload_n dX5_hasRow_0 rfl ?_
  refine gf_X5_15 dX5_hasRow_1 h1 rfl ?_
  refine cs_X5_19 dX5_hasRow_4 (D_X5_isSort (s := hd) ⟨by omega, by omega⟩) rfl rfl (Nat.le_of_ble_eq_true rfl) (by decide) (z_ki ?_)
  exact z_zret F dX5_hasRow_7 rfl (by split <;> omega) (by decide) ⟨rfl, rfl⟩
set_option maxHeartbeats 4000000 in
set_option maxRecDepth 100000 in
theorem D_X5_hasStitch {g : z_G} {h : z_H} {a k : Nat} {hd sz : Int} {f : Nat → Int} (hs : oSh h a k hd sz f) : z_D g mX5_hasStitch 1 0 0 [z_r a] h (z_Pi (if 10 ≤ hd then 1 else 0) h) := by
  refine z_D.of (by decide +kernel) (Nat.le_of_ble_eq_true rfl) (fun X F => ?_)
  show z_w g X cX5_hasStitch RX5 (1, 0, 0) 0 [z_r a] [] h 0 0
  obtain ⟨h1, h2, h3, h4⟩ := id hs
  have hne := z_neOJ h1 h2
  refine z_aload_n dX5_hasStitch_0 rfl ?_
  refine gf_X5_15 dX5_hasStitch_1 h1 rfl ?_
  refine z_bipush dX5_hasStitch_4 rfl ?_
  refine z_icmp_lt dX5_hasStitch_6 (tgt := 13) rfl ⟨by omega, by omega⟩ (by decide) (fun c1 => ?_) (fun c1 => ?_)
  · skip
    refine z_iconst dX5_hasStitch_13 ?_
    exact z_zret F dX5_hasStitch_14 rfl (by omega) (by decide) ⟨congrArg (fun z => some (z_i z)) (by split <;> omega), rfl⟩
  · skip
    refine z_iconst dX5_hasStitch_9 ?_
    refine z_goto dX5_hasStitch_10 (tgt := 14) rfl ?_
    exact z_zret F dX5_hasStitch_14 rfl (by omega) (by decide) ⟨congrArg (fun z => some (z_i z)) (by split <;> omega), rfl⟩
set_option maxHeartbeats 4000000 in
set_option maxRecDepth 100000 in
theorem D_X5_stitchKind {g : z_G} {h : z_H} {a k : Nat} {hd sz : Int} {f : Nat → Int} (hs : oSh h a k hd sz f) : z_D g mX5_stitchKind 2 0 0 [z_r a] h (z_Pi (if 10 ≤ hd then hd - 10 else -1) h) := by
  refine z_D.of (by decide +kernel) (Nat.le_of_ble_eq_true rfl) (fun X F => ?_)
  show z_w g X cX5_stitchKind RX5 (2, 0, 0) 0 [z_r a] [] h 0 0
  obtain ⟨h1, h2, h3, h4⟩ := id hs
  have hne := z_neOJ h1 h2
  refine z_aload_n dX5_stitchKind_0 rfl ?_
  refine cs_X5_23 dX5_stitchKind_1 (D_X5_hasStitch hs) h1 rfl rfl (Nat.le_of_ble_eq_true rfl) (by decide) (z_ki ?_)
  refine z_if_eq dX5_stitchKind_4 (tgt := 17) rfl ⟨by omega, by omega⟩ (fun c1 => ?_) (fun c1 => ?_)
  · skip
    refine z_iconst dX5_stitchKind_17 ?_
    exact z_iret F dX5_stitchKind_18 rfl (by decide) ⟨congrArg (fun z => some (z_i z)) (by first | rw [if_pos (by omega)] | rw [if_neg (by omega)]), rfl⟩
  · skip
    refine z_aload_n dX5_stitchKind_7 rfl ?_
    refine gf_X5_15 dX5_stitchKind_8 h1 rfl ?_
    refine z_bipush dX5_stitchKind_11 rfl ?_
    refine z_isub dX5_stitchKind_13 ?_
    refine z_goto dX5_stitchKind_14 (tgt := 18) rfl ?_
    exact z_iret F dX5_stitchKind_18 rfl (by decide) ⟨congrArg (fun z => some (z_i z)) (by first | rw [if_pos (by omega)] | rw [if_neg (by omega)]), rfl⟩
set_option maxHeartbeats 4000000 in
set_option maxRecDepth 100000 in
theorem D_X5_putNothing {g : z_G} {h : z_H} {a k : Nat} {hd sz : Int} {f : Nat → Int} (hs : oSh h a k hd sz f) : z_D g mX5_putNothing 1 0 0 [z_r a] h (z_Pv (z_up h a (c_O 4 [z_r k, z_i (-1), z_i 0]))) := by
  refine z_D.of (by decide +kernel) (Nat.le_of_ble_eq_true rfl) (fun X F => ?_)
  show z_w g X cX5_putNothing RX5 (1, 0, 0) 0 [z_r a] [] h 0 0
  obtain ⟨h1, h2, h3, h4⟩ := id hs
  have hne := z_neOJ h1 h2
  refine z_aload_n dX5_putNothing_0 rfl ?_
  refine z_iconst dX5_putNothing_1 ?_
  refine pf_X5_15 dX5_putNothing_2 h1 (Nat.le_of_ble_eq_true rfl) ?_
  refine z_aload_n dX5_putNothing_5 rfl ?_
  refine z_iconst dX5_putNothing_6 ?_
  refine pf_X5_27 dX5_putNothing_7 z_up_s (Nat.le_of_ble_eq_true rfl) ?_
  exact z_vret F dX5_putNothing_10 rfl (by decide) ⟨rfl, by rw [z_up_up] <;> rfl⟩
set_option maxHeartbeats 4000000 in
set_option maxRecDepth 100000 in
theorem D_X5_putStitch {g : z_G} {h : z_H} {a k : Nat} {hd sz : Int} {f : Nat → Int} (hs : oSh h a k hd sz f) {c : Int} : z_D g mX5_putStitch 1 0 0 [z_r a, z_i c] h (z_Pv (z_up h a (c_O 4 [z_r k, z_i (10 + c), z_i 0]))) := by
  refine z_D.of (by decide +kernel) (Nat.le_of_ble_eq_true rfl) (fun X F => ?_)
  show z_w g X cX5_putStitch RX5 (1, 0, 0) 0 [z_r a, z_i c] [] h 0 0
  obtain ⟨h1, h2, h3, h4⟩ := id hs
  have hne := z_neOJ h1 h2
  refine z_aload_n dX5_putStitch_0 rfl ?_
  refine z_bipush dX5_putStitch_1 rfl ?_
  refine z_iload_n dX5_putStitch_3 rfl ?_
  refine z_iadd dX5_putStitch_4 ?_
  refine pf_X5_15 dX5_putStitch_5 h1 (Nat.le_of_ble_eq_true rfl) ?_
  refine z_aload_n dX5_putStitch_8 rfl ?_
  refine z_iconst dX5_putStitch_9 ?_
  refine pf_X5_27 dX5_putStitch_10 z_up_s (Nat.le_of_ble_eq_true rfl) ?_
  exact z_vret F dX5_putStitch_13 rfl (by decide) ⟨rfl, by rw [z_up_up] <;> rfl⟩
set_option maxHeartbeats 4000000 in
set_option maxRecDepth 100000 in
theorem D_J7_fill {g : z_G} {h : z_H} {a m : Nat} {f : Nat → Int} {v : Int} (h1 : h a = some (c_J m f)) (hm : m < 1000) : z_D g mJ7_fill_d0a16 1 0 0 [z_r a, z_l v] h (fun rv h' => rv = none ∧ ∃ f' : Nat → Int, h' = z_up h a (c_J m f') ∧ ∀ j, j < m → f' j = v) := by
  refine z_D.of (by decide +kernel) (Nat.le_of_ble_eq_true rfl) (fun X F => ?_)
  have L4 : ∀ (fu : Nat) (j : Nat) (f' : Nat → Int) (h5 : j ≤ m) (h6 : ∀ q, q < j → f' q = v), m - j < fu → z_w g X cJ7_fill_d0a16 RJ7 (1, 0, 0) 6 [z_r a, z_l v, z_u, z_i (j : Int), z_i (m : Int)] [] (z_up h a (c_J m f')) 0 0 := by
    intro fu
    induction fu with
    | zero => intro j f' h5 h6 hm; exact absurd hm (Nat.not_lt_zero _)
    | succ fu ih =>
      intro j f' h5 h6 hm
      refine z_iload_n dJ7_fill_d0a16_6 rfl ?_
      refine z_iload dJ7_fill_d0a16_7 rfl ?_
      refine z_icmp_ge dJ7_fill_d0a16_9 (tgt := 22) rfl ⟨by omega, by omega⟩ ⟨by omega, by omega⟩ (fun c1 => ?_) (fun c1 => ?_)
      · skip
        exact z_vret F dJ7_fill_d0a16_22 rfl (by decide) ⟨rfl, _, rfl, fun q hq => h6 q (by omega)⟩
      · skip
        refine z_aload_n dJ7_fill_d0a16_12 rfl ?_
        refine z_iload_n dJ7_fill_d0a16_13 rfl ?_
        refine z_lload_n dJ7_fill_d0a16_14 rfl ?_
        refine z_last dJ7_fill_d0a16_15 z_up_s ⟨by omega, by omega, by omega⟩ ?_
        refine z_iinc dJ7_fill_d0a16_16 rfl rfl ?_
        refine z_goto dJ7_fill_d0a16_19 (tgt := 6) rfl ?_
        exact (by rw [z_up_up]; exact ih (j + 1) (z_sf f' (j : Int).toNat v) (by omega) (fun q hq => by simp only [z_sf]; split; rfl; exact h6 q (by omega)) (by omega))
  show z_w g X cJ7_fill_d0a16 RJ7 (1, 0, 0) 0 [z_r a, z_l v, z_u, z_u, z_u] [] h 0 0
  have e0 : z_up h a (c_J m f) = h := by
    funext q
    unfold z_up
    split
    · next e => rw [e, h1]
    · rfl
  refine z_iconst dJ7_fill_d0a16_0 ?_
  refine z_istore_n dJ7_fill_d0a16_1 (Nat.le_of_ble_eq_true rfl) rfl ?_
  refine z_aload_n dJ7_fill_d0a16_2 rfl ?_
  refine z_alenJ dJ7_fill_d0a16_3 h1 ?_
  refine z_istore dJ7_fill_d0a16_4 (Nat.le_of_ble_eq_true rfl) rfl ?_
  exact (e0 ▸ L4 (m + 1) 0 f (Nat.zero_le _) lt_0 (by omega) :)
set_option maxHeartbeats 4000000 in
set_option maxRecDepth 100000 in
theorem D_X5_putRow {g : z_G} {h : z_H} {a k : Nat} {hd sz : Int} {f : Nat → Int} (hs : oSh h a k hd sz f) {s m : Int} : z_D g mX5_putRow 2 0 0 [z_r a, z_i s, z_i m] h (fun rv h' => rv = none ∧ ∃ f' : Nat → Int, h' = z_up (z_up h a (c_O 4 [z_r k, z_i s, z_i m])) k (c_J 40 f') ∧ ∀ j, j < 40 → f' j = 0) := by
  refine z_D.of (by decide +kernel) (Nat.le_of_ble_eq_true rfl) (fun X F => ?_)
  show z_w g X cX5_putRow RX5 (2, 0, 0) 0 [z_r a, z_i s, z_i m] [] h 0 0
  obtain ⟨h1, h2, h3, h4⟩ := id hs
  have hne := z_neOJ h1 h2
  refine z_aload_n dX5_putRow_0 rfl ?_
  refine z_iload_n dX5_putRow_1 rfl ?_
  refine pf_X5_15 dX5_putRow_2 h1 (Nat.le_of_ble_eq_true rfl) ?_
  refine z_aload_n dX5_putRow_5 rfl ?_
  refine z_iload_n dX5_putRow_6 rfl ?_
  refine pf_X5_27 dX5_putRow_7 z_up_s (Nat.le_of_ble_eq_true rfl) ?_
  refine z_aload_n dX5_putRow_10 rfl ?_
  refine gf_X5_9 dX5_putRow_11 z_up_s rfl ?_
  refine z_lconst0 dX5_putRow_14 ?_
  refine cs_X5_30 dX5_putRow_15 (D_J7_fill (h := z_up (z_up h a (c_O 4 [z_r k, z_i s, z_i sz])) a (c_O 4 [z_r k, z_i s, z_i m])) (a := k) (m := 40) (f := f) (v := 0) (by rw [z_up_n hne.symm, z_up_n hne.symm]; exact h2) (by decide)) rfl rfl (Nat.le_of_ble_eq_true rfl) (by decide) (fun rv h' hq => ?_)
  obtain ⟨rfl, f', rfl, hf'⟩ := hq
  show z_w _ _ _ _ _ _ _ [] _ _ _
  exact z_vret F dX5_putRow_18 rfl (by decide) ⟨rfl, f', by rw [z_up_up] <;> rfl, hf'⟩
set_option maxHeartbeats 4000000 in
set_option maxRecDepth 100000 in
theorem D_X5_hasElement {g : z_G} {h : z_H} {a k : Nat} {hd sz : Int} {f : Nat → Int} (hs : oSh h a k hd sz f) {i : Int} (hi : z_in i) : z_D g mX5_hasElement 3 0 0 [z_r a, z_i i] h (z_Pi (if (0 ≤ hd ∧ hd ≤ 4) ∧ 0 ≤ i ∧ i < sz then 1 else 0) h) := by
  refine z_D.of (by decide +kernel) (Nat.le_of_ble_eq_true rfl) (fun X F => ?_)
  show z_w g X cX5_hasElement RX5 (3, 0, 0) 0 [z_r a, z_i i] [] h 0 0
  obtain ⟨h1, h2, h3, h4⟩ := id hs
  have hne := z_neOJ h1 h2
  refine z_aload_n dX5_hasElement_0 rfl ?_
  refine cs_X5_36 dX5_hasElement_1 (D_X5_hasRow hs) h1 rfl rfl (Nat.le_of_ble_eq_true rfl) (by decide) (z_ki ?_)
  refine z_if_eq dX5_hasElement_4 (tgt := 32) rfl ⟨by omega, by omega⟩ (fun c1 => ?_) (fun c1 => ?_)
  · skip
    refine z_iconst dX5_hasElement_32 ?_
    exact z_zret F dX5_hasElement_33 rfl (by omega) (by decide) ⟨congrArg (fun z => some (z_i z)) (by split <;> omega), rfl⟩
  · skip
    refine z_iload_n dX5_hasElement_7 rfl ?_
    refine z_if_lt dX5_hasElement_8 (tgt := 32) rfl ⟨by omega, by omega⟩ (fun c2 => ?_) (fun c2 => ?_)
    · skip
      refine z_iconst dX5_hasElement_32 ?_
      exact z_zret F dX5_hasElement_33 rfl (by omega) (by decide) ⟨congrArg (fun z => some (z_i z)) (by split <;> omega), rfl⟩
    · skip
      refine z_iload_n dX5_hasElement_11 rfl ?_
      refine z_aload_n dX5_hasElement_12 rfl ?_
      refine gf_X5_27 dX5_hasElement_13 h1 rfl ?_
      refine z_icmp_ge dX5_hasElement_16 (tgt := 32) rfl ⟨by omega, by omega⟩ ⟨by omega, by omega⟩ (fun c3 => ?_) (fun c3 => ?_)
      · skip
        refine z_iconst dX5_hasElement_32 ?_
        exact z_zret F dX5_hasElement_33 rfl (by omega) (by decide) ⟨congrArg (fun z => some (z_i z)) (by split <;> omega), rfl⟩
      · skip
        refine z_iload_n dX5_hasElement_19 rfl ?_
        refine z_aload_n dX5_hasElement_20 rfl ?_
        refine gf_X5_9 dX5_hasElement_21 h1 rfl ?_
        refine z_alenJ dX5_hasElement_24 h2 ?_
        refine z_icmp_ge dX5_hasElement_25 (tgt := 32) rfl ⟨by omega, by omega⟩ (by decide) (fun c4 => ?_) (fun c4 => ?_)
        · skip
          refine z_iconst dX5_hasElement_32 ?_
          exact z_zret F dX5_hasElement_33 rfl (by omega) (by decide) ⟨congrArg (fun z => some (z_i z)) (by split <;> omega), rfl⟩
        · skip
          refine z_iconst dX5_hasElement_28 ?_
          refine z_goto dX5_hasElement_29 (tgt := 33) rfl ?_
          exact z_zret F dX5_hasElement_33 rfl (by omega) (by decide) ⟨congrArg (fun z => some (z_i z)) (by split <;> omega), rfl⟩
set_option maxHeartbeats 4000000 in
set_option maxRecDepth 100000 in
theorem D_X5_elementAt {g : z_G} {h : z_H} {a k : Nat} {hd sz : Int} {f : Nat → Int} (hs : oSh h a k hd sz f) {i : Int} (hi : z_in i) : z_D g mX5_elementAt 4 0 0 [z_r a, z_i i] h (z_Pl (if (0 ≤ hd ∧ hd ≤ 4) ∧ 0 ≤ i ∧ i < sz then f i.toNat else 0) h) := by
  refine z_D.of (by decide +kernel) (Nat.le_of_ble_eq_true rfl) (fun X F => ?_)
  show z_w g X cX5_elementAt RX5 (4, 0, 0) 0 [z_r a, z_i i] [] h 0 0
  obtain ⟨h1, h2, h3, h4⟩ := id hs
  have hne := z_neOJ h1 h2
  refine z_aload_n dX5_elementAt_0 rfl ?_
  refine z_iload_n dX5_elementAt_1 rfl ?_
  refine cs_X5_39 dX5_elementAt_2 (D_X5_hasElement hs hi) h1 rfl rfl (Nat.le_of_ble_eq_true rfl) (by decide) (z_ki ?_)
  refine z_if_eq dX5_elementAt_5 (tgt := 17) rfl ⟨by omega, by omega⟩ (fun c1 => ?_) (fun c1 => ?_)
  · skip
    refine z_lconst0 dX5_elementAt_17 ?_
    exact z_lret F dX5_elementAt_18 rfl (by decide) ⟨congrArg (fun z => some (z_l z)) (by first | rw [if_pos (by omega)] | rw [if_neg (by omega)]), rfl⟩
  · skip
    refine z_aload_n dX5_elementAt_8 rfl ?_
    refine gf_X5_9 dX5_elementAt_9 h1 rfl ?_
    refine z_iload_n dX5_elementAt_12 rfl ?_
    refine z_lald dX5_elementAt_13 h2 ⟨by omega, by omega, by omega⟩ ?_
    refine z_goto dX5_elementAt_14 (tgt := 18) rfl ?_
    exact z_lret F dX5_elementAt_18 rfl (by decide) ⟨congrArg (fun z => some (z_l z)) (by first | rw [if_pos (by omega)] | rw [if_neg (by omega)]), rfl⟩
def loB (s v : Int) : Int := if s = 0 then v.bmod 256 else if s = 1 then v.bmod 65536 else if s = 2 then v.bmod 4294967296 else if s = 4 then (if v = 0 then 0 else 1) else v
set_option maxHeartbeats 4000000 in
set_option maxRecDepth 100000 in
theorem D_X5_lowestBits {g : z_G} {h : z_H} {a k : Nat} {hd sz : Int} {f : Nat → Int} (hs : oSh h a k hd sz f) {v : Int} (hv : z_inL v) (hr : 0 ≤ hd ∧ hd ≤ 4) : z_D g mX5_lowestBits 1 0 0 [z_r a, z_l v] h (z_Pl (loB hd v) h) := by
  refine z_D.of (by decide +kernel) (Nat.le_of_ble_eq_true rfl) (fun X F => ?_)
  show z_w g X cX5_lowestBits RX5 (1, 0, 0) 0 [z_r a, z_l v, z_u] [] h 0 0
  obtain ⟨h1, h2, h3, h4⟩ := id hs
  have hne := z_neOJ h1 h2
  refine z_aload_n dX5_lowestBits_0 rfl ?_
  refine gf_X5_15 dX5_lowestBits_1 h1 rfl ?_
  by_cases c1_0 : hd = 0
  · refine z_tabIn dX5_lowestBits_4 ⟨by omega, by omega⟩ (tgt := 40) (off := 36) (by omega) (by omega) (by rw [c1_0]; rfl) rfl ?_
    refine z_lload_n dX5_lowestBits_40 rfl ?_
    refine z_l2i dX5_lowestBits_41 ?_
    refine z_i2b dX5_lowestBits_42 ?_
    refine z_i2l dX5_lowestBits_43 ⟨by have := @z_bm v 256 (by decide); omega, by have := @z_bm v 256 (by decide); omega⟩ ?_
    exact z_lret F dX5_lowestBits_44 rfl (by decide) ⟨congrArg (fun z => some (z_l z)) (by unfold loB; simp only [*]; try simp), rfl⟩
  by_cases c1_1 : hd = 1
  · refine z_tabIn dX5_lowestBits_4 ⟨by omega, by omega⟩ (tgt := 45) (off := 41) (by omega) (by omega) (by rw [c1_1]; rfl) rfl ?_
    refine z_lload_n dX5_lowestBits_45 rfl ?_
    refine z_l2i dX5_lowestBits_46 ?_
    refine z_i2s dX5_lowestBits_47 ?_
    refine z_i2l dX5_lowestBits_48 ⟨by have := @z_bm v 65536 (by decide); omega, by have := @z_bm v 65536 (by decide); omega⟩ ?_
    exact z_lret F dX5_lowestBits_49 rfl (by decide) ⟨congrArg (fun z => some (z_l z)) (by unfold loB; simp only [*]; try simp), rfl⟩
  by_cases c1_2 : hd = 2
  · refine z_tabIn dX5_lowestBits_4 ⟨by omega, by omega⟩ (tgt := 50) (off := 46) (by omega) (by omega) (by rw [c1_2]; rfl) rfl ?_
    refine z_lload_n dX5_lowestBits_50 rfl ?_
    refine z_l2i dX5_lowestBits_51 ?_
    refine z_re (z_bmI v) ?_
    refine z_i2l dX5_lowestBits_52 ⟨by have := @z_bm v 4294967296 (by decide); omega, by have := @z_bm v 4294967296 (by decide); omega⟩ ?_
    exact z_lret F dX5_lowestBits_53 rfl (by decide) ⟨congrArg (fun z => some (z_l z)) (by unfold loB; simp only [*]; try simp), rfl⟩
  by_cases c1_3 : hd = 3
  · refine z_tabIn dX5_lowestBits_4 ⟨by omega, by omega⟩ (tgt := 66) (off := 62) (by omega) (by omega) (by rw [c1_3]; rfl) rfl ?_
    refine z_lload_n dX5_lowestBits_66 rfl ?_
    exact z_lret F dX5_lowestBits_67 rfl (by decide) ⟨congrArg (fun z => some (z_l z)) (by unfold loB; simp only [*]; try simp), rfl⟩
  by_cases c1_4 : hd = 4
  · refine z_tabIn dX5_lowestBits_4 ⟨by omega, by omega⟩ (tgt := 54) (off := 50) (by omega) (by omega) (by rw [c1_4]; rfl) rfl ?_
    refine z_lload_n dX5_lowestBits_54 rfl ?_
    refine z_lconst0 dX5_lowestBits_55 ?_
    refine z_lcmp dX5_lowestBits_56 ⟨by omega, by omega⟩ (by decide) ?_
    refine z_if_ne dX5_lowestBits_57 (tgt := 64) rfl (z_cmpin _ _) (fun c2 => ?_) (fun c2 => ?_)
    · have c2 : v ≠ 0 := z_cmp_ne c2
      refine z_lconst1 dX5_lowestBits_64 ?_
      exact z_lret F dX5_lowestBits_65 rfl (by decide) ⟨congrArg (fun z => some (z_l z)) (by unfold loB; simp only [*]; try simp), rfl⟩
    · have c2 : v = 0 := z_cmp_nne c2
      refine z_lconst0 dX5_lowestBits_60 ?_
      refine z_goto dX5_lowestBits_61 (tgt := 65) rfl ?_
      exact z_lret F dX5_lowestBits_65 rfl (by decide) ⟨congrArg (fun z => some (z_l z)) (by unfold loB; simp only [*]; try simp), rfl⟩
  refine z_tabOut dX5_lowestBits_4 ⟨by omega, by omega⟩ (tgt := 66) (by omega) rfl ?_
  refine z_lload_n dX5_lowestBits_66 rfl ?_
  exact z_lret F dX5_lowestBits_67 rfl (by decide) ⟨congrArg (fun z => some (z_l z)) (by unfold loB; simp only [*]; try simp), rfl⟩
set_option maxHeartbeats 4000000 in
set_option maxRecDepth 100000 in
theorem D_X5_putElement {g : z_G} {h : z_H} {a k : Nat} {hd sz : Int} {f : Nat → Int} (hs : oSh h a k hd sz f) {i v : Int} (hi : z_in i) (hv : z_inL v) : z_D g mX5_putElement 4 0 0 [z_r a, z_i i, z_l v] h (fun rv h' => if (0 ≤ hd ∧ hd ≤ 4) ∧ 0 ≤ i ∧ i < sz then rv = some (z_i 1) ∧ h' = z_up h k (c_J 40 (z_sf f i.toNat (loB hd v))) else rv = some (z_i 0) ∧ h' = h) := by
  refine z_D.of (by decide +kernel) (Nat.le_of_ble_eq_true rfl) (fun X F => ?_)
  show z_w g X cX5_putElement RX5 (4, 0, 0) 0 [z_r a, z_i i, z_l v, z_u] [] h 0 0
  obtain ⟨h1, h2, h3, h4⟩ := id hs
  have hne := z_neOJ h1 h2
  refine z_aload_n dX5_putElement_0 rfl ?_
  refine z_iload_n dX5_putElement_1 rfl ?_
  refine cs_X5_39 dX5_putElement_2 (D_X5_hasElement hs hi) h1 rfl rfl (Nat.le_of_ble_eq_true rfl) (by decide) (z_ki ?_)
  refine z_if_ne dX5_putElement_5 (tgt := 10) rfl ⟨by omega, by omega⟩ (fun c1 => ?_) (fun c1 => ?_)
  · skip
    refine z_aload_n dX5_putElement_10 rfl ?_
    refine gf_X5_9 dX5_putElement_11 h1 rfl ?_
    refine z_iload_n dX5_putElement_14 rfl ?_
    refine z_aload_n dX5_putElement_15 rfl ?_
    refine z_lload_n dX5_putElement_16 rfl ?_
    refine cs_X5_42 dX5_putElement_17 (D_X5_lowestBits hs hv (by omega)) h1 rfl rfl (Nat.le_of_ble_eq_true rfl) (by decide) (z_kl ?_)
    refine z_last dX5_putElement_20 h2 ⟨by omega, by omega, by omega⟩ ?_
    refine z_iconst dX5_putElement_21 ?_
    exact z_zret F dX5_putElement_22 rfl (by omega) (by decide) (by show ite _ _ _; rw [if_pos (by omega)]; exact ⟨rfl, rfl⟩)
  · skip
    refine z_iconst dX5_putElement_8 ?_
    exact z_zret F dX5_putElement_9 rfl (by omega) (by decide) (by show ite _ _ _; rw [if_neg (by omega)]; exact ⟨rfl, rfl⟩)
set_option maxHeartbeats 4000000 in
set_option maxRecDepth 100000 in
theorem D_X5_hasSpan {g : z_G} {h : z_H} {a k : Nat} {hd sz : Int} {f : Nat → Int} (hs : oSh h a k hd sz f) {i n : Int} (hi : z_in i) (hn : z_in n) : z_D g mX5_hasSpan 1 0 0 [z_r a, z_i i, z_i n] h (z_Pi (if 0 ≤ n ∧ 0 ≤ i ∧ i ≤ sz - n then 1 else 0) h) := by
  refine z_D.of (by decide +kernel) (Nat.le_of_ble_eq_true rfl) (fun X F => ?_)
  show z_w g X cX5_hasSpan RX5 (1, 0, 0) 0 [z_r a, z_i i, z_i n] [] h 0 0
  obtain ⟨h1, h2, h3, h4⟩ := id hs
  have hne := z_neOJ h1 h2
  refine z_iload_n dX5_hasSpan_0 rfl ?_
  refine z_if_lt dX5_hasSpan_1 (tgt := 30) rfl ⟨by omega, by omega⟩ (fun c1 => ?_) (fun c1 => ?_)
  · skip
    refine z_iconst dX5_hasSpan_30 ?_
    exact z_zret F dX5_hasSpan_31 rfl (by omega) (by decide) ⟨congrArg (fun z => some (z_i z)) (by split <;> omega), rfl⟩
  · skip
    refine z_iload_n dX5_hasSpan_4 rfl ?_
    refine z_if_lt dX5_hasSpan_5 (tgt := 30) rfl ⟨by omega, by omega⟩ (fun c2 => ?_) (fun c2 => ?_)
    · skip
      refine z_iconst dX5_hasSpan_30 ?_
      exact z_zret F dX5_hasSpan_31 rfl (by omega) (by decide) ⟨congrArg (fun z => some (z_i z)) (by split <;> omega), rfl⟩
    · skip
      refine z_iload_n dX5_hasSpan_8 rfl ?_
      refine z_aload_n dX5_hasSpan_9 rfl ?_
      refine gf_X5_27 dX5_hasSpan_10 h1 rfl ?_
      refine z_aload_n dX5_hasSpan_13 rfl ?_
      refine gf_X5_9 dX5_hasSpan_14 h1 rfl ?_
      refine z_alenJ dX5_hasSpan_17 h2 ?_
      refine mm_X5_46 dX5_hasSpan_18 ⟨by omega, by omega⟩ (by decide) (by decide) (Nat.le_of_ble_eq_true rfl) ?_
      rw [show (if ((40 : Nat) : Int) < sz then ((40 : Nat) : Int) else sz) = sz from if_neg (by omega)]
      refine z_iload_n dX5_hasSpan_21 rfl ?_
      refine z_isub dX5_hasSpan_22 ?_
      refine z_icmp_gt dX5_hasSpan_23 (tgt := 30) rfl ⟨by omega, by omega⟩ ⟨by omega, by omega⟩ (fun c3 => ?_) (fun c3 => ?_)
      · skip
        refine z_iconst dX5_hasSpan_30 ?_
        exact z_zret F dX5_hasSpan_31 rfl (by omega) (by decide) ⟨congrArg (fun z => some (z_i z)) (by split <;> omega), rfl⟩
      · skip
        refine z_iconst dX5_hasSpan_26 ?_
        refine z_goto dX5_hasSpan_27 (tgt := 31) rfl ?_
        exact z_zret F dX5_hasSpan_31 rfl (by omega) (by decide) ⟨congrArg (fun z => some (z_i z)) (by split <;> omega), rfl⟩
set_option maxHeartbeats 4000000 in
set_option maxRecDepth 100000 in
theorem D_X5_giveElements {g : z_G} {h : z_H} {a k : Nat} {hd sz : Int} {f : Nat → Int} (hs : oSh h a k hd sz f) {a2 k2 : Nat} {hd2 sz2 : Int} {f2 : Nat → Int} (hs2 : oSh h a2 k2 hd2 sz2 f2) {i j n : Int} (hi : z_in i) (hj : z_in j) (hn : z_in n) : z_D g mX5_giveElements 2 0 0 [z_r a, z_i i, z_r a2, z_i j, z_i n] h (fun rv h' => if 0 ≤ n ∧ 0 ≤ i ∧ i ≤ sz - n ∧ 0 ≤ j ∧ j ≤ sz2 - n then rv = some (z_i 1) ∧ h' = z_up h k2 (c_J 40 (va_cpy f f2 i.toNat j.toNat n.toNat)) else rv = some (z_i 0) ∧ h' = h) := by
  refine z_D.of (by decide +kernel) (Nat.le_of_ble_eq_true rfl) (fun X F => ?_)
  show z_w g X cX5_giveElements RX5 (2, 0, 0) 0 [z_r a, z_i i, z_r a2, z_i j, z_i n] [] h 0 0
  obtain ⟨h1, h2, h3, h4⟩ := id hs
  have hne := z_neOJ h1 h2
  obtain ⟨g1, g2, g3, g4⟩ := id hs2
  refine z_aload_n dX5_giveElements_0 rfl ?_
  refine z_iload_n dX5_giveElements_1 rfl ?_
  refine z_iload dX5_giveElements_2 rfl ?_
  refine cs_X5_52 dX5_giveElements_4 (D_X5_hasSpan hs hi hn) h1 rfl rfl (Nat.le_of_ble_eq_true rfl) (by decide) (z_ki ?_)
  refine z_if_eq dX5_giveElements_7 (tgt := 20) rfl ⟨by omega, by omega⟩ (fun c1 => ?_) (fun c1 => ?_)
  · skip
    refine z_iconst dX5_giveElements_20 ?_
    exact z_zret F dX5_giveElements_21 rfl (by omega) (by decide) (by show ite _ _ _; rw [if_neg (by omega)]; exact ⟨rfl, rfl⟩)
  · skip
    refine z_aload_n dX5_giveElements_10 rfl ?_
    refine z_iload_n dX5_giveElements_11 rfl ?_
    refine z_iload dX5_giveElements_12 rfl ?_
    refine cs_X5_52 dX5_giveElements_14 (D_X5_hasSpan hs2 hj hn) g1 rfl rfl (Nat.le_of_ble_eq_true rfl) (by decide) (z_ki ?_)
    refine z_if_ne dX5_giveElements_17 (tgt := 22) rfl ⟨by omega, by omega⟩ (fun c2 => ?_) (fun c2 => ?_)
    · skip
      refine z_aload_n dX5_giveElements_22 rfl ?_
      refine gf_X5_9 dX5_giveElements_23 h1 rfl ?_
      refine z_iload_n dX5_giveElements_26 rfl ?_
      refine z_aload_n dX5_giveElements_27 rfl ?_
      refine gf_X5_9 dX5_giveElements_28 g1 rfl ?_
      refine z_iload_n dX5_giveElements_31 rfl ?_
      refine z_iload dX5_giveElements_32 rfl ?_
      refine acJ_X5_56 dX5_giveElements_34 h2 g2 ⟨by omega, by omega, by omega, by omega, by omega, by omega, by omega⟩ (by decide) (Nat.le_of_ble_eq_true rfl) ?_
      refine z_iconst dX5_giveElements_37 ?_
      exact z_zret F dX5_giveElements_38 rfl (by omega) (by decide) (by show ite _ _ _; rw [if_pos (by omega)]; exact ⟨rfl, rfl⟩)
    · skip
      refine z_iconst dX5_giveElements_20 ?_
      exact z_zret F dX5_giveElements_21 rfl (by omega) (by decide) (by show ite _ _ _; rw [if_neg (by omega)]; exact ⟨rfl, rfl⟩)
