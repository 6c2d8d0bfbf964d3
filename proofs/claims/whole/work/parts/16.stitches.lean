/-! Stitches, what is read of them -/
def oSt (h : z_H) (a k : Nat) (z : Int) (f : Nat → Int) : Prop := h a = some (c_O 6 [z_r k, z_i z]) ∧ h k = some (c_I 200 f) ∧ 0 ≤ z ∧ z ≤ 200
abbrev fOk (z : Int) (f : Nat → Int) : Prop := ∀ j : Nat, (j : Int) < z → kOk (f j)
def sG (t : Int → Int) (f : Nat → Int) : Nat → Int
  | 0 => 0
  | n + 1 => sG t f n + t (f n)
theorem z_D.arg {g : z_G} {M : z_M} {d mc ms : Nat} {args args' : List z_V} {h : z_H} {P : z_P} (he : args.map z_v = args'.map z_v) (hD : z_D g M d mc ms args h P) : z_D g M d mc ms args' h P := by
  unfold z_D z_Pc at hD ⊢
  rw [← he]
  exact hD
theorem z_viw {i j : Int} (h : i = j + 4294967296 ∨ i = j - 4294967296) : z_v (z_i i) = z_v (z_i j) := by
  show Value.int (Int32.ofInt i) = Value.int (Int32.ofInt j)
  congr 1
  have e : ∀ j : Int, Int32.ofInt (j + 4294967296) = Int32.ofInt j := fun j => by
    rw [Int32.ofInt_add]
    have : Int32.ofInt 4294967296 = 0 := by decide
    rw [this, Int32.add_zero]
  rcases h with h | h
  · rw [h, e]
  · rw [← e i]; congr 1; omega

set_option maxHeartbeats 4000000 in
set_option maxRecDepth 100000 in
theorem D_X7_hasPlace {g : z_G} {h : z_H} {a k : Nat} {z : Int} {f : Nat → Int} (hs : oSt h a k z f) {i : Int} (hi : z_in i) : z_D g mX7_hasPlace 1 0 0 [z_r a, z_i i] h (z_Pi (if 0 ≤ i ∧ i < z then 1 else 0) h) := by
  refine z_D.of (by decide +kernel) (Nat.le_of_ble_eq_true rfl) (fun X F => ?_)
  show z_w g X cX7_hasPlace RX7 (1, 0, 0) 0 [z_r a, z_i i] [] h 0 0
  obtain ⟨h1, h2, h3, h4⟩ := id hs
  refine z_iload_n dX7_hasPlace_0 rfl ?_
  refine z_if_lt dX7_hasPlace_1 (tgt := 25) rfl ⟨by omega, by omega⟩ (fun c1 => ?_) (fun c1 => ?_)
  · skip
    refine z_iconst dX7_hasPlace_25 ?_
    exact z_zret F dX7_hasPlace_26 rfl (by omega) (by decide) ⟨congrArg (fun z => some (z_i z)) (by split <;> omega), rfl⟩
  · skip
    refine z_iload_n dX7_hasPlace_4 rfl ?_
    refine z_aload_n dX7_hasPlace_5 rfl ?_
    refine gf_X7_21 dX7_hasPlace_6 h1 rfl ?_
    refine z_icmp_ge dX7_hasPlace_9 (tgt := 25) rfl ⟨by omega, by omega⟩ ⟨by omega, by omega⟩ (fun c2 => ?_) (fun c2 => ?_)
    · skip
      refine z_iconst dX7_hasPlace_25 ?_
      exact z_zret F dX7_hasPlace_26 rfl (by omega) (by decide) ⟨congrArg (fun z => some (z_i z)) (by split <;> omega), rfl⟩
    · skip
      refine z_iload_n dX7_hasPlace_12 rfl ?_
      refine z_aload_n dX7_hasPlace_13 rfl ?_
      refine gf_X7_9 dX7_hasPlace_14 h1 rfl ?_
      refine z_alenI dX7_hasPlace_17 h2 ?_
      refine z_icmp_ge dX7_hasPlace_18 (tgt := 25) rfl ⟨by omega, by omega⟩ (by decide) (fun c3 => ?_) (fun c3 => ?_)
      · skip
        refine z_iconst dX7_hasPlace_25 ?_
        exact z_zret F dX7_hasPlace_26 rfl (by omega) (by decide) ⟨congrArg (fun z => some (z_i z)) (by split <;> omega), rfl⟩
      · skip
        refine z_iconst dX7_hasPlace_21 ?_
        refine z_goto dX7_hasPlace_22 (tgt := 26) rfl ?_
        exact z_zret F dX7_hasPlace_26 rfl (by omega) (by decide) ⟨congrArg (fun z => some (z_i z)) (by split <;> omega), rfl⟩
set_option maxHeartbeats 4000000 in
set_option maxRecDepth 100000 in
theorem D_X7_kindAt {g : z_G} {h : z_H} {a k : Nat} {z : Int} {f : Nat → Int} (hs : oSt h a k z f) {i : Int} (hi : z_in i) : z_D g mX7_kindAt 2 0 0 [z_r a, z_i i] h (z_Pi (if 0 ≤ i ∧ i < z then f i.toNat else -1) h) := by
  refine z_D.of (by decide +kernel) (Nat.le_of_ble_eq_true rfl) (fun X F => ?_)
  show z_w g X cX7_kindAt RX7 (2, 0, 0) 0 [z_r a, z_i i] [] h 0 0
  obtain ⟨h1, h2, h3, h4⟩ := id hs
  refine z_aload_n dX7_kindAt_0 rfl ?_
  refine z_iload_n dX7_kindAt_1 rfl ?_
  refine cs_X7_34 dX7_kindAt_2 (D_X7_hasPlace hs (i := i) ⟨by omega, by omega⟩) h1 rfl rfl (Nat.le_of_ble_eq_true rfl) (by decide) (z_ki ?_)
  refine z_if_eq dX7_kindAt_5 (tgt := 17) rfl ⟨by omega, by omega⟩ (fun c1 => ?_) (fun c1 => ?_)
  · skip
    refine z_iconst dX7_kindAt_17 ?_
    exact z_iret F dX7_kindAt_18 rfl (by decide) ⟨congrArg (fun z => some (z_i z)) (by first | rw [if_pos ⟨by omega, by omega⟩] | rw [if_neg (by omega)]), rfl⟩
  · skip
    refine z_aload_n dX7_kindAt_8 rfl ?_
    refine gf_X7_9 dX7_kindAt_9 h1 rfl ?_
    refine z_iload_n dX7_kindAt_12 rfl ?_
    refine z_iald dX7_kindAt_13 h2 ⟨by omega, by omega, by omega⟩ ?_
    refine z_goto dX7_kindAt_14 (tgt := 18) rfl ?_
    exact z_iret F dX7_kindAt_18 rfl (by decide) ⟨congrArg (fun z => some (z_i z)) (by first | rw [if_pos ⟨by omega, by omega⟩] | rw [if_neg (by omega)]), rfl⟩
theorem D_X7_kindAt_in {g : z_G} {h : z_H} {a k : Nat} {z : Int} {f : Nat → Int} (hs : oSt h a k z f) (j : Nat) (hj : (j : Int) < z) : z_D g mX7_kindAt 2 0 0 [z_r a, z_i (j : Int)] h (z_Pi (f j) h) := by
  have h0 := D_X7_kindAt (g := g) hs (i := (j : Int)) ⟨by omega, by have := hs.2.2.2; omega⟩
  rw [if_pos ⟨by omega, hj⟩] at h0
  exact h0
theorem D_X7_kindAt_w {g : z_G} {h : z_H} {a k : Nat} {z : Int} {f : Nat → Int} (hs : oSt h a k z f) {i : Int} (hi : -2147483648 ≤ i ∧ i < 4294967296) : z_D g mX7_kindAt 2 0 0 [z_r a, z_i i] h (z_Pi (if 0 ≤ i ∧ i < z then f i.toNat else -1) h) := by
  by_cases hb : i < 2147483648
  · exact D_X7_kindAt hs ⟨by omega, by omega⟩
  · have h0 := D_X7_kindAt (g := g) hs (i := i - 4294967296) ⟨by omega, by omega⟩
    have h9 := hs.2.2.2
    rw [if_neg (by omega)] at h0
    rw [if_neg (by omega)]
    refine z_D.arg ?_ h0
    simp only [List.map_cons, List.map_nil]
    rw [z_viw (i := i - 4294967296) (j := i) (Or.inr rfl)]
set_option maxHeartbeats 4000000 in
set_option maxRecDepth 100000 in
theorem D_X7_takenAhead {g : z_G} {h : z_H} {a k : Nat} {z : Int} {f : Nat → Int} (hs : oSt h a k z f) (hf : fOk z f) {i : Int} (hi : z_in i) : z_D g mX7_takenAhead 3 0 0 [z_r a, z_i i] h (z_Pi (sG kT f (if i < z then i else z).toNat) h) := by
  refine z_D.of (by decide +kernel) (Nat.le_of_ble_eq_true rfl) (fun X F => ?_)
  obtain ⟨h1, h2, h3, h4⟩ := id hs
  obtain ⟨N, hN⟩ : ∃ N : Nat, N = (if i < z then i else z).toNat := ⟨_, rfl⟩
  have L4 : ∀ (fu : Nat) (j : Nat) (h5 : j ≤ N), N - j < fu → z_w g X cX7_takenAhead RX7 (3, 0, 0) 4 [z_r a, z_i i, z_i (sG kT f j), z_i (j : Int)] [] h 0 0 := by
    intro fu
    induction fu with
    | zero => intro j h5 hm; exact absurd hm (Nat.not_lt_zero _)
    | succ fu ih =>
      intro j h5 hm
      refine z_iload_n dX7_takenAhead_4 rfl ?_
      refine z_iload_n dX7_takenAhead_5 rfl ?_
      refine z_icmp_ge dX7_takenAhead_6 (tgt := 34) rfl ⟨by omega, by omega⟩ ⟨by omega, by omega⟩ (fun c1 => ?_) (fun c1 => ?_)
      · skip
        refine z_iload_n dX7_takenAhead_34 rfl ?_
        exact z_iret F dX7_takenAhead_35 rfl (by decide) ⟨congrArg (fun z => some (z_i z)) (by rw [show j = N by omega, hN]), rfl⟩
      · skip
        refine z_iload_n dX7_takenAhead_9 rfl ?_
        refine z_aload_n dX7_takenAhead_10 rfl ?_
        refine gf_X7_21 dX7_takenAhead_11 h1 rfl ?_
        refine z_icmp_ge dX7_takenAhead_14 (tgt := 34) rfl ⟨by omega, by omega⟩ ⟨by omega, by omega⟩ (fun c2 => ?_) (fun c2 => ?_)
        · skip
          refine z_iload_n dX7_takenAhead_34 rfl ?_
          exact z_iret F dX7_takenAhead_35 rfl (by decide) ⟨congrArg (fun z => some (z_i z)) (by rw [show j = N by omega, hN]), rfl⟩
        · skip
          refine z_iload_n dX7_takenAhead_17 rfl ?_
          refine z_aload_n dX7_takenAhead_18 rfl ?_
          refine z_iload_n dX7_takenAhead_19 rfl ?_
          refine cs_X7_38 dX7_takenAhead_20 (D_X7_kindAt_in hs j (by omega)) h1 rfl rfl (Nat.le_of_ble_eq_true rfl) (by decide) (z_ki ?_)
          refine cs_X7_42 dX7_takenAhead_23 (D_X2_takenBy_ok (hf j (by omega))) rfl rfl (Nat.le_of_ble_eq_true rfl) (by decide) (z_ki ?_)
          refine z_iadd dX7_takenAhead_26 ?_
          refine z_istore_n dX7_takenAhead_27 (Nat.le_of_ble_eq_true rfl) rfl ?_
          refine z_iinc dX7_takenAhead_28 rfl rfl ?_
          refine z_goto dX7_takenAhead_31 (tgt := 4) rfl ?_
          exact ih (j + 1) (by omega) (by omega)
  show z_w g X cX7_takenAhead RX7 (3, 0, 0) 0 [z_r a, z_i i, z_u, z_u] [] h 0 0
  refine z_iconst dX7_takenAhead_0 ?_
  refine z_istore_n dX7_takenAhead_1 (Nat.le_of_ble_eq_true rfl) rfl ?_
  refine z_iconst dX7_takenAhead_2 ?_
  refine z_istore_n dX7_takenAhead_3 (Nat.le_of_ble_eq_true rfl) rfl ?_
  exact L4 (N + 1) 0 (Nat.zero_le _) (by omega)
set_option maxHeartbeats 4000000 in
set_option maxRecDepth 100000 in
theorem D_X7_madeAhead {g : z_G} {h : z_H} {a k : Nat} {z : Int} {f : Nat → Int} (hs : oSt h a k z f) (hf : fOk z f) {i : Int} (hi : z_in i) : z_D g mX7_madeAhead 3 0 0 [z_r a, z_i i] h (z_Pi (sG kM f (if i < z then i else z).toNat) h) := by
  refine z_D.of (by decide +kernel) (Nat.le_of_ble_eq_true rfl) (fun X F => ?_)
  obtain ⟨h1, h2, h3, h4⟩ := id hs
  obtain ⟨N, hN⟩ : ∃ N : Nat, N = (if i < z then i else z).toNat := ⟨_, rfl⟩
  have L4 : ∀ (fu : Nat) (j : Nat) (h5 : j ≤ N), N - j < fu → z_w g X cX7_madeAhead RX7 (3, 0, 0) 4 [z_r a, z_i i, z_i (sG kM f j), z_i (j : Int)] [] h 0 0 := by
    intro fu
    induction fu with
    | zero => intro j h5 hm; exact absurd hm (Nat.not_lt_zero _)
    | succ fu ih =>
      intro j h5 hm
      refine z_iload_n dX7_madeAhead_4 rfl ?_
      refine z_iload_n dX7_madeAhead_5 rfl ?_
      refine z_icmp_ge dX7_madeAhead_6 (tgt := 34) rfl ⟨by omega, by omega⟩ ⟨by omega, by omega⟩ (fun c1 => ?_) (fun c1 => ?_)
      · skip
        refine z_iload_n dX7_madeAhead_34 rfl ?_
        exact z_iret F dX7_madeAhead_35 rfl (by decide) ⟨congrArg (fun z => some (z_i z)) (by rw [show j = N by omega, hN]), rfl⟩
      · skip
        refine z_iload_n dX7_madeAhead_9 rfl ?_
        refine z_aload_n dX7_madeAhead_10 rfl ?_
        refine gf_X7_21 dX7_madeAhead_11 h1 rfl ?_
        refine z_icmp_ge dX7_madeAhead_14 (tgt := 34) rfl ⟨by omega, by omega⟩ ⟨by omega, by omega⟩ (fun c2 => ?_) (fun c2 => ?_)
        · skip
          refine z_iload_n dX7_madeAhead_34 rfl ?_
          exact z_iret F dX7_madeAhead_35 rfl (by decide) ⟨congrArg (fun z => some (z_i z)) (by rw [show j = N by omega, hN]), rfl⟩
        · skip
          refine z_iload_n dX7_madeAhead_17 rfl ?_
          refine z_aload_n dX7_madeAhead_18 rfl ?_
          refine z_iload_n dX7_madeAhead_19 rfl ?_
          refine cs_X7_38 dX7_madeAhead_20 (D_X7_kindAt_in hs j (by omega)) h1 rfl rfl (Nat.le_of_ble_eq_true rfl) (by decide) (z_ki ?_)
          refine cs_X7_47 dX7_madeAhead_23 (D_X2_madeBy_ok (hf j (by omega))) rfl rfl (Nat.le_of_ble_eq_true rfl) (by decide) (z_ki ?_)
          refine z_iadd dX7_madeAhead_26 ?_
          refine z_istore_n dX7_madeAhead_27 (Nat.le_of_ble_eq_true rfl) rfl ?_
          refine z_iinc dX7_madeAhead_28 rfl rfl ?_
          refine z_goto dX7_madeAhead_31 (tgt := 4) rfl ?_
          exact ih (j + 1) (by omega) (by omega)
  show z_w g X cX7_madeAhead RX7 (3, 0, 0) 0 [z_r a, z_i i, z_u, z_u] [] h 0 0
  refine z_iconst dX7_madeAhead_0 ?_
  refine z_istore_n dX7_madeAhead_1 (Nat.le_of_ble_eq_true rfl) rfl ?_
  refine z_iconst dX7_madeAhead_2 ?_
  refine z_istore_n dX7_madeAhead_3 (Nat.le_of_ble_eq_true rfl) rfl ?_
  exact L4 (N + 1) 0 (Nat.zero_le _) (by omega)
set_option maxHeartbeats 4000000 in
set_option maxRecDepth 100000 in
theorem D_X7_yarnUsed {g : z_G} {h : z_H} {a k : Nat} {z : Int} {f : Nat → Int} (hs : oSt h a k z f) (hf : fOk z f) : z_D g mX7_yarnUsed 3 0 0 [z_r a] h (z_Pi (sG kY f z.toNat) h) := by
  refine z_D.of (by decide +kernel) (Nat.le_of_ble_eq_true rfl) (fun X F => ?_)
  obtain ⟨h1, h2, h3, h4⟩ := id hs
  obtain ⟨N, hN⟩ : ∃ N : Nat, N = z.toNat := ⟨_, rfl⟩
  have L4 : ∀ (fu : Nat) (j : Nat) (h5 : j ≤ N), N - j < fu → z_w g X cX7_yarnUsed RX7 (3, 0, 0) 4 [z_r a, z_i (sG kY f j), z_i (j : Int)] [] h 0 0 := by
    intro fu
    induction fu with
    | zero => intro j h5 hm; exact absurd hm (Nat.not_lt_zero _)
    | succ fu ih =>
      intro j h5 hm
      refine z_iload_n dX7_yarnUsed_4 rfl ?_
      refine z_aload_n dX7_yarnUsed_5 rfl ?_
      refine gf_X7_21 dX7_yarnUsed_6 h1 rfl ?_
      refine z_icmp_ge dX7_yarnUsed_9 (tgt := 29) rfl ⟨by omega, by omega⟩ ⟨by omega, by omega⟩ (fun c1 => ?_) (fun c1 => ?_)
      · skip
        refine z_iload_n dX7_yarnUsed_29 rfl ?_
        exact z_iret F dX7_yarnUsed_30 rfl (by decide) ⟨congrArg (fun z => some (z_i z)) (by rw [show j = N by omega, hN]), rfl⟩
      · skip
        refine z_iload_n dX7_yarnUsed_12 rfl ?_
        refine z_aload_n dX7_yarnUsed_13 rfl ?_
        refine z_iload_n dX7_yarnUsed_14 rfl ?_
        refine cs_X7_38 dX7_yarnUsed_15 (D_X7_kindAt_in hs j (by omega)) h1 rfl rfl (Nat.le_of_ble_eq_true rfl) (by decide) (z_ki ?_)
        refine cs_X7_50 dX7_yarnUsed_18 (D_X2_yarnOf_ok (hf j (by omega))) rfl rfl (Nat.le_of_ble_eq_true rfl) (by decide) (z_ki ?_)
        refine z_iadd dX7_yarnUsed_21 ?_
        refine z_istore_n dX7_yarnUsed_22 (Nat.le_of_ble_eq_true rfl) rfl ?_
        refine z_iinc dX7_yarnUsed_23 rfl rfl ?_
        refine z_goto dX7_yarnUsed_26 (tgt := 4) rfl ?_
        exact ih (j + 1) (by omega) (by omega)
  show z_w g X cX7_yarnUsed RX7 (3, 0, 0) 0 [z_r a, z_u, z_u] [] h 0 0
  refine z_iconst dX7_yarnUsed_0 ?_
  refine z_istore_n dX7_yarnUsed_1 (Nat.le_of_ble_eq_true rfl) rfl ?_
  refine z_iconst dX7_yarnUsed_2 ?_
  refine z_istore_n dX7_yarnUsed_3 (Nat.le_of_ble_eq_true rfl) rfl ?_
  exact L4 (N + 1) 0 (Nat.zero_le _) (by omega)
set_option maxHeartbeats 4000000 in
set_option maxRecDepth 100000 in
theorem D_X7_countUnder {g : z_G} {h : z_H} {a k : Nat} {z : Int} {f : Nat → Int} (hs : oSt h a k z f) (hf : fOk z f) {t : Int} (ht : 0 ≤ t ∧ t ≤ 12) : z_D g mX7_countUnder 3 0 0 [z_r a, z_i t] h (z_Pi (sG (fun q => kUn q t) f z.toNat) h) := by
  refine z_D.of (by decide +kernel) (Nat.le_of_ble_eq_true rfl) (fun X F => ?_)
  obtain ⟨h1, h2, h3, h4⟩ := id hs
  obtain ⟨N, hN⟩ : ∃ N : Nat, N = z.toNat := ⟨_, rfl⟩
  have L4 : ∀ (fu : Nat) (j : Nat) (h5 : j ≤ N), N - j < fu → z_w g X cX7_countUnder RX7 (3, 0, 0) 4 [z_r a, z_i t, z_i (sG (fun q => kUn q t) f j), z_i (j : Int)] [] h 0 0 := by
    intro fu
    induction fu with
    | zero => intro j h5 hm; exact absurd hm (Nat.not_lt_zero _)
    | succ fu ih =>
      intro j h5 hm
      refine z_iload_n dX7_countUnder_4 rfl ?_
      refine z_aload_n dX7_countUnder_5 rfl ?_
      refine gf_X7_21 dX7_countUnder_6 h1 rfl ?_
      refine z_icmp_ge dX7_countUnder_9 (tgt := 38) rfl ⟨by omega, by omega⟩ ⟨by omega, by omega⟩ (fun c1 => ?_) (fun c1 => ?_)
      · skip
        refine z_iload_n dX7_countUnder_38 rfl ?_
        exact z_iret F dX7_countUnder_39 rfl (by decide) ⟨congrArg (fun z => some (z_i z)) (by rw [show j = N by omega, hN]), rfl⟩
      · skip
        refine z_iload_n dX7_countUnder_12 rfl ?_
        refine z_aload_n dX7_countUnder_13 rfl ?_
        refine z_iload_n dX7_countUnder_14 rfl ?_
        refine cs_X7_38 dX7_countUnder_15 (D_X7_kindAt_in hs j (by omega)) h1 rfl rfl (Nat.le_of_ble_eq_true rfl) (by decide) (z_ki ?_)
        refine z_iload_n dX7_countUnder_18 rfl ?_
        refine cs_X7_53 dX7_countUnder_19 (D_X2_isUnder_ok (hf j (by omega)) ht) rfl rfl (Nat.le_of_ble_eq_true rfl) (by decide) (z_ki ?_)
        refine z_if_eq dX7_countUnder_22 (tgt := 29) rfl (by rcases kUn_01 (f j) t with e | e <;> rw [e] <;> exact ⟨by omega, by omega⟩) (fun c2 => ?_) (fun c2 => ?_)
        · skip
          have e1 : sG (fun q => kUn q t) f (j + 1) = sG (fun q => kUn q t) f j + 0 := congrArg (fun q => sG (fun q => kUn q t) f j + q) c2
          refine z_iconst dX7_countUnder_29 ?_
          refine z_iadd dX7_countUnder_30 ?_
          refine z_istore_n dX7_countUnder_31 (Nat.le_of_ble_eq_true rfl) rfl ?_
          refine z_iinc dX7_countUnder_32 rfl rfl ?_
          refine z_goto dX7_countUnder_35 (tgt := 4) rfl ?_
          exact (e1 ▸ ih (j + 1) (by omega) (by omega) :)
        · skip
          have e1 : sG (fun q => kUn q t) f (j + 1) = sG (fun q => kUn q t) f j + 1 := congrArg (fun q => sG (fun q => kUn q t) f j + q) ((kUn_01 (f j) t).resolve_left c2)
          refine z_iconst dX7_countUnder_25 ?_
          refine z_goto dX7_countUnder_26 (tgt := 30) rfl ?_
          refine z_iadd dX7_countUnder_30 ?_
          refine z_istore_n dX7_countUnder_31 (Nat.le_of_ble_eq_true rfl) rfl ?_
          refine z_iinc dX7_countUnder_32 rfl rfl ?_
          refine z_goto dX7_countUnder_35 (tgt := 4) rfl ?_
          exact (e1 ▸ ih (j + 1) (by omega) (by omega) :)
  show z_w g X cX7_countUnder RX7 (3, 0, 0) 0 [z_r a, z_i t, z_u, z_u] [] h 0 0
  refine z_iconst dX7_countUnder_0 ?_
  refine z_istore_n dX7_countUnder_1 (Nat.le_of_ble_eq_true rfl) rfl ?_
  refine z_iconst dX7_countUnder_2 ?_
  refine z_istore_n dX7_countUnder_3 (Nat.le_of_ble_eq_true rfl) rfl ?_
  exact L4 (N + 1) 0 (Nat.zero_le _) (by omega)
def mA (z : Int) (f : Nat → Int) (i : Int) : Int := if 0 ≤ i ∧ i < z then kMi (f (z - 1 - i).toNat) else -1
theorem kMi_in {k : Int} (hk : z_in k) : z_in (kMi k) := by
  unfold kMi
  split
  · exact ⟨by omega, by omega⟩
  · split
    · exact ⟨by omega, by omega⟩
    · exact hk
theorem f_in {z : Int} {f : Nat → Int} (hf : fOk z f) {i : Int} : z_in (if 0 ≤ i ∧ i < z then f i.toNat else -1) := by
  by_cases h : 0 ≤ i ∧ i < z
  · rw [if_pos h]
    have := hf i.toNat (by omega)
    exact ⟨by have := this.1; omega, by have := this.2; omega⟩
  · rw [if_neg h]
    exact ⟨by omega, by omega⟩
theorem f_inN {z : Int} {f : Nat → Int} (hf : fOk z f) {j : Nat} (hj : (j : Int) < z) : z_in (f j) := by
  have := hf j hj
  exact ⟨by have := this.1; omega, by have := this.2; omega⟩
theorem mA_in {z : Int} {f : Nat → Int} (hf : fOk z f) {i : Int} : z_in (mA z f i) := by
  unfold mA
  by_cases h : 0 ≤ i ∧ i < z
  · rw [if_pos h]
    exact kMi_in (f_inN hf (by omega))
  · rw [if_neg h]
    exact ⟨by omega, by omega⟩
theorem mA_k {z : Int} {f : Nat → Int} {i : Int} : kMi (if 0 ≤ z - 1 - i ∧ z - 1 - i < z then f (z - 1 - i).toNat else -1) = mA z f i := by
  unfold mA
  by_cases h : 0 ≤ i ∧ i < z
  · rw [if_pos h, if_pos (by omega)]
  · rw [if_neg h, if_neg (by omega)]
    decide
set_option maxHeartbeats 4000000 in
set_option maxRecDepth 100000 in
theorem D_X7_mirroredAt {g : z_G} {h : z_H} {a k : Nat} {z : Int} {f : Nat → Int} (hs : oSt h a k z f) (hf : fOk z f) {i : Int} (hi : z_in i) : z_D g mX7_mirroredAt 3 0 0 [z_r a, z_i i] h (z_Pi (mA z f i) h) := by
  refine z_D.of (by decide +kernel) (Nat.le_of_ble_eq_true rfl) (fun X F => ?_)
  show z_w g X cX7_mirroredAt RX7 (3, 0, 0) 0 [z_r a, z_i i] [] h 0 0
  obtain ⟨h1, h2, h3, h4⟩ := id hs
  refine z_aload_n dX7_mirroredAt_0 rfl ?_
  refine z_aload_n dX7_mirroredAt_1 rfl ?_
  refine gf_X7_21 dX7_mirroredAt_2 h1 rfl ?_
  refine z_iconst dX7_mirroredAt_5 ?_
  refine z_isub dX7_mirroredAt_6 ?_
  refine z_iload_n dX7_mirroredAt_7 rfl ?_
  refine z_isub dX7_mirroredAt_8 ?_
  refine cs_X7_38 dX7_mirroredAt_9 (D_X7_kindAt_w hs (i := z - 1 - i) ⟨by omega, by omega⟩) h1 rfl rfl (Nat.le_of_ble_eq_true rfl) (by decide) (z_ki ?_)
  refine cs_X7_57 dX7_mirroredAt_12 (D_X2_mirroredTo (f_in hf)) rfl rfl (Nat.le_of_ble_eq_true rfl) (by decide) (z_ki ?_)
  exact z_iret F dX7_mirroredAt_15 rfl (by decide) ⟨congrArg (fun z => some (z_i z)) (by exact mA_k), rfl⟩
set_option maxHeartbeats 4000000 in
set_option maxRecDepth 100000 in
theorem D_X7_isEven {g : z_G} {h : z_H} {a k : Nat} {z : Int} {f : Nat → Int} (hs : oSt h a k z f) (hf : fOk z f) : z_D g mX7_isEven 4 0 0 [z_r a] h (z_Pi (bI (∀ j : Nat, (j : Int) < z → f j = mA z f j)) h) := by
  refine z_D.of (by decide +kernel) (Nat.le_of_ble_eq_true rfl) (fun X F => ?_)
  obtain ⟨h1, h2, h3, h4⟩ := id hs
  obtain ⟨N, hN⟩ : ∃ N : Nat, N = z.toNat := ⟨_, rfl⟩
  have L4 : ∀ (fu : Nat) (j : Nat) (h5 : j ≤ N) (h6 : ∀ q : Nat, q < j → f q = mA z f q), N - j < fu → z_w g X cX7_isEven RX7 (4, 0, 0) 2 [z_r a, z_i (j : Int)] [] h 0 0 := by
    intro fu
    induction fu with
    | zero => intro j h5 h6 hm; exact absurd hm (Nat.not_lt_zero _)
    | succ fu ih =>
      intro j h5 h6 hm
      refine z_iload_n dX7_isEven_2 rfl ?_
      refine z_aload_n dX7_isEven_3 rfl ?_
      refine gf_X7_21 dX7_isEven_4 h1 rfl ?_
      refine z_icmp_ge dX7_isEven_7 (tgt := 31) rfl ⟨by omega, by omega⟩ ⟨by omega, by omega⟩ (fun c1 => ?_) (fun c1 => ?_)
      · skip
        refine z_iconst dX7_isEven_31 ?_
        exact z_zret F dX7_isEven_32 rfl (by omega) (by decide) ⟨congrArg (fun z => some (z_i z)) (bI_t (fun q hq => h6 q (by omega))).symm, rfl⟩
      · skip
        refine z_aload_n dX7_isEven_10 rfl ?_
        refine z_iload_n dX7_isEven_11 rfl ?_
        refine cs_X7_38 dX7_isEven_12 (D_X7_kindAt_in hs j (by omega)) h1 rfl rfl (Nat.le_of_ble_eq_true rfl) (by decide) (z_ki ?_)
        refine z_aload_n dX7_isEven_15 rfl ?_
        refine z_iload_n dX7_isEven_16 rfl ?_
        refine cs_X7_60 dX7_isEven_17 (D_X7_mirroredAt hs hf (i := (j : Int)) ⟨by omega, by omega⟩) h1 rfl rfl (Nat.le_of_ble_eq_true rfl) (by decide) (z_ki ?_)
        refine z_icmp_eq dX7_isEven_20 (tgt := 25) rfl (f_inN hf (by omega)) (mA_in hf) (fun c2 => ?_) (fun c2 => ?_)
        · skip
          have c3 := c2
          refine z_iinc dX7_isEven_25 rfl rfl ?_
          refine z_goto dX7_isEven_28 (tgt := 2) rfl ?_
          exact ih (j + 1) (by omega) (lt_s h6 c3) (by omega)
        · skip
          have c3 := c2
          refine z_iconst dX7_isEven_23 ?_
          exact z_zret F dX7_isEven_24 rfl (by omega) (by decide) ⟨congrArg (fun z => some (z_i z)) (bI_f (fun q => c3 (q j (by omega)))).symm, rfl⟩
  show z_w g X cX7_isEven RX7 (4, 0, 0) 0 [z_r a, z_u] [] h 0 0
  refine z_iconst dX7_isEven_0 ?_
  refine z_istore_n dX7_isEven_1 (Nat.le_of_ble_eq_true rfl) rfl ?_
  exact L4 (N + 1) 0 (Nat.zero_le _) lt_0 (by omega)
def cAg (z : Int) (f : Nat → Int) (m : Nat) : Prop := ∀ j : Nat, m ≤ j → (j : Int) < z → f j = f (j - m)
set_option maxHeartbeats 4000000 in
set_option maxRecDepth 100000 in
theorem D_X7_comesAgain {g : z_G} {h : z_H} {a k : Nat} {z : Int} {f : Nat → Int} (hs : oSt h a k z f) (hf : fOk z f) {m : Nat} (hm0 : 1 ≤ m ∧ m ≤ 200) : z_D g mX7_comesAgain 3 0 0 [z_r a, z_i (m : Int)] h (z_Pi (bI (cAg z f m)) h) := by
  refine z_D.of (by decide +kernel) (Nat.le_of_ble_eq_true rfl) (fun X F => ?_)
  obtain ⟨h1, h2, h3, h4⟩ := id hs
  have L4 : ∀ (fu : Nat) (j : Nat) (h5 : m ≤ j ∧ j ≤ 200) (h6 : ∀ q : Nat, m ≤ q → q < j → f q = f (q - m)), 201 - j < fu → z_w g X cX7_comesAgain RX7 (3, 0, 0) 2 [z_r a, z_i (m : Int), z_i (j : Int)] [] h 0 0 := by
    intro fu
    induction fu with
    | zero => intro j h5 h6 hm; exact absurd hm (Nat.not_lt_zero _)
    | succ fu ih =>
      intro j h5 h6 hm
      refine z_iload_n dX7_comesAgain_2 rfl ?_
      refine z_aload_n dX7_comesAgain_3 rfl ?_
      refine gf_X7_21 dX7_comesAgain_4 h1 rfl ?_
      refine z_icmp_ge dX7_comesAgain_7 (tgt := 33) rfl ⟨by omega, by omega⟩ ⟨by omega, by omega⟩ (fun c1 => ?_) (fun c1 => ?_)
      · skip
        refine z_iconst dX7_comesAgain_33 ?_
        exact z_zret F dX7_comesAgain_34 rfl (by omega) (by decide) ⟨congrArg (fun z => some (z_i z)) (bI_t (fun q hq hq2 => h6 q hq (by omega))).symm, rfl⟩
      · skip
        refine z_aload_n dX7_comesAgain_10 rfl ?_
        refine z_iload_n dX7_comesAgain_11 rfl ?_
        refine cs_X7_38 dX7_comesAgain_12 (D_X7_kindAt_in hs j (by omega)) h1 rfl rfl (Nat.le_of_ble_eq_true rfl) (by decide) (z_ki ?_)
        refine z_aload_n dX7_comesAgain_15 rfl ?_
        refine z_iload_n dX7_comesAgain_16 rfl ?_
        refine z_iload_n dX7_comesAgain_17 rfl ?_
        refine z_isub dX7_comesAgain_18 ?_
        have e1 : (((j - m : Nat) : Int)) = (j : Int) - (m : Int) := by omega
        refine cs_X7_38 dX7_comesAgain_19 (e1 ▸ D_X7_kindAt_in hs (j - m) (by omega)) h1 rfl rfl (Nat.le_of_ble_eq_true rfl) (by decide) (z_ki ?_)
        refine z_icmp_eq dX7_comesAgain_22 (tgt := 27) rfl (f_inN hf (by omega)) (f_inN hf (by omega)) (fun c2 => ?_) (fun c2 => ?_)
        · skip
          have c3 := c2
          refine z_iinc dX7_comesAgain_27 rfl rfl ?_
          refine z_goto dX7_comesAgain_30 (tgt := 2) rfl ?_
          exact ih (j + 1) (by omega) (fun q hq hq2 => by rcases (show q < j ∨ q = j by omega) with e | e; exact h6 q hq e; rw [e]; exact c3) (by omega)
        · skip
          have c3 := c2
          refine z_iconst dX7_comesAgain_25 ?_
          exact z_zret F dX7_comesAgain_26 rfl (by omega) (by decide) ⟨congrArg (fun z => some (z_i z)) (bI_f (fun q => c3 (q j (by omega) (by omega)))).symm, rfl⟩
  show z_w g X cX7_comesAgain RX7 (3, 0, 0) 0 [z_r a, z_i (m : Int), z_u] [] h 0 0
  refine z_iload_n dX7_comesAgain_0 rfl ?_
  refine z_istore_n dX7_comesAgain_1 (Nat.le_of_ble_eq_true rfl) rfl ?_
  exact L4 202 m (by omega) (fun q h1 h2 => absurd h1 (by omega)) (by omega)
def isU (z : Int) (f : Nat → Int) (u : Int) : Prop := (z = 0 ∧ u = 0) ∨ (1 ≤ u ∧ u ≤ z ∧ z % u = 0 ∧ cAg z f u.toNat ∧ ∀ v : Nat, 1 ≤ v → (v : Int) < u → ¬ (z % (v : Int) = 0 ∧ cAg z f v))
theorem isU_u {z : Int} {f : Nat → Int} {u v : Int} (hu : isU z f u) (hv : isU z f v) : u = v := by
  rcases hu with ⟨a1, a2⟩ | ⟨a1, a2, a3, a4, a5⟩ <;> rcases hv with ⟨b1, b2⟩ | ⟨b1, b2, b3, b4, b5⟩
  · omega
  · omega
  · omega
  · rcases (show u < v ∨ u = v ∨ v < u by omega) with q | q | q
    · have e : ((u.toNat : Nat) : Int) = u := by omega
      exact absurd ⟨by rw [e]; exact a3, a4⟩ (b5 u.toNat (by omega) (by omega))
    · exact q
    · have e : ((v.toNat : Nat) : Int) = v := by omega
      exact absurd ⟨by rw [e]; exact b3, b4⟩ (a5 v.toNat (by omega) (by omega))
noncomputable def uF (z : Int) (f : Nat → Int) : Int := @Classical.epsilon Int ⟨0⟩ (isU z f)
theorem uF_is {z : Int} {f : Nat → Int} {u : Int} (hu : isU z f u) : u = uF z f := isU_u hu (@Classical.epsilon_spec Int (isU z f) ⟨u, hu⟩)
set_option maxHeartbeats 4000000 in
set_option maxRecDepth 100000 in
theorem D_X7_smallestPart {g : z_G} {h : z_H} {a k : Nat} {z : Int} {f : Nat → Int} (hs : oSt h a k z f) (hf : fOk z f) : z_D g mX7_smallestPart 4 0 0 [z_r a] h (z_Pi (uF z f) h) := by
  refine z_D.of (by decide +kernel) (Nat.le_of_ble_eq_true rfl) (fun X F => ?_)
  obtain ⟨h1, h2, h3, h4⟩ := id hs
  have L4 : ∀ (fu : Nat) (j : Nat) (h5 : 1 ≤ j ∧ j ≤ 201) (h6 : ∀ v : Nat, 1 ≤ v → v < j → ¬ (z % (v : Int) = 0 ∧ cAg z f v)), 202 - j < fu → z_w g X cX7_smallestPart RX7 (4, 0, 0) 2 [z_r a, z_i (j : Int)] [] h 0 0 := by
    intro fu
    induction fu with
    | zero => intro j h5 h6 hm; exact absurd hm (Nat.not_lt_zero _)
    | succ fu ih =>
      intro j h5 h6 hm
      refine z_iload_n dX7_smallestPart_2 rfl ?_
      refine z_aload_n dX7_smallestPart_3 rfl ?_
      refine gf_X7_21 dX7_smallestPart_4 h1 rfl ?_
      refine z_icmp_ge dX7_smallestPart_7 (tgt := 35) rfl ⟨by omega, by omega⟩ ⟨by omega, by omega⟩ (fun c1 => ?_) (fun c1 => ?_)
      · skip
        refine z_aload_n dX7_smallestPart_35 rfl ?_
        refine gf_X7_21 dX7_smallestPart_36 h1 rfl ?_
        exact z_iret F dX7_smallestPart_39 rfl (by decide) ⟨congrArg (fun z => some (z_i z)) (uF_is (by rcases (show z = 0 ∨ 1 ≤ z by omega) with e | e; exact Or.inl ⟨e, e⟩; exact Or.inr ⟨e, Int.le_refl _, Int.emod_self, fun q hq hq2 => absurd hq (by omega), fun v hv hv2 => h6 v hv (by omega)⟩)), rfl⟩
      · skip
        refine z_aload_n dX7_smallestPart_10 rfl ?_
        refine gf_X7_21 dX7_smallestPart_11 h1 rfl ?_
        refine z_iload_n dX7_smallestPart_14 rfl ?_
        refine z_irem dX7_smallestPart_15 ⟨by omega, by omega⟩ ⟨by omega, by omega⟩ ?_
        refine z_if_ne dX7_smallestPart_16 (tgt := 29) rfl ⟨by have := Int.emod_nonneg z (b := (j : Int)) (by omega); omega, by have := Int.emod_lt_of_pos z (b := (j : Int)) (by omega); omega⟩ (fun c2 => ?_) (fun c2 => ?_)
        · skip
          have c3 : ¬ (z % (j : Int) = 0 ∧ cAg z f j) := fun q => c2 q.1
          refine z_iinc dX7_smallestPart_29 rfl rfl ?_
          refine z_goto dX7_smallestPart_32 (tgt := 2) rfl ?_
          exact ih (j + 1) (by omega) (fun q hq hq2 => by rcases (show q < j ∨ q = j by omega) with e | e; exact h6 q hq e; rw [e]; exact c3) (by omega)
        · skip
          have c4 : z % (j : Int) = 0 := c2
          refine z_aload_n dX7_smallestPart_19 rfl ?_
          refine z_iload_n dX7_smallestPart_20 rfl ?_
          refine cs_X7_63 dX7_smallestPart_21 (D_X7_comesAgain hs hf (m := j) ⟨by omega, by omega⟩) h1 rfl rfl (Nat.le_of_ble_eq_true rfl) (by decide) (z_ki ?_)
          refine z_if_eq dX7_smallestPart_24 (tgt := 29) rfl (bI_in _) (fun c3 => ?_) (fun c3 => ?_)
          · skip
            have c3 : ¬ (z % (j : Int) = 0 ∧ cAg z f j) := fun q => bI_0 c3 q.2
            refine z_iinc dX7_smallestPart_29 rfl rfl ?_
            refine z_goto dX7_smallestPart_32 (tgt := 2) rfl ?_
            exact ih (j + 1) (by omega) (fun q hq hq2 => by rcases (show q < j ∨ q = j by omega) with e | e; exact h6 q hq e; rw [e]; exact c3) (by omega)
          · skip
            have c3 := bI_1 c3
            refine z_iload_n dX7_smallestPart_27 rfl ?_
            exact z_iret F dX7_smallestPart_28 rfl (by decide) ⟨congrArg (fun z => some (z_i z)) (uF_is (Or.inr ⟨by omega, by omega, c4, c3, fun v hv hv2 => h6 v hv (by omega)⟩)), rfl⟩
  show z_w g X cX7_smallestPart RX7 (4, 0, 0) 0 [z_r a, z_u] [] h 0 0
  refine z_iconst dX7_smallestPart_0 ?_
  refine z_istore_n dX7_smallestPart_1 (Nat.le_of_ble_eq_true rfl) rfl ?_
  exact L4 203 1 (by omega) (fun q h1 h2 => absurd h1 (by omega)) (by omega)
