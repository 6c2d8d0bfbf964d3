/-! the kinds -/
noncomputable def bI (p : Prop) : Int := @ite Int p (Classical.propDecidable p) 1 0
theorem bI_t {p : Prop} (h : p) : bI p = 1 := if_pos h
theorem bI_f {p : Prop} (h : ¬ p) : bI p = 0 := if_neg h
theorem bI_01 (p : Prop) : bI p = 0 ∨ bI p = 1 := by
  by_cases h : p
  · exact Or.inr (bI_t h)
  · exact Or.inl (bI_f h)
theorem bI_in (p : Prop) : z_in (bI p) := by
  rcases bI_01 p with h | h <;> rw [h] <;> exact ⟨by omega, by omega⟩
theorem bI_1 {p : Prop} (h : ¬ bI p = 0) : p := by
  by_cases hp : p
  · exact hp
  · exact absurd (bI_f hp) h
theorem bI_0 {p : Prop} (h : bI p = 0) : ¬ p := fun hp => by rw [bI_t hp] at h; omega
def upF : Nat → Int → Int → Int
  | 0, _, _ => 0
  | n + 1, a, t => if 0 ≤ a ∧ a ≤ 12 then (if a = t then 1 else upF n (z_tv 0 a.toNat) t) else 0
theorem z_tvin : ∀ i j, z_in (z_tv i j) := by
  intro i j
  have h : ∀ l : List Int, (∀ x ∈ l, z_in x) → z_in (l.getD j 0) := by
    intro l hl
    rw [List.getD_eq_getElem?_getD]
    cases hj : l[j]? with
    | none => exact z_in0
    | some x => exact hl x (List.mem_of_getElem? hj)
  match i with
  | 0 => exact h z_tABOVE (by decide)
  | 1 => exact h z_tTAKES (by decide)
  | 2 => exact h z_tMAKES (by decide)
  | i + 3 => exact h z_tYARN (by decide)
theorem upF_01 : ∀ n a t, upF n a t = 0 ∨ upF n a t = 1 := by
  intro n
  induction n with
  | zero => intro a t; exact Or.inl rfl
  | succ n ih =>
    intro a t
    unfold upF
    split
    · split
      · exact Or.inr rfl
      · exact ih _ _
    · exact Or.inl rfl
def kUn (kind of : Int) : Int := if of = 0 ∨ of = kind ∨ (of = 1 ∧ kind < 7) ∨ (of = 2 ∧ (kind = 7 ∨ kind = 8)) ∨ (of = 3 ∧ kind > 8) ∨ (of = 10 ∧ kind = 12) then 1 else 0
theorem kUn_01 (k t : Int) : kUn k t = 0 ∨ kUn k t = 1 := by unfold kUn; split <;> omega
def kAll : List Int := [4, 5, 6, 7, 8, 9, 10, 11, 12]
def tAll : List Int := [0, 1, 2, 3, 4, 5, 6, 7, 8, 9, 10, 11, 12]
theorem upF_kUn' : ∀ k ∈ kAll, ∀ t ∈ tAll, upF 4 k t = kUn k t := by decide
theorem upF_kUn {k t : Int} (hk : kOk k) (ht : 0 ≤ t ∧ t ≤ 12) : upF 4 k t = kUn k t := by
  refine upF_kUn' k ?_ t ?_
  · obtain ⟨h1, h2⟩ := hk
    rcases (show k = 4 ∨ k = 5 ∨ k = 6 ∨ k = 7 ∨ k = 8 ∨ k = 9 ∨ k = 10 ∨ k = 11 ∨ k = 12 by omega) with rfl | rfl | rfl | rfl | rfl | rfl | rfl | rfl | rfl <;> decide
  · obtain ⟨h1, h2⟩ := ht
    rcases (show t = 0 ∨ t = 1 ∨ t = 2 ∨ t = 3 ∨ t = 4 ∨ t = 5 ∨ t = 6 ∨ t = 7 ∨ t = 8 ∨ t = 9 ∨ t = 10 ∨ t = 11 ∨ t = 12 by omega) with rfl | rfl | rfl | rfl | rfl | rfl | rfl | rfl | rfl | rfl | rfl | rfl | rfl <;> decide

set_option maxHeartbeats 4000000 in
set_option maxRecDepth 100000 in
theorem D_X2_isKind {g : z_G} {h : z_H} {a : Int} (ha : z_in a) : z_D g mX2_isKind 1 0 0 [z_i a] h (z_Pi (if 0 ≤ a ∧ a ≤ 12 then 1 else 0) h) := by
  refine z_D.of (by decide +kernel) (Nat.le_of_ble_eq_true rfl) (fun X F => ?_)
  show z_w g X cX2_isKind RX2 (1, 0, 0) 0 [z_i a] [] h 0 0
  refine z_iload_n dX2_isKind_0 rfl ?_
  refine z_if_lt dX2_isKind_1 (tgt := 14) rfl ⟨by omega, by omega⟩ (fun c1 => ?_) (fun c1 => ?_)
  · skip
    refine z_iconst dX2_isKind_14 ?_
    exact z_zret F dX2_isKind_15 rfl (by omega) (by decide) ⟨congrArg (fun z => some (z_i z)) (by split <;> omega), rfl⟩
  · skip
    refine z_iload_n dX2_isKind_4 rfl ?_
    refine z_bipush dX2_isKind_5 rfl ?_
    refine z_icmp_gt dX2_isKind_7 (tgt := 14) rfl ⟨by omega, by omega⟩ (by decide) (fun c2 => ?_) (fun c2 => ?_)
    · skip
      refine z_iconst dX2_isKind_14 ?_
      exact z_zret F dX2_isKind_15 rfl (by omega) (by decide) ⟨congrArg (fun z => some (z_i z)) (by split <;> omega), rfl⟩
    · skip
      refine z_iconst dX2_isKind_10 ?_
      refine z_goto dX2_isKind_11 (tgt := 15) rfl ?_
      exact z_zret F dX2_isKind_15 rfl (by omega) (by decide) ⟨congrArg (fun z => some (z_i z)) (by split <;> omega), rfl⟩
set_option maxHeartbeats 4000000 in
set_option maxRecDepth 100000 in
theorem D_X2_takenBy {g : z_G} {h : z_H} {a : Int} (ha : z_in a) : z_D g mX2_takenBy 1 0 0 [z_i a] h (z_Pi (kX 1 a) h) := by
  refine z_D.of (by decide +kernel) (Nat.le_of_ble_eq_true rfl) (fun X F => ?_)
  show z_w g X cX2_takenBy RX2 (1, 0, 0) 0 [z_i a] [] h 0 0
  refine z_iload_n dX2_takenBy_0 rfl ?_
  refine z_if_lt dX2_takenBy_1 (tgt := 20) rfl ⟨by omega, by omega⟩ (fun c1 => ?_) (fun c1 => ?_)
  · skip
    refine z_iconst dX2_takenBy_20 ?_
    exact z_iret F dX2_takenBy_21 rfl (by decide) ⟨congrArg (fun z => some (z_i z)) (by first | rw [kX_in ⟨by omega, by omega⟩] | rw [kX_out (by omega)]), rfl⟩
  · skip
    refine z_iload_n dX2_takenBy_4 rfl ?_
    refine gs_X2_11 dX2_takenBy_5 ?_
    refine z_slen (i := 1) (by decide) dX2_takenBy_8 ?_
    refine z_icmp_ge dX2_takenBy_9 (tgt := 20) rfl ⟨by omega, by omega⟩ (by decide) (fun c2 => ?_) (fun c2 => ?_)
    · skip
      refine z_iconst dX2_takenBy_20 ?_
      exact z_iret F dX2_takenBy_21 rfl (by decide) ⟨congrArg (fun z => some (z_i z)) (by first | rw [kX_in ⟨by omega, by omega⟩] | rw [kX_out (by omega)]), rfl⟩
    · skip
      refine gs_X2_11 dX2_takenBy_12 ?_
      refine z_iload_n dX2_takenBy_15 rfl ?_
      refine z_sald (i := 1) (by decide) dX2_takenBy_16 ⟨by omega, by omega⟩ ?_
      refine z_goto dX2_takenBy_17 (tgt := 21) rfl ?_
      exact z_iret F dX2_takenBy_21 rfl (by decide) ⟨congrArg (fun z => some (z_i z)) (by first | rw [kX_in ⟨by omega, by omega⟩] | rw [kX_out (by omega)]), rfl⟩
theorem D_X2_takenBy_ok {g : z_G} {h : z_H} {a : Int} (ha : kOk a) : z_D g mX2_takenBy 1 0 0 [z_i a] h (z_Pi (kT a) h) := by
  have h0 := D_X2_takenBy (g := g) (h := h) (a := a) ⟨by have := ha.1; omega, by have := ha.2; omega⟩
  rw [kX_T ha] at h0
  exact h0
set_option maxHeartbeats 4000000 in
set_option maxRecDepth 100000 in
theorem D_X2_madeBy {g : z_G} {h : z_H} {a : Int} (ha : z_in a) : z_D g mX2_madeBy 1 0 0 [z_i a] h (z_Pi (kX 2 a) h) := by
  refine z_D.of (by decide +kernel) (Nat.le_of_ble_eq_true rfl) (fun X F => ?_)
  show z_w g X cX2_madeBy RX2 (1, 0, 0) 0 [z_i a] [] h 0 0
  refine z_iload_n dX2_madeBy_0 rfl ?_
  refine z_if_lt dX2_madeBy_1 (tgt := 20) rfl ⟨by omega, by omega⟩ (fun c1 => ?_) (fun c1 => ?_)
  · skip
    refine z_iconst dX2_madeBy_20 ?_
    exact z_iret F dX2_madeBy_21 rfl (by decide) ⟨congrArg (fun z => some (z_i z)) (by first | rw [kX_in ⟨by omega, by omega⟩] | rw [kX_out (by omega)]), rfl⟩
  · skip
    refine z_iload_n dX2_madeBy_4 rfl ?_
    refine gs_X2_15 dX2_madeBy_5 ?_
    refine z_slen (i := 2) (by decide) dX2_madeBy_8 ?_
    refine z_icmp_ge dX2_madeBy_9 (tgt := 20) rfl ⟨by omega, by omega⟩ (by decide) (fun c2 => ?_) (fun c2 => ?_)
    · skip
      refine z_iconst dX2_madeBy_20 ?_
      exact z_iret F dX2_madeBy_21 rfl (by decide) ⟨congrArg (fun z => some (z_i z)) (by first | rw [kX_in ⟨by omega, by omega⟩] | rw [kX_out (by omega)]), rfl⟩
    · skip
      refine gs_X2_15 dX2_madeBy_12 ?_
      refine z_iload_n dX2_madeBy_15 rfl ?_
      refine z_sald (i := 2) (by decide) dX2_madeBy_16 ⟨by omega, by omega⟩ ?_
      refine z_goto dX2_madeBy_17 (tgt := 21) rfl ?_
      exact z_iret F dX2_madeBy_21 rfl (by decide) ⟨congrArg (fun z => some (z_i z)) (by first | rw [kX_in ⟨by omega, by omega⟩] | rw [kX_out (by omega)]), rfl⟩
theorem D_X2_madeBy_ok {g : z_G} {h : z_H} {a : Int} (ha : kOk a) : z_D g mX2_madeBy 1 0 0 [z_i a] h (z_Pi (kM a) h) := by
  have h0 := D_X2_madeBy (g := g) (h := h) (a := a) ⟨by have := ha.1; omega, by have := ha.2; omega⟩
  rw [kX_M ha] at h0
  exact h0
set_option maxHeartbeats 4000000 in
set_option maxRecDepth 100000 in
theorem D_X2_yarnOf {g : z_G} {h : z_H} {a : Int} (ha : z_in a) : z_D g mX2_yarnOf 1 0 0 [z_i a] h (z_Pi (kX 3 a) h) := by
  refine z_D.of (by decide +kernel) (Nat.le_of_ble_eq_true rfl) (fun X F => ?_)
  show z_w g X cX2_yarnOf RX2 (1, 0, 0) 0 [z_i a] [] h 0 0
  refine z_iload_n dX2_yarnOf_0 rfl ?_
  refine z_if_lt dX2_yarnOf_1 (tgt := 20) rfl ⟨by omega, by omega⟩ (fun c1 => ?_) (fun c1 => ?_)
  · skip
    refine z_iconst dX2_yarnOf_20 ?_
    exact z_iret F dX2_yarnOf_21 rfl (by decide) ⟨congrArg (fun z => some (z_i z)) (by first | rw [kX_in ⟨by omega, by omega⟩] | rw [kX_out (by omega)]), rfl⟩
  · skip
    refine z_iload_n dX2_yarnOf_4 rfl ?_
    refine gs_X2_18 dX2_yarnOf_5 ?_
    refine z_slen (i := 3) (by decide) dX2_yarnOf_8 ?_
    refine z_icmp_ge dX2_yarnOf_9 (tgt := 20) rfl ⟨by omega, by omega⟩ (by decide) (fun c2 => ?_) (fun c2 => ?_)
    · skip
      refine z_iconst dX2_yarnOf_20 ?_
      exact z_iret F dX2_yarnOf_21 rfl (by decide) ⟨congrArg (fun z => some (z_i z)) (by first | rw [kX_in ⟨by omega, by omega⟩] | rw [kX_out (by omega)]), rfl⟩
    · skip
      refine gs_X2_18 dX2_yarnOf_12 ?_
      refine z_iload_n dX2_yarnOf_15 rfl ?_
      refine z_sald (i := 3) (by decide) dX2_yarnOf_16 ⟨by omega, by omega⟩ ?_
      refine z_goto dX2_yarnOf_17 (tgt := 21) rfl ?_
      exact z_iret F dX2_yarnOf_21 rfl (by decide) ⟨congrArg (fun z => some (z_i z)) (by first | rw [kX_in ⟨by omega, by omega⟩] | rw [kX_out (by omega)]), rfl⟩
theorem D_X2_yarnOf_ok {g : z_G} {h : z_H} {a : Int} (ha : kOk a) : z_D g mX2_yarnOf 1 0 0 [z_i a] h (z_Pi (kY a) h) := by
  have h0 := D_X2_yarnOf (g := g) (h := h) (a := a) ⟨by have := ha.1; omega, by have := ha.2; omega⟩
  rw [kX_Y ha] at h0
  exact h0
set_option maxHeartbeats 4000000 in
set_option maxRecDepth 100000 in
theorem D_X2_mirroredTo {g : z_G} {h : z_H} {a : Int} (ha : z_in a) : z_D g mX2_mirroredTo 1 0 0 [z_i a] h (z_Pi (kMi a) h) := by
  refine z_D.of (by decide +kernel) (Nat.le_of_ble_eq_true rfl) (fun X F => ?_)
  show z_w g X cX2_mirroredTo RX2 (1, 0, 0) 0 [z_i a] [] h 0 0
  refine z_iload_n dX2_mirroredTo_0 rfl ?_
  by_cases c1_9 : a = 9
  · refine z_lookup dX2_mirroredTo_1 ⟨by omega, by omega⟩ (tgt := 28) (off := 27) (by decide) (by rw [c1_9]; rfl) rfl ?_
    refine z_bipush dX2_mirroredTo_28 rfl ?_
    exact z_iret F dX2_mirroredTo_30 rfl (by decide) ⟨congrArg (fun z => some (z_i z)) (by unfold kMi; split <;> omega), rfl⟩
  by_cases c1_10 : a = 10
  · refine z_lookup dX2_mirroredTo_1 ⟨by omega, by omega⟩ (tgt := 31) (off := 30) (by decide) (by rw [c1_10]; rfl) rfl ?_
    refine z_bipush dX2_mirroredTo_31 rfl ?_
    exact z_iret F dX2_mirroredTo_33 rfl (by decide) ⟨congrArg (fun z => some (z_i z)) (by unfold kMi; split <;> omega), rfl⟩
  refine z_lookup dX2_mirroredTo_1 ⟨by omega, by omega⟩ (tgt := 34) (off := 33) (by decide) (by simp [Op.lookupswitch.offset, Ne.symm c1_9, Ne.symm c1_10]) rfl ?_
  refine z_iload_n dX2_mirroredTo_34 rfl ?_
  exact z_iret F dX2_mirroredTo_35 rfl (by decide) ⟨congrArg (fun z => some (z_i z)) (by unfold kMi; split <;> omega), rfl⟩
set_option maxHeartbeats 4000000 in
set_option maxRecDepth 100000 in
theorem D_X2_turnedTo {g : z_G} {h : z_H} {a : Int} (ha : z_in a) : z_D g mX2_turnedTo 2 0 0 [z_i a] h (z_Pi (kTu a) h) := by
  refine z_D.of (by decide +kernel) (Nat.le_of_ble_eq_true rfl) (fun X F => ?_)
  show z_w g X cX2_turnedTo RX2 (2, 0, 0) 0 [z_i a] [] h 0 0
  refine z_iload_n dX2_turnedTo_0 rfl ?_
  by_cases c1_4 : a = 4
  · refine z_lookup dX2_turnedTo_1 ⟨by omega, by omega⟩ (tgt := 28) (off := 27) (by decide) (by rw [c1_4]; rfl) rfl ?_
    refine z_iconst dX2_turnedTo_28 ?_
    exact z_iret F dX2_turnedTo_29 rfl (by decide) ⟨congrArg (fun z => some (z_i z)) (by unfold kTu; split <;> (try split) <;> omega), rfl⟩
  by_cases c1_5 : a = 5
  · refine z_lookup dX2_turnedTo_1 ⟨by omega, by omega⟩ (tgt := 30) (off := 29) (by decide) (by rw [c1_5]; rfl) rfl ?_
    refine z_iconst dX2_turnedTo_30 ?_
    exact z_iret F dX2_turnedTo_31 rfl (by decide) ⟨congrArg (fun z => some (z_i z)) (by unfold kTu; split <;> (try split) <;> omega), rfl⟩
  refine z_lookup dX2_turnedTo_1 ⟨by omega, by omega⟩ (tgt := 32) (off := 31) (by decide) (by simp [Op.lookupswitch.offset, Ne.symm c1_4, Ne.symm c1_5]) rfl ?_
  refine z_iload_n dX2_turnedTo_32 rfl ?_
  refine cs_X2_28 dX2_turnedTo_33 (D_X2_mirroredTo (a := a) ⟨by omega, by omega⟩) rfl rfl (Nat.le_of_ble_eq_true rfl) (by decide) (z_ki ?_)
  exact z_iret F dX2_turnedTo_36 rfl (by decide) ⟨congrArg (fun z => some (z_i z)) (by unfold kTu; split <;> (try split) <;> omega), rfl⟩
set_option maxHeartbeats 4000000 in
set_option maxRecDepth 100000 in
theorem D_X2_isUnder {g : z_G} {h : z_H} {a t : Int} (ha : z_in a) (ht : z_in t) : z_D g mX2_isUnder 2 0 0 [z_i a, z_i t] h (z_Pi (upF 4 a t) h) := by
  refine z_D.of (by decide +kernel) (Nat.le_of_ble_eq_true rfl) (fun X F => ?_)
  have L4 : ∀ (fu : Nat) (m : Nat) (a0 lev : Int) (h1 : lev + m = 4) (h2 : 0 ≤ lev) (h3 : z_in a0) (h4 : upF 4 a t = upF m a0 t), m < fu → z_w g X cX2_isUnder RX2 (2, 0, 0) 4 [z_i a, z_i t, z_i a0, z_i lev] [] h 0 0 := by
    intro fu
    induction fu with
    | zero => intro m a0 lev h1 h2 h3 h4 hm; exact absurd hm (Nat.not_lt_zero _)
    | succ fu ih =>
      intro m a0 lev h1 h2 h3 h4 hm
      refine z_iload_n dX2_isUnder_4 rfl ?_
      refine z_iconst dX2_isUnder_5 ?_
      refine z_icmp_ge dX2_isUnder_6 (tgt := 47) rfl ⟨by omega, by omega⟩ (by decide) (fun c1 => ?_) (fun c1 => ?_)
      · skip
        obtain rfl : m = 0 := by omega
        have e0 : upF 0 a0 t = 0 := rfl
        refine z_iconst dX2_isUnder_47 ?_
        exact z_zret F dX2_isUnder_48 rfl (by omega) (by decide) ⟨congrArg (fun z => some (z_i z)) (by exact h4.symm), rfl⟩
      · skip
        obtain ⟨m', rfl⟩ : ∃ m', m = m' + 1 := ⟨m - 1, by omega⟩
        unfold upF at h4
        refine z_iload_n dX2_isUnder_9 rfl ?_
        refine cs_X2_21 dX2_isUnder_10 (D_X2_isKind (a := a0) ⟨by omega, by omega⟩) rfl rfl (Nat.le_of_ble_eq_true rfl) (by decide) (z_ki ?_)
        refine z_if_eq dX2_isUnder_13 (tgt := 47) rfl ⟨by omega, by omega⟩ (fun c2 => ?_) (fun c2 => ?_)
        · skip
          rw [if_neg (show ¬ (0 ≤ a0 ∧ a0 ≤ 12) by omega)] at h4
          
          refine z_iconst dX2_isUnder_47 ?_
          exact z_zret F dX2_isUnder_48 rfl (by omega) (by decide) ⟨congrArg (fun z => some (z_i z)) (by exact h4.symm), rfl⟩
        · skip
          rw [if_pos (show 0 ≤ a0 ∧ a0 ≤ 12 by omega)] at h4
          refine z_iload_n dX2_isUnder_16 rfl ?_
          refine z_iload_n dX2_isUnder_17 rfl ?_
          refine z_icmp_ne dX2_isUnder_18 (tgt := 23) rfl ⟨by omega, by omega⟩ ⟨by omega, by omega⟩ (fun c3 => ?_) (fun c3 => ?_)
          · skip
            rw [if_neg (show ¬ a0 = t by omega)] at h4
            refine z_iload_n dX2_isUnder_23 rfl ?_
            refine gs_X2_25 dX2_isUnder_24 ?_
            refine z_slen (i := 0) (by decide) dX2_isUnder_27 ?_
            refine z_icmp_ge dX2_isUnder_28 (tgt := 39) rfl ⟨by omega, by omega⟩ (by decide) (fun c4 => ?_) (fun c4 => ?_)
            · skip
              exfalso
              omega
            · skip
              refine gs_X2_25 dX2_isUnder_31 ?_
              refine z_iload_n dX2_isUnder_34 rfl ?_
              refine z_sald (i := 0) (by decide) dX2_isUnder_35 ⟨by omega, by omega⟩ ?_
              refine z_goto dX2_isUnder_36 (tgt := 40) rfl ?_
              refine z_istore_n dX2_isUnder_40 (Nat.le_of_ble_eq_true rfl) rfl ?_
              refine z_iinc dX2_isUnder_41 rfl rfl ?_
              refine z_goto dX2_isUnder_44 (tgt := 4) rfl ?_
              exact ih m' _ _ (by omega) (by omega) (z_tvin 0 _) h4 (by omega)
          · skip
            rw [if_pos (show a0 = t by omega)] at h4
            refine z_iconst dX2_isUnder_21 ?_
            exact z_zret F dX2_isUnder_22 rfl (by omega) (by decide) ⟨congrArg (fun z => some (z_i z)) (by exact h4.symm), rfl⟩
  show z_w g X cX2_isUnder RX2 (2, 0, 0) 0 [z_i a, z_i t, z_u, z_u] [] h 0 0
  refine z_iload_n dX2_isUnder_0 rfl ?_
  refine z_istore_n dX2_isUnder_1 (Nat.le_of_ble_eq_true rfl) rfl ?_
  refine z_iconst dX2_isUnder_2 ?_
  refine z_istore_n dX2_isUnder_3 (Nat.le_of_ble_eq_true rfl) rfl ?_
  exact L4 5 4 a 0 (by omega) (by omega) ha rfl (by omega)
theorem D_X2_isUnder_ok {g : z_G} {h : z_H} {a t : Int} (ha : kOk a) (ht : 0 ≤ t ∧ t ≤ 12) : z_D g mX2_isUnder 2 0 0 [z_i a, z_i t] h (z_Pi (kUn a t) h) := by
  have h0 := D_X2_isUnder (g := g) (h := h) (a := a) (t := t) ⟨by have := ha.1; omega, by have := ha.2; omega⟩ ⟨by omega, by omega⟩
  rw [upF_kUn ha ht] at h0
  exact h0
