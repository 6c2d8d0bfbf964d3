/-! State -/
def dnR (T : Nat → Nat) : Nat → Option Nat := fun i => if i < 50 then some (T (3 + 3 * i)) else none
/-- a State: T tells the addresses: 0 itself, 1 and 2 its rows, 3 + 3 i .. a worked row, its stitches, their kinds -/
def sH (h : z_H) (T : Nat → Nat) (Lf : Nat → Option Nat) (lc dc nd si mo se : Int) (sd ln zz : Nat → Int) (ff : Nat → z_row) : Prop :=
  h (T 0) = some (c_O 5 [z_r (T 1), z_r (T 2), z_i lc, z_i dc, z_i nd, z_i si, z_i mo, z_i se]) ∧ h (T 1) = some (c_A 1 20 Lf) ∧ h (T 2) = some (c_A 0 50 (dnR T)) ∧ (∀ i, i < 50 → oDo h (T (3 + 3 * i)) (T (4 + 3 * i)) (T (5 + 3 * i)) (sd i) (ln i) (zz i) (ff i)) ∧ (0 ≤ lc ∧ lc ≤ 20) ∧ (0 ≤ dc ∧ dc ≤ 50) ∧ (0 ≤ nd ∧ nd ≤ 60) ∧ (si = 0 ∨ si = 1) ∧ (mo = 0 ∨ mo = 1)
def tI (T : Nat → Nat) : Prop := ∀ i j, i < 153 → j < 153 → T i = T j → i = j
theorem tI.ne {T : Nat → Nat} (h : tI T) {i j : Nat} (hi : i < 153) (hj : j < 153) (hij : i ≠ j) : T i ≠ T j := fun e => hij (h i j hi hj e)
theorem dnR_in {T : Nat → Nat} {i : Nat} (h : i < 50) : dnR T i = some (T (3 + 3 * i)) := if_pos h
set_option maxHeartbeats 4000000 in
set_option maxRecDepth 100000 in
theorem D_X6_lineAt {g : z_G}{h : z_H}  {T : Nat → Nat} {Lf : Nat → Option Nat} {lc dc nd si mo se : Int} {sd ln zz : Nat → Int} {ff : Nat → z_row} (hs : sH h T Lf lc dc nd si mo se sd ln zz ff) {i : Int} (hi : z_in i) : z_D g mX6_lineAt 1 0 0 [z_r (T 0), z_i i] h (z_Pq (if 0 ≤ i ∧ i < lc then Lf i.toNat else none) h) := by
  refine z_D.of (by decide +kernel) (Nat.le_of_ble_eq_true rfl) (fun X F => ?_)
  show z_w g X cX6_lineAt RX6 (1, 0, 0) 0 [z_r (T 0), z_i i] [] h 0 0
  obtain ⟨e0, e1, e2, e3, b1, b2, b3, b4, b5⟩ := id hs
  refine z_iload_n dX6_lineAt_0 rfl ?_
  refine z_if_lt dX6_lineAt_1 (tgt := 30) rfl ⟨by omega, by omega⟩ (fun c1 => ?_) (fun c1 => ?_)
  · skip
    refine z_null dX6_lineAt_30 ?_
    exact z_aret F dX6_lineAt_31 rfl (Or.inl ⟨_, rfl⟩) (by decide) ⟨congrArg (fun z => some (z_q z)) ((if_neg (by omega)).symm), rfl⟩
  · skip
    refine z_iload_n dX6_lineAt_4 rfl ?_
    refine z_aload_n dX6_lineAt_5 rfl ?_
    refine gf_X6_45 dX6_lineAt_6 e0 rfl ?_
    refine z_icmp_ge dX6_lineAt_9 (tgt := 30) rfl ⟨by omega, by omega⟩ ⟨by omega, by omega⟩ (fun c2 => ?_) (fun c2 => ?_)
    · skip
      refine z_null dX6_lineAt_30 ?_
      exact z_aret F dX6_lineAt_31 rfl (Or.inl ⟨_, rfl⟩) (by decide) ⟨congrArg (fun z => some (z_q z)) ((if_neg (by omega)).symm), rfl⟩
    · skip
      refine z_iload_n dX6_lineAt_12 rfl ?_
      refine z_aload_n dX6_lineAt_13 rfl ?_
      refine gf_X6_11 dX6_lineAt_14 e0 rfl ?_
      refine z_alenA dX6_lineAt_17 (by decide) e1 ?_
      refine z_icmp_ge dX6_lineAt_18 (tgt := 30) rfl ⟨by omega, by omega⟩ ⟨by omega, by omega⟩ (fun c3 => ?_) (fun c3 => ?_)
      · skip
        exfalso
        omega
      · skip
        refine z_aload_n dX6_lineAt_21 rfl ?_
        refine gf_X6_11 dX6_lineAt_22 e0 rfl ?_
        refine z_iload_n dX6_lineAt_25 rfl ?_
        refine z_aald dX6_lineAt_26 (by decide) e1 ⟨by omega, by omega, by omega⟩ ?_
        refine z_goto dX6_lineAt_27 (tgt := 31) rfl ?_
        exact z_aret F dX6_lineAt_31 rfl (Or.inl ⟨_, rfl⟩) (by decide) ⟨congrArg (fun z => some (z_q z)) ((if_pos ⟨by omega, by omega⟩).symm), rfl⟩
set_option maxHeartbeats 4000000 in
set_option maxRecDepth 100000 in
theorem D_X6_doneAt {g : z_G}{h : z_H}  {T : Nat → Nat} {Lf : Nat → Option Nat} {lc dc nd si mo se : Int} {sd ln zz : Nat → Int} {ff : Nat → z_row} (hs : sH h T Lf lc dc nd si mo se sd ln zz ff) {i : Int} (hi : z_in i) : z_D g mX6_doneAt 1 0 0 [z_r (T 0), z_i i] h (z_Pq (if 0 ≤ i ∧ i < dc then some (T (3 + 3 * i.toNat)) else none) h) := by
  refine z_D.of (by decide +kernel) (Nat.le_of_ble_eq_true rfl) (fun X F => ?_)
  show z_w g X cX6_doneAt RX6 (1, 0, 0) 0 [z_r (T 0), z_i i] [] h 0 0
  obtain ⟨e0, e1, e2, e3, b1, b2, b3, b4, b5⟩ := id hs
  refine z_iload_n dX6_doneAt_0 rfl ?_
  refine z_if_lt dX6_doneAt_1 (tgt := 30) rfl ⟨by omega, by omega⟩ (fun c1 => ?_) (fun c1 => ?_)
  · skip
    refine z_null dX6_doneAt_30 ?_
    exact z_aret F dX6_doneAt_31 rfl (Or.inl ⟨_, rfl⟩) (by decide) ⟨congrArg (fun z => some (z_q z)) ((if_neg (by omega)).symm), rfl⟩
  · skip
    refine z_iload_n dX6_doneAt_4 rfl ?_
    refine z_aload_n dX6_doneAt_5 rfl ?_
    refine gf_X6_34 dX6_doneAt_6 e0 rfl ?_
    refine z_icmp_ge dX6_doneAt_9 (tgt := 30) rfl ⟨by omega, by omega⟩ ⟨by omega, by omega⟩ (fun c2 => ?_) (fun c2 => ?_)
    · skip
      refine z_null dX6_doneAt_30 ?_
      exact z_aret F dX6_doneAt_31 rfl (Or.inl ⟨_, rfl⟩) (by decide) ⟨congrArg (fun z => some (z_q z)) ((if_neg (by omega)).symm), rfl⟩
    · skip
      refine z_iload_n dX6_doneAt_12 rfl ?_
      refine z_aload_n dX6_doneAt_13 rfl ?_
      refine gf_X6_19 dX6_doneAt_14 e0 rfl ?_
      refine z_alenA dX6_doneAt_17 (by decide) e2 ?_
      refine z_icmp_ge dX6_doneAt_18 (tgt := 30) rfl ⟨by omega, by omega⟩ ⟨by omega, by omega⟩ (fun c3 => ?_) (fun c3 => ?_)
      · skip
        exfalso
        omega
      · skip
        refine z_aload_n dX6_doneAt_21 rfl ?_
        refine gf_X6_19 dX6_doneAt_22 e0 rfl ?_
        refine z_iload_n dX6_doneAt_25 rfl ?_
        refine z_aald dX6_doneAt_26 (by decide) e2 ⟨by omega, by omega, by omega⟩ ?_
        refine z_goto dX6_doneAt_27 (tgt := 31) rfl ?_
        exact z_aret F dX6_doneAt_31 rfl (Or.inl ⟨_, rfl⟩) (by decide) ⟨congrArg (fun z => some (z_q z)) ((dnR_in (by omega)).trans (if_pos ⟨by omega, by omega⟩).symm), rfl⟩
set_option maxHeartbeats 4000000 in
set_option maxRecDepth 100000 in
theorem D_X6_isSpan {g : z_G}{h : z_H}  {T : Nat → Nat} {Lf : Nat → Option Nat} {lc dc nd si mo se : Int} {sd ln zz : Nat → Int} {ff : Nat → z_row} (hs : sH h T Lf lc dc nd si mo se sd ln zz ff) {fr to9 : Int} (hf : z_in fr) (ht : z_in to9) : z_D g mX6_isSpan 1 0 0 [z_r (T 0), z_i fr, z_i to9] h (z_Pi (if 0 ≤ fr ∧ fr ≤ to9 ∧ to9 < lc then 1 else 0) h) := by
  refine z_D.of (by decide +kernel) (Nat.le_of_ble_eq_true rfl) (fun X F => ?_)
  show z_w g X cX6_isSpan RX6 (1, 0, 0) 0 [z_r (T 0), z_i fr, z_i to9] [] h 0 0
  obtain ⟨e0, e1, e2, e3, b1, b2, b3, b4, b5⟩ := id hs
  refine z_iload_n dX6_isSpan_0 rfl ?_
  refine z_if_lt dX6_isSpan_1 (tgt := 21) rfl ⟨by omega, by omega⟩ (fun c1 => ?_) (fun c1 => ?_)
  · skip
    refine z_iconst dX6_isSpan_21 ?_
    exact z_zret F dX6_isSpan_22 rfl (by omega) (by decide) ⟨congrArg (fun z => some (z_i z)) (by first | exact (if_pos (by omega)).symm | exact (if_neg (by omega)).symm), rfl⟩
  · skip
    refine z_iload_n dX6_isSpan_4 rfl ?_
    refine z_iload_n dX6_isSpan_5 rfl ?_
    refine z_icmp_gt dX6_isSpan_6 (tgt := 21) rfl ⟨by omega, by omega⟩ ⟨by omega, by omega⟩ (fun c2 => ?_) (fun c2 => ?_)
    · skip
      refine z_iconst dX6_isSpan_21 ?_
      exact z_zret F dX6_isSpan_22 rfl (by omega) (by decide) ⟨congrArg (fun z => some (z_i z)) (by first | exact (if_pos (by omega)).symm | exact (if_neg (by omega)).symm), rfl⟩
    · skip
      refine z_iload_n dX6_isSpan_9 rfl ?_
      refine z_aload_n dX6_isSpan_10 rfl ?_
      refine gf_X6_45 dX6_isSpan_11 e0 rfl ?_
      refine z_icmp_ge dX6_isSpan_14 (tgt := 21) rfl ⟨by omega, by omega⟩ ⟨by omega, by omega⟩ (fun c3 => ?_) (fun c3 => ?_)
      · skip
        refine z_iconst dX6_isSpan_21 ?_
        exact z_zret F dX6_isSpan_22 rfl (by omega) (by decide) ⟨congrArg (fun z => some (z_i z)) (by first | exact (if_pos (by omega)).symm | exact (if_neg (by omega)).symm), rfl⟩
      · skip
        refine z_iconst dX6_isSpan_17 ?_
        refine z_goto dX6_isSpan_18 (tgt := 22) rfl ?_
        exact z_zret F dX6_isSpan_22 rfl (by omega) (by decide) ⟨congrArg (fun z => some (z_i z)) (by first | exact (if_pos (by omega)).symm | exact (if_neg (by omega)).symm), rfl⟩
set_option maxHeartbeats 4000000 in
set_option maxRecDepth 100000 in
theorem D_X6_drawBelow {g : z_G}{h : z_H}  {T : Nat → Nat} {Lf : Nat → Option Nat} {lc dc nd si mo se : Int} {sd ln zz : Nat → Int} {ff : Nat → z_row} (hs : sH h T Lf lc dc nd si mo se sd ln zz ff) {m : Int} (hm : 1 ≤ m ∧ m ≤ 20) : z_D g mX6_drawBelow 1 0 0 [z_r (T 0), z_i m] h (z_Pi ((se * 1103515245 + 12345) % 4294967296 / 65536 % m) (z_up h (T 0) (c_O 5 [z_r (T 1), z_r (T 2), z_i lc, z_i dc, z_i nd, z_i si, z_i mo, z_i (se * 1103515245 + 12345)]))) := by
  refine z_D.of (by decide +kernel) (Nat.le_of_ble_eq_true rfl) (fun X F => ?_)
  show z_w g X cX6_drawBelow RX6 (1, 0, 0) 0 [z_r (T 0), z_i m] [] h 0 0
  obtain ⟨e0, e1, e2, e3, b1, b2, b3, b4, b5⟩ := id hs
  refine z_aload_n dX6_drawBelow_0 rfl ?_
  refine z_aload_n dX6_drawBelow_1 rfl ?_
  refine gf_X6_30 dX6_drawBelow_2 e0 rfl ?_
  refine z_ldc dX6_drawBelow_5 lw_X6_91 ?_
  refine z_imul dX6_drawBelow_7 ?_
  refine z_sipush dX6_drawBelow_8 rfl ?_
  refine z_iadd dX6_drawBelow_11 ?_
  refine pf_X6_30 dX6_drawBelow_12 e0 (Nat.le_of_ble_eq_true rfl) ?_
  refine z_iload_n dX6_drawBelow_15 rfl ?_
  refine z_iconst dX6_drawBelow_16 ?_
  refine z_icmp_ge dX6_drawBelow_17 (tgt := 24) rfl ⟨by omega, by omega⟩ (by decide) (fun c1 => ?_) (fun c1 => ?_)
  · skip
    refine z_aload_n dX6_drawBelow_24 rfl ?_
    refine gf_X6_30 dX6_drawBelow_25 z_up_s rfl ?_
    refine z_bipush dX6_drawBelow_28 rfl ?_
    refine z_iushr16 dX6_drawBelow_30 ?_
    refine z_iload_n dX6_drawBelow_31 rfl ?_
    refine z_irem dX6_drawBelow_32 ⟨by omega, by omega⟩ ⟨by omega, by omega⟩ ?_
    exact z_iret F dX6_drawBelow_33 rfl (by decide) ⟨rfl, rfl⟩
  · skip
    exfalso
    omega
set_option maxHeartbeats 4000000 in
set_option maxRecDepth 100000 in
theorem D_X6_dropLine {g : z_G}{h : z_H}  {T : Nat → Nat} {Lf : Nat → Option Nat} {lc dc nd si mo se : Int} {sd ln zz : Nat → Int} {ff : Nat → z_row} (hs : sH h T Lf lc dc nd si mo se sd ln zz ff) : z_D g mX6_dropLine 1 0 0 [z_r (T 0)] h (fun rv h' => (lc = 0 → rv = some (z_i 0) ∧ h' = h) ∧ (lc ≠ 0 → rv = some (z_i 1) ∧ h' = z_up h (T 0) (c_O 5 [z_r (T 1), z_r (T 2), z_i (lc - 1), z_i dc, z_i nd, z_i si, z_i mo, z_i se]))) := by
  refine z_D.of (by decide +kernel) (Nat.le_of_ble_eq_true rfl) (fun X F => ?_)
  show z_w g X cX6_dropLine RX6 (1, 0, 0) 0 [z_r (T 0)] [] h 0 0
  obtain ⟨e0, e1, e2, e3, b1, b2, b3, b4, b5⟩ := id hs
  refine z_aload_n dX6_dropLine_0 rfl ?_
  refine gf_X6_45 dX6_dropLine_1 e0 rfl ?_
  refine z_iconst dX6_dropLine_4 ?_
  refine z_icmp_ge dX6_dropLine_5 (tgt := 10) rfl ⟨by omega, by omega⟩ (by decide) (fun c1 => ?_) (fun c1 => ?_)
  · skip
    refine z_aload_n dX6_dropLine_10 rfl ?_
    refine z_dup dX6_dropLine_11 rfl ?_
    refine gf_X6_45 dX6_dropLine_12 e0 rfl ?_
    refine z_iconst dX6_dropLine_15 ?_
    refine z_isub dX6_dropLine_16 ?_
    refine pf_X6_45 dX6_dropLine_17 e0 (Nat.le_of_ble_eq_true rfl) ?_
    refine z_iconst dX6_dropLine_20 ?_
    exact z_zret F dX6_dropLine_21 rfl (by omega) (by decide) ⟨fun q => absurd q (by omega), fun q => ⟨rfl, rfl⟩⟩
  · skip
    refine z_iconst dX6_dropLine_8 ?_
    exact z_zret F dX6_dropLine_9 rfl (by omega) (by decide) ⟨fun q => ⟨rfl, rfl⟩, fun q => absurd (by omega) q⟩
set_option maxHeartbeats 4000000 in
set_option maxRecDepth 100000 in
theorem D_X6_addLine {g : z_G} {h : z_H} {T : Nat → Nat} {Lf : Nat → Option Nat} {lc dc nd si mo se : Int} {sd ln zz : Nat → Int} {ff : Nat → z_row} (hs : sH h T Lf lc dc nd si mo se sd ln zz ff) (hT : tI T) {a : Nat} {fs : List z_V} (ha : h a = some (c_O 2 fs)) (haT : a ≠ T 1) : z_D g mX6_addLine 1 0 0 [z_r (T 0), z_r a] h (fun rv h' => (lc = 20 → rv = some (z_i 0) ∧ h' = h) ∧ (lc ≠ 20 → rv = some (z_i 1) ∧ h' = z_up (z_up h (T 1) (c_A 1 20 (z_sq Lf lc.toNat (some a)))) (T 0) (c_O 5 [z_r (T 1), z_r (T 2), z_i (lc + 1), z_i dc, z_i nd, z_i si, z_i mo, z_i se]))) := by
  refine z_D.of (by decide +kernel) (Nat.le_of_ble_eq_true rfl) (fun X F => ?_)
  obtain ⟨e0, e1, e2, e3, b1, b2, b3, b4, b5⟩ := id hs
  show z_w g X cX6_addLine RX6 (1, 0, 0) 0 [z_r (T 0), z_r a] [] h 0 0
  refine z_aload_n dX6_addLine_0 rfl ?_
  refine gf_X6_45 dX6_addLine_1 e0 rfl ?_
  refine z_if_lt dX6_addLine_4 (tgt := 19) rfl ⟨by omega, by omega⟩ (fun c1 => ?_) (fun c1 => ?_)
  · skip
    exfalso
    omega
  · skip
    refine z_aload_n dX6_addLine_7 rfl ?_
    refine gf_X6_45 dX6_addLine_8 e0 rfl ?_
    refine z_aload_n dX6_addLine_11 rfl ?_
    refine gf_X6_11 dX6_addLine_12 e0 rfl ?_
    refine z_alenA dX6_addLine_15 (by decide) e1 ?_
    refine z_icmp_lt dX6_addLine_16 (tgt := 21) rfl ⟨by omega, by omega⟩ ⟨by omega, by omega⟩ (fun c2 => ?_) (fun c2 => ?_)
    · skip
      refine z_aload_n dX6_addLine_21 rfl ?_
      refine gf_X6_11 dX6_addLine_22 e0 rfl ?_
      refine z_aload_n dX6_addLine_25 rfl ?_
      refine gf_X6_45 dX6_addLine_26 e0 rfl ?_
      refine z_aload_n dX6_addLine_29 rfl ?_
      refine z_aastQ (m := lc.toNat) dX6_addLine_30 e1 (by omega) ⟨by omega, by omega⟩ ha rfl rfl ?_
      refine z_aload_n dX6_addLine_31 rfl ?_
      refine z_dup dX6_addLine_32 rfl ?_
      refine gf_X6_45 dX6_addLine_33 ((z_up_n (hT.ne (i := 0) (j := 1) (by decide) (by decide) (by decide))).trans e0) rfl ?_
      refine z_iconst dX6_addLine_36 ?_
      refine z_iadd dX6_addLine_37 ?_
      refine pf_X6_45 dX6_addLine_38 ((z_up_n (hT.ne (i := 0) (j := 1) (by decide) (by decide) (by decide))).trans e0) (Nat.le_of_ble_eq_true rfl) ?_
      refine z_iconst dX6_addLine_41 ?_
      exact z_zret F dX6_addLine_42 rfl (by omega) (by decide) ⟨fun q => absurd q (by omega), fun q => ⟨rfl, rfl⟩⟩
    · skip
      refine z_iconst dX6_addLine_19 ?_
      exact z_zret F dX6_addLine_20 rfl (by omega) (by decide) ⟨fun q => ⟨rfl, rfl⟩, fun q => absurd (by omega) q⟩
set_option maxHeartbeats 4000000 in
set_option maxRecDepth 100000 in
theorem D_X6_ripBack {g : z_G} {h : z_H} {T : Nat → Nat} {Lf : Nat → Option Nat} {lc dc nd si mo se : Int} {sd ln zz : Nat → Int} {ff : Nat → z_row} (hs : sH h T Lf lc dc nd si mo se sd ln zz ff) (hT : tI T) {n9 : Int} (hn : 1 ≤ n9 ∧ n9 ≤ 2147483647) (hk : ∀ m : Nat, (m : Int) < dc → fOk (zz m) (ff m)) : z_D g mX6_ripBack 4 0 0 [z_r (T 0), z_i n9] h (fun rv h' => rv = none ∧ (dc = 0 → h' = h) ∧ (dc ≠ 0 → ∃ m : Nat, (m : Int) = (if 0 < dc - n9 then dc - n9 else 0) ∧ h' = z_up h (T 0) (c_O 5 [z_r (T 1), z_r (T 2), z_i lc, z_i (m : Int), z_i (sG kT (ff m) (zz m).toNat), z_i (sd m), z_i mo, z_i se]))) := by
  refine z_D.of (by decide +kernel) (Nat.le_of_ble_eq_true rfl) (fun X F => ?_)
  obtain ⟨e0, e1, e2, e3, b1, b2, b3, b4, b5⟩ := id hs
  have c1z : z_in (dc - n9) := ⟨by omega, by omega⟩
  show z_w g X cX6_ripBack RX6 (4, 0, 0) 0 [z_r (T 0), z_i n9, z_u] [] h 0 0
  refine z_aload_n dX6_ripBack_0 rfl ?_
  refine z_iconst dX6_ripBack_1 ?_
  refine z_aload_n dX6_ripBack_2 rfl ?_
  refine gf_X6_34 dX6_ripBack_3 e0 rfl ?_
  refine z_iload_n dX6_ripBack_6 rfl ?_
  refine z_isub dX6_ripBack_7 ?_
  refine mm_X6_70 dX6_ripBack_8 (by decide) c1z (by decide) (Nat.le_of_ble_eq_true rfl) ?_
  by_cases cd : dc = 0
  · skip
    refine cs_X6_37 dX6_ripBack_11 (D_X6_doneAt hs (i := if 0 < dc - n9 then dc - n9 else 0) ⟨by split <;> omega, by split <;> omega⟩) e0 rfl rfl (Nat.le_of_ble_eq_true rfl) (by decide) (fun rv h' hq => ?_)
    obtain ⟨rfl, rfl⟩ := hq
    rw [if_neg (by split <;> omega)]
    refine z_ks ?_
    refine z_astore_n dX6_ripBack_14 (Nat.le_of_ble_eq_true rfl) rfl ?_
    refine z_aload_n dX6_ripBack_15 rfl ?_
    refine z_ifnull dX6_ripBack_16 (tgt := 24) rfl (fun _ => ?_) (fun _ c1 => by cases c1)
    exact z_vret F dX6_ripBack_24 rfl (by decide) ⟨rfl, fun _ => rfl, fun q => absurd cd q⟩
  · skip
    obtain ⟨m, hm⟩ : ∃ m : Nat, (m : Int) = (if 0 < dc - n9 then dc - n9 else 0) := ⟨(if 0 < dc - n9 then dc - n9 else 0).toNat, by split <;> omega⟩
    have hm2 : (m : Int) < dc := by rw [hm]; split <;> omega
    obtain ⟨d0, d1, d2, d3⟩ := e3 m (by omega)
    refine cs_X6_37 dX6_ripBack_11 (D_X6_doneAt hs (i := if 0 < dc - n9 then dc - n9 else 0) ⟨by split <;> omega, by split <;> omega⟩) e0 rfl rfl (Nat.le_of_ble_eq_true rfl) (by decide) (fun rv h' hq => ?_)
    obtain ⟨rfl, rfl⟩ := hq
    rw [if_pos (by rw [← hm]; omega), ← hm, Int.toNat_natCast]
    refine z_ks ?_
    refine z_astore_n dX6_ripBack_14 (Nat.le_of_ble_eq_true rfl) rfl ?_
    refine z_aload_n dX6_ripBack_15 rfl ?_
    refine z_ifnull dX6_ripBack_16 (tgt := 24) rfl (fun c2 => by cases c2) (fun _ _ => ?_)
    refine z_iload_n dX6_ripBack_19 rfl ?_
    refine z_iconst dX6_ripBack_20 ?_
    refine z_icmp_ge dX6_ripBack_21 (tgt := 25) rfl ⟨by omega, by omega⟩ (by decide) (fun c3 => ?_) (fun c3 => ?_)
    · skip
      refine z_aload_n dX6_ripBack_25 rfl ?_
      refine z_aload_n dX6_ripBack_26 rfl ?_
      refine gf_X6_51 dX6_ripBack_27 d0 rfl ?_
      refine z_aload_n dX6_ripBack_30 rfl ?_
      refine gf_X6_51 dX6_ripBack_31 d0 rfl ?_
      refine gf_X6_76 dX6_ripBack_34 d1 rfl ?_
      refine cs_X6_79 dX6_ripBack_37 (D_X7_takenAhead (i := zz m) ⟨d1, d2, d3⟩ (hk m hm2) ⟨by omega, by omega⟩) d1 rfl rfl (Nat.le_of_ble_eq_true rfl) (by decide) (z_ki ?_)
      refine z_ieq (y := sG kT (ff m) (zz m).toNat) (by rw [if_neg (by omega)]) ?_
      refine pf_X6_48 dX6_ripBack_40 e0 (Nat.le_of_ble_eq_true rfl) ?_
      refine z_aload_n dX6_ripBack_43 rfl ?_
      refine z_aload_n dX6_ripBack_44 rfl ?_
      refine gf_X6_63 dX6_ripBack_45 ((z_up_n (hT.ne (i := 3 + 3 * m) (j := 0) (by omega) (by decide) (by omega))).trans d0) rfl ?_
      refine pf_X6_23 dX6_ripBack_48 z_up_s (Nat.le_of_ble_eq_true rfl) ?_
      refine z_aload_n dX6_ripBack_51 rfl ?_
      refine z_iconst dX6_ripBack_52 ?_
      refine z_aload_n dX6_ripBack_53 rfl ?_
      refine gf_X6_34 dX6_ripBack_54 z_up_s rfl ?_
      refine z_iload_n dX6_ripBack_57 rfl ?_
      refine z_isub dX6_ripBack_58 ?_
      refine mm_X6_70 dX6_ripBack_59 (by decide) c1z (by decide) (Nat.le_of_ble_eq_true rfl) ?_
      refine z_ieq (y := (m : Int)) hm.symm ?_
      refine pf_X6_34 dX6_ripBack_62 z_up_s (Nat.le_of_ble_eq_true rfl) ?_
      exact z_vret F dX6_ripBack_65 rfl (by decide) ⟨rfl, fun q => absurd q cd, fun _ => ⟨m, hm, by rw [z_up_up, z_up_up]; rfl⟩⟩
    · skip
      exfalso
      omega
set_option maxHeartbeats 4000000 in
set_option maxRecDepth 100000 in
theorem D_X6_addDone {g : z_G} {h : z_H} {T : Nat → Nat} {Lf : Nat → Option Nat} {lc dc nd si mo se : Int} {sd ln zz : Nat → Int} {ff : Nat → z_row} (hs : sH h T Lf lc dc nd si mo se sd ln zz ff) (hT : tI T) (hdc : dc < 50) {x9 c9 k9 o9 v9 : Nat} {f : z_row} {Z : Nat} {l m hi pl wi : Int} (p0 : h x9 = some (c_O 3 [z_r c9, z_r o9, z_r v9, z_i l, z_i m, z_i hi, z_i pl, z_i wi])) (p1 : oSt h c9 k9 (Z : Int) f) (hc9 : ∀ i, i < 50 → c9 ≠ T (4 + 3 * i)) (hk9 : ∀ i, i < 50 → k9 ≠ T (5 + 3 * i)) {li : Int} : z_D g mX6_addDone 3 0 0 [z_r (T 0), z_r x9, z_i li] h (fun rv h' => rv = some (z_i 1) ∧ (∃ (M : Nat) (f' : z_row), (M : Int) = dc ∧ (∀ j, j < Z → f' j = f j) ∧ h' = z_up (z_up (z_up (z_up h (T (4 + 3 * M)) (c_O 6 [z_r (T (5 + 3 * M)), z_i (Z : Int)])) (T (5 + 3 * M)) (c_I 200 f')) (T (3 + 3 * M)) (c_O 1 [z_r (T (4 + 3 * M)), z_i si, z_i li])) (T 0) (c_O 5 [z_r (T 1), z_r (T 2), z_i lc, z_i (dc + 1), z_i m, z_i (if mo = 0 then 1 - si else si), z_i mo, z_i se]))) := by
  refine z_D.of (by decide +kernel) (Nat.le_of_ble_eq_true rfl) (fun X F => ?_)
  obtain ⟨e0, e1, e2, e3, b1, b2, b3, b4, b5⟩ := id hs
  obtain ⟨M, hM⟩ : ∃ M : Nat, (M : Int) = dc := ⟨dc.toNat, by omega⟩
  have hM5 : M < 50 := by omega
  obtain ⟨d0, d1, d2, d3⟩ := e3 M hM5
  have hx9 : ∀ i, i < 153 → (i = 0 ∨ i = 3 + 3 * M ∨ i = 4 + 3 * M ∨ i = 5 + 3 * M) → x9 ≠ T i := fun i hi hh => by
    rcases hh with rfl | rfl | rfl | rfl
    · exact z_neOO p0 e0 (by decide)
    · exact z_neOO p0 d0 (by decide)
    · exact z_neOO p0 d1 (by decide)
    · exact z_neOI p0 d2
  show z_w g X cX6_addDone RX6 (3, 0, 0) 0 [z_r (T 0), z_r x9, z_i li, z_u] [] h 0 0
  refine z_aload_n dX6_addDone_0 rfl ?_
  refine gf_X6_34 dX6_addDone_1 e0 rfl ?_
  refine z_if_lt dX6_addDone_4 (tgt := 31) rfl ⟨by omega, by omega⟩ (fun c1 => ?_) (fun c1 => ?_)
  · skip
    exfalso
    omega
  · skip
    refine z_aload_n dX6_addDone_7 rfl ?_
    refine gf_X6_34 dX6_addDone_8 e0 rfl ?_
    refine z_aload_n dX6_addDone_11 rfl ?_
    refine gf_X6_19 dX6_addDone_12 e0 rfl ?_
    refine z_alenA dX6_addDone_15 (by decide) e2 ?_
    refine z_icmp_ge dX6_addDone_16 (tgt := 31) rfl ⟨by omega, by omega⟩ ⟨by omega, by omega⟩ (fun c2 => ?_) (fun c2 => ?_)
    · skip
      exfalso
      omega
    · skip
      refine z_aload_n dX6_addDone_19 rfl ?_
      refine gf_X6_19 dX6_addDone_20 e0 rfl ?_
      refine z_aload_n dX6_addDone_23 rfl ?_
      refine gf_X6_34 dX6_addDone_24 e0 rfl ?_
      refine z_aaldN (m := M) dX6_addDone_27 (by decide) e2 (by omega) ⟨by omega, by omega⟩ ?_
      refine z_steq (st' := [z_r (T (3 + 3 * M))]) (by rw [dnR_in hM5]) ?_
      refine z_goto dX6_addDone_28 (tgt := 32) rfl ?_
      refine z_astore_n dX6_addDone_32 (Nat.le_of_ble_eq_true rfl) rfl ?_
      refine z_aload_n dX6_addDone_33 rfl ?_
      refine z_ifnonnull dX6_addDone_34 (tgt := 39) rfl (fun _ _ => ?_) (fun c3 => by cases c3)
      refine z_aload_n dX6_addDone_39 rfl ?_
      refine gf_X6_51 dX6_addDone_40 d0 rfl ?_
      refine z_aload_n dX6_addDone_43 rfl ?_
      refine gf_X6_55 dX6_addDone_44 p0 rfl ?_
      refine cs_X6_58 dX6_addDone_47 (D_X7_takeFrom (a := (T (4 + 3 * M))) (k := (T (5 + 3 * M))) (a2 := c9) (k2 := k9) ⟨d1, d2, d3⟩ p1 (hc9 M hM5) (hk9 M hM5)) d1 rfl rfl (Nat.le_of_ble_eq_true rfl) (by decide) (z_kv ?_)
      refine z_heq (h' := z_up (z_up h (T (4 + 3 * M)) (c_O 6 [z_r (T (5 + 3 * M)), z_i (Z : Int)])) (T (5 + 3 * M)) (c_I 200 (va_cpy f (ff M) 0 0 Z))) (by rw [Int.toNat_natCast]) ?_
      refine z_aload_n dX6_addDone_50 rfl ?_
      refine z_aload_n dX6_addDone_51 rfl ?_
      refine gf_X6_23 dX6_addDone_52 ((z_up_n (hT.ne (i := 0) (j := 5 + 3 * M) (by omega) (by omega) (by omega))).trans ((z_up_n (hT.ne (i := 0) (j := 4 + 3 * M) (by omega) (by omega) (by omega))).trans e0)) rfl ?_
      refine pf_X6_63 dX6_addDone_55 ((z_up_n (hT.ne (i := 3 + 3 * M) (j := 5 + 3 * M) (by omega) (by omega) (by omega))).trans ((z_up_n (hT.ne (i := 3 + 3 * M) (j := 4 + 3 * M) (by omega) (by omega) (by omega))).trans d0)) (Nat.le_of_ble_eq_true rfl) ?_
      refine z_aload_n dX6_addDone_58 rfl ?_
      refine z_iload_n dX6_addDone_59 rfl ?_
      refine pf_X6_64 dX6_addDone_60 z_up_s (Nat.le_of_ble_eq_true rfl) ?_
      refine z_aload_n dX6_addDone_63 rfl ?_
      refine z_dup dX6_addDone_64 rfl ?_
      refine gf_X6_34 dX6_addDone_65 ((z_up_n (hT.ne (i := 0) (j := 3 + 3 * M) (by omega) (by omega) (by omega))).trans ((z_up_n (hT.ne (i := 0) (j := 3 + 3 * M) (by omega) (by omega) (by omega))).trans ((z_up_n (hT.ne (i := 0) (j := 5 + 3 * M) (by omega) (by omega) (by omega))).trans ((z_up_n (hT.ne (i := 0) (j := 4 + 3 * M) (by omega) (by omega) (by omega))).trans e0)))) rfl ?_
      refine z_iconst dX6_addDone_68 ?_
      refine z_iadd dX6_addDone_69 ?_
      refine pf_X6_34 dX6_addDone_70 ((z_up_n (hT.ne (i := 0) (j := 3 + 3 * M) (by omega) (by omega) (by omega))).trans ((z_up_n (hT.ne (i := 0) (j := 3 + 3 * M) (by omega) (by omega) (by omega))).trans ((z_up_n (hT.ne (i := 0) (j := 5 + 3 * M) (by omega) (by omega) (by omega))).trans ((z_up_n (hT.ne (i := 0) (j := 4 + 3 * M) (by omega) (by omega) (by omega))).trans e0)))) (Nat.le_of_ble_eq_true rfl) ?_
      refine z_aload_n dX6_addDone_73 rfl ?_
      refine z_aload_n dX6_addDone_74 rfl ?_
      refine gf_X6_67 dX6_addDone_75 ((z_up_n (hx9 (0) (by omega) (by omega))).trans ((z_up_n (hx9 (3 + 3 * M) (by omega) (by omega))).trans ((z_up_n (hx9 (3 + 3 * M) (by omega) (by omega))).trans ((z_up_n (hx9 (5 + 3 * M) (by omega) (by omega))).trans ((z_up_n (hx9 (4 + 3 * M) (by omega) (by omega))).trans p0))))) rfl ?_
      refine pf_X6_48 dX6_addDone_78 z_up_s (Nat.le_of_ble_eq_true rfl) ?_
      refine z_aload_n dX6_addDone_81 rfl ?_
      refine gf_X6_27 dX6_addDone_82 z_up_s rfl ?_
      refine z_if_ne dX6_addDone_85 (tgt := 104) rfl ⟨by omega, by omega⟩ (fun c4 => ?_) (fun c4 => ?_)
      · skip
        refine z_iconst dX6_addDone_104 ?_
        exact z_zret F dX6_addDone_105 rfl (by omega) (by decide) ⟨rfl, M, va_cpy f (ff M) 0 0 Z, hM, fun j hj => by unfold va_cpy; rw [if_pos (by omega)]; congr 1; omega, by simp only [z_up_up]; rw [if_neg (by omega)]; rfl⟩
      · skip
        refine z_aload_n dX6_addDone_88 rfl ?_
        refine z_aload_n dX6_addDone_89 rfl ?_
        refine gf_X6_23 dX6_addDone_90 z_up_s rfl ?_
        refine z_if_ne dX6_addDone_93 (tgt := 100) rfl ⟨by omega, by omega⟩ (fun c5 => ?_) (fun c5 => ?_)
        · skip
          refine z_iconst dX6_addDone_100 ?_
          refine pf_X6_23 dX6_addDone_101 z_up_s (Nat.le_of_ble_eq_true rfl) ?_
          refine z_iconst dX6_addDone_104 ?_
          exact z_zret F dX6_addDone_105 rfl (by omega) (by decide) ⟨rfl, M, va_cpy f (ff M) 0 0 Z, hM, fun j hj => by unfold va_cpy; rw [if_pos (by omega)]; congr 1; omega, by simp only [z_up_up]; rw [if_pos (by omega), show 1 - si = 0 by omega]; rfl⟩
        · skip
          refine z_iconst dX6_addDone_96 ?_
          refine z_goto dX6_addDone_97 (tgt := 101) rfl ?_
          refine pf_X6_23 dX6_addDone_101 z_up_s (Nat.le_of_ble_eq_true rfl) ?_
          refine z_iconst dX6_addDone_104 ?_
          exact z_zret F dX6_addDone_105 rfl (by omega) (by decide) ⟨rfl, M, va_cpy f (ff M) 0 0 Z, hM, fun j hj => by unfold va_cpy; rw [if_pos (by omega)]; congr 1; omega, by simp only [z_up_up]; rw [if_pos (by omega), show 1 - si = 1 by omega]; rfl⟩
