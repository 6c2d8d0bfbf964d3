/-! the reference: what is read of the state -/
def kR (N : z_row) (w : Nat) : z_row := fun j => N (5026 + 204 * w + 4 + j)
/-- a worked row of so many stitches -/
def nW (N : z_row) (w z : Nat) : Prop := w < 50 ∧ N (5026 + 204 * w + 2) = (z : Int) ∧ z ≤ 200 ∧ ∀ j, j < z → kOk (kR N w j)
theorem nW.f {N : z_row} {w z : Nat} (h : nW N w z) : fOk (z : Int) (kR N w) := fun j hj => h.2.2.2 j (by omega)
theorem kOk_in {k : Int} (h : kOk k) : z_in k := ⟨by have := h.1; omega, by have := h.2; omega⟩
set_option maxHeartbeats 4000000 in
set_option maxRecDepth 100000 in
theorem D_X9_isLine {g : z_G} {h0 : z_H} {A : Nat → Nat} (hM : mD A) {Rf Nw Th Tp Tx Kd Ia It Lk Ho Sz Im Mv : Nat → Int} {kp ln sz at_ we pa de ti lf md mn hi ha is_ ca : Int} {i : Int} (hi9 : z_in i) (hN : 0 ≤ Nw 5020 ∧ Nw 5020 ≤ 100) : z_D g mX9_isLine 2 0 0 [z_r (A 0), z_i i] (MH h0 A Rf Nw Th Tp Tx Kd Ia It Lk Ho Sz Im Mv kp ln sz at_ we pa de ti lf md mn hi ha is_ ca) (z_Pi (if 0 ≤ i ∧ i < Nw 5020 then 1 else 0) (MH h0 A Rf Nw Th Tp Tx Kd Ia It Lk Ho Sz Im Mv kp ln sz at_ we pa de ti lf md mn hi ha is_ ca)) := by
  refine z_D.of (by decide +kernel) (Nat.le_of_ble_eq_true rfl) (fun X F => ?_)
  show z_w g X cX9_isLine RX9 (2, 0, 0) 0 [z_r (A 0), z_i i] [] (MH h0 A Rf Nw Th Tp Tx Kd Ia It Lk Ho Sz Im Mv kp ln sz at_ we pa de ti lf md mn hi ha is_ ca) 0 0
  refine z_iload_n dX9_isLine_0 rfl ?_
  refine z_i2l dX9_isLine_1 ⟨by omega, by omega⟩ ?_
  refine z_lconst0 dX9_isLine_2 ?_
  refine z_aload_n dX9_isLine_3 rfl ?_
  refine gf_X9_13 dX9_isLine_4 MH_0 rfl ?_
  refine z_sipush dX9_isLine_7 rfl ?_
  refine z_ialdN (m := 5020) dX9_isLine_10 (MH_2 hM) rfl ⟨by decide, by decide⟩ ?_
  refine z_iconst dX9_isLine_11 ?_
  refine z_isub dX9_isLine_12 ?_
  refine z_i2l dX9_isLine_13 ⟨by omega, by omega⟩ ?_
  refine cs_X9_56 dX9_isLine_14 (D_X9_isIn (v := i) (lo := 0) (hi := Nw 5020 - 1) ⟨by omega, by omega⟩ (by decide) ⟨by omega, by omega⟩) rfl rfl (Nat.le_of_ble_eq_true rfl) (by decide) (z_ki ?_)
  exact z_zret F dX9_isLine_17 rfl (by split <;> omega) (by decide) ⟨congrArg (fun z => some (z_i z)) (by split <;> split <;> omega), rfl⟩
set_option maxHeartbeats 4000000 in
set_option maxRecDepth 100000 in
theorem D_X9_isWorked {g : z_G} {h0 : z_H} {A : Nat → Nat} (hM : mD A) {Rf Nw Th Tp Tx Kd Ia It Lk Ho Sz Im Mv : Nat → Int} {kp ln sz at_ we pa de ti lf md mn hi ha is_ ca : Int} {i : Int} (hi9 : z_in i) (hN : 0 ≤ Nw 5025 ∧ Nw 5025 ≤ 100) : z_D g mX9_isWorked 2 0 0 [z_r (A 0), z_i i] (MH h0 A Rf Nw Th Tp Tx Kd Ia It Lk Ho Sz Im Mv kp ln sz at_ we pa de ti lf md mn hi ha is_ ca) (z_Pi (if 0 ≤ i ∧ i < Nw 5025 then 1 else 0) (MH h0 A Rf Nw Th Tp Tx Kd Ia It Lk Ho Sz Im Mv kp ln sz at_ we pa de ti lf md mn hi ha is_ ca)) := by
  refine z_D.of (by decide +kernel) (Nat.le_of_ble_eq_true rfl) (fun X F => ?_)
  show z_w g X cX9_isWorked RX9 (2, 0, 0) 0 [z_r (A 0), z_i i] [] (MH h0 A Rf Nw Th Tp Tx Kd Ia It Lk Ho Sz Im Mv kp ln sz at_ we pa de ti lf md mn hi ha is_ ca) 0 0
  refine z_iload_n dX9_isWorked_0 rfl ?_
  refine z_i2l dX9_isWorked_1 ⟨by omega, by omega⟩ ?_
  refine z_lconst0 dX9_isWorked_2 ?_
  refine z_aload_n dX9_isWorked_3 rfl ?_
  refine gf_X9_13 dX9_isWorked_4 MH_0 rfl ?_
  refine z_sipush dX9_isWorked_7 rfl ?_
  refine z_ialdN (m := 5025) dX9_isWorked_10 (MH_2 hM) rfl ⟨by decide, by decide⟩ ?_
  refine z_iconst dX9_isWorked_11 ?_
  refine z_isub dX9_isWorked_12 ?_
  refine z_i2l dX9_isWorked_13 ⟨by omega, by omega⟩ ?_
  refine cs_X9_56 dX9_isWorked_14 (D_X9_isIn (v := i) (lo := 0) (hi := Nw 5025 - 1) ⟨by omega, by omega⟩ (by decide) ⟨by omega, by omega⟩) rfl rfl (Nat.le_of_ble_eq_true rfl) (by decide) (z_ki ?_)
  exact z_zret F dX9_isWorked_17 rfl (by split <;> omega) (by decide) ⟨congrArg (fun z => some (z_i z)) (by split <;> split <;> omega), rfl⟩
set_option maxHeartbeats 4000000 in
set_option maxRecDepth 100000 in
theorem D_X9_sizeOf {g : z_G} {h0 : z_H} {A : Nat → Nat} (hM : mD A) {Rf Nw Th Tp Tx Kd Ia It Lk Ho Sz Im Mv : Nat → Int} {kp ln sz at_ we pa de ti lf md mn hi ha is_ ca : Int} {w z : Nat} (hW : nW Nw w z) : z_D g mX9_sizeOf 1 0 0 [z_r (A 0), z_i (w : Int)] (MH h0 A Rf Nw Th Tp Tx Kd Ia It Lk Ho Sz Im Mv kp ln sz at_ we pa de ti lf md mn hi ha is_ ca) (z_Pi (z : Int) (MH h0 A Rf Nw Th Tp Tx Kd Ia It Lk Ho Sz Im Mv kp ln sz at_ we pa de ti lf md mn hi ha is_ ca)) := by
  refine z_D.of (by decide +kernel) (Nat.le_of_ble_eq_true rfl) (fun X F => ?_)
  show z_w g X cX9_sizeOf RX9 (1, 0, 0) 0 [z_r (A 0), z_i (w : Int)] [] (MH h0 A Rf Nw Th Tp Tx Kd Ia It Lk Ho Sz Im Mv kp ln sz at_ we pa de ti lf md mn hi ha is_ ca) 0 0
  have hw50 := hW.1
  refine z_aload_n dX9_sizeOf_0 rfl ?_
  refine gf_X9_13 dX9_sizeOf_1 MH_0 rfl ?_
  refine z_sipush dX9_sizeOf_4 rfl ?_
  refine z_sipush dX9_sizeOf_7 rfl ?_
  refine z_iload_n dX9_sizeOf_10 rfl ?_
  refine z_imul dX9_sizeOf_11 ?_
  refine z_iadd dX9_sizeOf_12 ?_
  refine z_iconst dX9_sizeOf_13 ?_
  refine z_iadd dX9_sizeOf_14 ?_
  refine z_ialdN (m := (5026 + 204 * w + 2)) dX9_sizeOf_15 (MH_2 hM) (by omega) ⟨by omega, by omega⟩ ?_
  exact z_iret F dX9_sizeOf_16 rfl (by decide) ⟨congrArg (fun z => some (z_i z)) (by exact hW.2.1), rfl⟩
set_option maxHeartbeats 4000000 in
set_option maxRecDepth 100000 in
theorem D_X9_kind {g : z_G} {h0 : z_H} {A : Nat → Nat} (hM : mD A) {Rf Nw Th Tp Tx Kd Ia It Lk Ho Sz Im Mv : Nat → Int} {kp ln sz at_ we pa de ti lf md mn hi ha is_ ca : Int} {w z i : Nat} (hW : nW Nw w z) (hi9 : i < z) : z_D g mX9_kind 1 0 0 [z_r (A 0), z_i (w : Int), z_i (i : Int)] (MH h0 A Rf Nw Th Tp Tx Kd Ia It Lk Ho Sz Im Mv kp ln sz at_ we pa de ti lf md mn hi ha is_ ca) (z_Pi (kR Nw w i) (MH h0 A Rf Nw Th Tp Tx Kd Ia It Lk Ho Sz Im Mv kp ln sz at_ we pa de ti lf md mn hi ha is_ ca)) := by
  refine z_D.of (by decide +kernel) (Nat.le_of_ble_eq_true rfl) (fun X F => ?_)
  show z_w g X cX9_kind RX9 (1, 0, 0) 0 [z_r (A 0), z_i (w : Int), z_i (i : Int)] [] (MH h0 A Rf Nw Th Tp Tx Kd Ia It Lk Ho Sz Im Mv kp ln sz at_ we pa de ti lf md mn hi ha is_ ca) 0 0
  have hw50 := hW.1
  have hz200 := hW.2.2.1
  refine z_aload_n dX9_kind_0 rfl ?_
  refine gf_X9_13 dX9_kind_1 MH_0 rfl ?_
  refine z_sipush dX9_kind_4 rfl ?_
  refine z_sipush dX9_kind_7 rfl ?_
  refine z_iload_n dX9_kind_10 rfl ?_
  refine z_imul dX9_kind_11 ?_
  refine z_iadd dX9_kind_12 ?_
  refine z_iconst dX9_kind_13 ?_
  refine z_iadd dX9_kind_14 ?_
  refine z_iload_n dX9_kind_15 rfl ?_
  refine z_iadd dX9_kind_16 ?_
  refine z_ialdN (m := (5026 + 204 * w + 4 + i)) dX9_kind_17 (MH_2 hM) (by omega) ⟨by omega, by omega⟩ ?_
  exact z_iret F dX9_kind_18 rfl (by decide) ⟨congrArg (fun z => some (z_i z)) (by rfl), rfl⟩
set_option maxHeartbeats 4000000 in
set_option maxRecDepth 100000 in
theorem D_X9_counted {g : z_G} {h0 : z_H} {A : Nat → Nat} (hM : mD A) {Rf Nw Th Tp Tx Kd Ia It Lk Ho Sz Im Mv : Nat → Int} {kp ln sz at_ we pa de ti lf md mn hi ha is_ ca : Int} {w z m : Nat} (hW : nW Nw w z) (hm9 : m ≤ z) {what : Int} {T : Int → Int} (hwt : (what = 0 ∧ T = kT) ∨ (what = 1 ∧ T = kM) ∨ (what = 2 ∧ T = kY)) : z_D g mX9_counted 2 0 0 [z_r (A 0), z_i (w : Int), z_i (m : Int), z_i what] (MH h0 A Rf Nw Th Tp Tx Kd Ia It Lk Ho Sz Im Mv kp ln sz at_ we pa de ti lf md mn hi ha is_ ca) (z_Pi (sG T (kR Nw w) m) (MH h0 A Rf Nw Th Tp Tx Kd Ia It Lk Ho Sz Im Mv kp ln sz at_ we pa de ti lf md mn hi ha is_ ca)) := by
  refine z_D.of (by decide +kernel) (Nat.le_of_ble_eq_true rfl) (fun X F => ?_)
  have hz200 := hW.2.2.1
  have hw9 : 0 ≤ what ∧ what ≤ 2 := by omega
  show z_w g X cX9_counted RX9 (2, 0, 0) 0 [z_r (A 0), z_i (w : Int), z_i (m : Int), z_i what, z_u, z_u, z_u] [] (MH h0 A Rf Nw Th Tp Tx Kd Ia It Lk Ho Sz Im Mv kp ln sz at_ we pa de ti lf md mn hi ha is_ ca) 0 0
  refine z_iconst dX9_counted_0 ?_
  refine z_istore dX9_counted_1 (Nat.le_of_ble_eq_true rfl) rfl ?_
  refine z_iconst dX9_counted_3 ?_
  refine z_istore dX9_counted_4 (Nat.le_of_ble_eq_true rfl) rfl ?_
  have L4 : ∀ (fu : Nat) (r : Nat) (y6 : z_V) (q1 : r ≤ m), m - r < fu → z_w g X cX9_counted RX9 (2, 0, 0) 6 [z_r (A 0), z_i (w : Int), z_i (m : Int), z_i what, z_i (sG T (kR Nw w) r), z_i (r : Int), y6] [] (MH h0 A Rf Nw Th Tp Tx Kd Ia It Lk Ho Sz Im Mv kp ln sz at_ we pa de ti lf md mn hi ha is_ ca) 0 0 := by
    intro fu
    induction fu with
    | zero => intro r y6 q1 hm; exact absurd hm (Nat.not_lt_zero _)
    | succ fu ih =>
      intro r y6 q1 hm
      refine z_iload dX9_counted_6 rfl ?_
      refine z_iload_n dX9_counted_8 rfl ?_
      refine z_icmp_ge dX9_counted_9 (tgt := 62) rfl ⟨by omega, by omega⟩ ⟨by omega, by omega⟩ (fun c1 => ?_) (fun c1 => ?_)
      · skip
        obtain rfl : r = m := by omega
        refine z_iload dX9_counted_62 rfl ?_
        exact z_iret F dX9_counted_64 rfl (by decide) ⟨congrArg (fun z => some (z_i z)) (by rfl), rfl⟩
      · skip
        have hk : kOk (kR Nw w r) := hW.2.2.2 r (by omega)
        refine z_aload_n dX9_counted_12 rfl ?_
        refine z_iload_n dX9_counted_13 rfl ?_
        refine z_iload dX9_counted_14 rfl ?_
        refine cs_X9_212 dX9_counted_16 (D_X9_kind hM hW (i := r) (by omega)) MH_0 rfl rfl (Nat.le_of_ble_eq_true rfl) (by decide) (z_ki ?_)
        refine z_istore dX9_counted_19 (Nat.le_of_ble_eq_true rfl) rfl ?_
        refine z_iload dX9_counted_21 rfl ?_
        refine z_iload_n dX9_counted_23 rfl ?_
        refine z_if_ne dX9_counted_24 (tgt := 35) rfl ⟨by omega, by omega⟩ (fun c2 => ?_) (fun c2 => ?_)
        · skip
          refine z_iload_n dX9_counted_35 rfl ?_
          refine z_iconst dX9_counted_36 ?_
          refine z_icmp_ne dX9_counted_37 (tgt := 48) rfl ⟨by omega, by omega⟩ (by decide) (fun c3 => ?_) (fun c3 => ?_)
          · skip
            have hT : T = kY := by rcases hwt with ⟨q, q2⟩ | ⟨q, q2⟩ | ⟨q, q2⟩ <;> first | exact q2 | omega
            refine z_iload dX9_counted_48 rfl ?_
            refine cs_X9_204 dX9_counted_50 (D_X9_yarnOf (kOk_in hk)) rfl rfl (Nat.le_of_ble_eq_true rfl) (by decide) (z_ki ?_)
            refine z_ieq (y := T (kR Nw w r)) (by rw [hT]) ?_
            refine z_iadd dX9_counted_53 ?_
            refine z_istore dX9_counted_54 (Nat.le_of_ble_eq_true rfl) rfl ?_
            refine z_iinc dX9_counted_56 rfl rfl ?_
            refine z_goto dX9_counted_59 (tgt := 6) rfl ?_
            exact ih (r + 1) _ (by omega) (by omega)
          · skip
            have hT : T = kM := by rcases hwt with ⟨q, q2⟩ | ⟨q, q2⟩ | ⟨q, q2⟩ <;> first | exact q2 | omega
            refine z_iload dX9_counted_40 rfl ?_
            refine cs_X9_154 dX9_counted_42 (D_X9_makes (kOk_in hk)) rfl rfl (Nat.le_of_ble_eq_true rfl) (by decide) (z_ki ?_)
            refine z_goto dX9_counted_45 (tgt := 53) rfl ?_
            refine z_ieq (y := T (kR Nw w r)) (by rw [hT]) ?_
            refine z_iadd dX9_counted_53 ?_
            refine z_istore dX9_counted_54 (Nat.le_of_ble_eq_true rfl) rfl ?_
            refine z_iinc dX9_counted_56 rfl rfl ?_
            refine z_goto dX9_counted_59 (tgt := 6) rfl ?_
            exact ih (r + 1) _ (by omega) (by omega)
        · skip
          have hT : T = kT := by rcases hwt with ⟨q, q2⟩ | ⟨q, q2⟩ | ⟨q, q2⟩ <;> first | exact q2 | omega
          refine z_iload dX9_counted_27 rfl ?_
          refine cs_X9_141 dX9_counted_29 (D_X9_takes (kOk_in hk)) rfl rfl (Nat.le_of_ble_eq_true rfl) (by decide) (z_ki ?_)
          refine z_goto dX9_counted_32 (tgt := 53) rfl ?_
          refine z_ieq (y := T (kR Nw w r)) (by rw [hT]) ?_
          refine z_iadd dX9_counted_53 ?_
          refine z_istore dX9_counted_54 (Nat.le_of_ble_eq_true rfl) rfl ?_
          refine z_iinc dX9_counted_56 rfl rfl ?_
          refine z_goto dX9_counted_59 (tgt := 6) rfl ?_
          exact ih (r + 1) _ (by omega) (by omega)
  exact L4 (m + 1) 0 z_u (Nat.zero_le _) (by omega)
set_option maxHeartbeats 4000000 in
set_option maxRecDepth 100000 in
theorem D_X9_madeBy {g : z_G} {h0 : z_H} {A : Nat → Nat} (hM : mD A) {Rf Nw Th Tp Tx Kd Ia It Lk Ho Sz Im Mv : Nat → Int} {kp ln sz at_ we pa de ti lf md mn hi ha is_ ca : Int} {w z : Nat} (hW : nW Nw w z) : z_D g mX9_madeBy 3 0 0 [z_r (A 0), z_i (w : Int)] (MH h0 A Rf Nw Th Tp Tx Kd Ia It Lk Ho Sz Im Mv kp ln sz at_ we pa de ti lf md mn hi ha is_ ca) (z_Pi (sG kM (kR Nw w) z) (MH h0 A Rf Nw Th Tp Tx Kd Ia It Lk Ho Sz Im Mv kp ln sz at_ we pa de ti lf md mn hi ha is_ ca)) := by
  refine z_D.of (by decide +kernel) (Nat.le_of_ble_eq_true rfl) (fun X F => ?_)
  show z_w g X cX9_madeBy RX9 (3, 0, 0) 0 [z_r (A 0), z_i (w : Int)] [] (MH h0 A Rf Nw Th Tp Tx Kd Ia It Lk Ho Sz Im Mv kp ln sz at_ we pa de ti lf md mn hi ha is_ ca) 0 0
  refine z_aload_n dX9_madeBy_0 rfl ?_
  refine z_iload_n dX9_madeBy_1 rfl ?_
  refine z_aload_n dX9_madeBy_2 rfl ?_
  refine z_iload_n dX9_madeBy_3 rfl ?_
  refine cs_X9_220 dX9_madeBy_4 (D_X9_sizeOf hM hW) MH_0 rfl rfl (Nat.le_of_ble_eq_true rfl) (by decide) (z_ki ?_)
  refine z_iconst dX9_madeBy_7 ?_
  refine cs_X9_223 dX9_madeBy_8 (D_X9_counted hM hW (Nat.le_refl z) (T := kM) (Or.inr (Or.inl ⟨rfl, rfl⟩))) MH_0 rfl rfl (Nat.le_of_ble_eq_true rfl) (by decide) (z_ki ?_)
  exact z_iret F dX9_madeBy_11 rfl (by decide) ⟨congrArg (fun z => some (z_i z)) (by rfl), rfl⟩
set_option maxHeartbeats 4000000 in
set_option maxRecDepth 100000 in
theorem D_X9_mirroredAt {g : z_G} {h0 : z_H} {A : Nat → Nat} (hM : mD A) {Rf Nw Th Tp Tx Kd Ia It Lk Ho Sz Im Mv : Nat → Int} {kp ln sz at_ we pa de ti lf md mn hi ha is_ ca : Int} {w z : Nat} (hW : nW Nw w z) {i : Int} (hi9 : z_in i) : z_D g mX9_mirroredAt 2 0 0 [z_r (A 0), z_i (w : Int), z_i i] (MH h0 A Rf Nw Th Tp Tx Kd Ia It Lk Ho Sz Im Mv kp ln sz at_ we pa de ti lf md mn hi ha is_ ca) (z_Pi (mA z (kR Nw w) i) (MH h0 A Rf Nw Th Tp Tx Kd Ia It Lk Ho Sz Im Mv kp ln sz at_ we pa de ti lf md mn hi ha is_ ca)) := by
  refine z_D.of (by decide +kernel) (Nat.le_of_ble_eq_true rfl) (fun X F => ?_)
  show z_w g X cX9_mirroredAt RX9 (2, 0, 0) 0 [z_r (A 0), z_i (w : Int), z_i i, z_u] [] (MH h0 A Rf Nw Th Tp Tx Kd Ia It Lk Ho Sz Im Mv kp ln sz at_ we pa de ti lf md mn hi ha is_ ca) 0 0
  have hz200 := hW.2.2.1
  have hw50 := hW.1
  refine z_aload_n dX9_mirroredAt_0 rfl ?_
  refine z_iload_n dX9_mirroredAt_1 rfl ?_
  refine cs_X9_220 dX9_mirroredAt_2 (D_X9_sizeOf hM hW) MH_0 rfl rfl (Nat.le_of_ble_eq_true rfl) (by decide) (z_ki ?_)
  refine z_istore_n dX9_mirroredAt_5 (Nat.le_of_ble_eq_true rfl) rfl ?_
  refine z_iload_n dX9_mirroredAt_6 rfl ?_
  refine z_i2l dX9_mirroredAt_7 ⟨by omega, by omega⟩ ?_
  refine z_lconst0 dX9_mirroredAt_8 ?_
  refine z_iload_n dX9_mirroredAt_9 rfl ?_
  refine z_iconst dX9_mirroredAt_10 ?_
  refine z_isub dX9_mirroredAt_11 ?_
  refine z_i2l dX9_mirroredAt_12 ⟨by omega, by omega⟩ ?_
  refine cs_X9_56 dX9_mirroredAt_13 (D_X9_isIn (v := i) (lo := 0) (hi := (z : Int) - 1) ⟨by omega, by omega⟩ (by decide) ⟨by omega, by omega⟩) rfl rfl (Nat.le_of_ble_eq_true rfl) (by decide) (z_ki ?_)
  refine z_if_eq dX9_mirroredAt_16 (tgt := 35) rfl ⟨by split <;> omega, by split <;> omega⟩ (fun c1 => ?_) (fun c1 => ?_)
  · skip
    refine z_iconst dX9_mirroredAt_35 ?_
    exact z_iret F dX9_mirroredAt_36 rfl (by decide) ⟨congrArg (fun z => some (z_i z)) (by unfold mA; first | rw [if_pos (by omega)] | rw [if_neg (by omega)]), rfl⟩
  · skip
    have hkd : z_D g mX9_kind 1 0 0 [z_r (A 0), z_i (w : Int), z_i ((z : Int) - 1 - i)] (MH h0 A Rf Nw Th Tp Tx Kd Ia It Lk Ho Sz Im Mv kp ln sz at_ we pa de ti lf md mn hi ha is_ ca) (z_Pi (kR Nw w ((z : Int) - 1 - i).toNat) (MH h0 A Rf Nw Th Tp Tx Kd Ia It Lk Ho Sz Im Mv kp ln sz at_ we pa de ti lf md mn hi ha is_ ca)) := by
      have q := D_X9_kind (g := g) (h0 := h0) hM (Rf := Rf) (Th := Th) (Tp := Tp) (Tx := Tx) (Kd := Kd) (Ia := Ia) (It := It) (Lk := Lk) (Ho := Ho) (Sz := Sz) (Im := Im) (Mv := Mv) (kp := kp) (ln := ln) (sz := sz) (at_ := at_) (we := we) (pa := pa) (de := de) (ti := ti) (lf := lf) (md := md) (mn := mn) (hi := hi) (ha := ha) (is_ := is_) (ca := ca) hW (i := ((z : Int) - 1 - i).toNat) (by omega)
      rw [show ((((z : Int) - 1 - i).toNat : Nat) : Int) = (z : Int) - 1 - i by omega] at q
      exact q
    refine z_aload_n dX9_mirroredAt_19 rfl ?_
    refine z_iload_n dX9_mirroredAt_20 rfl ?_
    refine z_iload_n dX9_mirroredAt_21 rfl ?_
    refine z_iconst dX9_mirroredAt_22 ?_
    refine z_isub dX9_mirroredAt_23 ?_
    refine z_iload_n dX9_mirroredAt_24 rfl ?_
    refine z_isub dX9_mirroredAt_25 ?_
    refine cs_X9_212 dX9_mirroredAt_26 hkd MH_0 rfl rfl (Nat.le_of_ble_eq_true rfl) (by decide) (z_ki ?_)
    refine cs_X9_50 dX9_mirroredAt_29 (D_X9_mirror (kOk_in (hW.2.2.2 _ (by omega)))) rfl rfl (Nat.le_of_ble_eq_true rfl) (by decide) (z_ki ?_)
    refine z_goto dX9_mirroredAt_32 (tgt := 36) rfl ?_
    exact z_iret F dX9_mirroredAt_36 rfl (by decide) ⟨congrArg (fun z => some (z_i z)) (by unfold mA; first | rw [if_pos (by omega)] | rw [if_neg (by omega)]), rfl⟩
set_option maxHeartbeats 4000000 in
set_option maxRecDepth 100000 in
theorem D_X9_charted {g : z_G} {h0 : z_H} {A : Nat → Nat} (hM : mD A) {Rf Nw Th Tp Tx Kd Ia It Lk Ho Sz Im Mv : Nat → Int} {kp ln sz at_ we pa de ti lf md mn hi ha is_ ca : Int} {w z : Nat} (hW : nW Nw w z) {sd : Int} (hsd : Nw (5026 + 204 * w) = sd) (hsb : z_in sd) {i : Int} (hi9 : z_in i) : z_D g mX9_charted 3 0 0 [z_r (A 0), z_i (w : Int), z_i i] (MH h0 A Rf Nw Th Tp Tx Kd Ia It Lk Ho Sz Im Mv kp ln sz at_ we pa de ti lf md mn hi ha is_ ca) (z_Pi (cH sd z (kR Nw w) i) (MH h0 A Rf Nw Th Tp Tx Kd Ia It Lk Ho Sz Im Mv kp ln sz at_ we pa de ti lf md mn hi ha is_ ca)) := by
  refine z_D.of (by decide +kernel) (Nat.le_of_ble_eq_true rfl) (fun X F => ?_)
  show z_w g X cX9_charted RX9 (3, 0, 0) 0 [z_r (A 0), z_i (w : Int), z_i i, z_u] [] (MH h0 A Rf Nw Th Tp Tx Kd Ia It Lk Ho Sz Im Mv kp ln sz at_ we pa de ti lf md mn hi ha is_ ca) 0 0
  have hz200 := hW.2.2.1
  have hw50 := hW.1
  refine z_aload_n dX9_charted_0 rfl ?_
  refine z_iload_n dX9_charted_1 rfl ?_
  refine cs_X9_220 dX9_charted_2 (D_X9_sizeOf hM hW) MH_0 rfl rfl (Nat.le_of_ble_eq_true rfl) (by decide) (z_ki ?_)
  refine z_istore_n dX9_charted_5 (Nat.le_of_ble_eq_true rfl) rfl ?_
  refine z_iload_n dX9_charted_6 rfl ?_
  refine z_i2l dX9_charted_7 ⟨by omega, by omega⟩ ?_
  refine z_lconst0 dX9_charted_8 ?_
  refine z_iload_n dX9_charted_9 rfl ?_
  refine z_iconst dX9_charted_10 ?_
  refine z_isub dX9_charted_11 ?_
  refine z_i2l dX9_charted_12 ⟨by omega, by omega⟩ ?_
  refine cs_X9_56 dX9_charted_13 (D_X9_isIn (v := i) (lo := 0) (hi := (z : Int) - 1) ⟨by omega, by omega⟩ (by decide) ⟨by omega, by omega⟩) rfl rfl (Nat.le_of_ble_eq_true rfl) (by decide) (z_ki ?_)
  refine z_if_ne dX9_charted_16 (tgt := 21) rfl ⟨by split <;> omega, by split <;> omega⟩ (fun c1 => ?_) (fun c1 => ?_)
  · skip
    refine z_aload_n dX9_charted_21 rfl ?_
    refine gf_X9_13 dX9_charted_22 MH_0 rfl ?_
    refine z_sipush dX9_charted_25 rfl ?_
    refine z_sipush dX9_charted_28 rfl ?_
    refine z_iload_n dX9_charted_31 rfl ?_
    refine z_imul dX9_charted_32 ?_
    refine z_iadd dX9_charted_33 ?_
    refine z_ialdN (m := (5026 + 204 * w)) dX9_charted_34 (MH_2 hM) (by omega) ⟨by omega, by omega⟩ ?_
    refine z_ieq (y := sd) hsd ?_
    refine z_if_ne dX9_charted_35 (tgt := 47) rfl hsb (fun c2 => ?_) (fun c2 => ?_)
    · skip
      have hkd : z_D g mX9_kind 1 0 0 [z_r (A 0), z_i (w : Int), z_i ((z : Int) - 1 - i)] (MH h0 A Rf Nw Th Tp Tx Kd Ia It Lk Ho Sz Im Mv kp ln sz at_ we pa de ti lf md mn hi ha is_ ca) (z_Pi (kR Nw w ((z : Int) - 1 - i).toNat) (MH h0 A Rf Nw Th Tp Tx Kd Ia It Lk Ho Sz Im Mv kp ln sz at_ we pa de ti lf md mn hi ha is_ ca)) := by
        have q := D_X9_kind (g := g) (h0 := h0) hM (Rf := Rf) (Th := Th) (Tp := Tp) (Tx := Tx) (Kd := Kd) (Ia := Ia) (It := It) (Lk := Lk) (Ho := Ho) (Sz := Sz) (Im := Im) (Mv := Mv) (kp := kp) (ln := ln) (sz := sz) (at_ := at_) (we := we) (pa := pa) (de := de) (ti := ti) (lf := lf) (md := md) (mn := mn) (hi := hi) (ha := ha) (is_ := is_) (ca := ca) hW (i := ((z : Int) - 1 - i).toNat) (by omega)
        rw [show ((((z : Int) - 1 - i).toNat : Nat) : Int) = (z : Int) - 1 - i by omega] at q
        exact q
      refine z_aload_n dX9_charted_47 rfl ?_
      refine z_iload_n dX9_charted_48 rfl ?_
      refine z_iload_n dX9_charted_49 rfl ?_
      refine z_iconst dX9_charted_50 ?_
      refine z_isub dX9_charted_51 ?_
      refine z_iload_n dX9_charted_52 rfl ?_
      refine z_isub dX9_charted_53 ?_
      refine cs_X9_212 dX9_charted_54 hkd MH_0 rfl rfl (Nat.le_of_ble_eq_true rfl) (by decide) (z_ki ?_)
      refine cs_X9_227 dX9_charted_57 (D_X9_turn (kOk_in (hW.2.2.2 _ (by omega)))) rfl rfl (Nat.le_of_ble_eq_true rfl) (by decide) (z_ki ?_)
      exact z_iret F dX9_charted_60 rfl (by decide) ⟨congrArg (fun z => some (z_i z)) (by unfold cH; first | rw [if_neg (by omega)] | rw [if_pos (by omega), if_pos (by omega)] | rw [if_pos (by omega), if_neg (by omega)]), rfl⟩
    · skip
      have hkd : z_D g mX9_kind 1 0 0 [z_r (A 0), z_i (w : Int), z_i (i)] (MH h0 A Rf Nw Th Tp Tx Kd Ia It Lk Ho Sz Im Mv kp ln sz at_ we pa de ti lf md mn hi ha is_ ca) (z_Pi (kR Nw w (i).toNat) (MH h0 A Rf Nw Th Tp Tx Kd Ia It Lk Ho Sz Im Mv kp ln sz at_ we pa de ti lf md mn hi ha is_ ca)) := by
        have q := D_X9_kind (g := g) (h0 := h0) hM (Rf := Rf) (Th := Th) (Tp := Tp) (Tx := Tx) (Kd := Kd) (Ia := Ia) (It := It) (Lk := Lk) (Ho := Ho) (Sz := Sz) (Im := Im) (Mv := Mv) (kp := kp) (ln := ln) (sz := sz) (at_ := at_) (we := we) (pa := pa) (de := de) (ti := ti) (lf := lf) (md := md) (mn := mn) (hi := hi) (ha := ha) (is_ := is_) (ca := ca) hW (i := (i).toNat) (by omega)
        rw [show (((i).toNat : Nat) : Int) = i by omega] at q
        exact q
      refine z_aload_n dX9_charted_38 rfl ?_
      refine z_iload_n dX9_charted_39 rfl ?_
      refine z_iload_n dX9_charted_40 rfl ?_
      refine cs_X9_212 dX9_charted_41 hkd MH_0 rfl rfl (Nat.le_of_ble_eq_true rfl) (by decide) (z_ki ?_)
      refine z_goto dX9_charted_44 (tgt := 60) rfl ?_
      exact z_iret F dX9_charted_60 rfl (by decide) ⟨congrArg (fun z => some (z_i z)) (by unfold cH; first | rw [if_neg (by omega)] | rw [if_pos (by omega), if_pos (by omega)] | rw [if_pos (by omega), if_neg (by omega)]), rfl⟩
  · skip
    refine z_iconst dX9_charted_19 ?_
    exact z_iret F dX9_charted_20 rfl (by decide) ⟨congrArg (fun z => some (z_i z)) (by unfold cH; first | rw [if_neg (by omega)] | rw [if_pos (by omega), if_pos (by omega)] | rw [if_pos (by omega), if_neg (by omega)]), rfl⟩
set_option maxHeartbeats 4000000 in
set_option maxRecDepth 100000 in
theorem D_X9_yarnTried {g : z_G} {h0 : z_H} {A : Nat → Nat} (hM : mD A) {Rf Nw Th Tp Tx Kd Ia It Lk Ho Sz Im Mv : Nat → Int} {kp ln sz at_ we pa de ti lf md hi ha is_ ca : Int} {m : Nat} (hm9 : m ≤ 200) (hk9 : ∀ j, j < m → kOk (Kd j)) : z_D g mX9_yarnTried 2 0 0 [z_r (A 0)] (MH h0 A Rf Nw Th Tp Tx Kd Ia It Lk Ho Sz Im Mv kp ln sz at_ we pa de ti lf md (m : Int) hi ha is_ ca) (z_Pi (sG kY Kd m) (MH h0 A Rf Nw Th Tp Tx Kd Ia It Lk Ho Sz Im Mv kp ln sz at_ we pa de ti lf md (m : Int) hi ha is_ ca)) := by
  refine z_D.of (by decide +kernel) (Nat.le_of_ble_eq_true rfl) (fun X F => ?_)
  show z_w g X cX9_yarnTried RX9 (2, 0, 0) 0 [z_r (A 0), z_u, z_u] [] (MH h0 A Rf Nw Th Tp Tx Kd Ia It Lk Ho Sz Im Mv kp ln sz at_ we pa de ti lf md (m : Int) hi ha is_ ca) 0 0
  refine z_iconst dX9_yarnTried_0 ?_
  refine z_istore_n dX9_yarnTried_1 (Nat.le_of_ble_eq_true rfl) rfl ?_
  refine z_iconst dX9_yarnTried_2 ?_
  refine z_istore_n dX9_yarnTried_3 (Nat.le_of_ble_eq_true rfl) rfl ?_
  have L4 : ∀ (fu : Nat) (r : Nat) (q1 : r ≤ m), m - r < fu → z_w g X cX9_yarnTried RX9 (2, 0, 0) 4 [z_r (A 0), z_i (sG kY Kd r), z_i (r : Int)] [] (MH h0 A Rf Nw Th Tp Tx Kd Ia It Lk Ho Sz Im Mv kp ln sz at_ we pa de ti lf md (m : Int) hi ha is_ ca) 0 0 := by
    intro fu
    induction fu with
    | zero => intro r q1 hm; exact absurd hm (Nat.not_lt_zero _)
    | succ fu ih =>
      intro r q1 hm
      refine z_iload_n dX9_yarnTried_4 rfl ?_
      refine z_aload_n dX9_yarnTried_5 rfl ?_
      refine gf_X9_157 dX9_yarnTried_6 MH_0 rfl ?_
      refine z_icmp_ge dX9_yarnTried_9 (tgt := 30) rfl ⟨by omega, by omega⟩ ⟨by omega, by omega⟩ (fun c1 => ?_) (fun c1 => ?_)
      · skip
        obtain rfl : r = m := by omega
        refine z_iload_n dX9_yarnTried_30 rfl ?_
        exact z_iret F dX9_yarnTried_31 rfl (by decide) ⟨congrArg (fun z => some (z_i z)) (by rfl), rfl⟩
      · skip
        refine z_iload_n dX9_yarnTried_12 rfl ?_
        refine z_aload_n dX9_yarnTried_13 rfl ?_
        refine gf_X9_25 dX9_yarnTried_14 MH_0 rfl ?_
        refine z_iload_n dX9_yarnTried_17 rfl ?_
        refine z_ialdN (m := r) dX9_yarnTried_18 (MH_6 hM) (by omega) ⟨by omega, by omega⟩ ?_
        refine cs_X9_204 dX9_yarnTried_19 (D_X9_yarnOf (kOk_in (hk9 r (by omega)))) rfl rfl (Nat.le_of_ble_eq_true rfl) (by decide) (z_ki ?_)
        refine z_iadd dX9_yarnTried_22 ?_
        refine z_istore_n dX9_yarnTried_23 (Nat.le_of_ble_eq_true rfl) rfl ?_
        refine z_iinc dX9_yarnTried_24 rfl rfl ?_
        refine z_goto dX9_yarnTried_27 (tgt := 4) rfl ?_
        exact ih (r + 1) (by omega) (by omega)
  exact L4 (m + 1) 0 (Nat.zero_le _) (by omega)
set_option maxHeartbeats 4000000 in
set_option maxRecDepth 100000 in
theorem D_X9_isShelf {g : z_G} {h : z_H} {s : Int} (hs : z_in s) : z_D g mX9_isShelf 2 0 0 [z_i s] h (z_Pi (if 0 ≤ s ∧ s ≤ 7 then 1 else 0) h) := by
  refine z_D.of (by decide +kernel) (Nat.le_of_ble_eq_true rfl) (fun X F => ?_)
  show z_w g X cX9_isShelf RX9 (2, 0, 0) 0 [z_i s] [] h 0 0
  refine z_iload_n dX9_isShelf_0 rfl ?_
  refine z_i2l dX9_isShelf_1 ⟨by omega, by omega⟩ ?_
  refine z_lconst0 dX9_isShelf_2 ?_
  refine z_ldc2 dX9_isShelf_3 lw_X9_252 ?_
  refine cs_X9_56 dX9_isShelf_6 (D_X9_isIn (v := s) (lo := 0) (hi := 7) ⟨by omega, by omega⟩ (by decide) (by decide)) rfl rfl (Nat.le_of_ble_eq_true rfl) (by decide) (z_ki ?_)
  exact z_zret F dX9_isShelf_9 rfl (by split <;> omega) (by decide) ⟨rfl, rfl⟩
def amI (x : Int) : Int := if x < 0 then -94 else if x > 9 then -93 else 0
set_option maxHeartbeats 4000000 in
set_option maxRecDepth 100000 in
theorem D_X9_amiss {g : z_G} {h0 : z_H} {A : Nat → Nat} (hM : mD A) {Rf Nw Th Tp Tx Kd Ia It Lk Ho Sz Im Mv : Nat → Int} {kp ln sz at_ we pa de ti lf md mn hi ha is_ ca : Int} {s : Nat} (hs : s < 8) (hh : z_in (Ho s)) : z_D g mX9_amiss 1 0 0 [z_r (A 0), z_i (s : Int)] (MH h0 A Rf Nw Th Tp Tx Kd Ia It Lk Ho Sz Im Mv kp ln sz at_ we pa de ti lf md mn hi ha is_ ca) (z_Pi (amI (Ho s)) (MH h0 A Rf Nw Th Tp Tx Kd Ia It Lk Ho Sz Im Mv kp ln sz at_ we pa de ti lf md mn hi ha is_ ca)) := by
  refine z_D.of (by decide +kernel) (Nat.le_of_ble_eq_true rfl) (fun X F => ?_)
  show z_w g X cX9_amiss RX9 (1, 0, 0) 0 [z_r (A 0), z_i (s : Int)] [] (MH h0 A Rf Nw Th Tp Tx Kd Ia It Lk Ho Sz Im Mv kp ln sz at_ we pa de ti lf md mn hi ha is_ ca) 0 0
  refine z_aload_n dX9_amiss_0 rfl ?_
  refine gf_X9_37 dX9_amiss_1 MH_0 rfl ?_
  refine z_iload_n dX9_amiss_4 rfl ?_
  refine z_ialdN (m := s) dX9_amiss_5 (MH_10 hM) (by omega) ⟨by omega, by omega⟩ ?_
  refine z_if_ge dX9_amiss_6 (tgt := 14) rfl hh (fun c1 => ?_) (fun c1 => ?_)
  · skip
    refine z_aload_n dX9_amiss_14 rfl ?_
    refine gf_X9_37 dX9_amiss_15 MH_0 rfl ?_
    refine z_iload_n dX9_amiss_18 rfl ?_
    refine z_ialdN (m := s) dX9_amiss_19 (MH_10 hM) (by omega) ⟨by omega, by omega⟩ ?_
    refine z_bipush dX9_amiss_20 rfl ?_
    refine z_icmp_le dX9_amiss_22 (tgt := 30) rfl hh (by decide) (fun c2 => ?_) (fun c2 => ?_)
    · skip
      refine z_iconst dX9_amiss_30 ?_
      exact z_iret F dX9_amiss_31 rfl (by decide) ⟨congrArg (fun z => some (z_i z)) (by unfold amI; repeat (first | rw [if_pos (by omega)] | rw [if_neg (by omega)])), rfl⟩
    · skip
      refine z_bipush dX9_amiss_25 rfl ?_
      refine z_goto dX9_amiss_27 (tgt := 31) rfl ?_
      exact z_iret F dX9_amiss_31 rfl (by decide) ⟨congrArg (fun z => some (z_i z)) (by unfold amI; repeat (first | rw [if_pos (by omega)] | rw [if_neg (by omega)])), rfl⟩
  · skip
    refine z_bipush dX9_amiss_9 rfl ?_
    refine z_goto dX9_amiss_11 (tgt := 31) rfl ?_
    exact z_iret F dX9_amiss_31 rfl (by decide) ⟨congrArg (fun z => some (z_i z)) (by unfold amI; repeat (first | rw [if_pos (by omega)] | rw [if_neg (by omega)])), rfl⟩
def drN (N : z_row) : Int := N 5024 * 1103515245 + 12345
set_option maxHeartbeats 4000000 in
set_option maxRecDepth 100000 in
theorem D_X9_draw {g : z_G} {h0 : z_H} {A : Nat → Nat} (hM : mD A) {Rf Nw Th Tp Tx Kd Ia It Lk Ho Sz Im Mv : Nat → Int} {kp ln sz at_ we pa de ti lf md mn hi ha is_ ca : Int} {m : Int} (hm9 : 1 ≤ m ∧ m ≤ 20) : z_D g mX9_draw 1 0 0 [z_r (A 0), z_i m] (MH h0 A Rf Nw Th Tp Tx Kd Ia It Lk Ho Sz Im Mv kp ln sz at_ we pa de ti lf md mn hi ha is_ ca) (z_Pi (drN Nw % 4294967296 / 65536 % m) (MH h0 A Rf (z_sf Nw 5024 (drN Nw)) Th Tp Tx Kd Ia It Lk Ho Sz Im Mv kp ln sz at_ we pa de ti lf md mn hi ha is_ ca)) := by
  refine z_D.of (by decide +kernel) (Nat.le_of_ble_eq_true rfl) (fun X F => ?_)
  show z_w g X cX9_draw RX9 (1, 0, 0) 0 [z_r (A 0), z_i m] [] (MH h0 A Rf Nw Th Tp Tx Kd Ia It Lk Ho Sz Im Mv kp ln sz at_ we pa de ti lf md mn hi ha is_ ca) 0 0
  refine z_aload_n dX9_draw_0 rfl ?_
  refine gf_X9_13 dX9_draw_1 MH_0 rfl ?_
  refine z_sipush dX9_draw_4 rfl ?_
  refine z_aload_n dX9_draw_7 rfl ?_
  refine gf_X9_13 dX9_draw_8 MH_0 rfl ?_
  refine z_sipush dX9_draw_11 rfl ?_
  refine z_ialdN (m := 5024) dX9_draw_14 (MH_2 hM) rfl ⟨by decide, by decide⟩ ?_
  refine z_ldcw dX9_draw_15 lw_X9_264 ?_
  refine z_imul dX9_draw_18 ?_
  refine z_sipush dX9_draw_19 rfl ?_
  refine z_iadd dX9_draw_22 ?_
  refine z_iastN (m := 5024) dX9_draw_23 (MH_2 hM) rfl ⟨by decide, by decide⟩ ?_
  refine z_heq (MHu_2 hM) ?_
  refine z_aload_n dX9_draw_24 rfl ?_
  refine gf_X9_13 dX9_draw_25 MH_0 rfl ?_
  refine z_sipush dX9_draw_28 rfl ?_
  refine z_ialdN (m := 5024) dX9_draw_31 (MH_2 hM) rfl ⟨by decide, by decide⟩ ?_
  refine z_ieq (y := drN Nw) z_sf_s ?_
  refine z_bipush dX9_draw_32 rfl ?_
  refine z_iushr16 dX9_draw_34 ?_
  refine z_iload_n dX9_draw_35 rfl ?_
  refine z_irem dX9_draw_36 ⟨by omega, by omega⟩ ⟨by omega, by omega⟩ ?_
  exact z_iret F dX9_draw_37 rfl (by decide) ⟨rfl, rfl⟩
set_option maxHeartbeats 4000000 in
set_option maxRecDepth 100000 in
theorem D_X9_refuses {g : z_G} {h0 : z_H} {A : Nat → Nat} (hM : mD A) {Rf Nw Th Tp Tx Kd Ia It Lk Ho Sz Im Mv : Nat → Int} {kp ln sz at_ we pa de ti lf md mn hi ha is_ ca : Int} {c : Nat} (hc : c < 5) : z_D g mX9_refuses 1 0 0 [z_r (A 0), z_i (-92 - (c : Int))] (MH h0 A Rf Nw Th Tp Tx Kd Ia It Lk Ho Sz Im Mv kp ln sz at_ we pa de ti lf md mn hi ha is_ ca) (z_Pi (-92 - (c : Int)) (MH h0 A (z_sf Rf c (Rf c + 1)) Nw Th Tp Tx Kd Ia It Lk Ho Sz Im Mv kp ln sz at_ we pa de ti lf md mn hi ha is_ ca)) := by
  refine z_D.of (by decide +kernel) (Nat.le_of_ble_eq_true rfl) (fun X F => ?_)
  show z_w g X cX9_refuses RX9 (1, 0, 0) 0 [z_r (A 0), z_i (-92 - (c : Int))] [] (MH h0 A Rf Nw Th Tp Tx Kd Ia It Lk Ho Sz Im Mv kp ln sz at_ we pa de ti lf md mn hi ha is_ ca) 0 0
  refine z_aload_n dX9_refuses_0 rfl ?_
  refine gf_X9_1 dX9_refuses_1 MH_0 rfl ?_
  refine z_bipush dX9_refuses_4 rfl ?_
  refine z_iload_n dX9_refuses_6 rfl ?_
  refine z_isub dX9_refuses_7 ?_
  refine z_dup2 dX9_refuses_8 rfl rfl ?_
  refine z_ialdN (m := c) dX9_refuses_9 (MH_1 hM) (by omega) ⟨by omega, by omega⟩ ?_
  refine z_iconst dX9_refuses_10 ?_
  refine z_iadd dX9_refuses_11 ?_
  refine z_iastN (m := c) dX9_refuses_12 (MH_1 hM) (by omega) ⟨by omega, by omega⟩ ?_
  refine z_heq (MHu_1 hM) ?_
  refine z_iload_n dX9_refuses_13 rfl ?_
  exact z_iret F dX9_refuses_14 rfl (by decide) ⟨congrArg (fun z => some (z_i z)) (by rfl), rfl⟩
