/-! String constants: length, charAt; copyOf of an int row -/
theorem lkJ_38 : Cond.fieldLink RJ0 38 "java/lang/String" "COMPACT_STRINGS" "Z" ∈ z_W := z_at1 480 (by decide +kernel) (by decide +kernel)
theorem lkJ_15 : Cond.fieldLink RJ0 15 "java/lang/String" "coder" "B" ∈ z_W := z_at1 1361 (by decide +kernel) (by decide +kernel)
theorem lkJ_9 : Cond.fieldLink RJ0 9 "java/lang/String" "value" "[B" ∈ z_W := z_at1 1360 (by decide +kernel) (by decide +kernel)
theorem lkJ_1053 : Cond.fieldLink RJ0 1053 "jdk/internal/util/Preconditions" "SIOOBE_FORMATTER" "Ljava/util/function/BiFunction;" ∈ z_W := z_at1 496 (by decide +kernel) (by decide +kernel)
theorem lmJ_335 : Cond.methodLink RJ0 335 yJ0_coder_7d493 ∈ z_W := z_at1 476 (by decide +kernel) (by decide +kernel)
theorem lmJ_492 : Cond.methodLink RJ0 492 yJ0_isLatin1_aae02 ∈ z_W := z_at1 486 (by decide +kernel) (by decide +kernel)
theorem lmX_3_108 : Cond.methodLink RX3 108 yJ0_length_8abf5 ∈ z_W := z_at1 472 (by decide +kernel) (by decide +kernel)
theorem lmX_3_114 : Cond.methodLink RX3 114 yJ0_charAt_5068e ∈ z_W := z_at1 482 (by decide +kernel) (by decide +kernel)
theorem lmX_7_70 : Cond.methodLink RX7 70 yJ0_length_8abf5 ∈ z_W := z_at1 791 (by decide +kernel) (by decide +kernel)
theorem lmX_7_76 : Cond.methodLink RX7 76 yJ0_charAt_5068e ∈ z_W := z_at1 792 (by decide +kernel) (by decide +kernel)
section ZJ
variable {g : z_G} {X : z_X} {cc : ByteArray} {own : String} {r : Nat × Nat × Nat} {pc k n : Nat} {ls st : List z_V} {h : z_H}
theorem z_callT {M : z_M} {d mc ms ix nargs i : Nat} {args rest : List z_V} {P : z_P} (hi : i < 10) (hG : GoodIn z_W (wsV own ix "java/lang/String" M.1 (z_ws M))) (hC : M.1.cls = "java/lang/String") (hs : z_hs M nargs) (hml : M.2.2.1 ≤ 22)
    (hd : decode cc pc = .ok (.invokevirtual ix, 3)) (D : z_D g M d mc ms (z_r (g_K g i) :: args) h P) (hst : st = args.reverse ++ z_r (g_K g i) :: rest) (hn : args.length = nargs) (hct : ((rest.map z_v).map fun v => v.category).sum ≤ 8) (hr : d + 1 ≤ r.1 ∧ k + mc ≤ r.2.1 ∧ n + ms ≤ r.2.2)
    (kk : ∀ rv h', P rv h' → z_w g X cc own r (pc + 3) ls (rv.toList ++ rest) h' (k + mc) (n + ms)) : z_w g X cc own r pc ls st h k n := fun C0 H locs S hR hS hL => by
  refine z_cont (arr := (Value.ref (g_K g i) :: args.map z_v).toArray) C0 hS hL ?_ kk
  exact va_runV (As := args.map z_v) (rest := rest.map z_v) ⟨C0.1, C0.2.1, C0.2.2.1, C0.2.2.2.1, C0.2.2.2.2.1⟩ D (cwV nargs C0.2.2.2.2.1 hG rfl rfl rfl ⟨hC, hs⟩ (z_pre hml hr.1 C0.2.2.2.2.2.2.2.1 C0.2.2.2.2.2.2.2.2.2.2))
    ⟨z_Pcb g _ h, vk_recv C0.2.2.2.2.2.1.2.1.2.1 hi hS, fun U hU hW => ⟨rfl, by rw [hU]; exact hR, z_S.moved hW (by rw [hU]; exact hS.1) (fun q h1 h2 => by rw [hU]; exact hS.2.1 q h1 h2) C0.2.2.2.2.2.1⟩⟩
    rfl (by simpa using hn) hL.2.1 (by rw [hst]; simp [z_v, va_rf]) (by simpa using hct) hd ⟨Nat.le_trans hr.2.1 C0.2.2.2.2.2.2.2.2.1, Nat.le_trans hr.2.2 C0.2.2.2.2.2.2.2.2.2.1⟩
theorem z_getC {i : Nat} (hi : i < 10) (hd : decode cc pc = .ok (.getfield 15, 3)) (kk : z_w g X cc RJ0 r (pc + 3) ls (z_i 0 :: st) h k n) : z_w g X cc RJ0 r pc ls (z_r (g_K g i) :: st) h k n := fun C0 H locs S hR hS hL =>
  vk_getf (v := .int (Int32.ofInt 0)) C0.1 C0.2.1 (C0.2.2.2.2.2.1.2.1.2.1.1 i hi).2.1 hS C0.2.2.2.1 (C0.2.2.2.2.1 _ lkJ_15) (fun x hx => hx) hd (kk C0 H locs S hR hS hL)
theorem z_getV {i : Nat} (hi : i < 10) (hd : decode cc pc = .ok (.getfield 9, 3)) (kk : z_w g X cc RJ0 r (pc + 3) ls (z_r (g_W g i) :: st) h k n) : z_w g X cc RJ0 r pc ls (z_r (g_K g i) :: st) h k n := fun C0 H locs S hR hS hL =>
  vk_getf (v := .ref (g_W g i)) C0.1 C0.2.1 (C0.2.2.2.2.2.1.2.1.2.1.1 i hi).2.2.1 hS C0.2.2.2.1 (C0.2.2.2.2.1 _ lkJ_9) (fun x hx => hx) hd (kk C0 H locs S hR hS hL)
theorem z_lenB {i : Nat} (hi : i < 10) (hd : decode cc pc = .ok (.arraylength, 1)) (kk : z_w g X cc own r (pc + 1) ls (z_i ((z_sn.getD i 0 : Nat) : Int) :: st) h k n) : z_w g X cc own r pc ls (z_r (g_W g i) :: st) h k n := fun C0 H locs S hR hS hL =>
  va_tlen C0.1 C0.2.1 (C0.2.2.2.2.2.1.2.1.2.1.1 i hi).2.2.2 hS (z_ofN _) hd (kk C0 H locs S hR hS hL)
theorem z_baldB {i : Nat} {j : Int} (hi : i < 10) (hd : decode cc pc = .ok (.baload, 1)) (hj : 0 ≤ j ∧ j < ((z_sn.getD i 0 : Nat) : Int)) (hj2 : j < 2) (kk : z_w g X cc own r (pc + 1) ls (z_i ((z_sb.getD i []).getD j.toNat 0).toInt :: st) h k n) : z_w g X cc own r pc ls (z_i j :: z_r (g_W g i) :: st) h k n := fun C0 H locs S hR hS hL =>
  va_tb (i := Int32.ofInt j) (v := .int ((z_sb.getD i []).getD j.toNat 0)) C0.1 C0.2.1 (C0.2.2.2.2.2.1.2.1.2.1.1 i hi).2.2.2 hS (z_vin hj.1 hj.2 (by omega)) (by rw [z_clamp hj.1 (by omega)]) hd (by
    have h1 := kk C0 H locs S hR hS hL
    rw [List.map_cons] at h1
    have e : z_v (z_i ((z_sb.getD i []).getD j.toNat 0).toInt) = .int ((z_sb.getD i []).getD j.toNat 0) := by
      show Value.int (Int32.ofInt _) = _
      rw [Int32.ofInt_toInt]
    rw [e] at h1
    exact h1)
theorem z_getsC (hd : decode cc pc = .ok (.getstatic 38, 3)) (kk : z_w g X cc RJ0 r (pc + 3) ls (z_i 1 :: st) h k n) : z_w g X cc RJ0 r pc ls st h k n := fun C0 H locs S hR hS hL =>
  va_gets (v := .int (Int32.ofInt 1)) C0.1 C0.2.1 C0.2.2.2.2.2.1.2.1.2.2.2.1 hS C0.2.2.2.1 (C0.2.2.2.2.1 _ lkJ_38) (fun x hx => hx) hd (kk C0 H locs S hR hS hL)
theorem z_getsF (hd : decode cc pc = .ok (.getstatic 1053, 3)) (kk : ∀ o : Option Nat, z_w g X cc RJ0 r (pc + 3) ls (z_q o :: st) h k n) : z_w g X cc RJ0 r pc ls st h k n := fun C0 H locs S hR hS hL => by
  rcases C0.2.2.2.2.2.1.2.1.2.2.2.2.1 with hz | ⟨t, hz⟩
  · exact va_gets (v := .null) C0.1 C0.2.1 hz hS C0.2.2.2.1 (C0.2.2.2.2.1 _ lkJ_1053) (fun x hx => hx) hd (kk none C0 H locs S hR hS hL)
  · exact va_gets (v := .ref t) C0.1 C0.2.1 hz hS C0.2.2.2.1 (C0.2.2.2.2.1 _ lkJ_1053) (fun x hx => hx) hd (kk (some t) C0 H locs S hR hS hL)
theorem z_ishr0 {a : Int} (hd : decode cc pc = .ok (.ishr, 1)) (kk : z_w g X cc own r (pc + 1) ls (z_i a :: st) h k n) : z_w g X cc own r pc ls (z_i 0 :: z_i a :: st) h k n := fun C0 H locs S hR hS hL =>
  lv_ishr (x := Int32.ofInt a) (y := Int32.ofInt 0) C0.1 C0.2.1 hd (by
    have e : Int32.ofInt a >>> (Int32.ofInt 0 &&& 31) = Int32.ofInt a := sb_shr0 _
    rw [e]
    exact kk C0 H locs S hR hS hL)
theorem z_iand255 {a : Int} (ha : 0 ≤ a ∧ a < 256) (hd : decode cc pc = .ok (.iand, 1)) (kk : z_w g X cc own r (pc + 1) ls (z_i a :: st) h k n) : z_w g X cc own r pc ls (z_i 255 :: z_i a :: st) h k n := fun C0 H locs S hR hS hL => by
  refine lv_iand (x := Int32.ofInt a) (y := Int32.ofInt 255) C0.1 C0.2.1 hd ?_
  have e : Int32.ofInt a &&& Int32.ofInt 255 = Int32.ofInt a := by
    rw [pk_and (Int32.ofInt a) 8 (by decide), z_tbN]
    show Int32.ofNat _ = _
    rw [z_ofN]
    congr 1
    omega
  rw [e]
  exact kk C0 H locs S hR hS hL
theorem z_i2c {a : Int} (ha : 0 ≤ a ∧ a < 256) (hd : decode cc pc = .ok (.i2c, 1)) (kk : z_w g X cc own r (pc + 1) ls (z_i a :: st) h k n) : z_w g X cc own r pc ls (z_i a :: st) h k n := fun C0 H locs S hR hS hL =>
  lv_i2c (x := Int32.ofInt a) (v := Int32.ofInt a) C0.1 C0.2.1 hd (by rw [pk_char, z_tbN]; show Int32.ofNat _ = _; rw [z_ofN]; congr 1; omega) (kk C0 H locs S hR hS hL)
theorem z_ldcS {ix i : Nat} (hi : i < 10) (hix : z_sc.getD i 0 = ix) (hd : decode cc pc = .ok (.ldc ix, 2)) (kk : z_w g X cc RX2 r (pc + 2) ls (z_r (g_K g i) :: st) h k n) : z_w g X cc RX2 r pc ls st h k n := fun C0 H locs S hR hS hL => by
  subst hix
  exact va_ldcS C0.1 C0.2.1 C0.2.2.2.1 (C0.2.2.2.2.2.1.2.1.2.2.1 i hi) hd (kk C0 H locs S hR hS hL)
theorem z_tret {M : z_M} {P : z_P} {z : Int} {ty : FieldType} (F : z_F g X M r P) (hd : decode cc pc = .ok (.ireturn, 1)) (ht : M.2.2.2 = some ty) (hn : narrow ty (.int (Int32.ofInt z)) = .int (Int32.ofInt z)) (hk : k ≤ r.2.1 ∧ n ≤ r.2.2) (hP : P (some (z_i z)) h) : z_w g X cc own r pc ls [z_i z] h k n := fun C0 H locs S hR hS hL => by
  refine W.widen hk.1 hk.2 ?_
  rw [F.1]
  exact W.zret (v := Int32.ofInt z) C0.1 C0.2.1 (F.2.1.trans ht) hn (z_ret0 (rv := some (z_i z)) hR hS hP) hS.2.2 hd (hlocks := C0.2.2.2.2.2.2.1)
end ZJ
/-- the sign at j of the i-th constant -/
def zc (i j : Nat) : Int := ((z_sb.getD i []).getD j 0).toInt
theorem zc_in : ∀ i, i < 10 → ∀ j, j < 2 → 0 ≤ zc i j ∧ zc i j < 256 := by decide
theorem zs_len : ∀ i, i < 10 → z_sn.getD i 0 ≤ 2 := by decide
set_option maxHeartbeats 4000000 in
set_option maxRecDepth 100000 in
theorem D_J0_coder {g : z_G} {h : z_H} {i : Nat} (hi : i < 10) : z_D g mJ0_coder_7d493 1 0 0 [z_r (g_K g i)] h (z_Pi 0 h) := by
  refine z_D.of (by decide +kernel) (Nat.le_of_ble_eq_true rfl) (fun X F => ?_)
  show z_w g X cJ0_coder_7d493 RJ0 (1, 0, 0) 0 [z_r (g_K g i)] [] h 0 0
  refine z_getsC dJ0_coder_7d493_0 ?_
  refine z_if_eq dJ0_coder_7d493_3 (tgt := 13) rfl (by decide) (fun c1 => ?_) (fun c1 => ?_)
  · exact absurd c1 (by decide)
  refine z_aload_n dJ0_coder_7d493_6 rfl ?_
  refine z_getC hi dJ0_coder_7d493_7 ?_
  refine z_goto dJ0_coder_7d493_10 (tgt := 14) rfl ?_
  exact z_tret F dJ0_coder_7d493_14 rfl (by decide) (by decide) ⟨rfl, rfl⟩
set_option maxHeartbeats 4000000 in
set_option maxRecDepth 100000 in
theorem D_J0_isLatin1 {g : z_G} {h : z_H} {i : Nat} (hi : i < 10) : z_D g mJ0_isLatin1_aae02 1 0 0 [z_r (g_K g i)] h (z_Pi 1 h) := by
  refine z_D.of (by decide +kernel) (Nat.le_of_ble_eq_true rfl) (fun X F => ?_)
  show z_w g X cJ0_isLatin1_aae02 RJ0 (1, 0, 0) 0 [z_r (g_K g i)] [] h 0 0
  refine z_getsC dJ0_isLatin1_aae02_0 ?_
  refine z_if_eq dJ0_isLatin1_aae02_3 (tgt := 17) rfl (by decide) (fun c1 => ?_) (fun c1 => ?_)
  · exact absurd c1 (by decide)
  refine z_aload_n dJ0_isLatin1_aae02_6 rfl ?_
  refine z_getC hi dJ0_isLatin1_aae02_7 ?_
  refine z_if_ne dJ0_isLatin1_aae02_10 (tgt := 17) rfl (by decide) (fun c1 => ?_) (fun c1 => ?_)
  · exact absurd rfl c1
  refine z_iconst dJ0_isLatin1_aae02_13 ?_
  refine z_goto dJ0_isLatin1_aae02_14 (tgt := 18) rfl ?_
  exact z_zret F dJ0_isLatin1_aae02_18 rfl (by omega) (by decide) ⟨rfl, rfl⟩
set_option maxHeartbeats 4000000 in
set_option maxRecDepth 100000 in
theorem D_J0_length {g : z_G} {h : z_H} {i : Nat} (hi : i < 10) : z_D g mJ0_length_8abf5 2 0 0 [z_r (g_K g i)] h (z_Pi ((z_sn.getD i 0 : Nat) : Int) h) := by
  refine z_D.of (by decide +kernel) (Nat.le_of_ble_eq_true rfl) (fun X F => ?_)
  show z_w g X cJ0_length_8abf5 RJ0 (2, 0, 0) 0 [z_r (g_K g i)] [] h 0 0
  refine z_aload_n dJ0_length_8abf5_0 rfl ?_
  refine z_getV hi dJ0_length_8abf5_1 ?_
  refine z_lenB hi dJ0_length_8abf5_4 ?_
  refine z_aload_n dJ0_length_8abf5_5 rfl ?_
  refine z_callT hi (z_gV (M := mJ0_coder_7d493) lmJ_335 wm_J0_coder_7d493 ws_J0_coder_7d493 wi_J0 wc_J0_coder_7d493) rfl ⟨by decide, by decide, by decide +kernel⟩ (by decide) dJ0_length_8abf5_6 (D_J0_coder hi) rfl (nargs := 0) rfl (Nat.le_of_ble_eq_true rfl) (by decide) (z_ki ?_)
  refine z_ishr0 dJ0_length_8abf5_9 ?_
  exact z_iret F dJ0_length_8abf5_10 rfl (by decide) ⟨rfl, rfl⟩
set_option maxHeartbeats 4000000 in
set_option maxRecDepth 100000 in
theorem D_J3_checkIndex {g : z_G} {h : z_H} {j m : Int} (hj : 0 ≤ j ∧ j < m) (hm : m < 1000) {o : Option Nat} : z_D g mJ3_checkIndex_8e157 1 0 0 [z_i j, z_i m, z_q o] h (z_Pi j h) := by
  refine z_D.of (by decide +kernel) (Nat.le_of_ble_eq_true rfl) (fun X F => ?_)
  show z_w g X cJ3_checkIndex_8e157 RJ3 (1, 0, 0) 0 [z_i j, z_i m, z_q o] [] h 0 0
  refine z_iload_n dJ3_checkIndex_8e157_0 rfl ?_
  refine z_if_lt dJ3_checkIndex_8e157_1 (tgt := 9) rfl ⟨by omega, by omega⟩ (fun c1 => absurd c1 (by omega)) (fun c1 => ?_)
  refine z_iload_n dJ3_checkIndex_8e157_4 rfl ?_
  refine z_iload_n dJ3_checkIndex_8e157_5 rfl ?_
  refine z_icmp_lt dJ3_checkIndex_8e157_6 (tgt := 16) rfl ⟨by omega, by omega⟩ ⟨by omega, by omega⟩ (fun c2 => ?_) (fun c2 => absurd hj.2 c2)
  refine z_iload_n dJ3_checkIndex_8e157_16 rfl ?_
  exact z_iret F dJ3_checkIndex_8e157_17 rfl (by decide) ⟨rfl, rfl⟩
set_option maxHeartbeats 4000000 in
set_option maxRecDepth 100000 in
theorem D_J0_checkIndex {g : z_G} {h : z_H} {j m : Int} (hj : 0 ≤ j ∧ j < m) (hm : m < 1000) : z_D g mJ0_checkIndex_df160 2 0 0 [z_i j, z_i m] h (z_Pv h) := by
  refine z_D.of (by decide +kernel) (Nat.le_of_ble_eq_true rfl) (fun X F => ?_)
  show z_w g X cJ0_checkIndex_df160 RJ0 (2, 0, 0) 0 [z_i j, z_i m] [] h 0 0
  refine z_iload_n dJ0_checkIndex_df160_0 rfl ?_
  refine z_iload_n dJ0_checkIndex_df160_1 rfl ?_
  refine z_getsF dJ0_checkIndex_df160_2 (fun o => ?_)
  refine cs_J0_1059 dJ0_checkIndex_df160_5 (D_J3_checkIndex hj hm (o := o)) rfl rfl (Nat.le_of_ble_eq_true rfl) (by decide) (z_ki ?_)
  refine z_pop dJ0_checkIndex_df160_8 rfl ?_
  exact z_vret F dJ0_checkIndex_df160_9 rfl (by decide) ⟨rfl, rfl⟩
set_option maxHeartbeats 4000000 in
set_option maxRecDepth 100000 in
theorem D_J1_charAt {g : z_G} {h : z_H} {i : Nat} (hi : i < 10) {j : Int} (hj : 0 ≤ j ∧ j < ((z_sn.getD i 0 : Nat) : Int)) : z_D g mJ1_charAt_3b067 3 0 0 [z_r (g_W g i), z_i j] h (z_Pi (zc i j.toNat) h) := by
  refine z_D.of (by decide +kernel) (Nat.le_of_ble_eq_true rfl) (fun X F => ?_)
  show z_w g X cJ1_charAt_3b067 RJ1 (3, 0, 0) 0 [z_r (g_W g i), z_i j] [] h 0 0
  have hl := zs_len i hi
  have hz := zc_in i hi j.toNat (by omega)
  refine z_iload_n dJ1_charAt_3b067_0 rfl ?_
  refine z_aload_n dJ1_charAt_3b067_1 rfl ?_
  refine z_lenB hi dJ1_charAt_3b067_2 ?_
  refine cs_J1_9 dJ1_charAt_3b067_3 (D_J0_checkIndex hj (by omega)) rfl rfl (Nat.le_of_ble_eq_true rfl) (by decide) (z_kv ?_)
  refine z_aload_n dJ1_charAt_3b067_6 rfl ?_
  refine z_iload_n dJ1_charAt_3b067_7 rfl ?_
  refine z_baldB hi dJ1_charAt_3b067_8 hj (by omega) ?_
  refine z_sipush dJ1_charAt_3b067_9 rfl ?_
  refine z_iand255 hz dJ1_charAt_3b067_12 ?_
  refine z_i2c hz dJ1_charAt_3b067_13 ?_
  exact z_tret F dJ1_charAt_3b067_14 rfl ((by decide : ∀ i, i < 10 → ∀ j, j < 2 → narrow .char (.int (Int32.ofInt (zc i j))) = .int (Int32.ofInt (zc i j))) i hi j.toNat (by omega)) (by decide) ⟨rfl, rfl⟩
set_option maxHeartbeats 4000000 in
set_option maxRecDepth 100000 in
theorem D_J0_charAt {g : z_G} {h : z_H} {i : Nat} (hi : i < 10) {j : Int} (hj : 0 ≤ j ∧ j < ((z_sn.getD i 0 : Nat) : Int)) : z_D g mJ0_charAt_5068e 4 0 0 [z_r (g_K g i), z_i j] h (z_Pi (zc i j.toNat) h) := by
  refine z_D.of (by decide +kernel) (Nat.le_of_ble_eq_true rfl) (fun X F => ?_)
  show z_w g X cJ0_charAt_5068e RJ0 (4, 0, 0) 0 [z_r (g_K g i), z_i j] [] h 0 0
  have hl := zs_len i hi
  refine z_aload_n dJ0_charAt_5068e_0 rfl ?_
  refine z_callT hi (z_gV (M := mJ0_isLatin1_aae02) lmJ_492 wm_J0_isLatin1_aae02 ws_J0_isLatin1_aae02 wi_J0 wc_J0_isLatin1_aae02) rfl ⟨by decide, by decide, by decide +kernel⟩ (by decide) dJ0_charAt_5068e_1 (D_J0_isLatin1 hi) rfl (nargs := 0) rfl (Nat.le_of_ble_eq_true rfl) (by decide) (z_ki ?_)
  refine z_if_eq dJ0_charAt_5068e_4 (tgt := 16) rfl (by decide) (fun c1 => ?_) (fun c1 => ?_)
  · exact absurd c1 (by decide)
  refine z_aload_n dJ0_charAt_5068e_7 rfl ?_
  refine z_getV hi dJ0_charAt_5068e_8 ?_
  refine z_iload_n dJ0_charAt_5068e_11 rfl ?_
  refine cs_J0_495 dJ0_charAt_5068e_12 (D_J1_charAt hi hj) rfl rfl (Nat.le_of_ble_eq_true rfl) (by decide) (z_ki ?_)
  exact z_tret F dJ0_charAt_5068e_15 rfl ((by decide : ∀ i, i < 10 → ∀ j, j < 2 → narrow .char (.int (Int32.ofInt (zc i j))) = .int (Int32.ofInt (zc i j))) i hi j.toNat (by omega)) (by decide) ⟨rfl, rfl⟩
theorem D_X2_wordOf {g : z_G} {h : z_H} {a : Int} (ha : kOk a) : z_D g mX2_wordOf 1 0 0 [z_i a] h (z_Pq (some (g_K g (a - 4).toNat)) h) := by
  refine z_D.of (by decide +kernel) (Nat.le_of_ble_eq_true rfl) (fun X F => ?_)
  show z_w g X cX2_wordOf RX2 (1, 0, 0) 0 [z_i a] [] h 0 0
  refine z_iload_n dX2_wordOf_0 rfl ?_
  by_cases c0 : a = 4
  · subst c0
    refine z_tabIn dX2_wordOf_1 (by decide) (tgt := 52) (off := 51) (by decide) (by decide) rfl rfl ?_
    refine z_ldcS (i := 0) (by decide) rfl dX2_wordOf_52 ?_
    exact z_aret F dX2_wordOf_54 rfl (Or.inl ⟨_, rfl⟩) (by decide) ⟨rfl, rfl⟩
  by_cases c1 : a = 5
  · subst c1
    refine z_tabIn dX2_wordOf_1 (by decide) (tgt := 55) (off := 54) (by decide) (by decide) rfl rfl ?_
    refine z_ldcS (i := 1) (by decide) rfl dX2_wordOf_55 ?_
    exact z_aret F dX2_wordOf_57 rfl (Or.inl ⟨_, rfl⟩) (by decide) ⟨rfl, rfl⟩
  by_cases c2 : a = 6
  · subst c2
    refine z_tabIn dX2_wordOf_1 (by decide) (tgt := 58) (off := 57) (by decide) (by decide) rfl rfl ?_
    refine z_ldcS (i := 2) (by decide) rfl dX2_wordOf_58 ?_
    exact z_aret F dX2_wordOf_60 rfl (Or.inl ⟨_, rfl⟩) (by decide) ⟨rfl, rfl⟩
  by_cases c3 : a = 7
  · subst c3
    refine z_tabIn dX2_wordOf_1 (by decide) (tgt := 61) (off := 60) (by decide) (by decide) rfl rfl ?_
    refine z_ldcS (i := 3) (by decide) rfl dX2_wordOf_61 ?_
    exact z_aret F dX2_wordOf_63 rfl (Or.inl ⟨_, rfl⟩) (by decide) ⟨rfl, rfl⟩
  by_cases c4 : a = 8
  · subst c4
    refine z_tabIn dX2_wordOf_1 (by decide) (tgt := 64) (off := 63) (by decide) (by decide) rfl rfl ?_
    refine z_ldcS (i := 4) (by decide) rfl dX2_wordOf_64 ?_
    exact z_aret F dX2_wordOf_66 rfl (Or.inl ⟨_, rfl⟩) (by decide) ⟨rfl, rfl⟩
  by_cases c5 : a = 9
  · subst c5
    refine z_tabIn dX2_wordOf_1 (by decide) (tgt := 67) (off := 66) (by decide) (by decide) rfl rfl ?_
    refine z_ldcS (i := 5) (by decide) rfl dX2_wordOf_67 ?_
    exact z_aret F dX2_wordOf_69 rfl (Or.inl ⟨_, rfl⟩) (by decide) ⟨rfl, rfl⟩
  by_cases c6 : a = 10
  · subst c6
    refine z_tabIn dX2_wordOf_1 (by decide) (tgt := 70) (off := 69) (by decide) (by decide) rfl rfl ?_
    refine z_ldcS (i := 6) (by decide) rfl dX2_wordOf_70 ?_
    exact z_aret F dX2_wordOf_72 rfl (Or.inl ⟨_, rfl⟩) (by decide) ⟨rfl, rfl⟩
  by_cases c7 : a = 11
  · subst c7
    refine z_tabIn dX2_wordOf_1 (by decide) (tgt := 73) (off := 72) (by decide) (by decide) rfl rfl ?_
    refine z_ldcS (i := 7) (by decide) rfl dX2_wordOf_73 ?_
    exact z_aret F dX2_wordOf_75 rfl (Or.inl ⟨_, rfl⟩) (by decide) ⟨rfl, rfl⟩
  by_cases c8 : a = 12
  · subst c8
    refine z_tabIn dX2_wordOf_1 (by decide) (tgt := 76) (off := 75) (by decide) (by decide) rfl rfl ?_
    refine z_ldcS (i := 8) (by decide) rfl dX2_wordOf_76 ?_
    exact z_aret F dX2_wordOf_78 rfl (Or.inl ⟨_, rfl⟩) (by decide) ⟨rfl, rfl⟩
  exact absurd ha (by omega)
theorem wJ_cl1 : Cond.methodLink RJ7 316 ⟨"[I", "clone", "()Ljava/lang/Object;"⟩ ∈ z_W := z_at1 383 (by decide +kernel) (by decide +kernel)
theorem wJ_cl2 : Cond.sameMethod "[I" "java/lang/Object" "clone" "()Ljava/lang/Object;" ∈ z_W := z_at1 384 (by decide +kernel) (by decide +kernel)
theorem wJ_cl5 : Cond.selects "[I" ⟨"[I", "clone", "()Ljava/lang/Object;"⟩ ⟨"java/lang/Object", "clone", "()Ljava/lang/Object;"⟩ ∈ z_W := z_at1 387 (by decide +kernel) (by decide +kernel)
theorem wJ_cl6 : Cond.castable "[I" "java/lang/Cloneable" ∈ z_N := z_atN 388 (by decide +kernel) (by decide +kernel)
theorem wJ_cl7 : Cond.classLink RJ7 317 "[I" ∈ z_W := z_at1 389 (by decide +kernel) (by decide +kernel)
theorem wJ_cl3 : Cond.native ⟨"java/lang/Object", "clone", "()Ljava/lang/Object;"⟩ ∈ z_W := z_at1 385 (by decide +kernel) (by decide +kernel)
theorem wJ_cl4 : Cond.instanceMethod ⟨"java/lang/Object", "clone", "()Ljava/lang/Object;"⟩ ∈ z_W := z_at1 386 (by decide +kernel) (by decide +kernel)
section ZJ2
variable {g : z_G} {X : z_X} {cc : ByteArray} {r : Nat × Nat × Nat} {pc k n : Nat} {ls st : List z_V} {h : z_H}
theorem z_nmI {U : State} (hU : z_S g U) : U.vm.findClass "[I" = some (g_c g 0) := (hU.1.2 0 (g_c g 0, .int) rfl).2
theorem z_cloneI {a m : Nat} {f : Nat → Int} (hd : decode cc pc = .ok (.invokevirtual 316, 3)) (ha : h a = some (c_I m f)) (hr : 1 ≤ r.1 ∧ k + 1 ≤ r.2.1 ∧ n + m ≤ r.2.2) (hct : ((st.map z_v).map fun v => v.category).sum ≤ 8) (kk : ∀ q, h q = none → z_w g X cc RJ7 r (pc + 3) ls (z_r q :: st) (z_up h q (c_I m f)) (k + 1) (n + m)) : z_w g X cc RJ7 r pc ls (z_r a :: st) h k n := fun C0 H locs S hR hS hL => by
  obtain ⟨ws, hP, hD, hw⟩ := id hR
  obtain ⟨q0, hq⟩ := hw a _ ha
  refine va_clone C0.1 C0.2.1 (C0.2.2.1.trans hL.2.1.symm) C0.2.2.2.1 (C0.2.2.2.2.1 _ wJ_cl1) (C0.2.2.2.2.1 _ wJ_cl2) (C0.2.2.2.2.1 _ wJ_cl3) (C0.2.2.2.2.1 _ wJ_cl4) (C0.2.2.2.2.1 _ wJ_cl5) (C0.2.2.2.2.2.1.2.2.2.1 _ wJ_cl6) C0.2.2.2.2.2.1.1 hP hD hS (fun q hq => Nat.le_trans C0.2.2.2.2.2.1.2.2.1 hq) q0 0 hq rfl (z_nmI C0.2.2.2.2.2.1) ?_ (Nat.le_trans hr.1 C0.2.2.2.2.2.2.2.1) ?_ (Nat.le_trans hr.2.1 C0.2.2.2.2.2.2.2.2.1) (Nat.le_trans hr.2.2 C0.2.2.2.2.2.2.2.2.2.1) hd (fun q H1 hK1 hP1 hD1 hS1 => ?_)
  · intro i v hv
    have hs : i < m := by
      have := (Array.getElem?_eq_some_iff.mp hv).1
      rw [vp_cell_i, arrV_size] at this
      exact this
    rw [vp_cell_i, arrV_read _ _ hs] at hv
    cases hv
    rfl
  · have h8 := C0.2.2.2.2.2.2.2.2.2.2
    omega
  · obtain ⟨h1, h2⟩ := z_R.push (e1 := c_I m f) hw hP1 hD1
    exact kk q h2 C0 H1 locs S h1 hS1 hL
theorem z_castI {a m : Nat} {f : Nat → Int} (hd : decode cc pc = .ok (.checkcast 317, 3)) (ha : h a = some (c_I m f)) (kk : z_w g X cc RJ7 r (pc + 3) ls (z_r a :: st) h k n) : z_w g X cc RJ7 r pc ls (z_r a :: st) h k n := fun C0 H locs S hR hS hL => by
  obtain ⟨ws, hP, hD, hw⟩ := id hR
  obtain ⟨q0, hq⟩ := hw a _ ha
  exact va_castA C0.1 C0.2.1 C0.2.2.2.1 (C0.2.2.2.2.1 _ wJ_cl7) hP q0 hq (z_nmI C0.2.2.2.2.2.1) hd (kk C0 H locs S hR hS hL)
end ZJ2
set_option maxHeartbeats 4000000 in
set_option maxRecDepth 100000 in
theorem D_J7_copyOf {g : z_G} {h : z_H} {a m : Nat} {f : Nat → Int} (h1 : h a = some (c_I 250 f)) (hm : m ≤ 250) : z_D g mJ7_copyOf_59c91 2 1 250 [z_r a, z_i (m : Int)] h (fun rv h' => ∃ (q : Nat) (f' : Nat → Int), rv = some (z_r q) ∧ h q = none ∧ h' = z_up h q (c_I m f') ∧ ∀ j, j < m → f' j = f j) := by
  refine z_D.of (by decide +kernel) (Nat.le_of_ble_eq_true rfl) (fun X F => ?_)
  show z_w g X cJ7_copyOf_59c91 RJ7 (2, 1, 250) 0 [z_r a, z_i (m : Int), z_u] [] h 0 0
  refine z_iload_n dJ7_copyOf_59c91_0 rfl ?_
  refine z_aload_n dJ7_copyOf_59c91_1 rfl ?_
  refine z_alenI dJ7_copyOf_59c91_2 h1 ?_
  refine z_icmp_ne dJ7_copyOf_59c91_3 (tgt := 14) rfl ⟨by omega, by omega⟩ (by decide) (fun c1 => ?_) (fun c1 => ?_)
  · refine z_iload_n dJ7_copyOf_59c91_14 rfl ?_
    refine z_newI (N := m) wA_I dJ7_copyOf_59c91_15 rfl (by omega) ⟨by decide, by show 0 + m ≤ 250; omega⟩ (fun q hq => ?_)
    refine z_astore_n dJ7_copyOf_59c91_17 (Nat.le_of_ble_eq_true rfl) rfl ?_
    refine z_aload_n dJ7_copyOf_59c91_18 rfl ?_
    refine z_iconst dJ7_copyOf_59c91_19 ?_
    refine z_aload_n dJ7_copyOf_59c91_20 rfl ?_
    refine z_iconst dJ7_copyOf_59c91_21 ?_
    refine z_aload_n dJ7_copyOf_59c91_22 rfl ?_
    have hqa : a ≠ q := fun e => by rw [e, hq] at h1; cases h1
    refine z_alenI dJ7_copyOf_59c91_23 ((z_up_n hqa).trans h1) ?_
    refine z_iload_n dJ7_copyOf_59c91_24 rfl ?_
    refine mm_J7_304 dJ7_copyOf_59c91_25 (by decide) ⟨by omega, by omega⟩ ⟨by decide, by decide, by show 0 + m ≤ 250; omega⟩ (Nat.le_of_ble_eq_true rfl) ?_
    rw [show (if (m : Int) < ((250 : Nat) : Int) then (m : Int) else ((250 : Nat) : Int)) = (m : Int) by split <;> omega]
    refine acI_J7_150 dJ7_copyOf_59c91_28 ((z_up_n hqa).trans h1) z_up_s ⟨by omega, by omega, by omega, by omega, by omega, by omega, by omega⟩ (by decide) (Nat.le_of_ble_eq_true rfl) ?_
    refine z_aload_n dJ7_copyOf_59c91_31 rfl ?_
    exact z_aret F dJ7_copyOf_59c91_32 rfl (Or.inr ⟨_, rfl⟩) ⟨by decide, by show 0 + m ≤ 250; omega⟩ ⟨q, _, rfl, hq, z_up_up, fun j hj => by unfold va_cpy; rw [if_pos (by omega)]; congr 1; omega⟩
  · refine z_aload_n dJ7_copyOf_59c91_6 rfl ?_
    obtain rfl : m = 250 := by omega
    refine z_cloneI dJ7_copyOf_59c91_7 h1 (by decide) (Nat.le_of_ble_eq_true rfl) (fun q hq => ?_)
    refine z_castI dJ7_copyOf_59c91_10 z_up_s ?_
    exact z_aret F dJ7_copyOf_59c91_13 rfl (Or.inr ⟨_, rfl⟩) (by decide) ⟨q, _, rfl, hq, rfl, fun j hj => rfl⟩
