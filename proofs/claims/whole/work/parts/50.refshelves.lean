/-! the reference: shelves, status -/
/-- shelves as they must be -/
def hWf (Ho Sz : z_row) : Prop := ∀ s, s < 8 → (Ho s = -1 ∨ (0 ≤ Ho s ∧ Ho s ≤ 4) ∨ (14 ≤ Ho s ∧ Ho s ≤ 22)) ∧ 0 ≤ Sz s ∧ Sz s ≤ 40
def iWf (Im : z_row) : Prop := ∀ k, k < 320 → z_inL (Im k)
abbrev isS (s : Int) : Prop := 0 ≤ s ∧ s ≤ 7
def rfB (Rf : z_row) (c : Int) : z_row := z_sf Rf (-92 - c).toNat (Rf (-92 - c).toNat + 1)
def amB (Ho : z_row) (s : Int) : Int := if 0 ≤ s ∧ s ≤ 7 then amI (Ho s.toNat) else -92
theorem amI_c (x : Int) : amI x = 0 ∨ amI x = -94 ∨ amI x = -93 := by
  unfold amI
  repeat' split
  all_goals omega
theorem amB_c (Ho : z_row) (s : Int) : amB Ho s = 0 ∨ amB Ho s = -94 ∨ amB Ho s = -93 ∨ amB Ho s = -92 := by
  unfold amB
  split
  · have := amI_c (Ho s.toNat)
    omega
  · omega
theorem amI_0 {x : Int} (h : amI x = 0) : 0 ≤ x ∧ x ≤ 9 := by
  unfold amI at h
  by_cases c : x < 0
  · rw [if_pos c] at h; omega
  · rw [if_neg c] at h
    by_cases c2 : x > 9
    · rw [if_pos c2] at h; omega
    · omega
def jdG (z : Nat) (im f : z_row) (n : Int) : Nat → Nat → Int
  | 0, _ => if (z : Int) > n then n else -1
  | r + 1, k => if z ≤ k ∨ im k ≠ f k then (k : Int) else jdG z im f n r (k + 1)
def syV (is k : Int) : Int := if k = 0 then kY is else if k = 1 then 1 else if k = 2 then kM is else if k = 3 then kT is - kM is else if k = 6 then 4 else if k = 7 ∨ k = 8 then is else if k = 11 then 0 else if k = 12 then 2 else kTu is
def hcF (Ho : z_row) : Nat → Int
  | 0 => 0
  | m + 1 => hcF Ho m + (if Ho m < 0 then 0 else 1)
def sttV (Rf N Ho : z_row) (ln what : Int) : Int := if 12 ≤ what ∧ what ≤ 16 then Rf (what - 12).toNat else if what = 0 then N 5020 else if what = 1 then N 5025 else if what = 2 then N 5023 else if what = 3 then N 5022 else if what = 4 then N 5021 else if what = 5 then ln else if what = 6 then N 5024 else if what = 7 then hcF Ho 8 else -1
theorem D_X9_refc {g : z_G} {h0 : z_H} {A : Nat → Nat} (hM : mD A) {Rf Nw Th Tp Tx Kd Ia It Lk Ho Sz Im Mv : Nat → Int} {kp ln sz at_ we pa de ti lf md mn hi ha is_ ca : Int} {c : Int} (hc : c = -92 ∨ c = -93 ∨ c = -94) : z_D g mX9_refuses 1 0 0 [z_r (A 0), z_i c] (MH h0 A Rf Nw Th Tp Tx Kd Ia It Lk Ho Sz Im Mv kp ln sz at_ we pa de ti lf md mn hi ha is_ ca) (z_Pi c (MH h0 A (rfB Rf c) Nw Th Tp Tx Kd Ia It Lk Ho Sz Im Mv kp ln sz at_ we pa de ti lf md mn hi ha is_ ca)) := by
  rcases hc with rfl | rfl | rfl
  · exact D_X9_ref0 hM
  · exact D_X9_ref1 hM
  · exact D_X9_ref2 hM
set_option maxHeartbeats 4000000 in
set_option maxRecDepth 100000 in
theorem D_X9_row {g : z_G} {h0 : z_H} {A : Nat → Nat} (hM : mD A) {Rf Nw Th Tp Tx Kd Ia It Lk Ho Sz Im Mv : Nat → Int} {kp ln sz at_ we pa de ti lf md mn hi ha is_ ca : Int} (hhs : hWf Ho Sz) {si so n9 : Int} (hsi : z_in si) (hso : z_in so) (hn9 : z_in n9) : z_D g mX9_row 3 0 0 [z_r (A 0), z_i si, z_i so, z_i n9] (MH h0 A Rf Nw Th Tp Tx Kd Ia It Lk Ho Sz Im Mv kp ln sz at_ we pa de ti lf md mn hi ha is_ ca) (fun rv h' => (isS si ∧ (0 ≤ so ∧ so ≤ 4) ∧ 0 ≤ n9 ∧ n9 ≤ 40 → rv = some (z_i 1) ∧ h' = (MH h0 A Rf Nw Th Tp Tx Kd Ia It Lk (z_sf Ho si.toNat so) (z_sf Sz si.toNat n9) (cpA Im (40 * si.toNat) 40 (fun _ => 0)) Mv kp ln sz at_ we pa de ti lf md mn hi ha is_ ca)) ∧ (¬ (isS si ∧ (0 ≤ so ∧ so ≤ 4) ∧ 0 ≤ n9 ∧ n9 ≤ 40) → rv = some (z_i (-92)) ∧ h' = (MH h0 A (z_sf Rf 0 (Rf 0 + 1)) Nw Th Tp Tx Kd Ia It Lk Ho Sz Im Mv kp ln sz at_ we pa de ti lf md mn hi ha is_ ca))) := by
  refine z_D.of (by decide +kernel) (Nat.le_of_ble_eq_true rfl) (fun X F => ?_)
  show z_w g X cX9_row RX9 (3, 0, 0) 0 [z_r (A 0), z_i si, z_i so, z_i n9, z_u] [] (MH h0 A Rf Nw Th Tp Tx Kd Ia It Lk Ho Sz Im Mv kp ln sz at_ we pa de ti lf md mn hi ha is_ ca) 0 0
  refine z_iload_n dX9_row_0 rfl ?_
  refine cs_X9_254 dX9_row_1 (D_X9_isShelf (s := si) ⟨by omega, by omega⟩) rfl rfl (Nat.le_of_ble_eq_true rfl) (by decide) (z_ki ?_)
  refine z_if_eq dX9_row_4 (tgt := 31) rfl ⟨by split <;> omega, by split <;> omega⟩ (fun c1 => ?_) (fun c1 => ?_)
  · skip
    refine z_aload_n dX9_row_31 rfl ?_
    refine z_bipush dX9_row_32 rfl ?_
    refine cs_X9_60 dX9_row_34 (D_X9_ref0 hM) MH_0 rfl rfl (Nat.le_of_ble_eq_true rfl) (by decide) (z_ki ?_)
    exact z_iret F dX9_row_37 rfl (by decide) ⟨fun q => absurd q (by omega), fun q => ⟨rfl, rfl⟩⟩
  · skip
    refine z_iload_n dX9_row_7 rfl ?_
    refine z_i2l dX9_row_8 ⟨by omega, by omega⟩ ?_
    refine z_lconst0 dX9_row_9 ?_
    refine z_ldc2 dX9_row_10 lw_X9_257 ?_
    refine cs_X9_56 dX9_row_13 (D_X9_isIn (v := so) (lo := 0) (hi := 4) ⟨by omega, by omega⟩ (by decide) (by decide)) rfl rfl (Nat.le_of_ble_eq_true rfl) (by decide) (z_ki ?_)
    refine z_if_eq dX9_row_16 (tgt := 31) rfl ⟨by split <;> omega, by split <;> omega⟩ (fun c2 => ?_) (fun c2 => ?_)
    · skip
      refine z_aload_n dX9_row_31 rfl ?_
      refine z_bipush dX9_row_32 rfl ?_
      refine cs_X9_60 dX9_row_34 (D_X9_ref0 hM) MH_0 rfl rfl (Nat.le_of_ble_eq_true rfl) (by decide) (z_ki ?_)
      exact z_iret F dX9_row_37 rfl (by decide) ⟨fun q => absurd q (by omega), fun q => ⟨rfl, rfl⟩⟩
    · skip
      refine z_iload_n dX9_row_19 rfl ?_
      refine z_i2l dX9_row_20 ⟨by omega, by omega⟩ ?_
      refine z_lconst0 dX9_row_21 ?_
      refine z_ldc2 dX9_row_22 lw_X9_259 ?_
      refine cs_X9_56 dX9_row_25 (D_X9_isIn (v := n9) (lo := 0) (hi := 40) ⟨by omega, by omega⟩ (by decide) (by decide)) rfl rfl (Nat.le_of_ble_eq_true rfl) (by decide) (z_ki ?_)
      refine z_if_ne dX9_row_28 (tgt := 38) rfl ⟨by split <;> omega, by split <;> omega⟩ (fun c3 => ?_) (fun c3 => ?_)
      · skip
        obtain ⟨s, rfl⟩ : ∃ y : Nat, si = (y : Int) := ⟨si.toNat, by omega⟩
        have hss := hhs s (by omega)
        refine z_aload_n dX9_row_38 rfl ?_
        refine gf_X9_37 dX9_row_39 MH_0 rfl ?_
        refine z_iload_n dX9_row_42 rfl ?_
        refine z_iload_n dX9_row_43 rfl ?_
        refine z_iastN (m := s) dX9_row_44 (MH_10 hM) (by omega) ⟨by omega, by omega⟩ ?_
        refine z_heq (MHu_10 hM) ?_
        refine z_aload_n dX9_row_45 rfl ?_
        refine gf_X9_40 dX9_row_46 MH_0 rfl ?_
        refine z_iload_n dX9_row_49 rfl ?_
        refine z_iload_n dX9_row_50 rfl ?_
        refine z_iastN (m := s) dX9_row_51 (MH_11 hM) (by omega) ⟨by omega, by omega⟩ ?_
        refine z_heq (MHu_11 hM) ?_
        refine z_iconst dX9_row_52 ?_
        refine z_istore dX9_row_53 (Nat.le_of_ble_eq_true rfl) rfl ?_
        refine z_heq (h' := (MH h0 A Rf Nw Th Tp Tx Kd Ia It Lk (z_sf Ho s so) (z_sf Sz s n9) (cpA Im (40 * s) 0 (fun _ => 0)) Mv kp ln sz at_ we pa de ti lf md mn hi ha is_ ca)) (by rw [cpA_0]) ?_
        have L4 : ∀ (fu : Nat) (r : Nat) (q1 : r ≤ 40), 40 - r < fu → z_w g X cX9_row RX9 (3, 0, 0) 55 [z_r (A 0), z_i (s : Int), z_i so, z_i n9, z_i (r : Int)] [] (MH h0 A Rf Nw Th Tp Tx Kd Ia It Lk (z_sf Ho s so) (z_sf Sz s n9) (cpA Im (40 * s) r (fun _ => 0)) Mv kp ln sz at_ we pa de ti lf md mn hi ha is_ ca) 0 0 := by
          intro fu
          induction fu with
          | zero => intro r q1 hm; exact absurd hm (Nat.not_lt_zero _)
          | succ fu ih =>
            intro r q1 hm
            refine z_iload dX9_row_55 rfl ?_
            refine z_bipush dX9_row_57 rfl ?_
            refine z_icmp_ge dX9_row_59 (tgt := 81) rfl ⟨by omega, by omega⟩ (by decide) (fun c4 => ?_) (fun c4 => ?_)
            · skip
              obtain rfl : r = 40 := by omega
              refine z_iconst dX9_row_81 ?_
              exact z_iret F dX9_row_82 rfl (by decide) ⟨fun q => ⟨rfl, rfl⟩, fun q => absurd (by omega) q⟩
            · skip
              refine z_aload_n dX9_row_62 rfl ?_
              refine gf_X9_43 dX9_row_63 MH_0 rfl ?_
              refine z_bipush dX9_row_66 rfl ?_
              refine z_iload_n dX9_row_68 rfl ?_
              refine z_imul dX9_row_69 ?_
              refine z_iload dX9_row_70 rfl ?_
              refine z_iadd dX9_row_72 ?_
              refine z_lconst0 dX9_row_73 ?_
              refine z_lastN (m := (40 * s + r)) dX9_row_74 (MH_12 hM) (by omega) ⟨by omega, by omega⟩ ?_
              refine z_heq (MHu_12 hM) ?_
              refine z_heq (h' := (MH h0 A Rf Nw Th Tp Tx Kd Ia It Lk (z_sf Ho s so) (z_sf Sz s n9) (cpA Im (40 * s) (r + 1) (fun _ => 0)) Mv kp ln sz at_ we pa de ti lf md mn hi ha is_ ca)) (by rw [cpA_s rfl rfl]) ?_
              refine z_iinc dX9_row_75 rfl rfl ?_
              refine z_goto dX9_row_78 (tgt := 55) rfl ?_
              exact ih (r + 1) (by omega) (by omega)
        exact L4 41 0 (Nat.zero_le _) (by omega)
      · skip
        refine z_aload_n dX9_row_31 rfl ?_
        refine z_bipush dX9_row_32 rfl ?_
        refine cs_X9_60 dX9_row_34 (D_X9_ref0 hM) MH_0 rfl rfl (Nat.le_of_ble_eq_true rfl) (by decide) (z_ki ?_)
        exact z_iret F dX9_row_37 rfl (by decide) ⟨fun q => absurd q (by omega), fun q => ⟨rfl, rfl⟩⟩
theorem loB_0 {v : Int} : loB 0 v = v.bmod 256 := if_pos rfl
theorem loB_1 {v : Int} : loB 1 v = v.bmod 65536 := rfl
theorem loB_2 {v : Int} : loB 2 v = v.bmod 4294967296 := rfl
theorem loB_3 {v : Int} : loB 3 v = v := rfl
theorem loB_4 {v : Int} : loB 4 v = if v = 0 then 0 else 1 := rfl
set_option maxHeartbeats 4000000 in
set_option maxRecDepth 100000 in
theorem D_X9_set {g : z_G} {h0 : z_H} {A : Nat → Nat} (hM : mD A) {Rf Nw Th Tp Tx Kd Ia It Lk Ho Sz Im Mv : Nat → Int} {kp ln sz at_ we pa de ti lf md mn hi ha is_ ca : Int} (hhs : hWf Ho Sz) {si i9 v9 : Int} (hsi : z_in si) (hi9 : z_in i9) (hv9 : z_inL v9) : z_D g mX9_set 3 0 0 [z_r (A 0), z_i si, z_i i9, z_l v9] (MH h0 A Rf Nw Th Tp Tx Kd Ia It Lk Ho Sz Im Mv kp ln sz at_ we pa de ti lf md mn hi ha is_ ca) (fun rv h' => (amB Ho si ≠ 0 → rv = some (z_i (amB Ho si)) ∧ h' = (MH h0 A (rfB Rf (amB Ho si)) Nw Th Tp Tx Kd Ia It Lk Ho Sz Im Mv kp ln sz at_ we pa de ti lf md mn hi ha is_ ca)) ∧ (amB Ho si = 0 → (0 ≤ i9 ∧ i9 < Sz si.toNat → rv = some (z_i 1) ∧ h' = (MH h0 A Rf Nw Th Tp Tx Kd Ia It Lk Ho Sz (z_sf Im (40 * si.toNat + i9.toNat) (loB (Ho si.toNat) v9)) Mv kp ln sz at_ we pa de ti lf md mn hi ha is_ ca)) ∧ (¬ (0 ≤ i9 ∧ i9 < Sz si.toNat) → rv = some (z_i (-92)) ∧ h' = (MH h0 A (rfB Rf (-92)) Nw Th Tp Tx Kd Ia It Lk Ho Sz Im Mv kp ln sz at_ we pa de ti lf md mn hi ha is_ ca)))) := by
  refine z_D.of (by decide +kernel) (Nat.le_of_ble_eq_true rfl) (fun X F => ?_)
  have hamb := amB_c Ho si
  show z_w g X cX9_set RX9 (3, 0, 0) 0 [z_r (A 0), z_i si, z_i i9, z_l v9, z_u, z_u, z_u] [] (MH h0 A Rf Nw Th Tp Tx Kd Ia It Lk Ho Sz Im Mv kp ln sz at_ we pa de ti lf md mn hi ha is_ ca) 0 0
  refine z_iload_n dX9_set_0 rfl ?_
  refine cs_X9_254 dX9_set_1 (D_X9_isShelf (s := si) ⟨by omega, by omega⟩) rfl rfl (Nat.le_of_ble_eq_true rfl) (by decide) (z_ki ?_)
  refine z_if_eq dX9_set_4 (tgt := 15) rfl ⟨by split <;> omega, by split <;> omega⟩ (fun c1 => ?_) (fun c1 => ?_)
  · skip
    refine z_bipush dX9_set_15 rfl ?_
    refine z_ieq (y := amB Ho si) (by unfold amB; first | rw [if_pos (by omega)]; rfl | rw [if_neg (by omega)]) ?_
    refine z_istore dX9_set_17 (Nat.le_of_ble_eq_true rfl) rfl ?_
    refine z_iload dX9_set_19 rfl ?_
    refine z_if_ne dX9_set_21 (tgt := 42) rfl ⟨by omega, by omega⟩ (fun c2 => ?_) (fun c2 => ?_)
    · skip
      refine z_aload_n dX9_set_42 rfl ?_
      refine z_iload dX9_set_43 rfl ?_
      refine z_if_eq dX9_set_45 (tgt := 53) rfl ⟨by omega, by omega⟩ (fun c3 => ?_) (fun c3 => ?_)
      · skip
        exact absurd c3 (by omega)
      · skip
        refine z_iload dX9_set_48 rfl ?_
        refine z_goto dX9_set_50 (tgt := 55) rfl ?_
        refine cs_X9_60 dX9_set_55 (D_X9_refc hM (c := amB Ho si) (by omega)) MH_0 rfl rfl (Nat.le_of_ble_eq_true rfl) (by decide) (z_ki ?_)
        exact z_iret F dX9_set_58 rfl (by decide) ⟨fun q => ⟨rfl, rfl⟩, fun q => absurd q (by omega)⟩
    · skip
      exact absurd (show amB Ho si = -92 from if_neg (by omega)) (by omega)
  · skip
    obtain ⟨s, rfl⟩ : ∃ y : Nat, si = (y : Int) := ⟨si.toNat, by omega⟩
    have hss := hhs s (by omega)
    refine z_aload_n dX9_set_7 rfl ?_
    refine z_iload_n dX9_set_8 rfl ?_
    refine cs_X9_261 dX9_set_9 (D_X9_amiss hM (s := s) (by omega) ⟨by omega, by omega⟩) MH_0 rfl rfl (Nat.le_of_ble_eq_true rfl) (by decide) (z_ki ?_)
    refine z_goto dX9_set_12 (tgt := 17) rfl ?_
    refine z_ieq (y := amB Ho (s : Int)) (by unfold amB; first | rw [if_pos (by omega)]; rfl | rw [if_neg (by omega)]) ?_
    refine z_istore dX9_set_17 (Nat.le_of_ble_eq_true rfl) rfl ?_
    refine z_iload dX9_set_19 rfl ?_
    refine z_if_ne dX9_set_21 (tgt := 42) rfl ⟨by omega, by omega⟩ (fun c4 => ?_) (fun c4 => ?_)
    · skip
      refine z_aload_n dX9_set_42 rfl ?_
      refine z_iload dX9_set_43 rfl ?_
      refine z_if_eq dX9_set_45 (tgt := 53) rfl ⟨by omega, by omega⟩ (fun c5 => ?_) (fun c5 => ?_)
      · skip
        exact absurd c5 (by omega)
      · skip
        refine z_iload dX9_set_48 rfl ?_
        refine z_goto dX9_set_50 (tgt := 55) rfl ?_
        refine cs_X9_60 dX9_set_55 (D_X9_refc hM (c := amB Ho (s : Int)) (by omega)) MH_0 rfl rfl (Nat.le_of_ble_eq_true rfl) (by decide) (z_ki ?_)
        exact z_iret F dX9_set_58 rfl (by decide) ⟨fun q => ⟨rfl, rfl⟩, fun q => absurd q (by omega)⟩
    · skip
      have ham : amI (Ho s) = 0 := (show amB Ho (s : Int) = amI (Ho s) from if_pos (by omega)).symm.trans (by omega)
      have hH := amI_0 ham
      refine z_iload_n dX9_set_24 rfl ?_
      refine z_i2l dX9_set_25 ⟨by omega, by omega⟩ ?_
      refine z_lconst0 dX9_set_26 ?_
      refine z_aload_n dX9_set_27 rfl ?_
      refine gf_X9_40 dX9_set_28 MH_0 rfl ?_
      refine z_iload_n dX9_set_31 rfl ?_
      refine z_ialdN (m := s) dX9_set_32 (MH_11 hM) (by omega) ⟨by omega, by omega⟩ ?_
      refine z_iconst dX9_set_33 ?_
      refine z_isub dX9_set_34 ?_
      refine z_i2l dX9_set_35 ⟨by omega, by omega⟩ ?_
      refine cs_X9_56 dX9_set_36 (D_X9_isIn (v := i9) (lo := 0) (hi := (Sz s) - 1) ⟨by omega, by omega⟩ (by decide) ⟨by omega, by omega⟩) rfl rfl (Nat.le_of_ble_eq_true rfl) (by decide) (z_ki ?_)
      refine z_if_ne dX9_set_39 (tgt := 59) rfl ⟨by split <;> omega, by split <;> omega⟩ (fun c6 => ?_) (fun c6 => ?_)
      · skip
        obtain ⟨i, rfl⟩ : ∃ y : Nat, i9 = (y : Int) := ⟨i9.toNat, by omega⟩
        refine z_aload_n dX9_set_59 rfl ?_
        refine gf_X9_37 dX9_set_60 MH_0 rfl ?_
        refine z_iload_n dX9_set_63 rfl ?_
        refine z_ialdN (m := s) dX9_set_64 (MH_10 hM) (by omega) ⟨by omega, by omega⟩ ?_
        refine z_istore dX9_set_65 (Nat.le_of_ble_eq_true rfl) rfl ?_
        refine z_aload_n dX9_set_67 rfl ?_
        refine gf_X9_43 dX9_set_68 MH_0 rfl ?_
        refine z_bipush dX9_set_71 rfl ?_
        refine z_iload_n dX9_set_73 rfl ?_
        refine z_imul dX9_set_74 ?_
        refine z_iload_n dX9_set_75 rfl ?_
        refine z_iadd dX9_set_76 ?_
        refine z_iload dX9_set_77 rfl ?_
        refine z_if_ne dX9_set_79 (tgt := 89) rfl ⟨by omega, by omega⟩ (fun c7 => ?_) (fun c7 => ?_)
        · skip
          refine z_iload dX9_set_89 rfl ?_
          refine z_iconst dX9_set_91 ?_
          refine z_icmp_ne dX9_set_92 (tgt := 102) rfl ⟨by omega, by omega⟩ (by decide) (fun c8 => ?_) (fun c8 => ?_)
          · skip
            refine z_iload dX9_set_102 rfl ?_
            refine z_iconst dX9_set_104 ?_
            refine z_icmp_ne dX9_set_105 (tgt := 114) rfl ⟨by omega, by omega⟩ (by decide) (fun c9 => ?_) (fun c9 => ?_)
            · skip
              refine z_iload dX9_set_114 rfl ?_
              refine z_iconst dX9_set_116 ?_
              refine z_icmp_ne dX9_set_117 (tgt := 124) rfl ⟨by omega, by omega⟩ (by decide) (fun c10 => ?_) (fun c10 => ?_)
              · skip
                refine z_lload_n dX9_set_124 rfl ?_
                refine z_lconst0 dX9_set_125 ?_
                refine z_lcmp dX9_set_126 hv9 (by decide) ?_
                refine z_if_eq dX9_set_127 (tgt := 134) rfl (z_cmpin _ _) (fun c11 => ?_) (fun c11 => ?_)
                · have c11 : v9 = 0 := z_cmp_eq c11
                  refine z_lconst0 dX9_set_134 ?_
                  refine z_leq (y := loB (Ho s) v9) (by rw [show Ho s = 4 by omega, loB_4]; first | rw [if_pos (by omega)] | rw [if_neg (by omega)]) ?_
                  refine z_lastN (m := (40 * s + i)) dX9_set_135 (MH_12 hM) (by omega) ⟨by omega, by omega⟩ ?_
                  refine z_heq (MHu_12 hM) ?_
                  refine z_iconst dX9_set_136 ?_
                  exact z_iret F dX9_set_137 rfl (by decide) ⟨fun q => absurd (by omega) q, fun q => ⟨fun q2 => ⟨rfl, rfl⟩, fun q2 => absurd (show 0 ≤ (i : Int) ∧ (i : Int) < Sz s by omega) q2⟩⟩
                · have c11 : v9 ≠ 0 := z_cmp_neq c11
                  refine z_lconst1 dX9_set_130 ?_
                  refine z_goto dX9_set_131 (tgt := 135) rfl ?_
                  refine z_leq (y := loB (Ho s) v9) (by rw [show Ho s = 4 by omega, loB_4]; first | rw [if_pos (by omega)] | rw [if_neg (by omega)]) ?_
                  refine z_lastN (m := (40 * s + i)) dX9_set_135 (MH_12 hM) (by omega) ⟨by omega, by omega⟩ ?_
                  refine z_heq (MHu_12 hM) ?_
                  refine z_iconst dX9_set_136 ?_
                  exact z_iret F dX9_set_137 rfl (by decide) ⟨fun q => absurd (by omega) q, fun q => ⟨fun q2 => ⟨rfl, rfl⟩, fun q2 => absurd (show 0 ≤ (i : Int) ∧ (i : Int) < Sz s by omega) q2⟩⟩
              · skip
                refine z_lload_n dX9_set_120 rfl ?_
                refine z_goto dX9_set_121 (tgt := 135) rfl ?_
                refine z_leq (y := loB (Ho s) v9) (by rw [show Ho s = 3 by omega, loB_3]) ?_
                refine z_lastN (m := (40 * s + i)) dX9_set_135 (MH_12 hM) (by omega) ⟨by omega, by omega⟩ ?_
                refine z_heq (MHu_12 hM) ?_
                refine z_iconst dX9_set_136 ?_
                exact z_iret F dX9_set_137 rfl (by decide) ⟨fun q => absurd (by omega) q, fun q => ⟨fun q2 => ⟨rfl, rfl⟩, fun q2 => absurd (show 0 ≤ (i : Int) ∧ (i : Int) < Sz s by omega) q2⟩⟩
            · skip
              refine z_lload_n dX9_set_108 rfl ?_
              refine z_l2i dX9_set_109 ?_
              refine z_vst (y := z_i (v9.bmod 4294967296)) (congrArg Value.int (z_bmI v9)) ?_
              refine z_i2l dX9_set_110 (by have := z_bm (a := v9) (m := 4294967296) (by decide); exact ⟨by omega, by omega⟩) ?_
              refine z_goto dX9_set_111 (tgt := 135) rfl ?_
              refine z_leq (y := loB (Ho s) v9) (by rw [show Ho s = 2 by omega, loB_2]) ?_
              refine z_lastN (m := (40 * s + i)) dX9_set_135 (MH_12 hM) (by omega) ⟨by omega, by omega⟩ ?_
              refine z_heq (MHu_12 hM) ?_
              refine z_iconst dX9_set_136 ?_
              exact z_iret F dX9_set_137 rfl (by decide) ⟨fun q => absurd (by omega) q, fun q => ⟨fun q2 => ⟨rfl, rfl⟩, fun q2 => absurd (show 0 ≤ (i : Int) ∧ (i : Int) < Sz s by omega) q2⟩⟩
          · skip
            refine z_lload_n dX9_set_95 rfl ?_
            refine z_l2i dX9_set_96 ?_
            refine z_i2s dX9_set_97 ?_
            refine z_i2l dX9_set_98 (by have := z_bm (a := v9) (m := 65536) (by decide); exact ⟨by omega, by omega⟩) ?_
            refine z_goto dX9_set_99 (tgt := 135) rfl ?_
            refine z_leq (y := loB (Ho s) v9) (by rw [show Ho s = 1 by omega, loB_1]) ?_
            refine z_lastN (m := (40 * s + i)) dX9_set_135 (MH_12 hM) (by omega) ⟨by omega, by omega⟩ ?_
            refine z_heq (MHu_12 hM) ?_
            refine z_iconst dX9_set_136 ?_
            exact z_iret F dX9_set_137 rfl (by decide) ⟨fun q => absurd (by omega) q, fun q => ⟨fun q2 => ⟨rfl, rfl⟩, fun q2 => absurd (show 0 ≤ (i : Int) ∧ (i : Int) < Sz s by omega) q2⟩⟩
        · skip
          refine z_lload_n dX9_set_82 rfl ?_
          refine z_l2i dX9_set_83 ?_
          refine z_i2b dX9_set_84 ?_
          refine z_i2l dX9_set_85 (by have := z_bm (a := v9) (m := 256) (by decide); exact ⟨by omega, by omega⟩) ?_
          refine z_goto dX9_set_86 (tgt := 135) rfl ?_
          refine z_leq (y := loB (Ho s) v9) (by rw [show Ho s = 0 by omega, loB_0]) ?_
          refine z_lastN (m := (40 * s + i)) dX9_set_135 (MH_12 hM) (by omega) ⟨by omega, by omega⟩ ?_
          refine z_heq (MHu_12 hM) ?_
          refine z_iconst dX9_set_136 ?_
          exact z_iret F dX9_set_137 rfl (by decide) ⟨fun q => absurd (by omega) q, fun q => ⟨fun q2 => ⟨rfl, rfl⟩, fun q2 => absurd (show 0 ≤ (i : Int) ∧ (i : Int) < Sz s by omega) q2⟩⟩
      · skip
        refine z_aload_n dX9_set_42 rfl ?_
        refine z_iload dX9_set_43 rfl ?_
        refine z_if_eq dX9_set_45 (tgt := 53) rfl ⟨by omega, by omega⟩ (fun c12 => ?_) (fun c12 => ?_)
        · skip
          refine z_bipush dX9_set_53 rfl ?_
          refine cs_X9_60 dX9_set_55 (D_X9_refc hM (c := (-92)) (by omega)) MH_0 rfl rfl (Nat.le_of_ble_eq_true rfl) (by decide) (z_ki ?_)
          exact z_iret F dX9_set_58 rfl (by decide) ⟨fun q => absurd (by omega) q, fun q => ⟨fun q2 => absurd (show 0 ≤ i9 ∧ i9 < Sz s from q2) (by omega), fun q2 => ⟨rfl, rfl⟩⟩⟩
        · skip
          exact absurd c12 (by omega)
set_option maxHeartbeats 4000000 in
set_option maxRecDepth 100000 in
theorem D_X9_copy {g : z_G} {h0 : z_H} {A : Nat → Nat} (hM : mD A) {Rf Nw Th Tp Tx Kd Ia It Lk Ho Sz Im Mv : Nat → Int} {kp ln sz at_ we pa de ti lf md mn hi ha is_ ca : Int} (hhs : hWf Ho Sz) {pi qi i9 j9 n9 : Int} (hpi : z_in pi) (hqi : z_in qi) (hi9 : z_in i9) (hj9 : z_in j9) (hn9 : z_in n9) : z_D g mX9_copy 3 0 0 [z_r (A 0), z_i pi, z_i qi, z_i i9, z_i j9, z_i n9] (MH h0 A Rf Nw Th Tp Tx Kd Ia It Lk Ho Sz Im Mv kp ln sz at_ we pa de ti lf md mn hi ha is_ ca) (fun rv h' => (¬ (isS pi ∧ isS qi) → rv = some (z_i (-92)) ∧ h' = (MH h0 A (z_sf Rf 0 (Rf 0 + 1)) Nw Th Tp Tx Kd Ia It Lk Ho Sz Im Mv kp ln sz at_ we pa de ti lf md mn hi ha is_ ca)) ∧ (isS pi ∧ isS qi → ((amI (Ho pi.toNat) = -93 ∨ amI (Ho qi.toNat) = -93 ∨ (amI (Ho pi.toNat) = 0 ∧ amI (Ho qi.toNat) = 0 ∧ Ho pi.toNat ≠ Ho qi.toNat)) → rv = some (z_i (-93)) ∧ h' = (MH h0 A (z_sf Rf 1 (Rf 1 + 1)) Nw Th Tp Tx Kd Ia It Lk Ho Sz Im Mv kp ln sz at_ we pa de ti lf md mn hi ha is_ ca)) ∧ (¬ (amI (Ho pi.toNat) = -93 ∨ amI (Ho qi.toNat) = -93 ∨ (amI (Ho pi.toNat) = 0 ∧ amI (Ho qi.toNat) = 0 ∧ Ho pi.toNat ≠ Ho qi.toNat)) → ((amI (Ho pi.toNat) ≠ 0 ∨ amI (Ho qi.toNat) ≠ 0) → rv = some (z_i (-94)) ∧ h' = (MH h0 A (z_sf Rf 2 (Rf 2 + 1)) Nw Th Tp Tx Kd Ia It Lk Ho Sz Im Mv kp ln sz at_ we pa de ti lf md mn hi ha is_ ca)) ∧ (¬ (amI (Ho pi.toNat) ≠ 0 ∨ amI (Ho qi.toNat) ≠ 0) → (¬ (0 ≤ n9 ∧ 0 ≤ i9 ∧ 0 ≤ j9 ∧ n9 ≤ Sz pi.toNat - i9 ∧ n9 ≤ Sz qi.toNat - j9) → rv = some (z_i (-92)) ∧ h' = (MH h0 A (z_sf Rf 0 (Rf 0 + 1)) Nw Th Tp Tx Kd Ia It Lk Ho Sz Im Mv kp ln sz at_ we pa de ti lf md mn hi ha is_ ca)) ∧ ((0 ≤ n9 ∧ 0 ≤ i9 ∧ 0 ≤ j9 ∧ n9 ≤ Sz pi.toNat - i9 ∧ n9 ≤ Sz qi.toNat - j9) → rv = some (z_i n9) ∧ ∃ Mv' : z_row, h' = (MH h0 A Rf Nw Th Tp Tx Kd Ia It Lk Ho Sz (cpA Im (40 * qi.toNat + j9.toNat) n9.toNat (fun k => Im (40 * pi.toNat + i9.toNat + k))) Mv' kp ln sz at_ we pa de ti lf md mn hi ha is_ ca)))))) := by
  refine z_D.of (by decide +kernel) (Nat.le_of_ble_eq_true rfl) (fun X F => ?_)
  show z_w g X cX9_copy RX9 (3, 0, 0) 0 [z_r (A 0), z_i pi, z_i qi, z_i i9, z_i j9, z_i n9, z_u, z_u, z_u] [] (MH h0 A Rf Nw Th Tp Tx Kd Ia It Lk Ho Sz Im Mv kp ln sz at_ we pa de ti lf md mn hi ha is_ ca) 0 0
  refine z_iload_n dX9_copy_0 rfl ?_
  refine cs_X9_254 dX9_copy_1 (D_X9_isShelf (s := pi) ⟨by omega, by omega⟩) rfl rfl (Nat.le_of_ble_eq_true rfl) (by decide) (z_ki ?_)
  refine z_if_eq dX9_copy_4 (tgt := 14) rfl ⟨by split <;> omega, by split <;> omega⟩ (fun c1 => ?_) (fun c1 => ?_)
  · skip
    refine z_aload_n dX9_copy_14 rfl ?_
    refine z_bipush dX9_copy_15 rfl ?_
    refine cs_X9_60 dX9_copy_17 (D_X9_ref0 hM) MH_0 rfl rfl (Nat.le_of_ble_eq_true rfl) (by decide) (z_ki ?_)
    exact z_iret F dX9_copy_20 rfl (by decide) ⟨fun x => ⟨rfl, rfl⟩, fun x => absurd x (by omega)⟩
  · skip
    refine z_iload_n dX9_copy_7 rfl ?_
    refine cs_X9_254 dX9_copy_8 (D_X9_isShelf (s := qi) ⟨by omega, by omega⟩) rfl rfl (Nat.le_of_ble_eq_true rfl) (by decide) (z_ki ?_)
    refine z_if_ne dX9_copy_11 (tgt := 21) rfl ⟨by split <;> omega, by split <;> omega⟩ (fun c2 => ?_) (fun c2 => ?_)
    · skip
      obtain ⟨p, rfl⟩ : ∃ y : Nat, pi = (y : Int) := ⟨pi.toNat, by omega⟩
      have hsp := hhs p (by omega)
      obtain ⟨q, rfl⟩ : ∃ y : Nat, qi = (y : Int) := ⟨qi.toNat, by omega⟩
      have hsq := hhs q (by omega)
      have hap := amI_c (Ho p)
      have haq := amI_c (Ho q)
      refine z_aload_n dX9_copy_21 rfl ?_
      refine z_iload_n dX9_copy_22 rfl ?_
      refine cs_X9_261 dX9_copy_23 (D_X9_amiss hM (s := p) (by omega) ⟨by omega, by omega⟩) MH_0 rfl rfl (Nat.le_of_ble_eq_true rfl) (by decide) (z_ki ?_)
      refine z_istore dX9_copy_26 (Nat.le_of_ble_eq_true rfl) rfl ?_
      refine z_aload_n dX9_copy_28 rfl ?_
      refine z_iload_n dX9_copy_29 rfl ?_
      refine cs_X9_261 dX9_copy_30 (D_X9_amiss hM (s := q) (by omega) ⟨by omega, by omega⟩) MH_0 rfl rfl (Nat.le_of_ble_eq_true rfl) (by decide) (z_ki ?_)
      refine z_istore dX9_copy_33 (Nat.le_of_ble_eq_true rfl) rfl ?_
      refine z_iload dX9_copy_35 rfl ?_
      refine z_bipush dX9_copy_37 rfl ?_
      refine z_icmp_eq dX9_copy_39 (tgt := 74) rfl ⟨by omega, by omega⟩ (by decide) (fun c3 => ?_) (fun c3 => ?_)
      · skip
        refine z_aload_n dX9_copy_74 rfl ?_
        refine z_bipush dX9_copy_75 rfl ?_
        refine cs_X9_60 dX9_copy_77 (D_X9_ref1 hM) MH_0 rfl rfl (Nat.le_of_ble_eq_true rfl) (by decide) (z_ki ?_)
        exact z_iret F dX9_copy_80 rfl (by decide) ⟨fun x => absurd (by omega) x, fun x => ⟨fun y => ⟨rfl, rfl⟩, fun y => absurd (show amI (Ho p) = -93 ∨ amI (Ho q) = -93 ∨ (amI (Ho p) = 0 ∧ amI (Ho q) = 0 ∧ Ho p ≠ Ho q) by omega) y⟩⟩
      · skip
        refine z_iload dX9_copy_42 rfl ?_
        refine z_bipush dX9_copy_44 rfl ?_
        refine z_icmp_eq dX9_copy_46 (tgt := 74) rfl ⟨by omega, by omega⟩ (by decide) (fun c4 => ?_) (fun c4 => ?_)
        · skip
          refine z_aload_n dX9_copy_74 rfl ?_
          refine z_bipush dX9_copy_75 rfl ?_
          refine cs_X9_60 dX9_copy_77 (D_X9_ref1 hM) MH_0 rfl rfl (Nat.le_of_ble_eq_true rfl) (by decide) (z_ki ?_)
          exact z_iret F dX9_copy_80 rfl (by decide) ⟨fun x => absurd (by omega) x, fun x => ⟨fun y => ⟨rfl, rfl⟩, fun y => absurd (show amI (Ho p) = -93 ∨ amI (Ho q) = -93 ∨ (amI (Ho p) = 0 ∧ amI (Ho q) = 0 ∧ Ho p ≠ Ho q) by omega) y⟩⟩
        · skip
          refine z_iload dX9_copy_49 rfl ?_
          refine z_if_ne dX9_copy_51 (tgt := 81) rfl ⟨by omega, by omega⟩ (fun c5 => ?_) (fun c5 => ?_)
          · skip
            refine z_iload dX9_copy_81 rfl ?_
            refine z_if_ne dX9_copy_83 (tgt := 91) rfl ⟨by omega, by omega⟩ (fun c6 => ?_) (fun c6 => ?_)
            · skip
              refine z_aload_n dX9_copy_91 rfl ?_
              refine z_bipush dX9_copy_92 rfl ?_
              refine cs_X9_60 dX9_copy_94 (D_X9_ref2 hM) MH_0 rfl rfl (Nat.le_of_ble_eq_true rfl) (by decide) (z_ki ?_)
              exact z_iret F dX9_copy_97 rfl (by decide) ⟨fun x => absurd (by omega) x, fun x => ⟨fun y => absurd y (show ¬ (amI (Ho p) = -93 ∨ amI (Ho q) = -93 ∨ (amI (Ho p) = 0 ∧ amI (Ho q) = 0 ∧ Ho p ≠ Ho q)) by omega), fun y => ⟨fun u => ⟨rfl, rfl⟩, fun u => absurd (show amI (Ho p) ≠ 0 ∨ amI (Ho q) ≠ 0 by omega) u⟩⟩⟩
            · skip
              refine z_iload dX9_copy_86 rfl ?_
              refine z_if_eq dX9_copy_88 (tgt := 98) rfl ⟨by omega, by omega⟩ (fun c7 => ?_) (fun c7 => ?_)
              · skip
                refine z_iload dX9_copy_98 rfl ?_
                refine z_if_lt dX9_copy_100 (tgt := 139) rfl ⟨by omega, by omega⟩ (fun c8 => ?_) (fun c8 => ?_)
                · skip
                  refine z_aload_n dX9_copy_139 rfl ?_
                  refine z_bipush dX9_copy_140 rfl ?_
                  refine cs_X9_60 dX9_copy_142 (D_X9_ref0 hM) MH_0 rfl rfl (Nat.le_of_ble_eq_true rfl) (by decide) (z_ki ?_)
                  exact z_iret F dX9_copy_145 rfl (by decide) ⟨fun x => absurd (by omega) x, fun x => ⟨fun y => absurd y (show ¬ (amI (Ho p) = -93 ∨ amI (Ho q) = -93 ∨ (amI (Ho p) = 0 ∧ amI (Ho q) = 0 ∧ Ho p ≠ Ho q)) by omega), fun y => ⟨fun u => absurd u (show ¬ (amI (Ho p) ≠ 0 ∨ amI (Ho q) ≠ 0) by omega), fun u => ⟨fun v => ⟨rfl, rfl⟩, fun v => absurd (show 0 ≤ n9 ∧ 0 ≤ i9 ∧ 0 ≤ j9 ∧ n9 ≤ Sz p - i9 ∧ n9 ≤ Sz q - j9 from v) (by omega)⟩⟩⟩⟩
                · skip
                  refine z_iload_n dX9_copy_103 rfl ?_
                  refine z_if_lt dX9_copy_104 (tgt := 139) rfl ⟨by omega, by omega⟩ (fun c9 => ?_) (fun c9 => ?_)
                  · skip
                    refine z_aload_n dX9_copy_139 rfl ?_
                    refine z_bipush dX9_copy_140 rfl ?_
                    refine cs_X9_60 dX9_copy_142 (D_X9_ref0 hM) MH_0 rfl rfl (Nat.le_of_ble_eq_true rfl) (by decide) (z_ki ?_)
                    exact z_iret F dX9_copy_145 rfl (by decide) ⟨fun x => absurd (by omega) x, fun x => ⟨fun y => absurd y (show ¬ (amI (Ho p) = -93 ∨ amI (Ho q) = -93 ∨ (amI (Ho p) = 0 ∧ amI (Ho q) = 0 ∧ Ho p ≠ Ho q)) by omega), fun y => ⟨fun u => absurd u (show ¬ (amI (Ho p) ≠ 0 ∨ amI (Ho q) ≠ 0) by omega), fun u => ⟨fun v => ⟨rfl, rfl⟩, fun v => absurd (show 0 ≤ n9 ∧ 0 ≤ i9 ∧ 0 ≤ j9 ∧ n9 ≤ Sz p - i9 ∧ n9 ≤ Sz q - j9 from v) (by omega)⟩⟩⟩⟩
                  · skip
                    refine z_iload dX9_copy_107 rfl ?_
                    refine z_if_lt dX9_copy_109 (tgt := 139) rfl ⟨by omega, by omega⟩ (fun c10 => ?_) (fun c10 => ?_)
                    · skip
                      refine z_aload_n dX9_copy_139 rfl ?_
                      refine z_bipush dX9_copy_140 rfl ?_
                      refine cs_X9_60 dX9_copy_142 (D_X9_ref0 hM) MH_0 rfl rfl (Nat.le_of_ble_eq_true rfl) (by decide) (z_ki ?_)
                      exact z_iret F dX9_copy_145 rfl (by decide) ⟨fun x => absurd (by omega) x, fun x => ⟨fun y => absurd y (show ¬ (amI (Ho p) = -93 ∨ amI (Ho q) = -93 ∨ (amI (Ho p) = 0 ∧ amI (Ho q) = 0 ∧ Ho p ≠ Ho q)) by omega), fun y => ⟨fun u => absurd u (show ¬ (amI (Ho p) ≠ 0 ∨ amI (Ho q) ≠ 0) by omega), fun u => ⟨fun v => ⟨rfl, rfl⟩, fun v => absurd (show 0 ≤ n9 ∧ 0 ≤ i9 ∧ 0 ≤ j9 ∧ n9 ≤ Sz p - i9 ∧ n9 ≤ Sz q - j9 from v) (by omega)⟩⟩⟩⟩
                    · skip
                      refine z_iload dX9_copy_112 rfl ?_
                      refine z_aload_n dX9_copy_114 rfl ?_
                      refine gf_X9_40 dX9_copy_115 MH_0 rfl ?_
                      refine z_iload_n dX9_copy_118 rfl ?_
                      refine z_ialdN (m := p) dX9_copy_119 (MH_11 hM) (by omega) ⟨by omega, by omega⟩ ?_
                      refine z_iload_n dX9_copy_120 rfl ?_
                      refine z_isub dX9_copy_121 ?_
                      refine z_icmp_gt dX9_copy_122 (tgt := 139) rfl ⟨by omega, by omega⟩ ⟨by omega, by omega⟩ (fun c11 => ?_) (fun c11 => ?_)
                      · skip
                        refine z_aload_n dX9_copy_139 rfl ?_
                        refine z_bipush dX9_copy_140 rfl ?_
                        refine cs_X9_60 dX9_copy_142 (D_X9_ref0 hM) MH_0 rfl rfl (Nat.le_of_ble_eq_true rfl) (by decide) (z_ki ?_)
                        exact z_iret F dX9_copy_145 rfl (by decide) ⟨fun x => absurd (by omega) x, fun x => ⟨fun y => absurd y (show ¬ (amI (Ho p) = -93 ∨ amI (Ho q) = -93 ∨ (amI (Ho p) = 0 ∧ amI (Ho q) = 0 ∧ Ho p ≠ Ho q)) by omega), fun y => ⟨fun u => absurd u (show ¬ (amI (Ho p) ≠ 0 ∨ amI (Ho q) ≠ 0) by omega), fun u => ⟨fun v => ⟨rfl, rfl⟩, fun v => absurd (show 0 ≤ n9 ∧ 0 ≤ i9 ∧ 0 ≤ j9 ∧ n9 ≤ Sz p - i9 ∧ n9 ≤ Sz q - j9 from v) (by omega)⟩⟩⟩⟩
                      · skip
                        refine z_iload dX9_copy_125 rfl ?_
                        refine z_aload_n dX9_copy_127 rfl ?_
                        refine gf_X9_40 dX9_copy_128 MH_0 rfl ?_
                        refine z_iload_n dX9_copy_131 rfl ?_
                        refine z_ialdN (m := q) dX9_copy_132 (MH_11 hM) (by omega) ⟨by omega, by omega⟩ ?_
                        refine z_iload dX9_copy_133 rfl ?_
                        refine z_isub dX9_copy_135 ?_
                        refine z_icmp_le dX9_copy_136 (tgt := 146) rfl ⟨by omega, by omega⟩ ⟨by omega, by omega⟩ (fun c12 => ?_) (fun c12 => ?_)
                        · skip
                          obtain ⟨i, rfl⟩ : ∃ y : Nat, i9 = (y : Int) := ⟨i9.toNat, by omega⟩
                          obtain ⟨j, rfl⟩ : ∃ y : Nat, j9 = (y : Int) := ⟨j9.toNat, by omega⟩
                          obtain ⟨n, rfl⟩ : ∃ y : Nat, n9 = (y : Int) := ⟨n9.toNat, by omega⟩
                          have hszp := hsp.2
                          have hszq := hsq.2
                          refine z_iconst dX9_copy_146 ?_
                          refine z_istore dX9_copy_147 (Nat.le_of_ble_eq_true rfl) rfl ?_
                          refine z_heq (h' := (MH h0 A Rf Nw Th Tp Tx Kd Ia It Lk Ho Sz Im (cpA Mv 0 0 (fun k => Im (40 * p + i + k))) kp ln sz at_ we pa de ti lf md mn hi ha is_ ca)) (by rw [cpA_0]) ?_
                          have L4 : ∀ (fu : Nat) (r : Nat) (q1 : r ≤ n), n - r < fu → z_w g X cX9_copy RX9 (3, 0, 0) 149 [z_r (A 0), z_i (p : Int), z_i (q : Int), z_i (i : Int), z_i (j : Int), z_i (n : Int), z_i (amI (Ho p)), z_i (amI (Ho q)), z_i (r : Int)] [] (MH h0 A Rf Nw Th Tp Tx Kd Ia It Lk Ho Sz Im (cpA Mv 0 r (fun k => Im (40 * p + i + k))) kp ln sz at_ we pa de ti lf md mn hi ha is_ ca) 0 0 := by
                            intro fu
                            induction fu with
                            | zero => intro r q1 hm; exact absurd hm (Nat.not_lt_zero _)
                            | succ fu ih =>
                              intro r q1 hm
                              refine z_iload dX9_copy_149 rfl ?_
                              refine z_iload dX9_copy_151 rfl ?_
                              refine z_icmp_ge dX9_copy_153 (tgt := 183) rfl ⟨by omega, by omega⟩ ⟨by omega, by omega⟩ (fun c13 => ?_) (fun c13 => ?_)
                              · skip
                                obtain rfl : n = r := by omega
                                refine z_iconst dX9_copy_183 ?_
                                refine z_istore dX9_copy_184 (Nat.le_of_ble_eq_true rfl) rfl ?_
                                have hcp : cpA Im (40 * q + j) n (cpA Mv 0 n (fun k => Im (40 * p + i + k))) = cpA Im (40 * q + j) n (fun k => Im (40 * p + i + k)) := cpA_ag (fun k hk => by unfold cpA; rw [if_pos (by omega), Nat.sub_zero])
                                refine z_heq (h' := (MH h0 A Rf Nw Th Tp Tx Kd Ia It Lk Ho Sz (cpA Im (40 * q + j) 0 (cpA Mv 0 n (fun k => Im (40 * p + i + k)))) (cpA Mv 0 n (fun k => Im (40 * p + i + k))) kp ln sz at_ we pa de ti lf md mn hi ha is_ ca)) (by rw [cpA_0]) ?_
                                have L5 : ∀ (fu : Nat) (r : Nat) (q1 : r ≤ n), n - r < fu → z_w g X cX9_copy RX9 (3, 0, 0) 186 [z_r (A 0), z_i (p : Int), z_i (q : Int), z_i (i : Int), z_i (j : Int), z_i (n : Int), z_i (amI (Ho p)), z_i (amI (Ho q)), z_i (r : Int)] [] (MH h0 A Rf Nw Th Tp Tx Kd Ia It Lk Ho Sz (cpA Im (40 * q + j) r (cpA Mv 0 n (fun k => Im (40 * p + i + k)))) (cpA Mv 0 n (fun k => Im (40 * p + i + k))) kp ln sz at_ we pa de ti lf md mn hi ha is_ ca) 0 0 := by
                                  intro fu
                                  induction fu with
                                  | zero => intro r q1 hm; exact absurd hm (Nat.not_lt_zero _)
                                  | succ fu2 ih2 =>
                                    intro r q1 hm
                                    refine z_iload dX9_copy_186 rfl ?_
                                    refine z_iload dX9_copy_188 rfl ?_
                                    refine z_icmp_ge dX9_copy_190 (tgt := 221) rfl ⟨by omega, by omega⟩ ⟨by omega, by omega⟩ (fun c14 => ?_) (fun c14 => ?_)
                                    · skip
                                      obtain rfl : n = r := by omega
                                      refine z_iload dX9_copy_221 rfl ?_
                                      exact z_iret F dX9_copy_223 rfl (by decide) ⟨fun x => absurd (by omega) x, fun x => ⟨fun y => absurd y (show ¬ (amI (Ho p) = -93 ∨ amI (Ho q) = -93 ∨ (amI (Ho p) = 0 ∧ amI (Ho q) = 0 ∧ Ho p ≠ Ho q)) by omega), fun y => ⟨fun u => absurd u (show ¬ (amI (Ho p) ≠ 0 ∨ amI (Ho q) ≠ 0) by omega), fun u => ⟨fun v => absurd (show 0 ≤ (n : Int) ∧ 0 ≤ (i : Int) ∧ 0 ≤ (j : Int) ∧ (n : Int) ≤ Sz p - (i : Int) ∧ (n : Int) ≤ Sz q - (j : Int) by omega) v, fun v => ⟨rfl, _, congrArg (fun x => (MH h0 A Rf Nw Th Tp Tx Kd Ia It Lk Ho Sz x (cpA Mv 0 n (fun k => Im (40 * p + i + k))) kp ln sz at_ we pa de ti lf md mn hi ha is_ ca)) hcp⟩⟩⟩⟩⟩
                                    · skip
                                      refine z_aload_n dX9_copy_193 rfl ?_
                                      refine gf_X9_43 dX9_copy_194 MH_0 rfl ?_
                                      refine z_bipush dX9_copy_197 rfl ?_
                                      refine z_iload_n dX9_copy_199 rfl ?_
                                      refine z_imul dX9_copy_200 ?_
                                      refine z_iload dX9_copy_201 rfl ?_
                                      refine z_iadd dX9_copy_203 ?_
                                      refine z_iload dX9_copy_204 rfl ?_
                                      refine z_iadd dX9_copy_206 ?_
                                      refine z_aload_n dX9_copy_207 rfl ?_
                                      refine gf_X9_47 dX9_copy_208 MH_0 rfl ?_
                                      refine z_iload dX9_copy_211 rfl ?_
                                      refine z_laldN (m := r) dX9_copy_213 (MH_13 hM) (by omega) ⟨by omega, by omega⟩ ?_
                                      refine z_lastN (m := (40 * q + j + r)) dX9_copy_214 (MH_12 hM) (by omega) ⟨by omega, by omega⟩ ?_
                                      refine z_heq (MHu_12 hM) ?_
                                      refine z_heq (h' := (MH h0 A Rf Nw Th Tp Tx Kd Ia It Lk Ho Sz (cpA Im (40 * q + j) (r + 1) (cpA Mv 0 n (fun k => Im (40 * p + i + k)))) (cpA Mv 0 n (fun k => Im (40 * p + i + k))) kp ln sz at_ we pa de ti lf md mn hi ha is_ ca)) (by rw [cpA_s rfl rfl]) ?_
                                      refine z_iinc dX9_copy_215 rfl rfl ?_
                                      refine z_goto dX9_copy_218 (tgt := 186) rfl ?_
                                      exact ih2 (r + 1) (by omega) (by omega)
                                exact L5 (n + 1) 0 (Nat.zero_le _) (by omega)
                              · skip
                                refine z_aload_n dX9_copy_156 rfl ?_
                                refine gf_X9_47 dX9_copy_157 MH_0 rfl ?_
                                refine z_iload dX9_copy_160 rfl ?_
                                refine z_aload_n dX9_copy_162 rfl ?_
                                refine gf_X9_43 dX9_copy_163 MH_0 rfl ?_
                                refine z_bipush dX9_copy_166 rfl ?_
                                refine z_iload_n dX9_copy_168 rfl ?_
                                refine z_imul dX9_copy_169 ?_
                                refine z_iload_n dX9_copy_170 rfl ?_
                                refine z_iadd dX9_copy_171 ?_
                                refine z_iload dX9_copy_172 rfl ?_
                                refine z_iadd dX9_copy_174 ?_
                                refine z_laldN (m := (40 * p + i + r)) dX9_copy_175 (MH_12 hM) (by omega) ⟨by omega, by omega⟩ ?_
                                refine z_lastN (m := r) dX9_copy_176 (MH_13 hM) (by omega) ⟨by omega, by omega⟩ ?_
                                refine z_heq (MHu_13 hM) ?_
                                refine z_heq (h' := (MH h0 A Rf Nw Th Tp Tx Kd Ia It Lk Ho Sz Im (cpA Mv 0 (r + 1) (fun k => Im (40 * p + i + k))) kp ln sz at_ we pa de ti lf md mn hi ha is_ ca)) (by rw [cpA_s (Nat.zero_add r).symm rfl]) ?_
                                refine z_iinc dX9_copy_177 rfl rfl ?_
                                refine z_goto dX9_copy_180 (tgt := 149) rfl ?_
                                exact ih (r + 1) (by omega) (by omega)
                          exact L4 (n + 1) 0 (Nat.zero_le _) (by omega)
                        · skip
                          refine z_aload_n dX9_copy_139 rfl ?_
                          refine z_bipush dX9_copy_140 rfl ?_
                          refine cs_X9_60 dX9_copy_142 (D_X9_ref0 hM) MH_0 rfl rfl (Nat.le_of_ble_eq_true rfl) (by decide) (z_ki ?_)
                          exact z_iret F dX9_copy_145 rfl (by decide) ⟨fun x => absurd (by omega) x, fun x => ⟨fun y => absurd y (show ¬ (amI (Ho p) = -93 ∨ amI (Ho q) = -93 ∨ (amI (Ho p) = 0 ∧ amI (Ho q) = 0 ∧ Ho p ≠ Ho q)) by omega), fun y => ⟨fun u => absurd u (show ¬ (amI (Ho p) ≠ 0 ∨ amI (Ho q) ≠ 0) by omega), fun u => ⟨fun v => ⟨rfl, rfl⟩, fun v => absurd (show 0 ≤ n9 ∧ 0 ≤ i9 ∧ 0 ≤ j9 ∧ n9 ≤ Sz p - i9 ∧ n9 ≤ Sz q - j9 from v) (by omega)⟩⟩⟩⟩
              · skip
                refine z_aload_n dX9_copy_91 rfl ?_
                refine z_bipush dX9_copy_92 rfl ?_
                refine cs_X9_60 dX9_copy_94 (D_X9_ref2 hM) MH_0 rfl rfl (Nat.le_of_ble_eq_true rfl) (by decide) (z_ki ?_)
                exact z_iret F dX9_copy_97 rfl (by decide) ⟨fun x => absurd (by omega) x, fun x => ⟨fun y => absurd y (show ¬ (amI (Ho p) = -93 ∨ amI (Ho q) = -93 ∨ (amI (Ho p) = 0 ∧ amI (Ho q) = 0 ∧ Ho p ≠ Ho q)) by omega), fun y => ⟨fun u => ⟨rfl, rfl⟩, fun u => absurd (show amI (Ho p) ≠ 0 ∨ amI (Ho q) ≠ 0 by omega) u⟩⟩⟩
          · skip
            refine z_iload dX9_copy_54 rfl ?_
            refine z_if_ne dX9_copy_56 (tgt := 81) rfl ⟨by omega, by omega⟩ (fun c15 => ?_) (fun c15 => ?_)
            · skip
              refine z_iload dX9_copy_81 rfl ?_
              refine z_if_ne dX9_copy_83 (tgt := 91) rfl ⟨by omega, by omega⟩ (fun c16 => ?_) (fun c16 => ?_)
              · skip
                refine z_aload_n dX9_copy_91 rfl ?_
                refine z_bipush dX9_copy_92 rfl ?_
                refine cs_X9_60 dX9_copy_94 (D_X9_ref2 hM) MH_0 rfl rfl (Nat.le_of_ble_eq_true rfl) (by decide) (z_ki ?_)
                exact z_iret F dX9_copy_97 rfl (by decide) ⟨fun x => absurd (by omega) x, fun x => ⟨fun y => absurd y (show ¬ (amI (Ho p) = -93 ∨ amI (Ho q) = -93 ∨ (amI (Ho p) = 0 ∧ amI (Ho q) = 0 ∧ Ho p ≠ Ho q)) by omega), fun y => ⟨fun u => ⟨rfl, rfl⟩, fun u => absurd (show amI (Ho p) ≠ 0 ∨ amI (Ho q) ≠ 0 by omega) u⟩⟩⟩
              · skip
                refine z_iload dX9_copy_86 rfl ?_
                refine z_if_eq dX9_copy_88 (tgt := 98) rfl ⟨by omega, by omega⟩ (fun c17 => ?_) (fun c17 => ?_)
                · skip
                  refine z_iload dX9_copy_98 rfl ?_
                  refine z_if_lt dX9_copy_100 (tgt := 139) rfl ⟨by omega, by omega⟩ (fun c18 => ?_) (fun c18 => ?_)
                  · skip
                    refine z_aload_n dX9_copy_139 rfl ?_
                    refine z_bipush dX9_copy_140 rfl ?_
                    refine cs_X9_60 dX9_copy_142 (D_X9_ref0 hM) MH_0 rfl rfl (Nat.le_of_ble_eq_true rfl) (by decide) (z_ki ?_)
                    exact z_iret F dX9_copy_145 rfl (by decide) ⟨fun x => absurd (by omega) x, fun x => ⟨fun y => absurd y (show ¬ (amI (Ho p) = -93 ∨ amI (Ho q) = -93 ∨ (amI (Ho p) = 0 ∧ amI (Ho q) = 0 ∧ Ho p ≠ Ho q)) by omega), fun y => ⟨fun u => absurd u (show ¬ (amI (Ho p) ≠ 0 ∨ amI (Ho q) ≠ 0) by omega), fun u => ⟨fun v => ⟨rfl, rfl⟩, fun v => absurd (show 0 ≤ n9 ∧ 0 ≤ i9 ∧ 0 ≤ j9 ∧ n9 ≤ Sz p - i9 ∧ n9 ≤ Sz q - j9 from v) (by omega)⟩⟩⟩⟩
                  · skip
                    refine z_iload_n dX9_copy_103 rfl ?_
                    refine z_if_lt dX9_copy_104 (tgt := 139) rfl ⟨by omega, by omega⟩ (fun c19 => ?_) (fun c19 => ?_)
                    · skip
                      refine z_aload_n dX9_copy_139 rfl ?_
                      refine z_bipush dX9_copy_140 rfl ?_
                      refine cs_X9_60 dX9_copy_142 (D_X9_ref0 hM) MH_0 rfl rfl (Nat.le_of_ble_eq_true rfl) (by decide) (z_ki ?_)
                      exact z_iret F dX9_copy_145 rfl (by decide) ⟨fun x => absurd (by omega) x, fun x => ⟨fun y => absurd y (show ¬ (amI (Ho p) = -93 ∨ amI (Ho q) = -93 ∨ (amI (Ho p) = 0 ∧ amI (Ho q) = 0 ∧ Ho p ≠ Ho q)) by omega), fun y => ⟨fun u => absurd u (show ¬ (amI (Ho p) ≠ 0 ∨ amI (Ho q) ≠ 0) by omega), fun u => ⟨fun v => ⟨rfl, rfl⟩, fun v => absurd (show 0 ≤ n9 ∧ 0 ≤ i9 ∧ 0 ≤ j9 ∧ n9 ≤ Sz p - i9 ∧ n9 ≤ Sz q - j9 from v) (by omega)⟩⟩⟩⟩
                    · skip
                      refine z_iload dX9_copy_107 rfl ?_
                      refine z_if_lt dX9_copy_109 (tgt := 139) rfl ⟨by omega, by omega⟩ (fun c20 => ?_) (fun c20 => ?_)
                      · skip
                        refine z_aload_n dX9_copy_139 rfl ?_
                        refine z_bipush dX9_copy_140 rfl ?_
                        refine cs_X9_60 dX9_copy_142 (D_X9_ref0 hM) MH_0 rfl rfl (Nat.le_of_ble_eq_true rfl) (by decide) (z_ki ?_)
                        exact z_iret F dX9_copy_145 rfl (by decide) ⟨fun x => absurd (by omega) x, fun x => ⟨fun y => absurd y (show ¬ (amI (Ho p) = -93 ∨ amI (Ho q) = -93 ∨ (amI (Ho p) = 0 ∧ amI (Ho q) = 0 ∧ Ho p ≠ Ho q)) by omega), fun y => ⟨fun u => absurd u (show ¬ (amI (Ho p) ≠ 0 ∨ amI (Ho q) ≠ 0) by omega), fun u => ⟨fun v => ⟨rfl, rfl⟩, fun v => absurd (show 0 ≤ n9 ∧ 0 ≤ i9 ∧ 0 ≤ j9 ∧ n9 ≤ Sz p - i9 ∧ n9 ≤ Sz q - j9 from v) (by omega)⟩⟩⟩⟩
                      · skip
                        refine z_iload dX9_copy_112 rfl ?_
                        refine z_aload_n dX9_copy_114 rfl ?_
                        refine gf_X9_40 dX9_copy_115 MH_0 rfl ?_
                        refine z_iload_n dX9_copy_118 rfl ?_
                        refine z_ialdN (m := p) dX9_copy_119 (MH_11 hM) (by omega) ⟨by omega, by omega⟩ ?_
                        refine z_iload_n dX9_copy_120 rfl ?_
                        refine z_isub dX9_copy_121 ?_
                        refine z_icmp_gt dX9_copy_122 (tgt := 139) rfl ⟨by omega, by omega⟩ ⟨by omega, by omega⟩ (fun c21 => ?_) (fun c21 => ?_)
                        · skip
                          refine z_aload_n dX9_copy_139 rfl ?_
                          refine z_bipush dX9_copy_140 rfl ?_
                          refine cs_X9_60 dX9_copy_142 (D_X9_ref0 hM) MH_0 rfl rfl (Nat.le_of_ble_eq_true rfl) (by decide) (z_ki ?_)
                          exact z_iret F dX9_copy_145 rfl (by decide) ⟨fun x => absurd (by omega) x, fun x => ⟨fun y => absurd y (show ¬ (amI (Ho p) = -93 ∨ amI (Ho q) = -93 ∨ (amI (Ho p) = 0 ∧ amI (Ho q) = 0 ∧ Ho p ≠ Ho q)) by omega), fun y => ⟨fun u => absurd u (show ¬ (amI (Ho p) ≠ 0 ∨ amI (Ho q) ≠ 0) by omega), fun u => ⟨fun v => ⟨rfl, rfl⟩, fun v => absurd (show 0 ≤ n9 ∧ 0 ≤ i9 ∧ 0 ≤ j9 ∧ n9 ≤ Sz p - i9 ∧ n9 ≤ Sz q - j9 from v) (by omega)⟩⟩⟩⟩
                        · skip
                          refine z_iload dX9_copy_125 rfl ?_
                          refine z_aload_n dX9_copy_127 rfl ?_
                          refine gf_X9_40 dX9_copy_128 MH_0 rfl ?_
                          refine z_iload_n dX9_copy_131 rfl ?_
                          refine z_ialdN (m := q) dX9_copy_132 (MH_11 hM) (by omega) ⟨by omega, by omega⟩ ?_
                          refine z_iload dX9_copy_133 rfl ?_
                          refine z_isub dX9_copy_135 ?_
                          refine z_icmp_le dX9_copy_136 (tgt := 146) rfl ⟨by omega, by omega⟩ ⟨by omega, by omega⟩ (fun c22 => ?_) (fun c22 => ?_)
                          · skip
                            obtain ⟨i, rfl⟩ : ∃ y : Nat, i9 = (y : Int) := ⟨i9.toNat, by omega⟩
                            obtain ⟨j, rfl⟩ : ∃ y : Nat, j9 = (y : Int) := ⟨j9.toNat, by omega⟩
                            obtain ⟨n, rfl⟩ : ∃ y : Nat, n9 = (y : Int) := ⟨n9.toNat, by omega⟩
                            have hszp := hsp.2
                            have hszq := hsq.2
                            refine z_iconst dX9_copy_146 ?_
                            refine z_istore dX9_copy_147 (Nat.le_of_ble_eq_true rfl) rfl ?_
                            refine z_heq (h' := (MH h0 A Rf Nw Th Tp Tx Kd Ia It Lk Ho Sz Im (cpA Mv 0 0 (fun k => Im (40 * p + i + k))) kp ln sz at_ we pa de ti lf md mn hi ha is_ ca)) (by rw [cpA_0]) ?_
                            have L4 : ∀ (fu : Nat) (r : Nat) (q1 : r ≤ n), n - r < fu → z_w g X cX9_copy RX9 (3, 0, 0) 149 [z_r (A 0), z_i (p : Int), z_i (q : Int), z_i (i : Int), z_i (j : Int), z_i (n : Int), z_i (amI (Ho p)), z_i (amI (Ho q)), z_i (r : Int)] [] (MH h0 A Rf Nw Th Tp Tx Kd Ia It Lk Ho Sz Im (cpA Mv 0 r (fun k => Im (40 * p + i + k))) kp ln sz at_ we pa de ti lf md mn hi ha is_ ca) 0 0 := by
                              intro fu
                              induction fu with
                              | zero => intro r q1 hm; exact absurd hm (Nat.not_lt_zero _)
                              | succ fu ih =>
                                intro r q1 hm
                                refine z_iload dX9_copy_149 rfl ?_
                                refine z_iload dX9_copy_151 rfl ?_
                                refine z_icmp_ge dX9_copy_153 (tgt := 183) rfl ⟨by omega, by omega⟩ ⟨by omega, by omega⟩ (fun c23 => ?_) (fun c23 => ?_)
                                · skip
                                  obtain rfl : n = r := by omega
                                  refine z_iconst dX9_copy_183 ?_
                                  refine z_istore dX9_copy_184 (Nat.le_of_ble_eq_true rfl) rfl ?_
                                  have hcp : cpA Im (40 * q + j) n (cpA Mv 0 n (fun k => Im (40 * p + i + k))) = cpA Im (40 * q + j) n (fun k => Im (40 * p + i + k)) := cpA_ag (fun k hk => by unfold cpA; rw [if_pos (by omega), Nat.sub_zero])
                                  refine z_heq (h' := (MH h0 A Rf Nw Th Tp Tx Kd Ia It Lk Ho Sz (cpA Im (40 * q + j) 0 (cpA Mv 0 n (fun k => Im (40 * p + i + k)))) (cpA Mv 0 n (fun k => Im (40 * p + i + k))) kp ln sz at_ we pa de ti lf md mn hi ha is_ ca)) (by rw [cpA_0]) ?_
                                  have L5 : ∀ (fu : Nat) (r : Nat) (q1 : r ≤ n), n - r < fu → z_w g X cX9_copy RX9 (3, 0, 0) 186 [z_r (A 0), z_i (p : Int), z_i (q : Int), z_i (i : Int), z_i (j : Int), z_i (n : Int), z_i (amI (Ho p)), z_i (amI (Ho q)), z_i (r : Int)] [] (MH h0 A Rf Nw Th Tp Tx Kd Ia It Lk Ho Sz (cpA Im (40 * q + j) r (cpA Mv 0 n (fun k => Im (40 * p + i + k)))) (cpA Mv 0 n (fun k => Im (40 * p + i + k))) kp ln sz at_ we pa de ti lf md mn hi ha is_ ca) 0 0 := by
                                    intro fu
                                    induction fu with
                                    | zero => intro r q1 hm; exact absurd hm (Nat.not_lt_zero _)
                                    | succ fu2 ih2 =>
                                      intro r q1 hm
                                      refine z_iload dX9_copy_186 rfl ?_
                                      refine z_iload dX9_copy_188 rfl ?_
                                      refine z_icmp_ge dX9_copy_190 (tgt := 221) rfl ⟨by omega, by omega⟩ ⟨by omega, by omega⟩ (fun c24 => ?_) (fun c24 => ?_)
                                      · skip
                                        obtain rfl : n = r := by omega
                                        refine z_iload dX9_copy_221 rfl ?_
                                        exact z_iret F dX9_copy_223 rfl (by decide) ⟨fun x => absurd (by omega) x, fun x => ⟨fun y => absurd y (show ¬ (amI (Ho p) = -93 ∨ amI (Ho q) = -93 ∨ (amI (Ho p) = 0 ∧ amI (Ho q) = 0 ∧ Ho p ≠ Ho q)) by omega), fun y => ⟨fun u => absurd u (show ¬ (amI (Ho p) ≠ 0 ∨ amI (Ho q) ≠ 0) by omega), fun u => ⟨fun v => absurd (show 0 ≤ (n : Int) ∧ 0 ≤ (i : Int) ∧ 0 ≤ (j : Int) ∧ (n : Int) ≤ Sz p - (i : Int) ∧ (n : Int) ≤ Sz q - (j : Int) by omega) v, fun v => ⟨rfl, _, congrArg (fun x => (MH h0 A Rf Nw Th Tp Tx Kd Ia It Lk Ho Sz x (cpA Mv 0 n (fun k => Im (40 * p + i + k))) kp ln sz at_ we pa de ti lf md mn hi ha is_ ca)) hcp⟩⟩⟩⟩⟩
                                      · skip
                                        refine z_aload_n dX9_copy_193 rfl ?_
                                        refine gf_X9_43 dX9_copy_194 MH_0 rfl ?_
                                        refine z_bipush dX9_copy_197 rfl ?_
                                        refine z_iload_n dX9_copy_199 rfl ?_
                                        refine z_imul dX9_copy_200 ?_
                                        refine z_iload dX9_copy_201 rfl ?_
                                        refine z_iadd dX9_copy_203 ?_
                                        refine z_iload dX9_copy_204 rfl ?_
                                        refine z_iadd dX9_copy_206 ?_
                                        refine z_aload_n dX9_copy_207 rfl ?_
                                        refine gf_X9_47 dX9_copy_208 MH_0 rfl ?_
                                        refine z_iload dX9_copy_211 rfl ?_
                                        refine z_laldN (m := r) dX9_copy_213 (MH_13 hM) (by omega) ⟨by omega, by omega⟩ ?_
                                        refine z_lastN (m := (40 * q + j + r)) dX9_copy_214 (MH_12 hM) (by omega) ⟨by omega, by omega⟩ ?_
                                        refine z_heq (MHu_12 hM) ?_
                                        refine z_heq (h' := (MH h0 A Rf Nw Th Tp Tx Kd Ia It Lk Ho Sz (cpA Im (40 * q + j) (r + 1) (cpA Mv 0 n (fun k => Im (40 * p + i + k)))) (cpA Mv 0 n (fun k => Im (40 * p + i + k))) kp ln sz at_ we pa de ti lf md mn hi ha is_ ca)) (by rw [cpA_s rfl rfl]) ?_
                                        refine z_iinc dX9_copy_215 rfl rfl ?_
                                        refine z_goto dX9_copy_218 (tgt := 186) rfl ?_
                                        exact ih2 (r + 1) (by omega) (by omega)
                                  exact L5 (n + 1) 0 (Nat.zero_le _) (by omega)
                                · skip
                                  refine z_aload_n dX9_copy_156 rfl ?_
                                  refine gf_X9_47 dX9_copy_157 MH_0 rfl ?_
                                  refine z_iload dX9_copy_160 rfl ?_
                                  refine z_aload_n dX9_copy_162 rfl ?_
                                  refine gf_X9_43 dX9_copy_163 MH_0 rfl ?_
                                  refine z_bipush dX9_copy_166 rfl ?_
                                  refine z_iload_n dX9_copy_168 rfl ?_
                                  refine z_imul dX9_copy_169 ?_
                                  refine z_iload_n dX9_copy_170 rfl ?_
                                  refine z_iadd dX9_copy_171 ?_
                                  refine z_iload dX9_copy_172 rfl ?_
                                  refine z_iadd dX9_copy_174 ?_
                                  refine z_laldN (m := (40 * p + i + r)) dX9_copy_175 (MH_12 hM) (by omega) ⟨by omega, by omega⟩ ?_
                                  refine z_lastN (m := r) dX9_copy_176 (MH_13 hM) (by omega) ⟨by omega, by omega⟩ ?_
                                  refine z_heq (MHu_13 hM) ?_
                                  refine z_heq (h' := (MH h0 A Rf Nw Th Tp Tx Kd Ia It Lk Ho Sz Im (cpA Mv 0 (r + 1) (fun k => Im (40 * p + i + k))) kp ln sz at_ we pa de ti lf md mn hi ha is_ ca)) (by rw [cpA_s (Nat.zero_add r).symm rfl]) ?_
                                  refine z_iinc dX9_copy_177 rfl rfl ?_
                                  refine z_goto dX9_copy_180 (tgt := 149) rfl ?_
                                  exact ih (r + 1) (by omega) (by omega)
                            exact L4 (n + 1) 0 (Nat.zero_le _) (by omega)
                          · skip
                            refine z_aload_n dX9_copy_139 rfl ?_
                            refine z_bipush dX9_copy_140 rfl ?_
                            refine cs_X9_60 dX9_copy_142 (D_X9_ref0 hM) MH_0 rfl rfl (Nat.le_of_ble_eq_true rfl) (by decide) (z_ki ?_)
                            exact z_iret F dX9_copy_145 rfl (by decide) ⟨fun x => absurd (by omega) x, fun x => ⟨fun y => absurd y (show ¬ (amI (Ho p) = -93 ∨ amI (Ho q) = -93 ∨ (amI (Ho p) = 0 ∧ amI (Ho q) = 0 ∧ Ho p ≠ Ho q)) by omega), fun y => ⟨fun u => absurd u (show ¬ (amI (Ho p) ≠ 0 ∨ amI (Ho q) ≠ 0) by omega), fun u => ⟨fun v => ⟨rfl, rfl⟩, fun v => absurd (show 0 ≤ n9 ∧ 0 ≤ i9 ∧ 0 ≤ j9 ∧ n9 ≤ Sz p - i9 ∧ n9 ≤ Sz q - j9 from v) (by omega)⟩⟩⟩⟩
                · skip
                  refine z_aload_n dX9_copy_91 rfl ?_
                  refine z_bipush dX9_copy_92 rfl ?_
                  refine cs_X9_60 dX9_copy_94 (D_X9_ref2 hM) MH_0 rfl rfl (Nat.le_of_ble_eq_true rfl) (by decide) (z_ki ?_)
                  exact z_iret F dX9_copy_97 rfl (by decide) ⟨fun x => absurd (by omega) x, fun x => ⟨fun y => absurd y (show ¬ (amI (Ho p) = -93 ∨ amI (Ho q) = -93 ∨ (amI (Ho p) = 0 ∧ amI (Ho q) = 0 ∧ Ho p ≠ Ho q)) by omega), fun y => ⟨fun u => ⟨rfl, rfl⟩, fun u => absurd (show amI (Ho p) ≠ 0 ∨ amI (Ho q) ≠ 0 by omega) u⟩⟩⟩
            · skip
              refine z_aload_n dX9_copy_59 rfl ?_
              refine gf_X9_37 dX9_copy_60 MH_0 rfl ?_
              refine z_iload_n dX9_copy_63 rfl ?_
              refine z_ialdN (m := p) dX9_copy_64 (MH_10 hM) (by omega) ⟨by omega, by omega⟩ ?_
              refine z_aload_n dX9_copy_65 rfl ?_
              refine gf_X9_37 dX9_copy_66 MH_0 rfl ?_
              refine z_iload_n dX9_copy_69 rfl ?_
              refine z_ialdN (m := q) dX9_copy_70 (MH_10 hM) (by omega) ⟨by omega, by omega⟩ ?_
              refine z_icmp_eq dX9_copy_71 (tgt := 81) rfl ⟨by omega, by omega⟩ ⟨by omega, by omega⟩ (fun c25 => ?_) (fun c25 => ?_)
              · skip
                refine z_iload dX9_copy_81 rfl ?_
                refine z_if_ne dX9_copy_83 (tgt := 91) rfl ⟨by omega, by omega⟩ (fun c26 => ?_) (fun c26 => ?_)
                · skip
                  refine z_aload_n dX9_copy_91 rfl ?_
                  refine z_bipush dX9_copy_92 rfl ?_
                  refine cs_X9_60 dX9_copy_94 (D_X9_ref2 hM) MH_0 rfl rfl (Nat.le_of_ble_eq_true rfl) (by decide) (z_ki ?_)
                  exact z_iret F dX9_copy_97 rfl (by decide) ⟨fun x => absurd (by omega) x, fun x => ⟨fun y => absurd y (show ¬ (amI (Ho p) = -93 ∨ amI (Ho q) = -93 ∨ (amI (Ho p) = 0 ∧ amI (Ho q) = 0 ∧ Ho p ≠ Ho q)) by omega), fun y => ⟨fun u => ⟨rfl, rfl⟩, fun u => absurd (show amI (Ho p) ≠ 0 ∨ amI (Ho q) ≠ 0 by omega) u⟩⟩⟩
                · skip
                  refine z_iload dX9_copy_86 rfl ?_
                  refine z_if_eq dX9_copy_88 (tgt := 98) rfl ⟨by omega, by omega⟩ (fun c27 => ?_) (fun c27 => ?_)
                  · skip
                    refine z_iload dX9_copy_98 rfl ?_
                    refine z_if_lt dX9_copy_100 (tgt := 139) rfl ⟨by omega, by omega⟩ (fun c28 => ?_) (fun c28 => ?_)
                    · skip
                      refine z_aload_n dX9_copy_139 rfl ?_
                      refine z_bipush dX9_copy_140 rfl ?_
                      refine cs_X9_60 dX9_copy_142 (D_X9_ref0 hM) MH_0 rfl rfl (Nat.le_of_ble_eq_true rfl) (by decide) (z_ki ?_)
                      exact z_iret F dX9_copy_145 rfl (by decide) ⟨fun x => absurd (by omega) x, fun x => ⟨fun y => absurd y (show ¬ (amI (Ho p) = -93 ∨ amI (Ho q) = -93 ∨ (amI (Ho p) = 0 ∧ amI (Ho q) = 0 ∧ Ho p ≠ Ho q)) by omega), fun y => ⟨fun u => absurd u (show ¬ (amI (Ho p) ≠ 0 ∨ amI (Ho q) ≠ 0) by omega), fun u => ⟨fun v => ⟨rfl, rfl⟩, fun v => absurd (show 0 ≤ n9 ∧ 0 ≤ i9 ∧ 0 ≤ j9 ∧ n9 ≤ Sz p - i9 ∧ n9 ≤ Sz q - j9 from v) (by omega)⟩⟩⟩⟩
                    · skip
                      refine z_iload_n dX9_copy_103 rfl ?_
                      refine z_if_lt dX9_copy_104 (tgt := 139) rfl ⟨by omega, by omega⟩ (fun c29 => ?_) (fun c29 => ?_)
                      · skip
                        refine z_aload_n dX9_copy_139 rfl ?_
                        refine z_bipush dX9_copy_140 rfl ?_
                        refine cs_X9_60 dX9_copy_142 (D_X9_ref0 hM) MH_0 rfl rfl (Nat.le_of_ble_eq_true rfl) (by decide) (z_ki ?_)
                        exact z_iret F dX9_copy_145 rfl (by decide) ⟨fun x => absurd (by omega) x, fun x => ⟨fun y => absurd y (show ¬ (amI (Ho p) = -93 ∨ amI (Ho q) = -93 ∨ (amI (Ho p) = 0 ∧ amI (Ho q) = 0 ∧ Ho p ≠ Ho q)) by omega), fun y => ⟨fun u => absurd u (show ¬ (amI (Ho p) ≠ 0 ∨ amI (Ho q) ≠ 0) by omega), fun u => ⟨fun v => ⟨rfl, rfl⟩, fun v => absurd (show 0 ≤ n9 ∧ 0 ≤ i9 ∧ 0 ≤ j9 ∧ n9 ≤ Sz p - i9 ∧ n9 ≤ Sz q - j9 from v) (by omega)⟩⟩⟩⟩
                      · skip
                        refine z_iload dX9_copy_107 rfl ?_
                        refine z_if_lt dX9_copy_109 (tgt := 139) rfl ⟨by omega, by omega⟩ (fun c30 => ?_) (fun c30 => ?_)
                        · skip
                          refine z_aload_n dX9_copy_139 rfl ?_
                          refine z_bipush dX9_copy_140 rfl ?_
                          refine cs_X9_60 dX9_copy_142 (D_X9_ref0 hM) MH_0 rfl rfl (Nat.le_of_ble_eq_true rfl) (by decide) (z_ki ?_)
                          exact z_iret F dX9_copy_145 rfl (by decide) ⟨fun x => absurd (by omega) x, fun x => ⟨fun y => absurd y (show ¬ (amI (Ho p) = -93 ∨ amI (Ho q) = -93 ∨ (amI (Ho p) = 0 ∧ amI (Ho q) = 0 ∧ Ho p ≠ Ho q)) by omega), fun y => ⟨fun u => absurd u (show ¬ (amI (Ho p) ≠ 0 ∨ amI (Ho q) ≠ 0) by omega), fun u => ⟨fun v => ⟨rfl, rfl⟩, fun v => absurd (show 0 ≤ n9 ∧ 0 ≤ i9 ∧ 0 ≤ j9 ∧ n9 ≤ Sz p - i9 ∧ n9 ≤ Sz q - j9 from v) (by omega)⟩⟩⟩⟩
                        · skip
                          refine z_iload dX9_copy_112 rfl ?_
                          refine z_aload_n dX9_copy_114 rfl ?_
                          refine gf_X9_40 dX9_copy_115 MH_0 rfl ?_
                          refine z_iload_n dX9_copy_118 rfl ?_
                          refine z_ialdN (m := p) dX9_copy_119 (MH_11 hM) (by omega) ⟨by omega, by omega⟩ ?_
                          refine z_iload_n dX9_copy_120 rfl ?_
                          refine z_isub dX9_copy_121 ?_
                          refine z_icmp_gt dX9_copy_122 (tgt := 139) rfl ⟨by omega, by omega⟩ ⟨by omega, by omega⟩ (fun c31 => ?_) (fun c31 => ?_)
                          · skip
                            refine z_aload_n dX9_copy_139 rfl ?_
                            refine z_bipush dX9_copy_140 rfl ?_
                            refine cs_X9_60 dX9_copy_142 (D_X9_ref0 hM) MH_0 rfl rfl (Nat.le_of_ble_eq_true rfl) (by decide) (z_ki ?_)
                            exact z_iret F dX9_copy_145 rfl (by decide) ⟨fun x => absurd (by omega) x, fun x => ⟨fun y => absurd y (show ¬ (amI (Ho p) = -93 ∨ amI (Ho q) = -93 ∨ (amI (Ho p) = 0 ∧ amI (Ho q) = 0 ∧ Ho p ≠ Ho q)) by omega), fun y => ⟨fun u => absurd u (show ¬ (amI (Ho p) ≠ 0 ∨ amI (Ho q) ≠ 0) by omega), fun u => ⟨fun v => ⟨rfl, rfl⟩, fun v => absurd (show 0 ≤ n9 ∧ 0 ≤ i9 ∧ 0 ≤ j9 ∧ n9 ≤ Sz p - i9 ∧ n9 ≤ Sz q - j9 from v) (by omega)⟩⟩⟩⟩
                          · skip
                            refine z_iload dX9_copy_125 rfl ?_
                            refine z_aload_n dX9_copy_127 rfl ?_
                            refine gf_X9_40 dX9_copy_128 MH_0 rfl ?_
                            refine z_iload_n dX9_copy_131 rfl ?_
                            refine z_ialdN (m := q) dX9_copy_132 (MH_11 hM) (by omega) ⟨by omega, by omega⟩ ?_
                            refine z_iload dX9_copy_133 rfl ?_
                            refine z_isub dX9_copy_135 ?_
                            refine z_icmp_le dX9_copy_136 (tgt := 146) rfl ⟨by omega, by omega⟩ ⟨by omega, by omega⟩ (fun c32 => ?_) (fun c32 => ?_)
                            · skip
                              obtain ⟨i, rfl⟩ : ∃ y : Nat, i9 = (y : Int) := ⟨i9.toNat, by omega⟩
                              obtain ⟨j, rfl⟩ : ∃ y : Nat, j9 = (y : Int) := ⟨j9.toNat, by omega⟩
                              obtain ⟨n, rfl⟩ : ∃ y : Nat, n9 = (y : Int) := ⟨n9.toNat, by omega⟩
                              have hszp := hsp.2
                              have hszq := hsq.2
                              refine z_iconst dX9_copy_146 ?_
                              refine z_istore dX9_copy_147 (Nat.le_of_ble_eq_true rfl) rfl ?_
                              refine z_heq (h' := (MH h0 A Rf Nw Th Tp Tx Kd Ia It Lk Ho Sz Im (cpA Mv 0 0 (fun k => Im (40 * p + i + k))) kp ln sz at_ we pa de ti lf md mn hi ha is_ ca)) (by rw [cpA_0]) ?_
                              have L4 : ∀ (fu : Nat) (r : Nat) (q1 : r ≤ n), n - r < fu → z_w g X cX9_copy RX9 (3, 0, 0) 149 [z_r (A 0), z_i (p : Int), z_i (q : Int), z_i (i : Int), z_i (j : Int), z_i (n : Int), z_i (amI (Ho p)), z_i (amI (Ho q)), z_i (r : Int)] [] (MH h0 A Rf Nw Th Tp Tx Kd Ia It Lk Ho Sz Im (cpA Mv 0 r (fun k => Im (40 * p + i + k))) kp ln sz at_ we pa de ti lf md mn hi ha is_ ca) 0 0 := by
                                intro fu
                                induction fu with
                                | zero => intro r q1 hm; exact absurd hm (Nat.not_lt_zero _)
                                | succ fu ih =>
                                  intro r q1 hm
                                  refine z_iload dX9_copy_149 rfl ?_
                                  refine z_iload dX9_copy_151 rfl ?_
                                  refine z_icmp_ge dX9_copy_153 (tgt := 183) rfl ⟨by omega, by omega⟩ ⟨by omega, by omega⟩ (fun c33 => ?_) (fun c33 => ?_)
                                  · skip
                                    obtain rfl : n = r := by omega
                                    refine z_iconst dX9_copy_183 ?_
                                    refine z_istore dX9_copy_184 (Nat.le_of_ble_eq_true rfl) rfl ?_
                                    have hcp : cpA Im (40 * q + j) n (cpA Mv 0 n (fun k => Im (40 * p + i + k))) = cpA Im (40 * q + j) n (fun k => Im (40 * p + i + k)) := cpA_ag (fun k hk => by unfold cpA; rw [if_pos (by omega), Nat.sub_zero])
                                    refine z_heq (h' := (MH h0 A Rf Nw Th Tp Tx Kd Ia It Lk Ho Sz (cpA Im (40 * q + j) 0 (cpA Mv 0 n (fun k => Im (40 * p + i + k)))) (cpA Mv 0 n (fun k => Im (40 * p + i + k))) kp ln sz at_ we pa de ti lf md mn hi ha is_ ca)) (by rw [cpA_0]) ?_
                                    have L5 : ∀ (fu : Nat) (r : Nat) (q1 : r ≤ n), n - r < fu → z_w g X cX9_copy RX9 (3, 0, 0) 186 [z_r (A 0), z_i (p : Int), z_i (q : Int), z_i (i : Int), z_i (j : Int), z_i (n : Int), z_i (amI (Ho p)), z_i (amI (Ho q)), z_i (r : Int)] [] (MH h0 A Rf Nw Th Tp Tx Kd Ia It Lk Ho Sz (cpA Im (40 * q + j) r (cpA Mv 0 n (fun k => Im (40 * p + i + k)))) (cpA Mv 0 n (fun k => Im (40 * p + i + k))) kp ln sz at_ we pa de ti lf md mn hi ha is_ ca) 0 0 := by
                                      intro fu
                                      induction fu with
                                      | zero => intro r q1 hm; exact absurd hm (Nat.not_lt_zero _)
                                      | succ fu2 ih2 =>
                                        intro r q1 hm
                                        refine z_iload dX9_copy_186 rfl ?_
                                        refine z_iload dX9_copy_188 rfl ?_
                                        refine z_icmp_ge dX9_copy_190 (tgt := 221) rfl ⟨by omega, by omega⟩ ⟨by omega, by omega⟩ (fun c34 => ?_) (fun c34 => ?_)
                                        · skip
                                          obtain rfl : n = r := by omega
                                          refine z_iload dX9_copy_221 rfl ?_
                                          exact z_iret F dX9_copy_223 rfl (by decide) ⟨fun x => absurd (by omega) x, fun x => ⟨fun y => absurd y (show ¬ (amI (Ho p) = -93 ∨ amI (Ho q) = -93 ∨ (amI (Ho p) = 0 ∧ amI (Ho q) = 0 ∧ Ho p ≠ Ho q)) by omega), fun y => ⟨fun u => absurd u (show ¬ (amI (Ho p) ≠ 0 ∨ amI (Ho q) ≠ 0) by omega), fun u => ⟨fun v => absurd (show 0 ≤ (n : Int) ∧ 0 ≤ (i : Int) ∧ 0 ≤ (j : Int) ∧ (n : Int) ≤ Sz p - (i : Int) ∧ (n : Int) ≤ Sz q - (j : Int) by omega) v, fun v => ⟨rfl, _, congrArg (fun x => (MH h0 A Rf Nw Th Tp Tx Kd Ia It Lk Ho Sz x (cpA Mv 0 n (fun k => Im (40 * p + i + k))) kp ln sz at_ we pa de ti lf md mn hi ha is_ ca)) hcp⟩⟩⟩⟩⟩
                                        · skip
                                          refine z_aload_n dX9_copy_193 rfl ?_
                                          refine gf_X9_43 dX9_copy_194 MH_0 rfl ?_
                                          refine z_bipush dX9_copy_197 rfl ?_
                                          refine z_iload_n dX9_copy_199 rfl ?_
                                          refine z_imul dX9_copy_200 ?_
                                          refine z_iload dX9_copy_201 rfl ?_
                                          refine z_iadd dX9_copy_203 ?_
                                          refine z_iload dX9_copy_204 rfl ?_
                                          refine z_iadd dX9_copy_206 ?_
                                          refine z_aload_n dX9_copy_207 rfl ?_
                                          refine gf_X9_47 dX9_copy_208 MH_0 rfl ?_
                                          refine z_iload dX9_copy_211 rfl ?_
                                          refine z_laldN (m := r) dX9_copy_213 (MH_13 hM) (by omega) ⟨by omega, by omega⟩ ?_
                                          refine z_lastN (m := (40 * q + j + r)) dX9_copy_214 (MH_12 hM) (by omega) ⟨by omega, by omega⟩ ?_
                                          refine z_heq (MHu_12 hM) ?_
                                          refine z_heq (h' := (MH h0 A Rf Nw Th Tp Tx Kd Ia It Lk Ho Sz (cpA Im (40 * q + j) (r + 1) (cpA Mv 0 n (fun k => Im (40 * p + i + k)))) (cpA Mv 0 n (fun k => Im (40 * p + i + k))) kp ln sz at_ we pa de ti lf md mn hi ha is_ ca)) (by rw [cpA_s rfl rfl]) ?_
                                          refine z_iinc dX9_copy_215 rfl rfl ?_
                                          refine z_goto dX9_copy_218 (tgt := 186) rfl ?_
                                          exact ih2 (r + 1) (by omega) (by omega)
                                    exact L5 (n + 1) 0 (Nat.zero_le _) (by omega)
                                  · skip
                                    refine z_aload_n dX9_copy_156 rfl ?_
                                    refine gf_X9_47 dX9_copy_157 MH_0 rfl ?_
                                    refine z_iload dX9_copy_160 rfl ?_
                                    refine z_aload_n dX9_copy_162 rfl ?_
                                    refine gf_X9_43 dX9_copy_163 MH_0 rfl ?_
                                    refine z_bipush dX9_copy_166 rfl ?_
                                    refine z_iload_n dX9_copy_168 rfl ?_
                                    refine z_imul dX9_copy_169 ?_
                                    refine z_iload_n dX9_copy_170 rfl ?_
                                    refine z_iadd dX9_copy_171 ?_
                                    refine z_iload dX9_copy_172 rfl ?_
                                    refine z_iadd dX9_copy_174 ?_
                                    refine z_laldN (m := (40 * p + i + r)) dX9_copy_175 (MH_12 hM) (by omega) ⟨by omega, by omega⟩ ?_
                                    refine z_lastN (m := r) dX9_copy_176 (MH_13 hM) (by omega) ⟨by omega, by omega⟩ ?_
                                    refine z_heq (MHu_13 hM) ?_
                                    refine z_heq (h' := (MH h0 A Rf Nw Th Tp Tx Kd Ia It Lk Ho Sz Im (cpA Mv 0 (r + 1) (fun k => Im (40 * p + i + k))) kp ln sz at_ we pa de ti lf md mn hi ha is_ ca)) (by rw [cpA_s (Nat.zero_add r).symm rfl]) ?_
                                    refine z_iinc dX9_copy_177 rfl rfl ?_
                                    refine z_goto dX9_copy_180 (tgt := 149) rfl ?_
                                    exact ih (r + 1) (by omega) (by omega)
                              exact L4 (n + 1) 0 (Nat.zero_le _) (by omega)
                            · skip
                              refine z_aload_n dX9_copy_139 rfl ?_
                              refine z_bipush dX9_copy_140 rfl ?_
                              refine cs_X9_60 dX9_copy_142 (D_X9_ref0 hM) MH_0 rfl rfl (Nat.le_of_ble_eq_true rfl) (by decide) (z_ki ?_)
                              exact z_iret F dX9_copy_145 rfl (by decide) ⟨fun x => absurd (by omega) x, fun x => ⟨fun y => absurd y (show ¬ (amI (Ho p) = -93 ∨ amI (Ho q) = -93 ∨ (amI (Ho p) = 0 ∧ amI (Ho q) = 0 ∧ Ho p ≠ Ho q)) by omega), fun y => ⟨fun u => absurd u (show ¬ (amI (Ho p) ≠ 0 ∨ amI (Ho q) ≠ 0) by omega), fun u => ⟨fun v => ⟨rfl, rfl⟩, fun v => absurd (show 0 ≤ n9 ∧ 0 ≤ i9 ∧ 0 ≤ j9 ∧ n9 ≤ Sz p - i9 ∧ n9 ≤ Sz q - j9 from v) (by omega)⟩⟩⟩⟩
                  · skip
                    refine z_aload_n dX9_copy_91 rfl ?_
                    refine z_bipush dX9_copy_92 rfl ?_
                    refine cs_X9_60 dX9_copy_94 (D_X9_ref2 hM) MH_0 rfl rfl (Nat.le_of_ble_eq_true rfl) (by decide) (z_ki ?_)
                    exact z_iret F dX9_copy_97 rfl (by decide) ⟨fun x => absurd (by omega) x, fun x => ⟨fun y => absurd y (show ¬ (amI (Ho p) = -93 ∨ amI (Ho q) = -93 ∨ (amI (Ho p) = 0 ∧ amI (Ho q) = 0 ∧ Ho p ≠ Ho q)) by omega), fun y => ⟨fun u => ⟨rfl, rfl⟩, fun u => absurd (show amI (Ho p) ≠ 0 ∨ amI (Ho q) ≠ 0 by omega) u⟩⟩⟩
              · skip
                refine z_aload_n dX9_copy_74 rfl ?_
                refine z_bipush dX9_copy_75 rfl ?_
                refine cs_X9_60 dX9_copy_77 (D_X9_ref1 hM) MH_0 rfl rfl (Nat.le_of_ble_eq_true rfl) (by decide) (z_ki ?_)
                exact z_iret F dX9_copy_80 rfl (by decide) ⟨fun x => absurd (by omega) x, fun x => ⟨fun y => ⟨rfl, rfl⟩, fun y => absurd (show amI (Ho p) = -93 ∨ amI (Ho q) = -93 ∨ (amI (Ho p) = 0 ∧ amI (Ho q) = 0 ∧ Ho p ≠ Ho q) by omega) y⟩⟩
    · skip
      refine z_aload_n dX9_copy_14 rfl ?_
      refine z_bipush dX9_copy_15 rfl ?_
      refine cs_X9_60 dX9_copy_17 (D_X9_ref0 hM) MH_0 rfl rfl (Nat.le_of_ble_eq_true rfl) (by decide) (z_ki ?_)
      exact z_iret F dX9_copy_20 rfl (by decide) ⟨fun x => ⟨rfl, rfl⟩, fun x => absurd x (by omega)⟩
set_option maxHeartbeats 4000000 in
set_option maxRecDepth 100000 in
theorem D_X9_element {g : z_G} {h0 : z_H} {A : Nat → Nat} (hM : mD A) {Rf Nw Th Tp Tx Kd Ia It Lk Ho Sz Im Mv : Nat → Int} {kp ln sz at_ we pa de ti lf md mn hi ha is_ ca : Int} (hhs : hWf Ho Sz) {si i9 : Int} (hsi : z_in si) (hi9 : z_in i9) : z_D g mX9_element 3 0 0 [z_r (A 0), z_i si, z_i i9] (MH h0 A Rf Nw Th Tp Tx Kd Ia It Lk Ho Sz Im Mv kp ln sz at_ we pa de ti lf md mn hi ha is_ ca) (z_Pl (if isS si ∧ amI (Ho si.toNat) = 0 ∧ 0 ≤ i9 ∧ i9 < Sz si.toNat then Im (40 * si.toNat + i9.toNat) else 0) (MH h0 A Rf Nw Th Tp Tx Kd Ia It Lk Ho Sz Im Mv kp ln sz at_ we pa de ti lf md mn hi ha is_ ca)) := by
  refine z_D.of (by decide +kernel) (Nat.le_of_ble_eq_true rfl) (fun X F => ?_)
  show z_w g X cX9_element RX9 (3, 0, 0) 0 [z_r (A 0), z_i si, z_i i9] [] (MH h0 A Rf Nw Th Tp Tx Kd Ia It Lk Ho Sz Im Mv kp ln sz at_ we pa de ti lf md mn hi ha is_ ca) 0 0
  refine z_iload_n dX9_element_0 rfl ?_
  refine cs_X9_254 dX9_element_1 (D_X9_isShelf (s := si) ⟨by omega, by omega⟩) rfl rfl (Nat.le_of_ble_eq_true rfl) (by decide) (z_ki ?_)
  refine z_if_eq dX9_element_4 (tgt := 47) rfl ⟨by split <;> omega, by split <;> omega⟩ (fun c1 => ?_) (fun c1 => ?_)
  · skip
    refine z_lconst0 dX9_element_47 ?_
    exact z_lret F dX9_element_48 rfl (by decide) ⟨congrArg (fun z => some (z_l z)) (if_neg (by first | omega | (rw [Int.toNat_natCast]; omega))).symm, rfl⟩
  · skip
    obtain ⟨s, rfl⟩ : ∃ y : Nat, si = (y : Int) := ⟨si.toNat, by omega⟩
    have hss := hhs s (by omega)
    have hap := amI_c (Ho s)
    refine z_aload_n dX9_element_7 rfl ?_
    refine z_iload_n dX9_element_8 rfl ?_
    refine cs_X9_261 dX9_element_9 (D_X9_amiss hM (s := s) (by omega) ⟨by omega, by omega⟩) MH_0 rfl rfl (Nat.le_of_ble_eq_true rfl) (by decide) (z_ki ?_)
    refine z_if_ne dX9_element_12 (tgt := 47) rfl ⟨by omega, by omega⟩ (fun c2 => ?_) (fun c2 => ?_)
    · skip
      refine z_lconst0 dX9_element_47 ?_
      exact z_lret F dX9_element_48 rfl (by decide) ⟨congrArg (fun z => some (z_l z)) (if_neg (by first | omega | (rw [Int.toNat_natCast]; omega))).symm, rfl⟩
    · skip
      refine z_iload_n dX9_element_15 rfl ?_
      refine z_i2l dX9_element_16 ⟨by omega, by omega⟩ ?_
      refine z_lconst0 dX9_element_17 ?_
      refine z_aload_n dX9_element_18 rfl ?_
      refine gf_X9_40 dX9_element_19 MH_0 rfl ?_
      refine z_iload_n dX9_element_22 rfl ?_
      refine z_ialdN (m := s) dX9_element_23 (MH_11 hM) (by omega) ⟨by omega, by omega⟩ ?_
      refine z_iconst dX9_element_24 ?_
      refine z_isub dX9_element_25 ?_
      refine z_i2l dX9_element_26 ⟨by omega, by omega⟩ ?_
      refine cs_X9_56 dX9_element_27 (D_X9_isIn (v := i9) (lo := 0) (hi := (Sz s) - 1) ⟨by omega, by omega⟩ (by decide) ⟨by omega, by omega⟩) rfl rfl (Nat.le_of_ble_eq_true rfl) (by decide) (z_ki ?_)
      refine z_if_eq dX9_element_30 (tgt := 47) rfl ⟨by split <;> omega, by split <;> omega⟩ (fun c3 => ?_) (fun c3 => ?_)
      · skip
        refine z_lconst0 dX9_element_47 ?_
        exact z_lret F dX9_element_48 rfl (by decide) ⟨congrArg (fun z => some (z_l z)) (if_neg (by first | omega | (rw [Int.toNat_natCast]; omega))).symm, rfl⟩
      · skip
        obtain ⟨i, rfl⟩ : ∃ y : Nat, i9 = (y : Int) := ⟨i9.toNat, by omega⟩
        have hC : isS (s : Int) ∧ amI (Ho (s : Int).toNat) = 0 ∧ 0 ≤ (i : Int) ∧ (i : Int) < Sz (s : Int).toNat := by rw [Int.toNat_natCast]; omega
        refine z_aload_n dX9_element_33 rfl ?_
        refine gf_X9_43 dX9_element_34 MH_0 rfl ?_
        refine z_bipush dX9_element_37 rfl ?_
        refine z_iload_n dX9_element_39 rfl ?_
        refine z_imul dX9_element_40 ?_
        refine z_iload_n dX9_element_41 rfl ?_
        refine z_iadd dX9_element_42 ?_
        refine z_laldN (m := (40 * s + i)) dX9_element_43 (MH_12 hM) (by omega) ⟨by omega, by omega⟩ ?_
        refine z_goto dX9_element_44 (tgt := 48) rfl ?_
        exact z_lret F dX9_element_48 rfl (by decide) ⟨congrArg (fun z => some (z_l z)) (if_pos hC).symm, rfl⟩
set_option maxHeartbeats 4000000 in
set_option maxRecDepth 100000 in
theorem D_X9_holds {g : z_G} {h0 : z_H} {A : Nat → Nat} (hM : mD A) {Rf Nw Th Tp Tx Kd Ia It Lk Ho Sz Im Mv : Nat → Int} {kp ln sz at_ we pa de ti lf md mn hi ha is_ ca : Int} {si : Int} (hsi : z_in si) : z_D g mX9_holds 3 0 0 [z_r (A 0), z_i si] (MH h0 A Rf Nw Th Tp Tx Kd Ia It Lk Ho Sz Im Mv kp ln sz at_ we pa de ti lf md mn hi ha is_ ca) (z_Pi (if isS si then Ho si.toNat else -1) (MH h0 A Rf Nw Th Tp Tx Kd Ia It Lk Ho Sz Im Mv kp ln sz at_ we pa de ti lf md mn hi ha is_ ca)) := by
  refine z_D.of (by decide +kernel) (Nat.le_of_ble_eq_true rfl) (fun X F => ?_)
  show z_w g X cX9_holds RX9 (3, 0, 0) 0 [z_r (A 0), z_i si] [] (MH h0 A Rf Nw Th Tp Tx Kd Ia It Lk Ho Sz Im Mv kp ln sz at_ we pa de ti lf md mn hi ha is_ ca) 0 0
  refine z_iload_n dX9_holds_0 rfl ?_
  refine cs_X9_254 dX9_holds_1 (D_X9_isShelf (s := si) ⟨by omega, by omega⟩) rfl rfl (Nat.le_of_ble_eq_true rfl) (by decide) (z_ki ?_)
  refine z_if_eq dX9_holds_4 (tgt := 16) rfl ⟨by split <;> omega, by split <;> omega⟩ (fun c1 => ?_) (fun c1 => ?_)
  · skip
    refine z_iconst dX9_holds_16 ?_
    exact z_iret F dX9_holds_17 rfl (by decide) ⟨congrArg (fun z => some (z_i z)) (by first | exact (if_pos (by omega)).symm | exact (if_neg (by omega)).symm), rfl⟩
  · skip
    refine z_aload_n dX9_holds_7 rfl ?_
    refine gf_X9_37 dX9_holds_8 MH_0 rfl ?_
    refine z_iload_n dX9_holds_11 rfl ?_
    refine z_ialdN (m := si.toNat) dX9_holds_12 (MH_10 hM) (by omega) ⟨by omega, by omega⟩ ?_
    refine z_goto dX9_holds_13 (tgt := 17) rfl ?_
    exact z_iret F dX9_holds_17 rfl (by decide) ⟨congrArg (fun z => some (z_i z)) (by first | exact (if_pos (by omega)).symm | exact (if_neg (by omega)).symm), rfl⟩
set_option maxHeartbeats 4000000 in
set_option maxRecDepth 100000 in
theorem D_X9_show {g : z_G} {h0 : z_H} {A : Nat → Nat} (hM : mD A) {Rf Nw Th Tp Tx Kd Ia It Lk Ho Sz Im Mv : Nat → Int} {kp ln sz at_ we pa de ti lf md mn hi ha is_ ca : Int} {G : Nat → z_G4} (hwf : nWf Nw G) (hhs : hWf Ho Sz) {si wk i9 : Int} (hsi : z_in si) (hwk : z_in wk) (hi9 : z_in i9) : z_D g mX9_show 3 0 0 [z_r (A 0), z_i si, z_i wk, z_i i9] (MH h0 A Rf Nw Th Tp Tx Kd Ia It Lk Ho Sz Im Mv kp ln sz at_ we pa de ti lf md mn hi ha is_ ca) (fun rv h' => (isS si ∧ (wk = -1 ∨ (isW Nw wk ∧ 0 ≤ i9 ∧ i9 < (zF Nw wk.toNat : Int))) → rv = some (z_i 1) ∧ h' = (MH h0 A Rf Nw Th Tp Tx Kd Ia It Lk (z_sf Ho si.toNat (if wk = -1 then -1 else 10 + kR Nw wk.toNat i9.toNat)) Sz Im Mv kp ln sz at_ we pa de ti lf md mn hi ha is_ ca)) ∧ (¬ (isS si ∧ (wk = -1 ∨ (isW Nw wk ∧ 0 ≤ i9 ∧ i9 < (zF Nw wk.toNat : Int)))) → rv = some (z_i (-92)) ∧ h' = (MH h0 A (z_sf Rf 0 (Rf 0 + 1)) Nw Th Tp Tx Kd Ia It Lk Ho Sz Im Mv kp ln sz at_ we pa de ti lf md mn hi ha is_ ca))) := by
  refine z_D.of (by decide +kernel) (Nat.le_of_ble_eq_true rfl) (fun X F => ?_)
  obtain ⟨w1, w2, w3, w4, w5, w6, w7⟩ := hwf
  show z_w g X cX9_show RX9 (3, 0, 0) 0 [z_r (A 0), z_i si, z_i wk, z_i i9] [] (MH h0 A Rf Nw Th Tp Tx Kd Ia It Lk Ho Sz Im Mv kp ln sz at_ we pa de ti lf md mn hi ha is_ ca) 0 0
  refine z_iload_n dX9_show_0 rfl ?_
  refine cs_X9_254 dX9_show_1 (D_X9_isShelf (s := si) ⟨by omega, by omega⟩) rfl rfl (Nat.le_of_ble_eq_true rfl) (by decide) (z_ki ?_)
  refine z_if_eq dX9_show_4 (tgt := 37) rfl ⟨by split <;> omega, by split <;> omega⟩ (fun c1 => ?_) (fun c1 => ?_)
  · skip
    refine z_aload_n dX9_show_37 rfl ?_
    refine z_bipush dX9_show_38 rfl ?_
    refine cs_X9_60 dX9_show_40 (D_X9_ref0 hM) MH_0 rfl rfl (Nat.le_of_ble_eq_true rfl) (by decide) (z_ki ?_)
    exact z_iret F dX9_show_43 rfl (by decide) ⟨fun q => absurd q (fun q => by rcases q with ⟨q1, q2 | ⟨q2, q3⟩⟩ <;> first | omega | (rw [Int.toNat_natCast] at q3; omega)), fun q => ⟨rfl, rfl⟩⟩
  · skip
    obtain ⟨s, rfl⟩ : ∃ y : Nat, si = (y : Int) := ⟨si.toNat, by omega⟩
    have hss := hhs s (by omega)
    refine z_iload_n dX9_show_7 rfl ?_
    refine z_iconst dX9_show_8 ?_
    refine z_icmp_eq dX9_show_9 (tgt := 44) rfl ⟨by omega, by omega⟩ (by decide) (fun c2 => ?_) (fun c2 => ?_)
    · skip
      obtain rfl : wk = -1 := c2
      refine z_aload_n dX9_show_44 rfl ?_
      refine gf_X9_37 dX9_show_45 MH_0 rfl ?_
      refine z_iload_n dX9_show_48 rfl ?_
      refine z_iload_n dX9_show_49 rfl ?_
      refine z_iconst dX9_show_50 ?_
      refine z_icmp_ne dX9_show_51 (tgt := 58) rfl (by decide) (by decide) (fun c3 => ?_) (fun c3 => ?_)
      · exact absurd c3 (by decide)
      · skip
        refine z_iconst dX9_show_54 ?_
        refine z_goto dX9_show_55 (tgt := 67) rfl ?_
        refine z_ieq (y := if (-1 : Int) = -1 then -1 else 10 + kR Nw (-1 : Int).toNat i9.toNat) ((if_pos rfl).symm) ?_
        refine z_iastN (m := s) dX9_show_67 (MH_10 hM) (by omega) ⟨by omega, by omega⟩ ?_
        refine z_heq (MHu_10 hM) ?_
        refine z_iconst dX9_show_68 ?_
        exact z_iret F dX9_show_69 rfl (by decide) ⟨fun q => ⟨rfl, rfl⟩, fun q => absurd (by first | exact ⟨by omega, Or.inl rfl⟩ | exact ⟨by omega, Or.inr ⟨by omega, by rw [Int.toNat_natCast]; omega⟩⟩) q⟩
    · skip
      refine z_aload_n dX9_show_12 rfl ?_
      refine z_iload_n dX9_show_13 rfl ?_
      refine cs_X9_215 dX9_show_14 (D_X9_isWorked hM (i := wk) ⟨by omega, by omega⟩ ⟨by omega, by omega⟩) MH_0 rfl rfl (Nat.le_of_ble_eq_true rfl) (by decide) (z_ki ?_)
      refine z_if_eq dX9_show_17 (tgt := 37) rfl ⟨by split <;> omega, by split <;> omega⟩ (fun c4 => ?_) (fun c4 => ?_)
      · skip
        refine z_aload_n dX9_show_37 rfl ?_
        refine z_bipush dX9_show_38 rfl ?_
        refine cs_X9_60 dX9_show_40 (D_X9_ref0 hM) MH_0 rfl rfl (Nat.le_of_ble_eq_true rfl) (by decide) (z_ki ?_)
        exact z_iret F dX9_show_43 rfl (by decide) ⟨fun q => absurd q (fun q => by rcases q with ⟨q1, q2 | ⟨q2, q3⟩⟩ <;> first | omega | (rw [Int.toNat_natCast] at q3; omega)), fun q => ⟨rfl, rfl⟩⟩
      · skip
        obtain ⟨w, rfl⟩ : ∃ y : Nat, wk = (y : Int) := ⟨wk.toNat, by omega⟩
        have hRw := w7 w (by omega)
        have hWw := hRw.1
        have hz200w := hWw.2.2.1
        have hw50w := hWw.1
        refine z_iload_n dX9_show_20 rfl ?_
        refine z_i2l dX9_show_21 ⟨by omega, by omega⟩ ?_
        refine z_lconst0 dX9_show_22 ?_
        refine z_aload_n dX9_show_23 rfl ?_
        refine z_iload_n dX9_show_24 rfl ?_
        refine cs_X9_220 dX9_show_25 (D_X9_sizeOf hM hWw) MH_0 rfl rfl (Nat.le_of_ble_eq_true rfl) (by decide) (z_ki ?_)
        refine z_iconst dX9_show_28 ?_
        refine z_isub dX9_show_29 ?_
        refine z_i2l dX9_show_30 ⟨by omega, by omega⟩ ?_
        refine cs_X9_56 dX9_show_31 (D_X9_isIn (v := i9) (lo := 0) (hi := (zF Nw w : Int) - 1) ⟨by omega, by omega⟩ (by decide) ⟨by omega, by omega⟩) rfl rfl (Nat.le_of_ble_eq_true rfl) (by decide) (z_ki ?_)
        refine z_if_ne dX9_show_34 (tgt := 44) rfl ⟨by split <;> omega, by split <;> omega⟩ (fun c5 => ?_) (fun c5 => ?_)
        · skip
          obtain ⟨i, rfl⟩ : ∃ y : Nat, i9 = (y : Int) := ⟨i9.toNat, by omega⟩
          refine z_aload_n dX9_show_44 rfl ?_
          refine gf_X9_37 dX9_show_45 MH_0 rfl ?_
          refine z_iload_n dX9_show_48 rfl ?_
          refine z_iload_n dX9_show_49 rfl ?_
          refine z_iconst dX9_show_50 ?_
          refine z_icmp_ne dX9_show_51 (tgt := 58) rfl ⟨by omega, by omega⟩ (by decide) (fun c6 => ?_) (fun c6 => ?_)
          · skip
            refine z_bipush dX9_show_58 rfl ?_
            refine z_aload_n dX9_show_60 rfl ?_
            refine z_iload_n dX9_show_61 rfl ?_
            refine z_iload_n dX9_show_62 rfl ?_
            refine cs_X9_212 dX9_show_63 (D_X9_kind hM hWw (i := i) (by omega)) MH_0 rfl rfl (Nat.le_of_ble_eq_true rfl) (by decide) (z_ki ?_)
            refine z_iadd dX9_show_66 ?_
            refine z_ieq (y := if (w : Int) = -1 then -1 else 10 + kR Nw w i) ((if_neg (by omega)).symm) ?_
            refine z_iastN (m := s) dX9_show_67 (MH_10 hM) (by omega) ⟨by omega, by omega⟩ ?_
            refine z_heq (MHu_10 hM) ?_
            refine z_iconst dX9_show_68 ?_
            exact z_iret F dX9_show_69 rfl (by decide) ⟨fun q => ⟨rfl, rfl⟩, fun q => absurd (by first | exact ⟨by omega, Or.inl rfl⟩ | exact ⟨by omega, Or.inr ⟨by omega, by rw [Int.toNat_natCast]; omega⟩⟩) q⟩
          · skip
            exact absurd c6 (by omega)
        · skip
          refine z_aload_n dX9_show_37 rfl ?_
          refine z_bipush dX9_show_38 rfl ?_
          refine cs_X9_60 dX9_show_40 (D_X9_ref0 hM) MH_0 rfl rfl (Nat.le_of_ble_eq_true rfl) (by decide) (z_ki ?_)
          exact z_iret F dX9_show_43 rfl (by decide) ⟨fun q => absurd q (fun q => by rcases q with ⟨q1, q2 | ⟨q2, q3⟩⟩ <;> first | omega | (rw [Int.toNat_natCast] at q3; omega)), fun q => ⟨rfl, rfl⟩⟩
set_option maxHeartbeats 4000000 in
set_option maxRecDepth 100000 in
theorem D_X9_says {g : z_G} {h0 : z_H} {A : Nat → Nat} (hM : mD A) {Rf Nw Th Tp Tx Kd Ia It Lk Ho Sz Im Mv : Nat → Int} {kp ln sz at_ we pa de ti lf md mn hi ha is_ ca : Int} (hhs : hWf Ho Sz) {si k9 : Int} (hsi : z_in si) (hk9 : z_in k9) : z_D g mX9_says 3 0 0 [z_r (A 0), z_i si, z_i k9] (MH h0 A Rf Nw Th Tp Tx Kd Ia It Lk Ho Sz Im Mv kp ln sz at_ we pa de ti lf md mn hi ha is_ ca) (fun rv h' => (¬ (isS si ∧ 0 ≤ k9 ∧ k9 ≤ 12) → rv = some (z_i (-92)) ∧ h' = (MH h0 A (z_sf Rf 0 (Rf 0 + 1)) Nw Th Tp Tx Kd Ia It Lk Ho Sz Im Mv kp ln sz at_ we pa de ti lf md mn hi ha is_ ca)) ∧ (isS si ∧ 0 ≤ k9 ∧ k9 ≤ 12 → (Ho si.toNat < 0 → rv = some (z_i (-94)) ∧ h' = (MH h0 A (z_sf Rf 2 (Rf 2 + 1)) Nw Th Tp Tx Kd Ia It Lk Ho Sz Im Mv kp ln sz at_ we pa de ti lf md mn hi ha is_ ca)) ∧ (¬ Ho si.toNat < 0 → (Ho si.toNat < 10 ∨ kUn (Ho si.toNat - 10) k9 = 0 → rv = some (z_i (-93)) ∧ h' = (MH h0 A (z_sf Rf 1 (Rf 1 + 1)) Nw Th Tp Tx Kd Ia It Lk Ho Sz Im Mv kp ln sz at_ we pa de ti lf md mn hi ha is_ ca)) ∧ (¬ (Ho si.toNat < 10 ∨ kUn (Ho si.toNat - 10) k9 = 0) → rv = some (z_i (syV (Ho si.toNat - 10) k9)) ∧ h' = (MH h0 A Rf Nw Th Tp Tx Kd Ia It Lk Ho Sz Im Mv kp ln sz at_ we pa de ti lf md mn hi ha is_ ca))))) := by
  refine z_D.of (by decide +kernel) (Nat.le_of_ble_eq_true rfl) (fun X F => ?_)
  show z_w g X cX9_says RX9 (3, 0, 0) 0 [z_r (A 0), z_i si, z_i k9, z_u] [] (MH h0 A Rf Nw Th Tp Tx Kd Ia It Lk Ho Sz Im Mv kp ln sz at_ we pa de ti lf md mn hi ha is_ ca) 0 0
  refine z_iload_n dX9_says_0 rfl ?_
  refine cs_X9_254 dX9_says_1 (D_X9_isShelf (s := si) ⟨by omega, by omega⟩) rfl rfl (Nat.le_of_ble_eq_true rfl) (by decide) (z_ki ?_)
  refine z_if_eq dX9_says_4 (tgt := 19) rfl ⟨by split <;> omega, by split <;> omega⟩ (fun c1 => ?_) (fun c1 => ?_)
  · skip
    refine z_aload_n dX9_says_19 rfl ?_
    refine z_bipush dX9_says_20 rfl ?_
    refine cs_X9_60 dX9_says_22 (D_X9_ref0 hM) MH_0 rfl rfl (Nat.le_of_ble_eq_true rfl) (by decide) (z_ki ?_)
    exact z_iret F dX9_says_25 rfl (by decide) ⟨fun q => ⟨rfl, rfl⟩, fun q => absurd q (by omega)⟩
  · skip
    refine z_iload_n dX9_says_7 rfl ?_
    refine z_i2l dX9_says_8 ⟨by omega, by omega⟩ ?_
    refine z_lconst0 dX9_says_9 ?_
    refine z_ldc2 dX9_says_10 lw_X9_246 ?_
    refine cs_X9_56 dX9_says_13 (D_X9_isIn (v := k9) (lo := 0) (hi := 12) ⟨by omega, by omega⟩ (by decide) (by decide)) rfl rfl (Nat.le_of_ble_eq_true rfl) (by decide) (z_ki ?_)
    refine z_if_ne dX9_says_16 (tgt := 26) rfl ⟨by split <;> omega, by split <;> omega⟩ (fun c2 => ?_) (fun c2 => ?_)
    · skip
      obtain ⟨s, rfl⟩ : ∃ y : Nat, si = (y : Int) := ⟨si.toNat, by omega⟩
      have hss := hhs s (by omega)
      refine z_aload_n dX9_says_26 rfl ?_
      refine gf_X9_37 dX9_says_27 MH_0 rfl ?_
      refine z_iload_n dX9_says_30 rfl ?_
      refine z_ialdN (m := s) dX9_says_31 (MH_10 hM) (by omega) ⟨by omega, by omega⟩ ?_
      refine z_if_ge dX9_says_32 (tgt := 42) rfl ⟨by omega, by omega⟩ (fun c3 => ?_) (fun c3 => ?_)
      · skip
        refine z_aload_n dX9_says_42 rfl ?_
        refine gf_X9_37 dX9_says_43 MH_0 rfl ?_
        refine z_iload_n dX9_says_46 rfl ?_
        refine z_ialdN (m := s) dX9_says_47 (MH_10 hM) (by omega) ⟨by omega, by omega⟩ ?_
        refine z_bipush dX9_says_48 rfl ?_
        refine z_isub dX9_says_50 ?_
        refine z_istore_n dX9_says_51 (Nat.le_of_ble_eq_true rfl) rfl ?_
        refine z_iload_n dX9_says_52 rfl ?_
        refine z_if_lt dX9_says_53 (tgt := 64) rfl ⟨by omega, by omega⟩ (fun c4 => ?_) (fun c4 => ?_)
        · skip
          refine z_aload_n dX9_says_64 rfl ?_
          refine z_bipush dX9_says_65 rfl ?_
          refine cs_X9_60 dX9_says_67 (D_X9_ref1 hM) MH_0 rfl rfl (Nat.le_of_ble_eq_true rfl) (by decide) (z_ki ?_)
          exact z_iret F dX9_says_70 rfl (by decide) ⟨fun q => absurd (by omega) q, fun q => ⟨fun x => absurd (show Ho s < 0 from x) (by omega), fun x => ⟨fun y => ⟨rfl, rfl⟩, fun y => absurd (show Ho s < 10 ∨ kUn (Ho s - 10) k9 = 0 by omega) y⟩⟩⟩
        · skip
          have hkun := kUn_01 (Ho s - 10) k9
          refine z_iload_n dX9_says_56 rfl ?_
          refine z_iload_n dX9_says_57 rfl ?_
          refine cs_X9_248 dX9_says_58 (D_X9_isUnder (a := Ho s - 10) (t := k9) ⟨by omega, by omega⟩ hk9) rfl rfl (Nat.le_of_ble_eq_true rfl) (by decide) (z_ki ?_)
          refine z_if_ne dX9_says_61 (tgt := 71) rfl ⟨by omega, by omega⟩ (fun c5 => ?_) (fun c5 => ?_)
          · skip
            refine z_iload_n dX9_says_71 rfl ?_
            by_cases c6_0 : k9 = 0
            · refine z_tabIn dX9_says_72 ⟨by omega, by omega⟩ (tgt := 140) (off := 68) (by omega) (by omega) (by rw [c6_0]; rfl) rfl ?_
              refine z_iload_n dX9_says_140 rfl ?_
              refine cs_X9_204 dX9_says_141 (D_X9_yarnOf (a := Ho s - 10) ⟨by omega, by omega⟩) rfl rfl (Nat.le_of_ble_eq_true rfl) (by decide) (z_ki ?_)
              exact z_iret F dX9_says_144 rfl (by decide) ⟨fun q => absurd (by omega) q, fun q => ⟨fun x => absurd (show Ho s < 0 from x) (by omega), fun x => ⟨fun y => absurd (show Ho s < 10 ∨ kUn (Ho s - 10) k9 = 0 from y) (by omega), fun y => ⟨congrArg (fun z => some (z_i z)) (by first | (exfalso; omega) | (show _ = syV (Ho s - 10) k9; unfold syV; repeat (first | rw [if_pos (by omega)] | rw [if_neg (by omega)]))), rfl⟩⟩⟩⟩
            by_cases c6_1 : k9 = 1
            · refine z_tabIn dX9_says_72 ⟨by omega, by omega⟩ (tgt := 145) (off := 73) (by omega) (by omega) (by rw [c6_1]; rfl) rfl ?_
              refine z_iconst dX9_says_145 ?_
              exact z_iret F dX9_says_146 rfl (by decide) ⟨fun q => absurd (by omega) q, fun q => ⟨fun x => absurd (show Ho s < 0 from x) (by omega), fun x => ⟨fun y => absurd (show Ho s < 10 ∨ kUn (Ho s - 10) k9 = 0 from y) (by omega), fun y => ⟨congrArg (fun z => some (z_i z)) (by first | (exfalso; omega) | (show _ = syV (Ho s - 10) k9; unfold syV; repeat (first | rw [if_pos (by omega)] | rw [if_neg (by omega)]))), rfl⟩⟩⟩⟩
            by_cases c6_2 : k9 = 2
            · refine z_tabIn dX9_says_72 ⟨by omega, by omega⟩ (tgt := 147) (off := 75) (by omega) (by omega) (by rw [c6_2]; rfl) rfl ?_
              refine z_iload_n dX9_says_147 rfl ?_
              refine cs_X9_154 dX9_says_148 (D_X9_makes (a := Ho s - 10) ⟨by omega, by omega⟩) rfl rfl (Nat.le_of_ble_eq_true rfl) (by decide) (z_ki ?_)
              exact z_iret F dX9_says_151 rfl (by decide) ⟨fun q => absurd (by omega) q, fun q => ⟨fun x => absurd (show Ho s < 0 from x) (by omega), fun x => ⟨fun y => absurd (show Ho s < 10 ∨ kUn (Ho s - 10) k9 = 0 from y) (by omega), fun y => ⟨congrArg (fun z => some (z_i z)) (by first | (exfalso; omega) | (show _ = syV (Ho s - 10) k9; unfold syV; repeat (first | rw [if_pos (by omega)] | rw [if_neg (by omega)]))), rfl⟩⟩⟩⟩
            by_cases c6_3 : k9 = 3
            · refine z_tabIn dX9_says_72 ⟨by omega, by omega⟩ (tgt := 152) (off := 80) (by omega) (by omega) (by rw [c6_3]; rfl) rfl ?_
              refine z_iload_n dX9_says_152 rfl ?_
              refine cs_X9_141 dX9_says_153 (D_X9_takes (a := Ho s - 10) ⟨by omega, by omega⟩) rfl rfl (Nat.le_of_ble_eq_true rfl) (by decide) (z_ki ?_)
              refine z_iload_n dX9_says_156 rfl ?_
              refine cs_X9_154 dX9_says_157 (D_X9_makes (a := Ho s - 10) ⟨by omega, by omega⟩) rfl rfl (Nat.le_of_ble_eq_true rfl) (by decide) (z_ki ?_)
              refine z_isub dX9_says_160 ?_
              exact z_iret F dX9_says_161 rfl (by decide) ⟨fun q => absurd (by omega) q, fun q => ⟨fun x => absurd (show Ho s < 0 from x) (by omega), fun x => ⟨fun y => absurd (show Ho s < 10 ∨ kUn (Ho s - 10) k9 = 0 from y) (by omega), fun y => ⟨congrArg (fun z => some (z_i z)) (by first | (exfalso; omega) | (show _ = syV (Ho s - 10) k9; unfold syV; repeat (first | rw [if_pos (by omega)] | rw [if_neg (by omega)]))), rfl⟩⟩⟩⟩
            by_cases c6_4 : k9 = 4
            · refine z_tabIn dX9_says_72 ⟨by omega, by omega⟩ (tgt := 170) (off := 98) (by omega) (by omega) (by rw [c6_4]; rfl) rfl ?_
              refine z_iload_n dX9_says_170 rfl ?_
              refine cs_X9_227 dX9_says_171 (D_X9_turn (a := Ho s - 10) ⟨by omega, by omega⟩) rfl rfl (Nat.le_of_ble_eq_true rfl) (by decide) (z_ki ?_)
              exact z_iret F dX9_says_174 rfl (by decide) ⟨fun q => absurd (by omega) q, fun q => ⟨fun x => absurd (show Ho s < 0 from x) (by omega), fun x => ⟨fun y => absurd (show Ho s < 10 ∨ kUn (Ho s - 10) k9 = 0 from y) (by omega), fun y => ⟨congrArg (fun z => some (z_i z)) (by first | (exfalso; omega) | (show _ = syV (Ho s - 10) k9; unfold syV; repeat (first | rw [if_pos (by omega)] | rw [if_neg (by omega)]))), rfl⟩⟩⟩⟩
            by_cases c6_5 : k9 = 5
            · refine z_tabIn dX9_says_72 ⟨by omega, by omega⟩ (tgt := 170) (off := 98) (by omega) (by omega) (by rw [c6_5]; rfl) rfl ?_
              refine z_iload_n dX9_says_170 rfl ?_
              refine cs_X9_227 dX9_says_171 (D_X9_turn (a := Ho s - 10) ⟨by omega, by omega⟩) rfl rfl (Nat.le_of_ble_eq_true rfl) (by decide) (z_ki ?_)
              exact z_iret F dX9_says_174 rfl (by decide) ⟨fun q => absurd (by omega) q, fun q => ⟨fun x => absurd (show Ho s < 0 from x) (by omega), fun x => ⟨fun y => absurd (show Ho s < 10 ∨ kUn (Ho s - 10) k9 = 0 from y) (by omega), fun y => ⟨congrArg (fun z => some (z_i z)) (by first | (exfalso; omega) | (show _ = syV (Ho s - 10) k9; unfold syV; repeat (first | rw [if_pos (by omega)] | rw [if_neg (by omega)]))), rfl⟩⟩⟩⟩
            by_cases c6_6 : k9 = 6
            · refine z_tabIn dX9_says_72 ⟨by omega, by omega⟩ (tgt := 162) (off := 90) (by omega) (by omega) (by rw [c6_6]; rfl) rfl ?_
              refine z_iconst dX9_says_162 ?_
              exact z_iret F dX9_says_163 rfl (by decide) ⟨fun q => absurd (by omega) q, fun q => ⟨fun x => absurd (show Ho s < 0 from x) (by omega), fun x => ⟨fun y => absurd (show Ho s < 10 ∨ kUn (Ho s - 10) k9 = 0 from y) (by omega), fun y => ⟨congrArg (fun z => some (z_i z)) (by first | (exfalso; omega) | (show _ = syV (Ho s - 10) k9; unfold syV; repeat (first | rw [if_pos (by omega)] | rw [if_neg (by omega)]))), rfl⟩⟩⟩⟩
            by_cases c6_7 : k9 = 7
            · refine z_tabIn dX9_says_72 ⟨by omega, by omega⟩ (tgt := 164) (off := 92) (by omega) (by omega) (by rw [c6_7]; rfl) rfl ?_
              refine z_iload_n dX9_says_164 rfl ?_
              exact z_iret F dX9_says_165 rfl (by decide) ⟨fun q => absurd (by omega) q, fun q => ⟨fun x => absurd (show Ho s < 0 from x) (by omega), fun x => ⟨fun y => absurd (show Ho s < 10 ∨ kUn (Ho s - 10) k9 = 0 from y) (by omega), fun y => ⟨congrArg (fun z => some (z_i z)) (by first | (exfalso; omega) | (show _ = syV (Ho s - 10) k9; unfold syV; repeat (first | rw [if_pos (by omega)] | rw [if_neg (by omega)]))), rfl⟩⟩⟩⟩
            by_cases c6_8 : k9 = 8
            · refine z_tabIn dX9_says_72 ⟨by omega, by omega⟩ (tgt := 164) (off := 92) (by omega) (by omega) (by rw [c6_8]; rfl) rfl ?_
              refine z_iload_n dX9_says_164 rfl ?_
              exact z_iret F dX9_says_165 rfl (by decide) ⟨fun q => absurd (by omega) q, fun q => ⟨fun x => absurd (show Ho s < 0 from x) (by omega), fun x => ⟨fun y => absurd (show Ho s < 10 ∨ kUn (Ho s - 10) k9 = 0 from y) (by omega), fun y => ⟨congrArg (fun z => some (z_i z)) (by first | (exfalso; omega) | (show _ = syV (Ho s - 10) k9; unfold syV; repeat (first | rw [if_pos (by omega)] | rw [if_neg (by omega)]))), rfl⟩⟩⟩⟩
            by_cases c6_9 : k9 = 9
            · refine z_tabIn dX9_says_72 ⟨by omega, by omega⟩ (tgt := 170) (off := 98) (by omega) (by omega) (by rw [c6_9]; rfl) rfl ?_
              refine z_iload_n dX9_says_170 rfl ?_
              refine cs_X9_227 dX9_says_171 (D_X9_turn (a := Ho s - 10) ⟨by omega, by omega⟩) rfl rfl (Nat.le_of_ble_eq_true rfl) (by decide) (z_ki ?_)
              exact z_iret F dX9_says_174 rfl (by decide) ⟨fun q => absurd (by omega) q, fun q => ⟨fun x => absurd (show Ho s < 0 from x) (by omega), fun x => ⟨fun y => absurd (show Ho s < 10 ∨ kUn (Ho s - 10) k9 = 0 from y) (by omega), fun y => ⟨congrArg (fun z => some (z_i z)) (by first | (exfalso; omega) | (show _ = syV (Ho s - 10) k9; unfold syV; repeat (first | rw [if_pos (by omega)] | rw [if_neg (by omega)]))), rfl⟩⟩⟩⟩
            by_cases c6_10 : k9 = 10
            · refine z_tabIn dX9_says_72 ⟨by omega, by omega⟩ (tgt := 170) (off := 98) (by omega) (by omega) (by rw [c6_10]; rfl) rfl ?_
              refine z_iload_n dX9_says_170 rfl ?_
              refine cs_X9_227 dX9_says_171 (D_X9_turn (a := Ho s - 10) ⟨by omega, by omega⟩) rfl rfl (Nat.le_of_ble_eq_true rfl) (by decide) (z_ki ?_)
              exact z_iret F dX9_says_174 rfl (by decide) ⟨fun q => absurd (by omega) q, fun q => ⟨fun x => absurd (show Ho s < 0 from x) (by omega), fun x => ⟨fun y => absurd (show Ho s < 10 ∨ kUn (Ho s - 10) k9 = 0 from y) (by omega), fun y => ⟨congrArg (fun z => some (z_i z)) (by first | (exfalso; omega) | (show _ = syV (Ho s - 10) k9; unfold syV; repeat (first | rw [if_pos (by omega)] | rw [if_neg (by omega)]))), rfl⟩⟩⟩⟩
            by_cases c6_11 : k9 = 11
            · refine z_tabIn dX9_says_72 ⟨by omega, by omega⟩ (tgt := 166) (off := 94) (by omega) (by omega) (by rw [c6_11]; rfl) rfl ?_
              refine z_iconst dX9_says_166 ?_
              exact z_iret F dX9_says_167 rfl (by decide) ⟨fun q => absurd (by omega) q, fun q => ⟨fun x => absurd (show Ho s < 0 from x) (by omega), fun x => ⟨fun y => absurd (show Ho s < 10 ∨ kUn (Ho s - 10) k9 = 0 from y) (by omega), fun y => ⟨congrArg (fun z => some (z_i z)) (by first | (exfalso; omega) | (show _ = syV (Ho s - 10) k9; unfold syV; repeat (first | rw [if_pos (by omega)] | rw [if_neg (by omega)]))), rfl⟩⟩⟩⟩
            by_cases c6_12 : k9 = 12
            · refine z_tabIn dX9_says_72 ⟨by omega, by omega⟩ (tgt := 168) (off := 96) (by omega) (by omega) (by rw [c6_12]; rfl) rfl ?_
              refine z_iconst dX9_says_168 ?_
              exact z_iret F dX9_says_169 rfl (by decide) ⟨fun q => absurd (by omega) q, fun q => ⟨fun x => absurd (show Ho s < 0 from x) (by omega), fun x => ⟨fun y => absurd (show Ho s < 10 ∨ kUn (Ho s - 10) k9 = 0 from y) (by omega), fun y => ⟨congrArg (fun z => some (z_i z)) (by first | (exfalso; omega) | (show _ = syV (Ho s - 10) k9; unfold syV; repeat (first | rw [if_pos (by omega)] | rw [if_neg (by omega)]))), rfl⟩⟩⟩⟩
            refine z_tabOut dX9_says_72 hk9 (tgt := 170) (by omega) rfl ?_
            refine z_iload_n dX9_says_170 rfl ?_
            refine cs_X9_227 dX9_says_171 (D_X9_turn (a := Ho s - 10) ⟨by omega, by omega⟩) rfl rfl (Nat.le_of_ble_eq_true rfl) (by decide) (z_ki ?_)
            exact z_iret F dX9_says_174 rfl (by decide) ⟨fun q => absurd (by omega) q, fun q => ⟨fun x => absurd (show Ho s < 0 from x) (by omega), fun x => ⟨fun y => absurd (show Ho s < 10 ∨ kUn (Ho s - 10) k9 = 0 from y) (by omega), fun y => ⟨congrArg (fun z => some (z_i z)) (by first | (exfalso; omega) | (show _ = syV (Ho s - 10) k9; unfold syV; repeat (first | rw [if_pos (by omega)] | rw [if_neg (by omega)]))), rfl⟩⟩⟩⟩
          · skip
            refine z_aload_n dX9_says_64 rfl ?_
            refine z_bipush dX9_says_65 rfl ?_
            refine cs_X9_60 dX9_says_67 (D_X9_ref1 hM) MH_0 rfl rfl (Nat.le_of_ble_eq_true rfl) (by decide) (z_ki ?_)
            exact z_iret F dX9_says_70 rfl (by decide) ⟨fun q => absurd (by omega) q, fun q => ⟨fun x => absurd (show Ho s < 0 from x) (by omega), fun x => ⟨fun y => ⟨rfl, rfl⟩, fun y => absurd (show Ho s < 10 ∨ kUn (Ho s - 10) k9 = 0 by omega) y⟩⟩⟩
      · skip
        refine z_aload_n dX9_says_35 rfl ?_
        refine z_bipush dX9_says_36 rfl ?_
        refine cs_X9_60 dX9_says_38 (D_X9_ref2 hM) MH_0 rfl rfl (Nat.le_of_ble_eq_true rfl) (by decide) (z_ki ?_)
        exact z_iret F dX9_says_41 rfl (by decide) ⟨fun q => absurd (by omega) q, fun q => ⟨fun x => ⟨rfl, rfl⟩, fun x => absurd (show Ho s < 0 by omega) x⟩⟩
    · skip
      refine z_aload_n dX9_says_19 rfl ?_
      refine z_bipush dX9_says_20 rfl ?_
      refine cs_X9_60 dX9_says_22 (D_X9_ref0 hM) MH_0 rfl rfl (Nat.le_of_ble_eq_true rfl) (by decide) (z_ki ?_)
      exact z_iret F dX9_says_25 rfl (by decide) ⟨fun q => ⟨rfl, rfl⟩, fun q => absurd q (by omega)⟩
set_option maxHeartbeats 4000000 in
set_option maxRecDepth 100000 in
theorem D_X9_judge {g : z_G} {h0 : z_H} {A : Nat → Nat} (hM : mD A) {Rf Nw Th Tp Tx Kd Ia It Lk Ho Sz Im Mv : Nat → Int} {kp ln sz at_ we pa de ti lf md mn hi ha is_ ca : Int} {G : Nat → z_G4} (hwf : nWf Nw G) (hhs : hWf Ho Sz) (him : iWf Im) {wk si n9 : Int} (hwk : z_in wk) (hsi : z_in si) (hn9 : z_in n9) : z_D g mX9_judge 3 0 0 [z_r (A 0), z_i wk, z_i si, z_i n9] (MH h0 A Rf Nw Th Tp Tx Kd Ia It Lk Ho Sz Im Mv kp ln sz at_ we pa de ti lf md mn hi ha is_ ca) (fun rv h' => (¬ (isW Nw wk ∧ isS si ∧ 0 ≤ n9 ∧ n9 ≤ 40) → rv = some (z_i (-92)) ∧ h' = (MH h0 A (z_sf Rf 0 (Rf 0 + 1)) Nw Th Tp Tx Kd Ia It Lk Ho Sz Im Mv kp ln sz at_ we pa de ti lf md mn hi ha is_ ca)) ∧ (isW Nw wk ∧ isS si ∧ 0 ≤ n9 ∧ n9 ≤ 40 → (amI (Ho si.toNat) ≠ 0 → rv = some (z_i (amI (Ho si.toNat))) ∧ h' = (MH h0 A (rfB Rf (amI (Ho si.toNat))) Nw Th Tp Tx Kd Ia It Lk Ho Sz Im Mv kp ln sz at_ we pa de ti lf md mn hi ha is_ ca)) ∧ (amI (Ho si.toNat) = 0 → (n9 > Sz si.toNat → rv = some (z_i (-92)) ∧ h' = (MH h0 A (rfB Rf (-92)) Nw Th Tp Tx Kd Ia It Lk Ho Sz Im Mv kp ln sz at_ we pa de ti lf md mn hi ha is_ ca)) ∧ (¬ n9 > Sz si.toNat → rv = some (z_i (jdG (zF Nw wk.toNat) (fun k => Im (40 * si.toNat + k)) (kR Nw wk.toNat) n9 n9.toNat 0)) ∧ h' = (MH h0 A Rf Nw Th Tp Tx Kd Ia It Lk Ho Sz Im Mv kp ln sz at_ we pa de ti lf md mn hi ha is_ ca))))) := by
  refine z_D.of (by decide +kernel) (Nat.le_of_ble_eq_true rfl) (fun X F => ?_)
  obtain ⟨w1, w2, w3, w4, w5, w6, w7⟩ := hwf
  show z_w g X cX9_judge RX9 (3, 0, 0) 0 [z_r (A 0), z_i wk, z_i si, z_i n9, z_u, z_u] [] (MH h0 A Rf Nw Th Tp Tx Kd Ia It Lk Ho Sz Im Mv kp ln sz at_ we pa de ti lf md mn hi ha is_ ca) 0 0
  refine z_aload_n dX9_judge_0 rfl ?_
  refine z_iload_n dX9_judge_1 rfl ?_
  refine cs_X9_215 dX9_judge_2 (D_X9_isWorked hM (i := wk) ⟨by omega, by omega⟩ ⟨by omega, by omega⟩) MH_0 rfl rfl (Nat.le_of_ble_eq_true rfl) (by decide) (z_ki ?_)
  refine z_if_eq dX9_judge_5 (tgt := 27) rfl ⟨by split <;> omega, by split <;> omega⟩ (fun c1 => ?_) (fun c1 => ?_)
  · skip
    refine z_aload_n dX9_judge_27 rfl ?_
    refine z_bipush dX9_judge_28 rfl ?_
    refine cs_X9_60 dX9_judge_30 (D_X9_ref0 hM) MH_0 rfl rfl (Nat.le_of_ble_eq_true rfl) (by decide) (z_ki ?_)
    exact z_iret F dX9_judge_33 rfl (by decide) ⟨fun q => ⟨rfl, rfl⟩, fun q => absurd q (by omega)⟩
  · skip
    refine z_iload_n dX9_judge_8 rfl ?_
    refine cs_X9_254 dX9_judge_9 (D_X9_isShelf (s := si) ⟨by omega, by omega⟩) rfl rfl (Nat.le_of_ble_eq_true rfl) (by decide) (z_ki ?_)
    refine z_if_eq dX9_judge_12 (tgt := 27) rfl ⟨by split <;> omega, by split <;> omega⟩ (fun c2 => ?_) (fun c2 => ?_)
    · skip
      refine z_aload_n dX9_judge_27 rfl ?_
      refine z_bipush dX9_judge_28 rfl ?_
      refine cs_X9_60 dX9_judge_30 (D_X9_ref0 hM) MH_0 rfl rfl (Nat.le_of_ble_eq_true rfl) (by decide) (z_ki ?_)
      exact z_iret F dX9_judge_33 rfl (by decide) ⟨fun q => ⟨rfl, rfl⟩, fun q => absurd q (by omega)⟩
    · skip
      refine z_iload_n dX9_judge_15 rfl ?_
      refine z_i2l dX9_judge_16 ⟨by omega, by omega⟩ ?_
      refine z_lconst0 dX9_judge_17 ?_
      refine z_ldc2 dX9_judge_18 lw_X9_259 ?_
      refine cs_X9_56 dX9_judge_21 (D_X9_isIn (v := n9) (lo := 0) (hi := 40) ⟨by omega, by omega⟩ (by decide) (by decide)) rfl rfl (Nat.le_of_ble_eq_true rfl) (by decide) (z_ki ?_)
      refine z_if_ne dX9_judge_24 (tgt := 34) rfl ⟨by split <;> omega, by split <;> omega⟩ (fun c3 => ?_) (fun c3 => ?_)
      · skip
        obtain ⟨w, rfl⟩ : ∃ y : Nat, wk = (y : Int) := ⟨wk.toNat, by omega⟩
        have hRw := w7 w (by omega)
        have hWw := hRw.1
        have hz200w := hWw.2.2.1
        have hw50w := hWw.1
        obtain ⟨s, rfl⟩ : ∃ y : Nat, si = (y : Int) := ⟨si.toNat, by omega⟩
        have hss := hhs s (by omega)
        obtain ⟨n, rfl⟩ : ∃ y : Nat, n9 = (y : Int) := ⟨n9.toNat, by omega⟩
        have hap := amI_c (Ho s)
        refine z_aload_n dX9_judge_34 rfl ?_
        refine z_iload_n dX9_judge_35 rfl ?_
        refine cs_X9_261 dX9_judge_36 (D_X9_amiss hM (s := s) (by omega) ⟨by omega, by omega⟩) MH_0 rfl rfl (Nat.le_of_ble_eq_true rfl) (by decide) (z_ki ?_)
        refine z_istore dX9_judge_39 (Nat.le_of_ble_eq_true rfl) rfl ?_
        refine z_iload dX9_judge_41 rfl ?_
        refine z_if_ne dX9_judge_43 (tgt := 56) rfl ⟨by omega, by omega⟩ (fun c4 => ?_) (fun c4 => ?_)
        · skip
          refine z_aload_n dX9_judge_56 rfl ?_
          refine z_iload dX9_judge_57 rfl ?_
          refine z_if_eq dX9_judge_59 (tgt := 67) rfl ⟨by omega, by omega⟩ (fun c5 => ?_) (fun c5 => ?_)
          · skip
            exact absurd c5 (by omega)
          · skip
            refine z_iload dX9_judge_62 rfl ?_
            refine z_goto dX9_judge_64 (tgt := 69) rfl ?_
            refine cs_X9_60 dX9_judge_69 (D_X9_refc hM (c := amI (Ho s)) (by omega)) MH_0 rfl rfl (Nat.le_of_ble_eq_true rfl) (by decide) (z_ki ?_)
            exact z_iret F dX9_judge_72 rfl (by decide) ⟨fun q => absurd (by omega) q, fun q => ⟨fun x => ⟨rfl, rfl⟩, fun x => absurd (show amI (Ho s) = 0 from x) (by omega)⟩⟩
        · skip
          refine z_iload_n dX9_judge_46 rfl ?_
          refine z_aload_n dX9_judge_47 rfl ?_
          refine gf_X9_40 dX9_judge_48 MH_0 rfl ?_
          refine z_iload_n dX9_judge_51 rfl ?_
          refine z_ialdN (m := s) dX9_judge_52 (MH_11 hM) (by omega) ⟨by omega, by omega⟩ ?_
          refine z_icmp_le dX9_judge_53 (tgt := 73) rfl ⟨by omega, by omega⟩ ⟨by omega, by omega⟩ (fun c6 => ?_) (fun c6 => ?_)
          · skip
            refine z_iconst dX9_judge_73 ?_
            refine z_istore dX9_judge_74 (Nat.le_of_ble_eq_true rfl) rfl ?_
            have L4 : ∀ (fu : Nat) (k rem : Nat) (q1 : k + rem = n) (q2 : jdG (zF Nw w) (fun k => Im (40 * s + k)) (kR Nw w) (n : Int) n 0 = jdG (zF Nw w) (fun k => Im (40 * s + k)) (kR Nw w) (n : Int) rem k), rem < fu → z_w g X cX9_judge RX9 (3, 0, 0) 76 [z_r (A 0), z_i (w : Int), z_i (s : Int), z_i (n : Int), z_i (amI (Ho s)), z_i (k : Int)] [] (MH h0 A Rf Nw Th Tp Tx Kd Ia It Lk Ho Sz Im Mv kp ln sz at_ we pa de ti lf md mn hi ha is_ ca) 0 0 := by
              intro fu
              induction fu with
              | zero => intro k rem q1 q2 hm; exact absurd hm (Nat.not_lt_zero _)
              | succ fu ih =>
                intro k rem q1 q2 hm
                refine z_iload dX9_judge_76 rfl ?_
                refine z_iload_n dX9_judge_78 rfl ?_
                refine z_icmp_ge dX9_judge_79 (tgt := 125) rfl ⟨by omega, by omega⟩ ⟨by omega, by omega⟩ (fun c7 => ?_) (fun c7 => ?_)
                · skip
                  obtain rfl : rem = 0 := by omega
                  refine z_aload_n dX9_judge_125 rfl ?_
                  refine z_iload_n dX9_judge_126 rfl ?_
                  refine cs_X9_220 dX9_judge_127 (D_X9_sizeOf hM hWw) MH_0 rfl rfl (Nat.le_of_ble_eq_true rfl) (by decide) (z_ki ?_)
                  refine z_iload_n dX9_judge_130 rfl ?_
                  refine z_icmp_le dX9_judge_131 (tgt := 138) rfl ⟨by omega, by omega⟩ ⟨by omega, by omega⟩ (fun c8 => ?_) (fun c8 => ?_)
                  · skip
                    have hE : jdG (zF Nw w) (fun k => Im (40 * s + k)) (kR Nw w) (n : Int) 0 k = -1 := if_neg (by omega)
                    refine z_iconst dX9_judge_138 ?_
                    exact z_iret F dX9_judge_139 rfl (by decide) ⟨fun q => absurd (by omega) q, fun q => ⟨fun x => absurd (show amI (Ho s) = 0 by omega) x, fun x => ⟨fun y => absurd (show (n : Int) > Sz s from y) (by omega), fun y => ⟨congrArg (fun z => some (z_i z)) ((q2.trans (by first | exact hE | exact if_pos (Or.inr (by assumption)))).symm), rfl⟩⟩⟩⟩
                  · skip
                    have hE : jdG (zF Nw w) (fun k => Im (40 * s + k)) (kR Nw w) (n : Int) 0 k = (n : Int) := if_pos (by omega)
                    refine z_iload_n dX9_judge_134 rfl ?_
                    refine z_goto dX9_judge_135 (tgt := 139) rfl ?_
                    exact z_iret F dX9_judge_139 rfl (by decide) ⟨fun q => absurd (by omega) q, fun q => ⟨fun x => absurd (show amI (Ho s) = 0 by omega) x, fun x => ⟨fun y => absurd (show (n : Int) > Sz s from y) (by omega), fun y => ⟨congrArg (fun z => some (z_i z)) ((q2.trans (by first | exact hE | exact if_pos (Or.inr (by assumption)))).symm), rfl⟩⟩⟩⟩
                · skip
                  obtain ⟨rem', rfl⟩ : ∃ y, rem = y + 1 := ⟨rem - 1, by omega⟩
                  refine z_iload dX9_judge_82 rfl ?_
                  refine z_aload_n dX9_judge_84 rfl ?_
                  refine z_iload_n dX9_judge_85 rfl ?_
                  refine cs_X9_220 dX9_judge_86 (D_X9_sizeOf hM hWw) MH_0 rfl rfl (Nat.le_of_ble_eq_true rfl) (by decide) (z_ki ?_)
                  refine z_icmp_ge dX9_judge_89 (tgt := 116) rfl ⟨by omega, by omega⟩ ⟨by omega, by omega⟩ (fun c9 => ?_) (fun c9 => ?_)
                  · skip
                    have hE : jdG (zF Nw w) (fun k => Im (40 * s + k)) (kR Nw w) (n : Int) (rem' + 1) k = (k : Int) := if_pos (Or.inl (by omega))
                    refine z_iload dX9_judge_116 rfl ?_
                    exact z_iret F dX9_judge_118 rfl (by decide) ⟨fun q => absurd (by omega) q, fun q => ⟨fun x => absurd (show amI (Ho s) = 0 by omega) x, fun x => ⟨fun y => absurd (show (n : Int) > Sz s from y) (by omega), fun y => ⟨congrArg (fun z => some (z_i z)) ((q2.trans (by first | exact hE | exact if_pos (Or.inr (by assumption)))).symm), rfl⟩⟩⟩⟩
                  · skip
                    have hk := hWw.2.2.2 k (by omega)
                    have hkb := hk.1
                    have hkc := hk.2
                    refine z_aload_n dX9_judge_92 rfl ?_
                    refine gf_X9_43 dX9_judge_93 MH_0 rfl ?_
                    refine z_bipush dX9_judge_96 rfl ?_
                    refine z_iload_n dX9_judge_98 rfl ?_
                    refine z_imul dX9_judge_99 ?_
                    refine z_iload dX9_judge_100 rfl ?_
                    refine z_iadd dX9_judge_102 ?_
                    refine z_laldN (m := (40 * s + k)) dX9_judge_103 (MH_12 hM) (by omega) ⟨by omega, by omega⟩ ?_
                    refine z_aload_n dX9_judge_104 rfl ?_
                    refine z_iload_n dX9_judge_105 rfl ?_
                    refine z_iload dX9_judge_106 rfl ?_
                    refine cs_X9_212 dX9_judge_108 (D_X9_kind hM hWw (i := k) (by omega)) MH_0 rfl rfl (Nat.le_of_ble_eq_true rfl) (by decide) (z_ki ?_)
                    refine z_i2l dX9_judge_111 (kOk_in hk) ?_
                    refine z_lcmp dX9_judge_112 (him _ (by omega)) ⟨by omega, by omega⟩ ?_
                    refine z_if_eq dX9_judge_113 (tgt := 119) rfl (z_cmpin _ _) (fun c10 => ?_) (fun c10 => ?_)
                    · have c10 : (Im (40 * s + k)) = (kR Nw w k) := z_cmp_eq c10
                      have hE : jdG (zF Nw w) (fun k => Im (40 * s + k)) (kR Nw w) (n : Int) (rem' + 1) k = jdG (zF Nw w) (fun k => Im (40 * s + k)) (kR Nw w) (n : Int) rem' (k + 1) := if_neg (by intro q; rcases q with q | q; omega; exact q (by assumption))
                      refine z_iinc dX9_judge_119 rfl rfl ?_
                      refine z_goto dX9_judge_122 (tgt := 76) rfl ?_
                      exact ih (k + 1) rem' (by omega) (q2.trans hE) (by omega)
                    · have c10 : (Im (40 * s + k)) ≠ (kR Nw w k) := z_cmp_neq c10
                      refine z_iload dX9_judge_116 rfl ?_
                      exact z_iret F dX9_judge_118 rfl (by decide) ⟨fun q => absurd (by omega) q, fun q => ⟨fun x => absurd (show amI (Ho s) = 0 by omega) x, fun x => ⟨fun y => absurd (show (n : Int) > Sz s from y) (by omega), fun y => ⟨congrArg (fun z => some (z_i z)) ((q2.trans (by first | exact hE | exact if_pos (Or.inr (by assumption)))).symm), rfl⟩⟩⟩⟩
            exact L4 (n + 1) 0 n (by omega) rfl (by omega)
          · skip
            refine z_aload_n dX9_judge_56 rfl ?_
            refine z_iload dX9_judge_57 rfl ?_
            refine z_if_eq dX9_judge_59 (tgt := 67) rfl ⟨by omega, by omega⟩ (fun c11 => ?_) (fun c11 => ?_)
            · skip
              refine z_bipush dX9_judge_67 rfl ?_
              refine cs_X9_60 dX9_judge_69 (D_X9_refc hM (c := (-92)) (by omega)) MH_0 rfl rfl (Nat.le_of_ble_eq_true rfl) (by decide) (z_ki ?_)
              exact z_iret F dX9_judge_72 rfl (by decide) ⟨fun q => absurd (by omega) q, fun q => ⟨fun x => absurd (show amI (Ho s) = 0 by omega) x, fun x => ⟨fun y => ⟨rfl, rfl⟩, fun y => absurd (show (n : Int) > Sz s by omega) y⟩⟩⟩
            · skip
              exact absurd c11 (by omega)
      · skip
        refine z_aload_n dX9_judge_27 rfl ?_
        refine z_bipush dX9_judge_28 rfl ?_
        refine cs_X9_60 dX9_judge_30 (D_X9_ref0 hM) MH_0 rfl rfl (Nat.le_of_ble_eq_true rfl) (by decide) (z_ki ?_)
        exact z_iret F dX9_judge_33 rfl (by decide) ⟨fun q => ⟨rfl, rfl⟩, fun q => absurd q (by omega)⟩
set_option maxHeartbeats 4000000 in
set_option maxRecDepth 100000 in
theorem D_X9_status {g : z_G} {h0 : z_H} {A : Nat → Nat} (hM : mD A) {Rf Nw Th Tp Tx Kd Ia It Lk Ho Sz Im Mv : Nat → Int} {kp ln sz at_ we pa de ti lf md mn hi ha is_ ca : Int} (hhs : hWf Ho Sz) {wh : Int} (hwh : z_in wh) : z_D g mX9_status 2 0 0 [z_r (A 0), z_i wh] (MH h0 A Rf Nw Th Tp Tx Kd Ia It Lk Ho Sz Im Mv kp ln sz at_ we pa de ti lf md mn hi ha is_ ca) (z_Pi (sttV Rf Nw Ho ln wh) (MH h0 A Rf Nw Th Tp Tx Kd Ia It Lk Ho Sz Im Mv kp ln sz at_ we pa de ti lf md mn hi ha is_ ca)) := by
  refine z_D.of (by decide +kernel) (Nat.le_of_ble_eq_true rfl) (fun X F => ?_)
  show z_w g X cX9_status RX9 (2, 0, 0) 0 [z_r (A 0), z_i wh, z_u, z_u] [] (MH h0 A Rf Nw Th Tp Tx Kd Ia It Lk Ho Sz Im Mv kp ln sz at_ we pa de ti lf md mn hi ha is_ ca) 0 0
  refine z_iload_n dX9_status_0 rfl ?_
  refine z_i2l dX9_status_1 ⟨by omega, by omega⟩ ?_
  refine z_ldc2 dX9_status_2 lw_X9_246 ?_
  refine z_ldc2 dX9_status_5 lw_X9_275 ?_
  refine cs_X9_56 dX9_status_8 (D_X9_isIn (v := wh) (lo := 12) (hi := 16) ⟨by omega, by omega⟩ (by decide) (by decide)) rfl rfl (Nat.le_of_ble_eq_true rfl) (by decide) (z_ki ?_)
  refine z_if_eq dX9_status_11 (tgt := 24) rfl ⟨by split <;> omega, by split <;> omega⟩ (fun c1 => ?_) (fun c1 => ?_)
  · skip
    refine z_iconst dX9_status_24 ?_
    refine z_istore_n dX9_status_25 (Nat.le_of_ble_eq_true rfl) rfl ?_
    refine z_iconst dX9_status_26 ?_
    refine z_istore_n dX9_status_27 (Nat.le_of_ble_eq_true rfl) rfl ?_
    have L4 : ∀ (fu : Nat) (r : Nat) (q1 : r ≤ 8), 8 - r < fu → z_w g X cX9_status RX9 (2, 0, 0) 28 [z_r (A 0), z_i wh, z_i (hcF Ho r), z_i (r : Int)] [] (MH h0 A Rf Nw Th Tp Tx Kd Ia It Lk Ho Sz Im Mv kp ln sz at_ we pa de ti lf md mn hi ha is_ ca) 0 0 := by
      intro fu
      induction fu with
      | zero => intro r q1 hm; exact absurd hm (Nat.not_lt_zero _)
      | succ fu ih =>
        intro r q1 hm
        refine z_iload_n dX9_status_28 rfl ?_
        refine z_bipush dX9_status_29 rfl ?_
        refine z_icmp_ge dX9_status_31 (tgt := 57) rfl ⟨by omega, by omega⟩ (by decide) (fun c2 => ?_) (fun c2 => ?_)
        · skip
          obtain rfl : r = 8 := by omega
          refine z_iload_n dX9_status_57 rfl ?_
          by_cases c3_0 : wh = 0
          · refine z_tabIn dX9_status_58 ⟨by omega, by omega⟩ (tgt := 104) (off := 46) (by omega) (by omega) (by rw [c3_0]; rfl) rfl ?_
            refine z_aload_n dX9_status_104 rfl ?_
            refine gf_X9_13 dX9_status_105 MH_0 rfl ?_
            refine z_sipush dX9_status_108 rfl ?_
            refine z_ialdN (m := 5020) dX9_status_111 (MH_2 hM) rfl ⟨by decide, by decide⟩ ?_
            exact z_iret F dX9_status_112 rfl (by decide) ⟨congrArg (fun z => some (z_i z)) (by unfold sttV; repeat (first | rw [if_pos (by omega)] | rw [if_neg (by omega)])), rfl⟩
          by_cases c3_1 : wh = 1
          · refine z_tabIn dX9_status_58 ⟨by omega, by omega⟩ (tgt := 113) (off := 55) (by omega) (by omega) (by rw [c3_1]; rfl) rfl ?_
            refine z_aload_n dX9_status_113 rfl ?_
            refine gf_X9_13 dX9_status_114 MH_0 rfl ?_
            refine z_sipush dX9_status_117 rfl ?_
            refine z_ialdN (m := 5025) dX9_status_120 (MH_2 hM) rfl ⟨by decide, by decide⟩ ?_
            exact z_iret F dX9_status_121 rfl (by decide) ⟨congrArg (fun z => some (z_i z)) (by unfold sttV; repeat (first | rw [if_pos (by omega)] | rw [if_neg (by omega)])), rfl⟩
          by_cases c3_2 : wh = 2
          · refine z_tabIn dX9_status_58 ⟨by omega, by omega⟩ (tgt := 122) (off := 64) (by omega) (by omega) (by rw [c3_2]; rfl) rfl ?_
            refine z_aload_n dX9_status_122 rfl ?_
            refine gf_X9_13 dX9_status_123 MH_0 rfl ?_
            refine z_sipush dX9_status_126 rfl ?_
            refine z_ialdN (m := 5023) dX9_status_129 (MH_2 hM) rfl ⟨by decide, by decide⟩ ?_
            exact z_iret F dX9_status_130 rfl (by decide) ⟨congrArg (fun z => some (z_i z)) (by unfold sttV; repeat (first | rw [if_pos (by omega)] | rw [if_neg (by omega)])), rfl⟩
          by_cases c3_3 : wh = 3
          · refine z_tabIn dX9_status_58 ⟨by omega, by omega⟩ (tgt := 131) (off := 73) (by omega) (by omega) (by rw [c3_3]; rfl) rfl ?_
            refine z_aload_n dX9_status_131 rfl ?_
            refine gf_X9_13 dX9_status_132 MH_0 rfl ?_
            refine z_sipush dX9_status_135 rfl ?_
            refine z_ialdN (m := 5022) dX9_status_138 (MH_2 hM) rfl ⟨by decide, by decide⟩ ?_
            exact z_iret F dX9_status_139 rfl (by decide) ⟨congrArg (fun z => some (z_i z)) (by unfold sttV; repeat (first | rw [if_pos (by omega)] | rw [if_neg (by omega)])), rfl⟩
          by_cases c3_4 : wh = 4
          · refine z_tabIn dX9_status_58 ⟨by omega, by omega⟩ (tgt := 140) (off := 82) (by omega) (by omega) (by rw [c3_4]; rfl) rfl ?_
            refine z_aload_n dX9_status_140 rfl ?_
            refine gf_X9_13 dX9_status_141 MH_0 rfl ?_
            refine z_sipush dX9_status_144 rfl ?_
            refine z_ialdN (m := 5021) dX9_status_147 (MH_2 hM) rfl ⟨by decide, by decide⟩ ?_
            exact z_iret F dX9_status_148 rfl (by decide) ⟨congrArg (fun z => some (z_i z)) (by unfold sttV; repeat (first | rw [if_pos (by omega)] | rw [if_neg (by omega)])), rfl⟩
          by_cases c3_5 : wh = 5
          · refine z_tabIn dX9_status_58 ⟨by omega, by omega⟩ (tgt := 149) (off := 91) (by omega) (by omega) (by rw [c3_5]; rfl) rfl ?_
            refine z_aload_n dX9_status_149 rfl ?_
            refine gf_X9_63 dX9_status_150 MH_0 rfl ?_
            exact z_iret F dX9_status_153 rfl (by decide) ⟨congrArg (fun z => some (z_i z)) (by unfold sttV; repeat (first | rw [if_pos (by omega)] | rw [if_neg (by omega)])), rfl⟩
          by_cases c3_6 : wh = 6
          · refine z_tabIn dX9_status_58 ⟨by omega, by omega⟩ (tgt := 154) (off := 96) (by omega) (by omega) (by rw [c3_6]; rfl) rfl ?_
            refine z_aload_n dX9_status_154 rfl ?_
            refine gf_X9_13 dX9_status_155 MH_0 rfl ?_
            refine z_sipush dX9_status_158 rfl ?_
            refine z_ialdN (m := 5024) dX9_status_161 (MH_2 hM) rfl ⟨by decide, by decide⟩ ?_
            exact z_iret F dX9_status_162 rfl (by decide) ⟨congrArg (fun z => some (z_i z)) (by unfold sttV; repeat (first | rw [if_pos (by omega)] | rw [if_neg (by omega)])), rfl⟩
          by_cases c3_7 : wh = 7
          · refine z_tabIn dX9_status_58 ⟨by omega, by omega⟩ (tgt := 163) (off := 105) (by omega) (by omega) (by rw [c3_7]; rfl) rfl ?_
            refine z_iload_n dX9_status_163 rfl ?_
            exact z_iret F dX9_status_164 rfl (by decide) ⟨congrArg (fun z => some (z_i z)) (by unfold sttV; repeat (first | rw [if_pos (by omega)] | rw [if_neg (by omega)])), rfl⟩
          refine z_tabOut dX9_status_58 hwh (tgt := 165) (by omega) rfl ?_
          refine z_iconst dX9_status_165 ?_
          exact z_iret F dX9_status_166 rfl (by decide) ⟨congrArg (fun z => some (z_i z)) (by unfold sttV; repeat (first | rw [if_pos (by omega)] | rw [if_neg (by omega)])), rfl⟩
        · skip
          have hb := hhs r (by omega)
          refine z_iload_n dX9_status_34 rfl ?_
          refine z_aload_n dX9_status_35 rfl ?_
          refine gf_X9_37 dX9_status_36 MH_0 rfl ?_
          refine z_iload_n dX9_status_39 rfl ?_
          refine z_ialdN (m := r) dX9_status_40 (MH_10 hM) (by omega) ⟨by omega, by omega⟩ ?_
          refine z_if_ge dX9_status_41 (tgt := 48) rfl ⟨by omega, by omega⟩ (fun c4 => ?_) (fun c4 => ?_)
          · skip
            refine z_iconst dX9_status_48 ?_
            refine z_iadd dX9_status_49 ?_
            refine z_ieq (y := hcF Ho (r + 1)) (by show _ = hcF Ho r + (if Ho r < 0 then 0 else 1); first | rw [if_pos (by omega)] | rw [if_neg (by omega)]) ?_
            refine z_istore_n dX9_status_50 (Nat.le_of_ble_eq_true rfl) rfl ?_
            refine z_iinc dX9_status_51 rfl rfl ?_
            refine z_goto dX9_status_54 (tgt := 28) rfl ?_
            exact ih (r + 1) (by omega) (by omega)
          · skip
            refine z_iconst dX9_status_44 ?_
            refine z_goto dX9_status_45 (tgt := 49) rfl ?_
            refine z_iadd dX9_status_49 ?_
            refine z_ieq (y := hcF Ho (r + 1)) (by show _ = hcF Ho r + (if Ho r < 0 then 0 else 1); first | rw [if_pos (by omega)] | rw [if_neg (by omega)]) ?_
            refine z_istore_n dX9_status_50 (Nat.le_of_ble_eq_true rfl) rfl ?_
            refine z_iinc dX9_status_51 rfl rfl ?_
            refine z_goto dX9_status_54 (tgt := 28) rfl ?_
            exact ih (r + 1) (by omega) (by omega)
    exact L4 9 0 (Nat.zero_le _) (by omega)
  · skip
    refine z_aload_n dX9_status_14 rfl ?_
    refine gf_X9_1 dX9_status_15 MH_0 rfl ?_
    refine z_iload_n dX9_status_18 rfl ?_
    refine z_bipush dX9_status_19 rfl ?_
    refine z_isub dX9_status_21 ?_
    refine z_ialdN (m := (wh - 12).toNat) dX9_status_22 (MH_1 hM) (by omega) ⟨by omega, by omega⟩ ?_
    exact z_iret F dX9_status_23 rfl (by decide) ⟨congrArg (fun z => some (z_i z)) (by unfold sttV; repeat (first | rw [if_pos (by omega)] | rw [if_neg (by omega)])), rfl⟩
