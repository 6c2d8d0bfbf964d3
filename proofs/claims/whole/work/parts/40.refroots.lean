/-! roots -/
theorem sG_s {t : Int → Int} {f : z_row} {m : Nat} : sG t f (m + 1) = sG t f m + t (f m) := rfl
theorem sG_mono {t : Int → Int} (ht : ∀ k, 0 ≤ t k) {f : z_row} : ∀ m i, i ≤ m → sG t f i ≤ sG t f m := by
  intro m
  induction m with
  | zero => intro i h; rw [Nat.le_zero.mp h]; exact Int.le_refl _
  | succ m ih =>
    intro i h
    rcases Nat.lt_or_ge i (m + 1) with h1 | h1
    · have h2 := ih i (by omega)
      have := ht (f m)
      rw [sG_s]
      omega
    · rw [show i = m + 1 by omega]
      exact Int.le_refl _
theorem sG_0 {t : Int → Int} (ht : ∀ k, 0 ≤ t k) {f : z_row} {m : Nat} : 0 ≤ sG t f m := sG_mono ht m 0 (Nat.zero_le _)
theorem kT_0 (k : Int) : 0 ≤ kT k := (kT_b k).1
theorem kM_0 (k : Int) : 0 ≤ kM k := (kM_b k).1
theorem sG_ag {t : Int → Int} {f u : z_row} : ∀ m, (∀ j, j < m → u j = f j) → sG t u m = sG t f m := by
  intro m
  induction m with
  | zero => intro _; rfl
  | succ m ih =>
    intro h
    rw [sG_s, sG_s, ih (fun j hj => h j (by omega)), h m (Nat.lt_succ_self m)]
/-- what the stitches took whose made ones are told by b -/
def RB (f : z_row) (z : Nat) (b : Nat → Prop) (p : Nat) : Prop := ∃ i, i < z ∧ kM (f i) = 1 ∧ b (sG kM f i).toNat ∧ sG kT f i ≤ (p : Int) ∧ (p : Int) < sG kT f i + kT (f i)
theorem RB_ag {f u : z_row} {z : Nat} (h : ∀ j, j < z → u j = f j) {b : Nat → Prop} {p : Nat} (hr : RB u z b p) : RB f z b p := by
  obtain ⟨i, h1, h2, h3, h4, h5⟩ := hr
  have e : ∀ t, sG t u i = sG t f i := fun t => sG_ag i (fun j hj => h j (by omega))
  rw [h i h1] at h2 h5
  rw [e] at h3 h4 h5
  exact ⟨i, h1, h2, h3, h4, h5⟩
def msk (k t : Nat) : Nat := (2 ^ t - 1) * 2 ^ k
theorem msk_b {k t p : Nat} : (msk k t).testBit p = true ↔ k ≤ p ∧ p < k + t := by
  unfold msk
  rw [← Nat.shiftLeft_eq, Nat.testBit_shiftLeft, Nat.testBit_two_pow_sub_one]
  simp only [Bool.and_eq_true, decide_eq_true_eq]
  omega
theorem msk_lt {k t : Nat} (h : k + t ≤ 63) : msk k t < 2 ^ 63 := by
  unfold msk
  have h1 : 2 ^ t * 2 ^ k ≤ 2 ^ 63 := by
    rw [← Nat.pow_add]
    exact Nat.pow_le_pow_right (by decide) (by omega)
  have h2 := Nat.two_pow_pos t
  have h3 := Nat.two_pow_pos k
  have h4 : (2 ^ t - 1) * 2 ^ k < 2 ^ t * 2 ^ k := Nat.mul_lt_mul_of_pos_right (by omega) h3
  omega
theorem tb_0 {p : Nat} : (0 : Nat).testBit p = true ↔ False := by simp
theorem tb_ext {a b : Nat} {P : Nat → Prop} (ha : ∀ p, a.testBit p = true ↔ P p) (hb : ∀ p, b.testBit p = true ↔ P p) : a = b := Nat.eq_of_testBit_eq (fun p => by
  have h : a.testBit p = true ↔ b.testBit p = true := (ha p).trans (hb p).symm
  cases h1 : a.testBit p <;> cases h2 : b.testBit p <;> simp_all)
set_option maxHeartbeats 4000000 in
set_option maxRecDepth 100000 in
theorem D_X9_rooted {g : z_G} {h0 : z_H} {A : Nat → Nat} (hM : mD A) {Rf Nw Th Tp Tx Kd Ia It Lk Ho Sz Im Mv : Nat → Int} {kp ln sz at_ we pa de ti lf md mn hi ha is_ ca : Int} {w z j : Nat} (hW : nW Nw w z) (hs : sG kT (kR Nw w) z ≤ 60) (hs2 : sG kM (kR Nw w) z ≤ 60) (hj : j < 1000) : z_D g mX9_rooted 2 0 0 [z_r (A 0), z_i (w : Int), z_i (j : Int)] (MH h0 A Rf Nw Th Tp Tx Kd Ia It Lk Ho Sz Im Mv kp ln sz at_ we pa de ti lf md mn hi ha is_ ca) (fun rv h' => (∃ v : Nat, rv = some (z_l (v : Int)) ∧ v < 2 ^ 63 ∧ ∀ p, v.testBit p = true ↔ RB (kR Nw w) z (fun q => q = j) p) ∧ h' = (MH h0 A Rf Nw Th Tp Tx Kd Ia It Lk Ho Sz Im Mv kp ln sz at_ we pa de ti lf md mn hi ha is_ ca)) := by
  refine z_D.of (by decide +kernel) (Nat.le_of_ble_eq_true rfl) (fun X F => ?_)
  have hz200 := hW.2.2.1
  show z_w g X cX9_rooted RX9 (2, 0, 0) 0 [z_r (A 0), z_i (w : Int), z_i (j : Int), z_u, z_u, z_u, z_u] [] (MH h0 A Rf Nw Th Tp Tx Kd Ia It Lk Ho Sz Im Mv kp ln sz at_ we pa de ti lf md mn hi ha is_ ca) 0 0
  refine z_iconst dX9_rooted_0 ?_
  refine z_istore_n dX9_rooted_1 (Nat.le_of_ble_eq_true rfl) rfl ?_
  refine z_iconst dX9_rooted_2 ?_
  refine z_istore dX9_rooted_3 (Nat.le_of_ble_eq_true rfl) rfl ?_
  refine z_iconst dX9_rooted_5 ?_
  refine z_istore dX9_rooted_6 (Nat.le_of_ble_eq_true rfl) rfl ?_
  have L4 : ∀ (fu : Nat) (r : Nat) (y6 : z_V) (q1 : r ≤ z) (q2 : ∀ i, i < r → kM ((kR Nw w) i) = 1 → sG kM (kR Nw w) i ≠ (j : Int)), z - r < fu → z_w g X cX9_rooted RX9 (2, 0, 0) 8 [z_r (A 0), z_i (w : Int), z_i (j : Int), z_i (sG kT (kR Nw w) r), z_i (sG kM (kR Nw w) r), z_i (r : Int), y6] [] (MH h0 A Rf Nw Th Tp Tx Kd Ia It Lk Ho Sz Im Mv kp ln sz at_ we pa de ti lf md mn hi ha is_ ca) 0 0 := by
    intro fu
    induction fu with
    | zero => intro r y6 q1 q2 hm; exact absurd hm (Nat.not_lt_zero _)
    | succ fu ih =>
      intro r y6 q1 q2 hm
      refine z_iload dX9_rooted_8 rfl ?_
      refine z_aload_n dX9_rooted_10 rfl ?_
      refine z_iload_n dX9_rooted_11 rfl ?_
      refine cs_X9_220 dX9_rooted_12 (D_X9_sizeOf hM hW) MH_0 rfl rfl (Nat.le_of_ble_eq_true rfl) (by decide) (z_ki ?_)
      refine z_icmp_ge dX9_rooted_15 (tgt := 78) rfl ⟨by omega, by omega⟩ ⟨by omega, by omega⟩ (fun c1 => ?_) (fun c1 => ?_)
      · skip
        obtain rfl : r = z := by omega
        refine z_lconst0 dX9_rooted_78 ?_
        exact z_lret F dX9_rooted_79 rfl (by decide) ⟨⟨0, rfl, by decide, fun p => tb_0.trans ⟨fun h => h.elim, fun h => by
                obtain ⟨i, h1, h2, h3, h4, h5⟩ := h
                have h3 : (sG kM (kR Nw w) i).toNat = j := h3
                have b7 := sG_0 kM_0 (f := (kR Nw w)) (m := i)
                exact q2 i h1 h2 (by omega)⟩⟩, rfl⟩
      · skip
        have hk : kOk (kR Nw w r) := hW.2.2.2 r (by omega)
        have b1 := kT_b (kR Nw w r)
        have b2 := kM_b (kR Nw w r)
        have b3 := sG_mono kT_0 (f := (kR Nw w)) z r (by omega)
        have b4 := sG_mono kM_0 (f := (kR Nw w)) z r (by omega)
        have b5 := sG_0 kT_0 (f := (kR Nw w)) (m := r)
        have b6 := sG_0 kM_0 (f := (kR Nw w)) (m := r)
        refine z_aload_n dX9_rooted_18 rfl ?_
        refine z_iload_n dX9_rooted_19 rfl ?_
        refine z_iload dX9_rooted_20 rfl ?_
        refine cs_X9_212 dX9_rooted_22 (D_X9_kind hM hW (i := r) (by omega)) MH_0 rfl rfl (Nat.le_of_ble_eq_true rfl) (by decide) (z_ki ?_)
        refine z_istore dX9_rooted_25 (Nat.le_of_ble_eq_true rfl) rfl ?_
        refine z_iload dX9_rooted_27 rfl ?_
        refine cs_X9_154 dX9_rooted_29 (D_X9_makes (kOk_in hk)) rfl rfl (Nat.le_of_ble_eq_true rfl) (by decide) (z_ki ?_)
        refine z_iconst dX9_rooted_32 ?_
        refine z_icmp_ne dX9_rooted_33 (tgt := 54) rfl ⟨by omega, by omega⟩ (by decide) (fun c2 => ?_) (fun c2 => ?_)
        · skip
          refine z_iload_n dX9_rooted_54 rfl ?_
          refine z_iload dX9_rooted_55 rfl ?_
          refine cs_X9_141 dX9_rooted_57 (D_X9_takes (kOk_in hk)) rfl rfl (Nat.le_of_ble_eq_true rfl) (by decide) (z_ki ?_)
          refine z_iadd dX9_rooted_60 ?_
          refine z_istore_n dX9_rooted_61 (Nat.le_of_ble_eq_true rfl) rfl ?_
          refine z_iload dX9_rooted_62 rfl ?_
          refine z_iload dX9_rooted_64 rfl ?_
          refine cs_X9_154 dX9_rooted_66 (D_X9_makes (kOk_in hk)) rfl rfl (Nat.le_of_ble_eq_true rfl) (by decide) (z_ki ?_)
          refine z_iadd dX9_rooted_69 ?_
          refine z_istore dX9_rooted_70 (Nat.le_of_ble_eq_true rfl) rfl ?_
          refine z_iinc dX9_rooted_72 rfl rfl ?_
          refine z_goto dX9_rooted_75 (tgt := 8) rfl ?_
          exact ih (r + 1) _ (by omega) (fun i hi9 h1 => (Nat.lt_or_ge i r).elim (fun c => q2 i c h1) (fun c => by obtain rfl : i = r := (by omega); intro c9; first | exact c2 h1 | exact c2 c9)) (by omega)
        · skip
          have g1 : kM (kR Nw w r) = 1 := c2
          refine z_iload dX9_rooted_36 rfl ?_
          refine z_iload_n dX9_rooted_38 rfl ?_
          refine z_icmp_ne dX9_rooted_39 (tgt := 54) rfl ⟨by omega, by omega⟩ ⟨by omega, by omega⟩ (fun c3 => ?_) (fun c3 => ?_)
          · skip
            refine z_iload_n dX9_rooted_54 rfl ?_
            refine z_iload dX9_rooted_55 rfl ?_
            refine cs_X9_141 dX9_rooted_57 (D_X9_takes (kOk_in hk)) rfl rfl (Nat.le_of_ble_eq_true rfl) (by decide) (z_ki ?_)
            refine z_iadd dX9_rooted_60 ?_
            refine z_istore_n dX9_rooted_61 (Nat.le_of_ble_eq_true rfl) rfl ?_
            refine z_iload dX9_rooted_62 rfl ?_
            refine z_iload dX9_rooted_64 rfl ?_
            refine cs_X9_154 dX9_rooted_66 (D_X9_makes (kOk_in hk)) rfl rfl (Nat.le_of_ble_eq_true rfl) (by decide) (z_ki ?_)
            refine z_iadd dX9_rooted_69 ?_
            refine z_istore dX9_rooted_70 (Nat.le_of_ble_eq_true rfl) rfl ?_
            refine z_iinc dX9_rooted_72 rfl rfl ?_
            refine z_goto dX9_rooted_75 (tgt := 8) rfl ?_
            exact ih (r + 1) _ (by omega) (fun i hi9 h1 => (Nat.lt_or_ge i r).elim (fun c => q2 i c h1) (fun c => by obtain rfl : i = r := (by omega); intro c9; first | exact c3 h1 | exact c3 c9)) (by omega)
          · skip
            have g2 : sG kM (kR Nw w) r = (j : Int) := c3
            obtain ⟨t, ht, htb⟩ : ∃ t : Nat, kT (kR Nw w r) = (t : Int) ∧ t ≤ 3 := ⟨(kT (kR Nw w r)).toNat, by omega, by omega⟩
            obtain ⟨q, hq, hqb⟩ : ∃ q : Nat, sG kT (kR Nw w) r = (q : Int) ∧ q ≤ 60 := ⟨(sG kT (kR Nw w) r).toNat, by omega, by omega⟩
            refine z_lconst1 dX9_rooted_42 ?_
            refine z_iload dX9_rooted_43 rfl ?_
            refine cs_X9_141 dX9_rooted_45 (D_X9_takes (kOk_in hk)) rfl rfl (Nat.le_of_ble_eq_true rfl) (by decide) (z_ki ?_)
            refine z_ieq (y := (t : Int)) ht ?_
            refine z_lshl (a := 1) (s := t) (by omega) dX9_rooted_48 ?_
            refine z_lconst1 dX9_rooted_49 ?_
            refine z_lsub dX9_rooted_50 ?_
            refine z_leq (y := ((2 ^ t - 1 : Nat) : Int)) (by have := Nat.two_pow_pos t; rw [Nat.one_mul]; omega) ?_
            refine z_iload_n dX9_rooted_51 rfl ?_
            refine z_ieq (y := (q : Int)) hq ?_
            refine z_lshl (a := (2 ^ t - 1)) (s := q) (by omega) dX9_rooted_52 ?_
            exact z_lret F dX9_rooted_53 rfl (by decide) ⟨⟨msk q t, rfl, msk_lt (by omega), fun p => msk_b.trans ⟨fun h => ⟨r, by omega, g1, by omega, by omega, by omega⟩, fun h => by
                obtain ⟨i, h1, h2, h3, h4, h5⟩ := h
                have h3 : (sG kM (kR Nw w) i).toNat = j := h3
                have b7 := sG_0 kM_0 (f := (kR Nw w)) (m := i)
                rcases Nat.lt_trichotomy i r with c | c | c
                · exact absurd (by omega) (q2 i c h2)
                · subst c
                  omega
                · have b8 := sG_mono kM_0 (f := (kR Nw w)) i (r + 1) (by omega)
                  rw [sG_s] at b8
                  omega⟩⟩, rfl⟩
  exact L4 (z + 1) 0 z_u (Nat.zero_le _) (fun i hi9 => by omega) (by omega)
