/-! the reference: loops over worked rows -/
theorem kY_b (k : Int) : 0 ≤ kY k ∧ kY k ≤ 18 := by
  unfold kY
  repeat' split
  all_goals omega
theorem sG_le {t : Int → Int} {c : Int} (ht : ∀ k, t k ≤ c) {f : z_row} : ∀ m, sG t f m ≤ c * (m : Int) := by
  intro m
  induction m with
  | zero => show (0 : Int) ≤ c * 0; omega
  | succ m ih =>
    have := ht (f m)
    rw [sG_s]
    rw [show ((m + 1 : Nat) : Int) = (m : Int) + 1 by omega, Int.mul_add]
    omega
theorem sG_Yin {f : z_row} {m : Nat} (hm : m ≤ 200) : 0 ≤ sG kY f m ∧ sG kY f m ≤ 3600 := by
  have h1 := sG_le (fun k => (kY_b k).2) (f := f) m
  have h2 := sG_0 (fun k => (kY_b k).1) (f := f) (m := m)
  omega
def yS (N : z_row) : Nat → Int
  | 0 => 0
  | m + 1 => yS N m + sG kY (kR N m) (zF N m)
def mS (N : z_row) (t : Int) : Nat → Int
  | 0 => 0
  | m + 1 => mS N t m + sG (fun q => kUn q t) (kR N m) (zF N m)
/-- the first column at which two differ -/
def dfG (c1 c2 : Int → Int) : Nat → Nat → Int
  | 0, _ => -1
  | r + 1, c => if c1 c ≠ c2 c then (c : Int) else dfG c1 c2 r (c + 1)
set_option maxHeartbeats 4000000 in
set_option maxRecDepth 100000 in
theorem D_X9_unit {g : z_G} {h0 : z_H} {A : Nat → Nat} (hM : mD A) {Rf Nw Th Tp Tx Kd Ia It Lk Ho Sz Im Mv : Nat → Int} {kp ln sz at_ we pa de ti lf md mn hi ha is_ ca : Int} {G : Nat → z_G4} (hwf : nWf Nw G) {wk : Int} (hwk : z_in wk) : z_D g mX9_unit 3 0 0 [z_r (A 0), z_i wk] (MH h0 A Rf Nw Th Tp Tx Kd Ia It Lk Ho Sz Im Mv kp ln sz at_ we pa de ti lf md mn hi ha is_ ca) (fun rv h' => (isW Nw wk → rv = some (z_i (uF (zF Nw wk.toNat : Int) (kR Nw wk.toNat))) ∧ h' = (MH h0 A Rf Nw Th Tp Tx Kd Ia It Lk Ho Sz Im Mv kp ln sz at_ we pa de ti lf md mn hi ha is_ ca)) ∧ (¬ (isW Nw wk) → rv = some (z_i (-92)) ∧ h' = (MH h0 A (z_sf Rf 0 (Rf 0 + 1)) Nw Th Tp Tx Kd Ia It Lk Ho Sz Im Mv kp ln sz at_ we pa de ti lf md mn hi ha is_ ca))) := by
  refine z_D.of (by decide +kernel) (Nat.le_of_ble_eq_true rfl) (fun X F => ?_)
  obtain ⟨w1, w2, w3, w4, w5, w6, w7⟩ := hwf
  show z_w g X cX9_unit RX9 (3, 0, 0) 0 [z_r (A 0), z_i wk, z_u, z_u, z_u, z_u] [] (MH h0 A Rf Nw Th Tp Tx Kd Ia It Lk Ho Sz Im Mv kp ln sz at_ we pa de ti lf md mn hi ha is_ ca) 0 0
  refine z_aload_n dX9_unit_0 rfl ?_
  refine z_iload_n dX9_unit_1 rfl ?_
  refine cs_X9_215 dX9_unit_2 (D_X9_isWorked hM (i := wk) ⟨by omega, by omega⟩ ⟨by omega, by omega⟩) MH_0 rfl rfl (Nat.le_of_ble_eq_true rfl) (by decide) (z_ki ?_)
  refine z_if_ne dX9_unit_5 (tgt := 15) rfl ⟨by split <;> omega, by split <;> omega⟩ (fun c1 => ?_) (fun c1 => ?_)
  · skip
    obtain ⟨w, rfl⟩ : ∃ y : Nat, wk = (y : Int) := ⟨wk.toNat, by omega⟩
    have hRw := w7 w (by omega)
    have hWw := hRw.1
    have hz200w := hWw.2.2.1
    have hw50w := hWw.1
    refine z_aload_n dX9_unit_15 rfl ?_
    refine z_iload_n dX9_unit_16 rfl ?_
    refine cs_X9_220 dX9_unit_17 (D_X9_sizeOf hM hWw) MH_0 rfl rfl (Nat.le_of_ble_eq_true rfl) (by decide) (z_ki ?_)
    refine z_istore_n dX9_unit_20 (Nat.le_of_ble_eq_true rfl) rfl ?_
    refine z_iconst dX9_unit_21 ?_
    refine z_istore_n dX9_unit_22 (Nat.le_of_ble_eq_true rfl) rfl ?_
    have L4 : ∀ (fu : Nat) (u : Nat) (y4 y5 : z_V) (q1 : 1 ≤ u ∧ u ≤ 201) (q2 : ∀ v : Nat, 1 ≤ v → v < u → ¬ ((zF Nw w : Int) % (v : Int) = 0 ∧ cAg (zF Nw w : Int) (kR Nw w) v)), 202 - u < fu → z_w g X cX9_unit RX9 (3, 0, 0) 23 [z_r (A 0), z_i (w : Int), z_i (zF Nw w : Int), z_i (u : Int), y4, y5] [] (MH h0 A Rf Nw Th Tp Tx Kd Ia It Lk Ho Sz Im Mv kp ln sz at_ we pa de ti lf md mn hi ha is_ ca) 0 0 := by
      intro fu
      induction fu with
      | zero => intro u y4 y5 q1 q2 hm; exact absurd hm (Nat.not_lt_zero _)
      | succ fu ih =>
        intro u y4 y5 q1 q2 hm
        refine z_iload_n dX9_unit_23 rfl ?_
        refine z_iload_n dX9_unit_24 rfl ?_
        refine z_icmp_gt dX9_unit_25 (tgt := 100) rfl ⟨by omega, by omega⟩ ⟨by omega, by omega⟩ (fun c2 => ?_) (fun c2 => ?_)
        · skip
          have hz0 : zF Nw w = 0 := Classical.byContradiction (fun q => q2 (zF Nw w) (by omega) (by omega) ⟨Int.emod_self, fun j h1 h2 => by omega⟩)
          have hu := uF_is (z := (zF Nw w : Int)) (f := (kR Nw w)) (u := 0) (Or.inl ⟨by omega, rfl⟩)
          refine z_iconst dX9_unit_100 ?_
          exact z_iret F dX9_unit_101 rfl (by decide) ⟨fun q => ⟨congrArg (fun z => some (z_i z)) (hu), rfl⟩, fun q => absurd (by omega) q⟩
        · skip
          refine z_iload_n dX9_unit_28 rfl ?_
          refine z_iload_n dX9_unit_29 rfl ?_
          refine z_irem dX9_unit_30 ⟨by omega, by omega⟩ ⟨by omega, by omega⟩ ?_
          refine z_if_ne dX9_unit_31 (tgt := 38) rfl (by have h1 := Int.emod_nonneg (zF Nw w : Int) (show (u : Int) ≠ 0 by omega); have h2 := Int.emod_lt_of_pos (zF Nw w : Int) (show (0 : Int) < (u : Int) by omega); exact ⟨by omega, by omega⟩) (fun c3 => ?_) (fun c3 => ?_)
          · skip
            have hn : ¬ ((zF Nw w : Int) % (u : Int) = 0) := c3
            refine z_iconst dX9_unit_38 ?_
            refine z_istore dX9_unit_39 (Nat.le_of_ble_eq_true rfl) rfl ?_
            refine z_iload_n dX9_unit_41 rfl ?_
            refine z_istore dX9_unit_42 (Nat.le_of_ble_eq_true rfl) rfl ?_
            have L5 : ∀ (fu : Nat) (k : Nat) (b : Int) (p1 : u ≤ k ∧ k ≤ 500) (p2 : (b = 1 ∧ (zF Nw w : Int) % (u : Int) = 0 ∧ ∀ j : Nat, u ≤ j → j < k → (kR Nw w) j = (kR Nw w) (j - u)) ∨ (b = 0 ∧ ¬ ((zF Nw w : Int) % (u : Int) = 0 ∧ cAg (zF Nw w : Int) (kR Nw w) u))), zF Nw w + 2 - k < fu → z_w g X cX9_unit RX9 (3, 0, 0) 44 [z_r (A 0), z_i (w : Int), z_i (zF Nw w : Int), z_i (u : Int), z_i b, z_i (k : Int)] [] (MH h0 A Rf Nw Th Tp Tx Kd Ia It Lk Ho Sz Im Mv kp ln sz at_ we pa de ti lf md mn hi ha is_ ca) 0 0 := by
              intro fu
              induction fu with
              | zero => intro k b p1 p2 hm; exact absurd hm (Nat.not_lt_zero _)
              | succ fu2 ih2 =>
                intro k b p1 p2 hm
                refine z_iload dX9_unit_44 rfl ?_
                refine z_iload_n dX9_unit_46 rfl ?_
                refine z_icmp_ge dX9_unit_47 (tgt := 87) rfl ⟨by omega, by omega⟩ ⟨by omega, by omega⟩ (fun c4 => ?_) (fun c4 => ?_)
                · skip
                  refine z_iload dX9_unit_87 rfl ?_
                  refine z_if_eq dX9_unit_89 (tgt := 94) rfl ⟨by omega, by omega⟩ (fun c5 => ?_) (fun c5 => ?_)
                  · skip
                    have hbad : ¬ ((zF Nw w : Int) % (u : Int) = 0 ∧ cAg (zF Nw w : Int) (kR Nw w) u) := by rcases p2 with q | q; exact absurd q.1 (by omega); exact q.2
                    refine z_iinc dX9_unit_94 rfl rfl ?_
                    refine z_goto dX9_unit_97 (tgt := 23) rfl ?_
                    exact ih (u + 1) _ _ (by omega) (fun v h1 h2 => (Nat.lt_or_ge v u).elim (fun c => q2 v h1 c) (fun c => by obtain rfl : v = u := (by omega); exact hbad)) (by omega)
                  · skip
                    obtain ⟨p5, p3, p4⟩ := p2.resolve_right (fun q => by omega)
                    have hu := uF_is (z := (zF Nw w : Int)) (f := (kR Nw w)) (u := (u : Int)) (Or.inr ⟨by omega, by omega, p3, fun j h1 h2 => p4 j h1 (by omega), fun v h1 h2 => q2 v h1 (by omega)⟩)
                    refine z_iload_n dX9_unit_92 rfl ?_
                    exact z_iret F dX9_unit_93 rfl (by decide) ⟨fun q => ⟨congrArg (fun z => some (z_i z)) (hu), rfl⟩, fun q => absurd (by omega) q⟩
                · skip
                  have hk : kOk (kR Nw w k) := hWw.2.2.2 k (by omega)
                  have hk2 : kOk (kR Nw w (k - u)) := hWw.2.2.2 (k - u) (by omega)
                  have hkd := D_X9_kind (g := g) (h0 := h0) hM (Rf := Rf) (Nw := Nw) (Th := Th) (Tp := Tp) (Tx := Tx) (Kd := Kd) (Ia := Ia) (It := It) (Lk := Lk) (Ho := Ho) (Sz := Sz) (Im := Im) (Mv := Mv) (kp := kp) (ln := ln) (sz := sz) (at_ := at_) (we := we) (pa := pa) (de := de) (ti := ti) (lf := lf) (md := md) (mn := mn) (hi := hi) (ha := ha) (is_ := is_) (ca := ca) hWw (i := k - u) (by omega)
                  rw [show ((k - u : Nat) : Int) = (k : Int) - (u : Int) by omega] at hkd
                  refine z_iload dX9_unit_50 rfl ?_
                  refine z_if_eq dX9_unit_52 (tgt := 87) rfl ⟨by omega, by omega⟩ (fun c6 => ?_) (fun c6 => ?_)
                  · skip
                    refine z_iload dX9_unit_87 rfl ?_
                    refine z_if_eq dX9_unit_89 (tgt := 94) rfl ⟨by omega, by omega⟩ (fun c7 => ?_) (fun c7 => ?_)
                    · skip
                      have hbad : ¬ ((zF Nw w : Int) % (u : Int) = 0 ∧ cAg (zF Nw w : Int) (kR Nw w) u) := by rcases p2 with q | q; exact absurd q.1 (by omega); exact q.2
                      refine z_iinc dX9_unit_94 rfl rfl ?_
                      refine z_goto dX9_unit_97 (tgt := 23) rfl ?_
                      exact ih (u + 1) _ _ (by omega) (fun v h1 h2 => (Nat.lt_or_ge v u).elim (fun c => q2 v h1 c) (fun c => by obtain rfl : v = u := (by omega); exact hbad)) (by omega)
                    · skip
                      exfalso
                      omega
                  · skip
                    obtain ⟨rfl, p3, p4⟩ := p2.resolve_right (fun q => by omega)
                    refine z_aload_n dX9_unit_55 rfl ?_
                    refine z_iload_n dX9_unit_56 rfl ?_
                    refine z_iload dX9_unit_57 rfl ?_
                    refine cs_X9_212 dX9_unit_59 (D_X9_kind hM hWw (i := k) (by omega)) MH_0 rfl rfl (Nat.le_of_ble_eq_true rfl) (by decide) (z_ki ?_)
                    refine z_aload_n dX9_unit_62 rfl ?_
                    refine z_iload_n dX9_unit_63 rfl ?_
                    refine z_iload dX9_unit_64 rfl ?_
                    refine z_iload_n dX9_unit_66 rfl ?_
                    refine z_isub dX9_unit_67 ?_
                    refine cs_X9_212 dX9_unit_68 hkd MH_0 rfl rfl (Nat.le_of_ble_eq_true rfl) (by decide) (z_ki ?_)
                    refine z_icmp_ne dX9_unit_71 (tgt := 78) rfl (kOk_in hk) (kOk_in hk2) (fun c8 => ?_) (fun c8 => ?_)
                    · skip
                      have hd : ¬ ((zF Nw w : Int) % (u : Int) = 0 ∧ cAg (zF Nw w : Int) (kR Nw w) u) := fun q => c8 (q.2 k p1.1 (by omega))
                      refine z_iconst dX9_unit_78 ?_
                      refine z_istore dX9_unit_79 (Nat.le_of_ble_eq_true rfl) rfl ?_
                      refine z_iinc dX9_unit_81 rfl rfl ?_
                      refine z_goto dX9_unit_84 (tgt := 44) rfl ?_
                      exact ih2 (k + 1) _ (by omega) (Or.inr ⟨rfl, hd⟩) (by omega)
                    · skip
                      refine z_iconst dX9_unit_74 ?_
                      refine z_goto dX9_unit_75 (tgt := 79) rfl ?_
                      refine z_istore dX9_unit_79 (Nat.le_of_ble_eq_true rfl) rfl ?_
                      refine z_iinc dX9_unit_81 rfl rfl ?_
                      refine z_goto dX9_unit_84 (tgt := 44) rfl ?_
                      exact ih2 (k + 1) _ (by omega) (Or.inl ⟨rfl, p3, fun j h1 h2 => (Nat.lt_or_ge j k).elim (fun c => p4 j h1 c) (fun c => by obtain rfl : j = k := (by omega); exact c8)⟩) (by omega)
            exact L5 (zF Nw w + 3) u 0 (by omega) (Or.inr ⟨rfl, fun q => hn q.1⟩) (by omega)
          · skip
            have hn : (zF Nw w : Int) % (u : Int) = 0 := c3
            refine z_iconst dX9_unit_34 ?_
            refine z_goto dX9_unit_35 (tgt := 39) rfl ?_
            refine z_istore dX9_unit_39 (Nat.le_of_ble_eq_true rfl) rfl ?_
            refine z_iload_n dX9_unit_41 rfl ?_
            refine z_istore dX9_unit_42 (Nat.le_of_ble_eq_true rfl) rfl ?_
            have L5 : ∀ (fu : Nat) (k : Nat) (b : Int) (p1 : u ≤ k ∧ k ≤ 500) (p2 : (b = 1 ∧ (zF Nw w : Int) % (u : Int) = 0 ∧ ∀ j : Nat, u ≤ j → j < k → (kR Nw w) j = (kR Nw w) (j - u)) ∨ (b = 0 ∧ ¬ ((zF Nw w : Int) % (u : Int) = 0 ∧ cAg (zF Nw w : Int) (kR Nw w) u))), zF Nw w + 2 - k < fu → z_w g X cX9_unit RX9 (3, 0, 0) 44 [z_r (A 0), z_i (w : Int), z_i (zF Nw w : Int), z_i (u : Int), z_i b, z_i (k : Int)] [] (MH h0 A Rf Nw Th Tp Tx Kd Ia It Lk Ho Sz Im Mv kp ln sz at_ we pa de ti lf md mn hi ha is_ ca) 0 0 := by
              intro fu
              induction fu with
              | zero => intro k b p1 p2 hm; exact absurd hm (Nat.not_lt_zero _)
              | succ fu2 ih2 =>
                intro k b p1 p2 hm
                refine z_iload dX9_unit_44 rfl ?_
                refine z_iload_n dX9_unit_46 rfl ?_
                refine z_icmp_ge dX9_unit_47 (tgt := 87) rfl ⟨by omega, by omega⟩ ⟨by omega, by omega⟩ (fun c9 => ?_) (fun c9 => ?_)
                · skip
                  refine z_iload dX9_unit_87 rfl ?_
                  refine z_if_eq dX9_unit_89 (tgt := 94) rfl ⟨by omega, by omega⟩ (fun c10 => ?_) (fun c10 => ?_)
                  · skip
                    have hbad : ¬ ((zF Nw w : Int) % (u : Int) = 0 ∧ cAg (zF Nw w : Int) (kR Nw w) u) := by rcases p2 with q | q; exact absurd q.1 (by omega); exact q.2
                    refine z_iinc dX9_unit_94 rfl rfl ?_
                    refine z_goto dX9_unit_97 (tgt := 23) rfl ?_
                    exact ih (u + 1) _ _ (by omega) (fun v h1 h2 => (Nat.lt_or_ge v u).elim (fun c => q2 v h1 c) (fun c => by obtain rfl : v = u := (by omega); exact hbad)) (by omega)
                  · skip
                    obtain ⟨p5, p3, p4⟩ := p2.resolve_right (fun q => by omega)
                    have hu := uF_is (z := (zF Nw w : Int)) (f := (kR Nw w)) (u := (u : Int)) (Or.inr ⟨by omega, by omega, p3, fun j h1 h2 => p4 j h1 (by omega), fun v h1 h2 => q2 v h1 (by omega)⟩)
                    refine z_iload_n dX9_unit_92 rfl ?_
                    exact z_iret F dX9_unit_93 rfl (by decide) ⟨fun q => ⟨congrArg (fun z => some (z_i z)) (hu), rfl⟩, fun q => absurd (by omega) q⟩
                · skip
                  have hk : kOk (kR Nw w k) := hWw.2.2.2 k (by omega)
                  have hk2 : kOk (kR Nw w (k - u)) := hWw.2.2.2 (k - u) (by omega)
                  have hkd := D_X9_kind (g := g) (h0 := h0) hM (Rf := Rf) (Nw := Nw) (Th := Th) (Tp := Tp) (Tx := Tx) (Kd := Kd) (Ia := Ia) (It := It) (Lk := Lk) (Ho := Ho) (Sz := Sz) (Im := Im) (Mv := Mv) (kp := kp) (ln := ln) (sz := sz) (at_ := at_) (we := we) (pa := pa) (de := de) (ti := ti) (lf := lf) (md := md) (mn := mn) (hi := hi) (ha := ha) (is_ := is_) (ca := ca) hWw (i := k - u) (by omega)
                  rw [show ((k - u : Nat) : Int) = (k : Int) - (u : Int) by omega] at hkd
                  refine z_iload dX9_unit_50 rfl ?_
                  refine z_if_eq dX9_unit_52 (tgt := 87) rfl ⟨by omega, by omega⟩ (fun c11 => ?_) (fun c11 => ?_)
                  · skip
                    refine z_iload dX9_unit_87 rfl ?_
                    refine z_if_eq dX9_unit_89 (tgt := 94) rfl ⟨by omega, by omega⟩ (fun c12 => ?_) (fun c12 => ?_)
                    · skip
                      have hbad : ¬ ((zF Nw w : Int) % (u : Int) = 0 ∧ cAg (zF Nw w : Int) (kR Nw w) u) := by rcases p2 with q | q; exact absurd q.1 (by omega); exact q.2
                      refine z_iinc dX9_unit_94 rfl rfl ?_
                      refine z_goto dX9_unit_97 (tgt := 23) rfl ?_
                      exact ih (u + 1) _ _ (by omega) (fun v h1 h2 => (Nat.lt_or_ge v u).elim (fun c => q2 v h1 c) (fun c => by obtain rfl : v = u := (by omega); exact hbad)) (by omega)
                    · skip
                      exfalso
                      omega
                  · skip
                    obtain ⟨rfl, p3, p4⟩ := p2.resolve_right (fun q => by omega)
                    refine z_aload_n dX9_unit_55 rfl ?_
                    refine z_iload_n dX9_unit_56 rfl ?_
                    refine z_iload dX9_unit_57 rfl ?_
                    refine cs_X9_212 dX9_unit_59 (D_X9_kind hM hWw (i := k) (by omega)) MH_0 rfl rfl (Nat.le_of_ble_eq_true rfl) (by decide) (z_ki ?_)
                    refine z_aload_n dX9_unit_62 rfl ?_
                    refine z_iload_n dX9_unit_63 rfl ?_
                    refine z_iload dX9_unit_64 rfl ?_
                    refine z_iload_n dX9_unit_66 rfl ?_
                    refine z_isub dX9_unit_67 ?_
                    refine cs_X9_212 dX9_unit_68 hkd MH_0 rfl rfl (Nat.le_of_ble_eq_true rfl) (by decide) (z_ki ?_)
                    refine z_icmp_ne dX9_unit_71 (tgt := 78) rfl (kOk_in hk) (kOk_in hk2) (fun c13 => ?_) (fun c13 => ?_)
                    · skip
                      have hd : ¬ ((zF Nw w : Int) % (u : Int) = 0 ∧ cAg (zF Nw w : Int) (kR Nw w) u) := fun q => c13 (q.2 k p1.1 (by omega))
                      refine z_iconst dX9_unit_78 ?_
                      refine z_istore dX9_unit_79 (Nat.le_of_ble_eq_true rfl) rfl ?_
                      refine z_iinc dX9_unit_81 rfl rfl ?_
                      refine z_goto dX9_unit_84 (tgt := 44) rfl ?_
                      exact ih2 (k + 1) _ (by omega) (Or.inr ⟨rfl, hd⟩) (by omega)
                    · skip
                      refine z_iconst dX9_unit_74 ?_
                      refine z_goto dX9_unit_75 (tgt := 79) rfl ?_
                      refine z_istore dX9_unit_79 (Nat.le_of_ble_eq_true rfl) rfl ?_
                      refine z_iinc dX9_unit_81 rfl rfl ?_
                      refine z_goto dX9_unit_84 (tgt := 44) rfl ?_
                      exact ih2 (k + 1) _ (by omega) (Or.inl ⟨rfl, p3, fun j h1 h2 => (Nat.lt_or_ge j k).elim (fun c => p4 j h1 c) (fun c => by obtain rfl : j = k := (by omega); exact c13)⟩) (by omega)
            exact L5 (zF Nw w + 3) u 1 (by omega) (Or.inl ⟨rfl, hn, fun j h1 h2 => by omega⟩) (by omega)
    exact L4 202 1 z_u z_u (by omega) (fun v h1 h2 => by omega) (by omega)
  · skip
    refine z_aload_n dX9_unit_8 rfl ?_
    refine z_bipush dX9_unit_9 rfl ?_
    refine cs_X9_60 dX9_unit_11 (D_X9_ref0 hM) MH_0 rfl rfl (Nat.le_of_ble_eq_true rfl) (by decide) (z_ki ?_)
    exact z_iret F dX9_unit_14 rfl (by decide) ⟨fun q => absurd q (fun q => by omega), fun q => ⟨rfl, rfl⟩⟩
set_option maxHeartbeats 4000000 in
set_option maxRecDepth 100000 in
theorem D_X9_even {g : z_G} {h0 : z_H} {A : Nat → Nat} (hM : mD A) {Rf Nw Th Tp Tx Kd Ia It Lk Ho Sz Im Mv : Nat → Int} {kp ln sz at_ we pa de ti lf md mn hi ha is_ ca : Int} {G : Nat → z_G4} (hwf : nWf Nw G) {wk : Int} (hwk : z_in wk) : z_D g mX9_even 4 0 0 [z_r (A 0), z_i wk] (MH h0 A Rf Nw Th Tp Tx Kd Ia It Lk Ho Sz Im Mv kp ln sz at_ we pa de ti lf md mn hi ha is_ ca) (fun rv h' => (isW Nw wk → rv = some (z_i (bI (∀ j : Nat, (j : Int) < (zF Nw wk.toNat : Int) → kR Nw wk.toNat j = mA (zF Nw wk.toNat : Int) (kR Nw wk.toNat) j))) ∧ h' = (MH h0 A Rf Nw Th Tp Tx Kd Ia It Lk Ho Sz Im Mv kp ln sz at_ we pa de ti lf md mn hi ha is_ ca)) ∧ (¬ (isW Nw wk) → rv = some (z_i (-92)) ∧ h' = (MH h0 A (z_sf Rf 0 (Rf 0 + 1)) Nw Th Tp Tx Kd Ia It Lk Ho Sz Im Mv kp ln sz at_ we pa de ti lf md mn hi ha is_ ca))) := by
  refine z_D.of (by decide +kernel) (Nat.le_of_ble_eq_true rfl) (fun X F => ?_)
  obtain ⟨w1, w2, w3, w4, w5, w6, w7⟩ := hwf
  show z_w g X cX9_even RX9 (4, 0, 0) 0 [z_r (A 0), z_i wk, z_u, z_u] [] (MH h0 A Rf Nw Th Tp Tx Kd Ia It Lk Ho Sz Im Mv kp ln sz at_ we pa de ti lf md mn hi ha is_ ca) 0 0
  refine z_aload_n dX9_even_0 rfl ?_
  refine z_iload_n dX9_even_1 rfl ?_
  refine cs_X9_215 dX9_even_2 (D_X9_isWorked hM (i := wk) ⟨by omega, by omega⟩ ⟨by omega, by omega⟩) MH_0 rfl rfl (Nat.le_of_ble_eq_true rfl) (by decide) (z_ki ?_)
  refine z_if_ne dX9_even_5 (tgt := 15) rfl ⟨by split <;> omega, by split <;> omega⟩ (fun c1 => ?_) (fun c1 => ?_)
  · skip
    obtain ⟨w, rfl⟩ : ∃ y : Nat, wk = (y : Int) := ⟨wk.toNat, by omega⟩
    have hRw := w7 w (by omega)
    have hWw := hRw.1
    have hz200w := hWw.2.2.1
    have hw50w := hWw.1
    refine z_iconst dX9_even_15 ?_
    refine z_istore_n dX9_even_16 (Nat.le_of_ble_eq_true rfl) rfl ?_
    refine z_iconst dX9_even_17 ?_
    refine z_istore_n dX9_even_18 (Nat.le_of_ble_eq_true rfl) rfl ?_
    have L4 : ∀ (fu : Nat) (k : Nat) (b : Int) (q1 : k ≤ zF Nw w) (q2 : (b = 1 ∧ ∀ j : Nat, j < k → kR Nw w j = mA (zF Nw w : Int) (kR Nw w) j) ∨ (b = 0 ∧ ¬ (∀ j : Nat, (j : Int) < (zF Nw w : Int) → kR Nw w j = mA (zF Nw w : Int) (kR Nw w) j))), zF Nw w - k < fu → z_w g X cX9_even RX9 (4, 0, 0) 19 [z_r (A 0), z_i (w : Int), z_i b, z_i (k : Int)] [] (MH h0 A Rf Nw Th Tp Tx Kd Ia It Lk Ho Sz Im Mv kp ln sz at_ we pa de ti lf md mn hi ha is_ ca) 0 0 := by
      intro fu
      induction fu with
      | zero => intro k b q1 q2 hm; exact absurd hm (Nat.not_lt_zero _)
      | succ fu ih =>
        intro k b q1 q2 hm
        refine z_iload_n dX9_even_19 rfl ?_
        refine z_aload_n dX9_even_20 rfl ?_
        refine z_iload_n dX9_even_21 rfl ?_
        refine cs_X9_220 dX9_even_22 (D_X9_sizeOf hM hWw) MH_0 rfl rfl (Nat.le_of_ble_eq_true rfl) (by decide) (z_ki ?_)
        refine z_icmp_ge dX9_even_25 (tgt := 59) rfl ⟨by omega, by omega⟩ ⟨by omega, by omega⟩ (fun c2 => ?_) (fun c2 => ?_)
        · skip
          refine z_iload_n dX9_even_59 rfl ?_
          refine z_if_eq dX9_even_60 (tgt := 67) rfl ⟨by omega, by omega⟩ (fun c3 => ?_) (fun c3 => ?_)
          · skip
            have hb : bI (∀ j : Nat, (j : Int) < (zF Nw w : Int) → kR Nw w j = mA (zF Nw w : Int) (kR Nw w) j) = 0 := bI_f (q2.resolve_left (fun q => by omega)).2
            refine z_iconst dX9_even_67 ?_
            exact z_iret F dX9_even_68 rfl (by decide) ⟨fun q => ⟨congrArg (fun z => some (z_i z)) (hb.symm), rfl⟩, fun q => absurd (by omega) q⟩
          · skip
            have hb : bI (∀ j : Nat, (j : Int) < (zF Nw w : Int) → kR Nw w j = mA (zF Nw w : Int) (kR Nw w) j) = 1 := bI_t (fun j hj => (q2.resolve_right (fun q => by omega)).2 j (by omega))
            refine z_iconst dX9_even_63 ?_
            refine z_goto dX9_even_64 (tgt := 68) rfl ?_
            exact z_iret F dX9_even_68 rfl (by decide) ⟨fun q => ⟨congrArg (fun z => some (z_i z)) (hb.symm), rfl⟩, fun q => absurd (by omega) q⟩
        · skip
          have hk : kOk (kR Nw w k) := hWw.2.2.2 k (by omega)
          refine z_iload_n dX9_even_28 rfl ?_
          refine z_if_eq dX9_even_29 (tgt := 51) rfl ⟨by omega, by omega⟩ (fun c4 => ?_) (fun c4 => ?_)
          · skip
            have q3 : ¬ (∀ j : Nat, (j : Int) < (zF Nw w : Int) → kR Nw w j = mA (zF Nw w : Int) (kR Nw w) j) := (q2.resolve_left (fun q => by omega)).2
            refine z_iconst dX9_even_51 ?_
            refine z_istore_n dX9_even_52 (Nat.le_of_ble_eq_true rfl) rfl ?_
            refine z_iinc dX9_even_53 rfl rfl ?_
            refine z_goto dX9_even_56 (tgt := 19) rfl ?_
            exact ih (k + 1) _ (by omega) (Or.inr ⟨rfl, q3⟩) (by omega)
          · skip
            obtain ⟨rfl, q3⟩ := q2.resolve_right (fun q => by omega)
            refine z_aload_n dX9_even_32 rfl ?_
            refine z_iload_n dX9_even_33 rfl ?_
            refine z_iload_n dX9_even_34 rfl ?_
            refine cs_X9_236 dX9_even_35 (D_X9_mirroredAt hM hWw (i := (k : Int)) ⟨by omega, by omega⟩) MH_0 rfl rfl (Nat.le_of_ble_eq_true rfl) (by decide) (z_ki ?_)
            refine z_aload_n dX9_even_38 rfl ?_
            refine z_iload_n dX9_even_39 rfl ?_
            refine z_iload_n dX9_even_40 rfl ?_
            refine cs_X9_212 dX9_even_41 (D_X9_kind hM hWw (i := k) (by omega)) MH_0 rfl rfl (Nat.le_of_ble_eq_true rfl) (by decide) (z_ki ?_)
            refine z_icmp_ne dX9_even_44 (tgt := 51) rfl (mA_in hWw.f) (kOk_in hk) (fun c5 => ?_) (fun c5 => ?_)
            · skip
              refine z_iconst dX9_even_51 ?_
              refine z_istore_n dX9_even_52 (Nat.le_of_ble_eq_true rfl) rfl ?_
              refine z_iinc dX9_even_53 rfl rfl ?_
              refine z_goto dX9_even_56 (tgt := 19) rfl ?_
              exact ih (k + 1) _ (by omega) (Or.inr ⟨rfl, fun q => c5 (q k (by omega)).symm⟩) (by omega)
            · skip
              refine z_iconst dX9_even_47 ?_
              refine z_goto dX9_even_48 (tgt := 52) rfl ?_
              refine z_istore_n dX9_even_52 (Nat.le_of_ble_eq_true rfl) rfl ?_
              refine z_iinc dX9_even_53 rfl rfl ?_
              refine z_goto dX9_even_56 (tgt := 19) rfl ?_
              exact ih (k + 1) _ (by omega) (Or.inl ⟨rfl, fun j h => (Nat.lt_or_ge j k).elim (fun c => q3 j c) (fun c => by obtain rfl : j = k := (by omega); exact c5.symm)⟩) (by omega)
    exact L4 (zF Nw w + 1) 0 1 (Nat.zero_le _) (Or.inl ⟨rfl, fun j h => by omega⟩) (by omega)
  · skip
    refine z_aload_n dX9_even_8 rfl ?_
    refine z_bipush dX9_even_9 rfl ?_
    refine cs_X9_60 dX9_even_11 (D_X9_ref0 hM) MH_0 rfl rfl (Nat.le_of_ble_eq_true rfl) (by decide) (z_ki ?_)
    exact z_iret F dX9_even_14 rfl (by decide) ⟨fun q => absurd q (fun q => by omega), fun q => ⟨rfl, rfl⟩⟩
set_option maxHeartbeats 4000000 in
set_option maxRecDepth 100000 in
theorem D_X9_roots {g : z_G} {h0 : z_H} {A : Nat → Nat} (hM : mD A) {Rf Nw Th Tp Tx Kd Ia It Lk Ho Sz Im Mv : Nat → Int} {kp ln sz at_ we pa de ti lf md mn hi ha is_ ca : Int} {G : Nat → z_G4} (hwf : nWf Nw G) {wk j9 : Int} (hwk : z_in wk) (hj9 : z_in j9) : z_D g mX9_roots 4 0 0 [z_r (A 0), z_i wk, z_i j9] (MH h0 A Rf Nw Th Tp Tx Kd Ia It Lk Ho Sz Im Mv kp ln sz at_ we pa de ti lf md mn hi ha is_ ca) (fun rv h' => (isW Nw wk ∧ 0 ≤ j9 ∧ j9 < sG kM (kR Nw wk.toNat) (zF Nw wk.toNat) → (∃ v : Nat, rv = some (z_l (v : Int)) ∧ v < 2 ^ 63 ∧ ∀ p, v.testBit p = true ↔ RB (kR Nw wk.toNat) (zF Nw wk.toNat) (fun q => q = j9.toNat) p) ∧ h' = (MH h0 A Rf Nw Th Tp Tx Kd Ia It Lk Ho Sz Im Mv kp ln sz at_ we pa de ti lf md mn hi ha is_ ca)) ∧ (¬ (isW Nw wk ∧ 0 ≤ j9 ∧ j9 < sG kM (kR Nw wk.toNat) (zF Nw wk.toNat)) → rv = some (z_l (-92 - 9000000000000000000)) ∧ h' = (MH h0 A (z_sf Rf 0 (Rf 0 + 1)) Nw Th Tp Tx Kd Ia It Lk Ho Sz Im Mv kp ln sz at_ we pa de ti lf md mn hi ha is_ ca))) := by
  refine z_D.of (by decide +kernel) (Nat.le_of_ble_eq_true rfl) (fun X F => ?_)
  obtain ⟨w1, w2, w3, w4, w5, w6, w7⟩ := hwf
  show z_w g X cX9_roots RX9 (4, 0, 0) 0 [z_r (A 0), z_i wk, z_i j9] [] (MH h0 A Rf Nw Th Tp Tx Kd Ia It Lk Ho Sz Im Mv kp ln sz at_ we pa de ti lf md mn hi ha is_ ca) 0 0
  refine z_aload_n dX9_roots_0 rfl ?_
  refine z_iload_n dX9_roots_1 rfl ?_
  refine cs_X9_215 dX9_roots_2 (D_X9_isWorked hM (i := wk) ⟨by omega, by omega⟩ ⟨by omega, by omega⟩) MH_0 rfl rfl (Nat.le_of_ble_eq_true rfl) (by decide) (z_ki ?_)
  refine z_if_eq dX9_roots_5 (tgt := 25) rfl ⟨by split <;> omega, by split <;> omega⟩ (fun c1 => ?_) (fun c1 => ?_)
  · skip
    refine z_aload_n dX9_roots_25 rfl ?_
    refine z_bipush dX9_roots_26 rfl ?_
    refine cs_X9_60 dX9_roots_28 (D_X9_ref0 hM) MH_0 rfl rfl (Nat.le_of_ble_eq_true rfl) (by decide) (z_ki ?_)
    refine z_i2l dX9_roots_31 (by decide) ?_
    refine z_ldc2 dX9_roots_32 lw_X9_210 ?_
    refine z_lsub dX9_roots_35 ?_
    exact z_lret F dX9_roots_36 rfl (by decide) ⟨fun q => absurd q (fun q => by have q1 := q.1; have q2 := q.2; first | omega | (rw [Int.toNat_natCast] at q2; omega)), fun q => ⟨rfl, rfl⟩⟩
  · skip
    obtain ⟨w, rfl⟩ : ∃ y : Nat, wk = (y : Int) := ⟨wk.toNat, by omega⟩
    have hRw := w7 w (by omega)
    have hWw := hRw.1
    have hz200w := hWw.2.2.1
    have hw50w := hWw.1
    have m1 := hRw.2.2.2.2.2.1
    have m0 := sG_0 kM_0 (f := kR Nw w) (m := zF Nw w)
    refine z_iload_n dX9_roots_8 rfl ?_
    refine z_i2l dX9_roots_9 ⟨by omega, by omega⟩ ?_
    refine z_lconst0 dX9_roots_10 ?_
    refine z_aload_n dX9_roots_11 rfl ?_
    refine z_iload_n dX9_roots_12 rfl ?_
    refine cs_X9_239 dX9_roots_13 (D_X9_madeBy hM hWw) MH_0 rfl rfl (Nat.le_of_ble_eq_true rfl) (by decide) (z_ki ?_)
    refine z_iconst dX9_roots_16 ?_
    refine z_isub dX9_roots_17 ?_
    refine z_i2l dX9_roots_18 ⟨by omega, by omega⟩ ?_
    refine cs_X9_56 dX9_roots_19 (D_X9_isIn (v := j9) (lo := 0) (hi := (sG kM (kR Nw w) (zF Nw w)) - 1) ⟨by omega, by omega⟩ (by decide) ⟨by omega, by omega⟩) rfl rfl (Nat.le_of_ble_eq_true rfl) (by decide) (z_ki ?_)
    refine z_if_ne dX9_roots_22 (tgt := 37) rfl ⟨by split <;> omega, by split <;> omega⟩ (fun c2 => ?_) (fun c2 => ?_)
    · skip
      obtain ⟨j, rfl⟩ : ∃ y : Nat, j9 = (y : Int) := ⟨j9.toNat, by omega⟩
      refine z_aload_n dX9_roots_37 rfl ?_
      refine z_iload_n dX9_roots_38 rfl ?_
      refine z_iload_n dX9_roots_39 rfl ?_
      refine cs_X9_242 dX9_roots_40 (D_X9_rooted hM hWw (j := j) hRw.2.2.2.2.1 m1 (by omega)) MH_0 rfl rfl (Nat.le_of_ble_eq_true rfl) (by decide) (fun rv h' hq => ?_)
      obtain ⟨⟨v, rfl, hv, hvt⟩, rfl⟩ := hq
      refine z_ks ?_
      exact z_lret F dX9_roots_43 rfl (by decide) ⟨fun q => ⟨⟨v, rfl, hv, hvt⟩, rfl⟩, fun q => absurd ⟨by omega, by rw [Int.toNat_natCast]; omega⟩ q⟩
    · skip
      refine z_aload_n dX9_roots_25 rfl ?_
      refine z_bipush dX9_roots_26 rfl ?_
      refine cs_X9_60 dX9_roots_28 (D_X9_ref0 hM) MH_0 rfl rfl (Nat.le_of_ble_eq_true rfl) (by decide) (z_ki ?_)
      refine z_i2l dX9_roots_31 (by decide) ?_
      refine z_ldc2 dX9_roots_32 lw_X9_210 ?_
      refine z_lsub dX9_roots_35 ?_
      exact z_lret F dX9_roots_36 rfl (by decide) ⟨fun q => absurd q (fun q => by have q1 := q.1; have q2 := q.2; first | omega | (rw [Int.toNat_natCast] at q2; omega)), fun q => ⟨rfl, rfl⟩⟩
set_option maxHeartbeats 4000000 in
set_option maxRecDepth 100000 in
theorem D_X9_yarn {g : z_G} {h0 : z_H} {A : Nat → Nat} (hM : mD A) {Rf Nw Th Tp Tx Kd Ia It Lk Ho Sz Im Mv : Nat → Int} {kp ln sz at_ we pa de ti lf md mn hi ha is_ ca : Int} {G : Nat → z_G4} (hwf : nWf Nw G) : z_D g mX9_yarn 3 0 0 [z_r (A 0)] (MH h0 A Rf Nw Th Tp Tx Kd Ia It Lk Ho Sz Im Mv kp ln sz at_ we pa de ti lf md mn hi ha is_ ca) (z_Pl (yS Nw (Nw 5025).toNat) (MH h0 A Rf Nw Th Tp Tx Kd Ia It Lk Ho Sz Im Mv kp ln sz at_ we pa de ti lf md mn hi ha is_ ca)) := by
  refine z_D.of (by decide +kernel) (Nat.le_of_ble_eq_true rfl) (fun X F => ?_)
  obtain ⟨w1, w2, w3, w4, w5, w6, w7⟩ := hwf
  show z_w g X cX9_yarn RX9 (3, 0, 0) 0 [z_r (A 0), z_u, z_u, z_u] [] (MH h0 A Rf Nw Th Tp Tx Kd Ia It Lk Ho Sz Im Mv kp ln sz at_ we pa de ti lf md mn hi ha is_ ca) 0 0
  refine z_lconst0 dX9_yarn_0 ?_
  refine z_lstore_n dX9_yarn_1 (Nat.le_of_ble_eq_true rfl) rfl ?_
  refine z_iconst dX9_yarn_2 ?_
  refine z_istore_n dX9_yarn_3 (Nat.le_of_ble_eq_true rfl) rfl ?_
  have L4 : ∀ (fu : Nat) (r : Nat) (q1 : (r : Int) ≤ Nw 5025), 51 - r < fu → z_w g X cX9_yarn RX9 (3, 0, 0) 4 [z_r (A 0), z_l (yS Nw r), z_u, z_i (r : Int)] [] (MH h0 A Rf Nw Th Tp Tx Kd Ia It Lk Ho Sz Im Mv kp ln sz at_ we pa de ti lf md mn hi ha is_ ca) 0 0 := by
    intro fu
    induction fu with
    | zero => intro r q1 hm; exact absurd hm (Nat.not_lt_zero _)
    | succ fu ih =>
      intro r q1 hm
      refine z_iload_n dX9_yarn_4 rfl ?_
      refine z_aload_n dX9_yarn_5 rfl ?_
      refine gf_X9_13 dX9_yarn_6 MH_0 rfl ?_
      refine z_sipush dX9_yarn_9 rfl ?_
      refine z_ialdN (m := 5025) dX9_yarn_12 (MH_2 hM) rfl ⟨by decide, by decide⟩ ?_
      refine z_icmp_ge dX9_yarn_13 (tgt := 37) rfl ⟨by omega, by omega⟩ ⟨by omega, by omega⟩ (fun c1 => ?_) (fun c1 => ?_)
      · skip
        have hr : (Nw 5025).toNat = r := by omega
        refine z_lload_n dX9_yarn_37 rfl ?_
        exact z_lret F dX9_yarn_38 rfl (by decide) ⟨by rw [hr], rfl⟩
      · skip
        have hW := (w7 r (by omega)).1
        have hy := sG_Yin (f := kR Nw r) hW.2.2.1
        refine z_lload_n dX9_yarn_16 rfl ?_
        refine z_aload_n dX9_yarn_17 rfl ?_
        refine z_iload_n dX9_yarn_18 rfl ?_
        refine z_aload_n dX9_yarn_19 rfl ?_
        refine z_iload_n dX9_yarn_20 rfl ?_
        refine cs_X9_220 dX9_yarn_21 (D_X9_sizeOf hM hW) MH_0 rfl rfl (Nat.le_of_ble_eq_true rfl) (by decide) (z_ki ?_)
        refine z_iconst dX9_yarn_24 ?_
        refine cs_X9_223 dX9_yarn_25 (D_X9_counted hM hW (Nat.le_refl _) (T := kY) (Or.inr (Or.inr ⟨rfl, rfl⟩))) MH_0 rfl rfl (Nat.le_of_ble_eq_true rfl) (by decide) (z_ki ?_)
        refine z_i2l dX9_yarn_28 ⟨by omega, by omega⟩ ?_
        refine z_ladd dX9_yarn_29 ?_
        refine z_lstore_n dX9_yarn_30 (Nat.le_of_ble_eq_true rfl) rfl ?_
        refine z_iinc dX9_yarn_31 rfl rfl ?_
        refine z_goto dX9_yarn_34 (tgt := 4) rfl ?_
        exact ih (r + 1) (by omega) (by omega)
  exact L4 52 0 (by omega) (by omega)
theorem z_lseq {g : z_G} {X : z_X} {cc : ByteArray} {own : String} {r : Nat × Nat × Nat} {pc k n : Nat} {ls ls2 st : List z_V} {h : z_H} (e : ls = ls2) (kk : z_w g X cc own r pc ls2 st h k n) : z_w g X cc own r pc ls st h k n := by
  rw [e]
  exact kk
set_option maxHeartbeats 4000000 in
set_option maxRecDepth 100000 in
theorem D_X9_many {g : z_G} {h0 : z_H} {A : Nat → Nat} (hM : mD A) {Rf Nw Th Tp Tx Kd Ia It Lk Ho Sz Im Mv : Nat → Int} {kp ln sz at_ we pa de ti lf md mn hi ha is_ ca : Int} {G : Nat → z_G4} (hwf : nWf Nw G) {t : Int} (ht : z_in t) : z_D g mX9_many 3 0 0 [z_r (A 0), z_i t] (MH h0 A Rf Nw Th Tp Tx Kd Ia It Lk Ho Sz Im Mv kp ln sz at_ we pa de ti lf md mn hi ha is_ ca) (fun rv h' => (0 ≤ t ∧ t ≤ 12 → rv = some (z_i (mS Nw t (Nw 5025).toNat)) ∧ h' = (MH h0 A Rf Nw Th Tp Tx Kd Ia It Lk Ho Sz Im Mv kp ln sz at_ we pa de ti lf md mn hi ha is_ ca)) ∧ (¬ (0 ≤ t ∧ t ≤ 12) → rv = some (z_i (-92)) ∧ h' = (MH h0 A (z_sf Rf 0 (Rf 0 + 1)) Nw Th Tp Tx Kd Ia It Lk Ho Sz Im Mv kp ln sz at_ we pa de ti lf md mn hi ha is_ ca))) := by
  refine z_D.of (by decide +kernel) (Nat.le_of_ble_eq_true rfl) (fun X F => ?_)
  obtain ⟨w1, w2, w3, w4, w5, w6, w7⟩ := hwf
  show z_w g X cX9_many RX9 (3, 0, 0) 0 [z_r (A 0), z_i t, z_u, z_u, z_u] [] (MH h0 A Rf Nw Th Tp Tx Kd Ia It Lk Ho Sz Im Mv kp ln sz at_ we pa de ti lf md mn hi ha is_ ca) 0 0
  refine z_iload_n dX9_many_0 rfl ?_
  refine z_i2l dX9_many_1 ⟨by omega, by omega⟩ ?_
  refine z_lconst0 dX9_many_2 ?_
  refine z_ldc2 dX9_many_3 lw_X9_246 ?_
  refine cs_X9_56 dX9_many_6 (D_X9_isIn (v := t) (lo := 0) (hi := 12) ⟨by omega, by omega⟩ (by decide) (by decide)) rfl rfl (Nat.le_of_ble_eq_true rfl) (by decide) (z_ki ?_)
  refine z_if_ne dX9_many_9 (tgt := 19) rfl ⟨by split <;> omega, by split <;> omega⟩ (fun c1 => ?_) (fun c1 => ?_)
  · skip
    refine z_iconst dX9_many_19 ?_
    refine z_istore_n dX9_many_20 (Nat.le_of_ble_eq_true rfl) rfl ?_
    refine z_iconst dX9_many_21 ?_
    refine z_istore_n dX9_many_22 (Nat.le_of_ble_eq_true rfl) rfl ?_
    have L4 : ∀ (fu : Nat) (r : Nat) (y4 : z_V) (q1 : (r : Int) ≤ Nw 5025), 51 - r < fu → z_w g X cX9_many RX9 (3, 0, 0) 23 [z_r (A 0), z_i t, z_i (mS Nw t r), z_i (r : Int), y4] [] (MH h0 A Rf Nw Th Tp Tx Kd Ia It Lk Ho Sz Im Mv kp ln sz at_ we pa de ti lf md mn hi ha is_ ca) 0 0 := by
      intro fu
      induction fu with
      | zero => intro r y4 q1 hm; exact absurd hm (Nat.not_lt_zero _)
      | succ fu ih =>
        intro r y4 q1 hm
        refine z_iload_n dX9_many_23 rfl ?_
        refine z_aload_n dX9_many_24 rfl ?_
        refine gf_X9_13 dX9_many_25 MH_0 rfl ?_
        refine z_sipush dX9_many_28 rfl ?_
        refine z_ialdN (m := 5025) dX9_many_31 (MH_2 hM) rfl ⟨by decide, by decide⟩ ?_
        refine z_icmp_ge dX9_many_32 (tgt := 82) rfl ⟨by omega, by omega⟩ ⟨by omega, by omega⟩ (fun c2 => ?_) (fun c2 => ?_)
        · skip
          have hr : (Nw 5025).toNat = r := by omega
          refine z_iload_n dX9_many_82 rfl ?_
          exact z_iret F dX9_many_83 rfl (by decide) ⟨fun q => ⟨congrArg (fun z => some (z_i z)) (by rw [hr]), rfl⟩, fun q => absurd (by omega) q⟩
        · skip
          have hW := (w7 r (by omega)).1
          have hz200 := hW.2.2.1
          refine z_iconst dX9_many_35 ?_
          refine z_istore dX9_many_36 (Nat.le_of_ble_eq_true rfl) rfl ?_
          refine z_lseq (ls2 := [z_r (A 0), z_i t, z_i (mS Nw t r + sG (fun q => kUn q t) (kR Nw r) 0), z_i (r : Int), z_i ((0 : Nat) : Int)]) ?_ ?_
          · rw [show sG (fun q => kUn q t) (kR Nw r) 0 = 0 from rfl, Int.add_zero]; rfl
          have L5 : ∀ (fu : Nat) (k : Nat) (p1 : k ≤ zF Nw r), zF Nw r - k < fu → z_w g X cX9_many RX9 (3, 0, 0) 38 [z_r (A 0), z_i t, z_i (mS Nw t r + sG (fun q => kUn q t) (kR Nw r) k), z_i (r : Int), z_i (k : Int)] [] (MH h0 A Rf Nw Th Tp Tx Kd Ia It Lk Ho Sz Im Mv kp ln sz at_ we pa de ti lf md mn hi ha is_ ca) 0 0 := by
            intro fu
            induction fu with
            | zero => intro k p1 hm; exact absurd hm (Nat.not_lt_zero _)
            | succ fu2 ih2 =>
              intro k p1 hm
              refine z_iload dX9_many_38 rfl ?_
              refine z_aload_n dX9_many_40 rfl ?_
              refine z_iload_n dX9_many_41 rfl ?_
              refine cs_X9_220 dX9_many_42 (D_X9_sizeOf hM hW) MH_0 rfl rfl (Nat.le_of_ble_eq_true rfl) (by decide) (z_ki ?_)
              refine z_icmp_ge dX9_many_45 (tgt := 76) rfl ⟨by omega, by omega⟩ ⟨by omega, by omega⟩ (fun c3 => ?_) (fun c3 => ?_)
              · skip
                obtain rfl : k = zF Nw r := by omega
                refine z_iinc dX9_many_76 rfl rfl ?_
                refine z_goto dX9_many_79 (tgt := 23) rfl ?_
                exact ih (r + 1) _ (by omega) (by omega)
              · skip
                have hk : kOk (kR Nw r k) := hW.2.2.2 k (by omega)
                have hu := kUn_01 (kR Nw r k) t
                refine z_iload_n dX9_many_48 rfl ?_
                refine z_aload_n dX9_many_49 rfl ?_
                refine z_iload_n dX9_many_50 rfl ?_
                refine z_iload dX9_many_51 rfl ?_
                refine cs_X9_212 dX9_many_53 (D_X9_kind hM hW (i := k) (by omega)) MH_0 rfl rfl (Nat.le_of_ble_eq_true rfl) (by decide) (z_ki ?_)
                refine z_iload_n dX9_many_56 rfl ?_
                refine cs_X9_248 dX9_many_57 (D_X9_isUnder (kOk_in hk) ht) rfl rfl (Nat.le_of_ble_eq_true rfl) (by decide) (z_ki ?_)
                refine z_if_eq dX9_many_60 (tgt := 67) rfl ⟨by omega, by omega⟩ (fun c4 => ?_) (fun c4 => ?_)
                · skip
                  refine z_iconst dX9_many_67 ?_
                  refine z_ieq (y := kUn (kR Nw r k) t) (by omega) ?_
                  refine z_iadd dX9_many_68 ?_
                  refine z_ieq (y := mS Nw t r + sG (fun q => kUn q t) (kR Nw r) (k + 1)) (by rw [sG_s]; omega) ?_
                  refine z_istore_n dX9_many_69 (Nat.le_of_ble_eq_true rfl) rfl ?_
                  refine z_iinc dX9_many_70 rfl rfl ?_
                  refine z_goto dX9_many_73 (tgt := 38) rfl ?_
                  exact ih2 (k + 1) (by omega) (by omega)
                · skip
                  refine z_iconst dX9_many_63 ?_
                  refine z_goto dX9_many_64 (tgt := 68) rfl ?_
                  refine z_ieq (y := kUn (kR Nw r k) t) (by omega) ?_
                  refine z_iadd dX9_many_68 ?_
                  refine z_ieq (y := mS Nw t r + sG (fun q => kUn q t) (kR Nw r) (k + 1)) (by rw [sG_s]; omega) ?_
                  refine z_istore_n dX9_many_69 (Nat.le_of_ble_eq_true rfl) rfl ?_
                  refine z_iinc dX9_many_70 rfl rfl ?_
                  refine z_goto dX9_many_73 (tgt := 38) rfl ?_
                  exact ih2 (k + 1) (by omega) (by omega)
          exact L5 (zF Nw r + 1) 0 (Nat.zero_le _) (by omega)
    exact L4 52 0 z_u (by omega) (by omega)
  · skip
    refine z_aload_n dX9_many_12 rfl ?_
    refine z_bipush dX9_many_13 rfl ?_
    refine cs_X9_60 dX9_many_15 (D_X9_ref0 hM) MH_0 rfl rfl (Nat.le_of_ble_eq_true rfl) (by decide) (z_ki ?_)
    exact z_iret F dX9_many_18 rfl (by decide) ⟨fun q => absurd q (fun q => by omega), fun q => ⟨rfl, rfl⟩⟩
set_option maxHeartbeats 4000000 in
set_option maxRecDepth 100000 in
theorem D_X9_differ {g : z_G} {h0 : z_H} {A : Nat → Nat} (hM : mD A) {Rf Nw Th Tp Tx Kd Ia It Lk Ho Sz Im Mv : Nat → Int} {kp ln sz at_ we pa de ti lf md mn hi ha is_ ca : Int} {G : Nat → z_G4} (hwf : nWf Nw G) {wk vk : Int} (hwk : z_in wk) (hvk : z_in vk) : z_D g mX9_differ 4 0 0 [z_r (A 0), z_i wk, z_i vk] (MH h0 A Rf Nw Th Tp Tx Kd Ia It Lk Ho Sz Im Mv kp ln sz at_ we pa de ti lf md mn hi ha is_ ca) (fun rv h' => (isW Nw wk ∧ isW Nw vk → rv = some (z_i (dfG (fun c => cH (Nw (5026 + 204 * wk.toNat)) (zF Nw wk.toNat : Int) (kR Nw wk.toNat) c) (fun c => cH (Nw (5026 + 204 * vk.toNat)) (zF Nw vk.toNat : Int) (kR Nw vk.toNat) c) (max (zF Nw wk.toNat) (zF Nw vk.toNat)) 0)) ∧ h' = (MH h0 A Rf Nw Th Tp Tx Kd Ia It Lk Ho Sz Im Mv kp ln sz at_ we pa de ti lf md mn hi ha is_ ca)) ∧ (¬ (isW Nw wk ∧ isW Nw vk) → rv = some (z_i (-92)) ∧ h' = (MH h0 A (z_sf Rf 0 (Rf 0 + 1)) Nw Th Tp Tx Kd Ia It Lk Ho Sz Im Mv kp ln sz at_ we pa de ti lf md mn hi ha is_ ca))) := by
  refine z_D.of (by decide +kernel) (Nat.le_of_ble_eq_true rfl) (fun X F => ?_)
  obtain ⟨w1, w2, w3, w4, w5, w6, w7⟩ := hwf
  show z_w g X cX9_differ RX9 (4, 0, 0) 0 [z_r (A 0), z_i wk, z_i vk, z_u, z_u] [] (MH h0 A Rf Nw Th Tp Tx Kd Ia It Lk Ho Sz Im Mv kp ln sz at_ we pa de ti lf md mn hi ha is_ ca) 0 0
  refine z_aload_n dX9_differ_0 rfl ?_
  refine z_iload_n dX9_differ_1 rfl ?_
  refine cs_X9_215 dX9_differ_2 (D_X9_isWorked hM (i := wk) ⟨by omega, by omega⟩ ⟨by omega, by omega⟩) MH_0 rfl rfl (Nat.le_of_ble_eq_true rfl) (by decide) (z_ki ?_)
  refine z_if_eq dX9_differ_5 (tgt := 16) rfl ⟨by split <;> omega, by split <;> omega⟩ (fun c1 => ?_) (fun c1 => ?_)
  · skip
    refine z_aload_n dX9_differ_16 rfl ?_
    refine z_bipush dX9_differ_17 rfl ?_
    refine cs_X9_60 dX9_differ_19 (D_X9_ref0 hM) MH_0 rfl rfl (Nat.le_of_ble_eq_true rfl) (by decide) (z_ki ?_)
    exact z_iret F dX9_differ_22 rfl (by decide) ⟨fun q => absurd q (fun q => by omega), fun q => ⟨rfl, rfl⟩⟩
  · skip
    refine z_aload_n dX9_differ_8 rfl ?_
    refine z_iload_n dX9_differ_9 rfl ?_
    refine cs_X9_215 dX9_differ_10 (D_X9_isWorked hM (i := vk) ⟨by omega, by omega⟩ ⟨by omega, by omega⟩) MH_0 rfl rfl (Nat.le_of_ble_eq_true rfl) (by decide) (z_ki ?_)
    refine z_if_ne dX9_differ_13 (tgt := 23) rfl ⟨by split <;> omega, by split <;> omega⟩ (fun c2 => ?_) (fun c2 => ?_)
    · skip
      obtain ⟨w, rfl⟩ : ∃ y : Nat, wk = (y : Int) := ⟨wk.toNat, by omega⟩
      have hRw := w7 w (by omega)
      have hWw := hRw.1
      have hz200w := hWw.2.2.1
      have hw50w := hWw.1
      obtain ⟨v, rfl⟩ : ∃ y : Nat, vk = (y : Int) := ⟨vk.toNat, by omega⟩
      have hRv := w7 v (by omega)
      have hWv := hRv.1
      have hz200v := hWv.2.2.1
      have hw50v := hWv.1
      refine z_aload_n dX9_differ_23 rfl ?_
      refine z_iload_n dX9_differ_24 rfl ?_
      refine cs_X9_220 dX9_differ_25 (D_X9_sizeOf hM hWw) MH_0 rfl rfl (Nat.le_of_ble_eq_true rfl) (by decide) (z_ki ?_)
      refine z_aload_n dX9_differ_28 rfl ?_
      refine z_iload_n dX9_differ_29 rfl ?_
      refine cs_X9_220 dX9_differ_30 (D_X9_sizeOf hM hWv) MH_0 rfl rfl (Nat.le_of_ble_eq_true rfl) (by decide) (z_ki ?_)
      refine mm_X9_103 dX9_differ_33 ⟨by omega, by omega⟩ ⟨by omega, by omega⟩ (by decide) (Nat.le_of_ble_eq_true rfl) ?_
      refine z_ieq (y := ((max (zF Nw w) (zF Nw v) : Nat) : Int)) z_mx ?_
      refine z_istore_n dX9_differ_36 (Nat.le_of_ble_eq_true rfl) rfl ?_
      refine z_iconst dX9_differ_37 ?_
      refine z_istore dX9_differ_38 (Nat.le_of_ble_eq_true rfl) rfl ?_
      have L4 : ∀ (fu : Nat) (k rem : Nat) (q1 : k + rem = max (zF Nw w) (zF Nw v)) (q2 : dfG (fun c => cH (Nw (5026 + 204 * w)) (zF Nw w : Int) (kR Nw w) c) (fun c => cH (Nw (5026 + 204 * v)) (zF Nw v : Int) (kR Nw v) c) (max (zF Nw w) (zF Nw v)) 0 = dfG (fun c => cH (Nw (5026 + 204 * w)) (zF Nw w : Int) (kR Nw w) c) (fun c => cH (Nw (5026 + 204 * v)) (zF Nw v : Int) (kR Nw v) c) rem k), rem < fu → z_w g X cX9_differ RX9 (4, 0, 0) 40 [z_r (A 0), z_i (w : Int), z_i (v : Int), z_i ((max (zF Nw w) (zF Nw v) : Nat) : Int), z_i (k : Int)] [] (MH h0 A Rf Nw Th Tp Tx Kd Ia It Lk Ho Sz Im Mv kp ln sz at_ we pa de ti lf md mn hi ha is_ ca) 0 0 := by
        intro fu
        induction fu with
        | zero => intro k rem q1 q2 hm; exact absurd hm (Nat.not_lt_zero _)
        | succ fu ih =>
          intro k rem q1 q2 hm
          refine z_iload dX9_differ_40 rfl ?_
          refine z_iload_n dX9_differ_42 rfl ?_
          refine z_icmp_ge dX9_differ_43 (tgt := 72) rfl ⟨by omega, by omega⟩ ⟨by omega, by omega⟩ (fun c3 => ?_) (fun c3 => ?_)
          · skip
            obtain rfl : rem = 0 := by omega
            refine z_iconst dX9_differ_72 ?_
            exact z_iret F dX9_differ_73 rfl (by decide) ⟨fun q => ⟨congrArg (fun z => some (z_i z)) (q2.symm), rfl⟩, fun q => absurd (by omega) q⟩
          · skip
            obtain ⟨rem', rfl⟩ : ∃ y, rem = y + 1 := ⟨rem - 1, by omega⟩
            refine z_aload_n dX9_differ_46 rfl ?_
            refine z_iload_n dX9_differ_47 rfl ?_
            refine z_iload dX9_differ_48 rfl ?_
            refine cs_X9_230 dX9_differ_50 (D_X9_charted hM hWw (sd := Nw (5026 + 204 * w)) rfl (by have := hRw.2.1; exact ⟨by omega, by omega⟩) (i := (k : Int)) ⟨by omega, by omega⟩) MH_0 rfl rfl (Nat.le_of_ble_eq_true rfl) (by decide) (z_ki ?_)
            refine z_aload_n dX9_differ_53 rfl ?_
            refine z_iload_n dX9_differ_54 rfl ?_
            refine z_iload dX9_differ_55 rfl ?_
            refine cs_X9_230 dX9_differ_57 (D_X9_charted hM hWv (sd := Nw (5026 + 204 * v)) rfl (by have := hRv.2.1; exact ⟨by omega, by omega⟩) (i := (k : Int)) ⟨by omega, by omega⟩) MH_0 rfl rfl (Nat.le_of_ble_eq_true rfl) (by decide) (z_ki ?_)
            refine z_icmp_eq dX9_differ_60 (tgt := 66) rfl (cH_in hWw.f) (cH_in hWv.f) (fun c4 => ?_) (fun c4 => ?_)
            · skip
              have hE : dfG (fun c => cH (Nw (5026 + 204 * w)) (zF Nw w : Int) (kR Nw w) c) (fun c => cH (Nw (5026 + 204 * v)) (zF Nw v : Int) (kR Nw v) c) (rem' + 1) k = dfG (fun c => cH (Nw (5026 + 204 * w)) (zF Nw w : Int) (kR Nw w) c) (fun c => cH (Nw (5026 + 204 * v)) (zF Nw v : Int) (kR Nw v) c) rem' (k + 1) := if_neg (fun q => q c4)
              refine z_iinc dX9_differ_66 rfl rfl ?_
              refine z_goto dX9_differ_69 (tgt := 40) rfl ?_
              exact ih (k + 1) rem' (by omega) (q2.trans hE) (by omega)
            · skip
              have hE : dfG (fun c => cH (Nw (5026 + 204 * w)) (zF Nw w : Int) (kR Nw w) c) (fun c => cH (Nw (5026 + 204 * v)) (zF Nw v : Int) (kR Nw v) c) (rem' + 1) k = (k : Int) := if_pos c4
              refine z_iload dX9_differ_63 rfl ?_
              exact z_iret F dX9_differ_65 rfl (by decide) ⟨fun q => ⟨congrArg (fun z => some (z_i z)) ((q2.trans hE).symm), rfl⟩, fun q => absurd (by omega) q⟩
      exact L4 (max (zF Nw w) (zF Nw v) + 1) 0 _ (by omega) rfl (by omega)
    · skip
      refine z_aload_n dX9_differ_16 rfl ?_
      refine z_bipush dX9_differ_17 rfl ?_
      refine cs_X9_60 dX9_differ_19 (D_X9_ref0 hM) MH_0 rfl rfl (Nat.le_of_ble_eq_true rfl) (by decide) (z_ki ?_)
      exact z_iret F dX9_differ_22 rfl (by decide) ⟨fun q => absurd q (fun q => by omega), fun q => ⟨rfl, rfl⟩⟩
