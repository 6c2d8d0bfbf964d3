/-! Pass: groups and parts -/
def PW (g : z_G) (h0 : z_H) (x c k o v a n : Nat) (t ls lp ln le : z_row) (d : Nat) : Prop := ∀ (w p e s e2 : Nat) (q : wkT), w + d = 6 → sgP n t ls lp ln le d p e s e2 → e ≤ n → wkO q →
  z_D g mX4_workParts (2 * d + 1) 0 0 [z_r x, z_r a, z_i (p : Int), z_i (e : Int), z_i (w : Int)] (PH h0 x c k o v q) (z_Pv (PH h0 x c k o v (wkD ls lp ln le d w p e q)))
set_option maxHeartbeats 2000000 in
set_option maxRecDepth 100000 in
theorem D_X4_workTimes {g : z_G} {h0 : z_H} {x c k o v : Nat} (hD : pD x c k o v) {f fp ft : z_row} {z l m hi pl wi : Int} {a b s p u e n : Nat} {t ls lp ln le : z_row} {P d tl i fl : Int} (hL : ∀ q, oLi (PH h0 x c k o v q) a b s p u e n t ls lp ln le P d tl i fl) (hO : wkO (f, fp, ft, z, l, m, hi, pl, wi)) {d w p E s e2 : Nat} (hPW : PW g h0 x c k o v a n t ls lp ln le d) (hwd : w + 1 + d = 6) (hd : 0 < d) (hsg : sgP n t ls lp ln le d (p + 1) E s e2) (hp : p < n) (hE : E ≤ n) (hle : le p = (E : Int)) (hlp : 0 ≤ lp p ∧ lp p ≤ 250) (hln : 0 ≤ ln p ∧ ln p ≤ 60) : z_D g mX4_workTimes (2 * d + 2) 0 0 [z_r x, z_r a, z_i (p : Int), z_i (w : Int)] (PH h0 x c k o v (f, fp, ft, z, l, m, hi, pl, wi)) (z_Pv (PH h0 x c k o v (wkM (wkD ls lp ln le d (w + 1) (p + 1) E) (lp p) w (ln p).toNat 1 (f, fp, ft, z, l, m, hi, pl, wi)))) := by
  refine z_D.of (by decide +kernel) (Nat.le_of_ble_eq_true rfl) (fun X F => ?_)
  have hn250 : n ≤ 250 := (hL (f, fp, ft, z, l, m, hi, pl, wi)).2.2.2.2.2.2.1
  obtain ⟨N, hN⟩ : ∃ N : Nat, ln p = (N : Int) := ⟨(ln p).toNat, by omega⟩
  show z_w g X cX4_workTimes RX4 (2 * d + 2, 0, 0) 0 [z_r x, z_r a, z_i (p : Int), z_i (w : Int), z_u, z_u, z_u] [] (PH h0 x c k o v (f, fp, ft, z, l, m, hi, pl, wi)) 0 0
  refine z_aload_n dX4_workTimes_0 rfl ?_
  refine z_iload_n dX4_workTimes_1 rfl ?_
  refine cs_X4_87 dX4_workTimes_2 (D_X3_numberOf_in (hL _) hp) (hL _).1 rfl rfl (Nat.le_of_ble_eq_true rfl) ⟨(show 1 + 1 ≤ 2 * d + 2 by omega), by exact Nat.le_refl 0, by exact Nat.le_refl 0⟩ (z_ki ?_)
  refine z_istore dX4_workTimes_5 (Nat.le_of_ble_eq_true rfl) rfl ?_
  refine z_iconst dX4_workTimes_7 ?_
  refine z_istore dX4_workTimes_8 (Nat.le_of_ble_eq_true rfl) rfl ?_
  have L4 : ∀ (fu : Nat) (r rem : Nat) (f2 fp2 ft2 : z_row) (z2 l2 m2 hi2 pl2 wi2 : Int) (y6 : z_V) (q1 : r + rem = N) (hO2 : wkO (f2, fp2, ft2, z2, l2, m2, hi2, pl2, wi2)) (q3 : wkM (wkD ls lp ln le d (w + 1) (p + 1) E) (lp p) w N 1 (f, fp, ft, z, l, m, hi, pl, wi) = wkM (wkD ls lp ln le d (w + 1) (p + 1) E) (lp p) w rem ((r : Int) + 1) (f2, fp2, ft2, z2, l2, m2, hi2, pl2, wi2)), rem < fu → z_w g X cX4_workTimes RX4 (2 * d + 2, 0, 0) 10 [z_r x, z_r a, z_i (p : Int), z_i (w : Int), z_i (ln p), z_i ((r : Int) + 1), y6] [] (PH h0 x c k o v (f2, fp2, ft2, z2, l2, m2, hi2, pl2, wi2)) 0 0 := by
    intro fu
    induction fu with
    | zero => intro r rem f2 fp2 ft2 z2 l2 m2 hi2 pl2 wi2 y6 q1 hO2 q3 hm; exact absurd hm (Nat.not_lt_zero _)
    | succ fu ih =>
      intro r rem f2 fp2 ft2 z2 l2 m2 hi2 pl2 wi2 y6 q1 hO2 q3 hm
      refine z_iload dX4_workTimes_10 rfl ?_
      refine z_iload dX4_workTimes_12 rfl ?_
      refine z_icmp_gt dX4_workTimes_14 (tgt := 80) rfl ⟨by omega, by omega⟩ ⟨by omega, by omega⟩ (fun c1 => ?_) (fun c1 => ?_)
      · skip
        obtain rfl : rem = 0 := by omega
        exact z_vret F dX4_workTimes_80 rfl ⟨Nat.le_refl 0, Nat.le_refl 0⟩ ⟨rfl, by rw [show (ln p).toNat = N by omega, q3]; rfl⟩
      · skip
        obtain ⟨rem', rfl⟩ : ∃ y, rem = y + 1 := ⟨rem - 1, by omega⟩
        refine z_aload_n dX4_workTimes_17 rfl ?_
        refine gf_X4_12 dX4_workTimes_18 PHx rfl ?_
        refine gf_X4_53 dX4_workTimes_21 (PHc hD) rfl ?_
        refine z_istore dX4_workTimes_24 (Nat.le_of_ble_eq_true rfl) rfl ?_
        refine z_aload_n dX4_workTimes_26 rfl ?_
        refine z_aload_n dX4_workTimes_27 rfl ?_
        refine z_iload_n dX4_workTimes_28 rfl ?_
        refine cs_X4_90 dX4_workTimes_29 (D_X3_placeOf_in (hL _) hp) (hL _).1 rfl rfl (Nat.le_of_ble_eq_true rfl) ⟨(show 1 + 1 ≤ 2 * d + 2 by omega), by exact Nat.le_refl 0, by exact Nat.le_refl 0⟩ (z_ki ?_)
        refine z_iload dX4_workTimes_32 rfl ?_
        refine z_iload_n dX4_workTimes_34 rfl ?_
        refine cs_X4_93 dX4_workTimes_35 (D_X4_enter hD (w := w) (by omega)) PHx rfl rfl (Nat.le_of_ble_eq_true rfl) ⟨(show 1 + 1 ≤ 2 * d + 2 by omega), by exact Nat.le_refl 0, by exact Nat.le_refl 0⟩ (z_kv ?_)
        refine z_aload_n dX4_workTimes_38 rfl ?_
        refine z_aload_n dX4_workTimes_39 rfl ?_
        refine z_iload_n dX4_workTimes_40 rfl ?_
        refine z_iconst dX4_workTimes_41 ?_
        refine z_iadd dX4_workTimes_42 ?_
        refine z_aload_n dX4_workTimes_43 rfl ?_
        refine z_iload_n dX4_workTimes_44 rfl ?_
        refine cs_X4_78 dX4_workTimes_45 (hle ▸ D_X3_endOf_in (hL _) hp) (hL _).1 rfl rfl (Nat.le_of_ble_eq_true rfl) ⟨(show 1 + 1 ≤ 2 * d + 2 by omega), by exact Nat.le_refl 0, by exact Nat.le_refl 0⟩ (z_ki ?_)
        refine z_iload_n dX4_workTimes_48 rfl ?_
        refine z_iconst dX4_workTimes_49 ?_
        refine z_iadd dX4_workTimes_50 ?_
        refine cs_X4_42 dX4_workTimes_51 (hPW (w + 1) (p + 1) E s e2 _ hwd hsg hE (wkE_O hO2)) PHx rfl rfl (Nat.le_of_ble_eq_true rfl) ⟨(show (2 * d + 1) + 1 ≤ 2 * d + 2 by omega), by exact Nat.le_refl 0, by exact Nat.le_refl 0⟩ (z_kv ?_)
        obtain ⟨B, hB⟩ : ∃ B, B = wkD ls lp ln le d (w + 1) (p + 1) E (wkE (lp p) ((r : Int) + 1) w (f2, fp2, ft2, z2, l2, m2, hi2, pl2, wi2)) := ⟨_, rfl⟩
        have hBO : wkO B := by rw [hB]; exact wkD_O hn250 d (w + 1) (p + 1) E _ _ hwd hsg _ (wkE_O hO2)
        refine z_heq (congrArg _ hB.symm) ?_
        obtain ⟨f3, fp3, ft3, z3, l3, m3, hi3, pl3, wi3⟩ := B
        have hM : wkM (wkD ls lp ln le d (w + 1) (p + 1) E) (lp p) w (rem' + 1) ((r : Int) + 1) (f2, fp2, ft2, z2, l2, m2, hi2, pl2, wi2) = if k_h (f3, fp3, ft3, z3, l3, m3, hi3, pl3, wi3) ≠ 0 ∨ k_z (f3, fp3, ft3, z3, l3, m3, hi3, pl3, wi3) = k_z (f2, fp2, ft2, z2, l2, m2, hi2, pl2, wi2) then (f3, fp3, ft3, z3, l3, m3, hi3, pl3, wi3) else wkM (wkD ls lp ln le d (w + 1) (p + 1) E) (lp p) w rem' ((r : Int) + 1 + 1) (f3, fp3, ft3, z3, l3, m3, hi3, pl3, wi3) := by
          rw [hB]
          rfl
        have hi3b : 0 ≤ hi3 ∧ hi3 ≤ 7 := hBO.2.2.2.1
        have hz3b : 0 ≤ z3 ∧ z3 ≤ 200 := hBO.1
        have hz2b : 0 ≤ z2 ∧ z2 ≤ 200 := hO2.1
        refine z_aload_n dX4_workTimes_54 rfl ?_
        refine gf_X4_25 dX4_workTimes_55 PHx rfl ?_
        refine z_if_ne dX4_workTimes_58 (tgt := 73) rfl ⟨by omega, by omega⟩ (fun c2 => ?_) (fun c2 => ?_)
        · skip
          have y8 := c2
          exact z_vret F dX4_workTimes_73 rfl ⟨Nat.le_refl 0, Nat.le_refl 0⟩ ⟨rfl, by rw [show (ln p).toNat = N by omega, q3, hM, if_pos (Or.inl y8)]⟩
        · skip
          have y8 : ¬ hi3 ≠ 0 := fun q => q c2
          refine z_aload_n dX4_workTimes_61 rfl ?_
          refine gf_X4_12 dX4_workTimes_62 PHx rfl ?_
          refine gf_X4_53 dX4_workTimes_65 (PHc hD) rfl ?_
          refine z_iload dX4_workTimes_68 rfl ?_
          refine z_icmp_ne dX4_workTimes_70 (tgt := 74) rfl ⟨by omega, by omega⟩ ⟨by omega, by omega⟩ (fun c3 => ?_) (fun c3 => ?_)
          · skip
            have y9 : ¬ z3 = z2 := c3
            refine z_iinc dX4_workTimes_74 rfl rfl ?_
            refine z_goto dX4_workTimes_77 (tgt := 10) rfl ?_
            exact ih (r + 1) rem' f3 fp3 ft3 z3 l3 m3 hi3 pl3 wi3 (z_i z2) (by omega) hBO (q3.trans (hM.trans (if_neg (fun q => q.elim y8 y9)))) (by omega)
          · skip
            have y9 := c3
            exact z_vret F dX4_workTimes_73 rfl ⟨Nat.le_refl 0, Nat.le_refl 0⟩ ⟨rfl, by rw [show (ln p).toNat = N by omega, q3, hM, if_pos (Or.inr y9)]⟩
  exact L4 (N + 1) 0 N f fp ft z l m hi pl wi z_u (by omega) hO rfl (by omega)
set_option maxHeartbeats 2000000 in
set_option maxRecDepth 100000 in
theorem D_X4_workTill {g : z_G} {h0 : z_H} {x c k o v : Nat} (hD : pD x c k o v) {f fp ft : z_row} {z l m hi pl wi : Int} {a b s p u e n : Nat} {t ls lp ln le : z_row} {P d tl i fl : Int} (hL : ∀ q, oLi (PH h0 x c k o v q) a b s p u e n t ls lp ln le P d tl i fl) (hO : wkO (f, fp, ft, z, l, m, hi, pl, wi)) {d w p E s e2 : Nat} (hPW : PW g h0 x c k o v a n t ls lp ln le d) (hwd : w + 1 + d = 6) (hd : 0 < d) (hsg : sgP n t ls lp ln le d (p + 1) E s e2) (hp : p < n) (hE : E ≤ n) (hle : le p = (E : Int)) (hlp : 0 ≤ lp p ∧ lp p ≤ 250) (hln : 0 ≤ ln p ∧ ln p ≤ 60) : z_D g mX4_workTill (2 * d + 2) 0 0 [z_r x, z_r a, z_i (p : Int), z_i (w : Int)] (PH h0 x c k o v (f, fp, ft, z, l, m, hi, pl, wi)) (z_Pv (PH h0 x c k o v (wkL (wkD ls lp ln le d (w + 1) (p + 1) E) (ln p) (lp p) w 60 1 (f, fp, ft, z, l, m, hi, pl, wi)))) := by
  refine z_D.of (by decide +kernel) (Nat.le_of_ble_eq_true rfl) (fun X F => ?_)
  have hn250 : n ≤ 250 := (hL (f, fp, ft, z, l, m, hi, pl, wi)).2.2.2.2.2.2.1
  obtain ⟨N, hN⟩ : ∃ N : Nat, ln p = (N : Int) := ⟨(ln p).toNat, by omega⟩
  show z_w g X cX4_workTill RX4 (2 * d + 2, 0, 0) 0 [z_r x, z_r a, z_i (p : Int), z_i (w : Int), z_u, z_u, z_u] [] (PH h0 x c k o v (f, fp, ft, z, l, m, hi, pl, wi)) 0 0
  refine z_aload_n dX4_workTill_0 rfl ?_
  refine z_iload_n dX4_workTill_1 rfl ?_
  refine cs_X4_87 dX4_workTill_2 (D_X3_numberOf_in (hL _) hp) (hL _).1 rfl rfl (Nat.le_of_ble_eq_true rfl) ⟨(show 1 + 1 ≤ 2 * d + 2 by omega), by exact Nat.le_refl 0, by exact Nat.le_refl 0⟩ (z_ki ?_)
  refine z_istore dX4_workTill_5 (Nat.le_of_ble_eq_true rfl) rfl ?_
  refine z_iconst dX4_workTill_7 ?_
  refine z_istore dX4_workTill_8 (Nat.le_of_ble_eq_true rfl) rfl ?_
  have L4 : ∀ (fu : Nat) (r rem : Nat) (f2 fp2 ft2 : z_row) (z2 l2 m2 hi2 pl2 wi2 : Int) (y6 : z_V) (q1 : r + rem = 60) (hO2 : wkO (f2, fp2, ft2, z2, l2, m2, hi2, pl2, wi2)) (q3 : wkL (wkD ls lp ln le d (w + 1) (p + 1) E) (ln p) (lp p) w 60 1 (f, fp, ft, z, l, m, hi, pl, wi) = wkL (wkD ls lp ln le d (w + 1) (p + 1) E) (ln p) (lp p) w rem ((r : Int) + 1) (f2, fp2, ft2, z2, l2, m2, hi2, pl2, wi2)), rem < fu → z_w g X cX4_workTill RX4 (2 * d + 2, 0, 0) 10 [z_r x, z_r a, z_i (p : Int), z_i (w : Int), z_i (ln p), z_i ((r : Int) + 1), y6] [] (PH h0 x c k o v (f2, fp2, ft2, z2, l2, m2, hi2, pl2, wi2)) 0 0 := by
    intro fu
    induction fu with
    | zero => intro r rem f2 fp2 ft2 z2 l2 m2 hi2 pl2 wi2 y6 q1 hO2 q3 hm; exact absurd hm (Nat.not_lt_zero _)
    | succ fu ih =>
      intro r rem f2 fp2 ft2 z2 l2 m2 hi2 pl2 wi2 y6 q1 hO2 q3 hm
      refine z_iload dX4_workTill_10 rfl ?_
      refine z_bipush dX4_workTill_12 rfl ?_
      refine z_icmp_gt dX4_workTill_14 (tgt := 95) rfl ⟨by omega, by omega⟩ (by decide) (fun c1 => ?_) (fun c1 => ?_)
      · skip
        obtain rfl : rem = 0 := by omega
        have hl2b : 0 ≤ l2 ∧ l2 ≤ 60 := hO2.2.1
        have hM : wkL (wkD ls lp ln le d (w + 1) (p + 1) E) (ln p) (lp p) w 0 ((r : Int) + 1) (f2, fp2, ft2, z2, l2, m2, hi2, pl2, wi2) = if l2 < ln p then wkS 5 (lp p) w (f2, fp2, ft2, z2, l2, m2, hi2, pl2, wi2) else (f2, fp2, ft2, z2, l2, m2, hi2, pl2, wi2) := rfl
        refine z_aload_n dX4_workTill_95 rfl ?_
        refine gf_X4_46 dX4_workTill_96 PHx rfl ?_
        refine z_iload dX4_workTill_99 rfl ?_
        refine z_icmp_ge dX4_workTill_101 (tgt := 115) rfl ⟨by omega, by omega⟩ ⟨by omega, by omega⟩ (fun c2 => ?_) (fun c2 => ?_)
        · skip
          have y9 : ¬ l2 < ln p := by omega
          exact z_vret F dX4_workTill_115 rfl ⟨Nat.le_refl 0, Nat.le_refl 0⟩ ⟨rfl, by rw [q3, hM, if_neg y9] <;> rfl⟩
        · skip
          have y9 : l2 < ln p := by omega
          refine z_aload_n dX4_workTill_104 rfl ?_
          refine z_iconst dX4_workTill_105 ?_
          refine z_aload_n dX4_workTill_106 rfl ?_
          refine z_iload_n dX4_workTill_107 rfl ?_
          refine cs_X4_90 dX4_workTill_108 (D_X3_placeOf_in (hL _) hp) (hL _).1 rfl rfl (Nat.le_of_ble_eq_true rfl) ⟨(show 1 + 1 ≤ 2 * d + 2 by omega), by exact Nat.le_refl 0, by exact Nat.le_refl 0⟩ (z_ki ?_)
          refine z_iload_n dX4_workTill_111 rfl ?_
          refine cs_X4_33 dX4_workTill_112 (D_X4_stop hD) PHx rfl rfl (Nat.le_of_ble_eq_true rfl) ⟨(show 1 + 1 ≤ 2 * d + 2 by omega), by exact Nat.le_refl 0, by exact Nat.le_refl 0⟩ (z_kv ?_)
          exact z_vret F dX4_workTill_115 rfl ⟨Nat.le_refl 0, Nat.le_refl 0⟩ ⟨rfl, by rw [q3, hM, if_pos y9] <;> rfl⟩
      · skip
        obtain ⟨rem', rfl⟩ : ∃ y, rem = y + 1 := ⟨rem - 1, by omega⟩
        have hl2b : 0 ≤ l2 ∧ l2 ≤ 60 := hO2.2.1
        have hM0 : ¬ l2 > ln p → wkL (wkD ls lp ln le d (w + 1) (p + 1) E) (ln p) (lp p) w (rem' + 1) ((r : Int) + 1) (f2, fp2, ft2, z2, l2, m2, hi2, pl2, wi2) = if l2 < ln p then wkS 5 (lp p) w (f2, fp2, ft2, z2, l2, m2, hi2, pl2, wi2) else (f2, fp2, ft2, z2, l2, m2, hi2, pl2, wi2) := fun q => if_neg q
        refine z_aload_n dX4_workTill_17 rfl ?_
        refine gf_X4_46 dX4_workTill_18 PHx rfl ?_
        refine z_iload dX4_workTill_21 rfl ?_
        refine z_icmp_le dX4_workTill_23 (tgt := 95) rfl ⟨by omega, by omega⟩ ⟨by omega, by omega⟩ (fun c3 => ?_) (fun c3 => ?_)
        · skip
          have hM := hM0 (by omega)
          refine z_aload_n dX4_workTill_95 rfl ?_
          refine gf_X4_46 dX4_workTill_96 PHx rfl ?_
          refine z_iload dX4_workTill_99 rfl ?_
          refine z_icmp_ge dX4_workTill_101 (tgt := 115) rfl ⟨by omega, by omega⟩ ⟨by omega, by omega⟩ (fun c4 => ?_) (fun c4 => ?_)
          · skip
            have y9 : ¬ l2 < ln p := by omega
            exact z_vret F dX4_workTill_115 rfl ⟨Nat.le_refl 0, Nat.le_refl 0⟩ ⟨rfl, by rw [q3, hM, if_neg y9] <;> rfl⟩
          · skip
            have y9 : l2 < ln p := by omega
            refine z_aload_n dX4_workTill_104 rfl ?_
            refine z_iconst dX4_workTill_105 ?_
            refine z_aload_n dX4_workTill_106 rfl ?_
            refine z_iload_n dX4_workTill_107 rfl ?_
            refine cs_X4_90 dX4_workTill_108 (D_X3_placeOf_in (hL _) hp) (hL _).1 rfl rfl (Nat.le_of_ble_eq_true rfl) ⟨(show 1 + 1 ≤ 2 * d + 2 by omega), by exact Nat.le_refl 0, by exact Nat.le_refl 0⟩ (z_ki ?_)
            refine z_iload_n dX4_workTill_111 rfl ?_
            refine cs_X4_33 dX4_workTill_112 (D_X4_stop hD) PHx rfl rfl (Nat.le_of_ble_eq_true rfl) ⟨(show 1 + 1 ≤ 2 * d + 2 by omega), by exact Nat.le_refl 0, by exact Nat.le_refl 0⟩ (z_kv ?_)
            exact z_vret F dX4_workTill_115 rfl ⟨Nat.le_refl 0, Nat.le_refl 0⟩ ⟨rfl, by rw [q3, hM, if_pos y9] <;> rfl⟩
        · skip
          have y7 : l2 > ln p := by omega
          refine z_aload_n dX4_workTill_26 rfl ?_
          refine gf_X4_46 dX4_workTill_27 PHx rfl ?_
          refine z_istore dX4_workTill_30 (Nat.le_of_ble_eq_true rfl) rfl ?_
          refine z_aload_n dX4_workTill_32 rfl ?_
          refine z_aload_n dX4_workTill_33 rfl ?_
          refine z_iload_n dX4_workTill_34 rfl ?_
          refine cs_X4_90 dX4_workTill_35 (D_X3_placeOf_in (hL _) hp) (hL _).1 rfl rfl (Nat.le_of_ble_eq_true rfl) ⟨(show 1 + 1 ≤ 2 * d + 2 by omega), by exact Nat.le_refl 0, by exact Nat.le_refl 0⟩ (z_ki ?_)
          refine z_iload dX4_workTill_38 rfl ?_
          refine z_iload_n dX4_workTill_40 rfl ?_
          refine cs_X4_93 dX4_workTill_41 (D_X4_enter hD (w := w) (by omega)) PHx rfl rfl (Nat.le_of_ble_eq_true rfl) ⟨(show 1 + 1 ≤ 2 * d + 2 by omega), by exact Nat.le_refl 0, by exact Nat.le_refl 0⟩ (z_kv ?_)
          refine z_aload_n dX4_workTill_44 rfl ?_
          refine z_aload_n dX4_workTill_45 rfl ?_
          refine z_iload_n dX4_workTill_46 rfl ?_
          refine z_iconst dX4_workTill_47 ?_
          refine z_iadd dX4_workTill_48 ?_
          refine z_aload_n dX4_workTill_49 rfl ?_
          refine z_iload_n dX4_workTill_50 rfl ?_
          refine cs_X4_78 dX4_workTill_51 (hle ▸ D_X3_endOf_in (hL _) hp) (hL _).1 rfl rfl (Nat.le_of_ble_eq_true rfl) ⟨(show 1 + 1 ≤ 2 * d + 2 by omega), by exact Nat.le_refl 0, by exact Nat.le_refl 0⟩ (z_ki ?_)
          refine z_iload_n dX4_workTill_54 rfl ?_
          refine z_iconst dX4_workTill_55 ?_
          refine z_iadd dX4_workTill_56 ?_
          refine cs_X4_42 dX4_workTill_57 (hPW (w + 1) (p + 1) E s e2 _ hwd hsg hE (wkE_O hO2)) PHx rfl rfl (Nat.le_of_ble_eq_true rfl) ⟨(show (2 * d + 1) + 1 ≤ 2 * d + 2 by omega), by exact Nat.le_refl 0, by exact Nat.le_refl 0⟩ (z_kv ?_)
          obtain ⟨B, hB⟩ : ∃ B, B = wkD ls lp ln le d (w + 1) (p + 1) E (wkE (lp p) ((r : Int) + 1) w (f2, fp2, ft2, z2, l2, m2, hi2, pl2, wi2)) := ⟨_, rfl⟩
          have hBO : wkO B := by rw [hB]; exact wkD_O hn250 d (w + 1) (p + 1) E _ _ hwd hsg _ (wkE_O hO2)
          refine z_heq (congrArg _ hB.symm) ?_
          obtain ⟨f3, fp3, ft3, z3, l3, m3, hi3, pl3, wi3⟩ := B
          have hM : wkL (wkD ls lp ln le d (w + 1) (p + 1) E) (ln p) (lp p) w (rem' + 1) ((r : Int) + 1) (f2, fp2, ft2, z2, l2, m2, hi2, pl2, wi2) = if l2 > ln p then (if hi3 ≠ 0 then (f3, fp3, ft3, z3, l3, m3, hi3, pl3, wi3) else if l3 = l2 then wkS 4 (lp p) w (f3, fp3, ft3, z3, l3, m3, hi3, pl3, wi3) else wkL (wkD ls lp ln le d (w + 1) (p + 1) E) (ln p) (lp p) w rem' ((r : Int) + 1 + 1) (f3, fp3, ft3, z3, l3, m3, hi3, pl3, wi3)) else if l2 < ln p then wkS 5 (lp p) w (f2, fp2, ft2, z2, l2, m2, hi2, pl2, wi2) else (f2, fp2, ft2, z2, l2, m2, hi2, pl2, wi2) := by
            show (if l2 > ln p then (if k_h ((wkD ls lp ln le d (w + 1) (p + 1) E) (wkE (lp p) ((r : Int) + 1) w (f2, fp2, ft2, z2, l2, m2, hi2, pl2, wi2))) ≠ 0 then ((wkD ls lp ln le d (w + 1) (p + 1) E) (wkE (lp p) ((r : Int) + 1) w (f2, fp2, ft2, z2, l2, m2, hi2, pl2, wi2))) else if k_l ((wkD ls lp ln le d (w + 1) (p + 1) E) (wkE (lp p) ((r : Int) + 1) w (f2, fp2, ft2, z2, l2, m2, hi2, pl2, wi2))) = l2 then wkS 4 (lp p) w ((wkD ls lp ln le d (w + 1) (p + 1) E) (wkE (lp p) ((r : Int) + 1) w (f2, fp2, ft2, z2, l2, m2, hi2, pl2, wi2))) else wkL (wkD ls lp ln le d (w + 1) (p + 1) E) (ln p) (lp p) w rem' ((r : Int) + 1 + 1) ((wkD ls lp ln le d (w + 1) (p + 1) E) (wkE (lp p) ((r : Int) + 1) w (f2, fp2, ft2, z2, l2, m2, hi2, pl2, wi2)))) else if l2 < ln p then wkS 5 (lp p) w (f2, fp2, ft2, z2, l2, m2, hi2, pl2, wi2) else (f2, fp2, ft2, z2, l2, m2, hi2, pl2, wi2)) = _
            rw [← hB]
          have hi3b : 0 ≤ hi3 ∧ hi3 ≤ 7 := hBO.2.2.2.1
          have hl3b : 0 ≤ l3 ∧ l3 ≤ 60 := hBO.2.1
          refine z_aload_n dX4_workTill_60 rfl ?_
          refine gf_X4_25 dX4_workTill_61 PHx rfl ?_
          refine z_if_eq dX4_workTill_64 (tgt := 68) rfl ⟨by omega, by omega⟩ (fun c5 => ?_) (fun c5 => ?_)
          · skip
            have y8 : ¬ hi3 ≠ 0 := by omega
            refine z_aload_n dX4_workTill_68 rfl ?_
            refine gf_X4_46 dX4_workTill_69 PHx rfl ?_
            refine z_iload dX4_workTill_72 rfl ?_
            refine z_icmp_ne dX4_workTill_74 (tgt := 89) rfl ⟨by omega, by omega⟩ ⟨by omega, by omega⟩ (fun c6 => ?_) (fun c6 => ?_)
            · skip
              have y9 : ¬ l3 = l2 := by omega
              refine z_iinc dX4_workTill_89 rfl rfl ?_
              refine z_goto dX4_workTill_92 (tgt := 10) rfl ?_
              exact ih (r + 1) rem' f3 fp3 ft3 z3 l3 m3 hi3 pl3 wi3 (z_i l2) (by omega) hBO (q3.trans (hM.trans ((if_pos y7).trans ((if_neg y8).trans (if_neg y9))))) (by omega)
            · skip
              have y9 : l3 = l2 := by omega
              refine z_aload_n dX4_workTill_77 rfl ?_
              refine z_iconst dX4_workTill_78 ?_
              refine z_aload_n dX4_workTill_79 rfl ?_
              refine z_iload_n dX4_workTill_80 rfl ?_
              refine cs_X4_90 dX4_workTill_81 (D_X3_placeOf_in (hL _) hp) (hL _).1 rfl rfl (Nat.le_of_ble_eq_true rfl) ⟨(show 1 + 1 ≤ 2 * d + 2 by omega), by exact Nat.le_refl 0, by exact Nat.le_refl 0⟩ (z_ki ?_)
              refine z_iload_n dX4_workTill_84 rfl ?_
              refine cs_X4_33 dX4_workTill_85 (D_X4_stop hD) PHx rfl rfl (Nat.le_of_ble_eq_true rfl) ⟨(show 1 + 1 ≤ 2 * d + 2 by omega), by exact Nat.le_refl 0, by exact Nat.le_refl 0⟩ (z_kv ?_)
              exact z_vret F dX4_workTill_88 rfl ⟨Nat.le_refl 0, Nat.le_refl 0⟩ ⟨rfl, by rw [q3, hM, if_pos y7, if_neg y8, if_pos y9] <;> rfl⟩
          · skip
            have y8 : hi3 ≠ 0 := by omega
            exact z_vret F dX4_workTill_67 rfl ⟨Nat.le_refl 0, Nat.le_refl 0⟩ ⟨rfl, by rw [q3, hM, if_pos y7, if_pos y8] <;> rfl⟩
  exact L4 61 0 60 f fp ft z l m hi pl wi z_u (by omega) hO rfl (by omega)
