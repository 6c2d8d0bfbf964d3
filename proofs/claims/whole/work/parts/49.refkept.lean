/-! the reference: ripping, days, the tape, what is kept -/
/-- one day -/
def dyI (N : z_row) : Nat := (drN N % 4294967296 / 65536 % N 5020).toNat
def dyS (N : z_row) (G : Nat → z_G4) : Int × z_row := if k_h (tnR (z_sf N 5024 (drN N)) G (dyI N)) = 0 then (1, dnS (z_sf N 5024 (drN N)) G (dyI N)) else if N 5025 > 0 then (0, rpN (z_sf N 5024 (drN N)) ((N 5025).toNat - 1)) else (0, z_sf N 5024 (drN N))
def dyF (G : Nat → z_G4) : Nat → z_row → Int → Int × z_row
  | 0, N, c => (c, N)
  | r + 1, N, c => dyF G r (dyS N G).2 (c + (dyS N G).1)
theorem dyI_lt {N : z_row} (h : 1 ≤ N 5020 ∧ N 5020 ≤ 20) : (dyI N : Int) = drN N % 4294967296 / 65536 % N 5020 ∧ (dyI N : Int) < N 5020 := by
  have h1 := Int.emod_nonneg (drN N % 4294967296 / 65536) (show N 5020 ≠ 0 by omega)
  have h2 := Int.emod_lt_of_pos (drN N % 4294967296 / 65536) (show 0 < N 5020 by omega)
  unfold dyI
  omega
set_option maxHeartbeats 4000000 in
set_option maxRecDepth 100000 in
theorem D_X9_rip {g : z_G} {h0 : z_H} {A : Nat → Nat} (hM : mD A) {Rf Nw Th Tp Tx Kd Ia It Lk Ho Sz Im Mv : Nat → Int} {kp ln sz at_ we pa de ti lf md mn hi ha is_ ca : Int} {G : Nat → z_G4} (hwf : nWf Nw G) {n9 : Int} (hn9 : z_in n9) : z_D g mX9_rip 3 0 0 [z_r (A 0), z_i n9] (MH h0 A Rf Nw Th Tp Tx Kd Ia It Lk Ho Sz Im Mv kp ln sz at_ we pa de ti lf md mn hi ha is_ ca) (fun rv h' => (1 ≤ n9 ∧ n9 ≤ Nw 5025 → rv = some (z_i (Nw 5025 - n9)) ∧ h' = (MH h0 A Rf (rpN Nw (Nw 5025 - n9).toNat) Th Tp Tx Kd Ia It Lk Ho Sz Im Mv kp ln sz at_ we pa de ti lf md mn hi ha is_ ca)) ∧ (¬ (1 ≤ n9 ∧ n9 ≤ Nw 5025) → rv = some (z_i (-92)) ∧ h' = (MH h0 A (z_sf Rf 0 (Rf 0 + 1)) Nw Th Tp Tx Kd Ia It Lk Ho Sz Im Mv kp ln sz at_ we pa de ti lf md mn hi ha is_ ca))) := by
  refine z_D.of (by decide +kernel) (Nat.le_of_ble_eq_true rfl) (fun X F => ?_)
  show z_w g X cX9_rip RX9 (3, 0, 0) 0 [z_r (A 0), z_i n9] [] (MH h0 A Rf Nw Th Tp Tx Kd Ia It Lk Ho Sz Im Mv kp ln sz at_ we pa de ti lf md mn hi ha is_ ca) 0 0
  obtain ⟨w1, w2, w3, w4, w5, w6, w7⟩ := hwf
  refine z_iload_n dX9_rip_0 rfl ?_
  refine z_i2l dX9_rip_1 ⟨by omega, by omega⟩ ?_
  refine z_lconst1 dX9_rip_2 ?_
  refine z_aload_n dX9_rip_3 rfl ?_
  refine gf_X9_13 dX9_rip_4 MH_0 rfl ?_
  refine z_sipush dX9_rip_7 rfl ?_
  refine z_ialdN (m := 5025) dX9_rip_10 (MH_2 hM) rfl ⟨by decide, by decide⟩ ?_
  refine z_i2l dX9_rip_11 ⟨by omega, by omega⟩ ?_
  refine cs_X9_56 dX9_rip_12 (D_X9_isIn (v := n9) (lo := 1) (hi := Nw 5025) ⟨by omega, by omega⟩ (by decide) ⟨by omega, by omega⟩) rfl rfl (Nat.le_of_ble_eq_true rfl) (by decide) (z_ki ?_)
  refine z_if_ne dX9_rip_15 (tgt := 25) rfl ⟨by split <;> omega, by split <;> omega⟩ (fun c1 => ?_) (fun c1 => ?_)
  · skip
    have hrp := D_X9_rips (g := g) (h0 := h0) hM (Rf := Rf) (Nw := Nw) (Th := Th) (Tp := Tp) (Tx := Tx) (Kd := Kd) (Ia := Ia) (It := It) (Lk := Lk) (Ho := Ho) (Sz := Sz) (Im := Im) (Mv := Mv) (kp := kp) (ln := ln) (sz := sz) (at_ := at_) (we := we) (pa := pa) (de := de) (ti := ti) (lf := lf) (md := md) (mn := mn) (hi := hi) (ha := ha) (is_ := is_) (ca := ca) (M := (Nw 5025).toNat) (m := (Nw 5025 - n9).toNat) (by omega) (by omega) (by omega) (by omega)
    rw [show (((Nw 5025).toNat : Nat) : Int) - (((Nw 5025 - n9).toNat : Nat) : Int) = n9 by omega] at hrp
    refine z_aload_n dX9_rip_25 rfl ?_
    refine z_iload_n dX9_rip_26 rfl ?_
    refine cs_X9_199 dX9_rip_27 hrp MH_0 rfl rfl (Nat.le_of_ble_eq_true rfl) (by decide) (z_kv ?_)
    refine z_aload_n dX9_rip_30 rfl ?_
    refine gf_X9_13 dX9_rip_31 MH_0 rfl ?_
    refine z_sipush dX9_rip_34 rfl ?_
    refine z_ialdN (m := 5025) dX9_rip_37 (MH_2 hM) rfl ⟨by decide, by decide⟩ ?_
    refine z_ieq (y := Nw 5025 - n9) (by unfold rpN; rw [z_sf_n (by decide), z_sf_n (by decide), z_sf_s]; omega) ?_
    exact z_iret F dX9_rip_38 rfl (by decide) ⟨fun q => ⟨rfl, rfl⟩, fun q => absurd (by omega) q⟩
  · skip
    refine z_aload_n dX9_rip_18 rfl ?_
    refine z_bipush dX9_rip_19 rfl ?_
    refine cs_X9_60 dX9_rip_21 (D_X9_ref0 hM) MH_0 rfl rfl (Nat.le_of_ble_eq_true rfl) (by decide) (z_ki ?_)
    exact z_iret F dX9_rip_24 rfl (by decide) ⟨fun q => absurd q (by omega), fun q => ⟨rfl, rfl⟩⟩
set_option maxHeartbeats 4000000 in
set_option maxRecDepth 100000 in
theorem D_X9_days {g : z_G} {h0 : z_H} {A : Nat → Nat} (hM : mD A) {Rf Nw Th Tp Tx Kd Ia It Lk Ho Sz Im Mv : Nat → Int} {kp ln sz at_ we pa de ti lf md mn hi ha is_ ca : Int} {G : Nat → z_G4} (hwf : nWf Nw G) {n9 : Int} (hn9 : z_in n9) (hha : 0 ≤ ha ∧ ha ≤ 250) : z_D g mX9_days 26 0 0 [z_r (A 0), z_i n9] (MH h0 A Rf Nw Th Tp Tx Kd Ia It Lk Ho Sz Im Mv kp ln sz at_ we pa de ti lf md mn hi ha is_ ca) (fun rv h' => (¬ (1 ≤ n9 ∧ n9 ≤ 60) → rv = some (z_i (-92)) ∧ h' = (MH h0 A (z_sf Rf 0 (Rf 0 + 1)) Nw Th Tp Tx Kd Ia It Lk Ho Sz Im Mv kp ln sz at_ we pa de ti lf md mn hi ha is_ ca)) ∧ (1 ≤ n9 ∧ n9 ≤ 60 → (Nw 5020 = 0 → rv = some (z_i (-95)) ∧ h' = (MH h0 A (z_sf Rf 3 (Rf 3 + 1)) Nw Th Tp Tx Kd Ia It Lk Ho Sz Im Mv kp ln sz at_ we pa de ti lf md mn hi ha is_ ca)) ∧ (Nw 5020 ≠ 0 → rv = some (z_i (dyF G n9.toNat Nw 0).1) ∧ (∃ (Tx' Kd' Ia' It' Mv' : z_row) (sz' at_' we' pa' de' ti' lf' md' mn' hi' ha' is_' : Int), (0 ≤ ha' ∧ ha' ≤ 250) ∧ h' = (MH h0 A Rf ((dyF G n9.toNat Nw 0).2) Th Tp Tx' Kd' Ia' It' Lk Ho Sz Im Mv' kp ln sz' at_' we' pa' de' ti' lf' md' mn' hi' ha' is_' ca))))) := by
  refine z_D.of (by decide +kernel) (Nat.le_of_ble_eq_true rfl) (fun X F => ?_)
  have hwf0 := hwf
  obtain ⟨w1, w2, w3, w4, w5, w6, w7⟩ := hwf
  show z_w g X cX9_days RX9 (26, 0, 0) 0 [z_r (A 0), z_i n9, z_u, z_u, z_u] [] (MH h0 A Rf Nw Th Tp Tx Kd Ia It Lk Ho Sz Im Mv kp ln sz at_ we pa de ti lf md mn hi ha is_ ca) 0 0
  refine z_iload_n dX9_days_0 rfl ?_
  refine z_i2l dX9_days_1 ⟨by omega, by omega⟩ ?_
  refine z_lconst1 dX9_days_2 ?_
  refine z_ldc2 dX9_days_3 lw_X9_197 ?_
  refine cs_X9_56 dX9_days_6 (D_X9_isIn (v := n9) (lo := 1) (hi := 60) ⟨by omega, by omega⟩ (by decide) (by decide)) rfl rfl (Nat.le_of_ble_eq_true rfl) (by decide) (z_ki ?_)
  refine z_if_ne dX9_days_9 (tgt := 19) rfl ⟨by split <;> omega, by split <;> omega⟩ (fun c1 => ?_) (fun c1 => ?_)
  · skip
    refine z_aload_n dX9_days_19 rfl ?_
    refine gf_X9_13 dX9_days_20 MH_0 rfl ?_
    refine z_sipush dX9_days_23 rfl ?_
    refine z_ialdN (m := 5020) dX9_days_26 (MH_2 hM) rfl ⟨by decide, by decide⟩ ?_
    refine z_if_ne dX9_days_27 (tgt := 37) rfl ⟨by omega, by omega⟩ (fun c2 => ?_) (fun c2 => ?_)
    · skip
      obtain ⟨n, rfl⟩ : ∃ y : Nat, n9 = (y : Int) := ⟨n9.toNat, by omega⟩
      refine z_iconst dX9_days_37 ?_
      refine z_istore_n dX9_days_38 (Nat.le_of_ble_eq_true rfl) rfl ?_
      refine z_iconst dX9_days_39 ?_
      refine z_istore_n dX9_days_40 (Nat.le_of_ble_eq_true rfl) rfl ?_
      have L4 : ∀ (fu : Nat) (k rem : Nat) (c : Int) (N7 : z_row) (y4 : z_V) (Tx7 Kd7 Ia7 It7 Mv7 : z_row) (sz7 at7 we7 pa7 de7 ti7 lf7 md7 mn7 hi7 ha7 is7 : Int) (q1 : k + rem = n) (q2 : dyF G n Nw 0 = dyF G rem N7 c) (q4 : nWf N7 G) (q5 : N7 5020 = Nw 5020) (q3 : 0 ≤ ha7 ∧ ha7 ≤ 250), rem < fu → z_w g X cX9_days RX9 (26, 0, 0) 41 [z_r (A 0), z_i (n : Int), z_i c, z_i (k : Int), y4] [] (MH h0 A Rf N7 Th Tp Tx7 Kd7 Ia7 It7 Lk Ho Sz Im Mv7 kp ln sz7 at7 we7 pa7 de7 ti7 lf7 md7 mn7 hi7 ha7 is7 ca) 0 0 := by
        intro fu
        induction fu with
        | zero => intro k rem c N7 y4 Tx7 Kd7 Ia7 It7 Mv7 sz7 at7 we7 pa7 de7 ti7 lf7 md7 mn7 hi7 ha7 is7 q1 q2 q4 q5 q3 hm; exact absurd hm (Nat.not_lt_zero _)
        | succ fu ih =>
          intro k rem c N7 y4 Tx7 Kd7 Ia7 It7 Mv7 sz7 at7 we7 pa7 de7 ti7 lf7 md7 mn7 hi7 ha7 is7 q1 q2 q4 q5 q3 hm
          refine z_iload_n dX9_days_41 rfl ?_
          refine z_iload_n dX9_days_42 rfl ?_
          refine z_icmp_ge dX9_days_43 (tgt := 112) rfl ⟨by omega, by omega⟩ ⟨by omega, by omega⟩ (fun c3 => ?_) (fun c3 => ?_)
          · skip
            obtain rfl : rem = 0 := by omega
            have q2x := q2
            refine z_iload_n dX9_days_112 rfl ?_
            exact z_iret F dX9_days_113 rfl (by decide) ⟨fun q => absurd (by omega) q, fun q => ⟨fun q2 => absurd q2 (by omega), fun q2 => by
                  rw [show (n : Int).toNat = n from Int.toNat_natCast n, q2x]
                  exact ⟨rfl, _, _, _, _, _, _, _, _, _, _, _, _, _, _, _, _, _, q3, rfl⟩⟩⟩
          · skip
            obtain ⟨rem', rfl⟩ : ∃ y, rem = y + 1 := ⟨rem - 1, by omega⟩
            obtain ⟨v1, v2, v3, v4, v5, v6, v7⟩ := id q4
            obtain ⟨hd1, hd2⟩ := dyI_lt (N := N7) ⟨by omega, by omega⟩
            obtain ⟨N6, hN6⟩ : ∃ N6, N6 = z_sf N7 5024 (drN N7) := ⟨_, rfl⟩
            have e20 : N6 5020 = N7 5020 := by rw [hN6]; exact z_sf_n (by decide)
            have e25 : N6 5025 = N7 5025 := by rw [hN6]; exact z_sf_n (by decide)
            have hw6 : nWf N6 G := by rw [hN6]; exact nWf_seed q4
            obtain ⟨u1, u2, u3, u4, u5, u6, u7⟩ := id hw6
            refine z_aload_n dX9_days_46 rfl ?_
            refine z_aload_n dX9_days_47 rfl ?_
            refine gf_X9_13 dX9_days_48 MH_0 rfl ?_
            refine z_sipush dX9_days_51 rfl ?_
            refine z_ialdN (m := 5020) dX9_days_54 (MH_2 hM) rfl ⟨by decide, by decide⟩ ?_
            refine cs_X9_265 dX9_days_55 (D_X9_draw hM (m := N7 5020) (by omega)) MH_0 rfl rfl (Nat.le_of_ble_eq_true rfl) (by decide) (z_ki ?_)
            refine z_ieq (y := (dyI N7 : Int)) hd1.symm ?_
            refine z_heq (h' := (MH h0 A Rf N6 Th Tp Tx7 Kd7 Ia7 It7 Lk Ho Sz Im Mv7 kp ln sz7 at7 we7 pa7 de7 ti7 lf7 md7 mn7 hi7 ha7 is7 ca)) (by rw [hN6]) ?_
            refine z_istore dX9_days_58 (Nat.le_of_ble_eq_true rfl) rfl ?_
            refine z_aload_n dX9_days_60 rfl ?_
            refine z_iconst dX9_days_61 ?_
            refine pf_X9_132 dX9_days_62 MH_0 (Nat.le_of_ble_eq_true rfl) ?_
            refine z_heq MHu_0 ?_
            refine z_aload_n dX9_days_65 rfl ?_
            refine z_iload dX9_days_66 rfl ?_
            refine cs_X9_186 dX9_days_68 (D_X9_triesNow hM hw6 (i := dyI N7) (by omega) (by omega)) MH_0 rfl rfl (Nat.le_of_ble_eq_true rfl) (by decide) (fun rv h' hq => ?_)
            obtain ⟨rfl, Tx3, f3, fp3, ft3, sz3, at3, we3, z3, l3, m3, hi3, pl3, wi3, hT, rfl⟩ := hq
            have hTh : hi3 = k_h (tnR N6 G (dyI N7)) := hT.1
            have hTb : (0 ≤ z3 ∧ z3 ≤ 200) ∧ (0 ≤ l3 ∧ l3 ≤ 60) ∧ (0 ≤ hi3 ∧ hi3 ≤ 7) ∧ (0 ≤ pl3 ∧ pl3 ≤ 250) ∧ (0 ≤ wi3 ∧ wi3 ≤ 5) := hT.2.2.2
            show z_w _ _ _ _ _ _ _ [] _ _ _
            refine z_aload_n dX9_days_71 rfl ?_
            refine gf_X9_132 dX9_days_72 MH_0 rfl ?_
            refine z_if_ne dX9_days_75 (tgt := 90) rfl ⟨by omega, by omega⟩ (fun c4 => ?_) (fun c4 => ?_)
            · skip
              have hh0 : ¬ k_h (tnR N6 G (dyI N7)) = 0 := by omega
              refine z_aload_n dX9_days_90 rfl ?_
              refine gf_X9_13 dX9_days_91 MH_0 rfl ?_
              refine z_sipush dX9_days_94 rfl ?_
              refine z_ialdN (m := 5025) dX9_days_97 (MH_2 hM) rfl ⟨by decide, by decide⟩ ?_
              refine z_if_le dX9_days_98 (tgt := 106) rfl ⟨by omega, by omega⟩ (fun c5 => ?_) (fun c5 => ?_)
              · skip
                have hY : dyS N7 G = (0, N6) := by unfold dyS; rw [← hN6, if_neg hh0, if_neg (by omega)]
                have hO : dyF G (rem' + 1) N7 c = dyF G rem' N6 c := by show dyF G rem' (dyS N7 G).2 (c + (dyS N7 G).1) = _; rw [hY]; show dyF G rem' N6 (c + 0) = _; rw [Int.add_zero]
                refine z_iinc dX9_days_106 rfl rfl ?_
                refine z_goto dX9_days_109 (tgt := 41) rfl ?_
                exact ih (k + 1) rem' _ _ _ Tx3 f3 fp3 ft3 Mv7 sz3 at3 we3 pa7 de7 ti7 l3 m3 z3 hi3 pl3 wi3 (by omega) (q2.trans hO) hw6 (e20.trans q5) (by omega) (by omega)
              · skip
                have hY : dyS N7 G = (0, rpN N6 ((N7 5025).toNat - 1)) := by unfold dyS; rw [← hN6, if_neg hh0, if_pos (by omega)]
                have hO : dyF G (rem' + 1) N7 c = dyF G rem' (rpN N6 ((N7 5025).toNat - 1)) c := by show dyF G rem' (dyS N7 G).2 (c + (dyS N7 G).1) = _; rw [hY]; show dyF G rem' (rpN N6 ((N7 5025).toNat - 1)) (c + 0) = _; rw [Int.add_zero]
                have hrp := D_X9_rips (g := g) (h0 := h0) hM (Rf := Rf) (Nw := N6) (Th := Th) (Tp := Tp) (Tx := Tx3) (Kd := f3) (Ia := fp3) (It := ft3) (Lk := Lk) (Ho := Ho) (Sz := Sz) (Im := Im) (Mv := Mv7) (kp := kp) (ln := ln) (sz := sz3) (at_ := at3) (we := we3) (pa := pa7) (de := de7) (ti := ti7) (lf := l3) (md := m3) (mn := z3) (hi := hi3) (ha := pl3) (is_ := wi3) (ca := ca) (M := (N6 5025).toNat) (m := (N7 5025).toNat - 1) (by omega) (by omega) (by omega) (by omega)
                rw [show (((N6 5025).toNat : Nat) : Int) - (((N7 5025).toNat - 1 : Nat) : Int) = 1 by omega] at hrp
                refine z_aload_n dX9_days_101 rfl ?_
                refine z_iconst dX9_days_102 ?_
                refine cs_X9_199 dX9_days_103 hrp MH_0 rfl rfl (Nat.le_of_ble_eq_true rfl) (by decide) (z_kv ?_)
                refine z_iinc dX9_days_106 rfl rfl ?_
                refine z_goto dX9_days_109 (tgt := 41) rfl ?_
                exact ih (k + 1) rem' _ _ _ Tx3 f3 fp3 ft3 Mv7 sz3 at3 we3 pa7 de7 ti7 l3 m3 z3 hi3 pl3 wi3 (by omega) (q2.trans hO) (nWf_rp hw6 (by omega)) ((show rpN N6 ((N7 5025).toNat - 1) 5020 = N6 5020 by unfold rpN; rw [z_sf_n (by decide), z_sf_n (by decide), z_sf_n (by decide)]).trans (e20.trans q5)) (by omega) (by omega)
            · skip
              have hh0 : k_h (tnR N6 G (dyI N7)) = 0 := by omega
              obtain ⟨d1, d2, d3, d4, d5, d6⟩ := tnR_ok hw6 (by omega) hh0
              have hTV := hT.2.1 hh0
              obtain ⟨mz, hmz⟩ : ∃ y : Nat, z3 = (y : Int) := ⟨z3.toNat, by omega⟩
              have hTz : z3 = k_z (tnR N6 G (dyI N7)) := hTV.2.1
              have hTm : m3 = k_m (tnR N6 G (dyI N7)) := hTV.2.2.2.1
              have hTf : ∀ j, j < mz → f3 j = k_f (tnR N6 G (dyI N7)) j := fun j hj => hTV.2.2.2.2.2.1 j (by omega)
              have hD9 : dnN N6 ((dyI N7) : Int) f3 mz m3 = dnS N6 G (dyI N7) := by unfold dnS; rw [← hTz, ← hTm, hmz, Int.toNat_natCast]; exact dnN_ag hTf
              subst hmz
              have hY : dyS N7 G = (1, dnS N6 G (dyI N7)) := by unfold dyS; rw [← hN6, if_pos hh0]
              have hO : dyF G (rem' + 1) N7 c = dyF G rem' (dnS N6 G (dyI N7)) (c + 1) := by show dyF G rem' (dyS N7 G).2 (c + (dyS N7 G).1) = _; rw [hY]
              refine z_aload_n dX9_days_78 rfl ?_
              refine z_iload dX9_days_79 rfl ?_
              refine cs_X9_192 dX9_days_81 (D_X9_done hM (M := (N6 5025).toNat) (mz := mz) (by omega) (by omega) (by omega) ⟨by omega, by omega⟩ ⟨by omega, by omega⟩) MH_0 rfl rfl (Nat.le_of_ble_eq_true rfl) (by decide) (z_kv ?_)
              refine z_heq (h' := (MH h0 A Rf (dnS N6 G (dyI N7)) Th Tp Tx3 f3 fp3 ft3 Lk Ho Sz Im Mv7 kp ln sz3 at3 we3 pa7 de7 ti7 l3 m3 (mz : Int) hi3 pl3 wi3 ca)) (by rw [hD9]) ?_
              refine z_iinc dX9_days_84 rfl rfl ?_
              refine z_goto dX9_days_87 (tgt := 106) rfl ?_
              refine z_iinc dX9_days_106 rfl rfl ?_
              refine z_goto dX9_days_109 (tgt := 41) rfl ?_
              exact ih (k + 1) rem' _ _ _ Tx3 f3 fp3 ft3 Mv7 sz3 at3 we3 pa7 de7 ti7 l3 m3 (mz : Int) hi3 pl3 wi3 (by omega) (q2.trans hO) (nWf_dnS hw6 (by omega) hh0) ((dnS_20 hw6).trans (e20.trans q5)) (by omega) (by omega)
      exact L4 (n + 1) 0 n 0 Nw z_u Tx Kd Ia It Mv sz at_ we pa de ti lf md mn hi ha is_ (by omega) rfl hwf0 rfl hha (by omega)
    · skip
      refine z_aload_n dX9_days_30 rfl ?_
      refine z_bipush dX9_days_31 rfl ?_
      refine cs_X9_60 dX9_days_33 (D_X9_ref3 hM) MH_0 rfl rfl (Nat.le_of_ble_eq_true rfl) (by decide) (z_ki ?_)
      exact z_iret F dX9_days_36 rfl (by decide) ⟨fun q => absurd (by omega) q, fun q => ⟨fun q2 => ⟨rfl, rfl⟩, fun q2 => absurd (by omega) q2⟩⟩
  · skip
    refine z_aload_n dX9_days_12 rfl ?_
    refine z_bipush dX9_days_13 rfl ?_
    refine cs_X9_60 dX9_days_15 (D_X9_ref0 hM) MH_0 rfl rfl (Nat.le_of_ble_eq_true rfl) (by decide) (z_ki ?_)
    exact z_iret F dX9_days_18 rfl (by decide) ⟨fun q => ⟨rfl, rfl⟩, fun q => absurd q (by omega)⟩
set_option maxHeartbeats 4000000 in
set_option maxRecDepth 100000 in
theorem D_X9_feed {g : z_G} {h0 : z_H} {A : Nat → Nat} (hM : mD A) {Rf Nw Th Tp Tx Kd Ia It Lk Ho Sz Im Mv : Nat → Int} {kp sz at_ we pa de ti lf md mn hi ha is_ ca : Int} {t : Nat} (ht9 : t ≤ 250) {x : Int} (hx : z_in x) : z_D g mX9_feed 3 0 0 [z_r (A 0), z_i x] (MH h0 A Rf Nw Th Tp Tx Kd Ia It Lk Ho Sz Im Mv kp (t : Int) sz at_ we pa de ti lf md mn hi ha is_ ca) (fun rv h' => (¬ (0 ≤ x ∧ x ≤ 255) → rv = some (z_i (-92)) ∧ h' = (MH h0 A (z_sf Rf 0 (Rf 0 + 1)) Nw Th Tp Tx Kd Ia It Lk Ho Sz Im Mv kp (t : Int) sz at_ we pa de ti lf md mn hi ha is_ ca)) ∧ (0 ≤ x ∧ x ≤ 255 → (t = 250 → rv = some (z_i (-96)) ∧ h' = (MH h0 A (z_sf Rf 4 (Rf 4 + 1)) Nw Th Tp Tx Kd Ia It Lk Ho Sz Im Mv kp (t : Int) sz at_ we pa de ti lf md mn hi ha is_ ca)) ∧ (t ≠ 250 → rv = some (z_i ((t + 1 : Nat) : Int)) ∧ h' = (MH h0 A Rf Nw Th (z_sf Tp t x) Tx Kd Ia It Lk Ho Sz Im Mv kp ((t + 1 : Nat) : Int) sz at_ we pa de ti lf md mn hi ha is_ ca)))) := by
  refine z_D.of (by decide +kernel) (Nat.le_of_ble_eq_true rfl) (fun X F => ?_)
  show z_w g X cX9_feed RX9 (3, 0, 0) 0 [z_r (A 0), z_i x] [] (MH h0 A Rf Nw Th Tp Tx Kd Ia It Lk Ho Sz Im Mv kp (t : Int) sz at_ we pa de ti lf md mn hi ha is_ ca) 0 0
  refine z_iload_n dX9_feed_0 rfl ?_
  refine z_i2l dX9_feed_1 ⟨by omega, by omega⟩ ?_
  refine z_lconst0 dX9_feed_2 ?_
  refine z_ldc2 dX9_feed_3 lw_X9_54 ?_
  refine cs_X9_56 dX9_feed_6 (D_X9_isIn (v := x) (lo := 0) (hi := 255) ⟨by omega, by omega⟩ (by decide) (by decide)) rfl rfl (Nat.le_of_ble_eq_true rfl) (by decide) (z_ki ?_)
  refine z_if_ne dX9_feed_9 (tgt := 19) rfl ⟨by split <;> omega, by split <;> omega⟩ (fun c1 => ?_) (fun c1 => ?_)
  · skip
    refine z_aload_n dX9_feed_19 rfl ?_
    refine gf_X9_63 dX9_feed_20 MH_0 rfl ?_
    refine z_sipush dX9_feed_23 rfl ?_
    refine z_icmp_ne dX9_feed_26 (tgt := 36) rfl ⟨by omega, by omega⟩ (by decide) (fun c2 => ?_) (fun c2 => ?_)
    · skip
      refine z_aload_n dX9_feed_36 rfl ?_
      refine gf_X9_19 dX9_feed_37 MH_0 rfl ?_
      refine z_aload_n dX9_feed_40 rfl ?_
      refine gf_X9_63 dX9_feed_41 MH_0 rfl ?_
      refine z_iload_n dX9_feed_44 rfl ?_
      refine z_iastN (m := t) dX9_feed_45 (MH_4 hM) (by omega) ⟨by omega, by omega⟩ ?_
      refine z_heq (MHu_4 hM) ?_
      refine z_aload_n dX9_feed_46 rfl ?_
      refine z_dup dX9_feed_47 rfl ?_
      refine gf_X9_63 dX9_feed_48 MH_0 rfl ?_
      refine z_iconst dX9_feed_51 ?_
      refine z_iadd dX9_feed_52 ?_
      refine pf_X9_63 dX9_feed_53 MH_0 (Nat.le_of_ble_eq_true rfl) ?_
      refine z_heq MHu_0 ?_
      refine z_aload_n dX9_feed_56 rfl ?_
      refine gf_X9_63 dX9_feed_57 MH_0 rfl ?_
      exact z_iret F dX9_feed_60 rfl (by decide) ⟨fun q => absurd (by omega) q, fun q => ⟨fun q2 => absurd q2 (by omega), fun q2 => ⟨rfl, rfl⟩⟩⟩
    · skip
      refine z_aload_n dX9_feed_29 rfl ?_
      refine z_bipush dX9_feed_30 rfl ?_
      refine cs_X9_60 dX9_feed_32 (D_X9_ref4 hM) MH_0 rfl rfl (Nat.le_of_ble_eq_true rfl) (by decide) (z_ki ?_)
      exact z_iret F dX9_feed_35 rfl (by decide) ⟨fun q => absurd (by omega) q, fun q => ⟨fun q2 => ⟨rfl, rfl⟩, fun q2 => absurd (by omega) q2⟩⟩
  · skip
    refine z_aload_n dX9_feed_12 rfl ?_
    refine z_bipush dX9_feed_13 rfl ?_
    refine cs_X9_60 dX9_feed_15 (D_X9_ref0 hM) MH_0 rfl rfl (Nat.le_of_ble_eq_true rfl) (by decide) (z_ki ?_)
    exact z_iret F dX9_feed_18 rfl (by decide) ⟨fun q => ⟨rfl, rfl⟩, fun q => absurd q (by omega)⟩
set_option maxHeartbeats 4000000 in
set_option maxRecDepth 100000 in
theorem D_X9_wipe {g : z_G} {h0 : z_H} {A : Nat → Nat} (hM : mD A) {Rf Nw Th Tp Tx Kd Ia It Lk Ho Sz Im Mv : Nat → Int} {kp ln sz at_ we pa de ti lf md mn hi ha is_ ca : Int} : z_D g mX9_wipe 1 0 0 [z_r (A 0)] (MH h0 A Rf Nw Th Tp Tx Kd Ia It Lk Ho Sz Im Mv kp ln sz at_ we pa de ti lf md mn hi ha is_ ca) (fun rv h' => rv = some (z_i ln) ∧ h' = (MH h0 A Rf Nw Th Tp Tx Kd Ia It Lk Ho Sz Im Mv kp 0 sz at_ we pa de ti lf md mn hi ha is_ ca)) := by
  refine z_D.of (by decide +kernel) (Nat.le_of_ble_eq_true rfl) (fun X F => ?_)
  show z_w g X cX9_wipe RX9 (1, 0, 0) 0 [z_r (A 0), z_u] [] (MH h0 A Rf Nw Th Tp Tx Kd Ia It Lk Ho Sz Im Mv kp ln sz at_ we pa de ti lf md mn hi ha is_ ca) 0 0
  refine z_aload_n dX9_wipe_0 rfl ?_
  refine gf_X9_63 dX9_wipe_1 MH_0 rfl ?_
  refine z_istore_n dX9_wipe_4 (Nat.le_of_ble_eq_true rfl) rfl ?_
  refine z_aload_n dX9_wipe_5 rfl ?_
  refine z_iconst dX9_wipe_6 ?_
  refine pf_X9_63 dX9_wipe_7 MH_0 (Nat.le_of_ble_eq_true rfl) ?_
  refine z_heq MHu_0 ?_
  refine z_iload_n dX9_wipe_10 rfl ?_
  exact z_iret F dX9_wipe_11 rfl (by decide) ⟨rfl, rfl⟩
set_option maxHeartbeats 4000000 in
set_option maxRecDepth 100000 in
theorem D_X9_drop {g : z_G} {h0 : z_H} {A : Nat → Nat} (hM : mD A) {Rf Nw Th Tp Tx Kd Ia It Lk Ho Sz Im Mv : Nat → Int} {kp ln sz at_ we pa de ti lf md mn hi ha is_ ca : Int} {G : Nat → z_G4} (hwf : nWf Nw G) : z_D g mX9_drop 3 0 0 [z_r (A 0)] (MH h0 A Rf Nw Th Tp Tx Kd Ia It Lk Ho Sz Im Mv kp ln sz at_ we pa de ti lf md mn hi ha is_ ca) (fun rv h' => (Nw 5020 = 0 → rv = some (z_i (-95)) ∧ h' = (MH h0 A (z_sf Rf 3 (Rf 3 + 1)) Nw Th Tp Tx Kd Ia It Lk Ho Sz Im Mv kp ln sz at_ we pa de ti lf md mn hi ha is_ ca)) ∧ (Nw 5020 ≠ 0 → rv = some (z_i (Nw 5020 - 1)) ∧ h' = (MH h0 A Rf (z_sf Nw 5020 (Nw 5020 - 1)) Th Tp Tx Kd Ia It Lk Ho Sz Im Mv kp ln sz at_ we pa de ti lf md mn hi ha is_ ca))) := by
  refine z_D.of (by decide +kernel) (Nat.le_of_ble_eq_true rfl) (fun X F => ?_)
  show z_w g X cX9_drop RX9 (3, 0, 0) 0 [z_r (A 0)] [] (MH h0 A Rf Nw Th Tp Tx Kd Ia It Lk Ho Sz Im Mv kp ln sz at_ we pa de ti lf md mn hi ha is_ ca) 0 0
  obtain ⟨w1, w2, w3, w4, w5, w6, w7⟩ := hwf
  refine z_aload_n dX9_drop_0 rfl ?_
  refine gf_X9_13 dX9_drop_1 MH_0 rfl ?_
  refine z_sipush dX9_drop_4 rfl ?_
  refine z_ialdN (m := 5020) dX9_drop_7 (MH_2 hM) rfl ⟨by decide, by decide⟩ ?_
  refine z_if_ne dX9_drop_8 (tgt := 18) rfl ⟨by omega, by omega⟩ (fun c1 => ?_) (fun c1 => ?_)
  · skip
    refine z_aload_n dX9_drop_18 rfl ?_
    refine gf_X9_13 dX9_drop_19 MH_0 rfl ?_
    refine z_sipush dX9_drop_22 rfl ?_
    refine z_dup2 dX9_drop_25 rfl rfl ?_
    refine z_ialdN (m := 5020) dX9_drop_26 (MH_2 hM) rfl ⟨by decide, by decide⟩ ?_
    refine z_iconst dX9_drop_27 ?_
    refine z_isub dX9_drop_28 ?_
    refine z_iastN (m := 5020) dX9_drop_29 (MH_2 hM) rfl ⟨by decide, by decide⟩ ?_
    refine z_heq (MHu_2 hM) ?_
    refine z_aload_n dX9_drop_30 rfl ?_
    refine gf_X9_13 dX9_drop_31 MH_0 rfl ?_
    refine z_sipush dX9_drop_34 rfl ?_
    refine z_ialdN (m := 5020) dX9_drop_37 (MH_2 hM) rfl ⟨by decide, by decide⟩ ?_
    refine z_ieq (y := Nw 5020 - 1) z_sf_s ?_
    exact z_iret F dX9_drop_38 rfl (by decide) ⟨fun q => absurd q (by omega), fun q => ⟨rfl, rfl⟩⟩
  · skip
    refine z_aload_n dX9_drop_11 rfl ?_
    refine z_bipush dX9_drop_12 rfl ?_
    refine cs_X9_60 dX9_drop_14 (D_X9_ref3 hM) MH_0 rfl rfl (Nat.le_of_ble_eq_true rfl) (by decide) (z_ki ?_)
    exact z_iret F dX9_drop_17 rfl (by decide) ⟨fun q => ⟨rfl, rfl⟩, fun q => absurd (by omega) q⟩
set_option maxHeartbeats 4000000 in
set_option maxRecDepth 100000 in
theorem D_X9_mode {g : z_G} {h0 : z_H} {A : Nat → Nat} (hM : mD A) {Rf Nw Th Tp Tx Kd Ia It Lk Ho Sz Im Mv : Nat → Int} {kp ln sz at_ we pa de ti lf md mn hi ha is_ ca : Int} {G : Nat → z_G4} (hwf : nWf Nw G) {x : Int} (hx : z_in x) : z_D g mX9_mode 3 0 0 [z_r (A 0), z_i x] (MH h0 A Rf Nw Th Tp Tx Kd Ia It Lk Ho Sz Im Mv kp ln sz at_ we pa de ti lf md mn hi ha is_ ca) (fun rv h' => (¬ (0 ≤ x ∧ x ≤ 1) → rv = some (z_i (-92)) ∧ h' = (MH h0 A (z_sf Rf 0 (Rf 0 + 1)) Nw Th Tp Tx Kd Ia It Lk Ho Sz Im Mv kp ln sz at_ we pa de ti lf md mn hi ha is_ ca)) ∧ (0 ≤ x ∧ x ≤ 1 → (Nw 5025 > 0 → rv = some (z_i (-95)) ∧ h' = (MH h0 A (z_sf Rf 3 (Rf 3 + 1)) Nw Th Tp Tx Kd Ia It Lk Ho Sz Im Mv kp ln sz at_ we pa de ti lf md mn hi ha is_ ca)) ∧ (¬ Nw 5025 > 0 → rv = some (z_i (Nw 5021)) ∧ h' = (MH h0 A Rf (z_sf Nw 5021 x) Th Tp Tx Kd Ia It Lk Ho Sz Im Mv kp ln sz at_ we pa de ti lf md mn hi ha is_ ca)))) := by
  refine z_D.of (by decide +kernel) (Nat.le_of_ble_eq_true rfl) (fun X F => ?_)
  show z_w g X cX9_mode RX9 (3, 0, 0) 0 [z_r (A 0), z_i x, z_u] [] (MH h0 A Rf Nw Th Tp Tx Kd Ia It Lk Ho Sz Im Mv kp ln sz at_ we pa de ti lf md mn hi ha is_ ca) 0 0
  obtain ⟨w1, w2, w3, w4, w5, w6, w7⟩ := hwf
  refine z_iload_n dX9_mode_0 rfl ?_
  refine z_i2l dX9_mode_1 ⟨by omega, by omega⟩ ?_
  refine z_lconst0 dX9_mode_2 ?_
  refine z_lconst1 dX9_mode_3 ?_
  refine cs_X9_56 dX9_mode_4 (D_X9_isIn (v := x) (lo := 0) (hi := 1) ⟨by omega, by omega⟩ (by decide) (by decide)) rfl rfl (Nat.le_of_ble_eq_true rfl) (by decide) (z_ki ?_)
  refine z_if_ne dX9_mode_7 (tgt := 17) rfl ⟨by split <;> omega, by split <;> omega⟩ (fun c1 => ?_) (fun c1 => ?_)
  · skip
    refine z_aload_n dX9_mode_17 rfl ?_
    refine gf_X9_13 dX9_mode_18 MH_0 rfl ?_
    refine z_sipush dX9_mode_21 rfl ?_
    refine z_ialdN (m := 5025) dX9_mode_24 (MH_2 hM) rfl ⟨by decide, by decide⟩ ?_
    refine z_if_le dX9_mode_25 (tgt := 35) rfl ⟨by omega, by omega⟩ (fun c2 => ?_) (fun c2 => ?_)
    · skip
      refine z_aload_n dX9_mode_35 rfl ?_
      refine gf_X9_13 dX9_mode_36 MH_0 rfl ?_
      refine z_sipush dX9_mode_39 rfl ?_
      refine z_ialdN (m := 5021) dX9_mode_42 (MH_2 hM) rfl ⟨by decide, by decide⟩ ?_
      refine z_istore_n dX9_mode_43 (Nat.le_of_ble_eq_true rfl) rfl ?_
      refine z_aload_n dX9_mode_44 rfl ?_
      refine gf_X9_13 dX9_mode_45 MH_0 rfl ?_
      refine z_sipush dX9_mode_48 rfl ?_
      refine z_iload_n dX9_mode_51 rfl ?_
      refine z_iastN (m := 5021) dX9_mode_52 (MH_2 hM) rfl ⟨by decide, by decide⟩ ?_
      refine z_heq (MHu_2 hM) ?_
      refine z_iload_n dX9_mode_53 rfl ?_
      exact z_iret F dX9_mode_54 rfl (by decide) ⟨fun q => absurd (by omega) q, fun q => ⟨fun q2 => absurd q2 (by omega), fun q2 => ⟨rfl, rfl⟩⟩⟩
    · skip
      refine z_aload_n dX9_mode_28 rfl ?_
      refine z_bipush dX9_mode_29 rfl ?_
      refine cs_X9_60 dX9_mode_31 (D_X9_ref3 hM) MH_0 rfl rfl (Nat.le_of_ble_eq_true rfl) (by decide) (z_ki ?_)
      exact z_iret F dX9_mode_34 rfl (by decide) ⟨fun q => absurd (by omega) q, fun q => ⟨fun q2 => ⟨rfl, rfl⟩, fun q2 => absurd (by omega) q2⟩⟩
  · skip
    refine z_aload_n dX9_mode_10 rfl ?_
    refine z_bipush dX9_mode_11 rfl ?_
    refine cs_X9_60 dX9_mode_13 (D_X9_ref0 hM) MH_0 rfl rfl (Nat.le_of_ble_eq_true rfl) (by decide) (z_ki ?_)
    exact z_iret F dX9_mode_16 rfl (by decide) ⟨fun q => ⟨rfl, rfl⟩, fun q => absurd q (by omega)⟩
set_option maxHeartbeats 4000000 in
set_option maxRecDepth 100000 in
theorem D_X9_cast {g : z_G} {h0 : z_H} {A : Nat → Nat} (hM : mD A) {Rf Nw Th Tp Tx Kd Ia It Lk Ho Sz Im Mv : Nat → Int} {kp ln sz at_ we pa de ti lf md mn hi ha is_ ca : Int} {G : Nat → z_G4} (hwf : nWf Nw G) {x : Int} (hx : z_in x) : z_D g mX9_cast 3 0 0 [z_r (A 0), z_i x] (MH h0 A Rf Nw Th Tp Tx Kd Ia It Lk Ho Sz Im Mv kp ln sz at_ we pa de ti lf md mn hi ha is_ ca) (fun rv h' => (¬ (1 ≤ x ∧ x ≤ 60) → rv = some (z_i (-92)) ∧ h' = (MH h0 A (z_sf Rf 0 (Rf 0 + 1)) Nw Th Tp Tx Kd Ia It Lk Ho Sz Im Mv kp ln sz at_ we pa de ti lf md mn hi ha is_ ca)) ∧ (1 ≤ x ∧ x ≤ 60 → (Nw 5023 > 0 ∨ Nw 5025 > 0 → rv = some (z_i (-95)) ∧ h' = (MH h0 A (z_sf Rf 3 (Rf 3 + 1)) Nw Th Tp Tx Kd Ia It Lk Ho Sz Im Mv kp ln sz at_ we pa de ti lf md mn hi ha is_ ca)) ∧ (¬ (Nw 5023 > 0 ∨ Nw 5025 > 0) → rv = some (z_i x) ∧ h' = (MH h0 A Rf (z_sf (z_sf Nw 5023 x) 5022 0) Th Tp Tx Kd Ia It Lk Ho Sz Im Mv kp ln sz at_ we pa de ti lf md mn hi ha is_ ca)))) := by
  refine z_D.of (by decide +kernel) (Nat.le_of_ble_eq_true rfl) (fun X F => ?_)
  show z_w g X cX9_cast RX9 (3, 0, 0) 0 [z_r (A 0), z_i x] [] (MH h0 A Rf Nw Th Tp Tx Kd Ia It Lk Ho Sz Im Mv kp ln sz at_ we pa de ti lf md mn hi ha is_ ca) 0 0
  obtain ⟨w1, w2, w3, w4, w5, w6, w7⟩ := hwf
  refine z_iload_n dX9_cast_0 rfl ?_
  refine z_i2l dX9_cast_1 ⟨by omega, by omega⟩ ?_
  refine z_lconst1 dX9_cast_2 ?_
  refine z_ldc2 dX9_cast_3 lw_X9_197 ?_
  refine cs_X9_56 dX9_cast_6 (D_X9_isIn (v := x) (lo := 1) (hi := 60) ⟨by omega, by omega⟩ (by decide) (by decide)) rfl rfl (Nat.le_of_ble_eq_true rfl) (by decide) (z_ki ?_)
  refine z_if_ne dX9_cast_9 (tgt := 19) rfl ⟨by split <;> omega, by split <;> omega⟩ (fun c1 => ?_) (fun c1 => ?_)
  · skip
    refine z_aload_n dX9_cast_19 rfl ?_
    refine gf_X9_13 dX9_cast_20 MH_0 rfl ?_
    refine z_sipush dX9_cast_23 rfl ?_
    refine z_ialdN (m := 5023) dX9_cast_26 (MH_2 hM) rfl ⟨by decide, by decide⟩ ?_
    refine z_if_gt dX9_cast_27 (tgt := 41) rfl ⟨by omega, by omega⟩ (fun c2 => ?_) (fun c2 => ?_)
    · skip
      refine z_aload_n dX9_cast_41 rfl ?_
      refine z_bipush dX9_cast_42 rfl ?_
      refine cs_X9_60 dX9_cast_44 (D_X9_ref3 hM) MH_0 rfl rfl (Nat.le_of_ble_eq_true rfl) (by decide) (z_ki ?_)
      exact z_iret F dX9_cast_47 rfl (by decide) ⟨fun q => absurd (by omega) q, fun q => ⟨fun q2 => ⟨rfl, rfl⟩, fun q2 => absurd (by omega) q2⟩⟩
    · skip
      refine z_aload_n dX9_cast_30 rfl ?_
      refine gf_X9_13 dX9_cast_31 MH_0 rfl ?_
      refine z_sipush dX9_cast_34 rfl ?_
      refine z_ialdN (m := 5025) dX9_cast_37 (MH_2 hM) rfl ⟨by decide, by decide⟩ ?_
      refine z_if_le dX9_cast_38 (tgt := 48) rfl ⟨by omega, by omega⟩ (fun c3 => ?_) (fun c3 => ?_)
      · skip
        refine z_aload_n dX9_cast_48 rfl ?_
        refine gf_X9_13 dX9_cast_49 MH_0 rfl ?_
        refine z_sipush dX9_cast_52 rfl ?_
        refine z_iload_n dX9_cast_55 rfl ?_
        refine z_iastN (m := 5023) dX9_cast_56 (MH_2 hM) rfl ⟨by decide, by decide⟩ ?_
        refine z_heq (MHu_2 hM) ?_
        refine z_aload_n dX9_cast_57 rfl ?_
        refine gf_X9_13 dX9_cast_58 MH_0 rfl ?_
        refine z_sipush dX9_cast_61 rfl ?_
        refine z_iconst dX9_cast_64 ?_
        refine z_iastN (m := 5022) dX9_cast_65 (MH_2 hM) rfl ⟨by decide, by decide⟩ ?_
        refine z_heq (MHu_2 hM) ?_
        refine z_iload_n dX9_cast_66 rfl ?_
        exact z_iret F dX9_cast_67 rfl (by decide) ⟨fun q => absurd (by omega) q, fun q => ⟨fun q2 => absurd q2 (by omega), fun q2 => ⟨rfl, rfl⟩⟩⟩
      · skip
        refine z_aload_n dX9_cast_41 rfl ?_
        refine z_bipush dX9_cast_42 rfl ?_
        refine cs_X9_60 dX9_cast_44 (D_X9_ref3 hM) MH_0 rfl rfl (Nat.le_of_ble_eq_true rfl) (by decide) (z_ki ?_)
        exact z_iret F dX9_cast_47 rfl (by decide) ⟨fun q => absurd (by omega) q, fun q => ⟨fun q2 => ⟨rfl, rfl⟩, fun q2 => absurd (by omega) q2⟩⟩
  · skip
    refine z_aload_n dX9_cast_12 rfl ?_
    refine z_bipush dX9_cast_13 rfl ?_
    refine cs_X9_60 dX9_cast_15 (D_X9_ref0 hM) MH_0 rfl rfl (Nat.le_of_ble_eq_true rfl) (by decide) (z_ki ?_)
    exact z_iret F dX9_cast_18 rfl (by decide) ⟨fun q => ⟨rfl, rfl⟩, fun q => absurd q (by omega)⟩
set_option maxHeartbeats 4000000 in
set_option maxRecDepth 100000 in
theorem D_X9_seed {g : z_G} {h0 : z_H} {A : Nat → Nat} (hM : mD A) {Rf Nw Th Tp Tx Kd Ia It Lk Ho Sz Im Mv : Nat → Int} {kp ln sz at_ we pa de ti lf md mn hi ha is_ ca : Int} {x : Int} : z_D g mX9_seed 1 0 0 [z_r (A 0), z_i x] (MH h0 A Rf Nw Th Tp Tx Kd Ia It Lk Ho Sz Im Mv kp ln sz at_ we pa de ti lf md mn hi ha is_ ca) (fun rv h' => rv = some (z_i (Nw 5024)) ∧ h' = (MH h0 A Rf (z_sf Nw 5024 x) Th Tp Tx Kd Ia It Lk Ho Sz Im Mv kp ln sz at_ we pa de ti lf md mn hi ha is_ ca)) := by
  refine z_D.of (by decide +kernel) (Nat.le_of_ble_eq_true rfl) (fun X F => ?_)
  show z_w g X cX9_seed RX9 (1, 0, 0) 0 [z_r (A 0), z_i x, z_u] [] (MH h0 A Rf Nw Th Tp Tx Kd Ia It Lk Ho Sz Im Mv kp ln sz at_ we pa de ti lf md mn hi ha is_ ca) 0 0
  refine z_aload_n dX9_seed_0 rfl ?_
  refine gf_X9_13 dX9_seed_1 MH_0 rfl ?_
  refine z_sipush dX9_seed_4 rfl ?_
  refine z_ialdN (m := 5024) dX9_seed_7 (MH_2 hM) rfl ⟨by decide, by decide⟩ ?_
  refine z_istore_n dX9_seed_8 (Nat.le_of_ble_eq_true rfl) rfl ?_
  refine z_aload_n dX9_seed_9 rfl ?_
  refine gf_X9_13 dX9_seed_10 MH_0 rfl ?_
  refine z_sipush dX9_seed_13 rfl ?_
  refine z_iload_n dX9_seed_16 rfl ?_
  refine z_iastN (m := 5024) dX9_seed_17 (MH_2 hM) rfl ⟨by decide, by decide⟩ ?_
  refine z_heq (MHu_2 hM) ?_
  refine z_iload_n dX9_seed_18 rfl ?_
  exact z_iret F dX9_seed_19 rfl (by decide) ⟨rfl, rfl⟩
set_option maxHeartbeats 4000000 in
set_option maxRecDepth 100000 in
theorem D_X9_pours_i {g : z_G} {h0 : z_H} {A : Nat → Nat} (hM : mD A) {Rf Nw Th Tp Tx Kd Ia It Lk Ho Sz Im Mv : Nat → Int} {kp ln sz at_ we pa de ti lf md mn hi ha is_ ca : Int} : z_D g mX9_pours 1 0 0 [z_r (A 2), z_r (A 3)] (MH h0 A Rf Nw Th Tp Tx Kd Ia It Lk Ho Sz Im Mv kp ln sz at_ we pa de ti lf md mn hi ha is_ ca) (z_Pv (MH h0 A Rf Nw (cpT Nw 0 15226 Th) Tp Tx Kd Ia It Lk Ho Sz Im Mv kp ln sz at_ we pa de ti lf md mn hi ha is_ ca)) := by
  refine z_D.of (by decide +kernel) (Nat.le_of_ble_eq_true rfl) (fun X F => ?_)
  show z_w g X cX9_pours RX9 (1, 0, 0) 0 [z_r (A 2), z_r (A 3), z_u] [] (MH h0 A Rf Nw Th Tp Tx Kd Ia It Lk Ho Sz Im Mv kp ln sz at_ we pa de ti lf md mn hi ha is_ ca) 0 0
  refine z_iconst dX9_pours_0 ?_
  refine z_istore_n dX9_pours_1 (Nat.le_of_ble_eq_true rfl) rfl ?_
  refine z_heq (h' := (MH h0 A Rf Nw (cpT Nw 0 0 Th) Tp Tx Kd Ia It Lk Ho Sz Im Mv kp ln sz at_ we pa de ti lf md mn hi ha is_ ca)) (by rw [cpT_0]) ?_
  have L4 : ∀ (fu : Nat) (r : Nat) (q1 : r ≤ 15226), 15226 - r < fu → z_w g X cX9_pours RX9 (1, 0, 0) 2 [z_r (A 2), z_r (A 3), z_i (r : Int)] [] (MH h0 A Rf Nw (cpT Nw 0 r Th) Tp Tx Kd Ia It Lk Ho Sz Im Mv kp ln sz at_ we pa de ti lf md mn hi ha is_ ca) 0 0 := by
    intro fu
    induction fu with
    | zero => intro r q1 hm; exact absurd hm (Nat.not_lt_zero _)
    | succ fu ih =>
      intro r q1 hm
      refine z_iload_n dX9_pours_2 rfl ?_
      refine z_sipush dX9_pours_3 rfl ?_
      refine z_icmp_ge dX9_pours_6 (tgt := 21) rfl ⟨by omega, by omega⟩ (by decide) (fun c1 => ?_) (fun c1 => ?_)
      · skip
        obtain rfl : r = 15226 := by omega
        exact z_vret F dX9_pours_21 rfl (by decide) ⟨rfl, rfl⟩
      · skip
        refine z_aload_n dX9_pours_9 rfl ?_
        refine z_iload_n dX9_pours_10 rfl ?_
        refine z_aload_n dX9_pours_11 rfl ?_
        refine z_iload_n dX9_pours_12 rfl ?_
        refine z_ialdN (m := r) dX9_pours_13 (MH_2 hM) (by omega) ⟨by omega, by omega⟩ ?_
        refine z_iastN (m := r) dX9_pours_14 (MH_3 hM) (by omega) ⟨by omega, by omega⟩ ?_
        refine z_heq (MHu_3 hM) ?_
        refine z_heq (h' := (MH h0 A Rf Nw (cpT Nw 0 (r + 1) Th) Tp Tx Kd Ia It Lk Ho Sz Im Mv kp ln sz at_ we pa de ti lf md mn hi ha is_ ca)) (by rw [cpT_s rfl (congrArg Nw (by omega))]) ?_
        refine z_iinc dX9_pours_15 rfl rfl ?_
        refine z_goto dX9_pours_18 (tgt := 2) rfl ?_
        exact ih (r + 1) (by omega) (by omega)
  exact L4 15227 0 (Nat.zero_le _) (by omega)
set_option maxHeartbeats 4000000 in
set_option maxRecDepth 100000 in
theorem D_X9_pours_b {g : z_G} {h0 : z_H} {A : Nat → Nat} (hM : mD A) {Rf Nw Th Tp Tx Kd Ia It Lk Ho Sz Im Mv : Nat → Int} {kp ln sz at_ we pa de ti lf md mn hi ha is_ ca : Int} : z_D g mX9_pours 1 0 0 [z_r (A 3), z_r (A 2)] (MH h0 A Rf Nw Th Tp Tx Kd Ia It Lk Ho Sz Im Mv kp ln sz at_ we pa de ti lf md mn hi ha is_ ca) (z_Pv (MH h0 A Rf (cpT Th 0 15226 Nw) Th Tp Tx Kd Ia It Lk Ho Sz Im Mv kp ln sz at_ we pa de ti lf md mn hi ha is_ ca)) := by
  refine z_D.of (by decide +kernel) (Nat.le_of_ble_eq_true rfl) (fun X F => ?_)
  show z_w g X cX9_pours RX9 (1, 0, 0) 0 [z_r (A 3), z_r (A 2), z_u] [] (MH h0 A Rf Nw Th Tp Tx Kd Ia It Lk Ho Sz Im Mv kp ln sz at_ we pa de ti lf md mn hi ha is_ ca) 0 0
  refine z_iconst dX9_pours_0 ?_
  refine z_istore_n dX9_pours_1 (Nat.le_of_ble_eq_true rfl) rfl ?_
  refine z_heq (h' := (MH h0 A Rf (cpT Th 0 0 Nw) Th Tp Tx Kd Ia It Lk Ho Sz Im Mv kp ln sz at_ we pa de ti lf md mn hi ha is_ ca)) (by rw [cpT_0]) ?_
  have L4 : ∀ (fu : Nat) (r : Nat) (q1 : r ≤ 15226), 15226 - r < fu → z_w g X cX9_pours RX9 (1, 0, 0) 2 [z_r (A 3), z_r (A 2), z_i (r : Int)] [] (MH h0 A Rf (cpT Th 0 r Nw) Th Tp Tx Kd Ia It Lk Ho Sz Im Mv kp ln sz at_ we pa de ti lf md mn hi ha is_ ca) 0 0 := by
    intro fu
    induction fu with
    | zero => intro r q1 hm; exact absurd hm (Nat.not_lt_zero _)
    | succ fu ih =>
      intro r q1 hm
      refine z_iload_n dX9_pours_2 rfl ?_
      refine z_sipush dX9_pours_3 rfl ?_
      refine z_icmp_ge dX9_pours_6 (tgt := 21) rfl ⟨by omega, by omega⟩ (by decide) (fun c1 => ?_) (fun c1 => ?_)
      · skip
        obtain rfl : r = 15226 := by omega
        exact z_vret F dX9_pours_21 rfl (by decide) ⟨rfl, rfl⟩
      · skip
        refine z_aload_n dX9_pours_9 rfl ?_
        refine z_iload_n dX9_pours_10 rfl ?_
        refine z_aload_n dX9_pours_11 rfl ?_
        refine z_iload_n dX9_pours_12 rfl ?_
        refine z_ialdN (m := r) dX9_pours_13 (MH_3 hM) (by omega) ⟨by omega, by omega⟩ ?_
        refine z_iastN (m := r) dX9_pours_14 (MH_2 hM) (by omega) ⟨by omega, by omega⟩ ?_
        refine z_heq (MHu_2 hM) ?_
        refine z_heq (h' := (MH h0 A Rf (cpT Th 0 (r + 1) Nw) Th Tp Tx Kd Ia It Lk Ho Sz Im Mv kp ln sz at_ we pa de ti lf md mn hi ha is_ ca)) (by rw [cpT_s rfl (congrArg Th (by omega))]) ?_
        refine z_iinc dX9_pours_15 rfl rfl ?_
        refine z_goto dX9_pours_18 (tgt := 2) rfl ?_
        exact ih (r + 1) (by omega) (by omega)
  exact L4 15227 0 (Nat.zero_le _) (by omega)
set_option maxHeartbeats 4000000 in
set_option maxRecDepth 100000 in
theorem D_X9_image {g : z_G} {h0 : z_H} {A : Nat → Nat} (hM : mD A) {Rf Nw Th Tp Tx Kd Ia It Lk Ho Sz Im Mv : Nat → Int} {kp ln sz at_ we pa de ti lf md mn hi ha is_ ca : Int} : z_D g mX9_image 2 0 0 [z_r (A 0)] (MH h0 A Rf Nw Th Tp Tx Kd Ia It Lk Ho Sz Im Mv kp ln sz at_ we pa de ti lf md mn hi ha is_ ca) (fun rv h' => rv = some (z_i 1) ∧ h' = (MH h0 A Rf Nw (cpT Nw 0 15226 Th) Tp Tx Kd Ia It Lk Ho Sz Im Mv 1 ln sz at_ we pa de ti lf md mn hi ha is_ ca)) := by
  refine z_D.of (by decide +kernel) (Nat.le_of_ble_eq_true rfl) (fun X F => ?_)
  show z_w g X cX9_image RX9 (2, 0, 0) 0 [z_r (A 0)] [] (MH h0 A Rf Nw Th Tp Tx Kd Ia It Lk Ho Sz Im Mv kp ln sz at_ we pa de ti lf md mn hi ha is_ ca) 0 0
  refine z_aload_n dX9_image_0 rfl ?_
  refine gf_X9_13 dX9_image_1 MH_0 rfl ?_
  refine z_aload_n dX9_image_4 rfl ?_
  refine gf_X9_16 dX9_image_5 MH_0 rfl ?_
  refine cs_X9_268 dX9_image_8 (D_X9_pours_i hM) rfl rfl (Nat.le_of_ble_eq_true rfl) (by decide) (z_kv ?_)
  refine z_aload_n dX9_image_11 rfl ?_
  refine z_iconst dX9_image_12 ?_
  refine pf_X9_272 (by omega) dX9_image_13 MH_0 (Nat.le_of_ble_eq_true rfl) ?_
  refine z_heq MHu_0 ?_
  refine z_iconst dX9_image_16 ?_
  exact z_iret F dX9_image_17 rfl (by decide) ⟨rfl, rfl⟩
set_option maxHeartbeats 4000000 in
set_option maxRecDepth 100000 in
theorem D_X9_back {g : z_G} {h0 : z_H} {A : Nat → Nat} (hM : mD A) {Rf Nw Th Tp Tx Kd Ia It Lk Ho Sz Im Mv : Nat → Int} {kp ln sz at_ we pa de ti lf md mn hi ha is_ ca : Int} (hkp : kp = 0 ∨ kp = 1) : z_D g mX9_back 2 0 0 [z_r (A 0)] (MH h0 A Rf Nw Th Tp Tx Kd Ia It Lk Ho Sz Im Mv kp ln sz at_ we pa de ti lf md mn hi ha is_ ca) (fun rv h' => (kp = 0 → rv = some (z_i (-95)) ∧ h' = (MH h0 A (z_sf Rf 3 (Rf 3 + 1)) Nw Th Tp Tx Kd Ia It Lk Ho Sz Im Mv kp ln sz at_ we pa de ti lf md mn hi ha is_ ca)) ∧ (kp ≠ 0 → rv = some (z_i 1) ∧ h' = (MH h0 A Rf (cpT Th 0 15226 Nw) Th Tp Tx Kd Ia It Lk Ho Sz Im Mv kp ln sz at_ we pa de ti lf md mn hi ha is_ ca))) := by
  refine z_D.of (by decide +kernel) (Nat.le_of_ble_eq_true rfl) (fun X F => ?_)
  show z_w g X cX9_back RX9 (2, 0, 0) 0 [z_r (A 0)] [] (MH h0 A Rf Nw Th Tp Tx Kd Ia It Lk Ho Sz Im Mv kp ln sz at_ we pa de ti lf md mn hi ha is_ ca) 0 0
  refine z_aload_n dX9_back_0 rfl ?_
  refine gf_X9_272 dX9_back_1 MH_0 rfl ?_
  refine z_if_ne dX9_back_4 (tgt := 14) rfl ⟨by omega, by omega⟩ (fun c1 => ?_) (fun c1 => ?_)
  · skip
    refine z_aload_n dX9_back_14 rfl ?_
    refine gf_X9_16 dX9_back_15 MH_0 rfl ?_
    refine z_aload_n dX9_back_18 rfl ?_
    refine gf_X9_13 dX9_back_19 MH_0 rfl ?_
    refine cs_X9_268 dX9_back_22 (D_X9_pours_b hM) rfl rfl (Nat.le_of_ble_eq_true rfl) (by decide) (z_kv ?_)
    refine z_iconst dX9_back_25 ?_
    exact z_iret F dX9_back_26 rfl (by decide) ⟨fun q => absurd q (by omega), fun q => ⟨rfl, rfl⟩⟩
  · skip
    refine z_aload_n dX9_back_7 rfl ?_
    refine z_bipush dX9_back_8 rfl ?_
    refine cs_X9_60 dX9_back_10 (D_X9_ref3 hM) MH_0 rfl rfl (Nat.le_of_ble_eq_true rfl) (by decide) (z_ki ?_)
    exact z_iret F dX9_back_13 rfl (by decide) ⟨fun q => ⟨rfl, rfl⟩, fun q => absurd (by omega) q⟩
set_option maxHeartbeats 4000000 in
set_option maxRecDepth 100000 in
theorem D_X9_line {g : z_G} {h0 : z_H} {A : Nat → Nat} (hM : mD A) {Rf Nw Th Tp Tx Kd Ia It Lk Ho Sz Im Mv : Nat → Int} {kp sz at_ we pa de ti lf md mn hi ha is_ ca : Int} {G : Nat → z_G4} (hwf : nWf Nw G) {t : Nat} (ht9 : t ≤ 250) (htp : ∀ k, k < t → 0 ≤ Tp k ∧ Tp k ≤ 255) (hha : 0 ≤ ha ∧ ha ≤ 250) : z_D g mX9_line 14 0 0 [z_r (A 0)] (MH h0 A Rf Nw Th Tp Tx Kd Ia It Lk Ho Sz Im Mv kp (t : Int) sz at_ we pa de ti lf md mn hi ha is_ ca) (fun rv h' => (¬ ((rdS t Tp (t + 1) 0 (0, 0, 0, 0)).1 = true ∧ (rdS t Tp (t + 1) 0 (0, 0, 0, 0)).2.1 = t) → rv = some (z_i (-600 - ((rdS t Tp (t + 1) 0 (0, 0, 0, 0)).2.1 : Int))) ∧ (∃ (Tx' Kd' Ia' It' Mv' : z_row) (sz' at_' we' pa' de' ti' lf' md' mn' hi' ha' is_' : Int), (0 ≤ ha' ∧ ha' ≤ 250) ∧ h' = (MH h0 A (z_sf Rf 0 (Rf 0 + 1)) Nw Th Tp Tx' Kd' Ia' It' Lk Ho Sz Im Mv' kp 0 sz' at_' we' pa' de' ti' lf' md' mn' hi' ha' is_' ca))) ∧ (((rdS t Tp (t + 1) 0 (0, 0, 0, 0)).1 = true ∧ (rdS t Tp (t + 1) 0 (0, 0, 0, 0)).2.1 = t) → (Nw 5020 = 20 → rv = some (z_i (-96)) ∧ (∃ (Tx' Kd' Ia' It' Mv' : z_row) (sz' at_' we' pa' de' ti' lf' md' mn' hi' ha' is_' : Int), (0 ≤ ha' ∧ ha' ≤ 250) ∧ h' = (MH h0 A (z_sf Rf 4 (Rf 4 + 1)) Nw Th Tp Tx' Kd' Ia' It' Lk Ho Sz Im Mv' kp 0 sz' at_' we' pa' de' ti' lf' md' mn' hi' ha' is_' ca))) ∧ (Nw 5020 ≠ 20 → rv = some (z_i (Nw 5020)) ∧ (∃ (Tx' Kd' Ia' It' Mv' : z_row) (sz' at_' we' pa' de' ti' lf' md' mn' hi' ha' is_' : Int), (0 ≤ ha' ∧ ha' ≤ 250) ∧ h' = (MH h0 A Rf (lnN Nw t Tp) Th Tp Tx' Kd' Ia' It' Lk Ho Sz Im Mv' kp 0 sz' at_' we' pa' de' ti' lf' md' mn' hi' ha' is_' ca))))) := by
  refine z_D.of (by decide +kernel) (Nat.le_of_ble_eq_true rfl) (fun X F => ?_)
  obtain ⟨w1, w2, w3, w4, w5, w6, w7⟩ := hwf
  show z_w g X cX9_line RX9 (14, 0, 0) 0 [z_r (A 0), z_u, z_u] [] (MH h0 A Rf Nw Th Tp Tx Kd Ia It Lk Ho Sz Im Mv kp (t : Int) sz at_ we pa de ti lf md mn hi ha is_ ca) 0 0
  refine z_aload_n dX9_line_0 rfl ?_
  refine z_aload_n dX9_line_1 rfl ?_
  refine gf_X9_63 dX9_line_2 MH_0 rfl ?_
  refine pf_X9_70 dX9_line_5 MH_0 (Nat.le_of_ble_eq_true rfl) ?_
  refine z_heq MHu_0 ?_
  refine z_iconst dX9_line_8 ?_
  refine z_istore_n dX9_line_9 (Nat.le_of_ble_eq_true rfl) rfl ?_
  refine z_heq (h' := (MH h0 A Rf Nw Th Tp (cpT Tp 0 0 Tx) Kd Ia It Lk Ho Sz Im Mv kp (t : Int) (t : Int) at_ we pa de ti lf md mn hi ha is_ ca)) (by rw [cpT_0]) ?_
  have L4 : ∀ (fu : Nat) (r : Nat) (q1 : r ≤ t), t - r < fu → z_w g X cX9_line RX9 (14, 0, 0) 10 [z_r (A 0), z_i (r : Int), z_u] [] (MH h0 A Rf Nw Th Tp (cpT Tp 0 r Tx) Kd Ia It Lk Ho Sz Im Mv kp (t : Int) (t : Int) at_ we pa de ti lf md mn hi ha is_ ca) 0 0 := by
    intro fu
    induction fu with
    | zero => intro r q1 hm; exact absurd hm (Nat.not_lt_zero _)
    | succ fu ih =>
      intro r q1 hm
      refine z_iload_n dX9_line_10 rfl ?_
      refine z_aload_n dX9_line_11 rfl ?_
      refine gf_X9_70 dX9_line_12 MH_0 rfl ?_
      refine z_icmp_ge dX9_line_15 (tgt := 36) rfl ⟨by omega, by omega⟩ ⟨by omega, by omega⟩ (fun c1 => ?_) (fun c1 => ?_)
      · skip
        obtain rfl : t = r := by omega
        refine z_aload_n dX9_line_36 rfl ?_
        refine z_iconst dX9_line_37 ?_
        refine pf_X9_63 dX9_line_38 MH_0 (Nat.le_of_ble_eq_true rfl) ?_
        refine z_heq MHu_0 ?_
        refine z_aload_n dX9_line_41 rfl ?_
        refine cs_X9_121 dX9_line_42 (D_X9_readsAll hM ht9 (fun q hq => by rw [cpT_in hq, Nat.zero_add]; exact htp q hq)) MH_0 rfl rfl (Nat.le_of_ble_eq_true rfl) (by decide) (fun rv h' hq => ?_)
        obtain ⟨rfl, ok, j2, P2, d2, tl2, we2, hS, hB, rfl⟩ := hq
        have hag : ∀ k, k < t → (cpT Tp 0 t Tx) k = Tp k := fun k hk => (cpT_in hk).trans (congrArg Tp (Nat.zero_add k))
        have hS2 : (rdS t Tp (t + 1) 0 (0, 0, 0, 0)) = (ok, (j2, P2, d2, tl2)) := (rdS_tx hag _ _ _).symm.trans hS
        have hwe : we2 = 0 ∨ we2 = 1 := by rcases hB with q | q <;> omega
        have hj2 : j2 ≤ t := by rcases hB with q | q <;> omega
        have hkk : (ok = true ∧ we2 = 1) ∨ (ok = false ∧ we2 = 0) := hB.imp (fun q => ⟨q.1, q.2.1⟩) (fun q => ⟨q.1, q.2.1⟩)
        show z_w _ _ _ _ _ _ _ [] _ _ _
        refine z_aload_n dX9_line_45 rfl ?_
        refine gf_X9_85 dX9_line_46 MH_0 rfl ?_
        refine z_if_eq dX9_line_49 (tgt := 63) rfl ⟨by omega, by omega⟩ (fun c2 => ?_) (fun c2 => ?_)
        · skip
          have hno : ¬ ((rdS t Tp (t + 1) 0 (0, 0, 0, 0)).1 = true ∧ (rdS t Tp (t + 1) 0 (0, 0, 0, 0)).2.1 = t) := by rw [hS2]; exact fun q => by rcases hkk with q2 | q2; exact absurd q2.2 (by omega); exact absurd (q.1.symm.trans q2.1) (by decide)
          refine z_aload_n dX9_line_63 rfl ?_
          refine z_bipush dX9_line_64 rfl ?_
          refine cs_X9_60 dX9_line_66 (D_X9_ref0 hM) MH_0 rfl rfl (Nat.le_of_ble_eq_true rfl) (by decide) (z_ki ?_)
          refine z_pop dX9_line_69 rfl ?_
          refine z_sipush dX9_line_70 rfl ?_
          refine z_aload_n dX9_line_73 rfl ?_
          refine gf_X9_67 dX9_line_74 MH_0 rfl ?_
          refine z_isub dX9_line_77 ?_
          exact z_iret F dX9_line_78 rfl (by decide) ⟨fun q => ⟨by rw [hS2], _, _, _, _, _, _, _, _, _, _, _, _, _, _, _, _, _, hha, rfl⟩, fun q => absurd q hno⟩
        · skip
          have hok : ok = true := (hkk.resolve_right (fun q => by omega)).1
          refine z_aload_n dX9_line_52 rfl ?_
          refine gf_X9_67 dX9_line_53 MH_0 rfl ?_
          refine z_aload_n dX9_line_56 rfl ?_
          refine gf_X9_70 dX9_line_57 MH_0 rfl ?_
          refine z_icmp_ge dX9_line_60 (tgt := 79) rfl ⟨by omega, by omega⟩ ⟨by omega, by omega⟩ (fun c3 => ?_) (fun c3 => ?_)
          · skip
            have hyes : ((rdS t Tp (t + 1) 0 (0, 0, 0, 0)).1 = true ∧ (rdS t Tp (t + 1) 0 (0, 0, 0, 0)).2.1 = t) := by rw [hS2]; exact ⟨hok, by show j2 = t; omega⟩
            obtain ⟨I, hI⟩ : ∃ I : Nat, Nw 5020 = (I : Int) := ⟨(Nw 5020).toNat, by omega⟩
            have hI2 : (Nw 5020).toNat = I := by omega
            refine z_aload_n dX9_line_79 rfl ?_
            refine gf_X9_13 dX9_line_80 MH_0 rfl ?_
            refine z_sipush dX9_line_83 rfl ?_
            refine z_ialdN (m := 5020) dX9_line_86 (MH_2 hM) rfl ⟨by decide, by decide⟩ ?_
            refine z_bipush dX9_line_87 rfl ?_
            refine z_icmp_ne dX9_line_89 (tgt := 99) rfl ⟨by omega, by omega⟩ (by decide) (fun c4 => ?_) (fun c4 => ?_)
            · skip
              refine z_sipush dX9_line_99 rfl ?_
              refine z_aload_n dX9_line_102 rfl ?_
              refine gf_X9_13 dX9_line_103 MH_0 rfl ?_
              refine z_sipush dX9_line_106 rfl ?_
              refine z_ialdN (m := 5020) dX9_line_109 (MH_2 hM) rfl ⟨by decide, by decide⟩ ?_
              refine z_imul dX9_line_110 ?_
              refine z_ieq (y := ((251 * I : Nat) : Int)) (by omega) ?_
              refine z_istore_n dX9_line_111 (Nat.le_of_ble_eq_true rfl) rfl ?_
              refine z_aload_n dX9_line_112 rfl ?_
              refine gf_X9_13 dX9_line_113 MH_0 rfl ?_
              refine z_iload_n dX9_line_116 rfl ?_
              refine z_aload_n dX9_line_117 rfl ?_
              refine gf_X9_70 dX9_line_118 MH_0 rfl ?_
              refine z_iastN (m := (251 * I)) dX9_line_121 (MH_2 hM) (by omega) ⟨by omega, by omega⟩ ?_
              refine z_heq (MHu_2 hM) ?_
              refine z_iconst dX9_line_122 ?_
              refine z_istore_n dX9_line_123 (Nat.le_of_ble_eq_true rfl) rfl ?_
              refine z_heq (h' := (MH h0 A Rf (cpA (z_sf Nw (251 * I) (t : Int)) (251 * I + 1) 0 (cpT Tp 0 t Tx)) Th Tp (cpT Tp 0 t Tx) Kd Ia It Lk Ho Sz Im Mv kp 0 (t : Int) (j2 : Int) we2 (P2 : Int) (d2 : Int) tl2 lf md mn hi ha is_ ca)) (by rw [cpA_0]) ?_
              have L5 : ∀ (fu : Nat) (r : Nat) (q1 : r ≤ t), t - r < fu → z_w g X cX9_line RX9 (14, 0, 0) 124 [z_r (A 0), z_i ((251 * I : Nat) : Int), z_i (r : Int)] [] (MH h0 A Rf (cpA (z_sf Nw (251 * I) (t : Int)) (251 * I + 1) r (cpT Tp 0 t Tx)) Th Tp (cpT Tp 0 t Tx) Kd Ia It Lk Ho Sz Im Mv kp 0 (t : Int) (j2 : Int) we2 (P2 : Int) (d2 : Int) tl2 lf md mn hi ha is_ ca) 0 0 := by
                intro fu
                induction fu with
                | zero => intro r q1 hm; exact absurd hm (Nat.not_lt_zero _)
                | succ fu2 ih2 =>
                  intro r q1 hm
                  refine z_iload_n dX9_line_124 rfl ?_
                  refine z_aload_n dX9_line_125 rfl ?_
                  refine gf_X9_70 dX9_line_126 MH_0 rfl ?_
                  refine z_icmp_ge dX9_line_129 (tgt := 154) rfl ⟨by omega, by omega⟩ ⟨by omega, by omega⟩ (fun c5 => ?_) (fun c5 => ?_)
                  · skip
                    obtain rfl : t = r := by omega
                    refine z_aload_n dX9_line_154 rfl ?_
                    refine gf_X9_13 dX9_line_155 MH_0 rfl ?_
                    refine z_sipush dX9_line_158 rfl ?_
                    refine z_dup2 dX9_line_161 rfl rfl ?_
                    refine z_ialdN (m := 5020) dX9_line_162 (MH_2 hM) rfl ⟨by decide, by decide⟩ ?_
                    refine z_ieq (y := Nw 5020) (by unfold cpA; rw [if_neg (by omega), z_sf_n (by omega)]) ?_
                    refine z_iconst dX9_line_163 ?_
                    refine z_iadd dX9_line_164 ?_
                    refine z_iastN (m := 5020) dX9_line_165 (MH_2 hM) rfl ⟨by decide, by decide⟩ ?_
                    refine z_heq (MHu_2 hM) ?_
                    refine z_heq (h' := (MH h0 A Rf (lnN Nw t Tp) Th Tp (cpT Tp 0 t Tx) Kd Ia It Lk Ho Sz Im Mv kp 0 (t : Int) (j2 : Int) we2 (P2 : Int) (d2 : Int) tl2 lf md mn hi ha is_ ca)) (by rw [← lnN_ag hag]; unfold lnN; rw [hI2]) ?_
                    refine z_aload_n dX9_line_166 rfl ?_
                    refine gf_X9_13 dX9_line_167 MH_0 rfl ?_
                    refine z_sipush dX9_line_170 rfl ?_
                    refine z_ialdN (m := 5020) dX9_line_173 (MH_2 hM) rfl ⟨by decide, by decide⟩ ?_
                    refine z_ieq (y := Nw 5020 + 1) z_sf_s ?_
                    refine z_iconst dX9_line_174 ?_
                    refine z_isub dX9_line_175 ?_
                    refine z_ieq (y := Nw 5020) (by omega) ?_
                    exact z_iret F dX9_line_176 rfl (by decide) ⟨fun q => absurd hyes q, fun q => ⟨fun q2 => absurd q2 (by omega), fun q2 => ⟨rfl, _, _, _, _, _, _, _, _, _, _, _, _, _, _, _, _, _, hha, rfl⟩⟩⟩
                  · skip
                    refine z_aload_n dX9_line_132 rfl ?_
                    refine gf_X9_13 dX9_line_133 MH_0 rfl ?_
                    refine z_iload_n dX9_line_136 rfl ?_
                    refine z_iconst dX9_line_137 ?_
                    refine z_iadd dX9_line_138 ?_
                    refine z_iload_n dX9_line_139 rfl ?_
                    refine z_iadd dX9_line_140 ?_
                    refine z_aload_n dX9_line_141 rfl ?_
                    refine gf_X9_22 dX9_line_142 MH_0 rfl ?_
                    refine z_iload_n dX9_line_145 rfl ?_
                    refine z_ialdN (m := r) dX9_line_146 (MH_5 hM) (by omega) ⟨by omega, by omega⟩ ?_
                    refine z_iastN (m := (251 * I + 1 + r)) dX9_line_147 (MH_2 hM) (by omega) ⟨by omega, by omega⟩ ?_
                    refine z_heq (MHu_2 hM) ?_
                    refine z_heq (h' := (MH h0 A Rf (cpA (z_sf Nw (251 * I) (t : Int)) (251 * I + 1) (r + 1) (cpT Tp 0 t Tx)) Th Tp (cpT Tp 0 t Tx) Kd Ia It Lk Ho Sz Im Mv kp 0 (t : Int) (j2 : Int) we2 (P2 : Int) (d2 : Int) tl2 lf md mn hi ha is_ ca)) (by rw [cpA_s rfl rfl]) ?_
                    refine z_iinc dX9_line_148 rfl rfl ?_
                    refine z_goto dX9_line_151 (tgt := 124) rfl ?_
                    exact ih2 (r + 1) (by omega) (by omega)
              exact L5 (t + 1) 0 (Nat.zero_le _) (by omega)
            · skip
              refine z_aload_n dX9_line_92 rfl ?_
              refine z_bipush dX9_line_93 rfl ?_
              refine cs_X9_60 dX9_line_95 (D_X9_ref4 hM) MH_0 rfl rfl (Nat.le_of_ble_eq_true rfl) (by decide) (z_ki ?_)
              exact z_iret F dX9_line_98 rfl (by decide) ⟨fun q => absurd hyes q, fun q => ⟨fun q2 => ⟨rfl, _, _, _, _, _, _, _, _, _, _, _, _, _, _, _, _, _, hha, rfl⟩, fun q2 => absurd (by omega) q2⟩⟩
          · skip
            have hno : ¬ ((rdS t Tp (t + 1) 0 (0, 0, 0, 0)).1 = true ∧ (rdS t Tp (t + 1) 0 (0, 0, 0, 0)).2.1 = t) := by rw [hS2]; exact fun q => by have q2 : j2 = t := q.2; omega
            refine z_aload_n dX9_line_63 rfl ?_
            refine z_bipush dX9_line_64 rfl ?_
            refine cs_X9_60 dX9_line_66 (D_X9_ref0 hM) MH_0 rfl rfl (Nat.le_of_ble_eq_true rfl) (by decide) (z_ki ?_)
            refine z_pop dX9_line_69 rfl ?_
            refine z_sipush dX9_line_70 rfl ?_
            refine z_aload_n dX9_line_73 rfl ?_
            refine gf_X9_67 dX9_line_74 MH_0 rfl ?_
            refine z_isub dX9_line_77 ?_
            exact z_iret F dX9_line_78 rfl (by decide) ⟨fun q => ⟨by rw [hS2], _, _, _, _, _, _, _, _, _, _, _, _, _, _, _, _, _, hha, rfl⟩, fun q => absurd q hno⟩
      · skip
        refine z_aload_n dX9_line_18 rfl ?_
        refine gf_X9_22 dX9_line_19 MH_0 rfl ?_
        refine z_iload_n dX9_line_22 rfl ?_
        refine z_aload_n dX9_line_23 rfl ?_
        refine gf_X9_19 dX9_line_24 MH_0 rfl ?_
        refine z_iload_n dX9_line_27 rfl ?_
        refine z_ialdN (m := r) dX9_line_28 (MH_4 hM) (by omega) ⟨by omega, by omega⟩ ?_
        refine z_iastN (m := r) dX9_line_29 (MH_5 hM) (by omega) ⟨by omega, by omega⟩ ?_
        refine z_heq (MHu_5 hM) ?_
        refine z_heq (h' := (MH h0 A Rf Nw Th Tp (cpT Tp 0 (r + 1) Tx) Kd Ia It Lk Ho Sz Im Mv kp (t : Int) (t : Int) at_ we pa de ti lf md mn hi ha is_ ca)) (by rw [cpT_s rfl (congrArg Tp (by omega))]) ?_
        refine z_iinc dX9_line_30 rfl rfl ?_
        refine z_goto dX9_line_33 (tgt := 10) rfl ?_
        exact ih (r + 1) (by omega) (by omega)
  exact L4 (t + 1) 0 (Nat.zero_le _) (by omega)
