/-! the reference: times -/
set_option maxHeartbeats 4000000 in
set_option maxRecDepth 100000 in
theorem D_X9_times {g : z_G} {h0 : z_H} {A : Nat → Nat} (hM : mD A) {Rf Nw Th Tp Tx Kd Ia It Lk Ho Sz Im Mv : Nat → Int} {kp ln sz at_ we pa de ti lf md mn hi ha is_ ca : Int} {G : Nat → z_G4} (hwf : nWf Nw G) {fi ti9 : Int} (hfi : z_in fi) (hti : z_in ti9) (hha : 0 ≤ ha ∧ ha ≤ 250) : z_D g mX9_times 25 0 0 [z_r (A 0), z_i fi, z_i ti9] (MH h0 A Rf Nw Th Tp Tx Kd Ia It Lk Ho Sz Im Mv kp ln sz at_ we pa de ti lf md mn hi ha is_ ca) (fun rv h' => (isL Nw fi ∧ isL Nw ti9 ∧ fi ≤ ti9 → rv = some (z_i (tmF Nw G (ti9 - fi + 1).toNat fi.toNat 50 0 (Nw 5025) (Nw 5023))) ∧ (∃ (Tx' Kd' Ia' It' Mv' : z_row) (sz' at_' we' pa' de' ti' lf' md' mn' hi' ha' is_' : Int), (0 ≤ ha' ∧ ha' ≤ 250) ∧ h' = (MH h0 A Rf Nw Th Tp Tx' Kd' Ia' It' Lk Ho Sz Im Mv' kp ln sz' at_' we' pa' de' ti' lf' md' mn' hi' ha' is_' ca))) ∧ (¬ (isL Nw fi ∧ isL Nw ti9 ∧ fi ≤ ti9) → rv = some (z_i (-92)) ∧ h' = (MH h0 A (z_sf Rf 0 (Rf 0 + 1)) Nw Th Tp Tx Kd Ia It Lk Ho Sz Im Mv kp ln sz at_ we pa de ti lf md mn hi ha is_ ca))) := by
  refine z_D.of (by decide +kernel) (Nat.le_of_ble_eq_true rfl) (fun X F => ?_)
  obtain ⟨w1, w2, w3, w4, w5, w6, w7⟩ := hwf
  show z_w g X cX9_times RX9 (25, 0, 0) 0 [z_r (A 0), z_i fi, z_i ti9, z_u, z_u, z_u, z_u] [] (MH h0 A Rf Nw Th Tp Tx Kd Ia It Lk Ho Sz Im Mv kp ln sz at_ we pa de ti lf md mn hi ha is_ ca) 0 0
  refine z_aload_n dX9_times_0 rfl ?_
  refine z_iload_n dX9_times_1 rfl ?_
  refine cs_X9_124 dX9_times_2 (D_X9_isLine hM (i := fi) ⟨by omega, by omega⟩ ⟨by omega, by omega⟩) MH_0 rfl rfl (Nat.le_of_ble_eq_true rfl) (by decide) (z_ki ?_)
  refine z_if_eq dX9_times_5 (tgt := 21) rfl ⟨by split <;> omega, by split <;> omega⟩ (fun c1 => ?_) (fun c1 => ?_)
  · skip
    refine z_aload_n dX9_times_21 rfl ?_
    refine z_bipush dX9_times_22 rfl ?_
    refine cs_X9_60 dX9_times_24 (D_X9_ref0 hM) MH_0 rfl rfl (Nat.le_of_ble_eq_true rfl) (by decide) (z_ki ?_)
    exact z_iret F dX9_times_27 rfl (by decide) ⟨fun q => absurd q (fun q => by omega), fun q => ⟨rfl, rfl⟩⟩
  · skip
    refine z_aload_n dX9_times_8 rfl ?_
    refine z_iload_n dX9_times_9 rfl ?_
    refine cs_X9_124 dX9_times_10 (D_X9_isLine hM (i := ti9) ⟨by omega, by omega⟩ ⟨by omega, by omega⟩) MH_0 rfl rfl (Nat.le_of_ble_eq_true rfl) (by decide) (z_ki ?_)
    refine z_if_eq dX9_times_13 (tgt := 21) rfl ⟨by split <;> omega, by split <;> omega⟩ (fun c2 => ?_) (fun c2 => ?_)
    · skip
      refine z_aload_n dX9_times_21 rfl ?_
      refine z_bipush dX9_times_22 rfl ?_
      refine cs_X9_60 dX9_times_24 (D_X9_ref0 hM) MH_0 rfl rfl (Nat.le_of_ble_eq_true rfl) (by decide) (z_ki ?_)
      exact z_iret F dX9_times_27 rfl (by decide) ⟨fun q => absurd q (fun q => by omega), fun q => ⟨rfl, rfl⟩⟩
    · skip
      refine z_iload_n dX9_times_16 rfl ?_
      refine z_iload_n dX9_times_17 rfl ?_
      refine z_icmp_ge dX9_times_18 (tgt := 28) rfl ⟨by omega, by omega⟩ ⟨by omega, by omega⟩ (fun c3 => ?_) (fun c3 => ?_)
      · skip
        obtain ⟨a, rfl⟩ : ∃ y : Nat, fi = (y : Int) := ⟨fi.toNat, by omega⟩
        obtain ⟨b, rfl⟩ : ∃ y : Nat, ti9 = (y : Int) := ⟨ti9.toNat, by omega⟩
        obtain ⟨E, hE⟩ : ∃ E : Nat, ((b : Int) - (a : Int) + 1).toNat = E := ⟨_, rfl⟩
        refine z_aload_n dX9_times_28 rfl ?_
        refine gf_X9_13 dX9_times_29 MH_0 rfl ?_
        refine z_sipush dX9_times_32 rfl ?_
        refine z_ialdN (m := 5023) dX9_times_35 (MH_2 hM) rfl ⟨by decide, by decide⟩ ?_
        refine z_istore_n dX9_times_36 (Nat.le_of_ble_eq_true rfl) rfl ?_
        refine z_aload_n dX9_times_37 rfl ?_
        refine gf_X9_13 dX9_times_38 MH_0 rfl ?_
        refine z_sipush dX9_times_41 rfl ?_
        refine z_ialdN (m := 5025) dX9_times_44 (MH_2 hM) rfl ⟨by decide, by decide⟩ ?_
        refine z_istore dX9_times_45 (Nat.le_of_ble_eq_true rfl) rfl ?_
        refine z_iconst dX9_times_47 ?_
        refine z_istore dX9_times_48 (Nat.le_of_ble_eq_true rfl) rfl ?_
        refine z_aload_n dX9_times_50 rfl ?_
        refine z_iconst dX9_times_51 ?_
        refine pf_X9_132 dX9_times_52 MH_0 (Nat.le_of_ble_eq_true rfl) ?_
        refine z_heq MHu_0 ?_
        have L4 : ∀ (fu : Nat) (rem : Nat) (on dn t : Int) (y6 : z_V) (Tx7 Kd7 Ia7 It7 Mv7 : z_row) (sz7 at7 we7 pa7 de7 ti7 lf7 md7 mn7 hi7 ha7 is7 : Int) (q1 : (hi7 = 0 ∧ tmF Nw G E a 50 0 (Nw 5025) (Nw 5023) = tmF Nw G E a rem t dn on ∧ (t + rem = 50 ∧ 0 ≤ t) ∧ (0 ≤ on ∧ on ≤ 60) ∧ (0 ≤ dn ∧ dn ≤ 50)) ∨ (¬ hi7 = 0 ∧ tmF Nw G E a 50 0 (Nw 5025) (Nw 5023) = t ∧ (0 ≤ t ∧ t ≤ 50))) (q3 : (0 ≤ ha7 ∧ ha7 ≤ 250) ∧ (0 ≤ hi7 ∧ hi7 ≤ 7)), rem < fu → z_w g X cX9_times RX9 (25, 0, 0) 55 [z_r (A 0), z_i (a : Int), z_i (b : Int), z_i on, z_i dn, z_i t, y6] [] (MH h0 A Rf Nw Th Tp Tx7 Kd7 Ia7 It7 Lk Ho Sz Im Mv7 kp ln sz7 at7 we7 pa7 de7 ti7 lf7 md7 mn7 hi7 ha7 is7 ca) 0 0 := by
          intro fu
          induction fu with
          | zero => intro rem on dn t y6 Tx7 Kd7 Ia7 It7 Mv7 sz7 at7 we7 pa7 de7 ti7 lf7 md7 mn7 hi7 ha7 is7 q1 q3 hm; exact absurd hm (Nat.not_lt_zero _)
          | succ fu ih =>
            intro rem on dn t y6 Tx7 Kd7 Ia7 It7 Mv7 sz7 at7 we7 pa7 de7 ti7 lf7 md7 mn7 hi7 ha7 is7 q1 q3 hm
            refine z_aload_n dX9_times_55 rfl ?_
            refine gf_X9_132 dX9_times_56 MH_0 rfl ?_
            refine z_if_ne dX9_times_59 (tgt := 142) rfl ⟨by omega, by omega⟩ (fun c4 => ?_) (fun c4 => ?_)
            · skip
              have hres : tmF Nw G E a 50 0 (Nw 5025) (Nw 5023) = t := (q1.resolve_left (fun q => c4 q.1)).2.1
              refine z_iload dX9_times_142 rfl ?_
              exact z_iret F dX9_times_144 rfl (by decide) ⟨fun q => ⟨congrArg (fun z => some (z_i z)) (by rw [hE]; exact hres.symm), _, _, _, _, _, _, _, _, _, _, _, _, _, _, _, _, _, q3.1, rfl⟩, fun q => absurd (by omega) q⟩
            · skip
              obtain ⟨g1, g2, g3, g4, g5⟩ := q1.resolve_right (fun q => q.1 (by omega))
              refine z_iload dX9_times_62 rfl ?_
              refine z_bipush dX9_times_64 rfl ?_
              refine z_icmp_ge dX9_times_66 (tgt := 142) rfl ⟨by omega, by omega⟩ (by decide) (fun c5 => ?_) (fun c5 => ?_)
              · skip
                have hres : tmF Nw G E a 50 0 (Nw 5025) (Nw 5023) = t := by rw [g2]; obtain rfl : rem = 0 := (by omega); rfl
                refine z_iload dX9_times_142 rfl ?_
                exact z_iret F dX9_times_144 rfl (by decide) ⟨fun q => ⟨congrArg (fun z => some (z_i z)) (by rw [hE]; exact hres.symm), _, _, _, _, _, _, _, _, _, _, _, _, _, _, _, _, _, q3.1, rfl⟩, fun q => absurd (by omega) q⟩
              · skip
                obtain ⟨rem', rfl⟩ : ∃ y, rem = y + 1 := ⟨rem - 1, by omega⟩
                refine z_iload_n dX9_times_69 rfl ?_
                refine z_istore dX9_times_70 (Nat.le_of_ble_eq_true rfl) rfl ?_
                have L5 : ∀ (fu : Nat) (k rm : Nat) (on8 dn8 : Int) (Tx8 Kd8 Ia8 It8 Mv8 : z_row) (sz8 at8 we8 pa8 de8 ti8 lf8 md8 mn8 hi8 ha8 is8 : Int) (p1 : k + rm = b + 1 ∧ a ≤ k) (p2 : (hi8 = 0 ∧ cbF Nw G E a on = cbF Nw G rm k on8 ∧ dn8 = dn + ((k : Int) - (a : Int)) ∧ dn8 ≤ 50) ∨ (¬ hi8 = 0 ∧ (dn + (E : Int) > 50 ∨ cbF Nw G E a on = -1))) (p3 : (0 ≤ on8 ∧ on8 ≤ 60) ∧ (0 ≤ dn8 ∧ dn8 ≤ 50) ∧ (0 ≤ ha8 ∧ ha8 ≤ 250) ∧ (0 ≤ hi8 ∧ hi8 ≤ 7)), rm < fu → z_w g X cX9_times RX9 (25, 0, 0) 72 [z_r (A 0), z_i (a : Int), z_i (b : Int), z_i on8, z_i dn8, z_i t, z_i (k : Int)] [] (MH h0 A Rf Nw Th Tp Tx8 Kd8 Ia8 It8 Lk Ho Sz Im Mv8 kp ln sz8 at8 we8 pa8 de8 ti8 lf8 md8 mn8 hi8 ha8 is8 ca) 0 0 := by
                  intro fu
                  induction fu with
                  | zero => intro k rm on8 dn8 Tx8 Kd8 Ia8 It8 Mv8 sz8 at8 we8 pa8 de8 ti8 lf8 md8 mn8 hi8 ha8 is8 p1 p2 p3 hm; exact absurd hm (Nat.not_lt_zero _)
                  | succ fu2 ih2 =>
                    intro k rm on8 dn8 Tx8 Kd8 Ia8 It8 Mv8 sz8 at8 we8 pa8 de8 ti8 lf8 md8 mn8 hi8 ha8 is8 p1 p2 p3 hm
                    refine z_iload dX9_times_72 rfl ?_
                    refine z_iload_n dX9_times_74 rfl ?_
                    refine z_icmp_gt dX9_times_75 (tgt := 122) rfl ⟨by omega, by omega⟩ ⟨by omega, by omega⟩ (fun c6 => ?_) (fun c6 => ?_)
                    · skip
                      obtain rfl : rm = 0 := by omega
                      refine z_iload dX9_times_122 rfl ?_
                      refine z_aload_n dX9_times_124 rfl ?_
                      refine gf_X9_132 dX9_times_125 MH_0 rfl ?_
                      refine z_if_ne dX9_times_128 (tgt := 135) rfl ⟨by omega, by omega⟩ (fun c7 => ?_) (fun c7 => ?_)
                      · skip
                        have p8 := (p2.resolve_left (fun q => c7 q.1)).2
                        have hT : tmF Nw G E a (rem' + 1) t dn on = t := by
                          show (if dn + (E : Int) ≤ 50 then (if cbF Nw G E a on = -1 then t else _) else t) = t
                          rcases p8 with q | q
                          · rw [if_neg (by omega)]
                          · rw [if_pos q]; split <;> rfl
                        refine z_iconst dX9_times_135 ?_
                        refine z_iadd dX9_times_136 ?_
                        refine z_istore dX9_times_137 (Nat.le_of_ble_eq_true rfl) rfl ?_
                        refine z_goto dX9_times_139 (tgt := 55) rfl ?_
                        exact ih rem' _ _ _ _ Tx8 Kd8 Ia8 It8 Mv8 sz8 at8 we8 pa8 de8 ti8 lf8 md8 mn8 hi8 ha8 is8 (Or.inr ⟨c7, by rw [g2, hT]; omega, by omega⟩) (by omega) (by omega)
                      · skip
                        obtain ⟨p4, p5, p6, p7⟩ := p2.resolve_right (fun q => q.1 (by omega))
                        have p5 : cbF Nw G E a on = on8 := p5
                        have p9 : dn8 = dn + (E : Int) := by omega
                        have hT : tmF Nw G E a (rem' + 1) t dn on = tmF Nw G E a rem' (t + 1) dn8 on8 := by
                          refine (if_pos (show dn + (E : Int) ≤ 50 by omega)).trans ((if_neg (show ¬ cbF Nw G E a on = -1 by omega)).trans ?_)
                          rw [p5, p9]
                        refine z_iconst dX9_times_131 ?_
                        refine z_goto dX9_times_132 (tgt := 136) rfl ?_
                        refine z_iadd dX9_times_136 ?_
                        refine z_istore dX9_times_137 (Nat.le_of_ble_eq_true rfl) rfl ?_
                        refine z_goto dX9_times_139 (tgt := 55) rfl ?_
                        exact ih rem' _ _ _ _ Tx8 Kd8 Ia8 It8 Mv8 sz8 at8 we8 pa8 de8 ti8 lf8 md8 mn8 hi8 ha8 is8 (Or.inl ⟨c7, g2.trans hT, by omega, by omega, by omega⟩) (by omega) (by omega)
                    · skip
                      obtain ⟨rm', rfl⟩ : ∃ y, rm = y + 1 := ⟨rm - 1, by omega⟩
                      refine z_aload_n dX9_times_78 rfl ?_
                      refine gf_X9_132 dX9_times_79 MH_0 rfl ?_
                      refine z_if_ne dX9_times_82 (tgt := 122) rfl ⟨by omega, by omega⟩ (fun c8 => ?_) (fun c8 => ?_)
                      · skip
                        refine z_iload dX9_times_122 rfl ?_
                        refine z_aload_n dX9_times_124 rfl ?_
                        refine gf_X9_132 dX9_times_125 MH_0 rfl ?_
                        refine z_if_ne dX9_times_128 (tgt := 135) rfl ⟨by omega, by omega⟩ (fun c9 => ?_) (fun c9 => ?_)
                        · skip
                          have p8 := (p2.resolve_left (fun q => c9 q.1)).2
                          have hT : tmF Nw G E a (rem' + 1) t dn on = t := by
                            show (if dn + (E : Int) ≤ 50 then (if cbF Nw G E a on = -1 then t else _) else t) = t
                            rcases p8 with q | q
                            · rw [if_neg (by omega)]
                            · rw [if_pos q]; split <;> rfl
                          refine z_iconst dX9_times_135 ?_
                          refine z_iadd dX9_times_136 ?_
                          refine z_istore dX9_times_137 (Nat.le_of_ble_eq_true rfl) rfl ?_
                          refine z_goto dX9_times_139 (tgt := 55) rfl ?_
                          exact ih rem' _ _ _ _ Tx8 Kd8 Ia8 It8 Mv8 sz8 at8 we8 pa8 de8 ti8 lf8 md8 mn8 hi8 ha8 is8 (Or.inr ⟨c9, by rw [g2, hT]; omega, by omega⟩) (by omega) (by omega)
                        · skip
                          exact absurd c9 (by omega)
                      · skip
                        obtain ⟨p4, p5, p6, p7⟩ := p2.resolve_right (fun q => q.1 (by omega))
                        refine z_iload dX9_times_85 rfl ?_
                        refine z_bipush dX9_times_87 rfl ?_
                        refine z_icmp_ne dX9_times_89 (tgt := 101) rfl ⟨by omega, by omega⟩ (by decide) (fun c10 => ?_) (fun c10 => ?_)
                        · skip
                          obtain ⟨⟨l1, l2⟩, l3, l4, -⟩ := w6 k (by omega)
                          refine z_aload_n dX9_times_101 rfl ?_
                          refine z_iload dX9_times_102 rfl ?_
                          refine z_iload_n dX9_times_104 rfl ?_
                          refine cs_X9_176 dX9_times_105 (D_X9_tries hM l1 (i := k) (by omega) l2 l3 l4 (y := on8) (by omega) (by omega)) MH_0 rfl rfl (Nat.le_of_ble_eq_true rfl) (by decide) (fun rv h' hq => ?_)
                          obtain ⟨rfl, at3, rfl⟩ := hq
                          obtain ⟨B, hB⟩ : ∃ B, B = wkA (nF Nw k) (G k).1 (G k).2.1 (G k).2.2.1 (G k).2.2.2.1 (G k).2.2.2.2 (Kd8, Ia8, It8, 0, on8, 0, 0, ha8, 0) := ⟨_, rfl⟩
                          have hV : wkV 0 (wR Nw G k on8) B := by rw [hB]; exact wkR_V
                          have hBO : wkO B := by rw [hB]; exact wkA_O l1 l4 (wkI_O (by omega) (by omega))
                          refine z_heq (congrArg _ hB.symm) ?_
                          obtain ⟨f3, fp3, ft3, z3, l3, m3, hi3, pl3, wi3⟩ := B
                          have hb3 : (0 ≤ z3 ∧ z3 ≤ 200) ∧ (0 ≤ l3 ∧ l3 ≤ 60) ∧ (0 ≤ m3 ∧ m3 ≤ 60) ∧ (0 ≤ hi3 ∧ hi3 ≤ 7) ∧ (0 ≤ pl3 ∧ pl3 ≤ 250) ∧ (0 ≤ wi3 ∧ wi3 ≤ 5) := ⟨hBO.1, hBO.2.1, hBO.2.2.1, hBO.2.2.2.1, hBO.2.2.2.2.1, hBO.2.2.2.2.2.1⟩
                          have hvz : z3 = k_z (wR Nw G k on8) := hV.2.1
                          have hvl : l3 = k_l (wR Nw G k on8) := hV.2.2.1
                          have hvm : m3 = k_m (wR Nw G k on8) := hV.2.2.2.1
                          have hvh : hi3 = k_h (wR Nw G k on8) := hV.2.2.2.2.1
                          show z_w _ _ _ _ _ _ _ [] (MH h0 A Rf Nw Th Tp (cpT Nw (251 * k + 1) (nF Nw k) Tx8) f3 fp3 ft3 Lk Ho Sz Im Mv8 kp ln (nF Nw k : Int) at3 1 pa8 de8 ti8 l3 m3 z3 hi3 pl3 wi3 ca) _ _
                          refine z_aload_n dX9_times_108 rfl ?_
                          refine gf_X9_151 dX9_times_109 MH_0 rfl ?_
                          refine z_istore_n dX9_times_112 (Nat.le_of_ble_eq_true rfl) rfl ?_
                          refine z_iinc dX9_times_113 rfl rfl ?_
                          refine z_iinc dX9_times_116 rfl rfl ?_
                          refine z_goto dX9_times_119 (tgt := 72) rfl ?_
                          exact ih2 (k + 1) rm' _ _ (cpT Nw (251 * k + 1) (nF Nw k) Tx8) f3 fp3 ft3 Mv8 (nF Nw k : Int) at3 1 pa8 de8 ti8 l3 m3 z3 hi3 pl3 wi3 (by omega) (by by_cases h0 : hi3 = 0; exact Or.inl ⟨h0, p5.trans ((if_neg (fun q => q (by omega))).trans (by rw [hvm])), by omega, by omega⟩; exact Or.inr ⟨h0, Or.inr (p5.trans (if_pos (by omega)))⟩) (by omega) (by omega)
                        · skip
                          refine z_aload_n dX9_times_92 rfl ?_
                          refine z_bipush dX9_times_93 rfl ?_
                          refine pf_X9_132 dX9_times_95 MH_0 (Nat.le_of_ble_eq_true rfl) ?_
                          refine z_heq MHu_0 ?_
                          refine z_goto dX9_times_98 (tgt := 116) rfl ?_
                          refine z_iinc dX9_times_116 rfl rfl ?_
                          refine z_goto dX9_times_119 (tgt := 72) rfl ?_
                          exact ih2 (k + 1) rm' _ _ Tx8 Kd8 Ia8 It8 Mv8 sz8 at8 we8 pa8 de8 ti8 lf8 md8 mn8 7 ha8 is8 (by omega) (Or.inr ⟨by decide, Or.inl (by omega)⟩) (by omega) (by omega)
                exact L5 (b + 2) a E _ _ Tx7 Kd7 Ia7 It7 Mv7 sz7 at7 we7 pa7 de7 ti7 lf7 md7 mn7 hi7 ha7 is7 (by omega) (Or.inl ⟨by omega, rfl, by omega, by omega⟩) (by omega) (by omega)
        exact L4 51 50 _ _ _ z_u Tx Kd Ia It Mv sz at_ we pa de ti lf md mn 0 ha is_ (Or.inl ⟨rfl, rfl, by omega, w4, w5⟩) (by omega) (by omega)
      · skip
        refine z_aload_n dX9_times_21 rfl ?_
        refine z_bipush dX9_times_22 rfl ?_
        refine cs_X9_60 dX9_times_24 (D_X9_ref0 hM) MH_0 rfl rfl (Nat.le_of_ble_eq_true rfl) (by decide) (z_ki ?_)
        exact z_iret F dX9_times_27 rfl (by decide) ⟨fun q => absurd q (fun q => by omega), fun q => ⟨rfl, rfl⟩⟩
/-! the reference: origin -/
def orP (N : z_row) : Nat → (Nat → Prop) → (Nat → Prop)
  | 0, b => b
  | m + 1, b => orP N m (RB (kR N m) (zF N m) (fun k => b (if N 5021 = 0 then (sG kM (kR N m) (zF N m)).toNat - 1 - k else k)))
theorem RB_lt {f : z_row} {z : Nat} {b : Nat → Prop} {p : Nat} (hs : sG kT f z ≤ 60) (h : RB f z b p) : p < 60 := by
  obtain ⟨i, h1, h2, h3, h4, h5⟩ := h
  have h6 := sG_mono kT_0 (f := f) z (i + 1) h1
  rw [sG_s] at h6
  omega
theorem tb_lt {v : Nat} (h : ∀ p, v.testBit p = true → p < 60) : v < 2 ^ 60 := Nat.lt_pow_two_of_testBit v (fun i hi => by
  cases hb : v.testBit i
  · rfl
  · have := h i hb
    omega)
set_option maxHeartbeats 4000000 in
set_option maxRecDepth 100000 in
theorem D_X9_origin {g : z_G} {h0 : z_H} {A : Nat → Nat} (hM : mD A) {Rf Nw Th Tp Tx Kd Ia It Lk Ho Sz Im Mv : Nat → Int} {kp ln sz at_ we pa de ti lf md mn hi ha is_ ca : Int} {G : Nat → z_G4} (hwf : nWf Nw G) {j9 : Int} (hj9 : z_in j9) : z_D g mX9_origin 4 0 0 [z_r (A 0), z_i j9] (MH h0 A Rf Nw Th Tp Tx Kd Ia It Lk Ho Sz Im Mv kp ln sz at_ we pa de ti lf md mn hi ha is_ ca) (fun rv h' => (0 ≤ j9 ∧ j9 < Nw 5023 → (∃ v : Nat, rv = some (z_l (v : Int)) ∧ ∀ p, v.testBit p = true ↔ orP Nw (Nw 5025).toNat (fun q => q = j9.toNat) p) ∧ h' = (MH h0 A Rf Nw Th Tp Tx Kd Ia It Lk Ho Sz Im Mv kp ln sz at_ we pa de ti lf md mn hi ha is_ ca)) ∧ (¬ (0 ≤ j9 ∧ j9 < Nw 5023) → rv = some (z_l (-92 - 9000000000000000000)) ∧ h' = (MH h0 A (z_sf Rf 0 (Rf 0 + 1)) Nw Th Tp Tx Kd Ia It Lk Ho Sz Im Mv kp ln sz at_ we pa de ti lf md mn hi ha is_ ca))) := by
  refine z_D.of (by decide +kernel) (Nat.le_of_ble_eq_true rfl) (fun X F => ?_)
  obtain ⟨w1, w2, w3, w4, w5, w6, w7⟩ := hwf
  show z_w g X cX9_origin RX9 (4, 0, 0) 0 [z_r (A 0), z_i j9, z_u, z_u, z_u, z_u, z_u, z_u, z_u, z_u] [] (MH h0 A Rf Nw Th Tp Tx Kd Ia It Lk Ho Sz Im Mv kp ln sz at_ we pa de ti lf md mn hi ha is_ ca) 0 0
  refine z_iload_n dX9_origin_0 rfl ?_
  refine z_i2l dX9_origin_1 ⟨by omega, by omega⟩ ?_
  refine z_lconst0 dX9_origin_2 ?_
  refine z_aload_n dX9_origin_3 rfl ?_
  refine gf_X9_13 dX9_origin_4 MH_0 rfl ?_
  refine z_sipush dX9_origin_7 rfl ?_
  refine z_ialdN (m := 5023) dX9_origin_10 (MH_2 hM) rfl ⟨by decide, by decide⟩ ?_
  refine z_iconst dX9_origin_11 ?_
  refine z_isub dX9_origin_12 ?_
  refine z_i2l dX9_origin_13 ⟨by omega, by omega⟩ ?_
  refine cs_X9_56 dX9_origin_14 (D_X9_isIn (v := j9) (lo := 0) (hi := (Nw 5023) - 1) ⟨by omega, by omega⟩ (by decide) ⟨by omega, by omega⟩) rfl rfl (Nat.le_of_ble_eq_true rfl) (by decide) (z_ki ?_)
  refine z_if_ne dX9_origin_17 (tgt := 32) rfl ⟨by split <;> omega, by split <;> omega⟩ (fun c1 => ?_) (fun c1 => ?_)
  · skip
    obtain ⟨j, rfl⟩ : ∃ y : Nat, j9 = (y : Int) := ⟨j9.toNat, by omega⟩
    refine z_lconst1 dX9_origin_32 ?_
    refine z_iload_n dX9_origin_33 rfl ?_
    refine z_lshl (a := 1) (s := j) (by omega) dX9_origin_34 ?_
    refine z_lstore_n dX9_origin_35 (Nat.le_of_ble_eq_true rfl) rfl ?_
    refine z_aload_n dX9_origin_36 rfl ?_
    refine gf_X9_13 dX9_origin_37 MH_0 rfl ?_
    refine z_sipush dX9_origin_40 rfl ?_
    refine z_ialdN (m := 5025) dX9_origin_43 (MH_2 hM) rfl ⟨by decide, by decide⟩ ?_
    refine z_iconst dX9_origin_44 ?_
    refine z_isub dX9_origin_45 ?_
    refine z_istore dX9_origin_46 (Nat.le_of_ble_eq_true rfl) rfl ?_
    refine z_lseq (ls2 := [z_r (A 0), z_i (j : Int), z_l ((1 * 2 ^ j : Nat) : Int), z_u, z_i ((Nw 5025) - 1), z_u, z_u, z_u, z_u, z_u]) rfl ?_
    obtain ⟨M, hM9⟩ : ∃ M : Nat, Nw 5025 = (M : Int) := ⟨(Nw 5025).toNat, by omega⟩
    have hM8 : (Nw 5025).toNat = M := by omega
    have hj60 : j < 60 := by omega
    refine z_lseq (ls2 := [z_r (A 0), z_i (j : Int), z_l ((1 * 2 ^ j : Nat) : Int), z_u, z_i ((M : Int) - 1), z_u, z_u, z_u, z_u, z_u]) (by rw [hM9]) ?_
    have hv0 : (1 * 2 ^ j : Nat) < 2 ^ 60 := by rw [Nat.one_mul]; exact Nat.pow_lt_pow_right (by decide) hj60
    have hv1 : orP Nw M (fun q => q = j) = orP Nw M (fun p => (1 * 2 ^ j : Nat).testBit p = true) := congrArg _ (by funext p; rw [Nat.one_mul, Nat.testBit_two_pow, decide_eq_true_eq]; exact propext ⟨fun q => q.symm, fun q => q.symm⟩)
    have L4 : ∀ (fu : Nat) (m v : Nat) (y5 y6 y7 y8 y9 : z_V) (q1 : (m : Int) ≤ Nw 5025) (q2 : v < 2 ^ 60) (q3 : orP Nw M (fun q => q = j) = orP Nw m (fun p => v.testBit p = true)), m < fu → z_w g X cX9_origin RX9 (4, 0, 0) 48 [z_r (A 0), z_i (j : Int), z_l (v : Int), z_u, z_i ((m : Int) - 1), y5, y6, y7, y8, y9] [] (MH h0 A Rf Nw Th Tp Tx Kd Ia It Lk Ho Sz Im Mv kp ln sz at_ we pa de ti lf md mn hi ha is_ ca) 0 0 := by
      intro fu
      induction fu with
      | zero => intro m v y5 y6 y7 y8 y9 q1 q2 q3 hm; exact absurd hm (Nat.not_lt_zero _)
      | succ fu ih =>
        intro m v y5 y6 y7 y8 y9 q1 q2 q3 hm
        refine z_iload dX9_origin_48 rfl ?_
        refine z_if_lt dX9_origin_50 (tgt := 142) rfl ⟨by omega, by omega⟩ (fun c2 => ?_) (fun c2 => ?_)
        · skip
          obtain rfl : m = 0 := by omega
          refine z_lload_n dX9_origin_142 rfl ?_
          exact z_lret F dX9_origin_143 rfl (by decide) ⟨fun q => ⟨⟨v, rfl, fun p => by rw [hM8]; show _ ↔ orP Nw M (fun q => q = j) p; rw [q3]; exact Iff.rfl⟩, rfl⟩, fun q => absurd (by omega) q⟩
        · skip
          obtain ⟨m2, rfl⟩ : ∃ y, m = y + 1 := ⟨m - 1, by omega⟩
          have hR := w7 m2 (by omega)
          have hW := hR.1
          have s1 := hR.2.2.2.2.1
          have s2 := hR.2.2.2.2.2.1
          have s0 := sG_0 kM_0 (f := kR Nw m2) (m := zF Nw m2)
          have hz200 := hW.2.2.1
          obtain ⟨n, hn⟩ : ∃ y : Nat, sG kM (kR Nw m2) (zF Nw m2) = (y : Int) := ⟨(sG kM (kR Nw m2) (zF Nw m2)).toNat, by omega⟩
          have hm2 : ((m2 + 1 : Nat) : Int) - 1 = (m2 : Int) := by omega
          refine z_lseq (ls2 := [z_r (A 0), z_i (j : Int), z_l (v : Int), z_u, z_i (m2 : Int), y5, y6, y7, y8, y9]) (by rw [hm2]) ?_
          refine z_aload_n dX9_origin_53 rfl ?_
          refine z_iload dX9_origin_54 rfl ?_
          refine cs_X9_239 dX9_origin_56 (D_X9_madeBy hM hW) MH_0 rfl rfl (Nat.le_of_ble_eq_true rfl) (by decide) (z_ki ?_)
          refine z_ieq (y := (n : Int)) hn ?_
          refine z_istore dX9_origin_59 (Nat.le_of_ble_eq_true rfl) rfl ?_
          refine z_lconst0 dX9_origin_61 ?_
          refine z_lstore dX9_origin_62 (Nat.le_of_ble_eq_true rfl) rfl ?_
          refine z_iconst dX9_origin_64 ?_
          refine z_istore dX9_origin_65 (Nat.le_of_ble_eq_true rfl) rfl ?_
          refine z_lseq (ls2 := [z_r (A 0), z_i (j : Int), z_l (v : Int), z_u, z_i (m2 : Int), z_i (n : Int), z_l ((0 : Nat) : Int), z_u, z_i ((0 : Nat) : Int), y9]) rfl ?_
          have L5 : ∀ (fu : Nat) (r u : Nat) (y9b : z_V) (p1 : r ≤ n) (p2 : ∀ p, u.testBit p = true ↔ RB (kR Nw m2) (zF Nw m2) (fun k => k < r ∧ v.testBit (if Nw 5021 = 0 then n - 1 - k else k) = true) p), n - r < fu → z_w g X cX9_origin RX9 (4, 0, 0) 67 [z_r (A 0), z_i (j : Int), z_l (v : Int), z_u, z_i (m2 : Int), z_i (n : Int), z_l (u : Int), z_u, z_i (r : Int), y9b] [] (MH h0 A Rf Nw Th Tp Tx Kd Ia It Lk Ho Sz Im Mv kp ln sz at_ we pa de ti lf md mn hi ha is_ ca) 0 0 := by
            intro fu
            induction fu with
            | zero => intro r u y9b p1 p2 hm; exact absurd hm (Nat.not_lt_zero _)
            | succ fu2 ih2 =>
              intro r u y9b p1 p2 hm
              refine z_iload dX9_origin_67 rfl ?_
              refine z_iload dX9_origin_69 rfl ?_
              refine z_icmp_ge dX9_origin_71 (tgt := 133) rfl ⟨by omega, by omega⟩ ⟨by omega, by omega⟩ (fun c3 => ?_) (fun c3 => ?_)
              · skip
                obtain rfl : r = n := by omega
                have hu2 : u < 2 ^ 60 := tb_lt (fun p h => RB_lt s1 ((p2 p).mp h))
                have hOR : orP Nw (m2 + 1) (fun p => v.testBit p = true) = orP Nw m2 (fun p => u.testBit p = true) := by
                  show orP Nw m2 (RB (kR Nw m2) (zF Nw m2) (fun k => v.testBit (if Nw 5021 = 0 then (sG kM (kR Nw m2) (zF Nw m2)).toNat - 1 - k else k) = true)) = _
                  refine congrArg _ (funext fun p => propext ?_)
                  rw [p2 p, show (sG kM (kR Nw m2) (zF Nw m2)).toNat = r by omega]
                  constructor
                  · rintro ⟨i, h1, h2, h3, h4⟩
                    have h5 := sG_mono kM_0 (f := kR Nw m2) (zF Nw m2) (i + 1) h1
                    have h6 := sG_0 kM_0 (f := kR Nw m2) (m := i)
                    rw [sG_s] at h5
                    exact ⟨i, h1, h2, ⟨by omega, h3⟩, h4⟩
                  · rintro ⟨i, h1, h2, h3, h4⟩
                    exact ⟨i, h1, h2, h3.2, h4⟩
                refine z_lload dX9_origin_133 rfl ?_
                refine z_lstore_n dX9_origin_135 (Nat.le_of_ble_eq_true rfl) rfl ?_
                refine z_iinc dX9_origin_136 rfl rfl ?_
                refine z_goto dX9_origin_139 (tgt := 48) rfl ?_
                exact ih m2 u _ _ _ _ _ (by omega) hu2 (q3.trans hOR) (by omega)
              · skip
                refine z_aload_n dX9_origin_74 rfl ?_
                refine gf_X9_13 dX9_origin_75 MH_0 rfl ?_
                refine z_sipush dX9_origin_78 rfl ?_
                refine z_ialdN (m := 5021) dX9_origin_81 (MH_2 hM) rfl ⟨by decide, by decide⟩ ?_
                refine z_if_ne dX9_origin_82 (tgt := 95) rfl ⟨by omega, by omega⟩ (fun c4 => ?_) (fun c4 => ?_)
                · skip
                  have hpl : (if Nw 5021 = 0 then n - 1 - r else r) = r := if_neg c4
                  refine z_iload dX9_origin_95 rfl ?_
                  obtain ⟨q, hq⟩ : ∃ y : Nat, (if Nw 5021 = 0 then n - 1 - r else r) = y := ⟨_, rfl⟩
                  refine z_ieq (y := (q : Int)) (by omega) ?_
                  refine z_istore dX9_origin_97 (Nat.le_of_ble_eq_true rfl) rfl ?_
                  refine z_lload dX9_origin_99 rfl ?_
                  refine z_lload_n dX9_origin_101 rfl ?_
                  refine z_iload dX9_origin_102 rfl ?_
                  refine z_lshr (a := v) (s := q) (by omega) (by omega) dX9_origin_104 ?_
                  refine z_lconst1 dX9_origin_105 ?_
                  refine z_land (a := (v / 2 ^ q)) (b := 1) (by have := Nat.div_le_self v (2 ^ q); omega) (by decide) dX9_origin_106 ?_
                  refine z_leq (y := ((v / 2 ^ q % 2 : Nat) : Int)) (by rw [Nat.and_one_is_mod]) ?_
                  refine z_lconst1 dX9_origin_107 ?_
                  refine z_lcmp dX9_origin_108 ⟨by omega, by omega⟩ (by decide) ?_
                  refine z_if_ne dX9_origin_109 (tgt := 123) rfl (z_cmpin _ _) (fun c5 => ?_) (fun c5 => ?_)
                  · have c5 : ((v / 2 ^ q % 2 : Nat) : Int) ≠ 1 := z_cmp_ne c5
                    refine z_lconst0 dX9_origin_123 ?_
                    have hu63 : u < 2 ^ 60 := tb_lt (fun p h => RB_lt s1 ((p2 p).mp h))
                    have hb : ¬ v.testBit q = true := by rw [Nat.testBit_eq_decide_div_mod_eq, decide_eq_true_eq]; omega
                    refine z_lor (a := u) (b := 0) (by omega) (by decide) dX9_origin_124 ?_
                    refine z_lstore dX9_origin_125 (Nat.le_of_ble_eq_true rfl) rfl ?_
                    refine z_iinc dX9_origin_127 rfl rfl ?_
                    refine z_goto dX9_origin_130 (tgt := 67) rfl ?_
                    exact ih2 (r + 1) _ _ (by omega) (fun p => by rw [Nat.or_zero, p2 p]; exact ⟨fun h => by obtain ⟨i, h1, h2, h3, h4⟩ := h; exact ⟨i, h1, h2, ⟨by have := h3.1; omega, h3.2⟩, h4⟩, fun h => by obtain ⟨i, h1, h2, h3, h4⟩ := h; exact (Nat.lt_or_ge (sG kM (kR Nw m2) i).toNat r).elim (fun c => ⟨i, h1, h2, ⟨c, h3.2⟩, h4⟩) (fun c => absurd (by have h5 := h3.2; have h6 := h3.1; rw [show (sG kM (kR Nw m2) i).toNat = r by omega, hq] at h5; exact h5) hb)⟩) (by omega)
                  · have c5 : ((v / 2 ^ q % 2 : Nat) : Int) = 1 := z_cmp_nne c5
                    refine z_aload_n dX9_origin_112 rfl ?_
                    refine z_iload dX9_origin_113 rfl ?_
                    refine z_iload dX9_origin_115 rfl ?_
                    refine cs_X9_242 dX9_origin_117 (D_X9_rooted hM hW (j := r) s1 s2 (by omega)) MH_0 rfl rfl (Nat.le_of_ble_eq_true rfl) (by decide) (fun rv h' hq9 => ?_)
                    obtain ⟨⟨v2, rfl, hv2, hvt⟩, rfl⟩ := hq9
                    refine z_ks ?_
                    refine z_goto dX9_origin_120 (tgt := 124) rfl ?_
                    have hu63 : u < 2 ^ 60 := tb_lt (fun p h => RB_lt s1 ((p2 p).mp h))
                    have hb : v.testBit q = true := by rw [Nat.testBit_eq_decide_div_mod_eq, decide_eq_true_eq]; omega
                    refine z_lor (a := u) (b := v2) (by omega) (by omega) dX9_origin_124 ?_
                    refine z_lstore dX9_origin_125 (Nat.le_of_ble_eq_true rfl) rfl ?_
                    refine z_iinc dX9_origin_127 rfl rfl ?_
                    refine z_goto dX9_origin_130 (tgt := 67) rfl ?_
                    exact ih2 (r + 1) _ _ (by omega) (fun p => by rw [Nat.testBit_or, Bool.or_eq_true, p2 p, hvt p]; exact ⟨fun h => h.elim (fun h => by obtain ⟨i, h1, h2, h3, h4⟩ := h; exact ⟨i, h1, h2, ⟨by have := h3.1; omega, h3.2⟩, h4⟩) (fun h => by obtain ⟨i, h1, h2, h3, h4⟩ := h; exact ⟨i, h1, h2, ⟨by show (sG kM (kR Nw m2) i).toNat < r + 1; omega, by show v.testBit (if Nw 5021 = 0 then n - 1 - (sG kM (kR Nw m2) i).toNat else (sG kM (kR Nw m2) i).toNat) = true; rw [show (sG kM (kR Nw m2) i).toNat = r from h3, hq]; exact hb⟩, h4⟩), fun h => by obtain ⟨i, h1, h2, h3, h4⟩ := h; exact (Nat.lt_or_ge (sG kM (kR Nw m2) i).toNat r).elim (fun c => Or.inl ⟨i, h1, h2, ⟨c, h3.2⟩, h4⟩) (fun c => Or.inr ⟨i, h1, h2, by show (sG kM (kR Nw m2) i).toNat = r; have := h3.1; omega, h4⟩)⟩) (by omega)
                · skip
                  have hpl : (if Nw 5021 = 0 then n - 1 - r else r) = n - 1 - r := if_pos (by omega)
                  refine z_iload dX9_origin_85 rfl ?_
                  refine z_iconst dX9_origin_87 ?_
                  refine z_isub dX9_origin_88 ?_
                  refine z_iload dX9_origin_89 rfl ?_
                  refine z_isub dX9_origin_91 ?_
                  refine z_goto dX9_origin_92 (tgt := 97) rfl ?_
                  obtain ⟨q, hq⟩ : ∃ y : Nat, (if Nw 5021 = 0 then n - 1 - r else r) = y := ⟨_, rfl⟩
                  refine z_ieq (y := (q : Int)) (by omega) ?_
                  refine z_istore dX9_origin_97 (Nat.le_of_ble_eq_true rfl) rfl ?_
                  refine z_lload dX9_origin_99 rfl ?_
                  refine z_lload_n dX9_origin_101 rfl ?_
                  refine z_iload dX9_origin_102 rfl ?_
                  refine z_lshr (a := v) (s := q) (by omega) (by omega) dX9_origin_104 ?_
                  refine z_lconst1 dX9_origin_105 ?_
                  refine z_land (a := (v / 2 ^ q)) (b := 1) (by have := Nat.div_le_self v (2 ^ q); omega) (by decide) dX9_origin_106 ?_
                  refine z_leq (y := ((v / 2 ^ q % 2 : Nat) : Int)) (by rw [Nat.and_one_is_mod]) ?_
                  refine z_lconst1 dX9_origin_107 ?_
                  refine z_lcmp dX9_origin_108 ⟨by omega, by omega⟩ (by decide) ?_
                  refine z_if_ne dX9_origin_109 (tgt := 123) rfl (z_cmpin _ _) (fun c6 => ?_) (fun c6 => ?_)
                  · have c6 : ((v / 2 ^ q % 2 : Nat) : Int) ≠ 1 := z_cmp_ne c6
                    refine z_lconst0 dX9_origin_123 ?_
                    have hu63 : u < 2 ^ 60 := tb_lt (fun p h => RB_lt s1 ((p2 p).mp h))
                    have hb : ¬ v.testBit q = true := by rw [Nat.testBit_eq_decide_div_mod_eq, decide_eq_true_eq]; omega
                    refine z_lor (a := u) (b := 0) (by omega) (by decide) dX9_origin_124 ?_
                    refine z_lstore dX9_origin_125 (Nat.le_of_ble_eq_true rfl) rfl ?_
                    refine z_iinc dX9_origin_127 rfl rfl ?_
                    refine z_goto dX9_origin_130 (tgt := 67) rfl ?_
                    exact ih2 (r + 1) _ _ (by omega) (fun p => by rw [Nat.or_zero, p2 p]; exact ⟨fun h => by obtain ⟨i, h1, h2, h3, h4⟩ := h; exact ⟨i, h1, h2, ⟨by have := h3.1; omega, h3.2⟩, h4⟩, fun h => by obtain ⟨i, h1, h2, h3, h4⟩ := h; exact (Nat.lt_or_ge (sG kM (kR Nw m2) i).toNat r).elim (fun c => ⟨i, h1, h2, ⟨c, h3.2⟩, h4⟩) (fun c => absurd (by have h5 := h3.2; have h6 := h3.1; rw [show (sG kM (kR Nw m2) i).toNat = r by omega, hq] at h5; exact h5) hb)⟩) (by omega)
                  · have c6 : ((v / 2 ^ q % 2 : Nat) : Int) = 1 := z_cmp_nne c6
                    refine z_aload_n dX9_origin_112 rfl ?_
                    refine z_iload dX9_origin_113 rfl ?_
                    refine z_iload dX9_origin_115 rfl ?_
                    refine cs_X9_242 dX9_origin_117 (D_X9_rooted hM hW (j := r) s1 s2 (by omega)) MH_0 rfl rfl (Nat.le_of_ble_eq_true rfl) (by decide) (fun rv h' hq9 => ?_)
                    obtain ⟨⟨v2, rfl, hv2, hvt⟩, rfl⟩ := hq9
                    refine z_ks ?_
                    refine z_goto dX9_origin_120 (tgt := 124) rfl ?_
                    have hu63 : u < 2 ^ 60 := tb_lt (fun p h => RB_lt s1 ((p2 p).mp h))
                    have hb : v.testBit q = true := by rw [Nat.testBit_eq_decide_div_mod_eq, decide_eq_true_eq]; omega
                    refine z_lor (a := u) (b := v2) (by omega) (by omega) dX9_origin_124 ?_
                    refine z_lstore dX9_origin_125 (Nat.le_of_ble_eq_true rfl) rfl ?_
                    refine z_iinc dX9_origin_127 rfl rfl ?_
                    refine z_goto dX9_origin_130 (tgt := 67) rfl ?_
                    exact ih2 (r + 1) _ _ (by omega) (fun p => by rw [Nat.testBit_or, Bool.or_eq_true, p2 p, hvt p]; exact ⟨fun h => h.elim (fun h => by obtain ⟨i, h1, h2, h3, h4⟩ := h; exact ⟨i, h1, h2, ⟨by have := h3.1; omega, h3.2⟩, h4⟩) (fun h => by obtain ⟨i, h1, h2, h3, h4⟩ := h; exact ⟨i, h1, h2, ⟨by show (sG kM (kR Nw m2) i).toNat < r + 1; omega, by show v.testBit (if Nw 5021 = 0 then n - 1 - (sG kM (kR Nw m2) i).toNat else (sG kM (kR Nw m2) i).toNat) = true; rw [show (sG kM (kR Nw m2) i).toNat = r from h3, hq]; exact hb⟩, h4⟩), fun h => by obtain ⟨i, h1, h2, h3, h4⟩ := h; exact (Nat.lt_or_ge (sG kM (kR Nw m2) i).toNat r).elim (fun c => Or.inl ⟨i, h1, h2, ⟨c, h3.2⟩, h4⟩) (fun c => Or.inr ⟨i, h1, h2, by show (sG kM (kR Nw m2) i).toNat = r; have := h3.1; omega, h4⟩)⟩) (by omega)
          exact L5 (n + 1) 0 0 y9 (Nat.zero_le _) (fun p => tb_0.trans ⟨fun h => h.elim, fun h => by obtain ⟨i, h1, h2, h3, h4⟩ := h; exact absurd h3.1 (Nat.not_lt_zero _)⟩) (by omega)
    exact L4 (M + 1) M _ z_u z_u z_u z_u z_u (by omega) hv0 hv1 (by omega)
  · skip
    refine z_aload_n dX9_origin_20 rfl ?_
    refine z_bipush dX9_origin_21 rfl ?_
    refine cs_X9_60 dX9_origin_23 (D_X9_ref0 hM) MH_0 rfl rfl (Nat.le_of_ble_eq_true rfl) (by decide) (z_ki ?_)
    refine z_i2l dX9_origin_26 (by decide) ?_
    refine z_ldc2 dX9_origin_27 lw_X9_210 ?_
    refine z_lsub dX9_origin_30 ?_
    exact z_lret F dX9_origin_31 rfl (by decide) ⟨fun q => absurd q (fun q => by omega), fun q => ⟨rfl, rfl⟩⟩
