/-! the law: its loop -/
set_option maxHeartbeats 4000000 in
set_option maxRecDepth 100000 in
theorem w_loop {g : z_G} {X : z_X} {ad : Nat → Nat} {r : Nat × Nat × Nat} (hI : aJ ad) (hN : g_L g ≤ 3072) (hr : 40 ≤ r.1 ∧ 4000 ≤ r.2.1 ∧ 720000 ≤ r.2.2) (hE : ∀ (h : z_H) (ls : List z_V) (k n : Nat), k ≤ 4000 → n ≤ 720000 → z_w g X cL_law RL r 1481 ls [z_i 1] h k n) : ∀ (fu i k n : Nat) (h : z_H), lI h ad → i ≤ 3078 → k ≤ 400 + i → n ≤ 60000 + 210 * i → g_L g + 6 < fu + i → z_w g X cL_law RL r 18 [z_r (g_b g), z_r (ad 0), z_r (lA ad 0), z_i (i : Int)] [] h k n := by
  intro fu
  induction fu with
  | zero =>
      intro i k n h hL hi hk hn hf
      refine z_iload_n dL_law_18 rfl ?_
      refine z_aload_n dL_law_19 rfl ?_
      refine z_xlen dL_law_20 ?_
      refine z_bipush dL_law_21 rfl ?_
      refine z_isub dL_law_23 ?_
      refine z_icmp_gt dL_law_24 (tgt := 1480) rfl ⟨by omega, by omega⟩ ⟨by omega, by omega⟩ (fun c1 => ?_) (fun c1 => ?_)
      · refine z_iconst dL_law_1480 ?_
        exact hE _ _ _ _ (by omega) (by omega)
      · exfalso; omega
  | succ fu ih =>
    intro i k n h hL hi hk hn hf
    refine z_iload_n dL_law_18 rfl ?_
    refine z_aload_n dL_law_19 rfl ?_
    refine z_xlen dL_law_20 ?_
    refine z_bipush dL_law_21 rfl ?_
    refine z_isub dL_law_23 ?_
    refine z_icmp_gt dL_law_24 (tgt := 1480) rfl ⟨by omega, by omega⟩ ⟨by omega, by omega⟩ (fun c1 => ?_) (fun c1 => ?_)
    · refine z_iconst dL_law_1480 ?_
      exact hE _ _ _ _ (by omega) (by omega)
    · skip
      have h6 : i + 6 ≤ g_L g := by omega
      have KK : ∀ h2, lI h2 ad → z_w g X cL_law RL r 1474 [z_r (g_b g), z_r (ad 0), z_r (lA ad 0), z_i (i : Int)] [] h2 (k + 6) (n + 1260) := fun h2 hL2 => by
        refine z_iinc dL_law_1474 rfl rfl ?_
        refine z_goto dL_law_1477 (tgt := 18) rfl ?_
        exact ih (i + 6) (k + 6) (n + 1260) h2 hL2 (by omega) (by omega) (by omega) (by omega)
      have hr2 : 40 ≤ r.1 ∧ k + 6 ≤ r.2.1 ∧ n + 1260 ≤ r.2.2 := ⟨hr.1, by omega, by omega⟩
      refine z_aload_n dL_law_27 rfl ?_
      refine z_iload_n dL_law_28 rfl ?_
      refine z_xld (m := i) dL_law_29 rfl ⟨by omega, by omega⟩ ?_
      refine z_bipush dL_law_30 rfl ?_
      refine z_iand63 dL_law_32 ?_
      generalize hw : lx g i % 64 = w
      have hw2 : 0 ≤ w ∧ w < 64 := by omega
      by_cases c_0 : w = 0
      · exact z_tabIn dL_law_33 ⟨by omega, by omega⟩ (tgt := 220) (off := 187) (by omega) (by omega) (by rw [c_0]; rfl) rfl (w_row hI hL h6 hN hr2 KK)
      by_cases c_1 : w = 1
      · exact z_tabIn dL_law_33 ⟨by omega, by omega⟩ (tgt := 263) (off := 230) (by omega) (by omega) (by rw [c_1]; rfl) rfl (w_set hI hL h6 hN hr2 KK)
      by_cases c_2 : w = 2
      · exact z_tabIn dL_law_33 ⟨by omega, by omega⟩ (tgt := 336) (off := 303) (by omega) (by omega) (by rw [c_2]; rfl) rfl (w_copy hI hL h6 hN hr2 KK)
      by_cases c_3 : w = 3
      · exact z_tabIn dL_law_33 ⟨by omega, by omega⟩ (tgt := 399) (off := 366) (by omega) (by omega) (by rw [c_3]; rfl) rfl (w_element hI hL h6 hN hr2 KK)
      by_cases c_4 : w = 4
      · exact z_tabIn dL_law_33 ⟨by omega, by omega⟩ (tgt := 433) (off := 400) (by omega) (by omega) (by rw [c_4]; rfl) rfl (w_holds hI hL h6 hN hr2 KK)
      by_cases c_5 : w = 5
      · exact z_tabIn dL_law_33 ⟨by omega, by omega⟩ (tgt := 456) (off := 423) (by omega) (by omega) (by rw [c_5]; rfl) rfl (w_show hI hL h6 hN hr2 KK)
      by_cases c_6 : w = 6
      · exact z_tabIn dL_law_33 ⟨by omega, by omega⟩ (tgt := 499) (off := 466) (by omega) (by omega) (by rw [c_6]; rfl) rfl (w_says hI hL h6 hN hr2 KK)
      by_cases c_7 : w = 7
      · exact z_tabIn dL_law_33 ⟨by omega, by omega⟩ (tgt := 532) (off := 499) (by omega) (by omega) (by rw [c_7]; rfl) rfl (w_feed hI hL h6 hN hr2 KK)
      by_cases c_8 : w = 8
      · exact z_tabIn dL_law_33 ⟨by omega, by omega⟩ (tgt := 555) (off := 522) (by omega) (by omega) (by rw [c_8]; rfl) rfl (w_wipe hI hL h6 hN hr2 KK)
      by_cases c_9 : w = 9
      · exact z_tabIn dL_law_33 ⟨by omega, by omega⟩ (tgt := 568) (off := 535) (by omega) (by omega) (by rw [c_9]; rfl) rfl (w_line hI hL h6 hN hr2 KK)
      by_cases c_10 : w = 10
      · exact z_tabIn dL_law_33 ⟨by omega, by omega⟩ (tgt := 581) (off := 548) (by omega) (by omega) (by rw [c_10]; rfl) rfl (w_drop hI hL h6 hN hr2 KK)
      by_cases c_11 : w = 11
      · exact z_tabIn dL_law_33 ⟨by omega, by omega⟩ (tgt := 594) (off := 561) (by omega) (by omega) (by rw [c_11]; rfl) rfl (w_mode hI hL h6 hN hr2 KK)
      by_cases c_12 : w = 12
      · exact z_tabIn dL_law_33 ⟨by omega, by omega⟩ (tgt := 617) (off := 584) (by omega) (by omega) (by rw [c_12]; rfl) rfl (w_cast hI hL h6 hN hr2 KK)
      by_cases c_13 : w = 13
      · exact z_tabIn dL_law_33 ⟨by omega, by omega⟩ (tgt := 640) (off := 607) (by omega) (by omega) (by rw [c_13]; rfl) rfl (w_work hI hL h6 hN hr2 KK)
      by_cases c_14 : w = 14
      · exact z_tabIn dL_law_33 ⟨by omega, by omega⟩ (tgt := 663) (off := 630) (by omega) (by omega) (by rw [c_14]; rfl) rfl (w_run hI hL h6 hN hr2 KK)
      by_cases c_15 : w = 15
      · exact z_tabIn dL_law_33 ⟨by omega, by omega⟩ (tgt := 706) (off := 673) (by omega) (by omega) (by rw [c_15]; rfl) rfl (w_rip hI hL h6 hN hr2 KK)
      by_cases c_16 : w = 16
      · exact z_tabIn dL_law_33 ⟨by omega, by omega⟩ (tgt := 729) (off := 696) (by omega) (by omega) (by rw [c_16]; rfl) rfl (w_causes hI hL h6 hN hr2 KK)
      by_cases c_17 : w = 17
      · exact z_tabIn dL_law_33 ⟨by omega, by omega⟩ (tgt := 742) (off := 709) (by omega) (by omega) (by rw [c_17]; rfl) rfl (w_why hI hL h6 hN hr2 KK)
      by_cases c_18 : w = 18
      · exact z_tabIn dL_law_33 ⟨by omega, by omega⟩ (tgt := 775) (off := 742) (by omega) (by omega) (by rw [c_18]; rfl) rfl (w_lineOf hI hL h6 hN hr2 KK)
      by_cases c_19 : w = 19
      · exact z_tabIn dL_law_33 ⟨by omega, by omega⟩ (tgt := 808) (off := 775) (by omega) (by omega) (by rw [c_19]; rfl) rfl (w_text hI hL h6 hN hr2 KK)
      by_cases c_20 : w = 20
      · exact z_tabIn dL_law_33 ⟨by omega, by omega⟩ (tgt := 841) (off := 808) (by omega) (by omega) (by rw [c_20]; rfl) rfl (w_would hI hL h6 hN hr2 KK)
      by_cases c_21 : w = 21
      · exact z_tabIn dL_law_33 ⟨by omega, by omega⟩ (tgt := 884) (off := 851) (by omega) (by omega) (by rw [c_21]; rfl) rfl (w_hitch hI hL h6 hN hr2 KK)
      by_cases c_22 : w = 22
      · exact z_tabIn dL_law_33 ⟨by omega, by omega⟩ (tgt := 917) (off := 884) (by omega) (by omega) (by rw [c_22]; rfl) rfl (w_fits hI hL h6 hN hr2 KK)
      by_cases c_23 : w = 23
      · exact z_tabIn dL_law_33 ⟨by omega, by omega⟩ (tgt := 941) (off := 908) (by omega) (by omega) (by rw [c_23]; rfl) rfl (w_least hI hL h6 hN hr2 KK)
      by_cases c_24 : w = 24
      · exact z_tabIn dL_law_33 ⟨by omega, by omega⟩ (tgt := 954) (off := 921) (by omega) (by omega) (by rw [c_24]; rfl) rfl (w_times hI hL h6 hN hr2 KK)
      by_cases c_25 : w = 25
      · exact z_tabIn dL_law_33 ⟨by omega, by omega⟩ (tgt := 987) (off := 954) (by omega) (by omega) (by rw [c_25]; rfl) rfl (w_workedOf hI hL h6 hN hr2 KK)
      by_cases c_26 : w = 26
      · exact z_tabIn dL_law_33 ⟨by omega, by omega⟩ (tgt := 1020) (off := 987) (by omega) (by omega) (by rw [c_26]; rfl) rfl (w_stitch hI hL h6 hN hr2 KK)
      by_cases c_27 : w = 27
      · exact z_tabIn dL_law_33 ⟨by omega, by omega⟩ (tgt := 1063) (off := 1030) (by omega) (by omega) (by rw [c_27]; rfl) rfl (w_chart hI hL h6 hN hr2 KK)
      by_cases c_28 : w = 28
      · exact z_tabIn dL_law_33 ⟨by omega, by omega⟩ (tgt := 1096) (off := 1063) (by omega) (by omega) (by rw [c_28]; rfl) rfl (w_shorthand hI hL h6 hN hr2 KK)
      by_cases c_29 : w = 29
      · exact z_tabIn dL_law_33 ⟨by omega, by omega⟩ (tgt := 1129) (off := 1096) (by omega) (by omega) (by rw [c_29]; rfl) rfl (w_unit hI hL h6 hN hr2 KK)
      by_cases c_30 : w = 30
      · exact z_tabIn dL_law_33 ⟨by omega, by omega⟩ (tgt := 1152) (off := 1119) (by omega) (by omega) (by rw [c_30]; rfl) rfl (w_mirrored hI hL h6 hN hr2 KK)
      by_cases c_31 : w = 31
      · exact z_tabIn dL_law_33 ⟨by omega, by omega⟩ (tgt := 1185) (off := 1152) (by omega) (by omega) (by rw [c_31]; rfl) rfl (w_even hI hL h6 hN hr2 KK)
      by_cases c_32 : w = 32
      · exact z_tabIn dL_law_33 ⟨by omega, by omega⟩ (tgt := 1208) (off := 1175) (by omega) (by omega) (by rw [c_32]; rfl) rfl (w_roots hI hL h6 hN hr2 KK)
      by_cases c_33 : w = 33
      · exact z_tabIn dL_law_33 ⟨by omega, by omega⟩ (tgt := 1242) (off := 1209) (by omega) (by omega) (by rw [c_33]; rfl) rfl (w_origin hI hL h6 hN hr2 KK)
      by_cases c_34 : w = 34
      · exact z_tabIn dL_law_33 ⟨by omega, by omega⟩ (tgt := 1266) (off := 1233) (by omega) (by omega) (by rw [c_34]; rfl) rfl (w_yarn hI hL h6 hN hr2 KK)
      by_cases c_35 : w = 35
      · exact z_tabIn dL_law_33 ⟨by omega, by omega⟩ (tgt := 1280) (off := 1247) (by omega) (by omega) (by rw [c_35]; rfl) rfl (w_many hI hL h6 hN hr2 KK)
      by_cases c_36 : w = 36
      · exact z_tabIn dL_law_33 ⟨by omega, by omega⟩ (tgt := 1303) (off := 1270) (by omega) (by omega) (by rw [c_36]; rfl) rfl (w_differ hI hL h6 hN hr2 KK)
      by_cases c_37 : w = 37
      · exact z_tabIn dL_law_33 ⟨by omega, by omega⟩ (tgt := 1336) (off := 1303) (by omega) (by omega) (by rw [c_37]; rfl) rfl (w_judge hI hL h6 hN hr2 KK)
      by_cases c_38 : w = 38
      · exact z_tabIn dL_law_33 ⟨by omega, by omega⟩ (tgt := 1379) (off := 1346) (by omega) (by omega) (by rw [c_38]; rfl) rfl (w_days hI hL h6 hN hr2 KK)
      by_cases c_39 : w = 39
      · exact z_tabIn dL_law_33 ⟨by omega, by omega⟩ (tgt := 1402) (off := 1369) (by omega) (by omega) (by rw [c_39]; rfl) rfl (w_seed hI hL h6 hN hr2 KK)
      by_cases c_40 : w = 40
      · exact z_tabIn dL_law_33 ⟨by omega, by omega⟩ (tgt := 1425) (off := 1392) (by omega) (by omega) (by rw [c_40]; rfl) rfl (w_image hI hL h6 hN hr2 KK)
      by_cases c_41 : w = 41
      · exact z_tabIn dL_law_33 ⟨by omega, by omega⟩ (tgt := 1438) (off := 1405) (by omega) (by omega) (by rw [c_41]; rfl) rfl (w_back hI hL h6 hN hr2 KK)
      by_cases c_42 : w = 42
      · exact z_tabIn dL_law_33 ⟨by omega, by omega⟩ (tgt := 1451) (off := 1418) (by omega) (by omega) (by rw [c_42]; rfl) rfl (w_status hI hL h6 hN hr2 KK)
      refine z_tabOut dL_law_33 ⟨by omega, by omega⟩ (tgt := 1474) (by omega) rfl ?_
      exact z_wk (by omega) (by omega) (KK h hL)
