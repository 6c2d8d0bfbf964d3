/-! KnitReader: least, times -/
set_option maxHeartbeats 4000000 in
set_option maxRecDepth 100000 in
theorem D_X8_least {g : z_G} {h : z_H} {ad : Nat → Nat} {Rf Nw Th Tp Lk Ho Sz Im : z_row} {kp : Int} {t ca : Nat} {G Gt : Nat → z_G4} (hI : aJ ad) (hw : cW h ad Rf Nw Th Tp Lk Ho Sz Im kp t ca G Gt) (hwf : nWf Nw G) : z_D g mX8_least 16 0 0 [z_r (ad 0)] h (fun rv h' => rv = some (z_i (lsF Nw G (Nw 5020).toNat 61 0)) ∧ (cW h' ad Rf Nw Th Tp Lk Ho Sz Im kp t ca G Gt ∧ zfr ad h h')) := by
  refine z_D.of (by decide +kernel) (Nat.le_of_ble_eq_true rfl) (fun X F => ?_)
  obtain ⟨⟨w0, w1, w2, w3⟩, wp, wc, ws, wn, wkk⟩ := id hw
  obtain ⟨Lf, lc, dc, nd, si, mo, se, sd, ln, zz, ff, hs, hL, hk9⟩ := wn
  obtain ⟨⟨rfl, rfl, rfl, rfl, rfl, rfl⟩, hcl, hln⟩ := hk9 trivial
  obtain ⟨e0, e1, e2, e3, b1, b2, b3, b4, b5⟩ := id hs
  obtain ⟨v1, v2, v3, v4, v5, v6, v7⟩ := id hwf
  have w0Q : ∀ q, PH h (ad 3) (ad 4) (ad 5) (ad 6) (ad 7) q (ad 0) = some (c_O 7 [z_r (tN ad 0), z_r (tK ad 0), z_i kp, z_r (ad 1), z_i (t : Int), z_r (ad 2), z_r (ad 3), z_r (ad 8), z_r (ad 10)]) := fun q => (PH_T hI (l := 0) (u := 3) (by decide) (by decide) 0 (by decide) (by decide)).trans w0
  have hsQ : ∀ q, sH (PH h (ad 3) (ad 4) (ad 5) (ad 6) (ad 7) q) (tN ad) Lf (Nw 5020) (Nw 5025) (Nw 5023) (Nw 5022) (Nw 5021) (Nw 5024) sd ln zz ff := fun q => hs.fr (fun t ht => PH_T hI (l := 27) (u := 180) (by decide) (by decide) (27 + t) (by omega) (by omega))
  show z_w g X cX8_least RX8 (16, 0, 0) 0 [z_r (ad 0), z_u] [] h 0 0
  refine z_iconst dX8_least_0 ?_
  refine z_istore_n dX8_least_1 (Nat.le_of_ble_eq_true rfl) rfl ?_
  obtain ⟨⟨f0, fp0, ft0, z0, l0, m0, hi0, pl0, wi0⟩, hq0⟩ := wp
  refine z_heq hq0 ?_
  refine z_lseq (ls2 := [z_r (ad 0), z_i ((0 : Nat) : Int)]) rfl ?_
  have L4 : ∀ (fu : Nat) (r rem : Nat) (f7 fp7 ft7 : z_row) (z7 l7 m7 hi7 pl7 wi7 : Int) (q1 : r + rem = 61) (q2 : lsF Nw G (Nw 5020).toNat 61 0 = lsF Nw G (Nw 5020).toNat rem r), rem < fu → z_w g X cX8_least RX8 (16, 0, 0) 2 [z_r (ad 0), z_i (r : Int)] [] (PH h (ad 3) (ad 4) (ad 5) (ad 6) (ad 7) (f7, fp7, ft7, z7, l7, m7, hi7, pl7, wi7)) 0 0 := by
    intro fu
    induction fu with
    | zero => intro r rem f7 fp7 ft7 z7 l7 m7 hi7 pl7 wi7 q1 q2 hm; exact absurd hm (Nat.not_lt_zero _)
    | succ fu ih =>
      intro r rem f7 fp7 ft7 z7 l7 m7 hi7 pl7 wi7 q1 q2 hm
      refine z_iload_n dX8_least_2 rfl ?_
      refine z_bipush dX8_least_3 rfl ?_
      refine z_icmp_gt dX8_least_5 (tgt := 35) rfl ⟨by omega, by omega⟩ (by decide) (fun c1 => ?_) (fun c1 => ?_)
      · skip
        obtain rfl : rem = 0 := by omega
        refine z_iconst dX8_least_35 ?_
        exact z_iret F dX8_least_36 rfl (by decide) ⟨congrArg (fun z => some (z_i z)) (by rw [q2]; rfl), ⟨hw.ph hI, PH_Z⟩⟩
      · skip
        obtain ⟨rem2, rfl⟩ : ∃ y, rem = y + 1 := ⟨rem - 1, by omega⟩
        refine z_aload_n dX8_least_8 rfl ?_
        refine z_iconst dX8_least_9 ?_
        refine z_aload_n dX8_least_10 rfl ?_
        refine gf_X8_10 dX8_least_11 (w0Q _) rfl ?_
        refine gf_X8_149 dX8_least_14 (hsQ _).1 rfl ?_
        refine z_iconst dX8_least_17 ?_
        refine z_isub dX8_least_18 ?_
        refine z_iload_n dX8_least_19 rfl ?_
        refine cs_X8_238 dX8_least_20 (D_X8_countBehind hI (hw.ph hI) hwf (a9 := 0) (m9 := (Nw 5020).toNat) (by omega) (b9 := Nw 5020 - 1) (by omega) (y := (r : Int)) (by omega)) (w0Q _) rfl rfl (Nat.le_of_ble_eq_true rfl) (by decide) (fun rv h' hq => ?_)
        obtain ⟨rfl, f1, fp1, ft1, z1, l1, m1, hi1, pl1, wi1, hq2⟩ := hq
        refine z_heq (hq2.trans PH_PH) ?_
        refine z_ks ?_
        have hcb := cbF_in hwf (Nw 5020).toNat 0 (r : Int) (by omega) (by omega)
        refine z_iconst dX8_least_23 ?_
        refine z_icmp_eq dX8_least_24 (tgt := 29) rfl ⟨by omega, by omega⟩ (by decide) (fun c2 => ?_) (fun c2 => ?_)
        · skip
          refine z_iinc dX8_least_29 rfl rfl ?_
          refine z_goto dX8_least_32 (tgt := 2) rfl ?_
          exact ih (r + 1) rem2 f1 fp1 ft1 z1 l1 m1 hi1 pl1 wi1 (by omega) (by rw [q2]; exact if_neg (fun q => q c2)) (by omega)
        · skip
          refine z_iload_n dX8_least_27 rfl ?_
          exact z_iret F dX8_least_28 rfl (by decide) ⟨congrArg (fun z => some (z_i z)) (by rw [q2]; exact (if_pos c2).symm), ⟨hw.ph hI, PH_Z⟩⟩
  exact L4 62 0 61 f0 fp0 ft0 z0 l0 m0 hi0 pl0 wi0 rfl rfl (by omega)
set_option maxHeartbeats 4000000 in
set_option maxRecDepth 100000 in
theorem D_X8_times {g : z_G} {h : z_H} {ad : Nat → Nat} {Rf Nw Th Tp Lk Ho Sz Im : z_row} {kp : Int} {t ca : Nat} {G Gt : Nat → z_G4} (hI : aJ ad) (hw : cW h ad Rf Nw Th Tp Lk Ho Sz Im kp t ca G Gt) (hwf : nWf Nw G) {fi ti9 : Int} (hfi : z_in fi) (hti : z_in ti9) : z_D g mX8_times 16 0 0 [z_r (ad 0), z_i fi, z_i ti9] h (fun rv h' => (isL Nw fi ∧ isL Nw ti9 ∧ fi ≤ ti9 → rv = some (z_i (tmF Nw G (ti9 - fi + 1).toNat fi.toNat 50 0 (Nw 5025) (Nw 5023))) ∧ (cW h' ad Rf Nw Th Tp Lk Ho Sz Im kp t ca G Gt ∧ zfr ad h h')) ∧ (¬ (isL Nw fi ∧ isL Nw ti9 ∧ fi ≤ ti9) → rv = some (z_i (-92)) ∧ h' = rfH h ad Rf 0)) := by
  refine z_D.of (by decide +kernel) (Nat.le_of_ble_eq_true rfl) (fun X F => ?_)
  obtain ⟨⟨w0, w1, w2, w3⟩, wp, wc, ws, wn, wkk⟩ := id hw
  obtain ⟨Lf, lc, dc, nd, si, mo, se, sd, ln, zz, ff, hs, hL, hk9⟩ := wn
  obtain ⟨⟨rfl, rfl, rfl, rfl, rfl, rfl⟩, hcl, hln⟩ := hk9 trivial
  obtain ⟨e0, e1, e2, e3, b1, b2, b3, b4, b5⟩ := id hs
  obtain ⟨v1, v2, v3, v4, v5, v6, v7⟩ := id hwf
  have w0Q : ∀ q, PH h (ad 3) (ad 4) (ad 5) (ad 6) (ad 7) q (ad 0) = some (c_O 7 [z_r (tN ad 0), z_r (tK ad 0), z_i kp, z_r (ad 1), z_i (t : Int), z_r (ad 2), z_r (ad 3), z_r (ad 8), z_r (ad 10)]) := fun q => (PH_T hI (l := 0) (u := 3) (by decide) (by decide) 0 (by decide) (by decide)).trans w0
  have hsQ : ∀ q, sH (PH h (ad 3) (ad 4) (ad 5) (ad 6) (ad 7) q) (tN ad) Lf (Nw 5020) (Nw 5025) (Nw 5023) (Nw 5022) (Nw 5021) (Nw 5024) sd ln zz ff := fun q => hs.fr (fun t ht => PH_T hI (l := 27) (u := 180) (by decide) (by decide) (27 + t) (by omega) (by omega))
  show z_w g X cX8_times RX8 (16, 0, 0) 0 [z_r (ad 0), z_i fi, z_i ti9, z_u, z_u, z_u, z_u] [] h 0 0
  refine z_aload_n dX8_times_0 rfl ?_
  refine gf_X8_10 dX8_times_1 w0 rfl ?_
  refine z_iload_n dX8_times_4 rfl ?_
  refine z_iload_n dX8_times_5 rfl ?_
  refine cs_X8_197 dX8_times_6 (D_X6_isSpan hs hfi hti) e0 rfl rfl (Nat.le_of_ble_eq_true rfl) (by decide) (z_ki ?_)
  refine z_if_ne dX8_times_9 (tgt := 19) rfl (by first | exact ⟨by omega, by omega⟩ | exact ⟨by split <;> omega, by split <;> omega⟩) (fun c1 => ?_) (fun c1 => ?_)
  · skip
    obtain ⟨a, rfl⟩ : ∃ y : Nat, fi = (y : Int) := ⟨fi.toNat, by omega⟩
    obtain ⟨b, rfl⟩ : ∃ y : Nat, ti9 = (y : Int) := ⟨ti9.toNat, by omega⟩
    obtain ⟨E, hE⟩ : ∃ E : Nat, ((b : Int) - (a : Int) + 1).toNat = E := ⟨_, rfl⟩
    have hE2 : (E : Int) = (b : Int) - (a : Int) + 1 := by omega
    refine z_bipush dX8_times_19 rfl ?_
    refine z_aload_n dX8_times_21 rfl ?_
    refine gf_X8_10 dX8_times_22 w0 rfl ?_
    refine gf_X8_175 dX8_times_25 e0 rfl ?_
    refine z_isub dX8_times_28 ?_
    refine z_istore_n dX8_times_29 (Nat.le_of_ble_eq_true rfl) rfl ?_
    refine z_iload_n dX8_times_30 rfl ?_
    refine z_iload_n dX8_times_31 rfl ?_
    refine z_isub dX8_times_32 ?_
    refine z_iconst dX8_times_33 ?_
    refine z_iadd dX8_times_34 ?_
    refine z_istore dX8_times_35 (Nat.le_of_ble_eq_true rfl) rfl ?_
    refine z_aload_n dX8_times_37 rfl ?_
    refine gf_X8_10 dX8_times_38 w0 rfl ?_
    refine gf_X8_181 dX8_times_41 e0 rfl ?_
    refine z_istore dX8_times_44 (Nat.le_of_ble_eq_true rfl) rfl ?_
    refine z_iconst dX8_times_46 ?_
    refine z_istore dX8_times_47 (Nat.le_of_ble_eq_true rfl) rfl ?_
    obtain ⟨⟨f0, fp0, ft0, z0, l0, m0, hi0, pl0, wi0⟩, hq0⟩ := wp
    refine z_heq hq0 ?_
    refine z_lseq (ls2 := [z_r (ad 0), z_i (a : Int), z_i (b : Int), z_i (50 - Nw 5025), z_i (E : Int), z_i (Nw 5023), z_i ((0 : Nat) : Int)]) (by rw [hE2]; rfl) ?_
    have L4 : ∀ (fu : Nat) (t9 rem pr : Nat) (on : Int) (f7 fp7 ft7 : z_row) (z7 l7 m7 hi7 pl7 wi7 : Int) (q1 : t9 + rem = 50) (q2 : pr = t9 * E) (q3 : 0 ≤ on ∧ on ≤ 60) (q4 : tmF Nw G E a 50 0 (Nw 5025) (Nw 5023) = tmF Nw G E a rem (t9 : Int) (Nw 5025 + (pr : Int)) on), rem < fu → z_w g X cX8_times RX8 (16, 0, 0) 49 [z_r (ad 0), z_i (a : Int), z_i (b : Int), z_i (50 - Nw 5025), z_i (E : Int), z_i on, z_i (t9 : Int)] [] (PH h (ad 3) (ad 4) (ad 5) (ad 6) (ad 7) (f7, fp7, ft7, z7, l7, m7, hi7, pl7, wi7)) 0 0 := by
      intro fu
      induction fu with
      | zero => intro t9 rem pr on f7 fp7 ft7 z7 l7 m7 hi7 pl7 wi7 q1 q2 q3 q4 hm; exact absurd hm (Nat.not_lt_zero _)
      | succ fu ih =>
        intro t9 rem pr on f7 fp7 ft7 z7 l7 m7 hi7 pl7 wi7 q1 q2 q3 q4 hm
        refine z_iload dX8_times_49 rfl ?_
        refine z_bipush dX8_times_51 rfl ?_
        refine z_icmp_ge dX8_times_53 (tgt := 92) rfl ⟨by omega, by omega⟩ (by decide) (fun c2 => ?_) (fun c2 => ?_)
        · skip
          obtain rfl : rem = 0 := by omega
          refine z_iload dX8_times_92 rfl ?_
          exact z_iret F dX8_times_94 rfl (by decide) ⟨fun _ => ⟨congrArg (fun z => some (z_i z)) (by
        rw [hE, Int.toNat_natCast, q4]
        first | rfl | exact (if_neg (by omega)).symm), ⟨hw.ph hI, PH_Z⟩⟩, fun q => absurd ⟨by omega, by omega, by omega⟩ q⟩
        · skip
          obtain ⟨rem2, rfl⟩ : ∃ y, rem = y + 1 := ⟨rem - 1, by omega⟩
          refine z_iload dX8_times_56 rfl ?_
          refine z_iconst dX8_times_58 ?_
          refine z_iadd dX8_times_59 ?_
          refine z_iload dX8_times_60 rfl ?_
          refine z_imul dX8_times_62 ?_
          have hpb : pr ≤ 50 * 20 := by rw [q2]; exact Nat.mul_le_mul (by omega) (by omega)
          refine z_ieq (y := ((pr + E : Nat) : Int)) (by rw [Int.add_mul, Int.one_mul, q2]; simp) ?_
          refine z_iload_n dX8_times_63 rfl ?_
          refine z_icmp_gt dX8_times_64 (tgt := 92) rfl ⟨by omega, by omega⟩ ⟨by omega, by omega⟩ (fun c3 => ?_) (fun c3 => ?_)
          · skip
            refine z_iload dX8_times_92 rfl ?_
            exact z_iret F dX8_times_94 rfl (by decide) ⟨fun _ => ⟨congrArg (fun z => some (z_i z)) (by
        rw [hE, Int.toNat_natCast, q4]
        first | rfl | exact (if_neg (by omega)).symm), ⟨hw.ph hI, PH_Z⟩⟩, fun q => absurd ⟨by omega, by omega, by omega⟩ q⟩
          · skip
            refine z_aload_n dX8_times_67 rfl ?_
            refine z_iload_n dX8_times_68 rfl ?_
            refine z_iload_n dX8_times_69 rfl ?_
            refine z_iload dX8_times_70 rfl ?_
            refine cs_X8_238 dX8_times_72 (D_X8_countBehind hI (hw.ph hI) hwf (a9 := a) (m9 := E) (by omega) (b9 := (b : Int)) (by omega) (y := on) q3) (w0Q _) rfl rfl (Nat.le_of_ble_eq_true rfl) (by decide) (fun rv h' hq => ?_)
            obtain ⟨rfl, f1, fp1, ft1, z1, l1, m1, hi1, pl1, wi1, hq2⟩ := hq
            refine z_heq (hq2.trans PH_PH) ?_
            refine z_ks ?_
            refine z_istore dX8_times_75 (Nat.le_of_ble_eq_true rfl) rfl ?_
            refine z_iload dX8_times_77 rfl ?_
            have hcb := cbF_in hwf E a on (by omega) q3
            refine z_iconst dX8_times_79 ?_
            refine z_icmp_ne dX8_times_80 (tgt := 86) rfl ⟨by omega, by omega⟩ (by decide) (fun c4 => ?_) (fun c4 => ?_)
            · skip
              refine z_iinc dX8_times_86 rfl rfl ?_
              refine z_goto dX8_times_89 (tgt := 49) rfl ?_
              exact ih (t9 + 1) rem2 (pr + E) _ f1 fp1 ft1 z1 l1 m1 hi1 pl1 wi1 (by omega) (by rw [q2, Nat.add_mul, Nat.one_mul]) (by have := hcb; omega) (by rw [q4]; refine (if_pos (by omega)).trans ((if_neg c4).trans ?_); rw [show Nw 5025 + (pr : Int) + (E : Int) = Nw 5025 + ((pr + E : Nat) : Int) by omega]; rfl) (by omega)
            · skip
              refine z_iload dX8_times_83 rfl ?_
              exact z_iret F dX8_times_85 rfl (by decide) ⟨fun _ => ⟨congrArg (fun z => some (z_i z)) (by
        rw [hE, Int.toNat_natCast, q4]
        refine ((if_pos (by omega)).trans (if_pos c4)).symm), ⟨hw.ph hI, PH_Z⟩⟩, fun q => absurd ⟨by omega, by omega, by omega⟩ q⟩
    exact L4 51 0 50 0 _ f0 fp0 ft0 z0 l0 m0 hi0 pl0 wi0 rfl (by rw [Nat.zero_mul]) v4 (by rw [show Nw 5025 + ((0 : Nat) : Int) = Nw 5025 by omega]; rfl) (by omega)
  · skip
    refine z_aload_n dX8_times_12 rfl ?_
    refine z_bipush dX8_times_13 rfl ?_
    refine cs_X8_55 dX8_times_15 (D_X8_ref0 hI hw) w0 rfl rfl (Nat.le_of_ble_eq_true rfl) (by decide) (z_ki ?_)
    exact z_iret F dX8_times_18 rfl (by decide) ⟨fun q => absurd q (fun q => by have h1 := q.1; have h2 := q.2.1; have h3 := q.2.2; omega), fun _ => ⟨rfl, rfl⟩⟩
