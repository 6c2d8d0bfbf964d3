/-! KnitReader: a row is read -/
section ZLN
variable {h : z_H} {ad : Nat → Nat} {Rf Nw Th Tp Lk Ho Sz Im : z_row} {kp : Int} {t ca : Nat} {G Gt : Nat → z_G4}
theorem oCh.dom {a k L : Nat} {f : z_row} (H : oCh h a k L f) : h a ≠ none ∧ h k ≠ none := ⟨by rw [H.1]; exact Option.some_ne_none _, by rw [H.2.1]; exact Option.some_ne_none _⟩
/-- all of the class's places are there -/
theorem cW.dom (hI : aJ ad) (H : cW h ad Rf Nw Th Tp Lk Ho Sz Im kp t ca G Gt) {j : Nat} (hj : j < 333) : h (ad j) ≠ none := by
  obtain ⟨⟨w0, w1, w2, w3⟩, ⟨q, hq⟩, ⟨fc, wc, -⟩, ws, ⟨Lf, lc, dc, nd, si, mo, se, sd, ln, zz, ff, hs, -, -⟩, ⟨Lk2, lc2, dc2, nd2, si2, mo2, se2, sd2, ln2, zz2, ff2, hk, -, -⟩⟩ := H
  have D := hI.p
  by_cases c0 : j = 0
  · rw [c0, w0]; exact Option.some_ne_none _
  by_cases c1 : j = 1
  · rw [c1, w1]; exact Option.some_ne_none _
  by_cases c2 : j = 2
  · rw [c2, w2]; exact Option.some_ne_none _
  by_cases c10 : j = 10
  · rw [c10, w3]; exact Option.some_ne_none _
  by_cases c3 : j < 8
  · obtain ⟨f, fp, ft, z, l, m, hi, pl, wi⟩ := q
    rw [hq]
    rcases (show j = 3 ∨ j = 4 ∨ j = 5 ∨ j = 6 ∨ j = 7 by omega) with rfl | rfl | rfl | rfl | rfl
    · rw [PHx]; exact Option.some_ne_none _
    · rw [PHc D]; exact Option.some_ne_none _
    · rw [PHk D]; exact Option.some_ne_none _
    · rw [PHo D]; exact Option.some_ne_none _
    · rw [PHv D]; exact Option.some_ne_none _
  by_cases c8 : j < 10
  · rcases (show j = 8 ∨ j = 9 by omega) with rfl | rfl
    · exact wc.dom.1
    · exact wc.dom.2
  by_cases c27 : j < 27
  · obtain ⟨sz, f, ⟨k1, k2, -⟩, -⟩ := ws ((j - 11) / 2) (by omega)
    rcases (show j = 11 + 2 * ((j - 11) / 2) ∨ j = 12 + 2 * ((j - 11) / 2) by omega) with c | c
    · rw [c, k1]; exact Option.some_ne_none _
    · rw [c, k2]; exact Option.some_ne_none _
  by_cases c180 : j < 180
  · have := hs.dom (t := j - 27) (by omega)
    unfold tN at this
    rwa [show 27 + (j - 27) = j by omega] at this
  · have := hk.dom (t := j - 180) (by omega)
    unfold tK at this
    rwa [show 180 + (j - 180) = j by omega] at this
set_option maxHeartbeats 1000000 in
theorem sX.ln (hI : aJ ad) {Lf : Nat → Option Nat} {sd ln zz : Nat → Int} {ff : Nat → z_row} (hs : sH h (tN ad) Lf (Nw 5020) (Nw 5025) (Nw 5023) (Nw 5022) (Nw 5021) (Nw 5024) sd ln zz ff) (hL : ∀ i, i < 20 → ∀ a, Lf i = some a → (∃ fs, h a = some (c_O 2 fs)) ∧ off ad a) (hcl : clR Nw (Nw 5025) sd ln zz ff) (hln : lnR h ad Lf Nw G) (hwf : nWf Nw G) (h20 : Nw 5020 < 20) {a b s p u e n : Nat} {tt T : z_row} {g4 : z_G4} {ix fl : Int} (hO : off ad a ∧ off ad b ∧ off ad s ∧ off ad p ∧ off ad u ∧ off ad e) (hT : ∀ k, k < n → tt k = T k) (hLi : oLi h a b s p u e n tt g4.1 g4.2.1 g4.2.2.1 g4.2.2.2.1 (g4.2.2.2.2 : Int) ((rdS n T (n + 1) 0 (0, 0, 0, 0)).2.2.2.1 : Int) (rdS n T (n + 1) 0 (0, 0, 0, 0)).2.2.2.2 ix fl) (h01 : (rdS n T (n + 1) 0 (0, 0, 0, 0)).2.2.2.2 = 0 ∨ (rdS n T (n + 1) 0 (0, 0, 0, 0)).2.2.2.2 = 1) :
    sX (z_up (z_up h (tN ad 1) (c_A 1 20 (z_sq Lf (Nw 5020).toNat (some a)))) (tN ad 0) (c_O 5 [z_r (tN ad 1), z_r (tN ad 2), z_i (Nw 5020 + 1), z_i (Nw 5025), z_i (Nw 5023), z_i (Nw 5022), z_i (Nw 5021), z_i (Nw 5024)])) ad (tN ad) True (lnN Nw n T) (fun i => if i = (Nw 5020).toNat then g4 else G i) := by
  obtain ⟨v1, v2, v3, v4, v5, v6, v7⟩ := id hwf
  have hn := hLi.2.2.2.2.2.2.1
  obtain ⟨I, hI9⟩ : ∃ I : Nat, Nw 5020 = (I : Int) := ⟨(Nw 5020).toNat, by omega⟩
  have hI2 : (Nw 5020).toNat = I := by omega
  have e20 : lnN Nw n T 5020 = Nw 5020 + 1 := z_sf_s
  have eh : ∀ k, (k < 251 * I ∨ 251 * I + 251 ≤ k) → k ≠ 5020 → lnN Nw n T k = Nw k := fun k h1 h2 => by
    unfold lnN cpA
    rw [z_sf_n h2, hI2, if_neg (by omega), z_sf_n (by omega)]
  have ez : lnN Nw n T (251 * I) = (n : Int) := by
    unfold lnN cpA
    rw [z_sf_n (by omega), hI2, if_neg (by omega), z_sf_s]
  have et : ∀ k, k < n → lnN Nw n T (251 * I + 1 + k) = T k := fun k hk => by
    unfold lnN cpA
    rw [z_sf_n (by omega), hI2, if_pos (by omega)]
    congr 1
    omega
  have hU : agO ad h (z_up (z_up h (tN ad 1) (c_A 1 20 (z_sq Lf (Nw 5020).toNat (some a)))) (tN ad 0) (c_O 5 [z_r (tN ad 1), z_r (tN ad 2), z_i (Nw 5020 + 1), z_i (Nw 5025), z_i (Nw 5023), z_i (Nw 5022), z_i (Nw 5021), z_i (Nw 5024)])) := (agO.up (j := 28) (by decide)).tr (agO.up (j := 27) (by decide))
  refine ⟨z_sq Lf (Nw 5020).toNat (some a), _, _, _, _, _, _, sd, ln, zz, ff, (hs.l hI.tN).o hI.tN ⟨by omega, v5, v4, v3, v2⟩, fun i hi x hx => ?_, fun _ => ⟨⟨e20.symm, (eh _ (by omega) (by decide)).symm, (eh _ (by omega) (by decide)).symm, (eh _ (by omega) (by decide)).symm, (eh _ (by omega) (by decide)).symm, (eh _ (by omega) (by decide)).symm⟩, hcl.ag (fun k hk _ => eh k (by omega) (by omega)) (Int.le_refl _) v5.2 (fun i hi => (v7 i hi).1.2.2.1), fun i hi => ?_⟩⟩
  · by_cases c : i = (Nw 5020).toNat
    · obtain rfl : a = x := by
        have : z_sq Lf (Nw 5020).toNat (some a) i = some a := if_pos c
        rw [this] at hx
        exact Option.some.inj hx
      exact ⟨⟨_, (hU a (by rw [hLi.1]; exact Option.some_ne_none _) hO.1).trans hLi.1⟩, hO.1⟩
    · have : z_sq Lf (Nw 5020).toNat (some a) i = Lf i := if_neg c
      rw [this] at hx
      obtain ⟨⟨fs, k1⟩, k2⟩ := hL i hi x hx
      exact ⟨⟨fs, (hU x (by rw [k1]; exact Option.some_ne_none _) k2).trans k1⟩, k2⟩
  · rw [e20] at hi
    have key : ∀ y x, h y = some x → off ad y → z_up (z_up h (tN ad 1) (c_A 1 20 (z_sq Lf (Nw 5020).toNat (some a)))) (tN ad 0) (c_O 5 [z_r (tN ad 1), z_r (tN ad 2), z_i (Nw 5020 + 1), z_i (Nw 5025), z_i (Nw 5023), z_i (Nw 5022), z_i (Nw 5021), z_i (Nw 5024)]) y = some x := fun y x hy hf => (hU y (by rw [hy]; exact Option.some_ne_none _) hf).trans hy
    by_cases c : i = I
    · subst c
      have eF : nF (lnN Nw n T) i = n := by unfold nF; rw [ez]; exact Int.toNat_natCast n
      have eT : ∀ k, k < n → tL (lnN Nw n T) i k = T k := fun k hk => et k hk
      have eR : rdZ (lnN Nw n T) i = rdS n T (n + 1) 0 (0, 0, 0, 0) := by
        unfold rdZ
        rw [eF]
        exact rdS_tx eT _ _ _
      have eG : (fun i => if i = (Nw 5020).toNat then g4 else G i) i = g4 := if_pos hI2.symm
      rw [eG, eF, eR]
      obtain ⟨o1, o2, o3, o4, o5, o6⟩ := id hO
      obtain ⟨l1, l2, l3, l4, l5, l6, l7⟩ := hLi
      exact ⟨a, b, s, p, u, e, tt, ix, fl, if_pos hI2.symm, hO, ⟨key _ _ l1 o1, key _ _ l2 o2, key _ _ l3 o3, key _ _ l4 o4, key _ _ l5 o5, key _ _ l6 o6, l7⟩, fun k hk => (hT k hk).trans (eT k hk).symm, h01⟩
    · obtain ⟨a', b', s', p', u', e', t', ix', fl', h1, h2, h3, h4, h5⟩ := hln i (by omega)
      have hn' := h3.2.2.2.2.2.2.1
      have eF : nF (lnN Nw n T) i = nF Nw i := congrArg Int.toNat (eh _ (by omega) (by omega))
      have eT : ∀ k, k < nF Nw i → tL (lnN Nw n T) i k = tL Nw i k := fun k hk => eh _ (by omega) (by omega)
      have eR : rdZ (lnN Nw n T) i = rdZ Nw i := by
        unfold rdZ
        rw [eF]
        exact rdS_tx eT _ _ _
      have eG : (fun i => if i = (Nw 5020).toNat then g4 else G i) i = G i := if_neg (by omega)
      rw [eG, eF, eR]
      obtain ⟨o1, o2, o3, o4, o5, o6⟩ := id h2
      obtain ⟨l1, l2, l3, l4, l5, l6, l7⟩ := h3
      exact ⟨a', b', s', p', u', e', t', ix', fl', (if_neg (by omega)).trans h1, h2, ⟨key _ _ l1 o1, key _ _ l2 o2, key _ _ l3 o3, key _ _ l4 o4, key _ _ l5 o5, key _ _ l6 o6, l7⟩, fun k hk => (h4 k hk).trans (eT k hk).symm, h5⟩
end ZLN
set_option maxHeartbeats 4000000 in
set_option maxRecDepth 100000 in
theorem D_X8_line {g : z_G} {h : z_H} {ad : Nat → Nat} {Rf Nw Th Tp Lk Ho Sz Im : z_row} {kp : Int} {t ca : Nat} {G Gt : Nat → z_G4} (hI : aJ ad) (hw : cW h ad Rf Nw Th Tp Lk Ho Sz Im kp t ca G Gt) (hwf : nWf Nw G) (hd9 : ∀ x, 333 ≤ x → x < 347 → h (ad x) ≠ none) (ht9 : t ≤ 250) (htp : ∀ k, k < t → 0 ≤ Tp k ∧ Tp k ≤ 255) : z_D g mX8_line 26 6 1260 [z_r (ad 0)] h (fun rv h' => (¬ ((rdS t Tp (t + 1) 0 (0, 0, 0, 0)).1 = true ∧ (rdS t Tp (t + 1) 0 (0, 0, 0, 0)).2.1 = t) → rv = some (z_i (-600 - ((rdS t Tp (t + 1) 0 (0, 0, 0, 0)).2.1 : Int))) ∧ (cW h' ad (z_sf Rf 0 (Rf 0 + 1)) Nw Th Tp Lk Ho Sz Im kp 0 ca G Gt ∧ zfr ad h h')) ∧ (((rdS t Tp (t + 1) 0 (0, 0, 0, 0)).1 = true ∧ (rdS t Tp (t + 1) 0 (0, 0, 0, 0)).2.1 = t) → (Nw 5020 = 20 → rv = some (z_i (-96)) ∧ (cW h' ad (z_sf Rf 4 (Rf 4 + 1)) Nw Th Tp Lk Ho Sz Im kp 0 ca G Gt ∧ zfr ad h h')) ∧ (Nw 5020 ≠ 20 → rv = some (z_i (Nw 5020)) ∧ ∃ g4 : z_G4, (sgG t Tp g4 ∧ (rdS t Tp (t + 1) 0 (0, 0, 0, 0)).2.2.1 = g4.2.2.2.2) ∧ (cW h' ad Rf (lnN Nw t Tp) Th Tp Lk Ho Sz Im kp 0 ca (fun i => if i = (Nw 5020).toNat then g4 else G i) Gt ∧ zfr ad h h')))) := by
  refine z_D.of (by decide +kernel) (Nat.le_of_ble_eq_true rfl) (fun X F => ?_)
  obtain ⟨⟨w0, w1, w2, w3⟩, wp, wc, ws, wn, wkk⟩ := id hw
  have hdom : ∀ x, x < 347 → h (ad x) ≠ none := fun x hx => by
    by_cases c : x < 333
    · exact hw.dom hI c
    · exact hd9 x (by omega) hx
  show z_w g X cX8_line RX8 (26, 6, 1260) 0 [z_r (ad 0), z_u] [] h 0 0
  refine nw_X8_134 dX8_line_0 ⟨by decide, by decide⟩ (fun la hla => ?_)
  have nla : ∀ x, x < 347 → ad x ≠ la := fun x hx e => hdom x hx (by rw [e]; exact hla)
  refine z_dup dX8_line_3 rfl ?_
  refine z_aload_n dX8_line_4 rfl ?_
  refine gf_X8_19 dX8_line_5 ((z_up_n (nla 0 (by decide))).trans w0) rfl ?_
  refine z_aload_n dX8_line_8 rfl ?_
  refine gf_X8_131 dX8_line_9 ((z_up_n (nla 0 (by decide))).trans w0) rfl ?_
  refine cs_X8_136 dX8_line_12 (D_X3_init (a := la) (tp := ad 1) z_up_s ((z_up_n (nla 1 (by decide))).trans w1) ht9 htp) rfl rfl (Nat.le_of_ble_eq_true rfl) ⟨by decide, by decide, by decide⟩ (fun rv h' hq => ?_)
  obtain ⟨rfl, lb, ls, lp, lu, le, tt, htt, hD, hq2, nb, ns, np, nu, ne⟩ := hq
  have nb2 := (z_up_none nb).2
  have ns2 := (z_up_none ns).2
  have np2 := (z_up_none np).2
  have nu2 := (z_up_none nu).2
  have ne2 := (z_up_none ne).2
  refine z_heq hq2 ?_
  show z_w _ _ _ _ _ _ _ [z_r la] _ _ _
  refine z_astore_n dX8_line_15 (Nat.le_of_ble_eq_true rfl) rfl ?_
  refine z_aload_n dX8_line_16 rfl ?_
  refine cs_X8_139 dX8_line_17 (D_X3_readText hD) LHa rfl rfl (Nat.le_of_ble_eq_true rfl) ⟨by decide, by decide, by decide⟩ (fun rv h' hq => ?_)
  obtain ⟨rfl, fs', fp', fn', fe', P', d', i', tl', fl', hq3, hor⟩ := hq
  have hF : ∀ y, h y ≠ none → h' y = h y := fun y hy => by
    have n1 : y ≠ la := fun e => hy (by rw [e]; exact hla)
    have nb1 : y ≠ lb := fun e => hy (by rw [e]; exact nb2)
    have ns1 : y ≠ ls := fun e => hy (by rw [e]; exact ns2)
    have np1 : y ≠ lp := fun e => hy (by rw [e]; exact np2)
    have nu1 : y ≠ lu := fun e => hy (by rw [e]; exact nu2)
    have ne1 : y ≠ le := fun e => hy (by rw [e]; exact ne2)
    rw [hq3]
    unfold LH
    rw [if_neg n1, if_neg ns1, if_neg np1, if_neg nu1, if_neg ne1, z_up_n nb1, z_up_n n1]
  have hoff : ∀ y, h y = none → off ad y := fun y hy x hx e => hdom x hx (by rw [← e]; exact hy)
  have hw3 : cW h' ad Rf Nw Th Tp Lk Ho Sz Im kp t ca G Gt := hw.fr (fun x _ hx => hF _ (hdom x (by omega))) (fun q h1 _ => hF q h1)
  have hLi : oLi h' la lb ls lp lu le t tt fs' fp' fn' fe' (P' : Int) (d' : Int) tl' (i' : Int) fl' := by rw [hq3]; exact LHo hD
  have hZ3 : zfr ad h h' := fun q h1 _ => hF q h1
  have hOf : off ad la ∧ off ad lb ∧ off ad ls ∧ off ad lp ∧ off ad lu ∧ off ad le := ⟨hoff _ hla, hoff _ nb2, hoff _ ns2, hoff _ np2, hoff _ nu2, hoff _ ne2⟩
  rw [rdS_tx htt] at hor
  have w0' := hw3.1.1
  show z_w _ _ _ _ _ _ _ [] _ _ _
  refine z_aload_n dX8_line_20 rfl ?_
  refine z_iconst dX8_line_21 ?_
  refine pf_X8_131 dX8_line_22 w0' (Nat.le_of_ble_eq_true rfl) ?_
  have K25 : ∀ (H9 : z_H), cW H9 ad Rf Nw Th Tp Lk Ho Sz Im kp 0 ca G Gt → zfr ad h H9 → oLi H9 la lb ls lp lu le t tt fs' fp' fn' fe' (P' : Int) (d' : Int) tl' (i' : Int) fl' → z_w g X cX8_line RX8 (26, 6, 1260) 25 [z_r (ad 0), z_r la] [] H9 6 1260 := by
    intro h hw hZ hLi
    obtain ⟨⟨w0, w1, w2, w3⟩, wp, wc, ws, wn, wkk⟩ := id hw
    obtain ⟨Lf, lc, dc, nd, si, mo, se, sd, ln, zz, ff, hs, hL, hk9⟩ := wn
    obtain ⟨⟨rfl, rfl, rfl, rfl, rfl, rfl⟩, hcl, hln⟩ := hk9 trivial
    obtain ⟨e0, e1, e2, e3, b1, b2, b3, b4, b5⟩ := id hs
    obtain ⟨v1, v2, v3, v4, v5, v6, v7⟩ := id hwf
    refine z_aload_n dX8_line_25 rfl ?_
    refine gf_X8_142 dX8_line_26 hLi.1 rfl ?_
    refine z_iconst dX8_line_29 ?_
    refine z_icmp_eq dX8_line_30 (tgt := 49) rfl ⟨by rcases hor with q | q <;> omega, by rcases hor with q | q <;> omega⟩ (by decide) (fun c1 => ?_) (fun c1 => ?_)
    · skip
      obtain ⟨r1, r2, r3, r4, r5, r6, r7, r8, r9⟩ := hor.resolve_right (fun q => by have := q.2.1; omega)
      have hT : Nw 5020 ≤ 20 := v1.2
      refine z_aload_n dX8_line_49 rfl ?_
      refine gf_X8_10 dX8_line_50 w0 rfl ?_
      refine z_aload_n dX8_line_53 rfl ?_
      refine cs_X8_145 dX8_line_54 (D_X6_addLine hs hI.tN hLi.1 (hOf.1 28 (by decide))) e0 rfl rfl (Nat.le_of_ble_eq_true rfl) ⟨by decide, by decide, by decide⟩ (fun rv h' hq => ?_)
      by_cases c20 : Nw 5020 = 20
      · obtain ⟨rfl, hq2⟩ := hq.1 c20
        refine z_heq hq2 ?_
        refine z_ks ?_
        refine z_if_eq dX8_line_57 (tgt := 72) rfl (by decide) (fun c2 => ?_) (fun c2 => ?_)
        · skip
          refine z_aload_n dX8_line_72 rfl ?_
          refine z_bipush dX8_line_73 rfl ?_
          refine cs_X8_55 dX8_line_75 (D_X8_ref4 hI hw) w0 rfl rfl (Nat.le_of_ble_eq_true rfl) ⟨by decide, by decide, by decide⟩ (z_ki ?_)
          exact z_iret F dX8_line_78 rfl ⟨by decide, by decide⟩ ⟨fun q => absurd ⟨r1, by rw [r4]; exact r6⟩ q, fun _ => ⟨fun _ => ⟨rfl, hw.rf hI, hZ.tr rfH_Z⟩, fun q => absurd c20 q⟩⟩
        · exact absurd c2 (by decide)
      · obtain ⟨rfl, hq2⟩ := hq.2 c20
        refine z_ks ?_
        have e1 : P' = (rdS t Tp (t + 1) 0 (0, 0, 0, 0)).2.2.1 := by rw [r4]
        have e2 : d' = (rdS t Tp (t + 1) 0 (0, 0, 0, 0)).2.2.2.1 := by rw [r4]
        have e3 : tl' = (rdS t Tp (t + 1) 0 (0, 0, 0, 0)).2.2.2.2 := by rw [r4]
        have hLi9 := hLi
        rw [e2, e3] at hLi9
        have hsx := sX.ln hI hs hL hcl hln hwf (by omega) (g4 := (fs', fp', fn', fe', P')) hOf htt hLi9 (e3 ▸ r8)
        rw [← hq2] at hsx
        have hfr : ∀ q, q ≠ tN ad 1 → q ≠ tN ad 0 → h' q = h q := fun q h1 h2 => by rw [hq2, z_up_n h2, z_up_n h1]
        have hU : ∀ l u, u ≤ 347 → (180 ≤ l ∨ u ≤ 27) → agT ad h h' l u := fun l u h1 h2 x h3 h4 => hfr _ (hI.ne (i := x) (j := 28) (by omega) (by omega) (by omega)) (hI.ne (i := x) (j := 27) (by omega) (by omega) (by omega))
        have hO : agO ad h h' := fun q _ h2 => hfr q (h2 28 (by decide)) (h2 27 (by decide))
        have hw6 := hw.nw (hU _ _ (by decide) (by decide)) (hU _ _ (by decide) (by decide)) hO hsx
        have hZ6 : zfr ad h h' := fun q _ h2 => hfr q (h2 28 (by decide)) (h2 27 (by decide))
        have hG : sgG t Tp (fs', fp', fn', fe', P') := sgP_tx (fun k hk => (htt k hk).symm) _ _ _ _ _ r9
        have k0 := hw6.1.1
        have k5 : h' (tN ad 0) = some (c_O 5 [z_r (tN ad 1), z_r (tN ad 2), z_i (Nw 5020 + 1), z_i (Nw 5025), z_i (Nw 5023), z_i (Nw 5022), z_i (Nw 5021), z_i (Nw 5024)]) := by rw [hq2]; exact z_up_s
        refine z_if_eq dX8_line_57 (tgt := 72) rfl (by decide) (fun c3 => ?_) (fun c3 => ?_)
        · exact absurd c3 (by decide)
        · skip
          refine z_aload_n dX8_line_60 rfl ?_
          refine gf_X8_10 dX8_line_61 k0 rfl ?_
          refine gf_X8_149 dX8_line_64 k5 rfl ?_
          refine z_iconst dX8_line_67 ?_
          refine z_isub dX8_line_68 ?_
          refine z_goto dX8_line_69 (tgt := 78) rfl ?_
          exact z_iret F dX8_line_78 rfl ⟨by decide, by decide⟩ ⟨fun q => absurd ⟨r1, by rw [r4]; exact r6⟩ q, fun _ => ⟨fun q => absurd q c20, fun _ => ⟨congrArg (fun z => some (z_i z)) (by omega), (fs', fp', fn', fe', P'), ⟨hG, e1.symm⟩, hw6, hZ.tr hZ6⟩⟩⟩
    · skip
      obtain ⟨r1, r2, r3⟩ := hor.resolve_left (fun q => by have := q.2.2.1; omega)
      refine z_aload_n dX8_line_33 rfl ?_
      refine z_bipush dX8_line_34 rfl ?_
      refine cs_X8_55 dX8_line_36 (D_X8_ref0 hI hw) w0 rfl rfl (Nat.le_of_ble_eq_true rfl) ⟨by decide, by decide, by decide⟩ (z_ki ?_)
      refine z_pop dX8_line_39 rfl ?_
      refine z_sipush dX8_line_40 rfl ?_
      refine z_aload_n dX8_line_43 rfl ?_
      refine gf_X8_142 dX8_line_44 ((z_up_n (hOf.1 10 (by decide))).trans hLi.1) rfl ?_
      refine z_isub dX8_line_47 ?_
      exact z_iret F dX8_line_48 rfl ⟨by decide, by decide⟩ ⟨fun _ => ⟨by rw [r2], hw.rf hI, hZ.tr rfH_Z⟩, fun q => absurd ⟨q.1, by omega⟩ r1⟩
  refine K25 _ (hw3.ob hI) (hZ3.tr (zfr.up (j := 0) (by decide))) ?_
  obtain ⟨l1, l2, l3, l4, l5, l6, l7⟩ := hLi
  obtain ⟨o1, o2, o3, o4, o5, o6⟩ := hOf
  exact ⟨(z_up_n (o1 0 (by decide))).trans l1, (z_up_n (o2 0 (by decide))).trans l2, (z_up_n (o3 0 (by decide))).trans l3, (z_up_n (o4 0 (by decide))).trans l4, (z_up_n (o5 0 (by decide))).trans l5, (z_up_n (o6 0 (by decide))).trans l6, l7⟩
