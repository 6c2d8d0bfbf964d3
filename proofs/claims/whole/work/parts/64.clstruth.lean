/-! KnitReader: a row in truth -/
section ZDN
variable {h : z_H} {ad : Nat → Nat} {Rf Nw Th Tp Lk Ho Sz Im : z_row} {kp : Int} {t ca : Nat} {G Gt : Nat → z_G4}
set_option maxHeartbeats 1000000 in
theorem cW.dn (hI : aJ ad) (H : cW h ad Rf Nw Th Tp Lk Ho Sz Im kp t ca G Gt) (hwf : nWf Nw G) {M : Nat} (hM : Nw 5025 = (M : Int)) (h50 : M < 50) {i m : Int} {f f' : z_row} {z : Nat} (hz : z ≤ 200) (hm6 : 0 ≤ m ∧ m ≤ 60) (hf : ∀ j, j < z → f' j = f j) : cW (z_up (z_up (z_up (z_up h (tN ad (4 + 3 * M)) (c_O 6 [z_r (tN ad (5 + 3 * M)), z_i (z : Int)])) (tN ad (5 + 3 * M)) (c_I 200 f')) (tN ad (3 + 3 * M)) (c_O 1 [z_r (tN ad (4 + 3 * M)), z_i (Nw 5022), z_i i])) (tN ad 0) (c_O 5 [z_r (tN ad 1), z_r (tN ad 2), z_i (Nw 5020), z_i (Nw 5025 + 1), z_i m, z_i (if Nw 5021 = 0 then 1 - Nw 5022 else Nw 5022), z_i (Nw 5021), z_i (Nw 5024)])) ad Rf (dnN Nw i f z m) Th Tp Lk Ho Sz Im kp t ca G Gt ∧ zfr ad h (z_up (z_up (z_up (z_up h (tN ad (4 + 3 * M)) (c_O 6 [z_r (tN ad (5 + 3 * M)), z_i (z : Int)])) (tN ad (5 + 3 * M)) (c_I 200 f')) (tN ad (3 + 3 * M)) (c_O 1 [z_r (tN ad (4 + 3 * M)), z_i (Nw 5022), z_i i])) (tN ad 0) (c_O 5 [z_r (tN ad 1), z_r (tN ad 2), z_i (Nw 5020), z_i (Nw 5025 + 1), z_i m, z_i (if Nw 5021 = 0 then 1 - Nw 5022 else Nw 5022), z_i (Nw 5021), z_i (Nw 5024)])) := by
  obtain ⟨v1, v2, v3, v4, v5, v6, v7⟩ := hwf
  have wn := H.2.2.2.2.1
  obtain ⟨Lf, lc, dc, nd, si, mo, se, sd, ln, zz, ff, hs, hL, hk9⟩ := wn
  obtain ⟨⟨rfl, rfl, rfl, rfl, rfl, rfl⟩, hcl, hln⟩ := hk9 trivial
  have hd := (hs.d hI.tN h50 (s := Nw 5022) (l := i) (Z := (z : Int)) (f := f') ⟨by omega, by omega⟩).o hI.tN (lc' := Nw 5020) (dc' := Nw 5025 + 1) (nd' := m) (si' := if Nw 5021 = 0 then 1 - Nw 5022 else Nw 5022) (mo' := Nw 5021) (se' := Nw 5024) ⟨v1, by omega, hm6, by split <;> omega, v2⟩
  obtain ⟨h', hh⟩ : ∃ h', h' = z_up (z_up (z_up (z_up h (tN ad (4 + 3 * M)) (c_O 6 [z_r (tN ad (5 + 3 * M)), z_i (z : Int)])) (tN ad (5 + 3 * M)) (c_I 200 f')) (tN ad (3 + 3 * M)) (c_O 1 [z_r (tN ad (4 + 3 * M)), z_i (Nw 5022), z_i i])) (tN ad 0) (c_O 5 [z_r (tN ad 1), z_r (tN ad 2), z_i (Nw 5020), z_i (Nw 5025 + 1), z_i m, z_i (if Nw 5021 = 0 then 1 - Nw 5022 else Nw 5022), z_i (Nw 5021), z_i (Nw 5024)]) := ⟨_, rfl⟩
  rw [← hh] at hd ⊢
  have hfr : ∀ q, (∀ x, x < 153 → q ≠ tN ad x) → h' q = h q := fun q hq => by rw [hh, z_up_n (hq 0 (by decide)), z_up_n (hq _ (by omega)), z_up_n (hq _ (by omega)), z_up_n (hq _ (by omega))]
  have hU : ∀ l u, u ≤ 347 → (180 ≤ l ∨ u ≤ 27) → agT ad h h' l u := fun l u h1 h2 x h3 h4 => hfr _ (fun y hy => hI.ne (i := x) (j := 27 + y) (by omega) (by omega) (by omega))
  have hO : agO ad h h' := fun q _ h2 => hfr q (fun y hy => h2 (27 + y) (by omega))
  refine ⟨H.nw (hU _ _ (by decide) (by decide)) (hU _ _ (by decide) (by decide)) hO ⟨Lf, _, _, _, _, _, _, _, _, _, _, hd, fun j hj a ha => ?_, fun _ => ⟨⟨(dn_lo hM (by omega) (by decide) (by decide) (by decide)).symm, dn_25.symm, dn_23.symm, dn_22.symm, (dn_lo hM (by omega) (by decide) (by decide) (by decide)).symm, (dn_lo hM (by omega) (by decide) (by decide) (by decide)).symm⟩, fun w hw => ?_, (hln.ag (fun k hk => dn_lo hM (by omega) (by omega) (by omega) (by omega)) (by rw [dn_lo hM (by omega) (by decide) (by decide) (by decide)]; exact Int.le_refl _) v1.2 (fun _ _ => rfl)).fr hO⟩⟩, fun q _ h2 => hfr q (fun y hy => h2 (27 + y) (by omega))⟩
  · obtain ⟨⟨fs, k1⟩, k2⟩ := hL j hj a ha
    exact ⟨⟨fs, (hO a (by rw [k1]; exact Option.some_ne_none _) k2).trans k1⟩, k2⟩
  · by_cases c : w = M
    · subst c
      have eF : zF (dnN Nw i f z m) w = z := by
        unfold zF
        rw [dn_r2 hM]
        exact Int.toNat_natCast z
      rw [z_sf_s, z_sf_s, z_sf_s, updF_s]
      refine ⟨(dn_r0 hM).symm, (dn_r1 hM).symm, by rw [eF], fun j hj => ?_⟩
      rw [eF] at hj
      exact (hf j hj).trans (dn_r4 hM hj).symm
    · have hw2 : w < M := by omega
      have hR := v7 w (by omega)
      have hz2 := hR.1.2.2.1
      obtain ⟨h1, h2, h3, h4⟩ := hcl w (by omega)
      have eF : zF (dnN Nw i f z m) w = zF Nw w := congrArg Int.toNat (dn_lo hM (by omega) (by omega) (by omega) (by omega))
      rw [z_sf_n c, z_sf_n c, z_sf_n c, updF_n c]
      refine ⟨h1.trans (dn_lo hM (by omega) (by omega) (by omega) (by omega)).symm, h2.trans (dn_lo hM (by omega) (by omega) (by omega) (by omega)).symm, by rw [eF]; exact h3, fun j hj => ?_⟩
      rw [eF] at hj
      exact (h4 j hj).trans (dn_lo hM (by omega) (by omega) (by omega) (by omega)).symm
end ZDN
/-- the chain's cells -/
def chU (h : z_H) (ad : Nat → Nat) (f : z_row) (L : Nat) : z_H := z_up (z_up h (ad 9) (c_I 24 f)) (ad 8) (c_O 0 [z_r (ad 9), z_i (L : Int)])
section ZCH
variable {h : z_H} {ad : Nat → Nat} {f f' : z_row} {L : Nat} {q : wkT}
theorem chU_T (hI : aJ ad) {t : Nat} (ht : t < 347) (hc : t < 3 ∨ 10 ≤ t) : PH (chU h ad f L) (ad 3) (ad 4) (ad 5) (ad 6) (ad 7) q (ad t) = h (ad t) := by
  have e := PH_T (h := chU h ad f L) (q := q) hI (l := t) (u := t + 1) (by omega) (by omega) t (by omega) (by omega)
  rw [e]
  unfold chU
  rw [z_up_n (hI.ne ht (by decide) (by omega)), z_up_n (hI.ne ht (by decide) (by omega))]
theorem chU_o (hI : aJ ad) (hL : L ≤ 8) : oCh (PH (chU h ad f L) (ad 3) (ad 4) (ad 5) (ad 6) (ad 7) q) (ad 8) (ad 9) L f := by
  refine ⟨?_, ?_, hL⟩
  · rw [PH_T (h := chU h ad f L) (q := q) hI (l := 8) (u := 10) (by omega) (by omega) 8 (by omega) (by omega)]
    exact z_up_s
  · rw [PH_T (h := chU h ad f L) (q := q) hI (l := 8) (u := 10) (by omega) (by omega) 9 (by omega) (by omega)]
    unfold chU
    rw [z_up_n (hI.ne (i := 9) (j := 8) (by decide) (by decide) (by decide)), z_up_s]
theorem z_up_PH (hI : aJ ad) {t : Nat} {e : z_C} (ht : t < 347) (h1 : 8 ≤ t ∨ t < 3) : z_up (PH h (ad 3) (ad 4) (ad 5) (ad 6) (ad 7) q) (ad t) e = PH (z_up h (ad t) e) (ad 3) (ad 4) (ad 5) (ad 6) (ad 7) q := by
  funext j
  by_cases c : j = ad t
  · subst c
    rw [z_up_s, PH_T hI (h := z_up h (ad t) e) (l := t) (u := t + 1) (by omega) (by omega) t (by omega) (by omega), z_up_s]
  · rw [z_up_n c]
    unfold PH
    rw [z_up_n c]
theorem chU_u (hI : aJ ad) {f' : z_row} {v : Int} {L' : Nat} (hv : v = (L' : Int)) : z_up (z_up (PH (chU h ad f L) (ad 3) (ad 4) (ad 5) (ad 6) (ad 7) q) (ad 9) (c_I 24 f')) (ad 8) (c_O 0 [z_r (ad 9), z_i v]) = PH (chU h ad f' L') (ad 3) (ad 4) (ad 5) (ad 6) (ad 7) q := by
  rw [z_up_PH hI (by decide) (by decide), z_up_PH hI (by decide) (by decide), hv]
  refine congrArg (fun z => PH z (ad 3) (ad 4) (ad 5) (ad 6) (ad 7) q) ?_
  funext j
  unfold chU z_up
  by_cases c1 : j = ad 8
  · simp only [if_pos c1]
  · by_cases c2 : j = ad 9
    · simp only [if_neg c1, if_pos c2]
    · simp only [if_neg c1, if_neg c2]
theorem chU_b (hI : aJ ad) (h9 : h (ad 9) = some (c_I 24 f)) : z_up (PH h (ad 3) (ad 4) (ad 5) (ad 6) (ad 7) q) (ad 8) (c_O 0 [z_r (ad 9), z_i 0]) = PH (chU h ad f 0) (ad 3) (ad 4) (ad 5) (ad 6) (ad 7) q := by
  rw [z_up_PH hI (by decide) (by decide)]
  unfold chU
  rw [z_up_self h9]
  rfl
/-- the world with the chain told anew -/
theorem cW.cu {Rf Nw Th Tp Lk Ho Sz Im : z_row} {kp : Int} {t ca : Nat} {G Gt : Nat → z_G4} (hI : aJ ad) (H : cW h ad Rf Nw Th Tp Lk Ho Sz Im kp t ca G Gt) (hL : L ≤ 8) : cW (PH (chU h ad f L) (ad 3) (ad 4) (ad 5) (ad 6) (ad 7) q) ad Rf Nw Th Tp f Ho Sz Im kp t L G Gt ∧ zfr ad h (PH (chU h ad f L) (ad 3) (ad 4) (ad 5) (ad 6) (ad 7) q) := by
  have hn : ∀ y, y ≠ ad 8 → y ≠ ad 9 → chU h ad f L y = h y := fun y h1 h2 => by
    unfold chU
    rw [z_up_n h1, z_up_n h2]
  have h1 : cW (chU h ad f L) ad Rf Nw Th Tp f Ho Sz Im kp t L G Gt := H.ch (fun x h3 h4 => hn _ (hI.ne (by omega) (by decide) (by omega)) (hI.ne (by omega) (by decide) (by omega))) (fun x h3 h4 => hn _ (hI.ne (by omega) (by decide) (by omega)) (hI.ne (by omega) (by decide) (by omega))) (fun y _ h3 => hn y (h3 8 (by decide)) (h3 9 (by decide))) ⟨f, ⟨by unfold chU; exact z_up_s, by unfold chU; rw [z_up_n (hI.ne (i := 9) (j := 8) (by decide) (by decide) (by decide))]; exact z_up_s, hL⟩, fun _ _ => rfl⟩
  refine ⟨h1.ph hI, fun y h2 h3 => ?_⟩
  have e := hn y (h3 8 (by decide)) (h3 9 (by decide))
  rw [PH_Z (h := chU h ad f L) (q := q) y (by rw [e]; exact h2) h3, e]
end ZCH
set_option maxHeartbeats 4000000 in
set_option maxRecDepth 100000 in
theorem D_X8_keepWhy {g : z_G} {h : z_H} {ad : Nat → Nat} (hI : aJ ad) {kp : Int} {t : Nat} (w0 : h (ad 0) = some (c_O 7 [z_r (tN ad 0), z_r (tK ad 0), z_i kp, z_r (ad 1), z_i (t : Int), z_r (ad 2), z_r (ad 3), z_r (ad 8), z_r (ad 10)])) {b : Nat} {li tm : Int} (hb : b = if tm > 0 then 1 else 0) {f0 f1 fp1 ft1 : z_row} {z1 l1 m1 hi1 pl1 : Int} {iw : Nat} (hiw : iw ≤ 5) (hp0 : lkP f0 tm li (f1, fp1, ft1, z1, l1, m1, hi1, pl1, (iw : Int)) b) : z_D g mX8_keepWhy 2 0 0 [z_r (ad 0), z_i li] (PH (chU h ad f0 b) (ad 3) (ad 4) (ad 5) (ad 6) (ad 7) (f1, fp1, ft1, z1, l1, m1, hi1, pl1, (iw : Int))) (fun rv h' => rv = none ∧ ∃ fL : z_row, lkP fL tm li (f1, fp1, ft1, z1, l1, m1, hi1, pl1, (iw : Int)) (lkN tm (f1, fp1, ft1, z1, l1, m1, hi1, pl1, (iw : Int))) ∧ h' = (PH (chU h ad fL (lkN tm (f1, fp1, ft1, z1, l1, m1, hi1, pl1, (iw : Int)))) (ad 3) (ad 4) (ad 5) (ad 6) (ad 7) (f1, fp1, ft1, z1, l1, m1, hi1, pl1, (iw : Int)))) := by
  refine z_D.of (by decide +kernel) (Nat.le_of_ble_eq_true rfl) (fun X F => ?_)
  have hb2 : (if tm > 0 then 2 else 1) = b + 1 := by rw [hb]; split <;> rfl
  have hb1 : b ≤ 1 := by rw [hb]; split <;> omega
  have hN : lkN tm (f1, fp1, ft1, z1, l1, m1, hi1, pl1, (iw : Int)) = b + 1 + iw + 1 := by unfold lkN; rw [hb2]; show b + 1 + ((iw : Int)).toNat + 1 = _; rw [Int.toNat_natCast]
  show z_w g X cX8_keepWhy RX8 (2, 0, 0) 0 [z_r (ad 0), z_i li, z_u] [] (PH (chU h ad f0 b) (ad 3) (ad 4) (ad 5) (ad 6) (ad 7) (f1, fp1, ft1, z1, l1, m1, hi1, pl1, (iw : Int))) 0 0
  refine z_aload_n dX8_keepWhy_0 rfl ?_
  refine gf_X8_39 dX8_keepWhy_1 ((chU_T hI (t := 0) (by decide) (by decide)).trans w0) rfl ?_
  refine z_bipush dX8_keepWhy_4 rfl ?_
  refine z_iload_n dX8_keepWhy_6 rfl ?_
  refine z_aload_n dX8_keepWhy_7 rfl ?_
  refine gf_X8_32 dX8_keepWhy_8 ((chU_T hI (t := 0) (by decide) (by decide)).trans w0) rfl ?_
  refine gf_X8_226 dX8_keepWhy_11 PHx rfl ?_
  refine gf_X8_227 dX8_keepWhy_14 (PHc hI.p) rfl ?_
  refine cs_X8_200 dX8_keepWhy_17 (D_X0_addLink (chU_o hI (f := f0) (L := b) (by omega)) (by omega)) (chU_o hI (f := f0) (L := b) (by omega)).1 rfl rfl (Nat.le_of_ble_eq_true rfl) (by decide) (fun rv h' hq => ?_)
  obtain ⟨rfl, g1, hq2, hA1, hx1, hy1, hv1⟩ := hq
  refine z_heq (hq2.trans (chU_u hI (L' := b + 1) (by omega))) ?_
  have hP1 : lkP g1 tm li (f1, fp1, ft1, z1, l1, m1, hi1, pl1, (iw : Int)) (b + 1) := lkP_s hp0 hA1 (lkQ_11 hb) hx1 hy1 hv1
  show z_w _ _ _ _ _ _ _ [] _ _ _
  refine z_iconst dX8_keepWhy_20 ?_
  refine z_istore_n dX8_keepWhy_21 (Nat.le_of_ble_eq_true rfl) rfl ?_
  have L4 : ∀ (fu : Nat) (r : Nat) (fR : z_row) (q1 : r ≤ iw) (hPr : lkP fR tm li (f1, fp1, ft1, z1, l1, m1, hi1, pl1, (iw : Int)) (b + 1 + r)), iw - r < fu → z_w g X cX8_keepWhy RX8 (2, 0, 0) 22 [z_r (ad 0), z_i li, z_i (r : Int)] [] (PH (chU h ad fR (b + 1 + r)) (ad 3) (ad 4) (ad 5) (ad 6) (ad 7) (f1, fp1, ft1, z1, l1, m1, hi1, pl1, (iw : Int))) 0 0 := by
    intro fu
    induction fu with
    | zero => intro r fR q1 hPr hm; exact absurd hm (Nat.not_lt_zero _)
    | succ fu ih =>
      intro r fR q1 hPr hm
      refine z_iload_n dX8_keepWhy_22 rfl ?_
      refine z_aload_n dX8_keepWhy_23 rfl ?_
      refine gf_X8_32 dX8_keepWhy_24 ((chU_T hI (t := 0) (by decide) (by decide)).trans w0) rfl ?_
      refine gf_X8_314 dX8_keepWhy_27 PHx rfl ?_
      refine z_icmp_ge dX8_keepWhy_30 (tgt := 64) rfl ⟨by omega, by omega⟩ ⟨by omega, by omega⟩ (fun c1 => ?_) (fun c1 => ?_)
      · skip
        obtain rfl : iw = r := by omega
        refine z_aload_n dX8_keepWhy_64 rfl ?_
        refine gf_X8_39 dX8_keepWhy_65 ((chU_T hI (t := 0) (by decide) (by decide)).trans w0) rfl ?_
        refine z_aload_n dX8_keepWhy_68 rfl ?_
        refine gf_X8_32 dX8_keepWhy_69 ((chU_T hI (t := 0) (by decide) (by decide)).trans w0) rfl ?_
        refine gf_X8_232 dX8_keepWhy_72 PHx rfl ?_
        refine z_aload_n dX8_keepWhy_75 rfl ?_
        refine gf_X8_32 dX8_keepWhy_76 ((chU_T hI (t := 0) (by decide) (by decide)).trans w0) rfl ?_
        refine gf_X8_323 dX8_keepWhy_79 PHx rfl ?_
        refine z_aload_n dX8_keepWhy_82 rfl ?_
        refine gf_X8_32 dX8_keepWhy_83 ((chU_T hI (t := 0) (by decide) (by decide)).trans w0) rfl ?_
        refine gf_X8_326 dX8_keepWhy_86 PHx rfl ?_
        refine cs_X8_200 dX8_keepWhy_89 (D_X0_addLink (chU_o hI (f := fR) (L := b + 1 + iw) (by omega)) (by omega)) (chU_o hI (f := fR) (L := b + 1 + iw) (by omega)).1 rfl rfl (Nat.le_of_ble_eq_true rfl) (by decide) (fun rv h' hq => ?_)
        obtain ⟨rfl, g2, hq2, hA2, hx2, hy2, hv2⟩ := hq
        refine z_heq (hq2.trans (chU_u hI (L' := b + 1 + iw + 1) (by omega))) ?_
        have hP2 : lkP g2 tm li (f1, fp1, ft1, z1, l1, m1, hi1, pl1, (iw : Int)) (b + 1 + iw + 1) := lkP_s hPr hA2 (lkQ_e (by rw [hb2]; show b + 1 + ((iw : Int)).toNat ≤ _; omega)) hx2 hy2 hv2
        show z_w _ _ _ _ _ _ _ [] _ _ _
        exact z_vret F dX8_keepWhy_92 rfl (by decide) ⟨rfl, g2, by rw [hN]; exact hP2, by rw [hN]⟩
      · skip
        refine z_aload_n dX8_keepWhy_33 rfl ?_
        refine gf_X8_39 dX8_keepWhy_34 ((chU_T hI (t := 0) (by decide) (by decide)).trans w0) rfl ?_
        refine z_bipush dX8_keepWhy_37 rfl ?_
        refine z_aload_n dX8_keepWhy_39 rfl ?_
        refine gf_X8_32 dX8_keepWhy_40 ((chU_T hI (t := 0) (by decide) (by decide)).trans w0) rfl ?_
        refine z_iload_n dX8_keepWhy_43 rfl ?_
        refine cs_X8_317 dX8_keepWhy_44 (D_X4_groupPlaceAt hI.p (j := (r : Int)) ⟨by omega, by omega⟩) PHx rfl rfl (Nat.le_of_ble_eq_true rfl) (by decide) (z_ki ?_)
        refine z_aload_n dX8_keepWhy_47 rfl ?_
        refine gf_X8_32 dX8_keepWhy_48 ((chU_T hI (t := 0) (by decide) (by decide)).trans w0) rfl ?_
        refine z_iload_n dX8_keepWhy_51 rfl ?_
        refine cs_X8_320 dX8_keepWhy_52 (D_X4_groupTimeAt hI.p (j := (r : Int)) ⟨by omega, by omega⟩) PHx rfl rfl (Nat.le_of_ble_eq_true rfl) (by decide) (z_ki ?_)
        refine cs_X8_200 dX8_keepWhy_55 (D_X0_addLink (chU_o hI (f := fR) (L := b + 1 + r) (by omega)) (by omega)) (chU_o hI (f := fR) (L := b + 1 + r) (by omega)).1 rfl rfl (Nat.le_of_ble_eq_true rfl) (by decide) (fun rv h' hq => ?_)
        obtain ⟨rfl, g3, hq2, hA3, hx3, hy3, hv3⟩ := hq
        refine z_heq (hq2.trans (chU_u hI (L' := b + 1 + r + 1) (by omega))) ?_
        have hP3 : lkP g3 tm li (f1, fp1, ft1, z1, l1, m1, hi1, pl1, (iw : Int)) (b + 1 + r + 1) := lkP_s hPr hA3 (lkQ_10 (j := r) (by rw [hb2]) (show (r : Int) < (iw : Int) by omega)) hx3 hy3 hv3
        show z_w _ _ _ _ _ _ _ [] _ _ _
        refine z_iinc dX8_keepWhy_58 rfl rfl ?_
        refine z_goto dX8_keepWhy_61 (tgt := 22) rfl ?_
        exact ih (r + 1) _ (by omega) hP3 (by omega)
  exact L4 (iw + 1) 0 _ (Nat.zero_le _) hP1 (by omega)
