/-! each call, on both worlds -/
theorem l_hd {h : z_H} {ad : Nat → Nat} {Rf Nw Th Tp Tx Kd Ia It Lk Ho Sz Im Mv : Nat → Int} {kp ln sz at_ we pa de ti lf md mn hi ha is_ ca : Int} (hI : aJ ad) (e : h = MH h (lA ad) Rf Nw Th Tp Tx Kd Ia It Lk Ho Sz Im Mv kp ln sz at_ we pa de ti lf md mn hi ha is_ ca) : ∀ x, 333 ≤ x → x < 347 → h (ad x) ≠ none := fun x h1 h2 q => by
  obtain ⟨j, rfl⟩ : ∃ j, x = 333 + j := ⟨x - 333, by omega⟩
  have e2 := congrFun e (lA ad j)
  exact (MH_in (h1 := h) (lA_D hI) j (by omega)).2 (e2.symm.trans q)
theorem l_20 {N : z_row} {G : Nat → z_G4} (w1 : nWf N G) (h : ¬ N 5020 = 20) : N 5020 < 20 := by
  have := w1.1
  omega
theorem l_sh {Nw : z_row} {G : Nat → z_G4} {b c : Int} (w1 : nWf Nw G) (hc : b = -1 ∨ (isW Nw b ∧ 0 ≤ c ∧ c < (zF Nw b.toNat : Int))) : (if b = -1 then -1 else 10 + kR Nw b.toNat c.toNat) = -1 ∨ (14 ≤ (if b = -1 then -1 else 10 + kR Nw b.toNat c.toNat) ∧ (if b = -1 then -1 else 10 + kR Nw b.toNat c.toNat) ≤ 22) := by
  by_cases q : b = -1
  · exact Or.inl (if_pos q)
  · rw [if_neg q]
    obtain ⟨⟨h1, h2⟩, h3, h4⟩ := hc.resolve_left q
    have := (w1.2.2.2.2.2.2 b.toNat (by omega)).1.2.2.2 c.toNat (by omega)
    omega
theorem l_fd {Tp : z_row} {t : Nat} {a : Int} (w4 : t ≤ 250 ∧ ∀ k, k < t → 0 ≤ Tp k ∧ Tp k ≤ 255) (h1 : ¬ t = 250) (ha : 0 ≤ a ∧ a ≤ 255) : t + 1 ≤ 250 ∧ ∀ k, k < t + 1 → 0 ≤ z_sf Tp t a k ∧ z_sf Tp t a k ≤ 255 := by
  refine ⟨by omega, fun k hk => ?_⟩
  by_cases q : k = t
  · subst q
    rw [z_sf_s]
    exact ha
  · rw [z_sf_n q]
    exact w4.2 k (by omega)
theorem l_rn {Nw : z_row} {G : Nat → z_G4} {a b : Int} {r c : Nat} (w1 : nWf Nw G) (h : isL Nw a ∧ isL Nw b ∧ a ≤ b) : nWf (rnO G (b - a + 1).toNat a.toNat r 1 Nw c).2.2.1 G ∧ (rnO G (b - a + 1).toNat a.toNat r 1 Nw c).2.2.1 5020 = Nw 5020 := by
  obtain ⟨⟨p1, p2⟩, ⟨p3, p4⟩, p5⟩ := h
  exact nWf_rnO r 1 Nw c w1 (by omega)
set_option maxHeartbeats 4000000 in
theorem lq_row {g : z_G} {h : z_H} {ad : Nat → Nat} (hI : aJ ad) (hL : lI h ad) {a b c : Int} (za : z_in a) (zb : z_in b) (zc : z_in c) : lPi g ad mX8_row mX9_row [z_i a, z_i b, z_i c] h := by
  obtain ⟨Rf, Nw, Th, Tp, Lk, Ho, Sz, Im, kp, t, ca, G, Gt, hf, hw, Tx, Kd, Ia, It, Mv, sz, at_, we, pa, de, ti, lf, md, mn, hi, hq, is_, hha, e⟩ := hL
  obtain ⟨w1, w2, w3, w4, w5, w6⟩ := id hf
  refine ⟨⟨_, hw.1.1⟩, _, _, _, (by decide), (by decide), (by decide), z_D.mono (D_X8_row hI hw w5 za zb zc) (fun rv h1 H => ?_)⟩
  by_cases c1 : isS a ∧ (0 ≤ b ∧ b ≤ 4) ∧ 0 ≤ c ∧ c ≤ 40
  · obtain ⟨r1, hw', hz⟩ := (H.1 c1)
    refine ⟨_, r1, lNN.of hI e hz (by decide) (z_D.mono (D_X9_row (lA_D hI) w5 za zb zc) (fun rv2 h2 K => ?_))⟩
    obtain ⟨s1, s2⟩ := (K.1 c1)
    exact ⟨s1, l_fin hI hw' ⟨w1, w2, w3, w4, hWf_row w5 c1.2.1 c1.2.2, iWf_row w6⟩ ⟨_, _, _, _, _, _, _, _, _, _, _, _, _, _, _, _, _, hha, s2⟩⟩
  · obtain ⟨r1, r2⟩ := (H.2 c1)
    obtain ⟨hw', hz⟩ := l_rf hI r2 hw
    refine ⟨_, r1, lNN.of hI e hz (by decide) (z_D.mono (D_X9_row (lA_D hI) w5 za zb zc) (fun rv2 h2 K => ?_))⟩
    obtain ⟨s1, s2⟩ := (K.2 c1)
    exact ⟨s1, l_fin hI hw' hf ⟨_, _, _, _, _, _, _, _, _, _, _, _, _, _, _, _, _, hha, s2⟩⟩
set_option maxHeartbeats 4000000 in
theorem lq_set {g : z_G} {h : z_H} {ad : Nat → Nat} (hI : aJ ad) (hL : lI h ad) {a b v : Int} (za : z_in a) (zb : z_in b) (zv : z_inL v) : lPi g ad mX8_set mX9_set [z_i a, z_i b, z_l v] h := by
  obtain ⟨Rf, Nw, Th, Tp, Lk, Ho, Sz, Im, kp, t, ca, G, Gt, hf, hw, Tx, Kd, Ia, It, Mv, sz, at_, we, pa, de, ti, lf, md, mn, hi, hq, is_, hha, e⟩ := hL
  obtain ⟨w1, w2, w3, w4, w5, w6⟩ := id hf
  refine ⟨⟨_, hw.1.1⟩, _, _, _, (by decide), (by decide), (by decide), z_D.mono (D_X8_set hI hw w5 za zb zv) (fun rv h1 H => ?_)⟩
  by_cases c1 : amB Ho a = 0
  · by_cases c2 : 0 ≤ b ∧ b < Sz a.toNat
    · obtain ⟨r1, hw', hz⟩ := ((H.2 c1).1 c2)
      refine ⟨_, r1, lNN.of hI e hz (by decide) (z_D.mono (D_X9_set (lA_D hI) w5 za zb zv) (fun rv2 h2 K => ?_))⟩
      obtain ⟨s1, s2⟩ := ((K.2 c1).1 c2)
      exact ⟨s1, l_fin hI hw' ⟨w1, w2, w3, w4, w5, iWf_set w6 (loB_in zv)⟩ ⟨_, _, _, _, _, _, _, _, _, _, _, _, _, _, _, _, _, hha, s2⟩⟩
    · obtain ⟨r1, r2⟩ := ((H.2 c1).2 c2)
      obtain ⟨hw', hz⟩ := l_rf hI r2 hw
      refine ⟨_, r1, lNN.of hI e hz (by decide) (z_D.mono (D_X9_set (lA_D hI) w5 za zb zv) (fun rv2 h2 K => ?_))⟩
      obtain ⟨s1, s2⟩ := ((K.2 c1).2 c2)
      exact ⟨s1, l_fin hI hw' hf ⟨_, _, _, _, _, _, _, _, _, _, _, _, _, _, _, _, _, hha, s2⟩⟩
  · obtain ⟨r1, r2⟩ := (H.1 c1)
    obtain ⟨hw', hz⟩ := l_rf hI r2 hw
    refine ⟨_, r1, lNN.of hI e hz (by decide) (z_D.mono (D_X9_set (lA_D hI) w5 za zb zv) (fun rv2 h2 K => ?_))⟩
    obtain ⟨s1, s2⟩ := (K.1 c1)
    exact ⟨s1, l_fin hI hw' hf ⟨_, _, _, _, _, _, _, _, _, _, _, _, _, _, _, _, _, hha, s2⟩⟩
set_option maxHeartbeats 4000000 in
theorem lq_copy {g : z_G} {h : z_H} {ad : Nat → Nat} (hI : aJ ad) (hL : lI h ad) {a b c d e9 : Int} (za : z_in a) (zb : z_in b) (zc : z_in c) (zd : z_in d) (ze : z_in e9) : lPi g ad mX8_copy mX9_copy [z_i a, z_i b, z_i c, z_i d, z_i e9] h := by
  obtain ⟨Rf, Nw, Th, Tp, Lk, Ho, Sz, Im, kp, t, ca, G, Gt, hf, hw, Tx, Kd, Ia, It, Mv, sz, at_, we, pa, de, ti, lf, md, mn, hi, hq, is_, hha, e⟩ := hL
  obtain ⟨w1, w2, w3, w4, w5, w6⟩ := id hf
  refine ⟨⟨_, hw.1.1⟩, _, _, _, (by decide), (by decide), (by decide), z_D.mono (D_X8_copy hI hw w5 za zb zc zd ze) (fun rv h1 H => ?_)⟩
  by_cases c1 : isS a ∧ isS b
  · by_cases c2 : (amI (Ho a.toNat) = -93 ∨ amI (Ho b.toNat) = -93 ∨ (amI (Ho a.toNat) = 0 ∧ amI (Ho b.toNat) = 0 ∧ Ho a.toNat ≠ Ho b.toNat))
    · obtain ⟨r1, r2⟩ := ((H.2 c1).1 c2)
      obtain ⟨hw', hz⟩ := l_rf hI r2 hw
      refine ⟨_, r1, lNN.of hI e hz (by decide) (z_D.mono (D_X9_copy (lA_D hI) w5 za zb zc zd ze) (fun rv2 h2 K => ?_))⟩
      obtain ⟨s1, s2⟩ := ((K.2 c1).1 c2)
      exact ⟨s1, l_fin hI hw' hf ⟨_, _, _, _, _, _, _, _, _, _, _, _, _, _, _, _, _, hha, s2⟩⟩
    · by_cases c3 : (amI (Ho a.toNat) ≠ 0 ∨ amI (Ho b.toNat) ≠ 0)
      · obtain ⟨r1, r2⟩ := (((H.2 c1).2 c2).1 c3)
        obtain ⟨hw', hz⟩ := l_rf hI r2 hw
        refine ⟨_, r1, lNN.of hI e hz (by decide) (z_D.mono (D_X9_copy (lA_D hI) w5 za zb zc zd ze) (fun rv2 h2 K => ?_))⟩
        obtain ⟨s1, s2⟩ := (((K.2 c1).2 c2).1 c3)
        exact ⟨s1, l_fin hI hw' hf ⟨_, _, _, _, _, _, _, _, _, _, _, _, _, _, _, _, _, hha, s2⟩⟩
      · by_cases c4 : (0 ≤ e9 ∧ 0 ≤ c ∧ 0 ≤ d ∧ e9 ≤ Sz a.toNat - c ∧ e9 ≤ Sz b.toNat - d)
        · obtain ⟨r1, hw', hz⟩ := ((((H.2 c1).2 c2).2 c3).2 c4)
          refine ⟨_, r1, lNN.of hI e hz (by decide) (z_D.mono (D_X9_copy (lA_D hI) w5 za zb zc zd ze) (fun rv2 h2 K => ?_))⟩
          obtain ⟨s1, Mv2, s2⟩ := ((((K.2 c1).2 c2).2 c3).2 c4)
          exact ⟨s1, l_fin hI hw' ⟨w1, w2, w3, w4, w5, iWf_copy w6 (by have := w5 a.toNat (by omega); omega)⟩ ⟨_, _, _, _, _, _, _, _, _, _, _, _, _, _, _, _, _, hha, s2⟩⟩
        · obtain ⟨r1, r2⟩ := ((((H.2 c1).2 c2).2 c3).1 c4)
          obtain ⟨hw', hz⟩ := l_rf hI r2 hw
          refine ⟨_, r1, lNN.of hI e hz (by decide) (z_D.mono (D_X9_copy (lA_D hI) w5 za zb zc zd ze) (fun rv2 h2 K => ?_))⟩
          obtain ⟨s1, s2⟩ := ((((K.2 c1).2 c2).2 c3).1 c4)
          exact ⟨s1, l_fin hI hw' hf ⟨_, _, _, _, _, _, _, _, _, _, _, _, _, _, _, _, _, hha, s2⟩⟩
  · obtain ⟨r1, r2⟩ := (H.1 c1)
    obtain ⟨hw', hz⟩ := l_rf hI r2 hw
    refine ⟨_, r1, lNN.of hI e hz (by decide) (z_D.mono (D_X9_copy (lA_D hI) w5 za zb zc zd ze) (fun rv2 h2 K => ?_))⟩
    obtain ⟨s1, s2⟩ := (K.1 c1)
    exact ⟨s1, l_fin hI hw' hf ⟨_, _, _, _, _, _, _, _, _, _, _, _, _, _, _, _, _, hha, s2⟩⟩
set_option maxHeartbeats 4000000 in
theorem lq_element {g : z_G} {h : z_H} {ad : Nat → Nat} (hI : aJ ad) (hL : lI h ad) {a b : Int} (za : z_in a) (zb : z_in b) : lPl g ad mX8_element mX9_element [z_i a, z_i b] h := by
  obtain ⟨Rf, Nw, Th, Tp, Lk, Ho, Sz, Im, kp, t, ca, G, Gt, hf, hw, Tx, Kd, Ia, It, Mv, sz, at_, we, pa, de, ti, lf, md, mn, hi, hq, is_, hha, e⟩ := hL
  obtain ⟨w1, w2, w3, w4, w5, w6⟩ := id hf
  refine ⟨⟨_, hw.1.1⟩, _, _, _, (by decide), (by decide), (by decide), z_D.mono (D_X8_element hI hw w5 za zb) (fun rv h1 H => ?_)⟩
  obtain ⟨r1, r2⟩ := H
  obtain ⟨hw', hz⟩ := l_sm r2 hw
  refine ⟨_, r1, lNN.of hI e hz (by decide) (z_D.mono (D_X9_element (lA_D hI) w5 za zb) (fun rv2 h2 K => ?_))⟩
  obtain ⟨s1, s2⟩ := K
  exact ⟨s1, l_fin hI hw' hf ⟨_, _, _, _, _, _, _, _, _, _, _, _, _, _, _, _, _, hha, s2⟩⟩
set_option maxHeartbeats 4000000 in
theorem lq_holds {g : z_G} {h : z_H} {ad : Nat → Nat} (hI : aJ ad) (hL : lI h ad) {a : Int} (za : z_in a) : lPi g ad mX8_holds mX9_holds [z_i a] h := by
  obtain ⟨Rf, Nw, Th, Tp, Lk, Ho, Sz, Im, kp, t, ca, G, Gt, hf, hw, Tx, Kd, Ia, It, Mv, sz, at_, we, pa, de, ti, lf, md, mn, hi, hq, is_, hha, e⟩ := hL
  obtain ⟨w1, w2, w3, w4, w5, w6⟩ := id hf
  refine ⟨⟨_, hw.1.1⟩, _, _, _, (by decide), (by decide), (by decide), z_D.mono (D_X8_holds hI hw w5 za) (fun rv h1 H => ?_)⟩
  obtain ⟨r1, r2⟩ := H
  obtain ⟨hw', hz⟩ := l_sm r2 hw
  refine ⟨_, r1, lNN.of hI e hz (by decide) (z_D.mono (D_X9_holds (lA_D hI) za) (fun rv2 h2 K => ?_))⟩
  obtain ⟨s1, s2⟩ := K
  exact ⟨s1, l_fin hI hw' hf ⟨_, _, _, _, _, _, _, _, _, _, _, _, _, _, _, _, _, hha, s2⟩⟩
set_option maxHeartbeats 4000000 in
theorem lq_show {g : z_G} {h : z_H} {ad : Nat → Nat} (hI : aJ ad) (hL : lI h ad) {a b c : Int} (za : z_in a) (zb : z_in b) (zc : z_in c) : lPi g ad mX8_show mX9_show [z_i a, z_i b, z_i c] h := by
  obtain ⟨Rf, Nw, Th, Tp, Lk, Ho, Sz, Im, kp, t, ca, G, Gt, hf, hw, Tx, Kd, Ia, It, Mv, sz, at_, we, pa, de, ti, lf, md, mn, hi, hq, is_, hha, e⟩ := hL
  obtain ⟨w1, w2, w3, w4, w5, w6⟩ := id hf
  refine ⟨⟨_, hw.1.1⟩, _, _, _, (by decide), (by decide), (by decide), z_D.mono (D_X8_show hI hw w1 w5 za zb zc) (fun rv h1 H => ?_)⟩
  by_cases c1 : isS a ∧ (b = -1 ∨ (isW Nw b ∧ 0 ≤ c ∧ c < (zF Nw b.toNat : Int)))
  · obtain ⟨r1, hw', hz⟩ := (H.1 c1)
    refine ⟨_, r1, lNN.of hI e hz (by decide) (z_D.mono (D_X9_show (lA_D hI) w1 w5 za zb zc) (fun rv2 h2 K => ?_))⟩
    obtain ⟨s1, s2⟩ := (K.1 c1)
    exact ⟨s1, l_fin hI hw' ⟨w1, w2, w3, w4, hWf_show w5 (l_sh w1 c1.2), w6⟩ ⟨_, _, _, _, _, _, _, _, _, _, _, _, _, _, _, _, _, hha, s2⟩⟩
  · obtain ⟨r1, r2⟩ := (H.2 c1)
    obtain ⟨hw', hz⟩ := l_rf hI r2 hw
    refine ⟨_, r1, lNN.of hI e hz (by decide) (z_D.mono (D_X9_show (lA_D hI) w1 w5 za zb zc) (fun rv2 h2 K => ?_))⟩
    obtain ⟨s1, s2⟩ := (K.2 c1)
    exact ⟨s1, l_fin hI hw' hf ⟨_, _, _, _, _, _, _, _, _, _, _, _, _, _, _, _, _, hha, s2⟩⟩
set_option maxHeartbeats 4000000 in
theorem lq_says {g : z_G} {h : z_H} {ad : Nat → Nat} (hI : aJ ad) (hL : lI h ad) {a b : Int} (za : z_in a) (zb : z_in b) : lPi g ad mX8_says mX9_says [z_i a, z_i b] h := by
  obtain ⟨Rf, Nw, Th, Tp, Lk, Ho, Sz, Im, kp, t, ca, G, Gt, hf, hw, Tx, Kd, Ia, It, Mv, sz, at_, we, pa, de, ti, lf, md, mn, hi, hq, is_, hha, e⟩ := hL
  obtain ⟨w1, w2, w3, w4, w5, w6⟩ := id hf
  refine ⟨⟨_, hw.1.1⟩, _, _, _, (by decide), (by decide), (by decide), z_D.mono (D_X8_says hI hw w5 za zb) (fun rv h1 H => ?_)⟩
  by_cases c1 : isS a ∧ 0 ≤ b ∧ b ≤ 12
  · by_cases c2 : Ho a.toNat < 0
    · obtain ⟨r1, r2⟩ := ((H.2 c1).1 c2)
      obtain ⟨hw', hz⟩ := l_rf hI r2 hw
      refine ⟨_, r1, lNN.of hI e hz (by decide) (z_D.mono (D_X9_says (lA_D hI) w5 za zb) (fun rv2 h2 K => ?_))⟩
      obtain ⟨s1, s2⟩ := ((K.2 c1).1 c2)
      exact ⟨s1, l_fin hI hw' hf ⟨_, _, _, _, _, _, _, _, _, _, _, _, _, _, _, _, _, hha, s2⟩⟩
    · by_cases c3 : Ho a.toNat < 10 ∨ kUn (Ho a.toNat - 10) b = 0
      · obtain ⟨r1, r2⟩ := (((H.2 c1).2 c2).1 c3)
        obtain ⟨hw', hz⟩ := l_rf hI r2 hw
        refine ⟨_, r1, lNN.of hI e hz (by decide) (z_D.mono (D_X9_says (lA_D hI) w5 za zb) (fun rv2 h2 K => ?_))⟩
        obtain ⟨s1, s2⟩ := (((K.2 c1).2 c2).1 c3)
        exact ⟨s1, l_fin hI hw' hf ⟨_, _, _, _, _, _, _, _, _, _, _, _, _, _, _, _, _, hha, s2⟩⟩
      · obtain ⟨r1, r2⟩ := (((H.2 c1).2 c2).2 c3)
        obtain ⟨hw', hz⟩ := l_sm r2 hw
        refine ⟨_, r1, lNN.of hI e hz (by decide) (z_D.mono (D_X9_says (lA_D hI) w5 za zb) (fun rv2 h2 K => ?_))⟩
        obtain ⟨s1, s2⟩ := (((K.2 c1).2 c2).2 c3)
        exact ⟨s1, l_fin hI hw' hf ⟨_, _, _, _, _, _, _, _, _, _, _, _, _, _, _, _, _, hha, s2⟩⟩
  · obtain ⟨r1, r2⟩ := (H.1 c1)
    obtain ⟨hw', hz⟩ := l_rf hI r2 hw
    refine ⟨_, r1, lNN.of hI e hz (by decide) (z_D.mono (D_X9_says (lA_D hI) w5 za zb) (fun rv2 h2 K => ?_))⟩
    obtain ⟨s1, s2⟩ := (K.1 c1)
    exact ⟨s1, l_fin hI hw' hf ⟨_, _, _, _, _, _, _, _, _, _, _, _, _, _, _, _, _, hha, s2⟩⟩
set_option maxHeartbeats 4000000 in
theorem lq_feed {g : z_G} {h : z_H} {ad : Nat → Nat} (hI : aJ ad) (hL : lI h ad) {a : Int} (za : z_in a) : lPi g ad mX8_feed mX9_feed [z_i a] h := by
  obtain ⟨Rf, Nw, Th, Tp, Lk, Ho, Sz, Im, kp, t, ca, G, Gt, hf, hw, Tx, Kd, Ia, It, Mv, sz, at_, we, pa, de, ti, lf, md, mn, hi, hq, is_, hha, e⟩ := hL
  obtain ⟨w1, w2, w3, w4, w5, w6⟩ := id hf
  refine ⟨⟨_, hw.1.1⟩, _, _, _, (by decide), (by decide), (by decide), z_D.mono (D_X8_feed hI hw w4.1 za) (fun rv h1 H => ?_)⟩
  by_cases c1 : 0 ≤ a ∧ a ≤ 255
  · by_cases c2 : t = 250
    · obtain ⟨r1, r2⟩ := ((H.2 c1).1 c2)
      obtain ⟨hw', hz⟩ := l_rf hI r2 hw
      refine ⟨_, r1, lNN.of hI e hz (by decide) (z_D.mono (D_X9_feed (lA_D hI) w4.1 za) (fun rv2 h2 K => ?_))⟩
      obtain ⟨s1, s2⟩ := ((K.2 c1).1 c2)
      exact ⟨s1, l_fin hI hw' hf ⟨_, _, _, _, _, _, _, _, _, _, _, _, _, _, _, _, _, hha, s2⟩⟩
    · obtain ⟨r1, hw', hz⟩ := ((H.2 c1).2 c2)
      refine ⟨_, r1, lNN.of hI e hz (by decide) (z_D.mono (D_X9_feed (lA_D hI) w4.1 za) (fun rv2 h2 K => ?_))⟩
      obtain ⟨s1, s2⟩ := ((K.2 c1).2 c2)
      exact ⟨s1, l_fin hI hw' ⟨w1, w2, w3, l_fd w4 c2 c1, w5, w6⟩ ⟨_, _, _, _, _, _, _, _, _, _, _, _, _, _, _, _, _, hha, s2⟩⟩
  · obtain ⟨r1, r2⟩ := (H.1 c1)
    obtain ⟨hw', hz⟩ := l_rf hI r2 hw
    refine ⟨_, r1, lNN.of hI e hz (by decide) (z_D.mono (D_X9_feed (lA_D hI) w4.1 za) (fun rv2 h2 K => ?_))⟩
    obtain ⟨s1, s2⟩ := (K.1 c1)
    exact ⟨s1, l_fin hI hw' hf ⟨_, _, _, _, _, _, _, _, _, _, _, _, _, _, _, _, _, hha, s2⟩⟩
set_option maxHeartbeats 4000000 in
theorem lq_wipe {g : z_G} {h : z_H} {ad : Nat → Nat} (hI : aJ ad) (hL : lI h ad) : lPi g ad mX8_wipe mX9_wipe [] h := by
  obtain ⟨Rf, Nw, Th, Tp, Lk, Ho, Sz, Im, kp, t, ca, G, Gt, hf, hw, Tx, Kd, Ia, It, Mv, sz, at_, we, pa, de, ti, lf, md, mn, hi, hq, is_, hha, e⟩ := hL
  obtain ⟨w1, w2, w3, w4, w5, w6⟩ := id hf
  refine ⟨⟨_, hw.1.1⟩, _, _, _, (by decide), (by decide), (by decide), z_D.mono (D_X8_wipe hI hw) (fun rv h1 H => ?_)⟩
  obtain ⟨r1, hw', hz⟩ := H
  refine ⟨_, r1, lNN.of hI e hz (by decide) (z_D.mono (D_X9_wipe (lA_D hI)) (fun rv2 h2 K => ?_))⟩
  obtain ⟨s1, s2⟩ := K
  exact ⟨s1, l_fin hI hw' ⟨w1, w2, w3, ⟨by decide, fun k hk => absurd hk (Nat.not_lt_zero _)⟩, w5, w6⟩ ⟨_, _, _, _, _, _, _, _, _, _, _, _, _, _, _, _, _, hha, s2⟩⟩
set_option maxHeartbeats 4000000 in
theorem lq_line {g : z_G} {h : z_H} {ad : Nat → Nat} (hI : aJ ad) (hL : lI h ad) : lPi g ad mX8_line mX9_line [] h := by
  obtain ⟨Rf, Nw, Th, Tp, Lk, Ho, Sz, Im, kp, t, ca, G, Gt, hf, hw, Tx, Kd, Ia, It, Mv, sz, at_, we, pa, de, ti, lf, md, mn, hi, hq, is_, hha, e⟩ := hL
  obtain ⟨w1, w2, w3, w4, w5, w6⟩ := id hf
  refine ⟨⟨_, hw.1.1⟩, _, _, _, (by decide), (by decide), (by decide), z_D.mono (D_X8_line hI hw w1 (l_hd hI e) w4.1 w4.2) (fun rv h1 H => ?_)⟩
  by_cases c1 : (rdS t Tp (t + 1) 0 (0, 0, 0, 0)).1 = true ∧ (rdS t Tp (t + 1) 0 (0, 0, 0, 0)).2.1 = t
  · by_cases c2 : Nw 5020 = 20
    · obtain ⟨r1, hw', hz⟩ := ((H.2 c1).1 c2)
      refine ⟨_, r1, lNN.of hI e hz (by decide) (z_D.mono (D_X9_line (lA_D hI) w1 w4.1 w4.2 hha) (fun rv2 h2 K => ?_))⟩
      obtain ⟨s1, s2⟩ := ((K.2 c1).1 c2)
      exact ⟨s1, l_fin hI hw' ⟨w1, w2, w3, ⟨by decide, fun k hk => absurd hk (Nat.not_lt_zero _)⟩, w5, w6⟩ s2⟩
    · obtain ⟨r1, g4, ⟨q1, q2⟩, hw', hz⟩ := ((H.2 c1).2 c2)
      refine ⟨_, r1, lNN.of hI e hz (by decide) (z_D.mono (D_X9_line (lA_D hI) w1 w4.1 w4.2 hha) (fun rv2 h2 K => ?_))⟩
      obtain ⟨s1, s2⟩ := ((K.2 c1).2 c2)
      exact ⟨s1, l_fin hI hw' ⟨nWf_ln w1 (l_20 w1 c2) w4.1 w4.2 q1 ⟨c1.1, c1.2, q2⟩, w2, w3, ⟨by decide, fun k hk => absurd hk (Nat.not_lt_zero _)⟩, w5, w6⟩ s2⟩
  · obtain ⟨r1, hw', hz⟩ := (H.1 c1)
    refine ⟨_, r1, lNN.of hI e hz (by decide) (z_D.mono (D_X9_line (lA_D hI) w1 w4.1 w4.2 hha) (fun rv2 h2 K => ?_))⟩
    obtain ⟨s1, s2⟩ := (K.1 c1)
    exact ⟨s1, l_fin hI hw' ⟨w1, w2, w3, ⟨by decide, fun k hk => absurd hk (Nat.not_lt_zero _)⟩, w5, w6⟩ s2⟩
set_option maxHeartbeats 4000000 in
theorem lq_drop {g : z_G} {h : z_H} {ad : Nat → Nat} (hI : aJ ad) (hL : lI h ad) : lPi g ad mX8_drop mX9_drop [] h := by
  obtain ⟨Rf, Nw, Th, Tp, Lk, Ho, Sz, Im, kp, t, ca, G, Gt, hf, hw, Tx, Kd, Ia, It, Mv, sz, at_, we, pa, de, ti, lf, md, mn, hi, hq, is_, hha, e⟩ := hL
  obtain ⟨w1, w2, w3, w4, w5, w6⟩ := id hf
  refine ⟨⟨_, hw.1.1⟩, _, _, _, (by decide), (by decide), (by decide), z_D.mono (D_X8_drop hI hw w1) (fun rv h1 H => ?_)⟩
  by_cases c1 : Nw 5020 = 0
  · obtain ⟨r1, r2⟩ := (H.1 c1)
    obtain ⟨hw', hz⟩ := l_rf hI r2 hw
    refine ⟨_, r1, lNN.of hI e hz (by decide) (z_D.mono (D_X9_drop (lA_D hI) w1) (fun rv2 h2 K => ?_))⟩
    obtain ⟨s1, s2⟩ := (K.1 c1)
    exact ⟨s1, l_fin hI hw' hf ⟨_, _, _, _, _, _, _, _, _, _, _, _, _, _, _, _, _, hha, s2⟩⟩
  · obtain ⟨r1, hw', hz⟩ := (H.2 c1)
    refine ⟨_, r1, lNN.of hI e hz (by decide) (z_D.mono (D_X9_drop (lA_D hI) w1) (fun rv2 h2 K => ?_))⟩
    obtain ⟨s1, s2⟩ := (K.2 c1)
    exact ⟨s1, l_fin hI hw' ⟨nWf_drop w1 c1, w2, w3, w4, w5, w6⟩ ⟨_, _, _, _, _, _, _, _, _, _, _, _, _, _, _, _, _, hha, s2⟩⟩
set_option maxHeartbeats 4000000 in
theorem lq_mode {g : z_G} {h : z_H} {ad : Nat → Nat} (hI : aJ ad) (hL : lI h ad) {a : Int} (za : z_in a) : lPi g ad mX8_mode mX9_mode [z_i a] h := by
  obtain ⟨Rf, Nw, Th, Tp, Lk, Ho, Sz, Im, kp, t, ca, G, Gt, hf, hw, Tx, Kd, Ia, It, Mv, sz, at_, we, pa, de, ti, lf, md, mn, hi, hq, is_, hha, e⟩ := hL
  obtain ⟨w1, w2, w3, w4, w5, w6⟩ := id hf
  refine ⟨⟨_, hw.1.1⟩, _, _, _, (by decide), (by decide), (by decide), z_D.mono (D_X8_mode hI hw w1 za) (fun rv h1 H => ?_)⟩
  by_cases c1 : 0 ≤ a ∧ a ≤ 1
  · by_cases c2 : Nw 5025 > 0
    · obtain ⟨r1, r2⟩ := ((H.2 c1).1 c2)
      obtain ⟨hw', hz⟩ := l_rf hI r2 hw
      refine ⟨_, r1, lNN.of hI e hz (by decide) (z_D.mono (D_X9_mode (lA_D hI) w1 za) (fun rv2 h2 K => ?_))⟩
      obtain ⟨s1, s2⟩ := ((K.2 c1).1 c2)
      exact ⟨s1, l_fin hI hw' hf ⟨_, _, _, _, _, _, _, _, _, _, _, _, _, _, _, _, _, hha, s2⟩⟩
    · obtain ⟨r1, hw', hz⟩ := ((H.2 c1).2 c2)
      refine ⟨_, r1, lNN.of hI e hz (by decide) (z_D.mono (D_X9_mode (lA_D hI) w1 za) (fun rv2 h2 K => ?_))⟩
      obtain ⟨s1, s2⟩ := ((K.2 c1).2 c2)
      exact ⟨s1, l_fin hI hw' ⟨nWf_mode w1 (by omega), w2, w3, w4, w5, w6⟩ ⟨_, _, _, _, _, _, _, _, _, _, _, _, _, _, _, _, _, hha, s2⟩⟩
  · obtain ⟨r1, r2⟩ := (H.1 c1)
    obtain ⟨hw', hz⟩ := l_rf hI r2 hw
    refine ⟨_, r1, lNN.of hI e hz (by decide) (z_D.mono (D_X9_mode (lA_D hI) w1 za) (fun rv2 h2 K => ?_))⟩
    obtain ⟨s1, s2⟩ := (K.1 c1)
    exact ⟨s1, l_fin hI hw' hf ⟨_, _, _, _, _, _, _, _, _, _, _, _, _, _, _, _, _, hha, s2⟩⟩
set_option maxHeartbeats 4000000 in
theorem lq_cast {g : z_G} {h : z_H} {ad : Nat → Nat} (hI : aJ ad) (hL : lI h ad) {a : Int} (za : z_in a) : lPi g ad mX8_cast mX9_cast [z_i a] h := by
  obtain ⟨Rf, Nw, Th, Tp, Lk, Ho, Sz, Im, kp, t, ca, G, Gt, hf, hw, Tx, Kd, Ia, It, Mv, sz, at_, we, pa, de, ti, lf, md, mn, hi, hq, is_, hha, e⟩ := hL
  obtain ⟨w1, w2, w3, w4, w5, w6⟩ := id hf
  refine ⟨⟨_, hw.1.1⟩, _, _, _, (by decide), (by decide), (by decide), z_D.mono (D_X8_cast hI hw w1 za) (fun rv h1 H => ?_)⟩
  by_cases c1 : 1 ≤ a ∧ a ≤ 60
  · by_cases c2 : Nw 5023 > 0 ∨ Nw 5025 > 0
    · obtain ⟨r1, r2⟩ := ((H.2 c1).1 c2)
      obtain ⟨hw', hz⟩ := l_rf hI r2 hw
      refine ⟨_, r1, lNN.of hI e hz (by decide) (z_D.mono (D_X9_cast (lA_D hI) w1 za) (fun rv2 h2 K => ?_))⟩
      obtain ⟨s1, s2⟩ := ((K.2 c1).1 c2)
      exact ⟨s1, l_fin hI hw' hf ⟨_, _, _, _, _, _, _, _, _, _, _, _, _, _, _, _, _, hha, s2⟩⟩
    · obtain ⟨r1, hw', hz⟩ := ((H.2 c1).2 c2)
      refine ⟨_, r1, lNN.of hI e hz (by decide) (z_D.mono (D_X9_cast (lA_D hI) w1 za) (fun rv2 h2 K => ?_))⟩
      obtain ⟨s1, s2⟩ := ((K.2 c1).2 c2)
      exact ⟨s1, l_fin hI hw' ⟨nWf_cast w1 ⟨by omega, by omega⟩ (by have := w1.2.2.2.2.1; omega), w2, w3, w4, w5, w6⟩ ⟨_, _, _, _, _, _, _, _, _, _, _, _, _, _, _, _, _, hha, s2⟩⟩
  · obtain ⟨r1, r2⟩ := (H.1 c1)
    obtain ⟨hw', hz⟩ := l_rf hI r2 hw
    refine ⟨_, r1, lNN.of hI e hz (by decide) (z_D.mono (D_X9_cast (lA_D hI) w1 za) (fun rv2 h2 K => ?_))⟩
    obtain ⟨s1, s2⟩ := (K.1 c1)
    exact ⟨s1, l_fin hI hw' hf ⟨_, _, _, _, _, _, _, _, _, _, _, _, _, _, _, _, _, hha, s2⟩⟩
set_option maxHeartbeats 4000000 in
theorem lq_work {g : z_G} {h : z_H} {ad : Nat → Nat} (hI : aJ ad) (hL : lI h ad) {a : Int} (za : z_in a) : lPi g ad mX8_work mX9_work [z_i a] h := by
  obtain ⟨Rf, Nw, Th, Tp, Lk, Ho, Sz, Im, kp, t, ca, G, Gt, hf, hw, Tx, Kd, Ia, It, Mv, sz, at_, we, pa, de, ti, lf, md, mn, hi, hq, is_, hha, e⟩ := hL
  obtain ⟨w1, w2, w3, w4, w5, w6⟩ := id hf
  refine ⟨⟨_, hw.1.1⟩, _, _, _, (by decide), (by decide), (by decide), z_D.mono (D_X8_work hI hw w1 za) (fun rv h1 H => ?_)⟩
  by_cases c1 : isL Nw a
  · by_cases c2 : k_h (tnR Nw G a.toNat) = 0
    · obtain ⟨r1, hw', hz⟩ := ((H.2 c1).2 c2)
      refine ⟨_, r1, lNN.of hI e hz (by decide) (z_D.mono (D_X9_work (lA_D hI) w1 za hha) (fun rv2 h2 K => ?_))⟩
      obtain ⟨s1, s2⟩ := ((K.2 c1).2 c2)
      exact ⟨s1, l_fin hI hw' ⟨nWf_dnS w1 (by have := c1; omega) c2, w2, w3, w4, w5, w6⟩ s2⟩
    · obtain ⟨r1, L1, p1, hw', hz⟩ := ((H.2 c1).1 c2)
      refine ⟨_, r1, lNN.of hI e hz (by decide) (z_D.mono (D_X9_work (lA_D hI) w1 za hha) (fun rv2 h2 K => ?_))⟩
      obtain ⟨s1, L2, p2, s2⟩ := ((K.2 c1).1 c2)
      exact ⟨s1, l_fin hI (hw'.lk (lk_eq p1 p2)) hf s2⟩
  · obtain ⟨r1, r2⟩ := (H.1 c1)
    obtain ⟨hw', hz⟩ := l_rf hI r2 hw
    refine ⟨_, r1, lNN.of hI e hz (by decide) (z_D.mono (D_X9_work (lA_D hI) w1 za hha) (fun rv2 h2 K => ?_))⟩
    obtain ⟨s1, s2⟩ := (K.1 c1)
    exact ⟨s1, l_fin hI hw' hf ⟨_, _, _, _, _, _, _, _, _, _, _, _, _, _, _, _, _, hha, s2⟩⟩
set_option maxHeartbeats 4000000 in
theorem lq_run {g : z_G} {h : z_H} {ad : Nat → Nat} (hI : aJ ad) (hL : lI h ad) {a b c : Int} (za : z_in a) (zb : z_in b) (zc : z_in c) : lPi g ad mX8_run mX9_run [z_i a, z_i b, z_i c] h := by
  obtain ⟨Rf, Nw, Th, Tp, Lk, Ho, Sz, Im, kp, t, ca, G, Gt, hf, hw, Tx, Kd, Ia, It, Mv, sz, at_, we, pa, de, ti, lf, md, mn, hi, hq, is_, hha, e⟩ := hL
  obtain ⟨w1, w2, w3, w4, w5, w6⟩ := id hf
  refine ⟨⟨_, hw.1.1⟩, _, _, _, (by decide), (by decide), (by decide), z_D.mono (D_X8_run hI hw w1 za zb zc) (fun rv h1 H => ?_)⟩
  by_cases c1 : (isL Nw a ∧ isL Nw b ∧ a ≤ b) ∧ 1 ≤ c ∧ c ≤ 20
  · by_cases c2 : (rnO G (b - a + 1).toNat a.toNat c.toNat 1 Nw 0).1 = 0
    · obtain ⟨r1, hw', hz⟩ := ((H.2 c1).2 c2)
      refine ⟨_, r1, lNN.of hI e hz (by decide) (z_D.mono (D_X9_run (lA_D hI) w1 za zb zc hha) (fun rv2 h2 K => ?_))⟩
      obtain ⟨s1, s2⟩ := ((K.2 c1).2 c2)
      exact ⟨s1, l_fin hI hw' ⟨(l_rn w1 c1.1).1, w2, w3, w4, w5, w6⟩ s2⟩
    · obtain ⟨r1, L1, p1, hw', hz⟩ := ((H.2 c1).1 c2)
      refine ⟨_, r1, lNN.of hI e hz (by decide) (z_D.mono (D_X9_run (lA_D hI) w1 za zb zc hha) (fun rv2 h2 K => ?_))⟩
      obtain ⟨s1, L2, p2, s2⟩ := ((K.2 c1).1 c2)
      exact ⟨s1, l_fin hI (hw'.lk (lk_eq p1 p2)) ⟨(l_rn w1 c1.1).1, w2, w3, w4, w5, w6⟩ s2⟩
  · obtain ⟨r1, r2⟩ := (H.1 c1)
    obtain ⟨hw', hz⟩ := l_rf hI r2 hw
    refine ⟨_, r1, lNN.of hI e hz (by decide) (z_D.mono (D_X9_run (lA_D hI) w1 za zb zc hha) (fun rv2 h2 K => ?_))⟩
    obtain ⟨s1, s2⟩ := (K.1 c1)
    exact ⟨s1, l_fin hI hw' hf ⟨_, _, _, _, _, _, _, _, _, _, _, _, _, _, _, _, _, hha, s2⟩⟩
set_option maxHeartbeats 4000000 in
theorem lq_rip {g : z_G} {h : z_H} {ad : Nat → Nat} (hI : aJ ad) (hL : lI h ad) {a : Int} (za : z_in a) : lPi g ad mX8_rip mX9_rip [z_i a] h := by
  obtain ⟨Rf, Nw, Th, Tp, Lk, Ho, Sz, Im, kp, t, ca, G, Gt, hf, hw, Tx, Kd, Ia, It, Mv, sz, at_, we, pa, de, ti, lf, md, mn, hi, hq, is_, hha, e⟩ := hL
  obtain ⟨w1, w2, w3, w4, w5, w6⟩ := id hf
  refine ⟨⟨_, hw.1.1⟩, _, _, _, (by decide), (by decide), (by decide), z_D.mono (D_X8_rip hI hw w1 za) (fun rv h1 H => ?_)⟩
  by_cases c1 : 1 ≤ a ∧ a ≤ Nw 5025
  · obtain ⟨r1, hw', hz⟩ := (H.1 c1)
    refine ⟨_, r1, lNN.of hI e hz (by decide) (z_D.mono (D_X9_rip (lA_D hI) w1 za) (fun rv2 h2 K => ?_))⟩
    obtain ⟨s1, s2⟩ := (K.1 c1)
    exact ⟨s1, l_fin hI hw' ⟨nWf_rp w1 (by omega), w2, w3, w4, w5, w6⟩ ⟨_, _, _, _, _, _, _, _, _, _, _, _, _, _, _, _, _, hha, s2⟩⟩
  · obtain ⟨r1, r2⟩ := (H.2 c1)
    obtain ⟨hw', hz⟩ := l_rf hI r2 hw
    refine ⟨_, r1, lNN.of hI e hz (by decide) (z_D.mono (D_X9_rip (lA_D hI) w1 za) (fun rv2 h2 K => ?_))⟩
    obtain ⟨s1, s2⟩ := (K.2 c1)
    exact ⟨s1, l_fin hI hw' hf ⟨_, _, _, _, _, _, _, _, _, _, _, _, _, _, _, _, _, hha, s2⟩⟩
set_option maxHeartbeats 4000000 in
theorem lq_causes {g : z_G} {h : z_H} {ad : Nat → Nat} (hI : aJ ad) (hL : lI h ad) : lPi g ad mX8_causes mX9_causes [] h := by
  obtain ⟨Rf, Nw, Th, Tp, Lk, Ho, Sz, Im, kp, t, ca, G, Gt, hf, hw, Tx, Kd, Ia, It, Mv, sz, at_, we, pa, de, ti, lf, md, mn, hi, hq, is_, hha, e⟩ := hL
  obtain ⟨w1, w2, w3, w4, w5, w6⟩ := id hf
  refine ⟨⟨_, hw.1.1⟩, _, _, _, (by decide), (by decide), (by decide), z_D.mono (D_X8_causes hI hw) (fun rv h1 H => ?_)⟩
  obtain ⟨r1, r2⟩ := H
  obtain ⟨hw', hz⟩ := l_sm r2 hw
  refine ⟨_, r1, lNN.of hI e hz (by decide) (z_D.mono (D_X9_causes (lA_D hI)) (fun rv2 h2 K => ?_))⟩
  obtain ⟨s1, s2⟩ := K
  exact ⟨s1, l_fin hI hw' hf ⟨_, _, _, _, _, _, _, _, _, _, _, _, _, _, _, _, _, hha, s2⟩⟩
set_option maxHeartbeats 4000000 in
theorem lq_why {g : z_G} {h : z_H} {ad : Nat → Nat} (hI : aJ ad) (hL : lI h ad) {a b : Int} (za : z_in a) (zb : z_in b) : lPi g ad mX8_why mX9_why [z_i a, z_i b] h := by
  obtain ⟨Rf, Nw, Th, Tp, Lk, Ho, Sz, Im, kp, t, ca, G, Gt, hf, hw, Tx, Kd, Ia, It, Mv, sz, at_, we, pa, de, ti, lf, md, mn, hi, hq, is_, hha, e⟩ := hL
  obtain ⟨w1, w2, w3, w4, w5, w6⟩ := id hf
  refine ⟨⟨_, hw.1.1⟩, _, _, _, (by decide), (by decide), (by decide), z_D.mono (D_X8_why hI hw za zb) (fun rv h1 H => ?_)⟩
  by_cases c1 : (0 ≤ a ∧ a < (ca : Int)) ∧ 0 ≤ b ∧ b ≤ 2
  · obtain ⟨r1, r2⟩ := (H.1 c1)
    obtain ⟨hw', hz⟩ := l_sm r2 hw
    refine ⟨_, r1, lNN.of hI e hz (by decide) (z_D.mono (D_X9_why (lA_D hI) hw.ca8 za zb) (fun rv2 h2 K => ?_))⟩
    obtain ⟨s1, s2⟩ := (K.1 c1)
    exact ⟨s1, l_fin hI hw' hf ⟨_, _, _, _, _, _, _, _, _, _, _, _, _, _, _, _, _, hha, s2⟩⟩
  · obtain ⟨r1, r2⟩ := (H.2 c1)
    obtain ⟨hw', hz⟩ := l_rf hI r2 hw
    refine ⟨_, r1, lNN.of hI e hz (by decide) (z_D.mono (D_X9_why (lA_D hI) hw.ca8 za zb) (fun rv2 h2 K => ?_))⟩
    obtain ⟨s1, s2⟩ := (K.2 c1)
    exact ⟨s1, l_fin hI hw' hf ⟨_, _, _, _, _, _, _, _, _, _, _, _, _, _, _, _, _, hha, s2⟩⟩
set_option maxHeartbeats 4000000 in
theorem lq_lineOf {g : z_G} {h : z_H} {ad : Nat → Nat} (hI : aJ ad) (hL : lI h ad) {a b : Int} (za : z_in a) (zb : z_in b) : lPi g ad mX8_lineOf mX9_lineOf [z_i a, z_i b] h := by
  obtain ⟨Rf, Nw, Th, Tp, Lk, Ho, Sz, Im, kp, t, ca, G, Gt, hf, hw, Tx, Kd, Ia, It, Mv, sz, at_, we, pa, de, ti, lf, md, mn, hi, hq, is_, hha, e⟩ := hL
  obtain ⟨w1, w2, w3, w4, w5, w6⟩ := id hf
  refine ⟨⟨_, hw.1.1⟩, _, _, _, (by decide), (by decide), (by decide), z_D.mono (D_X8_lineOf hI hw w1 za zb) (fun rv h1 H => ?_)⟩
  by_cases c1 : isL Nw a ∧ 0 ≤ b ∧ b ≤ 3
  · obtain ⟨r1, r2⟩ := (H.1 c1)
    obtain ⟨hw', hz⟩ := l_sm r2 hw
    refine ⟨_, r1, lNN.of hI e hz (by decide) (z_D.mono (D_X9_lineOf (lA_D hI) w1 za zb hha) (fun rv2 h2 K => ?_))⟩
    obtain ⟨s1, s2⟩ := (K.1 c1)
    exact ⟨s1, l_fin hI hw' hf s2⟩
  · obtain ⟨r1, r2⟩ := (H.2 c1)
    obtain ⟨hw', hz⟩ := l_rf hI r2 hw
    refine ⟨_, r1, lNN.of hI e hz (by decide) (z_D.mono (D_X9_lineOf (lA_D hI) w1 za zb hha) (fun rv2 h2 K => ?_))⟩
    obtain ⟨s1, s2⟩ := (K.2 c1)
    exact ⟨s1, l_fin hI hw' hf ⟨_, _, _, _, _, _, _, _, _, _, _, _, _, _, _, _, _, hha, s2⟩⟩
set_option maxHeartbeats 4000000 in
theorem lq_text {g : z_G} {h : z_H} {ad : Nat → Nat} (hI : aJ ad) (hL : lI h ad) {a b : Int} (za : z_in a) (zb : z_in b) : lPi g ad mX8_text mX9_text [z_i a, z_i b] h := by
  obtain ⟨Rf, Nw, Th, Tp, Lk, Ho, Sz, Im, kp, t, ca, G, Gt, hf, hw, Tx, Kd, Ia, It, Mv, sz, at_, we, pa, de, ti, lf, md, mn, hi, hq, is_, hha, e⟩ := hL
  obtain ⟨w1, w2, w3, w4, w5, w6⟩ := id hf
  refine ⟨⟨_, hw.1.1⟩, _, _, _, (by decide), (by decide), (by decide), z_D.mono (D_X8_text hI hw w1 za zb) (fun rv h1 H => ?_)⟩
  by_cases c1 : isL Nw a
  · obtain ⟨r1, r2⟩ := (H.1 c1)
    obtain ⟨hw', hz⟩ := l_sm r2 hw
    refine ⟨_, r1, lNN.of hI e hz (by decide) (z_D.mono (D_X9_text (lA_D hI) w1 za zb) (fun rv2 h2 K => ?_))⟩
    obtain ⟨s1, s2⟩ := (K.1 c1)
    exact ⟨s1, l_fin hI hw' hf ⟨_, _, _, _, _, _, _, _, _, _, _, _, _, _, _, _, _, hha, s2⟩⟩
  · obtain ⟨r1, r2⟩ := (H.2 c1)
    obtain ⟨hw', hz⟩ := l_rf hI r2 hw
    refine ⟨_, r1, lNN.of hI e hz (by decide) (z_D.mono (D_X9_text (lA_D hI) w1 za zb) (fun rv2 h2 K => ?_))⟩
    obtain ⟨s1, s2⟩ := (K.2 c1)
    exact ⟨s1, l_fin hI hw' hf ⟨_, _, _, _, _, _, _, _, _, _, _, _, _, _, _, _, _, hha, s2⟩⟩
set_option maxHeartbeats 4000000 in
theorem lq_would {g : z_G} {h : z_H} {ad : Nat → Nat} (hI : aJ ad) (hL : lI h ad) {a b c : Int} (za : z_in a) (zb : z_in b) (zc : z_in c) : lPi g ad mX8_would mX9_would [z_i a, z_i b, z_i c] h := by
  obtain ⟨Rf, Nw, Th, Tp, Lk, Ho, Sz, Im, kp, t, ca, G, Gt, hf, hw, Tx, Kd, Ia, It, Mv, sz, at_, we, pa, de, ti, lf, md, mn, hi, hq, is_, hha, e⟩ := hL
  obtain ⟨w1, w2, w3, w4, w5, w6⟩ := id hf
  refine ⟨⟨_, hw.1.1⟩, _, _, _, (by decide), (by decide), (by decide), z_D.mono (D_X8_would hI hw w1 za zb zc) (fun rv h1 H => ?_)⟩
  by_cases c1 : isL Nw a ∧ (0 ≤ b ∧ b ≤ 60) ∧ 0 ≤ c ∧ c ≤ 2
  · obtain ⟨r1, hw', hz⟩ := (H.1 c1)
    refine ⟨_, r1, lNN.of hI e hz (by decide) (z_D.mono (D_X9_would (lA_D hI) w1 za zb zc hha) (fun rv2 h2 K => ?_))⟩
    obtain ⟨s1, s2⟩ := (K.1 c1)
    exact ⟨s1, l_fin hI hw' hf s2⟩
  · obtain ⟨r1, r2⟩ := (H.2 c1)
    obtain ⟨hw', hz⟩ := l_rf hI r2 hw
    refine ⟨_, r1, lNN.of hI e hz (by decide) (z_D.mono (D_X9_would (lA_D hI) w1 za zb zc hha) (fun rv2 h2 K => ?_))⟩
    obtain ⟨s1, s2⟩ := (K.2 c1)
    exact ⟨s1, l_fin hI hw' hf ⟨_, _, _, _, _, _, _, _, _, _, _, _, _, _, _, _, _, hha, s2⟩⟩
set_option maxHeartbeats 4000000 in
theorem lq_hitch {g : z_G} {h : z_H} {ad : Nat → Nat} (hI : aJ ad) (hL : lI h ad) {a b : Int} (za : z_in a) (zb : z_in b) : lPi g ad mX8_hitch mX9_hitch [z_i a, z_i b] h := by
  obtain ⟨Rf, Nw, Th, Tp, Lk, Ho, Sz, Im, kp, t, ca, G, Gt, hf, hw, Tx, Kd, Ia, It, Mv, sz, at_, we, pa, de, ti, lf, md, mn, hi, hq, is_, hha, e⟩ := hL
  obtain ⟨w1, w2, w3, w4, w5, w6⟩ := id hf
  refine ⟨⟨_, hw.1.1⟩, _, _, _, (by decide), (by decide), (by decide), z_D.mono (D_X8_hitch hI hw w1 za zb) (fun rv h1 H => ?_)⟩
  by_cases c1 : isL Nw a ∧ 0 ≤ b ∧ b ≤ 60
  · obtain ⟨r1, hw', hz⟩ := (H.1 c1)
    refine ⟨_, r1, lNN.of hI e hz (by decide) (z_D.mono (D_X9_hitch (lA_D hI) w1 za zb hha) (fun rv2 h2 K => ?_))⟩
    obtain ⟨s1, s2⟩ := (K.1 c1)
    exact ⟨s1, l_fin hI hw' hf s2⟩
  · obtain ⟨r1, r2⟩ := (H.2 c1)
    obtain ⟨hw', hz⟩ := l_rf hI r2 hw
    refine ⟨_, r1, lNN.of hI e hz (by decide) (z_D.mono (D_X9_hitch (lA_D hI) w1 za zb hha) (fun rv2 h2 K => ?_))⟩
    obtain ⟨s1, s2⟩ := (K.2 c1)
    exact ⟨s1, l_fin hI hw' hf ⟨_, _, _, _, _, _, _, _, _, _, _, _, _, _, _, _, _, hha, s2⟩⟩
set_option maxHeartbeats 4000000 in
theorem lq_fits {g : z_G} {h : z_H} {ad : Nat → Nat} (hI : aJ ad) (hL : lI h ad) {a : Int} (za : z_in a) : lPl g ad mX8_fits mX9_fits [z_i a] h := by
  obtain ⟨Rf, Nw, Th, Tp, Lk, Ho, Sz, Im, kp, t, ca, G, Gt, hf, hw, Tx, Kd, Ia, It, Mv, sz, at_, we, pa, de, ti, lf, md, mn, hi, hq, is_, hha, e⟩ := hL
  obtain ⟨w1, w2, w3, w4, w5, w6⟩ := id hf
  refine ⟨⟨_, hw.1.1⟩, _, _, _, (by decide), (by decide), (by decide), z_D.mono (D_X8_fits hI hw w1 za) (fun rv h1 H => ?_)⟩
  by_cases c1 : isL Nw a
  · obtain ⟨⟨v1, r1, b1⟩, hw', hz⟩ := (H.1 c1)
    refine ⟨_, r1, lNN.of hI e hz (by decide) (z_D.mono (D_X9_fits (lA_D hI) w1 za hha) (fun rv2 h2 K => ?_))⟩
    obtain ⟨⟨v2, s1, b2⟩, s2⟩ := (K.1 c1)
    obtain rfl := bit_eq b1 b2
    exact ⟨s1, l_fin hI hw' hf s2⟩
  · obtain ⟨r1, r2⟩ := (H.2 c1)
    obtain ⟨hw', hz⟩ := l_rf hI r2 hw
    refine ⟨_, r1, lNN.of hI e hz (by decide) (z_D.mono (D_X9_fits (lA_D hI) w1 za hha) (fun rv2 h2 K => ?_))⟩
    obtain ⟨s1, s2⟩ := (K.2 c1)
    exact ⟨s1, l_fin hI hw' hf ⟨_, _, _, _, _, _, _, _, _, _, _, _, _, _, _, _, _, hha, s2⟩⟩
set_option maxHeartbeats 4000000 in
theorem lq_least {g : z_G} {h : z_H} {ad : Nat → Nat} (hI : aJ ad) (hL : lI h ad) : lPi g ad mX8_least mX9_least [] h := by
  obtain ⟨Rf, Nw, Th, Tp, Lk, Ho, Sz, Im, kp, t, ca, G, Gt, hf, hw, Tx, Kd, Ia, It, Mv, sz, at_, we, pa, de, ti, lf, md, mn, hi, hq, is_, hha, e⟩ := hL
  obtain ⟨w1, w2, w3, w4, w5, w6⟩ := id hf
  refine ⟨⟨_, hw.1.1⟩, _, _, _, (by decide), (by decide), (by decide), z_D.mono (D_X8_least hI hw w1) (fun rv h1 H => ?_)⟩
  obtain ⟨r1, hw', hz⟩ := H
  refine ⟨_, r1, lNN.of hI e hz (by decide) (z_D.mono (D_X9_least (lA_D hI) w1 hha) (fun rv2 h2 K => ?_))⟩
  obtain ⟨s1, s2⟩ := K
  exact ⟨s1, l_fin hI hw' hf s2⟩
set_option maxHeartbeats 4000000 in
theorem lq_times {g : z_G} {h : z_H} {ad : Nat → Nat} (hI : aJ ad) (hL : lI h ad) {a b : Int} (za : z_in a) (zb : z_in b) : lPi g ad mX8_times mX9_times [z_i a, z_i b] h := by
  obtain ⟨Rf, Nw, Th, Tp, Lk, Ho, Sz, Im, kp, t, ca, G, Gt, hf, hw, Tx, Kd, Ia, It, Mv, sz, at_, we, pa, de, ti, lf, md, mn, hi, hq, is_, hha, e⟩ := hL
  obtain ⟨w1, w2, w3, w4, w5, w6⟩ := id hf
  refine ⟨⟨_, hw.1.1⟩, _, _, _, (by decide), (by decide), (by decide), z_D.mono (D_X8_times hI hw w1 za zb) (fun rv h1 H => ?_)⟩
  by_cases c1 : isL Nw a ∧ isL Nw b ∧ a ≤ b
  · obtain ⟨r1, hw', hz⟩ := (H.1 c1)
    refine ⟨_, r1, lNN.of hI e hz (by decide) (z_D.mono (D_X9_times (lA_D hI) w1 za zb hha) (fun rv2 h2 K => ?_))⟩
    obtain ⟨s1, s2⟩ := (K.1 c1)
    exact ⟨s1, l_fin hI hw' hf s2⟩
  · obtain ⟨r1, r2⟩ := (H.2 c1)
    obtain ⟨hw', hz⟩ := l_rf hI r2 hw
    refine ⟨_, r1, lNN.of hI e hz (by decide) (z_D.mono (D_X9_times (lA_D hI) w1 za zb hha) (fun rv2 h2 K => ?_))⟩
    obtain ⟨s1, s2⟩ := (K.2 c1)
    exact ⟨s1, l_fin hI hw' hf ⟨_, _, _, _, _, _, _, _, _, _, _, _, _, _, _, _, _, hha, s2⟩⟩
set_option maxHeartbeats 4000000 in
theorem lq_workedOf {g : z_G} {h : z_H} {ad : Nat → Nat} (hI : aJ ad) (hL : lI h ad) {a b : Int} (za : z_in a) (zb : z_in b) : lPi g ad mX8_workedOf mX9_workedOf [z_i a, z_i b] h := by
  obtain ⟨Rf, Nw, Th, Tp, Lk, Ho, Sz, Im, kp, t, ca, G, Gt, hf, hw, Tx, Kd, Ia, It, Mv, sz, at_, we, pa, de, ti, lf, md, mn, hi, hq, is_, hha, e⟩ := hL
  obtain ⟨w1, w2, w3, w4, w5, w6⟩ := id hf
  refine ⟨⟨_, hw.1.1⟩, _, _, _, (by decide), (by decide), (by decide), z_D.mono (D_X8_workedOf hI hw w1 za zb) (fun rv h1 H => ?_)⟩
  by_cases c1 : isW Nw a ∧ 0 ≤ b ∧ b ≤ 5
  · obtain ⟨r1, r2⟩ := (H.1 c1)
    obtain ⟨hw', hz⟩ := l_sm r2 hw
    refine ⟨_, r1, lNN.of hI e hz (by decide) (z_D.mono (D_X9_workedOf (lA_D hI) w1 za zb) (fun rv2 h2 K => ?_))⟩
    obtain ⟨s1, s2⟩ := (K.1 c1)
    exact ⟨s1, l_fin hI hw' hf ⟨_, _, _, _, _, _, _, _, _, _, _, _, _, _, _, _, _, hha, s2⟩⟩
  · obtain ⟨r1, r2⟩ := (H.2 c1)
    obtain ⟨hw', hz⟩ := l_rf hI r2 hw
    refine ⟨_, r1, lNN.of hI e hz (by decide) (z_D.mono (D_X9_workedOf (lA_D hI) w1 za zb) (fun rv2 h2 K => ?_))⟩
    obtain ⟨s1, s2⟩ := (K.2 c1)
    exact ⟨s1, l_fin hI hw' hf ⟨_, _, _, _, _, _, _, _, _, _, _, _, _, _, _, _, _, hha, s2⟩⟩
set_option maxHeartbeats 4000000 in
theorem lq_stitch {g : z_G} {h : z_H} {ad : Nat → Nat} (hI : aJ ad) (hL : lI h ad) {a b c : Int} (za : z_in a) (zb : z_in b) (zc : z_in c) : lPi g ad mX8_stitch mX9_stitch [z_i a, z_i b, z_i c] h := by
  obtain ⟨Rf, Nw, Th, Tp, Lk, Ho, Sz, Im, kp, t, ca, G, Gt, hf, hw, Tx, Kd, Ia, It, Mv, sz, at_, we, pa, de, ti, lf, md, mn, hi, hq, is_, hha, e⟩ := hL
  obtain ⟨w1, w2, w3, w4, w5, w6⟩ := id hf
  refine ⟨⟨_, hw.1.1⟩, _, _, _, (by decide), (by decide), (by decide), z_D.mono (D_X8_stitch hI hw w1 za zb zc) (fun rv h1 H => ?_)⟩
  by_cases c1 : isW Nw a ∧ (0 ≤ b ∧ b < (zF Nw a.toNat : Int)) ∧ 0 ≤ c ∧ c ≤ 2
  · obtain ⟨r1, r2⟩ := (H.1 c1)
    obtain ⟨hw', hz⟩ := l_sm r2 hw
    refine ⟨_, r1, lNN.of hI e hz (by decide) (z_D.mono (D_X9_stitch (lA_D hI) w1 za zb zc) (fun rv2 h2 K => ?_))⟩
    obtain ⟨s1, s2⟩ := (K.1 c1)
    exact ⟨s1, l_fin hI hw' hf ⟨_, _, _, _, _, _, _, _, _, _, _, _, _, _, _, _, _, hha, s2⟩⟩
  · obtain ⟨r1, r2⟩ := (H.2 c1)
    obtain ⟨hw', hz⟩ := l_rf hI r2 hw
    refine ⟨_, r1, lNN.of hI e hz (by decide) (z_D.mono (D_X9_stitch (lA_D hI) w1 za zb zc) (fun rv2 h2 K => ?_))⟩
    obtain ⟨s1, s2⟩ := (K.2 c1)
    exact ⟨s1, l_fin hI hw' hf ⟨_, _, _, _, _, _, _, _, _, _, _, _, _, _, _, _, _, hha, s2⟩⟩
set_option maxHeartbeats 4000000 in
theorem lq_chart {g : z_G} {h : z_H} {ad : Nat → Nat} (hI : aJ ad) (hL : lI h ad) {a b : Int} (za : z_in a) (zb : z_in b) : lPi g ad mX8_chart mX9_chart [z_i a, z_i b] h := by
  obtain ⟨Rf, Nw, Th, Tp, Lk, Ho, Sz, Im, kp, t, ca, G, Gt, hf, hw, Tx, Kd, Ia, It, Mv, sz, at_, we, pa, de, ti, lf, md, mn, hi, hq, is_, hha, e⟩ := hL
  obtain ⟨w1, w2, w3, w4, w5, w6⟩ := id hf
  refine ⟨⟨_, hw.1.1⟩, _, _, _, (by decide), (by decide), (by decide), z_D.mono (D_X8_chart hI hw w1 za zb) (fun rv h1 H => ?_)⟩
  by_cases c1 : isW Nw a
  · obtain ⟨r1, r2⟩ := (H.1 c1)
    obtain ⟨hw', hz⟩ := l_sm r2 hw
    refine ⟨_, r1, lNN.of hI e hz (by decide) (z_D.mono (D_X9_chart (lA_D hI) w1 za zb) (fun rv2 h2 K => ?_))⟩
    obtain ⟨s1, s2⟩ := (K.1 c1)
    exact ⟨s1, l_fin hI hw' hf ⟨_, _, _, _, _, _, _, _, _, _, _, _, _, _, _, _, _, hha, s2⟩⟩
  · obtain ⟨r1, r2⟩ := (H.2 c1)
    obtain ⟨hw', hz⟩ := l_rf hI r2 hw
    refine ⟨_, r1, lNN.of hI e hz (by decide) (z_D.mono (D_X9_chart (lA_D hI) w1 za zb) (fun rv2 h2 K => ?_))⟩
    obtain ⟨s1, s2⟩ := (K.2 c1)
    exact ⟨s1, l_fin hI hw' hf ⟨_, _, _, _, _, _, _, _, _, _, _, _, _, _, _, _, _, hha, s2⟩⟩
set_option maxHeartbeats 4000000 in
theorem lq_shorthand {g : z_G} {h : z_H} {ad : Nat → Nat} (hI : aJ ad) (hL : lI h ad) {a b : Int} (za : z_in a) (zb : z_in b) : lPi g ad mX8_shorthand mX9_shorthand [z_i a, z_i b] h := by
  obtain ⟨Rf, Nw, Th, Tp, Lk, Ho, Sz, Im, kp, t, ca, G, Gt, hf, hw, Tx, Kd, Ia, It, Mv, sz, at_, we, pa, de, ti, lf, md, mn, hi, hq, is_, hha, e⟩ := hL
  obtain ⟨w1, w2, w3, w4, w5, w6⟩ := id hf
  refine ⟨⟨_, hw.1.1⟩, _, _, _, (by decide), (by decide), (by decide), z_D.mono (D_X8_shorthand hI hw w1 za zb) (fun rv h1 H => ?_)⟩
  by_cases c1 : isW Nw a
  · obtain ⟨r1, r2⟩ := (H.1 c1)
    obtain ⟨hw', hz⟩ := l_sm r2 hw
    refine ⟨_, r1, lNN.of hI e hz (by decide) (z_D.mono (D_X9_shorthand (lA_D hI) w1 za zb) (fun rv2 h2 K => ?_))⟩
    obtain ⟨s1, s2⟩ := (K.1 c1)
    exact ⟨s1, l_fin hI hw' hf ⟨_, _, _, _, _, _, _, _, _, _, _, _, _, _, _, _, _, hha, s2⟩⟩
  · obtain ⟨r1, r2⟩ := (H.2 c1)
    obtain ⟨hw', hz⟩ := l_rf hI r2 hw
    refine ⟨_, r1, lNN.of hI e hz (by decide) (z_D.mono (D_X9_shorthand (lA_D hI) w1 za zb) (fun rv2 h2 K => ?_))⟩
    obtain ⟨s1, s2⟩ := (K.2 c1)
    exact ⟨s1, l_fin hI hw' hf ⟨_, _, _, _, _, _, _, _, _, _, _, _, _, _, _, _, _, hha, s2⟩⟩
set_option maxHeartbeats 4000000 in
theorem lq_unit {g : z_G} {h : z_H} {ad : Nat → Nat} (hI : aJ ad) (hL : lI h ad) {a : Int} (za : z_in a) : lPi g ad mX8_unit mX9_unit [z_i a] h := by
  obtain ⟨Rf, Nw, Th, Tp, Lk, Ho, Sz, Im, kp, t, ca, G, Gt, hf, hw, Tx, Kd, Ia, It, Mv, sz, at_, we, pa, de, ti, lf, md, mn, hi, hq, is_, hha, e⟩ := hL
  obtain ⟨w1, w2, w3, w4, w5, w6⟩ := id hf
  refine ⟨⟨_, hw.1.1⟩, _, _, _, (by decide), (by decide), (by decide), z_D.mono (D_X8_unit hI hw w1 za) (fun rv h1 H => ?_)⟩
  by_cases c1 : isW Nw a
  · obtain ⟨r1, r2⟩ := (H.1 c1)
    obtain ⟨hw', hz⟩ := l_sm r2 hw
    refine ⟨_, r1, lNN.of hI e hz (by decide) (z_D.mono (D_X9_unit (lA_D hI) w1 za) (fun rv2 h2 K => ?_))⟩
    obtain ⟨s1, s2⟩ := (K.1 c1)
    exact ⟨s1, l_fin hI hw' hf ⟨_, _, _, _, _, _, _, _, _, _, _, _, _, _, _, _, _, hha, s2⟩⟩
  · obtain ⟨r1, r2⟩ := (H.2 c1)
    obtain ⟨hw', hz⟩ := l_rf hI r2 hw
    refine ⟨_, r1, lNN.of hI e hz (by decide) (z_D.mono (D_X9_unit (lA_D hI) w1 za) (fun rv2 h2 K => ?_))⟩
    obtain ⟨s1, s2⟩ := (K.2 c1)
    exact ⟨s1, l_fin hI hw' hf ⟨_, _, _, _, _, _, _, _, _, _, _, _, _, _, _, _, _, hha, s2⟩⟩
set_option maxHeartbeats 4000000 in
theorem lq_mirrored {g : z_G} {h : z_H} {ad : Nat → Nat} (hI : aJ ad) (hL : lI h ad) {a b : Int} (za : z_in a) (zb : z_in b) : lPi g ad mX8_mirrored mX9_mirrored [z_i a, z_i b] h := by
  obtain ⟨Rf, Nw, Th, Tp, Lk, Ho, Sz, Im, kp, t, ca, G, Gt, hf, hw, Tx, Kd, Ia, It, Mv, sz, at_, we, pa, de, ti, lf, md, mn, hi, hq, is_, hha, e⟩ := hL
  obtain ⟨w1, w2, w3, w4, w5, w6⟩ := id hf
  refine ⟨⟨_, hw.1.1⟩, _, _, _, (by decide), (by decide), (by decide), z_D.mono (D_X8_mirrored hI hw w1 za zb) (fun rv h1 H => ?_)⟩
  by_cases c1 : isW Nw a
  · obtain ⟨r1, r2⟩ := (H.1 c1)
    obtain ⟨hw', hz⟩ := l_sm r2 hw
    refine ⟨_, r1, lNN.of hI e hz (by decide) (z_D.mono (D_X9_mirrored (lA_D hI) w1 za zb) (fun rv2 h2 K => ?_))⟩
    obtain ⟨s1, s2⟩ := (K.1 c1)
    exact ⟨s1, l_fin hI hw' hf ⟨_, _, _, _, _, _, _, _, _, _, _, _, _, _, _, _, _, hha, s2⟩⟩
  · obtain ⟨r1, r2⟩ := (H.2 c1)
    obtain ⟨hw', hz⟩ := l_rf hI r2 hw
    refine ⟨_, r1, lNN.of hI e hz (by decide) (z_D.mono (D_X9_mirrored (lA_D hI) w1 za zb) (fun rv2 h2 K => ?_))⟩
    obtain ⟨s1, s2⟩ := (K.2 c1)
    exact ⟨s1, l_fin hI hw' hf ⟨_, _, _, _, _, _, _, _, _, _, _, _, _, _, _, _, _, hha, s2⟩⟩
set_option maxHeartbeats 4000000 in
theorem lq_even {g : z_G} {h : z_H} {ad : Nat → Nat} (hI : aJ ad) (hL : lI h ad) {a : Int} (za : z_in a) : lPi g ad mX8_even mX9_even [z_i a] h := by
  obtain ⟨Rf, Nw, Th, Tp, Lk, Ho, Sz, Im, kp, t, ca, G, Gt, hf, hw, Tx, Kd, Ia, It, Mv, sz, at_, we, pa, de, ti, lf, md, mn, hi, hq, is_, hha, e⟩ := hL
  obtain ⟨w1, w2, w3, w4, w5, w6⟩ := id hf
  refine ⟨⟨_, hw.1.1⟩, _, _, _, (by decide), (by decide), (by decide), z_D.mono (D_X8_even hI hw w1 za) (fun rv h1 H => ?_)⟩
  by_cases c1 : isW Nw a
  · obtain ⟨r1, r2⟩ := (H.1 c1)
    obtain ⟨hw', hz⟩ := l_sm r2 hw
    refine ⟨_, r1, lNN.of hI e hz (by decide) (z_D.mono (D_X9_even (lA_D hI) w1 za) (fun rv2 h2 K => ?_))⟩
    obtain ⟨s1, s2⟩ := (K.1 c1)
    exact ⟨s1, l_fin hI hw' hf ⟨_, _, _, _, _, _, _, _, _, _, _, _, _, _, _, _, _, hha, s2⟩⟩
  · obtain ⟨r1, r2⟩ := (H.2 c1)
    obtain ⟨hw', hz⟩ := l_rf hI r2 hw
    refine ⟨_, r1, lNN.of hI e hz (by decide) (z_D.mono (D_X9_even (lA_D hI) w1 za) (fun rv2 h2 K => ?_))⟩
    obtain ⟨s1, s2⟩ := (K.2 c1)
    exact ⟨s1, l_fin hI hw' hf ⟨_, _, _, _, _, _, _, _, _, _, _, _, _, _, _, _, _, hha, s2⟩⟩
set_option maxHeartbeats 4000000 in
theorem lq_roots {g : z_G} {h : z_H} {ad : Nat → Nat} (hI : aJ ad) (hL : lI h ad) {a b : Int} (za : z_in a) (zb : z_in b) : lPl g ad mX8_roots mX9_roots [z_i a, z_i b] h := by
  obtain ⟨Rf, Nw, Th, Tp, Lk, Ho, Sz, Im, kp, t, ca, G, Gt, hf, hw, Tx, Kd, Ia, It, Mv, sz, at_, we, pa, de, ti, lf, md, mn, hi, hq, is_, hha, e⟩ := hL
  obtain ⟨w1, w2, w3, w4, w5, w6⟩ := id hf
  refine ⟨⟨_, hw.1.1⟩, _, _, _, (by decide), (by decide), (by decide), z_D.mono (D_X8_roots hI hw w1 za zb) (fun rv h1 H => ?_)⟩
  by_cases c1 : isW Nw a ∧ 0 ≤ b ∧ b < sG kM (kR Nw a.toNat) (zF Nw a.toNat)
  · obtain ⟨⟨v1, r1, _, b1⟩, r2⟩ := (H.1 c1)
    obtain ⟨hw', hz⟩ := l_sm r2 hw
    refine ⟨_, r1, lNN.of hI e hz (by decide) (z_D.mono (D_X9_roots (lA_D hI) w1 za zb) (fun rv2 h2 K => ?_))⟩
    obtain ⟨⟨v2, s1, _, b2⟩, s2⟩ := (K.1 c1)
    obtain rfl := bit_eq b1 b2
    exact ⟨s1, l_fin hI hw' hf ⟨_, _, _, _, _, _, _, _, _, _, _, _, _, _, _, _, _, hha, s2⟩⟩
  · obtain ⟨r1, r2⟩ := (H.2 c1)
    obtain ⟨hw', hz⟩ := l_rf hI r2 hw
    refine ⟨_, r1, lNN.of hI e hz (by decide) (z_D.mono (D_X9_roots (lA_D hI) w1 za zb) (fun rv2 h2 K => ?_))⟩
    obtain ⟨s1, s2⟩ := (K.2 c1)
    exact ⟨s1, l_fin hI hw' hf ⟨_, _, _, _, _, _, _, _, _, _, _, _, _, _, _, _, _, hha, s2⟩⟩
set_option maxHeartbeats 4000000 in
theorem lq_origin {g : z_G} {h : z_H} {ad : Nat → Nat} (hI : aJ ad) (hL : lI h ad) {a : Int} (za : z_in a) : lPl g ad mX8_origin mX9_origin [z_i a] h := by
  obtain ⟨Rf, Nw, Th, Tp, Lk, Ho, Sz, Im, kp, t, ca, G, Gt, hf, hw, Tx, Kd, Ia, It, Mv, sz, at_, we, pa, de, ti, lf, md, mn, hi, hq, is_, hha, e⟩ := hL
  obtain ⟨w1, w2, w3, w4, w5, w6⟩ := id hf
  refine ⟨⟨_, hw.1.1⟩, _, _, _, (by decide), (by decide), (by decide), z_D.mono (D_X8_origin hI hw w1 za) (fun rv h1 H => ?_)⟩
  by_cases c1 : 0 ≤ a ∧ a < Nw 5023
  · obtain ⟨⟨v1, r1, b1⟩, r2⟩ := (H.1 c1)
    obtain ⟨hw', hz⟩ := l_sm r2 hw
    refine ⟨_, r1, lNN.of hI e hz (by decide) (z_D.mono (D_X9_origin (lA_D hI) w1 za) (fun rv2 h2 K => ?_))⟩
    obtain ⟨⟨v2, s1, b2⟩, s2⟩ := (K.1 c1)
    obtain rfl := bit_eq b1 b2
    exact ⟨s1, l_fin hI hw' hf ⟨_, _, _, _, _, _, _, _, _, _, _, _, _, _, _, _, _, hha, s2⟩⟩
  · obtain ⟨r1, r2⟩ := (H.2 c1)
    obtain ⟨hw', hz⟩ := l_rf hI r2 hw
    refine ⟨_, r1, lNN.of hI e hz (by decide) (z_D.mono (D_X9_origin (lA_D hI) w1 za) (fun rv2 h2 K => ?_))⟩
    obtain ⟨s1, s2⟩ := (K.2 c1)
    exact ⟨s1, l_fin hI hw' hf ⟨_, _, _, _, _, _, _, _, _, _, _, _, _, _, _, _, _, hha, s2⟩⟩
set_option maxHeartbeats 4000000 in
theorem lq_yarn {g : z_G} {h : z_H} {ad : Nat → Nat} (hI : aJ ad) (hL : lI h ad) : lPl g ad mX8_yarn mX9_yarn [] h := by
  obtain ⟨Rf, Nw, Th, Tp, Lk, Ho, Sz, Im, kp, t, ca, G, Gt, hf, hw, Tx, Kd, Ia, It, Mv, sz, at_, we, pa, de, ti, lf, md, mn, hi, hq, is_, hha, e⟩ := hL
  obtain ⟨w1, w2, w3, w4, w5, w6⟩ := id hf
  refine ⟨⟨_, hw.1.1⟩, _, _, _, (by decide), (by decide), (by decide), z_D.mono (D_X8_yarn hI hw w1) (fun rv h1 H => ?_)⟩
  obtain ⟨r1, r2⟩ := H
  obtain ⟨hw', hz⟩ := l_sm r2 hw
  refine ⟨_, r1, lNN.of hI e hz (by decide) (z_D.mono (D_X9_yarn (lA_D hI) w1) (fun rv2 h2 K => ?_))⟩
  obtain ⟨s1, s2⟩ := K
  exact ⟨s1, l_fin hI hw' hf ⟨_, _, _, _, _, _, _, _, _, _, _, _, _, _, _, _, _, hha, s2⟩⟩
set_option maxHeartbeats 4000000 in
theorem lq_many {g : z_G} {h : z_H} {ad : Nat → Nat} (hI : aJ ad) (hL : lI h ad) {a : Int} (za : z_in a) : lPi g ad mX8_many mX9_many [z_i a] h := by
  obtain ⟨Rf, Nw, Th, Tp, Lk, Ho, Sz, Im, kp, t, ca, G, Gt, hf, hw, Tx, Kd, Ia, It, Mv, sz, at_, we, pa, de, ti, lf, md, mn, hi, hq, is_, hha, e⟩ := hL
  obtain ⟨w1, w2, w3, w4, w5, w6⟩ := id hf
  refine ⟨⟨_, hw.1.1⟩, _, _, _, (by decide), (by decide), (by decide), z_D.mono (D_X8_many hI hw w1 za) (fun rv h1 H => ?_)⟩
  by_cases c1 : 0 ≤ a ∧ a ≤ 12
  · obtain ⟨r1, r2⟩ := (H.1 c1)
    obtain ⟨hw', hz⟩ := l_sm r2 hw
    refine ⟨_, r1, lNN.of hI e hz (by decide) (z_D.mono (D_X9_many (lA_D hI) w1 za) (fun rv2 h2 K => ?_))⟩
    obtain ⟨s1, s2⟩ := (K.1 c1)
    exact ⟨s1, l_fin hI hw' hf ⟨_, _, _, _, _, _, _, _, _, _, _, _, _, _, _, _, _, hha, s2⟩⟩
  · obtain ⟨r1, r2⟩ := (H.2 c1)
    obtain ⟨hw', hz⟩ := l_rf hI r2 hw
    refine ⟨_, r1, lNN.of hI e hz (by decide) (z_D.mono (D_X9_many (lA_D hI) w1 za) (fun rv2 h2 K => ?_))⟩
    obtain ⟨s1, s2⟩ := (K.2 c1)
    exact ⟨s1, l_fin hI hw' hf ⟨_, _, _, _, _, _, _, _, _, _, _, _, _, _, _, _, _, hha, s2⟩⟩
set_option maxHeartbeats 4000000 in
theorem lq_differ {g : z_G} {h : z_H} {ad : Nat → Nat} (hI : aJ ad) (hL : lI h ad) {a b : Int} (za : z_in a) (zb : z_in b) : lPi g ad mX8_differ mX9_differ [z_i a, z_i b] h := by
  obtain ⟨Rf, Nw, Th, Tp, Lk, Ho, Sz, Im, kp, t, ca, G, Gt, hf, hw, Tx, Kd, Ia, It, Mv, sz, at_, we, pa, de, ti, lf, md, mn, hi, hq, is_, hha, e⟩ := hL
  obtain ⟨w1, w2, w3, w4, w5, w6⟩ := id hf
  refine ⟨⟨_, hw.1.1⟩, _, _, _, (by decide), (by decide), (by decide), z_D.mono (D_X8_differ hI hw w1 za zb) (fun rv h1 H => ?_)⟩
  by_cases c1 : isW Nw a ∧ isW Nw b
  · obtain ⟨r1, r2⟩ := (H.1 c1)
    obtain ⟨hw', hz⟩ := l_sm r2 hw
    refine ⟨_, r1, lNN.of hI e hz (by decide) (z_D.mono (D_X9_differ (lA_D hI) w1 za zb) (fun rv2 h2 K => ?_))⟩
    obtain ⟨s1, s2⟩ := (K.1 c1)
    exact ⟨s1, l_fin hI hw' hf ⟨_, _, _, _, _, _, _, _, _, _, _, _, _, _, _, _, _, hha, s2⟩⟩
  · obtain ⟨r1, r2⟩ := (H.2 c1)
    obtain ⟨hw', hz⟩ := l_rf hI r2 hw
    refine ⟨_, r1, lNN.of hI e hz (by decide) (z_D.mono (D_X9_differ (lA_D hI) w1 za zb) (fun rv2 h2 K => ?_))⟩
    obtain ⟨s1, s2⟩ := (K.2 c1)
    exact ⟨s1, l_fin hI hw' hf ⟨_, _, _, _, _, _, _, _, _, _, _, _, _, _, _, _, _, hha, s2⟩⟩
set_option maxHeartbeats 4000000 in
theorem lq_judge {g : z_G} {h : z_H} {ad : Nat → Nat} (hI : aJ ad) (hL : lI h ad) {a b c : Int} (za : z_in a) (zb : z_in b) (zc : z_in c) : lPi g ad mX8_judge mX9_judge [z_i a, z_i b, z_i c] h := by
  obtain ⟨Rf, Nw, Th, Tp, Lk, Ho, Sz, Im, kp, t, ca, G, Gt, hf, hw, Tx, Kd, Ia, It, Mv, sz, at_, we, pa, de, ti, lf, md, mn, hi, hq, is_, hha, e⟩ := hL
  obtain ⟨w1, w2, w3, w4, w5, w6⟩ := id hf
  refine ⟨⟨_, hw.1.1⟩, _, _, _, (by decide), (by decide), (by decide), z_D.mono (D_X8_judge hI hw w1 w5 w6 za zb zc) (fun rv h1 H => ?_)⟩
  by_cases c1 : isW Nw a ∧ isS b ∧ 0 ≤ c ∧ c ≤ 40
  · by_cases c2 : amI (Ho b.toNat) = 0
    · by_cases c3 : c > Sz b.toNat
      · obtain ⟨r1, r2⟩ := (((H.2 c1).2 c2).1 c3)
        obtain ⟨hw', hz⟩ := l_rf hI r2 hw
        refine ⟨_, r1, lNN.of hI e hz (by decide) (z_D.mono (D_X9_judge (lA_D hI) w1 w5 w6 za zb zc) (fun rv2 h2 K => ?_))⟩
        obtain ⟨s1, s2⟩ := (((K.2 c1).2 c2).1 c3)
        exact ⟨s1, l_fin hI hw' hf ⟨_, _, _, _, _, _, _, _, _, _, _, _, _, _, _, _, _, hha, s2⟩⟩
      · obtain ⟨r1, r2⟩ := (((H.2 c1).2 c2).2 c3)
        obtain ⟨hw', hz⟩ := l_sm r2 hw
        refine ⟨_, r1, lNN.of hI e hz (by decide) (z_D.mono (D_X9_judge (lA_D hI) w1 w5 w6 za zb zc) (fun rv2 h2 K => ?_))⟩
        obtain ⟨s1, s2⟩ := (((K.2 c1).2 c2).2 c3)
        exact ⟨s1, l_fin hI hw' hf ⟨_, _, _, _, _, _, _, _, _, _, _, _, _, _, _, _, _, hha, s2⟩⟩
    · obtain ⟨r1, r2⟩ := ((H.2 c1).1 c2)
      obtain ⟨hw', hz⟩ := l_rf hI r2 hw
      refine ⟨_, r1, lNN.of hI e hz (by decide) (z_D.mono (D_X9_judge (lA_D hI) w1 w5 w6 za zb zc) (fun rv2 h2 K => ?_))⟩
      obtain ⟨s1, s2⟩ := ((K.2 c1).1 c2)
      exact ⟨s1, l_fin hI hw' hf ⟨_, _, _, _, _, _, _, _, _, _, _, _, _, _, _, _, _, hha, s2⟩⟩
  · obtain ⟨r1, r2⟩ := (H.1 c1)
    obtain ⟨hw', hz⟩ := l_rf hI r2 hw
    refine ⟨_, r1, lNN.of hI e hz (by decide) (z_D.mono (D_X9_judge (lA_D hI) w1 w5 w6 za zb zc) (fun rv2 h2 K => ?_))⟩
    obtain ⟨s1, s2⟩ := (K.1 c1)
    exact ⟨s1, l_fin hI hw' hf ⟨_, _, _, _, _, _, _, _, _, _, _, _, _, _, _, _, _, hha, s2⟩⟩
set_option maxHeartbeats 4000000 in
theorem lq_days {g : z_G} {h : z_H} {ad : Nat → Nat} (hI : aJ ad) (hL : lI h ad) {a : Int} (za : z_in a) : lPi g ad mX8_days mX9_days [z_i a] h := by
  obtain ⟨Rf, Nw, Th, Tp, Lk, Ho, Sz, Im, kp, t, ca, G, Gt, hf, hw, Tx, Kd, Ia, It, Mv, sz, at_, we, pa, de, ti, lf, md, mn, hi, hq, is_, hha, e⟩ := hL
  obtain ⟨w1, w2, w3, w4, w5, w6⟩ := id hf
  refine ⟨⟨_, hw.1.1⟩, _, _, _, (by decide), (by decide), (by decide), z_D.mono (D_X8_days hI hw w1 za) (fun rv h1 H => ?_)⟩
  by_cases c1 : 1 ≤ a ∧ a ≤ 60
  · by_cases c2 : Nw 5020 = 0
    · obtain ⟨r1, r2⟩ := ((H.2 c1).1 c2)
      obtain ⟨hw', hz⟩ := l_rf hI r2 hw
      refine ⟨_, r1, lNN.of hI e hz (by decide) (z_D.mono (D_X9_days (lA_D hI) w1 za hha) (fun rv2 h2 K => ?_))⟩
      obtain ⟨s1, s2⟩ := ((K.2 c1).1 c2)
      exact ⟨s1, l_fin hI hw' hf ⟨_, _, _, _, _, _, _, _, _, _, _, _, _, _, _, _, _, hha, s2⟩⟩
    · obtain ⟨r1, hw', hz⟩ := ((H.2 c1).2 c2)
      refine ⟨_, r1, lNN.of hI e hz (by decide) (z_D.mono (D_X9_days (lA_D hI) w1 za hha) (fun rv2 h2 K => ?_))⟩
      obtain ⟨s1, s2⟩ := ((K.2 c1).2 c2)
      exact ⟨s1, l_fin hI hw' ⟨nWf_dyF _ _ _ w1 c2, w2, w3, w4, w5, w6⟩ s2⟩
  · obtain ⟨r1, r2⟩ := (H.1 c1)
    obtain ⟨hw', hz⟩ := l_rf hI r2 hw
    refine ⟨_, r1, lNN.of hI e hz (by decide) (z_D.mono (D_X9_days (lA_D hI) w1 za hha) (fun rv2 h2 K => ?_))⟩
    obtain ⟨s1, s2⟩ := (K.1 c1)
    exact ⟨s1, l_fin hI hw' hf ⟨_, _, _, _, _, _, _, _, _, _, _, _, _, _, _, _, _, hha, s2⟩⟩
set_option maxHeartbeats 4000000 in
theorem lq_seed {g : z_G} {h : z_H} {ad : Nat → Nat} (hI : aJ ad) (hL : lI h ad) {a : Int} (za : z_in a) : lPi g ad mX8_seed mX9_seed [z_i a] h := by
  obtain ⟨Rf, Nw, Th, Tp, Lk, Ho, Sz, Im, kp, t, ca, G, Gt, hf, hw, Tx, Kd, Ia, It, Mv, sz, at_, we, pa, de, ti, lf, md, mn, hi, hq, is_, hha, e⟩ := hL
  obtain ⟨w1, w2, w3, w4, w5, w6⟩ := id hf
  refine ⟨⟨_, hw.1.1⟩, _, _, _, (by decide), (by decide), (by decide), z_D.mono (D_X8_seed hI hw w1) (fun rv h1 H => ?_)⟩
  obtain ⟨r1, hw', hz⟩ := H
  refine ⟨_, r1, lNN.of hI e hz (by decide) (z_D.mono (D_X9_seed (lA_D hI)) (fun rv2 h2 K => ?_))⟩
  obtain ⟨s1, s2⟩ := K
  exact ⟨s1, l_fin hI hw' ⟨nWf_seed w1, w2, w3, w4, w5, w6⟩ ⟨_, _, _, _, _, _, _, _, _, _, _, _, _, _, _, _, _, hha, s2⟩⟩
set_option maxHeartbeats 4000000 in
theorem lq_image {g : z_G} {h : z_H} {ad : Nat → Nat} (hI : aJ ad) (hL : lI h ad) : lPi g ad mX8_image mX9_image [] h := by
  obtain ⟨Rf, Nw, Th, Tp, Lk, Ho, Sz, Im, kp, t, ca, G, Gt, hf, hw, Tx, Kd, Ia, It, Mv, sz, at_, we, pa, de, ti, lf, md, mn, hi, hq, is_, hha, e⟩ := hL
  obtain ⟨w1, w2, w3, w4, w5, w6⟩ := id hf
  refine ⟨⟨_, hw.1.1⟩, _, _, _, (by decide), (by decide), (by decide), z_D.mono (D_X8_image hI hw w1) (fun rv h1 H => ?_)⟩
  obtain ⟨r1, hw', hz⟩ := H
  refine ⟨_, r1, lNN.of hI e hz (by decide) (z_D.mono (D_X9_image (lA_D hI)) (fun rv2 h2 K => ?_))⟩
  obtain ⟨s1, s2⟩ := K
  exact ⟨s1, l_fin hI hw' ⟨w1, Or.inr rfl, fun _ => nWf_cp w1, w4, w5, w6⟩ ⟨_, _, _, _, _, _, _, _, _, _, _, _, _, _, _, _, _, hha, s2⟩⟩
set_option maxHeartbeats 4000000 in
theorem lq_back {g : z_G} {h : z_H} {ad : Nat → Nat} (hI : aJ ad) (hL : lI h ad) : lPi g ad mX8_back mX9_back [] h := by
  obtain ⟨Rf, Nw, Th, Tp, Lk, Ho, Sz, Im, kp, t, ca, G, Gt, hf, hw, Tx, Kd, Ia, It, Mv, sz, at_, we, pa, de, ti, lf, md, mn, hi, hq, is_, hha, e⟩ := hL
  obtain ⟨w1, w2, w3, w4, w5, w6⟩ := id hf
  refine ⟨⟨_, hw.1.1⟩, _, _, _, (by decide), (by decide), (by decide), z_D.mono (D_X8_back hI hw w2 w3) (fun rv h1 H => ?_)⟩
  by_cases c1 : kp = 0
  · obtain ⟨r1, r2⟩ := (H.1 c1)
    obtain ⟨hw', hz⟩ := l_rf hI r2 hw
    refine ⟨_, r1, lNN.of hI e hz (by decide) (z_D.mono (D_X9_back (lA_D hI) w2) (fun rv2 h2 K => ?_))⟩
    obtain ⟨s1, s2⟩ := (K.1 c1)
    exact ⟨s1, l_fin hI hw' hf ⟨_, _, _, _, _, _, _, _, _, _, _, _, _, _, _, _, _, hha, s2⟩⟩
  · obtain ⟨r1, hw', hz⟩ := (H.2 c1)
    refine ⟨_, r1, lNN.of hI e hz (by decide) (z_D.mono (D_X9_back (lA_D hI) w2) (fun rv2 h2 K => ?_))⟩
    obtain ⟨s1, s2⟩ := (K.2 c1)
    exact ⟨s1, l_fin hI hw' ⟨nWf_cp (w3 c1), w2, w3, w4, w5, w6⟩ ⟨_, _, _, _, _, _, _, _, _, _, _, _, _, _, _, _, _, hha, s2⟩⟩
set_option maxHeartbeats 4000000 in
theorem lq_status {g : z_G} {h : z_H} {ad : Nat → Nat} (hI : aJ ad) (hL : lI h ad) {a : Int} (za : z_in a) : lPi g ad mX8_status mX9_status [z_i a] h := by
  obtain ⟨Rf, Nw, Th, Tp, Lk, Ho, Sz, Im, kp, t, ca, G, Gt, hf, hw, Tx, Kd, Ia, It, Mv, sz, at_, we, pa, de, ti, lf, md, mn, hi, hq, is_, hha, e⟩ := hL
  obtain ⟨w1, w2, w3, w4, w5, w6⟩ := id hf
  refine ⟨⟨_, hw.1.1⟩, _, _, _, (by decide), (by decide), (by decide), z_D.mono (D_X8_status hI hw w5 za) (fun rv h1 H => ?_)⟩
  obtain ⟨r1, r2⟩ := H
  obtain ⟨hw', hz⟩ := l_sm r2 hw
  refine ⟨_, r1, lNN.of hI e hz (by decide) (z_D.mono (D_X9_status (lA_D hI) w5 za) (fun rv2 h2 K => ?_))⟩
  obtain ⟨s1, s2⟩ := K
  exact ⟨s1, l_fin hI hw' hf ⟨_, _, _, _, _, _, _, _, _, _, _, _, _, _, _, _, _, hha, s2⟩⟩
