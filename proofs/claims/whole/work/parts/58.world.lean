/-! the world of the class: addresses by tags -/
def aJ (ad : Nat → Nat) : Prop := ∀ i j, i < 347 → j < 347 → ad i = ad j → i = j
theorem aJ.ne {ad : Nat → Nat} (h : aJ ad) {i j : Nat} (hi : i < 347) (hj : j < 347) (hij : i ≠ j) : ad i ≠ ad j := fun e => hij (h i j hi hj e)
def off (ad : Nat → Nat) (a : Nat) : Prop := ∀ t, t < 347 → a ≠ ad t
def tN (ad : Nat → Nat) : Nat → Nat := fun t => ad (27 + t)
def tK (ad : Nat → Nat) : Nat → Nat := fun t => ad (180 + t)
def shR (ad : Nat → Nat) : Nat → Option Nat := fun s => if s < 8 then some (ad (11 + 2 * s)) else none
theorem aJ.tN {ad : Nat → Nat} (h : aJ ad) : tI (tN ad) := fun i j hi hj e => by
  have := h (27 + i) (27 + j) (by omega) (by omega) e
  omega
theorem aJ.tK {ad : Nat → Nat} (h : aJ ad) : tI (tK ad) := fun i j hi hj e => by
  have := h (180 + i) (180 + j) (by omega) (by omega) e
  omega
theorem aJ.p {ad : Nat → Nat} (h : aJ ad) : pD (ad 3) (ad 4) (ad 5) (ad 6) (ad 7) := by
  refine ⟨⟨?_, ?_, ?_, ?_⟩, ⟨?_, ?_, ?_⟩, ⟨?_, ?_⟩, ?_⟩ <;> exact h.ne (by decide) (by decide) (by decide)
/-- each row that was read is a Line -/
def lnR (h : z_H) (ad : Nat → Nat) (Lf : Nat → Option Nat) (N : z_row) (G : Nat → z_G4) : Prop := ∀ i : Nat, (i : Int) < N 5020 → ∃ (a b s p u e : Nat) (t : z_row) (ix fl : Int), Lf i = some a ∧ (off ad a ∧ off ad b ∧ off ad s ∧ off ad p ∧ off ad u ∧ off ad e) ∧ oLi h a b s p u e (nF N i) t (G i).1 (G i).2.1 (G i).2.2.1 (G i).2.2.2.1 ((G i).2.2.2.2 : Int) ((rdZ N i).2.2.2.1 : Int) (rdZ N i).2.2.2.2 ix fl ∧ (∀ k, k < nF N i → t k = tL N i k) ∧ ((rdZ N i).2.2.2.2 = 0 ∨ (rdZ N i).2.2.2.2 = 1)
/-- a State object that tells N -/
def sX (h : z_H) (ad T : Nat → Nat) (ok : Prop) (N : z_row) (G : Nat → z_G4) : Prop := ∃ (Lf : Nat → Option Nat) (lc dc nd si mo se : Int) (sd ln zz : Nat → Int) (ff : Nat → z_row), sH h T Lf lc dc nd si mo se sd ln zz ff ∧ (∀ i, i < 20 → ∀ a, Lf i = some a → (∃ fs, h a = some (c_O 2 fs)) ∧ off ad a) ∧ (ok → (lc = N 5020 ∧ dc = N 5025 ∧ nd = N 5023 ∧ si = N 5022 ∧ mo = N 5021 ∧ se = N 5024) ∧ clR N dc sd ln zz ff ∧ lnR h ad Lf N G)
def shX (h : z_H) (ad : Nat → Nat) (Ho Sz Im : z_row) : Prop := ∀ s, s < 8 → ∃ (sz : Int) (f : z_row), oSh h (ad (11 + 2 * s)) (ad (12 + 2 * s)) (Ho s) sz f ∧ (amI (Ho s) = 0 → sz = Sz s) ∧ ∀ k, k < 40 → f k = Im (40 * s + k)
def pX (h : z_H) (ad : Nat → Nat) : Prop := ∃ q : wkT, h = PH h (ad 3) (ad 4) (ad 5) (ad 6) (ad 7) q
def chX (h : z_H) (ad : Nat → Nat) (Lk : z_row) (ca : Nat) : Prop := ∃ f : z_row, oCh h (ad 8) (ad 9) ca f ∧ ∀ k, k < 3 * ca → f k = Lk k
def obX (ad : Nat → Nat) (kp : Int) (t : Nat) : z_C := c_O 7 [z_r (tN ad 0), z_r (tK ad 0), z_i kp, z_r (ad 1), z_i (t : Int), z_r (ad 2), z_r (ad 3), z_r (ad 8), z_r (ad 10)]
def cW (h : z_H) (ad : Nat → Nat) (Rf Nw Th Tp Lk Ho Sz Im : z_row) (kp : Int) (t ca : Nat) (G Gt : Nat → z_G4) : Prop :=
  (h (ad 0) = some (c_O 7 [z_r (tN ad 0), z_r (tK ad 0), z_i kp, z_r (ad 1), z_i (t : Int), z_r (ad 2), z_r (ad 3), z_r (ad 8), z_r (ad 10)]) ∧ h (ad 1) = some (c_I 250 Tp) ∧ h (ad 2) = some (c_A 2 8 (shR ad)) ∧ h (ad 10) = some (c_I 5 Rf)) ∧ pX h ad ∧ chX h ad Lk ca ∧ shX h ad Ho Sz Im ∧ sX h ad (tN ad) True Nw G ∧ sX h ad (tK ad) (kp ≠ 0) Th Gt
/-- what stays as it was: all that was there and is not the class's own -/
def zfr (ad : Nat → Nat) (h h' : z_H) : Prop := ∀ q, h q ≠ none → (∀ t, t < 333 → q ≠ ad t) → h' q = h q
/-- the cells of the tags from l to u stay -/
def agT (ad : Nat → Nat) (h h' : z_H) (l u : Nat) : Prop := ∀ t, l ≤ t → t < u → h' (ad t) = h (ad t)
/-- Lines stay -/
def agO (ad : Nat → Nat) (h h' : z_H) : Prop := ∀ q, h q ≠ none → off ad q → h' q = h q
theorem zfr.rfl' {ad : Nat → Nat} {h : z_H} : zfr ad h h := fun _ _ _ => rfl
theorem zfr.o {ad : Nat → Nat} {h h' : z_H} (H : zfr ad h h') : agO ad h h' := fun q h1 h2 => H q h1 (fun t ht => h2 t (by omega))
theorem zfr.tr {ad : Nat → Nat} {h h' h'' : z_H} (H : zfr ad h h') (K : zfr ad h' h'') : zfr ad h h'' := fun q h1 h2 => (K q (by rw [H q h1 h2]; exact h1) h2).trans (H q h1 h2)
theorem zfr.up {ad : Nat → Nat} {h : z_H} {j : Nat} {e : z_C} (hj : j < 333) : zfr ad h (z_up h (ad j) e) := fun q _ h2 => z_up_n (h2 j hj)
theorem agO.up {ad : Nat → Nat} {h : z_H} {j : Nat} {e : z_C} (hj : j < 347) : agO ad h (z_up h (ad j) e) := fun q _ h2 => z_up_n (h2 j hj)
theorem agO.tr {ad : Nat → Nat} {h h' h'' : z_H} (H : agO ad h h') (K : agO ad h' h'') : agO ad h h'' := fun q h1 h2 => (K q (by rw [H q h1 h2]; exact h1) h2).trans (H q h1 h2)
theorem agT.up {ad : Nat → Nat} (hI : aJ ad) {h : z_H} {j l u : Nat} {e : z_C} (hj : j < 347) (hu : u ≤ 347) (hc : j < l ∨ u ≤ j) : agT ad h (z_up h (ad j) e) l u := fun t h1 h2 => z_up_n (hI.ne (by omega) hj (by omega))
theorem agT.tr {ad : Nat → Nat} {h h' h'' : z_H} {l u : Nat} (H : agT ad h h' l u) (K : agT ad h' h'' l u) : agT ad h h'' l u := fun t h1 h2 => (K t h1 h2).trans (H t h1 h2)
theorem agT.sub {ad : Nat → Nat} {h h' : z_H} {l u l' u' : Nat} (H : agT ad h h' l u) (h1 : l ≤ l') (h2 : u' ≤ u) : agT ad h h' l' u' := fun t a b => H t (by omega) (by omega)
theorem lnR.fr {h h' : z_H} {ad : Nat → Nat} {Lf : Nat → Option Nat} {N : z_row} {G : Nat → z_G4} (H : lnR h ad Lf N G) (ho : agO ad h h') : lnR h' ad Lf N G := fun i hi => by
  obtain ⟨a, b, s, p, u, e, t, ix, fl, h1, ⟨o1, o2, o3, o4, o5, o6⟩, ⟨l1, l2, l3, l4, l5, l6, l7⟩, h4⟩ := H i hi
  have key : ∀ q x, h q = some x → off ad q → h' q = some x := fun q x hq hf => (ho q (by rw [hq]; exact Option.some_ne_none _) hf).trans hq
  exact ⟨a, b, s, p, u, e, t, ix, fl, h1, ⟨o1, o2, o3, o4, o5, o6⟩, ⟨key _ _ l1 o1, key _ _ l2 o2, key _ _ l3 o3, key _ _ l4 o4, key _ _ l5 o5, key _ _ l6 o6, l7⟩, h4⟩
theorem lnR.ag {h : z_H} {ad : Nat → Nat} {Lf Lf' : Nat → Option Nat} {N N' : z_row} {G : Nat → z_G4} (H : lnR h ad Lf N G) (hk : ∀ k, k < 5020 → N' k = N k) (h0 : N' 5020 ≤ N 5020) (h20 : N 5020 ≤ 20) (hL : ∀ i, i < 20 → Lf' i = Lf i) : lnR h ad Lf' N' G := fun i hi => by
  obtain ⟨a, b, s, p, u, e, t, ix, fl, h1, h2, h3, h4⟩ := H i (by omega)
  have hn := h3.2.2.2.2.2.2.1
  have eF : nF N' i = nF N i := congrArg Int.toNat (hk _ (by omega))
  have eT : ∀ k, k < nF N i → tL N' i k = tL N i k := fun k hk2 => hk _ (by omega)
  have eR : rdZ N' i = rdZ N i := by
    unfold rdZ
    rw [eF]
    exact rdS_tx eT _ _ _
  exact ⟨a, b, s, p, u, e, t, ix, fl, (hL i (by omega)).trans h1, h2, by rw [eF, eR]; exact h3, fun k hk2 => by rw [eF] at hk2; exact (h4.1 k hk2).trans (eT k hk2).symm, by rw [eR]; exact h4.2⟩
theorem clR.ag {N N' : z_row} {dc dc' : Int} {sd ln zz : Nat → Int} {ff : Nat → z_row} (H : clR N dc sd ln zz ff) (hk : ∀ k, 5026 ≤ k → k < 15226 → N' k = N k) (h0 : dc' ≤ dc) (h5 : dc ≤ 50) (hz : ∀ i : Nat, (i : Int) < dc → zF N i ≤ 200) : clR N' dc' sd ln zz ff := fun i hi => by
  obtain ⟨h1, h2, h3, h4⟩ := H i (by omega)
  have hz2 := hz i (by omega)
  have eF : zF N' i = zF N i := congrArg Int.toNat (hk _ (by omega) (by omega))
  exact ⟨h1.trans (hk _ (by omega) (by omega)).symm, h2.trans (hk _ (by omega) (by omega)).symm, by rw [eF]; exact h3, fun j hj => by rw [eF] at hj; exact (h4 j hj).trans (hk _ (by omega) (by omega)).symm⟩
theorem sX.fr {h h' : z_H} {ad T : Nat → Nat} {ok : Prop} {N : z_row} {G : Nat → z_G4} (H : sX h ad T ok N G) (hT : ∀ t, t < 153 → h' (T t) = h (T t)) (ho : agO ad h h') : sX h' ad T ok N G := by
  obtain ⟨Lf, lc, dc, nd, si, mo, se, sd, ln, zz, ff, h1, h2, h3⟩ := H
  refine ⟨Lf, lc, dc, nd, si, mo, se, sd, ln, zz, ff, h1.fr hT, fun i hi a ha => ?_, fun q => ⟨(h3 q).1, (h3 q).2.1, (h3 q).2.2.fr ho⟩⟩
  obtain ⟨⟨fs, k1⟩, k2⟩ := h2 i hi a ha
  exact ⟨⟨fs, (ho a (by rw [k1]; exact Option.some_ne_none _) k2).trans k1⟩, k2⟩
theorem sX.frN {h h' : z_H} {ad : Nat → Nat} {ok : Prop} {N : z_row} {G : Nat → z_G4} (H : sX h ad (tN ad) ok N G) (hT : agT ad h h' 27 180) (ho : agO ad h h') : sX h' ad (tN ad) ok N G := H.fr (fun t ht => hT (27 + t) (by omega) (by omega)) ho
theorem sX.frK {h h' : z_H} {ad : Nat → Nat} {ok : Prop} {N : z_row} {G : Nat → z_G4} (H : sX h ad (tK ad) ok N G) (hT : agT ad h h' 180 333) (ho : agO ad h h') : sX h' ad (tK ad) ok N G := H.fr (fun t ht => hT (180 + t) (by omega) (by omega)) ho
theorem shX.fr {h h' : z_H} {ad : Nat → Nat} {Ho Sz Im : z_row} (H : shX h ad Ho Sz Im) (hT : agT ad h h' 11 27) : shX h' ad Ho Sz Im := fun s hs => by
  obtain ⟨sz, f, ⟨h1, h2, h3⟩, h4⟩ := H s hs
  exact ⟨sz, f, ⟨(hT _ (by omega) (by omega)).trans h1, (hT _ (by omega) (by omega)).trans h2, h3⟩, h4⟩
theorem pX.fr {h h' : z_H} {ad : Nat → Nat} (H : pX h ad) (hT : agT ad h h' 3 8) : pX h' ad := by
  obtain ⟨q, hq⟩ := H
  refine ⟨q, funext fun j => ?_⟩
  have hj := congrFun hq j
  unfold PH at hj ⊢
  by_cases c1 : j = ad 3
  · rw [if_pos c1] at hj ⊢; rw [c1, hT 3 (by decide) (by decide), ← c1]; exact hj
  rw [if_neg c1] at hj ⊢
  by_cases c2 : j = ad 4
  · rw [if_pos c2] at hj ⊢; rw [c2, hT 4 (by decide) (by decide), ← c2]; exact hj
  rw [if_neg c2] at hj ⊢
  by_cases c3 : j = ad 5
  · rw [if_pos c3] at hj ⊢; rw [c3, hT 5 (by decide) (by decide), ← c3]; exact hj
  rw [if_neg c3] at hj ⊢
  by_cases c4 : j = ad 6
  · rw [if_pos c4] at hj ⊢; rw [c4, hT 6 (by decide) (by decide), ← c4]; exact hj
  rw [if_neg c4] at hj ⊢
  by_cases c5 : j = ad 7
  · rw [if_pos c5] at hj ⊢; rw [c5, hT 7 (by decide) (by decide), ← c5]; exact hj
  rw [if_neg c5]
theorem chX.fr {h h' : z_H} {ad : Nat → Nat} {Lk : z_row} {ca : Nat} (H : chX h ad Lk ca) (hT : agT ad h h' 8 10) : chX h' ad Lk ca := by
  obtain ⟨f, ⟨h1, h2, h3⟩, h4⟩ := H
  exact ⟨f, ⟨(hT 8 (by decide) (by decide)).trans h1, (hT 9 (by decide) (by decide)).trans h2, h3⟩, h4⟩
section ZCW
variable {h : z_H} {ad : Nat → Nat} {Rf Nw Th Tp Lk Ho Sz Im : z_row} {kp : Int} {t ca : Nat} {G Gt : Nat → z_G4}
/-- all of the class's cells stay -/
theorem cW.fr {h' : z_H} (H : cW h ad Rf Nw Th Tp Lk Ho Sz Im kp t ca G Gt) (hT : agT ad h h' 0 333) (ho : agO ad h h') : cW h' ad Rf Nw Th Tp Lk Ho Sz Im kp t ca G Gt := by
  obtain ⟨⟨w0, w1, w2, w3⟩, wp, wc, ws, wn, wk⟩ := H
  exact ⟨⟨(hT 0 (by decide) (by decide)).trans w0, (hT 1 (by decide) (by decide)).trans w1, (hT 2 (by decide) (by decide)).trans w2, (hT 10 (by decide) (by decide)).trans w3⟩, wp.fr (hT.sub (by decide) (by decide)), wc.fr (hT.sub (by decide) (by decide)), ws.fr (hT.sub (by decide) (by decide)), wn.frN (hT.sub (by decide) (by decide)) ho, wk.frK (hT.sub (by decide) (by decide)) ho⟩
/-- a refusal is counted -/
theorem cW.rf (hI : aJ ad) (H : cW h ad Rf Nw Th Tp Lk Ho Sz Im kp t ca G Gt) {Rf' : z_row} : cW (z_up h (ad 10) (c_I 5 Rf')) ad Rf' Nw Th Tp Lk Ho Sz Im kp t ca G Gt := by
  obtain ⟨⟨w0, w1, w2, w3⟩, wp, wc, ws, wn, wk⟩ := H
  have hU : ∀ l u, u ≤ 347 → (10 < l ∨ u ≤ 10) → agT ad h (z_up h (ad 10) (c_I 5 Rf')) l u := fun l u h1 h2 => agT.up hI (by decide) h1 h2
  have hO : agO ad h (z_up h (ad 10) (c_I 5 Rf')) := agO.up (by decide)
  exact ⟨⟨(hU 0 3 (by decide) (by decide) 0 (by decide) (by decide)).trans w0, (hU 0 3 (by decide) (by decide) 1 (by decide) (by decide)).trans w1, (hU 0 3 (by decide) (by decide) 2 (by decide) (by decide)).trans w2, z_up_s⟩, wp.fr (hU _ _ (by decide) (by decide)), wc.fr (hU _ _ (by decide) (by decide)), ws.fr (hU _ _ (by decide) (by decide)), wn.frN (hU _ _ (by decide) (by decide)) hO, wk.frK (hU _ _ (by decide) (by decide)) hO⟩
/-- the object's own fields -/
theorem cW.ob (hI : aJ ad) (H : cW h ad Rf Nw Th Tp Lk Ho Sz Im kp t ca G Gt) {t' : Nat} : cW (z_up h (ad 0) (c_O 7 [z_r (tN ad 0), z_r (tK ad 0), z_i kp, z_r (ad 1), z_i (t' : Int), z_r (ad 2), z_r (ad 3), z_r (ad 8), z_r (ad 10)])) ad Rf Nw Th Tp Lk Ho Sz Im kp t' ca G Gt := by
  obtain ⟨⟨w0, w1, w2, w3⟩, wp, wc, ws, wn, wk⟩ := H
  obtain ⟨e, he⟩ : ∃ e, e = c_O 7 [z_r (tN ad 0), z_r (tK ad 0), z_i kp, z_r (ad 1), z_i (t' : Int), z_r (ad 2), z_r (ad 3), z_r (ad 8), z_r (ad 10)] := ⟨_, rfl⟩
  rw [← he]
  have hU : ∀ l u, u ≤ 347 → (0 < l ∨ u ≤ 0) → agT ad h (z_up h (ad 0) e) l u := fun l u h1 h2 => agT.up hI (by decide) h1 h2
  have hO : agO ad h (z_up h (ad 0) e) := agO.up (by decide)
  exact ⟨⟨by rw [z_up_s, he], (hU 1 3 (by decide) (by decide) 1 (by decide) (by decide)).trans w1, (hU 1 3 (by decide) (by decide) 2 (by decide) (by decide)).trans w2, (hU 1 11 (by decide) (by decide) 10 (by decide) (by decide)).trans w3⟩, wp.fr (hU _ _ (by decide) (by decide)), wc.fr (hU _ _ (by decide) (by decide)), ws.fr (hU _ _ (by decide) (by decide)), wn.frN (hU _ _ (by decide) (by decide)) hO, wk.frK (hU _ _ (by decide) (by decide)) hO⟩
theorem cW.tp (hI : aJ ad) (H : cW h ad Rf Nw Th Tp Lk Ho Sz Im kp t ca G Gt) {Tp' : z_row} : cW (z_up h (ad 1) (c_I 250 Tp')) ad Rf Nw Th Tp' Lk Ho Sz Im kp t ca G Gt := by
  obtain ⟨⟨w0, w1, w2, w3⟩, wp, wc, ws, wn, wk⟩ := H
  have hU : ∀ l u, u ≤ 347 → (1 < l ∨ u ≤ 1) → agT ad h (z_up h (ad 1) (c_I 250 Tp')) l u := fun l u h1 h2 => agT.up hI (by decide) h1 h2
  have hO : agO ad h (z_up h (ad 1) (c_I 250 Tp')) := agO.up (by decide)
  exact ⟨⟨(hU 0 1 (by decide) (by decide) 0 (by decide) (by decide)).trans w0, z_up_s, (hU 2 3 (by decide) (by decide) 2 (by decide) (by decide)).trans w2, (hU 2 11 (by decide) (by decide) 10 (by decide) (by decide)).trans w3⟩, wp.fr (hU _ _ (by decide) (by decide)), wc.fr (hU _ _ (by decide) (by decide)), ws.fr (hU _ _ (by decide) (by decide)), wn.frN (hU _ _ (by decide) (by decide)) hO, wk.frK (hU _ _ (by decide) (by decide)) hO⟩
/-- the state of now is another one -/
theorem cW.nw {h' : z_H} (H : cW h ad Rf Nw Th Tp Lk Ho Sz Im kp t ca G Gt) (h1 : agT ad h h' 0 27) (h2 : agT ad h h' 180 333) (ho : agO ad h h') {N' : z_row} {G' : Nat → z_G4} (hs : sX h' ad (tN ad) True N' G') : cW h' ad Rf N' Th Tp Lk Ho Sz Im kp t ca G' Gt := by
  obtain ⟨⟨w0, w1, w2, w3⟩, wp, wc, ws, wn, wk⟩ := H
  exact ⟨⟨(h1 0 (by decide) (by decide)).trans w0, (h1 1 (by decide) (by decide)).trans w1, (h1 2 (by decide) (by decide)).trans w2, (h1 10 (by decide) (by decide)).trans w3⟩, wp.fr (h1.sub (by decide) (by decide)), wc.fr (h1.sub (by decide) (by decide)), ws.fr (h1.sub (by decide) (by decide)), hs, wk.frK h2 ho⟩
/-- the shelves are others -/
theorem cW.sh {h' : z_H} (H : cW h ad Rf Nw Th Tp Lk Ho Sz Im kp t ca G Gt) (h1 : agT ad h h' 0 11) (h2 : agT ad h h' 27 333) (ho : agO ad h h') {Ho' Sz' Im' : z_row} (hs : shX h' ad Ho' Sz' Im') : cW h' ad Rf Nw Th Tp Lk Ho' Sz' Im' kp t ca G Gt := by
  obtain ⟨⟨w0, w1, w2, w3⟩, wp, wc, ws, wn, wk⟩ := H
  exact ⟨⟨(h1 0 (by decide) (by decide)).trans w0, (h1 1 (by decide) (by decide)).trans w1, (h1 2 (by decide) (by decide)).trans w2, (h1 10 (by decide) (by decide)).trans w3⟩, wp.fr (h1.sub (by decide) (by decide)), wc.fr (h1.sub (by decide) (by decide)), hs, wn.frN (h2.sub (by decide) (by decide)) ho, wk.frK (h2.sub (by decide) (by decide)) ho⟩
/-- the pass is another one -/
theorem PH_T (hI : aJ ad) {q : wkT} {l u : Nat} (hu : u ≤ 347) (hc : 8 ≤ l ∨ u ≤ 3) : agT ad h (PH h (ad 3) (ad 4) (ad 5) (ad 6) (ad 7) q) l u := fun t h1 h2 => by
  unfold PH
  rw [if_neg (hI.ne (by omega) (by decide) (by omega)), if_neg (hI.ne (by omega) (by decide) (by omega)), if_neg (hI.ne (by omega) (by decide) (by omega)), if_neg (hI.ne (by omega) (by decide) (by omega)), if_neg (hI.ne (by omega) (by decide) (by omega))]
theorem PH_O {q : wkT} : agO ad h (PH h (ad 3) (ad 4) (ad 5) (ad 6) (ad 7) q) := fun a _ h2 => by
  unfold PH
  rw [if_neg (h2 3 (by decide)), if_neg (h2 4 (by decide)), if_neg (h2 5 (by decide)), if_neg (h2 6 (by decide)), if_neg (h2 7 (by decide))]
theorem PH_Z {q : wkT} : zfr ad h (PH h (ad 3) (ad 4) (ad 5) (ad 6) (ad 7) q) := fun a _ h2 => by
  unfold PH
  rw [if_neg (h2 3 (by decide)), if_neg (h2 4 (by decide)), if_neg (h2 5 (by decide)), if_neg (h2 6 (by decide)), if_neg (h2 7 (by decide))]
theorem PH_PH {h0 : z_H} {x c k o v : Nat} {q q' : wkT} : PH (PH h0 x c k o v q) x c k o v q' = PH h0 x c k o v q' := by
  funext j
  unfold PH
  by_cases c1 : j = x
  · rw [if_pos c1, if_pos c1]
  rw [if_neg c1, if_neg c1, if_neg c1]
  by_cases c2 : j = c
  · rw [if_pos c2, if_pos c2]
  rw [if_neg c2, if_neg c2, if_neg c2]
  by_cases c3 : j = k
  · rw [if_pos c3, if_pos c3]
  rw [if_neg c3, if_neg c3, if_neg c3]
  by_cases c4 : j = o
  · rw [if_pos c4, if_pos c4]
  rw [if_neg c4, if_neg c4, if_neg c4]
  by_cases c5 : j = v
  · rw [if_pos c5, if_pos c5]
  rw [if_neg c5, if_neg c5, if_neg c5]
theorem cW.ph (hI : aJ ad) (H : cW h ad Rf Nw Th Tp Lk Ho Sz Im kp t ca G Gt) {q : wkT} : cW (PH h (ad 3) (ad 4) (ad 5) (ad 6) (ad 7) q) ad Rf Nw Th Tp Lk Ho Sz Im kp t ca G Gt := by
  obtain ⟨⟨w0, w1, w2, w3⟩, wp, wc, ws, wn, wk⟩ := H
  have hU : ∀ l u, u ≤ 347 → (8 ≤ l ∨ u ≤ 3) → agT ad h (PH h (ad 3) (ad 4) (ad 5) (ad 6) (ad 7) q) l u := fun l u h1 h2 => PH_T hI h1 h2
  exact ⟨⟨(hU 0 3 (by decide) (by decide) 0 (by decide) (by decide)).trans w0, (hU 0 3 (by decide) (by decide) 1 (by decide) (by decide)).trans w1, (hU 0 3 (by decide) (by decide) 2 (by decide) (by decide)).trans w2, (hU 8 11 (by decide) (by decide) 10 (by decide) (by decide)).trans w3⟩, ⟨q, PH_PH.symm⟩, wc.fr (hU _ _ (by decide) (by decide)), ws.fr (hU _ _ (by decide) (by decide)), wn.frN (hU _ _ (by decide) (by decide)) PH_O, wk.frK (hU _ _ (by decide) (by decide)) PH_O⟩
/-- the chain is another one -/
theorem cW.ch {h' : z_H} (H : cW h ad Rf Nw Th Tp Lk Ho Sz Im kp t ca G Gt) (h1 : agT ad h h' 0 8) (h2 : agT ad h h' 10 333) (ho : agO ad h h') {Lk' : z_row} {ca' : Nat} (hc : chX h' ad Lk' ca') : cW h' ad Rf Nw Th Tp Lk' Ho Sz Im kp t ca' G Gt := by
  obtain ⟨⟨w0, w1, w2, w3⟩, wp, wc, ws, wn, wk⟩ := H
  exact ⟨⟨(h1 0 (by decide) (by decide)).trans w0, (h1 1 (by decide) (by decide)).trans w1, (h1 2 (by decide) (by decide)).trans w2, (h2 10 (by decide) (by decide)).trans w3⟩, wp.fr (h1.sub (by decide) (by decide)), hc, ws.fr (h2.sub (by decide) (by decide)), wn.frN (h2.sub (by decide) (by decide)) ho, wk.frK (h2.sub (by decide) (by decide)) ho⟩
end ZCW
/-- what a refusal leaves -/
def rfH (h : z_H) (ad : Nat → Nat) (Rf : z_row) (k : Nat) : z_H := z_up h (ad 10) (c_I 5 (z_sf Rf k (Rf k + 1)))
theorem rfH_Z {ad : Nat → Nat} {h : z_H} {Rf : z_row} {k : Nat} : zfr ad h (rfH h ad Rf k) := zfr.up (by decide)
set_option maxHeartbeats 4000000 in
set_option maxRecDepth 100000 in
theorem D_X8_refuse {g : z_G} {h : z_H} {ad : Nat → Nat} {Rf Nw Th Tp Lk Ho Sz Im : z_row} {kp : Int} {t ca : Nat} {G Gt : Nat → z_G4} (hI : aJ ad) (hw : cW h ad Rf Nw Th Tp Lk Ho Sz Im kp t ca G Gt) {c : Nat} (hc : c < 5) : z_D g mX8_refuse 1 0 0 [z_r (ad 0), z_i (-92 - (c : Int))] h (z_Pi (-92 - (c : Int)) (rfH h ad Rf c)) := by
  refine z_D.of (by decide +kernel) (Nat.le_of_ble_eq_true rfl) (fun X F => ?_)
  obtain ⟨⟨w0, w1, w2, w3⟩, wp, wc, ws, wn, wkk⟩ := id hw
  show z_w g X cX8_refuse RX8 (1, 0, 0) 0 [z_r (ad 0), z_i (-92 - (c : Int)), z_u] [] h 0 0
  refine z_bipush dX8_refuse_0 rfl ?_
  refine z_iload_n dX8_refuse_2 rfl ?_
  refine z_isub dX8_refuse_3 ?_
  refine z_ieq (y := (c : Int)) (by omega) ?_
  refine z_istore_n dX8_refuse_4 (Nat.le_of_ble_eq_true rfl) rfl ?_
  refine z_iload_n dX8_refuse_5 rfl ?_
  refine z_if_lt dX8_refuse_6 (tgt := 28) rfl ⟨by omega, by omega⟩ (fun c1 => ?_) (fun c1 => ?_)
  · skip
    exfalso
    omega
  · skip
    refine z_iload_n dX8_refuse_9 rfl ?_
    refine z_aload_n dX8_refuse_10 rfl ?_
    refine gf_X8_43 dX8_refuse_11 w0 rfl ?_
    refine z_alenI dX8_refuse_14 w3 ?_
    refine z_icmp_ge dX8_refuse_15 (tgt := 28) rfl ⟨by omega, by omega⟩ ⟨by omega, by omega⟩ (fun c2 => ?_) (fun c2 => ?_)
    · skip
      exfalso
      omega
    · skip
      refine z_aload_n dX8_refuse_18 rfl ?_
      refine gf_X8_43 dX8_refuse_19 w0 rfl ?_
      refine z_iload_n dX8_refuse_22 rfl ?_
      refine z_dup2 dX8_refuse_23 rfl rfl ?_
      refine z_ialdN (m := c) dX8_refuse_24 w3 (by omega) ⟨by omega, by omega⟩ ?_
      refine z_iconst dX8_refuse_25 ?_
      refine z_iadd dX8_refuse_26 ?_
      refine z_iastN (m := c) dX8_refuse_27 w3 (by omega) ⟨by omega, by omega⟩ ?_
      refine z_iload_n dX8_refuse_28 rfl ?_
      exact z_iret F dX8_refuse_29 rfl (by decide) ⟨rfl, rfl⟩
theorem D_X8_ref0 {g : z_G} {h : z_H} {ad : Nat → Nat} {Rf Nw Th Tp Lk Ho Sz Im : z_row} {kp : Int} {t ca : Nat} {G Gt : Nat → z_G4} (hI : aJ ad) (hw : cW h ad Rf Nw Th Tp Lk Ho Sz Im kp t ca G Gt) : z_D g mX8_refuse 1 0 0 [z_r (ad 0), z_i (-92)] h (z_Pi (-92) (rfH h ad Rf 0)) := D_X8_refuse (c := 0) hI hw (by decide)
theorem D_X8_ref1 {g : z_G} {h : z_H} {ad : Nat → Nat} {Rf Nw Th Tp Lk Ho Sz Im : z_row} {kp : Int} {t ca : Nat} {G Gt : Nat → z_G4} (hI : aJ ad) (hw : cW h ad Rf Nw Th Tp Lk Ho Sz Im kp t ca G Gt) : z_D g mX8_refuse 1 0 0 [z_r (ad 0), z_i (-93)] h (z_Pi (-93) (rfH h ad Rf 1)) := D_X8_refuse (c := 1) hI hw (by decide)
theorem D_X8_ref2 {g : z_G} {h : z_H} {ad : Nat → Nat} {Rf Nw Th Tp Lk Ho Sz Im : z_row} {kp : Int} {t ca : Nat} {G Gt : Nat → z_G4} (hI : aJ ad) (hw : cW h ad Rf Nw Th Tp Lk Ho Sz Im kp t ca G Gt) : z_D g mX8_refuse 1 0 0 [z_r (ad 0), z_i (-94)] h (z_Pi (-94) (rfH h ad Rf 2)) := D_X8_refuse (c := 2) hI hw (by decide)
theorem D_X8_ref3 {g : z_G} {h : z_H} {ad : Nat → Nat} {Rf Nw Th Tp Lk Ho Sz Im : z_row} {kp : Int} {t ca : Nat} {G Gt : Nat → z_G4} (hI : aJ ad) (hw : cW h ad Rf Nw Th Tp Lk Ho Sz Im kp t ca G Gt) : z_D g mX8_refuse 1 0 0 [z_r (ad 0), z_i (-95)] h (z_Pi (-95) (rfH h ad Rf 3)) := D_X8_refuse (c := 3) hI hw (by decide)
theorem D_X8_ref4 {g : z_G} {h : z_H} {ad : Nat → Nat} {Rf Nw Th Tp Lk Ho Sz Im : z_row} {kp : Int} {t ca : Nat} {G Gt : Nat → z_G4} (hI : aJ ad) (hw : cW h ad Rf Nw Th Tp Lk Ho Sz Im kp t ca G Gt) : z_D g mX8_refuse 1 0 0 [z_r (ad 0), z_i (-96)] h (z_Pi (-96) (rfH h ad Rf 4)) := D_X8_refuse (c := 4) hI hw (by decide)
set_option maxHeartbeats 4000000 in
set_option maxRecDepth 100000 in
theorem D_X8_refuseLong {g : z_G} {h : z_H} {ad : Nat → Nat} {Rf Nw Th Tp Lk Ho Sz Im : z_row} {kp : Int} {t ca : Nat} {G Gt : Nat → z_G4} (hI : aJ ad) (hw : cW h ad Rf Nw Th Tp Lk Ho Sz Im kp t ca G Gt)  : z_D g mX8_refuseLong 2 0 0 [z_r (ad 0), z_i (-92)] h (z_Pl (-92 - 9000000000000000000) (rfH h ad Rf 0)) := by
  refine z_D.of (by decide +kernel) (Nat.le_of_ble_eq_true rfl) (fun X F => ?_)
  obtain ⟨⟨w0, w1, w2, w3⟩, wp, wc, ws, wn, wkk⟩ := id hw
  show z_w g X cX8_refuseLong RX8 (2, 0, 0) 0 [z_r (ad 0), z_i (-92)] [] h 0 0
  refine z_ldc2 dX8_refuseLong_0 lw_X8_302 ?_
  refine z_aload_n dX8_refuseLong_3 rfl ?_
  refine z_iload_n dX8_refuseLong_4 rfl ?_
  refine cs_X8_55 dX8_refuseLong_5 (D_X8_ref0 hI hw) w0 rfl rfl (Nat.le_of_ble_eq_true rfl) (by decide) (z_ki ?_)
  refine z_i2l dX8_refuseLong_8 (by decide) ?_
  refine z_ladd dX8_refuseLong_9 ?_
  refine z_leq (y := (-92 - 9000000000000000000)) (by decide) ?_
  exact z_lret F dX8_refuseLong_10 rfl (by decide) ⟨rfl, rfl⟩
set_option maxHeartbeats 4000000 in
set_option maxRecDepth 100000 in
theorem D_X8_refusalsOf {g : z_G} {h : z_H} {ad : Nat → Nat} {Rf Nw Th Tp Lk Ho Sz Im : z_row} {kp : Int} {t ca : Nat} {G Gt : Nat → z_G4} (hI : aJ ad) (hw : cW h ad Rf Nw Th Tp Lk Ho Sz Im kp t ca G Gt) {j : Int} (hj : z_in j) : z_D g mX8_refusalsOf 1 0 0 [z_r (ad 0), z_i j] h (z_Pi (if 0 ≤ j ∧ j < 5 then Rf j.toNat else -1) h) := by
  refine z_D.of (by decide +kernel) (Nat.le_of_ble_eq_true rfl) (fun X F => ?_)
  obtain ⟨⟨w0, w1, w2, w3⟩, wp, wc, ws, wn, wkk⟩ := id hw
  show z_w g X cX8_refusalsOf RX8 (1, 0, 0) 0 [z_r (ad 0), z_i j] [] h 0 0
  refine z_iload_n dX8_refusalsOf_0 rfl ?_
  refine z_if_lt dX8_refusalsOf_1 (tgt := 22) rfl ⟨by omega, by omega⟩ (fun c1 => ?_) (fun c1 => ?_)
  · skip
    refine z_iconst dX8_refusalsOf_22 ?_
    exact z_iret F dX8_refusalsOf_23 rfl (by decide) ⟨congrArg (fun z => some (z_i z)) (by first | exact (if_pos (by omega)).symm | exact (if_neg (by omega)).symm), rfl⟩
  · skip
    refine z_iload_n dX8_refusalsOf_4 rfl ?_
    refine z_aload_n dX8_refusalsOf_5 rfl ?_
    refine gf_X8_43 dX8_refusalsOf_6 w0 rfl ?_
    refine z_alenI dX8_refusalsOf_9 w3 ?_
    refine z_icmp_ge dX8_refusalsOf_10 (tgt := 22) rfl ⟨by omega, by omega⟩ ⟨by omega, by omega⟩ (fun c2 => ?_) (fun c2 => ?_)
    · skip
      refine z_iconst dX8_refusalsOf_22 ?_
      exact z_iret F dX8_refusalsOf_23 rfl (by decide) ⟨congrArg (fun z => some (z_i z)) (by first | exact (if_pos (by omega)).symm | exact (if_neg (by omega)).symm), rfl⟩
    · skip
      refine z_aload_n dX8_refusalsOf_13 rfl ?_
      refine gf_X8_43 dX8_refusalsOf_14 w0 rfl ?_
      refine z_iload_n dX8_refusalsOf_17 rfl ?_
      refine z_iald dX8_refusalsOf_18 w3 ⟨by omega, by omega, by omega⟩ ?_
      refine z_goto dX8_refusalsOf_19 (tgt := 23) rfl ?_
      exact z_iret F dX8_refusalsOf_23 rfl (by decide) ⟨congrArg (fun z => some (z_i z)) (by first | exact (if_pos (by omega)).symm | exact (if_neg (by omega)).symm), rfl⟩
set_option maxHeartbeats 4000000 in
set_option maxRecDepth 100000 in
theorem D_X8_shelfAt {g : z_G} {h : z_H} {ad : Nat → Nat} {Rf Nw Th Tp Lk Ho Sz Im : z_row} {kp : Int} {t ca : Nat} {G Gt : Nat → z_G4} (hI : aJ ad) (hw : cW h ad Rf Nw Th Tp Lk Ho Sz Im kp t ca G Gt) {j : Int} (hj : z_in j) : z_D g mX8_shelfAt 1 0 0 [z_r (ad 0), z_i j] h (z_Pq (if 0 ≤ j ∧ j ≤ 7 then some (ad (11 + 2 * j.toNat)) else none) h) := by
  refine z_D.of (by decide +kernel) (Nat.le_of_ble_eq_true rfl) (fun X F => ?_)
  obtain ⟨⟨w0, w1, w2, w3⟩, wp, wc, ws, wn, wkk⟩ := id hw
  show z_w g X cX8_shelfAt RX8 (1, 0, 0) 0 [z_r (ad 0), z_i j] [] h 0 0
  refine z_iload_n dX8_shelfAt_0 rfl ?_
  refine z_if_lt dX8_shelfAt_1 (tgt := 22) rfl ⟨by omega, by omega⟩ (fun c1 => ?_) (fun c1 => ?_)
  · skip
    refine z_null dX8_shelfAt_22 ?_
    exact z_aret F dX8_shelfAt_23 rfl (Or.inl ⟨_, rfl⟩) (by decide) ⟨congrArg (fun z => some (z_q z)) ((if_neg (by omega)).symm), rfl⟩
  · skip
    refine z_iload_n dX8_shelfAt_4 rfl ?_
    refine z_aload_n dX8_shelfAt_5 rfl ?_
    refine gf_X8_25 dX8_shelfAt_6 w0 rfl ?_
    refine z_alenA dX8_shelfAt_9 (by decide) w2 ?_
    refine z_icmp_ge dX8_shelfAt_10 (tgt := 22) rfl ⟨by omega, by omega⟩ ⟨by omega, by omega⟩ (fun c2 => ?_) (fun c2 => ?_)
    · skip
      refine z_null dX8_shelfAt_22 ?_
      exact z_aret F dX8_shelfAt_23 rfl (Or.inl ⟨_, rfl⟩) (by decide) ⟨congrArg (fun z => some (z_q z)) ((if_neg (by omega)).symm), rfl⟩
    · skip
      refine z_aload_n dX8_shelfAt_13 rfl ?_
      refine gf_X8_25 dX8_shelfAt_14 w0 rfl ?_
      refine z_iload_n dX8_shelfAt_17 rfl ?_
      refine z_aald dX8_shelfAt_18 (by decide) w2 ⟨by omega, by omega, by omega⟩ ?_
      refine z_goto dX8_shelfAt_19 (tgt := 23) rfl ?_
      exact z_aret F dX8_shelfAt_23 rfl (Or.inl ⟨_, rfl⟩) (by decide) ⟨congrArg (fun z => some (z_q z)) ((if_pos (show j.toNat < 8 by omega)).trans (if_pos ⟨by omega, by omega⟩).symm), rfl⟩
