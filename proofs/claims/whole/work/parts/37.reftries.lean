/-! texts that agree as far as they go -/
section ZT
variable {n : Nat} {t u : z_row} (hu : ∀ j, j < n → u j = t j)
theorem pe_tx (hu : ∀ j, j < n → u j = t j) (a : Nat) : pe n u a = pe n t a := by
  unfold pe
  split
  · next h => exact hu a h
  · rfl
theorem wE_tx (hu : ∀ j, j < n → u j = t j) : ∀ f a, wE n u f a = wE n t f a := by
  intro f
  induction f with
  | zero => intro a; rfl
  | succ f ih =>
    intro a
    unfold wE
    rw [pe_tx hu a, ih]
theorem wEnd_tx (hu : ∀ j, j < n → u j = t j) (a : Nat) : wEnd n u a = wEnd n t a := wE_tx hu _ _
theorem kO_tx (hu : ∀ j, j < n → u j = t j) (a : Nat) : kO u a (wEnd n t a) = kO t a (wEnd n t a) := by
  by_cases h : a < wEnd n t a
  · have key : ∀ j, a ≤ j → j < wEnd n t a → u j = t j := fun j h1 h2 => by
      have h3 := wE_let n t (n - a) a j h1 h2
      exact hu j (pe_lt (n := n) (t := t) (a := j) (by omega))
    unfold kO
    by_cases c1 : wEnd n t a = a + 1
    · rw [if_pos c1, if_pos c1, key a (Nat.le_refl _) h]
    · rw [if_neg c1, if_neg c1]
      by_cases c2 : wEnd n t a = a + 2
      · rw [if_pos c2, if_pos c2, key a (Nat.le_refl _) h, key (a + 1) (by omega) (by omega)]
      · rw [if_neg c2, if_neg c2]
  · have h1 : a ≤ wEnd n t a := wE_le n t (n - a) a
    rw [kO_n (by omega) (by omega), kO_n (by omega) (by omega)]
theorem nC_tx (hu : ∀ j, j < n → u j = t j) (a : Nat) : nC n u a = nC n t a := by
  unfold nC
  rw [pe_tx hu, pe_tx hu]
theorem nV_tx (hu : ∀ j, j < n → u j = t j) (a : Nat) : nV n u a = nV n t a := by
  unfold nV
  rw [pe_tx hu, pe_tx hu]
theorem nOk_tx (hu : ∀ j, j < n → u j = t j) (lo : Int) (a : Nat) : nOk n u lo a = nOk n t lo a := by
  unfold nOk
  rw [nC_tx hu, nV_tx hu]
theorem rdW_tx (hu : ∀ j, j < n → u j = t j) (w : Nat) (s : rdT) : rdW n u w s = rdW n t w s := by
  unfold rdW
  rw [wEnd_tx hu, kO_tx hu, pe_tx hu, nC_tx hu, nOk_tx hu]
theorem rdG_tx (hu : ∀ j, j < n → u j = t j) {rec rec' : Nat → rdT → Bool × rdT} (hr : ∀ w s, rec w s = rec' w s) (w : Nat) (cl lo : Int) (s : rdT) : rdG n u rec w cl lo s = rdG n t rec' w cl lo s := by
  obtain rfl : rec = rec' := by funext w s; exact hr w s
  unfold rdG
  dsimp only
  rw [pe_tx hu, nOk_tx hu, nC_tx hu]
theorem rdS_tx (hu : ∀ j, j < n → u j = t j) : ∀ f w s, rdS n u f w s = rdS n t f w s := by
  intro f
  induction f with
  | zero => intro w s; rfl
  | succ f ih =>
    intro w s
    have hO : ∀ w s, rdO n u (rdS n u f) w s = rdO n t (rdS n t f) w s := fun w s => by
      unfold rdO
      simp only [pe_tx hu, rdG_tx hu ih, rdW_tx hu]
    show rdN n u (rdS n u f) w (rdO n u (rdS n u f) w s) = rdN n t (rdS n t f) w (rdO n t (rdS n t f) w s)
    rw [hO]
    unfold rdN
    simp only [pe_tx hu, ih]
theorem oneP_tx (hu : ∀ j, j < n → u j = t j) {fs fp fn fe : z_row} {sg sg' : sgT} (hs : ∀ p q s e, sg p q s e → sg' p q s e) {p q s e : Nat} (h : oneP n t fs fp fn fe sg p q s e) : oneP n u fs fp fn fe sg' p q s e := by
  obtain ⟨h1, h2, ⟨h3, h4⟩ | ⟨h4, c, h5, h6, h7, h8, h9⟩⟩ := h
  · refine ⟨h1, h2, Or.inl ⟨h3, ?_⟩⟩
    unfold oneW at h4 ⊢
    rw [wEnd_tx hu, kO_tx hu, pe_tx hu, nC_tx hu, nOk_tx hu, nV_tx hu]
    exact h4
  · exact ⟨h1, h2, Or.inr ⟨by rw [pe_tx hu]; exact h4, c, hs _ _ _ _ h5, by rw [pe_tx hu]; exact h6, by rw [nOk_tx hu]; exact h7, by rw [nC_tx hu]; exact h8, by rw [nV_tx hu]; exact h9⟩⟩
theorem seqP_tx (hu : ∀ j, j < n → u j = t j) {one one' : sgT} (hs : ∀ p q s e, one p q s e → one' p q s e) : ∀ f p q s e, seqP n t one f p q s e → seqP n u one' f p q s e := by
  intro f
  induction f with
  | zero => intro p q s e h; exact h.elim
  | succ f ih =>
    intro p q s e h
    rcases h with ⟨h, h0⟩ | ⟨p', e', h1, h2, h3⟩
    · exact Or.inl ⟨hs _ _ _ _ h, by rw [pe_tx hu]; exact h0⟩
    · exact Or.inr ⟨p', e', hs _ _ _ _ h1, by rw [pe_tx hu]; exact h2, ih _ _ _ _ h3⟩
theorem sgP_tx (hu : ∀ j, j < n → u j = t j) {fs fp fn fe : z_row} : ∀ d p q s e, sgP n t fs fp fn fe d p q s e → sgP n u fs fp fn fe d p q s e := by
  intro d
  induction d with
  | zero => intro p q s e h; exact h.elim
  | succ d ih =>
    intro p q s e h
    exact seqP_tx hu (fun _ _ _ _ h => oneP_tx hu ih h) _ _ _ _ _ h
end ZT
/-! workings that agree in all that is told -/
def wkV (w : Nat) (q q' : wkT) : Prop := 0 ≤ k_z q ∧ k_z q' = k_z q ∧ k_l q' = k_l q ∧ k_m q' = k_m q ∧ k_h q' = k_h q ∧ (∀ j : Nat, (j : Int) < k_z q → k_f q' j = k_f q j) ∧
  (k_h q = 0 → ∀ j, j < w → k_p q' j = k_p q j ∧ k_t q' j = k_t q j) ∧ (k_h q ≠ 0 → k_a q' = k_a q ∧ k_w q' = k_w q ∧ ∀ j : Nat, (j : Int) < k_w q → k_p q' j = k_p q j ∧ k_t q' j = k_t q j)
theorem wkV.dn {w : Nat} {q q' : wkT} (h : wkV (w + 1) q q') : wkV w q q' := by
  obtain ⟨h1, h2, h3, h4, h5, h6, h7, h8⟩ := h
  exact ⟨h1, h2, h3, h4, h5, h6, fun h0 j hj => h7 h0 j (by omega), h8⟩
theorem wkV.H {w : Nat} {q q' : wkT} (h : wkV w q q') (kd : Int) : wkH kd q' = wkH kd q := by
  obtain ⟨h1, h2, h3, h4, h5, -⟩ := h
  unfold wkH
  rw [h2, h3, h4]
theorem wkV.S {w : Nat} {q q' : wkT} (h : wkV w q q') (h0 : k_h q = 0) {x a : Int} (hx : x ≠ 0) : wkV w (wkS x a w q) (wkS x a w q') := by
  obtain ⟨h1, h2, h3, h4, h5, h6, h7, h8⟩ := h
  exact ⟨h1, h2, h3, h4, rfl, h6, fun hc => absurd hc hx, fun _ => ⟨rfl, rfl, fun j hj => h7 h0 j (by have hj : (j : Int) < (w : Int) := hj; omega)⟩⟩
theorem wkV.one {w : Nat} {q q' : wkT} (h : wkV w q q') (kd : Int) : wkV w (wk1 kd q) (wk1 kd q') := by
  obtain ⟨h1, h2, h3, h4, h5, h6, h7, h8⟩ := h
  refine ⟨by show 0 ≤ k_z q + 1; omega, by show k_z q' + 1 = k_z q + 1; rw [h2], by show k_l q' - kT kd = k_l q - kT kd; rw [h3], by show k_m q' + kM kd = k_m q + kM kd; rw [h4], h5, fun j hj => ?_, h7, h8⟩
  have hj : (j : Int) < k_z q + 1 := hj
  show z_sf (k_f q') (k_z q').toNat kd j = z_sf (k_f q) (k_z q).toNat kd j
  rw [h2]
  by_cases e : j = (k_z q).toNat
  · rw [e, z_sf_s, z_sf_s]
  · rw [z_sf_n e, z_sf_n e]
    exact h6 j (by omega)
theorem wkV.W {w : Nat} (kd a : Int) : ∀ m (q q' : wkT), wkV w q q' → k_h q = 0 → wkV w (wkW kd a w m q) (wkW kd a w m q') := by
  intro m
  induction m with
  | zero => intro q q' h _; exact h
  | succ m ih =>
    intro q q' h h0
    unfold wkW
    rw [h.H kd]
    split
    · exact ih _ _ (h.one kd) h0
    · next c => exact h.S h0 c
theorem wkV.E {w : Nat} {q q' : wkT} (h : wkV w q q') (h0 : k_h q = 0) (a tm : Int) : wkV (w + 1) (wkE a tm w q) (wkE a tm w q') := by
  obtain ⟨h1, h2, h3, h4, h5, h6, h7, h8⟩ := h
  refine ⟨h1, h2, h3, h4, h5, h6, fun _ j hj => ?_, fun hc => absurd h0 hc⟩
  show z_sf (k_p q') w a j = z_sf (k_p q) w a j ∧ z_sf (k_t q') w tm j = z_sf (k_t q) w tm j
  by_cases e : j = w
  · rw [e, z_sf_s, z_sf_s, z_sf_s, z_sf_s]
    exact ⟨rfl, rfl⟩
  · rw [z_sf_n e, z_sf_n e, z_sf_n e, z_sf_n e]
    exact h7 h0 j (by omega)
def wkB (w : Nat) (body : wkT → wkT) : Prop := ∀ q q', wkV w q q' → k_h q = 0 → wkV w (body q) (body q')
theorem wkV.M {w : Nat} {body : wkT → wkT} (hb : wkB (w + 1) body) (a : Int) : ∀ m tm (q q' : wkT), wkV w q q' → k_h q = 0 → wkV w (wkM body a w m tm q) (wkM body a w m tm q') := by
  intro m
  induction m with
  | zero => intro tm q q' h _; exact h
  | succ m ih =>
    intro tm q q' h h0
    have hB := hb _ _ (h.E h0 a tm) h0
    unfold wkM
    rw [hB.2.2.2.2.1, hB.2.1, h.2.1]
    split
    · exact hB.dn
    · next c => exact ih _ _ _ hB.dn (Classical.not_not.mp (fun q => c (Or.inl q)))
theorem wkV.L {w : Nat} {body : wkT → wkT} (hb : wkB (w + 1) body) (b a : Int) : ∀ m tm (q q' : wkT), wkV w q q' → k_h q = 0 → wkV w (wkL body b a w m tm q) (wkL body b a w m tm q') := by
  intro m
  induction m with
  | zero =>
    intro tm q q' h h0
    unfold wkL
    rw [h.2.2.1]
    split
    · exact h.S h0 (by decide)
    · exact h
  | succ m ih =>
    intro tm q q' h h0
    have hB := hb _ _ (h.E h0 a tm) h0
    unfold wkL
    rw [hB.2.2.2.2.1, hB.2.2.1, h.2.2.1]
    split
    · split
      · exact hB.dn
      · next c =>
        have c0 : k_h (body (wkE a tm w q)) = 0 := Classical.not_not.mp c
        split
        · exact hB.dn.S c0 (by decide)
        · exact ih _ _ _ hB.dn c0
    · split
      · exact h.S h0 (by decide)
      · exact h
theorem wkV.Q {w : Nat} {fe : z_row} {part : Nat → wkT → wkT} (hp : ∀ p, wkB w (part p)) : ∀ m p e (q q' : wkT), wkV w q q' → wkV w (wkQ fe part m p e q) (wkQ fe part m p e q') := by
  intro m
  induction m with
  | zero => intro p e q q' h; exact h
  | succ m ih =>
    intro p e q q' h
    unfold wkQ
    rw [h.2.2.2.2.1]
    split
    · next c => exact ih _ _ _ _ (hp p _ _ h c.2)
    · exact h
theorem wkV.D {fs fp fn fe : z_row} : ∀ d w p e (q q' : wkT), wkV w q q' → wkV w (wkD fs fp fn fe d w p e q) (wkD fs fp fn fe d w p e q') := by
  intro d
  induction d with
  | zero => intro w p e q q' h; exact h
  | succ d ih =>
    intro w p e q q' h
    refine wkV.Q (fun p => ?_) _ _ _ _ _ h
    intro q q' h h0
    have hb : wkB (w + 1) (wkD fs fp fn fe d (w + 1) (p + 1) (fe p).toNat) := fun q q' h _ => ih _ _ _ _ _ h
    unfold wkP
    split
    · exact wkV.M hb _ _ _ _ _ h h0
    · split
      · exact wkV.L hb _ _ _ _ _ _ h h0
      · exact wkV.W _ _ _ _ _ h h0
theorem wkV.A {fs fp fn fe : z_row} {n P : Nat} {q q' : wkT} (h : wkV 0 q q') : wkV 0 (wkA n fs fp fn fe P q) (wkA n fs fp fn fe P q') := by
  have hD := wkV.D (fs := fs) (fp := fp) (fn := fn) (fe := fe) 6 0 0 P q q' h
  unfold wkA
  rw [hD.2.2.2.2.1, hD.2.2.1]
  split
  · next c => exact hD.S c.1 (by decide)
  · exact hD
/-- a row worked with so many on the needle -/
abbrev z_G4 : Type := z_row × z_row × z_row × z_row × Nat
def wkR (n : Nat) (G : z_G4) (y : Int) : wkT := wkA n G.1 G.2.1 G.2.2.1 G.2.2.2.1 G.2.2.2.2 (fun _ => 0, fun _ => 0, fun _ => 0, 0, y, 0, 0, 0, 0)
theorem wkR_V {n : Nat} {G : z_G4} {y : Int} {f fp ft : z_row} {a : Int} : wkV 0 (wkR n G y) (wkA n G.1 G.2.1 G.2.2.1 G.2.2.2.1 G.2.2.2.2 (f, fp, ft, 0, y, 0, 0, a, 0)) :=
  wkV.A ⟨by show (0 : Int) ≤ 0; omega, rfl, rfl, rfl, rfl, fun j hj => by have hj : (j : Int) < 0 := hj; omega, fun _ j hj => by omega, fun h => absurd rfl h⟩
/-- what an entry of rows is: the parts' rows say the text -/
def sgG (n : Nat) (t : z_row) (G : z_G4) : Prop := sgP n t G.1 G.2.1 G.2.2.1 G.2.2.2.1 6 0 G.2.2.2.2 0 n
theorem wkI_O {f fp ft : z_row} {y a : Int} (hy : 0 ≤ y ∧ y ≤ 60) (ha : 0 ≤ a ∧ a ≤ 250) : wkO (f, fp, ft, 0, y, 0, 0, a, 0) := ⟨by show (0 : Int) ≤ 0 ∧ (0 : Int) ≤ 200; omega, hy, by show (0 : Int) ≤ 0 ∧ (0 : Int) ≤ 60; omega, by show (0 : Int) ≤ 0 ∧ (0 : Int) ≤ 7; omega, ha, by show (0 : Int) ≤ 0 ∧ (0 : Int) ≤ 5; omega, fun j hj => by have hj : (j : Int) < 0 := hj; omega⟩
theorem wkR_O {n : Nat} {t : z_row} {G : z_G4} {y : Int} (hn : n ≤ 250) (hG : sgG n t G) (hy : 0 ≤ y ∧ y ≤ 60) : wkO (wkR n G y) := wkA_O hn hG (wkI_O hy (by omega))
/-! the reference: a text is taken, all is read, a row is tried -/
def cpT (N : z_row) (b m : Nat) (f : z_row) : z_row := fun k => if k < m then N (b + k) else f k
theorem cpT_in {N : z_row} {b m : Nat} {f : z_row} {k : Nat} (h : k < m) : cpT N b m f k = N (b + k) := if_pos h
theorem cpT_0 {N : z_row} {b : Nat} {f : z_row} : cpT N b 0 f = f := by
  funext k
  exact if_neg (Nat.not_lt_zero _)
theorem cpT_s {N : z_row} {b m : Nat} {f : z_row} {j : Nat} {x : Int} (hj : j = m) (hx : x = N (b + m)) : z_sf (cpT N b m f) j x = cpT N b (m + 1) f := by
  funext k
  subst hj hx
  show (if k = j then N (b + j) else (if k < j then N (b + k) else f k)) = (if k < j + 1 then N (b + k) else f k)
  by_cases h : k = j
  · rw [if_pos h, if_pos (by omega), h]
  · rw [if_neg h]
    by_cases h2 : k < j
    · rw [if_pos h2, if_pos (by omega)]
    · rw [if_neg h2, if_neg (by omega)]
set_option maxHeartbeats 4000000 in
set_option maxRecDepth 100000 in
theorem D_X9_takesText {g : z_G} {h0 : z_H} {A : Nat → Nat} (hM : mD A) {Rf Nw Th Tp Tx Kd Ia It Lk Ho Sz Im Mv : Nat → Int} {kp ln sz at_ we pa de ti lf md mn hi0 ha is_ ca : Int} {n i : Nat} (hn : n ≤ 250) (hi : i < 20) (hN : Nw (251 * i) = (n : Int)) : z_D g mX9_takesText 1 0 0 [z_r (A 0), z_i (i : Int)] (MH h0 A Rf Nw Th Tp Tx Kd Ia It Lk Ho Sz Im Mv kp ln sz at_ we pa de ti lf md mn hi0 ha is_ ca) (z_Pv (MH h0 A Rf Nw Th Tp (cpT Nw (251 * i + 1) n Tx) Kd Ia It Lk Ho Sz Im Mv kp ln (n : Int) at_ we pa de ti lf md mn hi0 ha is_ ca)) := by
  refine z_D.of (by decide +kernel) (Nat.le_of_ble_eq_true rfl) (fun X F => ?_)
  show z_w g X cX9_takesText RX9 (1, 0, 0) 0 [z_r (A 0), z_i (i : Int), z_u] [] (MH h0 A Rf Nw Th Tp Tx Kd Ia It Lk Ho Sz Im Mv kp ln sz at_ we pa de ti lf md mn hi0 ha is_ ca) 0 0
  refine z_aload_n dX9_takesText_0 rfl ?_
  refine z_aload_n dX9_takesText_1 rfl ?_
  refine gf_X9_13 dX9_takesText_2 MH_0 rfl ?_
  refine z_sipush dX9_takesText_5 rfl ?_
  refine z_iload_n dX9_takesText_8 rfl ?_
  refine z_imul dX9_takesText_9 ?_
  refine z_iald dX9_takesText_10 (MH_2 hM) ⟨by omega, by omega, by omega⟩ ?_
  refine z_ieq (y := (n : Int)) ((congrArg Nw (by omega)).trans hN) ?_
  refine pf_X9_70 dX9_takesText_11 MH_0 (Nat.le_of_ble_eq_true rfl) ?_
  refine z_heq MHu_0 ?_
  refine z_iconst dX9_takesText_14 ?_
  refine z_istore_n dX9_takesText_15 (Nat.le_of_ble_eq_true rfl) rfl ?_
  refine z_heq (h' := (MH h0 A Rf Nw Th Tp (cpT Nw (251 * i + 1) 0 Tx) Kd Ia It Lk Ho Sz Im Mv kp ln (n : Int) at_ we pa de ti lf md mn hi0 ha is_ ca)) (by rw [cpT_0]) ?_
  have L4 : ∀ (fu : Nat) (r : Nat) (q1 : r ≤ n), n - r < fu → z_w g X cX9_takesText RX9 (1, 0, 0) 16 [z_r (A 0), z_i (i : Int), z_i (r : Int)] [] (MH h0 A Rf Nw Th Tp (cpT Nw (251 * i + 1) r Tx) Kd Ia It Lk Ho Sz Im Mv kp ln (n : Int) at_ we pa de ti lf md mn hi0 ha is_ ca) 0 0 := by
    intro fu
    induction fu with
    | zero => intro r q1 hm; exact absurd hm (Nat.not_lt_zero _)
    | succ fu ih =>
      intro r q1 hm
      refine z_iload_n dX9_takesText_16 rfl ?_
      refine z_aload_n dX9_takesText_17 rfl ?_
      refine gf_X9_70 dX9_takesText_18 MH_0 rfl ?_
      refine z_icmp_ge dX9_takesText_21 (tgt := 50) rfl ⟨by omega, by omega⟩ ⟨by omega, by omega⟩ (fun c1 => ?_) (fun c1 => ?_)
      · skip
        obtain rfl : r = n := by omega
        exact z_vret F dX9_takesText_50 rfl (by decide) ⟨rfl, rfl⟩
      · skip
        refine z_aload_n dX9_takesText_24 rfl ?_
        refine gf_X9_22 dX9_takesText_25 MH_0 rfl ?_
        refine z_iload_n dX9_takesText_28 rfl ?_
        refine z_aload_n dX9_takesText_29 rfl ?_
        refine gf_X9_13 dX9_takesText_30 MH_0 rfl ?_
        refine z_sipush dX9_takesText_33 rfl ?_
        refine z_iload_n dX9_takesText_36 rfl ?_
        refine z_imul dX9_takesText_37 ?_
        refine z_iconst dX9_takesText_38 ?_
        refine z_iadd dX9_takesText_39 ?_
        refine z_iload_n dX9_takesText_40 rfl ?_
        refine z_iadd dX9_takesText_41 ?_
        refine z_iald dX9_takesText_42 (MH_2 hM) ⟨by omega, by omega, by omega⟩ ?_
        refine z_iast dX9_takesText_43 (MH_5 hM) ⟨by omega, by omega, by omega⟩ ?_
        refine z_heq (MHu_5 hM) ?_
        refine z_heq (h' := (MH h0 A Rf Nw Th Tp (cpT Nw (251 * i + 1) (r + 1) Tx) Kd Ia It Lk Ho Sz Im Mv kp ln (n : Int) at_ we pa de ti lf md mn hi0 ha is_ ca)) (by rw [cpT_s (by omega) (congrArg Nw (by omega))]) ?_
        refine z_iinc dX9_takesText_44 rfl rfl ?_
        refine z_goto dX9_takesText_47 (tgt := 16) rfl ?_
        exact ih (r + 1) (by omega) (by omega)
  exact L4 (n + 1) 0 (Nat.zero_le _) (by omega)
set_option maxHeartbeats 4000000 in
set_option maxRecDepth 100000 in
theorem D_X9_readsAll {g : z_G} {h0 : z_H} {A : Nat → Nat} (hM : mD A) {Rf Nw Th Tp Tx Kd Ia It Lk Ho Sz Im Mv : Nat → Int} {kp ln at_ we pa de ti lf md mn hi ha is_ ca : Int} {n : Nat} (hn : n ≤ 250) (ht : ∀ q, q < n → 0 ≤ Tx q ∧ Tx q ≤ 255) : z_D g mX9_readsAll 12 0 0 [z_r (A 0)] (MH h0 A Rf Nw Th Tp Tx Kd Ia It Lk Ho Sz Im Mv kp ln (n : Int) at_ we pa de ti lf md mn hi ha is_ ca) (rdP h0 A Rf Nw Th Tp Tx Kd Ia It Lk Ho Sz Im Mv n kp ln lf md mn hi ha is_ ca 0 (rdS n Tx (n + 1) 0 (0, 0, 0, 0))) := by
  refine z_D.of (by decide +kernel) (Nat.le_of_ble_eq_true rfl) (fun X F => ?_)
  show z_w g X cX9_readsAll RX9 (12, 0, 0) 0 [z_r (A 0)] [] (MH h0 A Rf Nw Th Tp Tx Kd Ia It Lk Ho Sz Im Mv kp ln (n : Int) at_ we pa de ti lf md mn hi ha is_ ca) 0 0
  refine z_aload_n dX9_readsAll_0 rfl ?_
  refine z_iconst dX9_readsAll_1 ?_
  refine pf_X9_67 dX9_readsAll_2 MH_0 (Nat.le_of_ble_eq_true rfl) ?_
  refine z_heq MHu_0 ?_
  refine z_aload_n dX9_readsAll_5 rfl ?_
  refine z_iconst dX9_readsAll_6 ?_
  refine pf_X9_85 (by omega) dX9_readsAll_7 MH_0 (Nat.le_of_ble_eq_true rfl) ?_
  refine z_heq MHu_0 ?_
  refine z_aload_n dX9_readsAll_10 rfl ?_
  refine z_iconst dX9_readsAll_11 ?_
  refine pf_X9_97 dX9_readsAll_12 MH_0 (Nat.le_of_ble_eq_true rfl) ?_
  refine z_heq MHu_0 ?_
  refine z_aload_n dX9_readsAll_15 rfl ?_
  refine z_iconst dX9_readsAll_16 ?_
  refine pf_X9_100 dX9_readsAll_17 MH_0 (Nat.le_of_ble_eq_true rfl) ?_
  refine z_heq MHu_0 ?_
  refine z_aload_n dX9_readsAll_20 rfl ?_
  refine z_iconst dX9_readsAll_21 ?_
  refine pf_X9_108 (by omega) dX9_readsAll_22 MH_0 (Nat.le_of_ble_eq_true rfl) ?_
  refine z_heq MHu_0 ?_
  refine z_aload_n dX9_readsAll_25 rfl ?_
  refine z_iconst dX9_readsAll_26 ?_
  refine cs_X9_111 dX9_readsAll_27 (RR_all hM hn ht (n + 1) 0 0 0 0 0 (by omega) (by omega) (by omega) (Or.inl rfl) (by omega)) MH_0 rfl rfl (Nat.le_of_ble_eq_true rfl) (by decide) (fun rv h' hq => ?_)
  have hrv := hq.1
  subst hrv
  show z_w _ _ _ _ _ _ _ [] _ _ _
  exact z_vret F dX9_readsAll_30 rfl (by decide) hq
set_option maxHeartbeats 4000000 in
set_option maxRecDepth 100000 in
theorem D_X9_tries {g : z_G} {h0 : z_H} {A : Nat → Nat} (hM : mD A) {Rf Nw Th Tp Tx Kd Ia It Lk Ho Sz Im Mv : Nat → Int} {kp ln sz at_ we pa de ti lf md mn hi0 ha is_ ca : Int} {n i : Nat} {G : z_G4} (hn : n ≤ 250) (hi : i < 20) (hN : Nw (251 * i) = (n : Int)) (hT : ∀ k, k < n → 0 ≤ Nw (251 * i + 1 + k) ∧ Nw (251 * i + 1 + k) ≤ 255) (hG : sgG n (fun k => Nw (251 * i + 1 + k)) G) {y : Int} (hy : 0 ≤ y ∧ y ≤ 60) (hha : 0 ≤ ha ∧ ha ≤ 250) : z_D g mX9_tries 24 0 0 [z_r (A 0), z_i (i : Int), z_i y] (MH h0 A Rf Nw Th Tp Tx Kd Ia It Lk Ho Sz Im Mv kp ln sz at_ we pa de ti lf md mn hi0 ha is_ ca) (fun rv h' => rv = none ∧ ∃ at' : Int, h' = (MW h0 A Rf Nw Th Tp (cpT Nw (251 * i + 1) n Tx) Lk Ho Sz Im Mv kp ln (n : Int) at' 1 pa de ti ca (wkA n G.1 G.2.1 G.2.2.1 G.2.2.2.1 G.2.2.2.2 (Kd, Ia, It, 0, y, 0, 0, ha, 0)))) := by
  refine z_D.of (by decide +kernel) (Nat.le_of_ble_eq_true rfl) (fun X F => ?_)
  have ht : ∀ q, q < n → 0 ≤ (cpT Nw (251 * i + 1) n Tx) q ∧ (cpT Nw (251 * i + 1) n Tx) q ≤ 255 := fun q hq => by rw [cpT_in hq]; exact hT q hq
  have hsg : sgP n (cpT Nw (251 * i + 1) n Tx) G.1 G.2.1 G.2.2.1 G.2.2.2.1 6 0 G.2.2.2.2 0 n := sgP_tx (fun j hj => cpT_in hj) _ _ _ _ _ hG
  have hO0 : wkO (Kd, Ia, It, 0, y, 0, 0, ha, 0) := wkI_O hy hha
  show z_w g X cX9_tries RX9 (24, 0, 0) 0 [z_r (A 0), z_i (i : Int), z_i y] [] (MH h0 A Rf Nw Th Tp Tx Kd Ia It Lk Ho Sz Im Mv kp ln sz at_ we pa de ti lf md mn hi0 ha is_ ca) 0 0
  refine z_aload_n dX9_tries_0 rfl ?_
  refine z_iload_n dX9_tries_1 rfl ?_
  refine cs_X9_129 dX9_tries_2 (D_X9_takesText hM hn hi hN) MH_0 rfl rfl (Nat.le_of_ble_eq_true rfl) (by decide) (z_kv ?_)
  refine z_aload_n dX9_tries_5 rfl ?_
  refine z_iconst dX9_tries_6 ?_
  refine pf_X9_85 (by omega) dX9_tries_7 MH_0 (Nat.le_of_ble_eq_true rfl) ?_
  refine z_heq MHu_0 ?_
  refine z_aload_n dX9_tries_10 rfl ?_
  refine z_iconst dX9_tries_11 ?_
  refine pf_X9_67 dX9_tries_12 MH_0 (Nat.le_of_ble_eq_true rfl) ?_
  refine z_heq MHu_0 ?_
  refine z_aload_n dX9_tries_15 rfl ?_
  refine z_iload_n dX9_tries_16 rfl ?_
  refine pf_X9_144 dX9_tries_17 MH_0 (Nat.le_of_ble_eq_true rfl) ?_
  refine z_heq MHu_0 ?_
  refine z_aload_n dX9_tries_20 rfl ?_
  refine z_iconst dX9_tries_21 ?_
  refine pf_X9_151 dX9_tries_22 MH_0 (Nat.le_of_ble_eq_true rfl) ?_
  refine z_heq MHu_0 ?_
  refine z_aload_n dX9_tries_25 rfl ?_
  refine z_iconst dX9_tries_26 ?_
  refine pf_X9_157 dX9_tries_27 MH_0 (Nat.le_of_ble_eq_true rfl) ?_
  refine z_heq MHu_0 ?_
  refine z_aload_n dX9_tries_30 rfl ?_
  refine z_iconst dX9_tries_31 ?_
  refine pf_X9_132 dX9_tries_32 MH_0 (Nat.le_of_ble_eq_true rfl) ?_
  refine z_heq MHu_0 ?_
  refine z_aload_n dX9_tries_35 rfl ?_
  refine z_iconst dX9_tries_36 ?_
  refine pf_X9_138 dX9_tries_37 MH_0 (Nat.le_of_ble_eq_true rfl) ?_
  refine z_heq MHu_0 ?_
  refine z_aload_n dX9_tries_40 rfl ?_
  refine z_iconst dX9_tries_41 ?_
  refine cs_X9_160 dX9_tries_42 (WW_all hM hn ht 6 0 0 G.2.2.2.2 0 n (Kd, Ia, It, 0, y, 0, 0, ha, 0) (by decide) hsg (Nat.le_refl _) hO0 rfl) MH_0 rfl rfl (Nat.le_of_ble_eq_true rfl) (by decide) (fun rv h' hq => ?_)
  obtain ⟨rfl, at3, ha3, -, rfl⟩ := hq
  obtain ⟨B, hB⟩ : ∃ B, B = wkD G.1 G.2.1 G.2.2.1 G.2.2.2.1 6 0 0 G.2.2.2.2 (Kd, Ia, It, 0, y, 0, 0, ha, 0) := ⟨_, rfl⟩
  have hBO : wkO B := by rw [hB]; exact wkD_O hn 6 0 0 _ 0 n (by decide) hsg _ hO0
  have hA : (wkA n G.1 G.2.1 G.2.2.1 G.2.2.2.1 G.2.2.2.2 (Kd, Ia, It, 0, y, 0, 0, ha, 0)) = if k_h B = 0 ∧ k_l B > 0 then wkS 6 n 0 B else B := by rw [hB]; rfl
  refine z_heq (h' := (MW h0 A Rf Nw Th Tp (cpT Nw (251 * i + 1) n Tx) Lk Ho Sz Im Mv kp ln (n : Int) (at3 : Int) 1 pa de ti ca B)) (congrArg _ hB.symm) ?_
  obtain ⟨f3, fp3, ft3, z3, l3, m3, hi3, pl3, wi3⟩ := B
  have hi3b : 0 ≤ hi3 ∧ hi3 ≤ 7 := hBO.2.2.2.1
  have hl3b : 0 ≤ l3 ∧ l3 ≤ 60 := hBO.2.1
  show z_w _ _ _ _ _ _ _ [] (MH h0 A Rf Nw Th Tp (cpT Nw (251 * i + 1) n Tx) f3 fp3 ft3 Lk Ho Sz Im Mv kp ln (n : Int) (at3 : Int) 1 pa de ti l3 m3 z3 hi3 pl3 wi3 ca) _ _
  refine z_aload_n dX9_tries_45 rfl ?_
  refine gf_X9_132 dX9_tries_46 MH_0 rfl ?_
  refine z_if_ne dX9_tries_49 (tgt := 70) rfl ⟨by omega, by omega⟩ (fun c1 => ?_) (fun c1 => ?_)
  · skip
    have y8 : ¬ (hi3 = 0 ∧ l3 > 0) := by omega
    exact z_vret F dX9_tries_70 rfl (by decide) ⟨rfl, at3, by rw [hA.trans (if_neg y8)] <;> rfl⟩
  · skip
    refine z_aload_n dX9_tries_52 rfl ?_
    refine gf_X9_144 dX9_tries_53 MH_0 rfl ?_
    refine z_if_le dX9_tries_56 (tgt := 70) rfl ⟨by omega, by omega⟩ (fun c2 => ?_) (fun c2 => ?_)
    · skip
      have y8 : ¬ (hi3 = 0 ∧ l3 > 0) := by omega
      exact z_vret F dX9_tries_70 rfl (by decide) ⟨rfl, at3, by rw [hA.trans (if_neg y8)] <;> rfl⟩
    · skip
      have y8 : hi3 = 0 ∧ l3 > 0 := by omega
      refine z_aload_n dX9_tries_59 rfl ?_
      refine z_bipush dX9_tries_60 rfl ?_
      refine z_aload_n dX9_tries_62 rfl ?_
      refine gf_X9_70 dX9_tries_63 MH_0 rfl ?_
      refine z_iconst dX9_tries_66 ?_
      refine cs_X9_147 dX9_tries_67 (D_X9_hits hM) MH_0 rfl rfl (Nat.le_of_ble_eq_true rfl) (by decide) (z_kv ?_)
      exact z_vret F dX9_tries_70 rfl (by decide) ⟨rfl, at3, by rw [hA.trans (if_pos y8)] <;> rfl⟩
