/-! Pass: what a working keeps -/
theorem oneP_s {n : Nat} {t fs fp fn fe : z_row} {sg : sgT} {p q s e : Nat} (h : oneP n t fs fp fn fe sg p q s e) : s < n := by
  obtain ⟨-, -, ⟨-, h4, h5, -⟩ | ⟨h4, -⟩⟩ := h
  · have hk : s < wEnd n t s := kO_lt (t := t) (by rw [h5]; exact h4)
    have := wE_let n t (n - s) s s (Nat.le_refl _) hk
    exact pe_lt (n := n) (t := t) (a := s) (by omega)
  · exact pe_lt (n := n) (t := t) (a := s) (by omega)
/-- what a part's rows are: a word, or a group -/
theorem oneP_c {n : Nat} {t fs fp fn fe : z_row} {sg : sgT} {p q s e : Nat} (hn : n ≤ 250) (h : oneP n t fs fp fn fe sg p q s e) : (0 ≤ fp p ∧ fp p ≤ 250) ∧ (0 ≤ fn p ∧ fn p ≤ 60) ∧ fe p = (q : Int) ∧ ((kOk (fs p) ∧ q = p + 1) ∨ ((fs p = 1 ∨ fs p = 2) ∧ ∃ s' e', sg (p + 1) q s' e')) := by
  have hs := oneP_s h
  obtain ⟨h1, h2, ⟨h3, h4, h5, h6⟩ | ⟨h4, c, h5, h6, h7, h8, h9⟩⟩ := h
  · refine ⟨by omega, ?_, h2, Or.inl ⟨h4, h3⟩⟩
    split at h6
    · obtain ⟨⟨-, a1, a2⟩, -, a3⟩ := h6
      omega
    · omega
  · refine ⟨by omega, ?_, h2, Or.inr ⟨by omega, _, _, h5⟩⟩
    obtain ⟨-, a1, a2⟩ := h7
    split at a1 <;> omega
theorem wkW_O {kd a w : Int} (hk : kOk kd) (ha : 0 ≤ a ∧ a ≤ 250) (hw : 0 ≤ w ∧ w ≤ 5) : ∀ m q, wkO q → wkO (wkW kd a w m q) := by
  intro m
  induction m with
  | zero => intro q h; exact h
  | succ m ih =>
    intro q h
    unfold wkW
    split
    · next c => exact ih _ (wk1_O h hk c)
    · exact wkS_O h (by have := wkH_b kd q; omega) ha hw
theorem wkE_O {a tm : Int} {w : Nat} {q : wkT} (h : wkO q) : wkO (wkE a tm w q) := h
theorem wkM_O {body : wkT → wkT} (hb : ∀ q, wkO q → wkO (body q)) {a : Int} {w : Nat} : ∀ m tm q, wkO q → wkO (wkM body a w m tm q) := by
  intro m
  induction m with
  | zero => intro tm q h; exact h
  | succ m ih =>
    intro tm q h
    unfold wkM
    split
    · exact hb _ (wkE_O h)
    · exact ih _ _ (hb _ (wkE_O h))
theorem wkL_O {body : wkT → wkT} (hb : ∀ q, wkO q → wkO (body q)) {b a : Int} {w : Nat} (ha : 0 ≤ a ∧ a ≤ 250) (hw : w ≤ 5) : ∀ m tm q, wkO q → wkO (wkL body b a w m tm q) := by
  intro m
  induction m with
  | zero =>
    intro tm q h
    unfold wkL
    split
    · exact wkS_O h (by omega) ha (by omega)
    · exact h
  | succ m ih =>
    intro tm q h
    unfold wkL
    split
    · split
      · exact hb _ (wkE_O h)
      · split
        · exact wkS_O (hb _ (wkE_O h)) (by omega) ha (by omega)
        · exact ih _ _ (hb _ (wkE_O h))
    · split
      · exact wkS_O h (by omega) ha (by omega)
      · exact h
theorem wkP_O {n : Nat} {t fs fp fn fe : z_row} {sg : sgT} {p q s e w : Nat} {rec : Nat → Nat → Nat → wkT → wkT} (hn : n ≤ 250) (hw : w ≤ 5) (h : oneP n t fs fp fn fe sg p q s e) (hr : ∀ s' e', sg (p + 1) q s' e' → ∀ y, wkO y → wkO (rec (w + 1) (p + 1) q y)) : ∀ y, wkO y → wkO (wkP fs fp fn fe rec w p y) := by
  intro y hy
  obtain ⟨h1, h2, h3, ⟨h4, h5⟩ | ⟨h4, s', e', h5⟩⟩ := oneP_c hn h
  · unfold wkP
    rw [if_neg (by have := h4.1; omega), if_neg (by have := h4.1; omega)]
    exact wkW_O h4 h1 (by omega) _ _ hy
  · have e1 : (fe p).toNat = q := by omega
    unfold wkP
    rw [e1]
    split
    · exact wkM_O (hr _ _ h5) _ _ _ hy
    · split
      · exact wkL_O (hr _ _ h5) h1 hw _ _ _ hy
      · omega
theorem wkQ_O {n : Nat} {t : z_row} {fe : z_row} {one : sgT} {part : Nat → wkT → wkT} (ho : ∀ p q s e, one p q s e → fe p = (q : Int) ∧ ∀ y, wkO y → wkO (part p y)) : ∀ m f p q s e, seqP n t one f p q s e → ∀ y, wkO y → wkO (wkQ fe part m p q y) := by
  intro m
  induction m with
  | zero => intro f p q s e _ y hy; exact hy
  | succ m ih =>
    intro f p q s e h y hy
    unfold wkQ
    split
    · cases f with
      | zero => exact h.elim
      | succ f =>
        rcases h with ⟨h, h0⟩ | ⟨p', e', h1, h2, h3⟩
        · obtain ⟨a1, a2⟩ := ho _ _ _ _ h
          have e1 : (fe p).toNat = q := by omega
          rw [e1]
          have hq : ∀ y, wkO y → wkO (wkQ fe part m q q y) := by
            intro y hy
            cases m with
            | zero => exact hy
            | succ m => unfold wkQ; rw [if_neg (by omega)]; exact hy
          exact hq _ (a2 _ hy)
        · obtain ⟨a1, a2⟩ := ho _ _ _ _ h1
          have e1 : (fe p).toNat = p' := by omega
          rw [e1]
          exact ih f p' q _ _ h3 _ (a2 _ hy)
    · exact hy
theorem wkD_O {n : Nat} {t fs fp fn fe : z_row} (hn : n ≤ 250) : ∀ d w p q s e, w + d = 6 → sgP n t fs fp fn fe d p q s e → ∀ y, wkO y → wkO (wkD fs fp fn fe d w p q y) := by
  intro d
  induction d with
  | zero => intro w p q s e _ h; exact h.elim
  | succ d ih =>
    intro w p q s e hw h y hy
    exact wkQ_O (fun p q s e ho => ⟨ho.2.1, wkP_O hn (by omega) ho (fun s' e' hsg => ih (w + 1) (p + 1) q s' e' (by omega) hsg)⟩) 251 251 p q s e h y hy
