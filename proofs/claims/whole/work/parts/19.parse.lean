/-! how a text is read: the common function of class and reference -/
def pe (n : Nat) (t : Nat → Int) (a : Nat) : Int := if a < n then t a else -1
abbrev isLt (c : Int) : Prop := 97 ≤ c ∧ c ≤ 122
abbrev isDg (c : Int) : Prop := 48 ≤ c ∧ c ≤ 57
def wE (n : Nat) (t : Nat → Int) : Nat → Nat → Nat
  | 0, a => a
  | f + 1, a => if isLt (pe n t a) then wE n t f (a + 1) else a
def wEnd (n : Nat) (t : Nat → Int) (a : Nat) : Nat := wE n t (n - a) a
def kW1 (x : Int) : Int := if x = 107 then 4 else if x = 112 then 5 else if x = 109 then 8 else -1
def kW2 (x y : Int) : Int := if x = 115 ∧ y = 108 then 6 else if x = 121 ∧ y = 111 then 7 else if x = 107 ∧ y = 116 then 9 else if x = 115 ∧ y = 107 then 10 else if x = 98 ∧ y = 111 then 11 else if x = 115 ∧ y = 100 then 12 else -1
/-- the kind that a word from a to e is; -1 -/
def kO (t : Nat → Int) (a e : Nat) : Int := if e = a + 1 then kW1 (t a) else if e = a + 2 then kW2 (t a) (t (a + 1)) else -1
def nC (n : Nat) (t : Nat → Int) (a : Nat) : Nat := if isDg (pe n t a) then (if isDg (pe n t (a + 1)) then 2 else 1) else 0
def nV (n : Nat) (t : Nat → Int) (a : Nat) : Int := if isDg (pe n t a) then (if isDg (pe n t (a + 1)) then 10 * (pe n t a - 48) + (pe n t (a + 1) - 48) else pe n t a - 48) else 0
def nOk (n : Nat) (t : Nat → Int) (lo : Int) (a : Nat) : Prop := 0 < nC n t a ∧ lo ≤ nV n t a ∧ nV n t a ≤ 60
theorem pe_lt {n : Nat} {t : Nat → Int} {a : Nat} (h : pe n t a ≠ -1) : a < n := by
  unfold pe at h
  split at h
  · assumption
  · exact absurd rfl h
theorem pe_in {n : Nat} {t : Nat → Int} {a : Nat} (h : a < n) : pe n t a = t a := if_pos h
theorem pe_out {n : Nat} {t : Nat → Int} {a : Nat} (h : n ≤ a) : pe n t a = -1 := if_neg (by omega)
theorem wE_le (n : Nat) (t : Nat → Int) : ∀ f a, a ≤ wE n t f a := by
  intro f
  induction f with
  | zero => intro a; exact Nat.le_refl _
  | succ f ih =>
    intro a
    unfold wE
    split
    · exact Nat.le_trans (Nat.le_succ _) (ih _)
    · exact Nat.le_refl _
theorem wE_n (n : Nat) (t : Nat → Int) : ∀ f a, a ≤ n → wE n t f a ≤ n := by
  intro f
  induction f with
  | zero => intro a h; exact h
  | succ f ih =>
    intro a h
    unfold wE
    split
    · next q => exact ih _ (by have := pe_lt (n := n) (t := t) (a := a) (by omega); omega)
    · exact h
theorem wE_let (n : Nat) (t : Nat → Int) : ∀ f a j, a ≤ j → j < wE n t f a → isLt (pe n t j) := by
  intro f
  induction f with
  | zero => intro a j h1 h2; unfold wE at h2; omega
  | succ f ih =>
    intro a j h1 h2
    unfold wE at h2
    split at h2
    · next q =>
      rcases (show j = a ∨ a + 1 ≤ j by omega) with e | e
      · rw [e]; exact q
      · exact ih _ _ e h2
    · omega
theorem wE_stop (n : Nat) (t : Nat → Int) : ∀ f a, n - a ≤ f → ¬ isLt (pe n t (wE n t f a)) := by
  intro f
  induction f with
  | zero =>
    intro a h
    unfold wE
    rw [pe_out (by omega)]
    omega
  | succ f ih =>
    intro a h
    unfold wE
    split
    · exact ih _ (by omega)
    · assumption
/-- one step further: the end stays -/
theorem wEnd_s {n : Nat} {t : Nat → Int} {a : Nat} (h : isLt (pe n t a)) : wEnd n t a = wEnd n t (a + 1) := by
  have hn := pe_lt (n := n) (t := t) (a := a) (by omega)
  unfold wEnd
  rw [show n - a = (n - (a + 1)) + 1 by omega]
  show (if isLt (pe n t a) then wE n t (n - (a + 1)) (a + 1) else a) = _
  rw [if_pos h]
theorem wEnd_0 {n : Nat} {t : Nat → Int} {a : Nat} (h : ¬ isLt (pe n t a)) : wEnd n t a = a := by
  unfold wEnd
  cases hf : n - a with
  | zero => rfl
  | succ f =>
    unfold wE
    rw [if_neg h]
/-- a state of reading: place, parts, how deep, whether there is a till -/
abbrev rdT : Type := Nat × Nat × Nat × Int
noncomputable def rdW (n : Nat) (t : Nat → Int) (w : Nat) (s : rdT) : Bool × rdT :=
  if kO t s.1 (wEnd n t s.1) < 0 then (false, (s.1, s.2.1 + 1, max s.2.2.1 w, s.2.2.2))
  else if isDg (pe n t (wEnd n t s.1)) then
    @ite _ (nOk n t 1 (wEnd n t s.1)) (Classical.propDecidable _) (true, (wEnd n t s.1 + nC n t (wEnd n t s.1), s.2.1 + 1, max s.2.2.1 w, s.2.2.2)) (false, (wEnd n t s.1, s.2.1 + 1, max s.2.2.1 w, s.2.2.2))
  else (true, (wEnd n t s.1, s.2.1 + 1, max s.2.2.1 w, s.2.2.2))
noncomputable def rdG (n : Nat) (t : Nat → Int) (rec : Nat → rdT → Bool × rdT) (w : Nat) (cl lo : Int) (s : rdT) : Bool × rdT :=
  let q := rec (w + 1) (s.1 + 1, s.2.1 + 1, max s.2.2.1 w, s.2.2.2)
  if q.1 = true then
    if pe n t q.2.1 = cl then
      @ite _ (nOk n t lo (q.2.1 + 1)) (Classical.propDecidable _) (true, (q.2.1 + 1 + nC n t (q.2.1 + 1), q.2.2)) (false, (q.2.1 + 1, q.2.2))
    else (false, q.2)
  else q
noncomputable def rdO (n : Nat) (t : Nat → Int) (rec : Nat → rdT → Bool × rdT) (w : Nat) (s : rdT) : Bool × rdT :=
  if pe n t s.1 = 40 ∧ w < 5 then rdG n t rec w 41 1 s
  else if pe n t s.1 = 60 ∧ w < 5 then rdG n t rec w 62 0 (s.1, s.2.1, s.2.2.1, 1)
  else rdW n t w s
noncomputable def rdN (n : Nat) (t : Nat → Int) (rec : Nat → rdT → Bool × rdT) (w : Nat) (r : Bool × rdT) : Bool × rdT :=
  if r.1 = true ∧ pe n t r.2.1 = 44 then rec w (r.2.1 + 1, r.2.2) else r
noncomputable def rdS (n : Nat) (t : Nat → Int) : Nat → Nat → rdT → Bool × rdT
  | 0, _, s => (false, s)
  | f + 1, w, s => rdN n t (rdS n t f) w (rdO n t (rdS n t f) w s)
/-! what the parts' rows say of the text -/
abbrev sgT : Type := Nat → Nat → Nat → Nat → Prop
def oneW (n : Nat) (t fs fp fn fe : Nat → Int) (p q s e : Nat) : Prop :=
  kOk (fs p) ∧ kO t s (wEnd n t s) = fs p ∧ (if isDg (pe n t (wEnd n t s)) then nOk n t 1 (wEnd n t s) ∧ e = wEnd n t s + nC n t (wEnd n t s) ∧ fn p = nV n t (wEnd n t s) else e = wEnd n t s ∧ fn p = 1)
def oneG (n : Nat) (t fs fp fn fe : Nat → Int) (sg : sgT) (p q s e : Nat) : Prop :=
  ((fs p = 1 ∧ pe n t s = 40) ∨ (fs p = 2 ∧ pe n t s = 60)) ∧ ∃ c, sg (p + 1) q (s + 1) c ∧ pe n t c = (if fs p = 1 then 41 else 62) ∧ nOk n t (if fs p = 1 then 1 else 0) (c + 1) ∧ e = c + 1 + nC n t (c + 1) ∧ fn p = nV n t (c + 1)
def oneP (n : Nat) (t fs fp fn fe : Nat → Int) (sg : sgT) (p q s e : Nat) : Prop :=
  fp p = (s : Int) ∧ fe p = (q : Int) ∧ ((q = p + 1 ∧ oneW n t fs fp fn fe p q s e) ∨ oneG n t fs fp fn fe sg p q s e)
def seqP (n : Nat) (t : Nat → Int) (one : sgT) : Nat → sgT
  | 0, _, _, _, _ => False
  | f + 1, p, q, s, e => (one p q s e ∧ pe n t e ≠ 44) ∨ ∃ p' e', one p p' s e' ∧ pe n t e' = 44 ∧ seqP n t one f p' q (e' + 1) e
def sgP (n : Nat) (t fs fp fn fe : Nat → Int) : Nat → sgT
  | 0 => fun _ _ _ _ => False
  | d + 1 => seqP n t (oneP n t fs fp fn fe (sgP n t fs fp fn fe d)) 251
/-- rows that agree on the parts say the same -/
def agR (p q : Nat) (fs fp fn fe gs gp gn ge : Nat → Int) : Prop := ∀ j, p ≤ j → j < q → gs j = fs j ∧ gp j = fp j ∧ gn j = fn j ∧ ge j = fe j
theorem agR.sub {p q p' q' : Nat} {fs fp fn fe gs gp gn ge : Nat → Int} (h : agR p q fs fp fn fe gs gp gn ge) (h1 : p ≤ p') (h2 : q' ≤ q) : agR p' q' fs fp fn fe gs gp gn ge := fun j a b => h j (by omega) (by omega)
theorem oneW_mono {n : Nat} {t fs fp fn fe gs gp gn ge : Nat → Int} {p q s e : Nat} (ha : gs p = fs p ∧ gp p = fp p ∧ gn p = fn p ∧ ge p = fe p) (h : oneW n t fs fp fn fe p q s e) : oneW n t gs gp gn ge p q s e := by
  unfold oneW at h ⊢
  rw [ha.1, ha.2.2.1]
  exact h
def sgM (n : Nat) (sg : sgT) : Prop := ∀ p q s e, sg p q s e → p < q ∧ s < e
theorem oneP_lt {n : Nat} {t fs fp fn fe : Nat → Int} {sg : sgT} (hsg : sgM n sg) {p q s e : Nat} (h : oneP n t fs fp fn fe sg p q s e) : p < q ∧ s < e := by
  obtain ⟨h1, h2, ⟨h3, h4, h5, h6⟩ | ⟨h4, c, h5, h6, h7, h8, h9⟩⟩ := h
  · have hk : s < wEnd n t s := by
      have := wE_le n t (n - s) s
      rcases (show s < wEnd n t s ∨ wEnd n t s = s by unfold wEnd; omega) with q | q
      · exact q
      · rw [q] at h5
        unfold kO at h5
        rw [if_neg (by omega), if_neg (by omega)] at h5
        have := h4.1
        omega
    refine ⟨by omega, ?_⟩
    split at h6
    · omega
    · omega
  · have := hsg _ _ _ _ h5
    omega
theorem seqP_lt {n : Nat} {t : Nat → Int} {one : sgT} (ho : ∀ p q s e, one p q s e → p < q ∧ s < e) : ∀ f p q s e, seqP n t one f p q s e → p < q ∧ s < e := by
  intro f
  induction f with
  | zero => intro p q s e h; exact h.elim
  | succ f ih =>
    intro p q s e h
    rcases h with ⟨h, -⟩ | ⟨p', e', h1, -, h2⟩
    · exact ho _ _ _ _ h
    · have a1 := ho _ _ _ _ h1
      have a2 := ih _ _ _ _ h2
      omega
theorem sgP_lt {n : Nat} {t fs fp fn fe : Nat → Int} : ∀ d, sgM n (sgP n t fs fp fn fe d) := by
  intro d
  induction d with
  | zero => intro p q s e h; exact h.elim
  | succ d ih =>
    intro p q s e h
    exact seqP_lt (fun _ _ _ _ h => oneP_lt ih h) _ _ _ _ _ h
theorem oneP_ag {n : Nat} {t fs fp fn fe gs gp gn ge : Nat → Int} {sg sg' : sgT} (hsg : sgM n sg) (hm : ∀ p q s e, agR p q fs fp fn fe gs gp gn ge → sg p q s e → sg' p q s e) {p q s e : Nat} (ha : agR p q fs fp fn fe gs gp gn ge) (h : oneP n t fs fp fn fe sg p q s e) : oneP n t gs gp gn ge sg' p q s e := by
  have hlt := oneP_lt hsg h
  have hp := ha p (Nat.le_refl _) hlt.1
  obtain ⟨h1, h2, h3⟩ := h
  refine ⟨by rw [hp.2.1]; exact h1, by rw [hp.2.2.2]; exact h2, ?_⟩
  rcases h3 with ⟨h3, h4⟩ | ⟨h4, c, h5, h6, h7, h8, h9⟩
  · exact Or.inl ⟨h3, oneW_mono hp h4⟩
  · refine Or.inr ⟨by rw [hp.1]; exact h4, c, hm _ _ _ _ (ha.sub (Nat.le_succ _) (Nat.le_refl _)) h5, by rw [hp.1]; exact h6, by rw [hp.1]; exact h7, h8, by rw [hp.2.2.1]; exact h9⟩
theorem seqP_ag {n : Nat} {t fs fp fn fe gs gp gn ge : Nat → Int} {one one' : sgT} (ho : ∀ p q s e, one p q s e → p < q ∧ s < e) (hm : ∀ p q s e, agR p q fs fp fn fe gs gp gn ge → one p q s e → one' p q s e) : ∀ f p q s e, agR p q fs fp fn fe gs gp gn ge → seqP n t one f p q s e → seqP n t one' f p q s e := by
  intro f
  induction f with
  | zero => intro p q s e _ h; exact h.elim
  | succ f ih =>
    intro p q s e ha h
    rcases h with ⟨h, h0⟩ | ⟨p', e', h1, h2, h3⟩
    · exact Or.inl ⟨hm _ _ _ _ ha h, h0⟩
    · have a1 := ho _ _ _ _ h1
      have a2 := seqP_lt ho _ _ _ _ _ h3
      exact Or.inr ⟨p', e', hm _ _ _ _ (ha.sub (Nat.le_refl _) (by omega)) h1, h2, ih _ _ _ _ (ha.sub (by omega) (Nat.le_refl _)) h3⟩
theorem sgP_ag {n : Nat} {t fs fp fn fe gs gp gn ge : Nat → Int} : ∀ d p q s e, agR p q fs fp fn fe gs gp gn ge → sgP n t fs fp fn fe d p q s e → sgP n t gs gp gn ge d p q s e := by
  intro d
  induction d with
  | zero => intro p q s e _ h; exact h.elim
  | succ d ih =>
    intro p q s e ha h
    exact seqP_ag (fun _ _ _ _ h => oneP_lt (sgP_lt d) h) (fun _ _ _ _ ha h => oneP_ag (sgP_lt d) ih ha h) _ _ _ _ _ ha h
/-- more room for the count of parts -/
theorem seqP_f {n : Nat} {t : Nat → Int} {one : sgT} : ∀ f f' p q s e, f ≤ f' → seqP n t one f p q s e → seqP n t one f' p q s e := by
  intro f
  induction f with
  | zero => intro f' p q s e _ h; exact h.elim
  | succ f ih =>
    intro f' p q s e hf h
    obtain ⟨f', rfl⟩ : ∃ k, f' = k + 1 := ⟨f' - 1, by omega⟩
    rcases h with h | ⟨p', e', h1, h2, h3⟩
    · exact Or.inl h
    · exact Or.inr ⟨p', e', h1, h2, ih _ _ _ _ _ (by omega) h3⟩

