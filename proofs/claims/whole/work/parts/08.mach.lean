/-! the abstract machine: ints as integers, a heap as a function; a walk z_w over it stands for the machine's own walk W -/
abbrev z_V : Type := Int ⊕ Int ⊕ Option (Option Nat)
abbrev z_i (z : Int) : z_V := .inl z
abbrev z_l (z : Int) : z_V := .inr (.inl z)
abbrev z_q (o : Option Nat) : z_V := .inr (.inr (some o))
abbrev z_r (a : Nat) : z_V := .inr (.inr (some (some a)))
abbrev z_n : z_V := .inr (.inr (some none))
abbrev z_u : z_V := .inr (.inr none)
def z_v : z_V → Value
  | .inl z => .int (Int32.ofInt z)
  | .inr (.inl z) => .long (Int64.ofInt z)
  | .inr (.inr (some o)) => va_rf o
  | .inr (.inr none) => .null
abbrev z_C : Type := (Nat × (Nat → Int)) ⊕ (Nat × (Nat → Int)) ⊕ (Nat × Nat × (Nat → Option Nat)) ⊕ (Nat × List z_V)
abbrev c_I (n : Nat) (f : Nat → Int) : z_C := .inl (n, f)
abbrev c_J (n : Nat) (f : Nat → Int) : z_C := .inr (.inl (n, f))
abbrev c_A (k n : Nat) (f : Nat → Option Nat) : z_C := .inr (.inr (.inl (k, n, f)))
abbrev c_O (c : Nat) (fs : List z_V) : z_C := .inr (.inr (.inr (c, fs)))
def z_e (cy : Nat → ClassId) : z_C → va_E
  | .inl (n, f) => .inl (cy 0, (n, .inl (fun j => Int32.ofInt (f j))))
  | .inr (.inl (n, f)) => .inl (cy 1, (n, .inr (.inl (fun j => Int64.ofInt (f j)))))
  | .inr (.inr (.inl (k, n, f))) => .inl (cy (k + 2), (n, .inr (.inr (.inr (.inr f)))))
  | .inr (.inr (.inr (c, fs))) => .inr (c, fs.map z_v)
abbrev z_H : Type := Nat → Option z_C
/-- what is the same in all methods: launch, places of fields, array kinds, the first free address, statics' tables, the constants' cells, the script -/
abbrev z_G : Type := Launch × va_G × (Nat → ClassId) × Nat × (Nat → Nat) × (Nat → Nat) × (Nat → Nat) × Nat × Nat × (Nat → Int32)
abbrev g_l (g : z_G) : Launch := g.1
abbrev g_D (g : z_G) : va_G := g.2.1
abbrev g_c (g : z_G) : Nat → ClassId := g.2.2.1
abbrev g_0 (g : z_G) : Nat := g.2.2.2.1
abbrev g_s (g : z_G) : Nat → Nat := g.2.2.2.2.1
abbrev g_K (g : z_G) : Nat → Nat := g.2.2.2.2.2.1
abbrev g_W (g : z_G) : Nat → Nat := g.2.2.2.2.2.2.1
abbrev g_b (g : z_G) : Nat := g.2.2.2.2.2.2.2.1
abbrev g_L (g : z_G) : Nat := g.2.2.2.2.2.2.2.2.1
abbrev g_x (g : z_G) : Nat → Int32 := g.2.2.2.2.2.2.2.2.2
def z_A (g : z_G) : Nat → Prop := fun q => g_0 g ≤ q
def z_R (g : z_G) (h : z_H) (H : Heap) : Prop := ∃ ws : va_W, va_P (g_D g) vwCl ws H ∧ va_D (z_A g) ws ∧ ∀ (a : Nat) (e : z_C), h a = some e → ∃ q0 : Nat, ws[q0]? = some (a, z_e (g_c g) e)
def z_T (g : z_G) : List (ClassId × FieldType) := [(g_c g 0, .int), (g_c g 1, .long), (g_c g 2, .object RX1), (g_c g 3, .object RX3), (g_c g 4, .object RX5)]

def z_tn : Nat → String := fun i => match i with
  | 0 => "ABOVE"
  | 1 => "TAKES"
  | 2 => "MAKES"
  | _ => "YARN"
def z_tABOVE : List Int := [-1, 0, 0, 0, 1, 1, 1, 2, 2, 3, 3, 3, 10]
def z_tTAKES : List Int := [0, 0, 0, 0, 1, 1, 1, 0, 0, 2, 2, 1, 3]
def z_tMAKES : List Int := [0, 0, 0, 0, 1, 1, 1, 1, 1, 1, 1, 0, 1]
def z_tYARN : List Int := [0, 0, 0, 0, 10, 11, 4, 13, 9, 12, 14, 15, 18]
def z_tv : Nat → Nat → Int := fun i j => match i with
  | 0 => z_tABOVE.getD j 0
  | 1 => z_tTAKES.getD j 0
  | 2 => z_tMAKES.getD j 0
  | _ => z_tYARN.getD j 0
def z_sc : List Nat := [44, 46, 48, 50, 52, 54, 56, 58, 60, 62]
def z_sx : List String := ["k", "p", "sl", "yo", "m", "kt", "sk", "bo", "sd", ""]
def z_sn : List Nat := [1, 1, 2, 2, 1, 2, 2, 2, 2, 0]
def z_sb : List (List Int32) := [[107], [112], [115, 108], [121, 111], [109], [107, 116], [115, 107], [98, 111], [115, 100], []]
/-- what nobody writes: the tables of Kinds, its Strings, the script -/
def z_St (g : z_G) (U : State) (H : Heap) : Prop :=
  (∀ i, i < 4 → va_Z "KnitReader$Kinds" (z_tn i) "[I" (.ref (g_s g i)) (z_A g) U H ∧ va_T .int (g_s g i) 13 (fun j => .int (Int32.ofInt (z_tv i j))) (z_A g) U H) ∧
  vk_S 10 z_sn z_sb (g_K g) (g_W g) (z_A g) U H ∧
  (∀ i, i < 10 → vk_R "KnitReader$Kinds" (z_sc.getD i 0) (z_sx.getD i "") (g_K g i) U) ∧
  va_Z "java/lang/String" "COMPACT_STRINGS" "Z" (.int 1) (z_A g) U H ∧
  va_Zq "jdk/internal/util/Preconditions" "SIOOBE_FORMATTER" "Ljava/util/function/BiFunction;" (z_A g) U H ∧
  va_X (g_b g) (g_L g) (g_x g) U H ∧ g_b g < H.size ∧ ¬ z_A g (g_b g)
theorem z_St.moved {g : z_G} {u U : State} {H H1 : Heap} (hW : u.WarmedH U.vm) (hz : H.size ≤ H1.size) (hq : ∀ a : Nat, a < H.size → ¬ z_A g a → H1[a]? = H[a]?) (h : z_St g u H) : z_St g U H1 := by
  have hv : u.vm.Alike U.vm := hW.alike
  obtain ⟨h1, h2, h3, h4, h5, h6, h7, h8⟩ := h
  exact ⟨fun i hi => ⟨((h1 i hi).1.kept hq).moved hv, ((h1 i hi).2.kept hq).moved hv⟩, (h2.kept hq).moved hv, fun i hi => (h3 i hi).warm hW, (h4.kept hq).moved hv, (h5.kept hq).moved hv, (h6.kept (hq _ h7 h8)).moved hv, Nat.lt_of_lt_of_le h7 hz, h8⟩
/-- the tables' words that hold at every call -/
def z_W : List Cond := lw_tbl.filter goodWord
theorem z_Wg : ∀ w ∈ z_W, (w.onTables && w.keeps) = true ∨ ∃ ty, w = .arrayClass ty := fun w h => good_of_word (List.mem_filter.mp h).2
theorem z_Wt {w : Cond} (h : w ∈ z_W) : w ∈ lw_tbl := (List.mem_filter.mp h).1
theorem z_at1 {w : Cond} (i : Nat) (h : tables_1[i]? = some w) (hg : goodWord w = true) : w ∈ z_W := List.mem_filter.mpr ⟨List.mem_append_right _ (List.mem_of_getElem? h), hg⟩
theorem z_at0 {w : Cond} (i : Nat) (h : (k2_sels lw_privs)[i]? = some w) (hg : goodWord w = true) : w ∈ z_W := List.mem_filter.mpr ⟨List.mem_append_left _ (List.mem_of_getElem? h), hg⟩
def z_isN : Cond → Bool
  | .fieldLinkNest .. => true
  | .methodLinkNest .. => true
  | .castable .. => true
  | _ => false
/-- the words on private members of nest mates -/
def z_N : List Cond := lw_tbl.filter z_isN
theorem z_atN {w : Cond} (i : Nat) (h : tables_1[i]? = some w) (hg : z_isN w = true) : w ∈ z_N := List.mem_filter.mpr ⟨List.mem_append_right _ (List.mem_of_getElem? h), hg⟩
theorem z_Nmoved {w : Cond} {u U : State} (hW : u.WarmedH U.vm) (hw : z_isN w = true) (h : va_Nw w u) : va_Nw w U := by
  cases w <;> first | exact va_Nw.warmF hW h | exact va_Nw.warmM hW h | exact va_Nw.warmC hW h | (exact absurd hw (by decide)) | cases hw
theorem z_Nt {w : Cond} (hw : z_isN w = true) : w.onTables = true := by
  cases w <;> first | rfl | cases hw
def z_S (g : z_G) (U : State) : Prop := va_K (g_D g) vwCl (z_T g) U ∧ z_St g U U.heap ∧ g_0 g ≤ U.heap.size ∧ (∀ w ∈ z_N, va_Nw w U) ∧ va_AO RX1 U ∧ va_AO RX3 U ∧ va_AO RX5 U
theorem z_S.moved {g : z_G} {u U : State} (hW : u.WarmedH U.vm) (hz : u.heap.size ≤ U.heap.size) (hq : ∀ a : Nat, a < u.heap.size → ¬ z_A g a → U.heap[a]? = u.heap[a]?) (h : z_S g u) : z_S g U :=
  ⟨va_K.moved hW.alike h.1, z_St.moved hW hz hq h.2.1, Nat.le_trans h.2.2.1 hz, fun w hw => z_Nmoved hW (List.mem_filter.mp hw).2 (h.2.2.2.1 w hw), va_AO.moved hW.alike h.2.2.2.2.1, va_AO.moved hW.alike h.2.2.2.2.2.1, va_AO.moved hW.alike h.2.2.2.2.2.2⟩
theorem z_St.blind {g : z_G} {U : State} {H : Heap} {U' : State} (hv : U'.vm = U.vm) (h : z_St g U H) : z_St g U' H := by
  obtain ⟨h1, h2, h3, h4, h5, h6, h7, h8⟩ := h
  have ha : U.vm.Alike U'.vm := by rw [hv]; exact Vm.Alike.refl _
  exact ⟨fun i hi => ⟨(h1 i hi).1.moved ha, (h1 i hi).2.moved ha⟩, h2.moved ha, fun i hi => (h3 i hi).same hv, h4.moved ha, h5.moved ha, h6.moved ha, h7, h8⟩
theorem z_S.blind {g : z_G} {U : State} {U' : State} (hv : U'.vm = U.vm) (hh : U'.heap = U.heap) (h : z_S g U) : z_S g U' := by
  have ha : U.vm.Alike U'.vm := by rw [hv]; exact Vm.Alike.refl _
  refine ⟨va_K.moved ha h.1, ?_, by rw [hh]; exact h.2.2.1, fun w hw => va_Nw.same (z_Nt (List.mem_filter.mp hw).2) hv.symm (h.2.2.2.1 w hw), va_AO.moved ha h.2.2.2.2.1, va_AO.moved ha h.2.2.2.2.2.1, va_AO.moved ha h.2.2.2.2.2.2⟩
  rw [hh]
  exact h.2.1.blind hv
abbrev z_M : Type := MethodName × ByteArray × Nat × Option FieldType
def z_ws (M : z_M) : List Cond := .code M.1 M.2.1 M.2.2.1 M.2.2.2 :: z_W
def z_rm (d mc ms : Nat) : Room := { frames := d, cells := mc, slots := ms, locals := 41 * d }
def z_Q (g : z_G) (P : Option z_V → z_H → Prop) : Array Value → State → Outcome → State → Prop := fun _ st oc t => (∃ (r : Option z_V) (h : z_H), oc = .returned (r.map z_v) ∧ P r h ∧ z_R g h t.heap) ∧ va_F (z_A g) st t
def z_Pc (g : z_G) (args : List z_V) (h : z_H) : Array Value → State → Prop := va_Pc (args.map z_v) (fun U => z_R g h U.heap ∧ z_S g U)
/-- the method M on these arguments in this heap ends, with an answer and a heap of which P holds; d frames, mc cells, ms slots -/
def z_D (g : z_G) (M : z_M) (d mc ms : Nat) (args : List z_V) (h : z_H) (P : Option z_V → z_H → Prop) : Prop := Met (g_l g) M.1 (z_ws M) (z_rm d mc ms) (z_Pc g args h) (z_Q g P) mc ms (z_A g)
theorem z_D.mono {g : z_G} {M : z_M} {d mc ms : Nat} {args : List z_V} {h : z_H} {P P' : Option z_V → z_H → Prop} (hD : z_D g M d mc ms args h P) (hP : ∀ r h', P r h' → P' r h') : z_D g M d mc ms args h P' := by
  intro p e ha hc hk s m a below hf hpre hpc hkk
  obtain ⟨t, o, h1, h2, h3, ⟨⟨⟨r, h', e1, e2, e3⟩, e4⟩, e5⟩⟩ := hD p e ha hc hk s m a below hf hpre hpc hkk
  exact ⟨t, o, h1, h2, h3, ⟨⟨⟨r, h', e1, hP r h' e2, e3⟩, e4⟩, e5⟩⟩
theorem z_Pcb (g : z_G) (args : List z_V) (h : z_H) : FrameBlind (z_Pc g args h) := by
  intro a U f mk q
  obtain ⟨q1, q2, q3⟩ := q
  exact ⟨q1, q2, z_S.blind (U := U) rfl rfl q3⟩
/-- the machine's side of a method's body -/
abbrev z_X : Type := Program × Env × Room × State × MethodId × Array Value × List Frame × Method × Code × Nat × (State → Prop)
abbrev x_p (X : z_X) : Program := X.1
abbrev x_e (X : z_X) : Env := X.2.1
abbrev x_R (X : z_X) : Room := X.2.2.1
abbrev x_s (X : z_X) : State := X.2.2.2.1
abbrev x_m (X : z_X) : MethodId := X.2.2.2.2.1
abbrev x_a (X : z_X) : Array Value := X.2.2.2.2.2.1
abbrev x_b (X : z_X) : List Frame := X.2.2.2.2.2.2.1
abbrev x_t (X : z_X) : Method := X.2.2.2.2.2.2.2.1
abbrev x_c (X : z_X) : Code := X.2.2.2.2.2.2.2.2.1
abbrev x_n (X : z_X) : Nat := X.2.2.2.2.2.2.2.2.2.1
abbrev x_q (X : z_X) : State → Prop := X.2.2.2.2.2.2.2.2.2.2
def z_L (nL : Nat) (ls : List z_V) (S : Array Slot) : Prop := ls.length = nL ∧ S.size = nL ∧ lv_wf S ∧ ∀ (i : Nat) (v : z_V), ls[i]? = some v → v ≠ z_u → S[i]? = some (.val (z_v v))
abbrev z_Cx (g : z_G) (X : z_X) (cc : ByteArray) (own : String) (r : Nat × Nat × Nat) : Prop :=
  (x_p X).tables.exec = Jvm.exec ∧ (x_c X).code = cc ∧ (x_c X).maxLocals = x_n X ∧ (x_s X).vm.findClass own = some (x_m X).cls ∧ (∀ w ∈ z_W, w.before (x_a X) (x_s X) = true) ∧ z_S g (x_s X) ∧ (x_t X).locks = false ∧
  r.1 ≤ (x_R X).frames ∧ r.2.1 ≤ (x_R X).cells ∧ r.2.2 ≤ (x_R X).slots ∧ 41 * r.1 ≤ (x_R X).locals
def z_w (g : z_G) (X : z_X) (cc : ByteArray) (own : String) (r : Nat × Nat × Nat) (pc : Nat) (ls st : List z_V) (h : z_H) (k n : Nat) : Prop :=
  z_Cx g X cc own r → ∀ (H : Heap) (locs : List Loc) (S : Array Slot), z_R g h H → va_S (z_A g) (x_s X).heap H locs → z_L (x_n X) ls S →
    W (x_p X) (g_l g) (x_e X) (x_R X) (x_s X) (x_m X) (x_a X) (x_b X) (x_t X) (x_c X) H locs k n (x_q X) (F0 (x_m X) pc S (st.map z_v))
/-- how a body may end -/
def z_F (g : z_G) (X : z_X) (M : z_M) (r : Nat × Nat × Nat) (P : Option z_V → z_H → Prop) : Prop :=
  x_q X = MQ (x_b X) (z_Q g P) (x_a X) (x_s X) r.2.1 r.2.2 (z_A g) ∧ (x_t X).sig.returnType = M.2.2.2 ∧ (x_t X).name = M.1.name
/-- the locals at the entry -/
def z_al : List z_V → List z_V
  | [] => []
  | .inr (.inl z) :: l => .inr (.inl z) :: z_u :: z_al l
  | v :: l => v :: z_al l
def z_en (nL : Nat) (args : List z_V) : List z_V := z_al args ++ List.replicate (nL - (z_al args).length) z_u
theorem z_cat (v : z_V) : (z_v v).category = (match v with | .inr (.inl _) => 2 | _ => 1) := by
  rcases v with z | z | o
  · rfl
  · rfl
  · cases o with
    | none => rfl
    | some o => cases o <;> rfl
theorem z_slc (a : Value) (l : List Value) : lg_sl (a :: l) = (if a.category = 2 then [Slot.val a, Slot.second] else [Slot.val a]) ++ lg_sl l := rfl
theorem z_sl : ∀ (args : List z_V), (lg_sl (args.map z_v)).length = (z_al args).length ∧ ∀ (i : Nat) (v : z_V), (z_al args)[i]? = some v → v ≠ z_u → (lg_sl (args.map z_v))[i]? = some (.val (z_v v)) := by
  intro args
  induction args with
  | nil => exact ⟨rfl, fun i v h => by simp [z_al] at h⟩
  | cons a l ih =>
    obtain ⟨ih1, ih2⟩ := ih
    rw [List.map_cons, z_slc]
    rcases a with z | z | o
    · have hc : ¬ (z_v (.inl z)).category = 2 := by simp [z_cat]
      rw [if_neg hc]
      refine ⟨by simp [z_al, ih1], fun i v h hv => ?_⟩
      cases i with
      | zero =>
        simp [z_al] at h
        subst h
        simp
      | succ i =>
        simp [z_al] at h
        simpa using ih2 i v h hv
    · have hc : (z_v (.inr (.inl z))).category = 2 := by simp [z_cat]
      rw [if_pos hc]
      refine ⟨by simp [z_al, ih1], fun i v h hv => ?_⟩
      cases i with
      | zero =>
        simp [z_al] at h
        subst h
        simp
      | succ i =>
        cases i with
        | zero =>
          simp [z_al] at h
          exact absurd h.symm hv
        | succ i =>
          simp [z_al] at h
          simpa using ih2 i v h hv
    · have hc : ¬ (z_v (.inr (.inr o))).category = 2 := by simp [z_cat]
      rw [if_neg hc]
      refine ⟨by simp [z_al, ih1], fun i v h hv => ?_⟩
      cases i with
      | zero =>
        simp [z_al] at h
        subst h
        simp
      | succ i =>
        simp [z_al] at h
        simpa using ih2 i v h hv
/-- the locals and the machine's -/
theorem z_L.entry {nL : Nat} {args : List z_V} (hn : (z_al args).length ≤ nL) : z_L nL (z_en nL args) ((lg_sl (args.map z_v) ++ List.replicate (nL - (lg_sl (args.map z_v)).length) Slot.unset).toArray) := by
  obtain ⟨e1, e2⟩ := z_sl args
  obtain ⟨h1, h2, -⟩ := lv_entry (args.map z_v) (n := nL) (by rw [e1]; exact hn)
  refine ⟨by simp [z_en]; omega, h1, h2, fun i v h hv => ?_⟩
  unfold z_en at h
  by_cases hi : i < (z_al args).length
  · rw [List.getElem?_append_left hi] at h
    have := e2 i v h hv
    simp only [List.getElem?_toArray]
    rw [List.getElem?_append_left (by rw [e1]; exact hi)]
    exact this
  · rw [List.getElem?_append_right (by omega)] at h
    have := List.mem_of_getElem? h
    exact absurd (List.eq_of_mem_replicate this) hv
theorem z_D.of {g : z_G} {M : z_M} {d mc ms : Nat} {args : List z_V} {h : z_H} {P : Option z_V → z_H → Prop} (hy : plainName M.1.cls = true) (hn : (z_al args).length ≤ M.2.2.1)
    (body : ∀ X : z_X, z_F g X M (d, mc, ms) P → z_w g X M.2.1 M.1.cls (d, mc, ms) 0 (z_en M.2.2.1 args) [] h 0 0) : z_D g M d mc ms args h P := by
  refine Met.ofW (cc := M.2.1) (maxL := M.2.2.1) (ret := M.2.2.2) hy rfl ?_
  intro p e s m a below meth c s₁ B hml hv
  obtain ⟨rfl, hR, hS⟩ := hv
  have hts := atoms_spec (ws := z_ws M) B.pre
  have hown : s.vm.findClass M.1.cls = some m.cls := findClass_of_methodNamed B.named
  have hX := body (p, e, (headSpec (z_ws M) (z_rm d mc ms)).room, s, m, (args.map z_v).toArray, below, meth, c, M.2.2.1, MQ below (z_Q g P) (args.map z_v).toArray s mc ms (z_A g)) ⟨rfl, B.returns, (name_of_methodNamed B.named B.method).1⟩
  rw [lg_entry_eq]
  exact hX ⟨B.exec, B.bytes, hml, hown, fun w hw => hts w (List.mem_cons_of_mem _ hw), hS, B.notSynchronized, Nat.le_refl _, Nat.le_refl _, Nat.le_refl _, Nat.le_refl _⟩ s.heap [] _ hR va_S.rf (z_L.entry hn)
/-! the heap -/
def z_up (h : z_H) (a : Nat) (e : z_C) : z_H := fun q => if q = a then some e else h q
def z_sf (f : Nat → Int) (k : Nat) (x : Int) : Nat → Int := fun q => if q = k then x else f q
def z_sq (f : Nat → Option Nat) (k : Nat) (x : Option Nat) : Nat → Option Nat := fun q => if q = k then x else f q
theorem z_up_s {h : z_H} {a : Nat} {e : z_C} : z_up h a e a = some e := if_pos rfl
theorem z_up_n {h : z_H} {a b : Nat} {e : z_C} (hb : b ≠ a) : z_up h a e b = h b := if_neg hb
theorem z_R.set {g : z_G} {h : z_H} {H1 : Heap} {ws : va_W} {q0 a : Nat} {e0 : va_E} {e1 : z_C} (hw : ∀ (a : Nat) (e : z_C), h a = some e → ∃ q0 : Nat, ws[q0]? = some (a, z_e (g_c g) e)) (hq : ws[q0]? = some (a, e0))
    (hP : va_P (g_D g) vwCl (ws.set q0 (a, z_e (g_c g) e1)) H1) (hD : va_D (z_A g) (ws.set q0 (a, z_e (g_c g) e1))) : z_R g (z_up h a e1) H1 := by
  have hl := (List.getElem?_eq_some_iff.mp hq).1
  refine ⟨_, hP, hD, fun b e hb => ?_⟩
  by_cases hba : b = a
  · subst hba
    rw [z_up_s] at hb
    cases hb
    exact ⟨q0, List.getElem?_set_self hl⟩
  · rw [z_up_n hba] at hb
    obtain ⟨j, hj⟩ := hw b e hb
    refine ⟨j, ?_⟩
    rw [List.getElem?_set_ne]
    · exact hj
    · intro hjq
      subst hjq
      rw [hq] at hj
      cases hj
      exact hba rfl
theorem z_R.push {g : z_G} {h : z_H} {H1 : Heap} {ws : va_W} {a : Nat} {e1 : z_C} (hw : ∀ (a : Nat) (e : z_C), h a = some e → ∃ q0 : Nat, ws[q0]? = some (a, z_e (g_c g) e))
    (hP : va_P (g_D g) vwCl (ws ++ [(a, z_e (g_c g) e1)]) H1) (hD : va_D (z_A g) (ws ++ [(a, z_e (g_c g) e1)])) : z_R g (z_up h a e1) H1 ∧ h a = none := by
  have hn : h a = none := by
    cases hb : h a with
    | none => rfl
    | some e =>
      obtain ⟨j, hj⟩ := hw a e hb
      have hl := (List.getElem?_eq_some_iff.mp hj).1
      have h1 : (ws ++ [(a, z_e (g_c g) e1)])[j]? = some (a, z_e (g_c g) e) := by rw [List.getElem?_append_left hl]; exact hj
      have h2 : (ws ++ [(a, z_e (g_c g) e1)])[ws.length]? = some (a, z_e (g_c g) e1) := by simp
      have := hD.1 j ws.length _ _ h1 h2 rfl
      omega
  refine ⟨⟨_, hP, hD, fun b e hb => ?_⟩, hn⟩
  by_cases hba : b = a
  · subst hba
    rw [z_up_s] at hb
    cases hb
    exact ⟨ws.length, by simp⟩
  · rw [z_up_n hba] at hb
    obtain ⟨j, hj⟩ := hw b e hb
    have hl := (List.getElem?_eq_some_iff.mp hj).1
    exact ⟨j, by rw [List.getElem?_append_left hl]; exact hj⟩
theorem z_R.weak {g : z_G} {h h' : z_H} {H : Heap} (hR : z_R g h H) (hh : ∀ (a : Nat) (e : z_C), h' a = some e → h a = some e) : z_R g h' H := by
  obtain ⟨ws, h1, h2, h3⟩ := hR
  exact ⟨ws, h1, h2, fun a e he => h3 a e (hh a e he)⟩
theorem z_R.base {g : z_G} {h : z_H} {H : Heap} (hR : z_R g h H) {a : Nat} {e : z_C} (he : h a = some e) : g_0 g ≤ a := by
  obtain ⟨ws, h1, h2, h3⟩ := hR
  obtain ⟨q0, hq⟩ := h3 a e he
  exact h2.2 q0 _ hq
