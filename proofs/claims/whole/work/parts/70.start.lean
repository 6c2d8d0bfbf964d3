/-! the law: what stands at its entry -/
def z_fl : List Cond := flatC (Jvm.Cond.and given_1 narrow_1)
abbrev z_tt (i : Nat) : Term := .static "KnitReader$Kinds" (z_tn i) "[I"
abbrev z_ts (i : Nat) : Term := .string "KnitReader$Kinds" (z_sc.getD i 0)
abbrev z_tw (i : Nat) : Term := .field (z_ts i) "java/lang/String" "value" "[B"
theorem z_f0 : ∀ i, i < 4 → Cond.arrayOf (z_tt i) .int ∈ z_fl := by decide +kernel
theorem z_f1 : ∀ i, i < 4 → Cond.eq (.length (z_tt i)) (.int (Int32.ofNat 13)) ∈ z_fl := by decide +kernel
theorem z_f2 : ∀ i, i < 4 → ∀ j, j < 13 → Cond.eq (.elem (z_tt i) (.int (Int32.ofNat j))) (.int (Int32.ofInt (z_tv i j))) ∈ z_fl := by decide +kernel
theorem z_g0 : ∀ i, i < 10 → Cond.exactly (z_ts i) "java/lang/String" ∈ z_fl := by decide +kernel
theorem z_g1 : ∀ i, i < 10 → Cond.eq (.field (z_ts i) "java/lang/String" "coder" "B") (.int 0) ∈ z_fl := by decide +kernel
theorem z_g2 : ∀ i, i < 10 → Cond.arrayOf (z_tw i) .byte ∈ z_fl := by decide +kernel
theorem z_g3 : ∀ i, i < 10 → Cond.eq (.length (z_tw i)) (.int (Int32.ofNat (z_sn.getD i 0))) ∈ z_fl := by decide +kernel
theorem z_g4 : ∀ i, i < 10 → ∀ j, j < z_sn.getD i 0 → Cond.eq (.elem (z_tw i) (.int (Int32.ofNat j))) (.int ((z_sb.getD i []).getD j 0)) ∈ z_fl := by decide +kernel
theorem z_g5 : ∀ i, i < 10 → ∀ j, j < 10 → i < j → Cond.not (Cond.eq (z_ts i) (z_ts j)) ∈ z_fl ∨ Cond.not (Cond.eq (z_ts j) (z_ts i)) ∈ z_fl := by decide +kernel
theorem z_g6 : Cond.eq (.static "java/lang/String" "COMPACT_STRINGS" "Z") (.int 1) ∈ z_fl := by decide +kernel
theorem z_g7 : Cond.isRef (.static "jdk/internal/util/Preconditions" "SIOOBE_FORMATTER" "Ljava/util/function/BiFunction;") ∈ z_fl := by decide +kernel
theorem z_tm {w : Cond} (i : Nat) (h : tables_1[i]? = some w) : w ∈ lw_tbl := List.mem_append_right _ (List.mem_of_getElem? h)
theorem z_l0 : ∀ i, i < 4 → Cond.laysStatic "KnitReader$Kinds" (z_tn i) "[I" ∈ lw_tbl := by
  intro i hi
  match i, hi with
  | 0, _ => exact z_tm 333 (by decide +kernel)
  | 1, _ => exact z_tm 351 (by decide +kernel)
  | 2, _ => exact z_tm 346 (by decide +kernel)
  | 3, _ => exact z_tm 341 (by decide +kernel)
  | i + 4, h => exact absurd h (by omega)
theorem z_l1 : ∀ i, i < 10 → Cond.stringRef "KnitReader$Kinds" (z_sc.getD i 0) (z_sx.getD i "") ∈ lw_tbl := by
  intro i hi
  match i, hi with
  | 0, _ => exact z_tm 458 (by decide +kernel)
  | 1, _ => exact z_tm 459 (by decide +kernel)
  | 2, _ => exact z_tm 460 (by decide +kernel)
  | 3, _ => exact z_tm 461 (by decide +kernel)
  | 4, _ => exact z_tm 462 (by decide +kernel)
  | 5, _ => exact z_tm 463 (by decide +kernel)
  | 6, _ => exact z_tm 464 (by decide +kernel)
  | 7, _ => exact z_tm 465 (by decide +kernel)
  | 8, _ => exact z_tm 466 (by decide +kernel)
  | 9, _ => exact z_tm 467 (by decide +kernel)
  | i + 10, h => exact absurd h (by omega)
theorem z_ar {C : String} {s : State} {args : Array Value} (h : (Cond.arrayOver (.object C)).before args s = true) : ∃ c : ClassId, ArrOfT s c (.object C) ∧ va_RA s c (.object C) := by
  obtain ⟨comp, c, k, h1, h2, h3, h4, h5⟩ := Cond.arrayOver_spec h
  exact ⟨c, fun N z => ⟨(fun k h => by cases h), k, h3, comp, h4⟩, k, comp, h3, h4, h1, h5⟩
set_option maxHeartbeats 4000000 in
set_option maxRecDepth 100000 in
theorem z_start {p : Program} {s : State} {m : MethodId} {meth : Method} {c : Code} (l : Launch) {b L : Nat} {xs : Nat → Int32} (C0 : lw_At p s m meth c b L xs) : ∃ g : z_G, g_l g = l ∧ g_0 g = s.heap.size ∧ g_b g = b ∧ g_L g = L ∧ g_x g = xs ∧ z_S g s := by
  obtain ⟨hx, hb, hr, hml, hown, hts, hX, hbl, hlocks, hgv⟩ := C0
  have hg : ∀ w ∈ z_fl, w.before #[Value.ref b] s = true := flat_of_before _ hgv
  have htz : ∀ w ∈ z_W, w.before #[Value.ref b] s = true := fun w h => hts w (z_Wt h)
  have hA : ∀ a : Nat, a < s.heap.size → ¬ (fun q : Nat => s.heap.size ≤ q) a := fun a h => Nat.not_le.mpr h
  obtain ⟨kX0, iX0, KX0⟩ := u_known (C := RX0) (T := TX0) (N := 2) (n := 2) htz zin_X0 (htz _ wn_X0)
  obtain ⟨kX1, iX1, KX1⟩ := u_known (C := RX1) (T := TX1) (N := 3) (n := 3) htz zin_X1 (htz _ wn_X1)
  obtain ⟨kX3, iX3, KX3⟩ := u_known (C := RX3) (T := TX3) (N := 10) (n := 10) htz zin_X3 (htz _ wn_X3)
  obtain ⟨kX4, iX4, KX4⟩ := u_known (C := RX4) (T := TX4) (N := 8) (n := 8) htz zin_X4 (htz _ wn_X4)
  obtain ⟨kX5, iX5, KX5⟩ := u_known (C := RX5) (T := TX5) (N := 3) (n := 3) htz zin_X5 (htz _ wn_X5)
  obtain ⟨kX6, iX6, KX6⟩ := u_known (C := RX6) (T := TX6) (N := 8) (n := 8) htz zin_X6 (htz _ wn_X6)
  obtain ⟨kX7, iX7, KX7⟩ := u_known (C := RX7) (T := TX7) (N := 2) (n := 2) htz zin_X7 (htz _ wn_X7)
  obtain ⟨kX8, iX8, KX8⟩ := u_known (C := RX8) (T := TX8) (N := 9) (n := 9) htz zin_X8 (htz _ wn_X8)
  obtain ⟨kX9, iX9, KX9⟩ := u_known (C := RX9) (T := TX9) (N := 28) (n := 28) htz zin_X9 (htz _ wn_X9)
  obtain ⟨dC, dI, hK⟩ : ∃ (dC : Nat → ClassId) (dI : Nat → Nat → Nat), ∀ (k : Nat) (q : vw_C), vwCl[k]? = some q → u_Kn s q.1 q.2.1 q.2.2 (dC k) (dI k) := by
    refine ⟨fun k => match k with | 0 => kX0 | 1 => kX1 | 2 => kX3 | 3 => kX4 | 4 => kX5 | 5 => kX6 | 6 => kX7 | 7 => kX8 | _ => kX9, fun k => match k with | 0 => iX0 | 1 => iX1 | 2 => iX3 | 3 => iX4 | 4 => iX5 | 5 => iX6 | 6 => iX7 | 7 => iX8 | _ => iX9, ?_⟩
    intro k q hq
    match k, hq with
    | 0, hq => cases hq; exact KX0
    | 1, hq => cases hq; exact KX1
    | 2, hq => cases hq; exact KX3
    | 3, hq => cases hq; exact KX4
    | 4, hq => cases hq; exact KX5
    | 5, hq => cases hq; exact KX6
    | 6, hq => cases hq; exact KX7
    | 7, hq => cases hq; exact KX8
    | 8, hq => cases hq; exact KX9
    | k + 9, hq => simp [vwCl] at hq
  obtain ⟨cI, qI, oI, I1, I2, I3⟩ := Cond.arrayClass_spec (htz _ wA_I)
  obtain ⟨cJ, qJ, oJ, J1, J2, J3⟩ := Cond.arrayClass_spec (htz _ wA_J)
  obtain ⟨c1, r1, s1⟩ := z_ar (C := RX1) (hts _ (z_tm 35 (by decide +kernel)))
  obtain ⟨c3, r3, s3⟩ := z_ar (C := RX3) (hts _ (z_tm 33 (by decide +kernel)))
  obtain ⟨c5, r5, s5⟩ := z_ar (C := RX5) (hts _ (z_tm 107 (by decide +kernel)))
  have hT0 : ∀ i : Nat, ∃ t : Nat, i < 4 → (z_tt i).eval #[Value.ref b] s none [] s = some (.ref t) ∧ va_T .int t 13 (fun j => .int (Int32.ofInt (z_tv i j))) (fun q : Nat => s.heap.size ≤ q) s s.heap := fun i => by
    by_cases hi : i < 4
    · obtain ⟨t, h1, h2⟩ := va_Tof (N := 13) (f := fun j => .int (Int32.ofInt (z_tv i j))) (by decide) (hg _ (z_f0 i hi)) (va_eqt (hg _ (z_f1 i hi))) (fun j hj => va_eqt (hg _ (z_f2 i hi j hj))) hA
      exact ⟨t, fun _ => ⟨h1, h2⟩⟩
    · exact ⟨0, fun h => absurd h hi⟩
  obtain ⟨gs, hgs⟩ := Classical.axiomOfChoice hT0
  obtain ⟨aK, aV, hSt, hEv⟩ := vk_Sof (N := 10) (tm := z_ts) (len := z_sn) (byt := z_sb) (A := fun q : Nat => s.heap.size ≤ q) (fun i hi => by
      have : ∀ i, i < 10 → z_sn.getD i 0 < 2 ^ 31 := by decide
      exact this i hi) (fun i hi => hg _ (z_g0 i hi)) (fun i hi => hg _ (z_g1 i hi)) (fun i hi => hg _ (z_g2 i hi)) (fun i hi => hg _ (z_g3 i hi)) (fun i hi j hj => hg _ (z_g4 i hi j hj)) (fun i j hi hj hij => by
      rcases Nat.lt_or_ge i j with c | c
      · rcases z_g5 i hi j hj c with h | h
        · exact Or.inl (hg _ h)
        · exact Or.inr (hg _ h)
      · rcases z_g5 j hj i hi (by omega) with h | h
        · exact Or.inr (hg _ h)
        · exact Or.inl (hg _ h)) hA
  refine ⟨(l, (dC, dI), fun k => match k with | 0 => cI | 1 => cJ | 2 => c1 | 3 => c3 | _ => c5, s.heap.size, gs, aK, aV, b, L, xs), rfl, rfl, rfl, rfl, rfl, ⟨hK, fun k q hq => ?_⟩, ⟨fun i hi => ⟨va_Zref (hts _ (z_l0 i hi)) (htz _ wi_X2) (hgs i hi).1 hA, (hgs i hi).2⟩, hSt, fun i hi => vk_R.of (hts _ (z_l1 i hi)) (hEv i hi), va_Zof (hts _ (z_tm 481 (by decide +kernel))) (hts (.initialized "java/lang/String") (z_tm 14 (by decide +kernel))) (va_eqt (hg _ z_g6)) hA, va_Zqof (hts _ (z_tm 497 (by decide +kernel))) (hts (.initialized "jdk/internal/util/Preconditions") (z_tm 16 (by decide +kernel))) (hg _ z_g7) hA, hX, hbl, Nat.not_le.mpr hbl⟩, Nat.le_refl _, fun w hw => va_Nw.of (z_Nt (List.mem_filter.mp hw).2) (hts w (List.mem_filter.mp hw).1), va_AO.of (hts _ (z_tm 35 (by decide +kernel))), va_AO.of (hts _ (z_tm 33 (by decide +kernel))), va_AO.of (hts _ (z_tm 107 (by decide +kernel)))⟩
  match k, hq with
  | 0, hq => cases hq; exact ⟨fun n z => ⟨(fun k h => by cases h), qI, I2, oI, I3⟩, I1⟩
  | 1, hq => cases hq; exact ⟨fun n z => ⟨(fun k h => by cases h), qJ, J2, oJ, J3⟩, J1⟩
  | 2, hq => cases hq; exact ⟨r1, s1⟩
  | 3, hq => cases hq; exact ⟨r3, s3⟩
  | 4, hq => cases hq; exact ⟨r5, s5⟩
  | k + 5, hq => simp [z_T] at hq
