/-! State: how it stays told when cells change -/
theorem z_up_self {h : z_H} {a : Nat} {e : z_C} (ha : h a = some e) : z_up h a e = h := by
  funext q
  unfold z_up
  by_cases c : q = a
  · rw [if_pos c, c, ha]
  · rw [if_neg c]
section ZSH
variable {h : z_H} {T : Nat → Nat} {Lf : Nat → Option Nat} {lc dc nd si mo se : Int} {sd ln zz : Nat → Int} {ff : Nat → z_row}
theorem sH.dom (hs : sH h T Lf lc dc nd si mo se sd ln zz ff) {t : Nat} (ht : t < 153) : h (T t) ≠ none := by
  obtain ⟨e0, e1, e2, e3, -⟩ := hs
  rcases (show t = 0 ∨ t = 1 ∨ t = 2 ∨ ∃ i, i < 50 ∧ (t = 3 + 3 * i ∨ t = 4 + 3 * i ∨ t = 5 + 3 * i) by
    by_cases c : t < 3
    · omega
    · exact Or.inr (Or.inr (Or.inr ⟨(t - 3) / 3, by omega, by omega⟩))) with rfl | rfl | rfl | ⟨i, hi, rfl | rfl | rfl⟩
  · rw [e0]; exact Option.some_ne_none _
  · rw [e1]; exact Option.some_ne_none _
  · rw [e2]; exact Option.some_ne_none _
  · rw [(e3 i hi).1]; exact Option.some_ne_none _
  · rw [(e3 i hi).2.1]; exact Option.some_ne_none _
  · rw [(e3 i hi).2.2.1]; exact Option.some_ne_none _
theorem sH.fr {h' : z_H} (hs : sH h T Lf lc dc nd si mo se sd ln zz ff) (hf : ∀ t, t < 153 → h' (T t) = h (T t)) : sH h' T Lf lc dc nd si mo se sd ln zz ff := by
  obtain ⟨e0, e1, e2, e3, e4⟩ := hs
  refine ⟨(hf 0 (by decide)).trans e0, (hf 1 (by decide)).trans e1, (hf 2 (by decide)).trans e2, fun i hi => ?_, e4⟩
  obtain ⟨d0, d1, d2, d3⟩ := e3 i hi
  exact ⟨(hf _ (by omega)).trans d0, (hf _ (by omega)).trans d1, (hf _ (by omega)).trans d2, d3⟩
theorem sH.o (hs : sH h T Lf lc dc nd si mo se sd ln zz ff) (hT : tI T) {lc' dc' nd' si' mo' se' : Int} (hb : (0 ≤ lc' ∧ lc' ≤ 20) ∧ (0 ≤ dc' ∧ dc' ≤ 50) ∧ (0 ≤ nd' ∧ nd' ≤ 60) ∧ (si' = 0 ∨ si' = 1) ∧ (mo' = 0 ∨ mo' = 1)) : sH (z_up h (T 0) (c_O 5 [z_r (T 1), z_r (T 2), z_i lc', z_i dc', z_i nd', z_i si', z_i mo', z_i se'])) T Lf lc' dc' nd' si' mo' se' sd ln zz ff := by
  obtain ⟨e0, e1, e2, e3, e4⟩ := hs
  have key : ∀ t, t < 153 → t ≠ 0 → z_up h (T 0) (c_O 5 [z_r (T 1), z_r (T 2), z_i lc', z_i dc', z_i nd', z_i si', z_i mo', z_i se']) (T t) = h (T t) := fun t ht h0 => z_up_n (hT.ne ht (by decide) h0)
  refine ⟨z_up_s, (key 1 (by decide) (by decide)).trans e1, (key 2 (by decide) (by decide)).trans e2, fun i hi => ?_, hb⟩
  obtain ⟨d0, d1, d2, d3⟩ := e3 i hi
  exact ⟨(key _ (by omega) (by omega)).trans d0, (key _ (by omega) (by omega)).trans d1, (key _ (by omega) (by omega)).trans d2, d3⟩
theorem sH.l (hs : sH h T Lf lc dc nd si mo se sd ln zz ff) (hT : tI T) {Lf' : Nat → Option Nat} : sH (z_up h (T 1) (c_A 1 20 Lf')) T Lf' lc dc nd si mo se sd ln zz ff := by
  obtain ⟨e0, e1, e2, e3, e4⟩ := hs
  have key : ∀ t, t < 153 → t ≠ 1 → z_up h (T 1) (c_A 1 20 Lf') (T t) = h (T t) := fun t ht h0 => z_up_n (hT.ne ht (by decide) h0)
  refine ⟨(key 0 (by decide) (by decide)).trans e0, z_up_s, (key 2 (by decide) (by decide)).trans e2, fun i hi => ?_, e4⟩
  obtain ⟨d0, d1, d2, d3⟩ := e3 i hi
  exact ⟨(key _ (by omega) (by omega)).trans d0, (key _ (by omega) (by omega)).trans d1, (key _ (by omega) (by omega)).trans d2, d3⟩
def updF (ff : Nat → z_row) (r : Nat) (f : z_row) : Nat → z_row := fun i => if i = r then f else ff i
theorem updF_s {ff : Nat → z_row} {r : Nat} {f : z_row} : updF ff r f r = f := if_pos rfl
theorem updF_n {ff : Nat → z_row} {r i : Nat} {f : z_row} (h : i ≠ r) : updF ff r f i = ff i := if_neg h
theorem sH.d (hs : sH h T Lf lc dc nd si mo se sd ln zz ff) (hT : tI T) {r : Nat} (hr : r < 50) {s l Z : Int} {f : z_row} (hZ : 0 ≤ Z ∧ Z ≤ 200) :
    sH (z_up (z_up (z_up h (T (4 + 3 * r)) (c_O 6 [z_r (T (5 + 3 * r)), z_i Z])) (T (5 + 3 * r)) (c_I 200 f)) (T (3 + 3 * r)) (c_O 1 [z_r (T (4 + 3 * r)), z_i s, z_i l])) T Lf lc dc nd si mo se (z_sf sd r s) (z_sf ln r l) (z_sf zz r Z) (updF ff r f) := by
  obtain ⟨e0, e1, e2, e3, e4⟩ := hs
  have key : ∀ t, t < 153 → t ≠ 3 + 3 * r → t ≠ 4 + 3 * r → t ≠ 5 + 3 * r → z_up (z_up (z_up h (T (4 + 3 * r)) (c_O 6 [z_r (T (5 + 3 * r)), z_i Z])) (T (5 + 3 * r)) (c_I 200 f)) (T (3 + 3 * r)) (c_O 1 [z_r (T (4 + 3 * r)), z_i s, z_i l]) (T t) = h (T t) := fun t ht h1 h2 h3 => by
    rw [z_up_n (hT.ne ht (by omega) h1), z_up_n (hT.ne ht (by omega) h3), z_up_n (hT.ne ht (by omega) h2)]
  refine ⟨(key 0 (by decide) (by omega) (by omega) (by omega)).trans e0, (key 1 (by decide) (by omega) (by omega) (by omega)).trans e1, (key 2 (by decide) (by omega) (by omega) (by omega)).trans e2, fun i hi => ?_, e4⟩
  by_cases c : i = r
  · rw [c, z_sf_s, z_sf_s, z_sf_s, updF_s]
    refine ⟨z_up_s, ?_, ?_, hZ⟩
    · rw [z_up_n (hT.ne (by omega) (by omega) (by omega)), z_up_n (hT.ne (by omega) (by omega) (by omega)), z_up_s]
    · rw [z_up_n (hT.ne (by omega) (by omega) (by omega)), z_up_s]
  · obtain ⟨d0, d1, d2, d3⟩ := e3 i hi
    rw [z_sf_n c, z_sf_n c, z_sf_n c, updF_n c]
    exact ⟨(key _ (by omega) (by omega) (by omega) (by omega)).trans d0, (key _ (by omega) (by omega) (by omega) (by omega)).trans d1, (key _ (by omega) (by omega) (by omega) (by omega)).trans d2, d3⟩
end ZSH
/-- rows of one another -/
def cpR (dc : Int) (sd ln zz : Nat → Int) (ff : Nat → z_row) (sd' ln' zz' : Nat → Int) (ff' : Nat → z_row) : Prop := ∀ i : Nat, (i : Int) < dc → sd' i = sd i ∧ ln' i = ln i ∧ zz' i = zz i ∧ ∀ j : Nat, (j : Int) < zz i → ff' i j = ff i j
set_option maxHeartbeats 4000000 in
set_option maxRecDepth 100000 in
theorem D_X6_takeFrom {g : z_G} {h : z_H} {T : Nat → Nat} {Lf : Nat → Option Nat} {lc dc nd si mo se : Int} {sd ln zz : Nat → Int} {ff : Nat → z_row} (hs : sH h T Lf lc dc nd si mo se sd ln zz ff) (hT : tI T) {U : Nat → Nat} {LfU : Nat → Option Nat} {lcU dcU ndU siU moU seU : Int} {sdU lnU zzU : Nat → Int} {ffU : Nat → z_row} (hu : sH h U LfU lcU dcU ndU siU moU seU sdU lnU zzU ffU) (hU : tI U) (hTU : ∀ i j, i < 153 → j < 153 → U i ≠ T j) (hL : ∀ i, i < 20 → ∀ a, LfU i = some a → (∃ fs, h a = some (c_O 2 fs)) ∧ ∀ t, t < 153 → a ≠ T t) : z_D g mX6_takeFrom 3 0 0 [z_r (T 0), z_r (U 0)] h (fun rv h' => rv = none ∧ (∃ (Lf' : Nat → Option Nat) (sd' ln' zz' : Nat → Int) (ff' : Nat → z_row), sH h' T Lf' lcU dcU ndU siU moU seU sd' ln' zz' ff' ∧ (∀ i, i < 20 → Lf' i = LfU i) ∧ cpR dcU sdU lnU zzU ffU sd' ln' zz' ff' ∧ ∀ y, (∀ t, t < 153 → y ≠ T t) → h' y = h y)) := by
  refine z_D.of (by decide +kernel) (Nat.le_of_ble_eq_true rfl) (fun X F => ?_)
  show z_w g X cX6_takeFrom RX6 (3, 0, 0) 0 [z_r (T 0), z_r (U 0), z_u, z_u, z_u] [] h 0 0
  have K38 : ∀ (L : Nat → Option Nat), (∀ i, i < 20 → L i = LfU i) → ∀ y2 : z_V, z_w g X cX6_takeFrom RX6 (3, 0, 0) 38 [z_r (T 0), z_r (U 0), y2, z_u, z_u] [] (z_up h (T 1) (c_A 1 20 L)) 0 0 := by
    intro L hLL y2
    have g1 : sH (z_up h (T 1) (c_A 1 20 L)) T L lc dc nd si mo se sd ln zz ff := hs.l hT
    have g2 : sH (z_up h (T 1) (c_A 1 20 L)) U LfU lcU dcU ndU siU moU seU sdU lnU zzU ffU := hu.fr (fun t ht => z_up_n (hTU t 1 ht (by decide)))
    have g3 : ∀ y, (∀ t, t < 153 → y ≠ T t) → (z_up h (T 1) (c_A 1 20 L)) y = h y := fun y hy => z_up_n (hy 1 (by decide))
    refine z_aload_n dX6_takeFrom_38 rfl ?_
    refine z_aload_n dX6_takeFrom_39 rfl ?_
    refine gf_X6_34 dX6_takeFrom_40 g2.1 rfl ?_
    refine pf_X6_34 dX6_takeFrom_43 g1.1 (Nat.le_of_ble_eq_true rfl) ?_
    refine z_iconst dX6_takeFrom_46 ?_
    refine z_istore_n dX6_takeFrom_47 (Nat.le_of_ble_eq_true rfl) rfl ?_
    have k1 : sH (z_up (z_up h (T 1) (c_A 1 20 L)) (T 0) (c_O 5 [z_r (T 1), z_r (T 2), z_i lc, z_i dcU, z_i nd, z_i si, z_i mo, z_i se])) T L lc dcU nd si mo se sd ln zz ff := g1.o hT ⟨g1.2.2.2.2.1, hu.2.2.2.2.2.1, g1.2.2.2.2.2.2.1, g1.2.2.2.2.2.2.2.1, g1.2.2.2.2.2.2.2.2⟩
    have k2 : sH (z_up (z_up h (T 1) (c_A 1 20 L)) (T 0) (c_O 5 [z_r (T 1), z_r (T 2), z_i lc, z_i dcU, z_i nd, z_i si, z_i mo, z_i se])) U LfU lcU dcU ndU siU moU seU sdU lnU zzU ffU := g2.fr (fun t ht => z_up_n (hTU t 0 ht (by decide)))
    have k3 : ∀ y, (∀ t, t < 153 → y ≠ T t) → (z_up (z_up h (T 1) (c_A 1 20 L)) (T 0) (c_O 5 [z_r (T 1), z_r (T 2), z_i lc, z_i dcU, z_i nd, z_i si, z_i mo, z_i se])) y = h y := fun y hy => (z_up_n (hy 0 (by decide))).trans (g3 y hy)
    have L5 : ∀ (fu r : Nat) (H : z_H) (sd' ln' zz' : Nat → Int) (ff' : Nat → z_row) (y3 y4 : z_V), (r : Int) ≤ dcU → sH H T L lc dcU nd si mo se sd' ln' zz' ff' → sH H U LfU lcU dcU ndU siU moU seU sdU lnU zzU ffU → (∀ y, (∀ t, t < 153 → y ≠ T t) → H y = h y) → cpR (r : Int) sdU lnU zzU ffU sd' ln' zz' ff' → 51 - r < fu → z_w g X cX6_takeFrom RX6 (3, 0, 0) 48 [z_r (T 0), z_r (U 0), z_i (r : Int), y3, y4] [] H 0 0 := by
      intro fu
      induction fu with
      | zero => intro r H sd' ln' zz' ff' y3 y4 h1 h2 h3 h4 h5 h6; exact absurd h6 (Nat.not_lt_zero _)
      | succ fu ih =>
        intro r H sd' ln' zz' ff' y3 y4 q1 m1 m2 m3 m4 hm
        have hdb := hu.2.2.2.2.2.1
        refine z_iload_n dX6_takeFrom_48 rfl ?_
        refine z_aload_n dX6_takeFrom_49 rfl ?_
        refine gf_X6_34 dX6_takeFrom_50 m1.1 rfl ?_
        refine z_icmp_ge dX6_takeFrom_53 (tgt := 90) rfl ⟨by omega, by omega⟩ ⟨by omega, by omega⟩ (fun c1 => ?_) (fun c1 => ?_)
        · skip
          refine z_aload_n dX6_takeFrom_90 rfl ?_
          refine z_aload_n dX6_takeFrom_91 rfl ?_
          refine gf_X6_45 dX6_takeFrom_92 m2.1 rfl ?_
          refine pf_X6_45 dX6_takeFrom_95 m1.1 (Nat.le_of_ble_eq_true rfl) ?_
          refine z_aload_n dX6_takeFrom_98 rfl ?_
          refine z_aload_n dX6_takeFrom_99 rfl ?_
          refine gf_X6_48 dX6_takeFrom_100 ((z_up_n (hTU 0 0 (by decide) (by decide))).trans m2.1) rfl ?_
          refine pf_X6_48 dX6_takeFrom_103 z_up_s (Nat.le_of_ble_eq_true rfl) ?_
          refine z_aload_n dX6_takeFrom_106 rfl ?_
          refine z_aload_n dX6_takeFrom_107 rfl ?_
          refine gf_X6_23 dX6_takeFrom_108 ((z_up_n (hTU 0 0 (by decide) (by decide))).trans ((z_up_n (hTU 0 0 (by decide) (by decide))).trans m2.1)) rfl ?_
          refine pf_X6_23 dX6_takeFrom_111 z_up_s (Nat.le_of_ble_eq_true rfl) ?_
          refine z_aload_n dX6_takeFrom_114 rfl ?_
          refine z_aload_n dX6_takeFrom_115 rfl ?_
          refine gf_X6_27 dX6_takeFrom_116 ((z_up_n (hTU 0 0 (by decide) (by decide))).trans ((z_up_n (hTU 0 0 (by decide) (by decide))).trans ((z_up_n (hTU 0 0 (by decide) (by decide))).trans m2.1))) rfl ?_
          refine pf_X6_27 dX6_takeFrom_119 z_up_s (Nat.le_of_ble_eq_true rfl) ?_
          refine z_aload_n dX6_takeFrom_122 rfl ?_
          refine z_aload_n dX6_takeFrom_123 rfl ?_
          refine gf_X6_30 dX6_takeFrom_124 ((z_up_n (hTU 0 0 (by decide) (by decide))).trans ((z_up_n (hTU 0 0 (by decide) (by decide))).trans ((z_up_n (hTU 0 0 (by decide) (by decide))).trans ((z_up_n (hTU 0 0 (by decide) (by decide))).trans m2.1)))) rfl ?_
          refine pf_X6_30 dX6_takeFrom_127 z_up_s (Nat.le_of_ble_eq_true rfl) ?_
          refine z_heq (h' := z_up H (T 0) (c_O 5 [z_r (T 1), z_r (T 2), z_i lcU, z_i dcU, z_i ndU, z_i siU, z_i moU, z_i seU])) (by simp only [z_up_up]; rfl) ?_
          have n9 := m1.o hT (lc' := lcU) (dc' := dcU) (nd' := ndU) (si' := siU) (mo' := moU) (se' := seU) ⟨hu.2.2.2.2.1, hu.2.2.2.2.2.1, hu.2.2.2.2.2.2.1, hu.2.2.2.2.2.2.2.1, hu.2.2.2.2.2.2.2.2⟩
          exact z_vret F dX6_takeFrom_130 rfl (by decide) ⟨rfl, L, sd', ln', zz', ff', n9, hLL, (show (r : Int) = dcU by omega) ▸ m4, fun y hy => (z_up_n (hy 0 (by decide))).trans (m3 y hy)⟩
        · skip
          refine z_aload_n dX6_takeFrom_56 rfl ?_
          refine z_iload_n dX6_takeFrom_57 rfl ?_
          refine cs_X6_37 dX6_takeFrom_58 (D_X6_doneAt m1 (i := (r : Int)) ⟨by omega, by omega⟩) m1.1 rfl rfl (Nat.le_of_ble_eq_true rfl) (by decide) (fun rv h9 hq => ?_)
          have hq1 := hq.1
          have hq2 := hq.2
          subst hq1
          subst hq2
          rw [if_pos ⟨by omega, by omega⟩, Int.toNat_natCast]
          refine z_ks ?_
          refine z_astore_n dX6_takeFrom_61 (Nat.le_of_ble_eq_true rfl) rfl ?_
          refine z_aload_n dX6_takeFrom_62 rfl ?_
          refine z_iload_n dX6_takeFrom_63 rfl ?_
          refine cs_X6_37 dX6_takeFrom_64 (D_X6_doneAt m2 (i := (r : Int)) ⟨by omega, by omega⟩) m2.1 rfl rfl (Nat.le_of_ble_eq_true rfl) (by decide) (fun rv h9 hq => ?_)
          have hq1 := hq.1
          have hq2 := hq.2
          subst hq1
          subst hq2
          rw [if_pos ⟨by omega, by omega⟩, Int.toNat_natCast]
          refine z_ks ?_
          refine z_astore dX6_takeFrom_67 (Nat.le_of_ble_eq_true rfl) rfl ?_
          refine z_aload_n dX6_takeFrom_69 rfl ?_
          refine z_ifnull dX6_takeFrom_70 (tgt := 84) rfl (fun c2 => by cases c2) (fun _ _ => ?_)
          refine z_aload dX6_takeFrom_73 rfl ?_
          refine z_ifnull dX6_takeFrom_75 (tgt := 84) rfl (fun c3 => by cases c3) (fun _ _ => ?_)
          refine z_aload_n dX6_takeFrom_78 rfl ?_
          refine z_aload dX6_takeFrom_79 rfl ?_
          refine cs_X6_41 dX6_takeFrom_81 (D_X1_takeFrom (m1.2.2.2.1 r (by omega)) (m2.2.2.2.1 r (by omega)) (hTU _ _ (by omega) (by omega)) (hTU _ _ (by omega) (by omega)) (hTU _ _ (by omega) (by omega))) (m1.2.2.2.1 r (by omega)).1 rfl rfl (Nat.le_of_ble_eq_true rfl) (by decide) (z_kv ?_)
          have n1 := m1.d hT (r := r) (by omega) (s := sdU r) (l := lnU r) (Z := zzU r) (f := va_cpy (ffU r) (ff' r) 0 0 (zzU r).toNat) ⟨(m2.2.2.2.1 r (by omega)).2.2.2.1, (m2.2.2.2.1 r (by omega)).2.2.2.2⟩
          skip
          refine z_iinc dX6_takeFrom_84 rfl rfl ?_
          refine z_goto dX6_takeFrom_87 (tgt := 48) rfl ?_
          exact ih (r + 1) _ _ _ _ _ _ _ (by omega) n1 (m2.fr (fun t ht => (z_up_n (hTU t (3 + 3 * r) ht (by omega))).trans ((z_up_n (hTU t (5 + 3 * r) ht (by omega))).trans (z_up_n (hTU t (4 + 3 * r) ht (by omega)))))) (fun y hy => (z_up_n (hy _ (by omega))).trans ((z_up_n (hy _ (by omega))).trans ((z_up_n (hy _ (by omega))).trans (m3 y hy)))) (fun i hi => by
            rcases (show i < r ∨ i = r by omega) with c | c
            · rw [z_sf_n (by omega), z_sf_n (by omega), z_sf_n (by omega), updF_n (by omega)]
              exact m4 i (by omega)
            · subst c
              rw [z_sf_s, z_sf_s, z_sf_s, updF_s]
              exact ⟨rfl, rfl, rfl, fun j hj => by unfold va_cpy; rw [if_pos (by omega)]; congr 1; omega⟩) (by omega)
    exact L5 52 0 _ sd ln zz ff _ _ (by have := hu.2.2.2.2.2.1; omega) k1 k2 k3 (fun i hi => absurd hi (by omega)) (by omega)
  refine z_iconst dX6_takeFrom_0 ?_
  refine z_istore_n dX6_takeFrom_1 (Nat.le_of_ble_eq_true rfl) rfl ?_
  refine z_heq (z_up_self hs.2.1).symm ?_
  have L4 : ∀ (fu r : Nat) (L : Nat → Option Nat), r ≤ 20 → (∀ i, i < r → L i = LfU i) → 20 - r < fu → z_w g X cX6_takeFrom RX6 (3, 0, 0) 2 [z_r (T 0), z_r (U 0), z_i (r : Int), z_u, z_u] [] (z_up h (T 1) (c_A 1 20 L)) 0 0 := by
    intro fu
    induction fu with
    | zero => intro r L h1 h2 h3; exact absurd h3 (Nat.not_lt_zero _)
    | succ fu ih =>
      intro r L q1 q2 hm
      have g1 : sH (z_up h (T 1) (c_A 1 20 L)) T L lc dc nd si mo se sd ln zz ff := hs.l hT
      have g2 : sH (z_up h (T 1) (c_A 1 20 L)) U LfU lcU dcU ndU siU moU seU sdU lnU zzU ffU := hu.fr (fun t ht => z_up_n (hTU t 1 ht (by decide)))
      refine z_iload_n dX6_takeFrom_2 rfl ?_
      refine z_aload_n dX6_takeFrom_3 rfl ?_
      refine gf_X6_11 dX6_takeFrom_4 g1.1 rfl ?_
      refine z_alenA dX6_takeFrom_7 (by decide) g1.2.1 ?_
      refine z_icmp_ge dX6_takeFrom_8 (tgt := 38) rfl ⟨by omega, by omega⟩ (by decide) (fun c4 => ?_) (fun c4 => ?_)
      · skip
        obtain rfl : r = 20 := by omega
        exact K38 L q2 _
      · skip
        refine z_iload_n dX6_takeFrom_11 rfl ?_
        refine z_aload_n dX6_takeFrom_12 rfl ?_
        refine gf_X6_11 dX6_takeFrom_13 g2.1 rfl ?_
        refine z_alenA dX6_takeFrom_16 (by decide) g2.2.1 ?_
        refine z_icmp_ge dX6_takeFrom_17 (tgt := 38) rfl ⟨by omega, by omega⟩ (by decide) (fun c5 => ?_) (fun c5 => ?_)
        · skip
          exfalso
          omega
        · skip
          refine z_aload_n dX6_takeFrom_20 rfl ?_
          refine gf_X6_11 dX6_takeFrom_21 g1.1 rfl ?_
          refine z_iload_n dX6_takeFrom_24 rfl ?_
          refine z_aload_n dX6_takeFrom_25 rfl ?_
          refine gf_X6_11 dX6_takeFrom_26 g2.1 rfl ?_
          refine z_iload_n dX6_takeFrom_29 rfl ?_
          refine z_aaldN (m := r) dX6_takeFrom_30 (by decide) g2.2.1 (by omega) ⟨by omega, by omega⟩ ?_
          cases hLr : LfU r with
          | none =>
            refine z_vst (y := z_n) rfl ?_
            refine z_aastN dX6_takeFrom_31 g1.2.1 ⟨by omega, by omega, by omega⟩ (by decide) ?_
            refine z_heq (h' := z_up h (T 1) (c_A 1 20 (z_sq L r none))) (by rw [z_up_up, Int.toNat_natCast]) ?_
            refine z_iinc dX6_takeFrom_32 rfl rfl ?_
            refine z_goto dX6_takeFrom_35 (tgt := 2) rfl ?_
            exact ih (r + 1) _ (by omega) (fun i hi => by rcases (show i < r ∨ i = r by omega) with c | c; (show z_sq L r _ i = _; unfold z_sq; rw [if_neg (by omega)]; exact q2 i c); (show z_sq L r _ i = _; unfold z_sq; rw [if_pos c, c, hLr])) (by omega)
          | some a9 =>
            obtain ⟨⟨fs9, ha9⟩, hb9⟩ := hL r (by omega) a9 hLr
            refine z_vst (y := z_r a9) rfl ?_
            refine z_aastQ (m := r) dX6_takeFrom_31 g1.2.1 rfl ⟨by omega, by omega⟩ ((z_up_n (hb9 1 (by decide))).trans ha9) rfl rfl ?_
            refine z_heq (h' := z_up h (T 1) (c_A 1 20 (z_sq L r (some a9)))) z_up_up ?_
            refine z_iinc dX6_takeFrom_32 rfl rfl ?_
            refine z_goto dX6_takeFrom_35 (tgt := 2) rfl ?_
            exact ih (r + 1) _ (by omega) (fun i hi => by rcases (show i < r ∨ i = r by omega) with c | c; (show z_sq L r _ i = _; unfold z_sq; rw [if_neg (by omega)]; exact q2 i c); (show z_sq L r _ i = _; unfold z_sq; rw [if_pos c, c, hLr])) (by omega)
  exact L4 21 0 Lf (Nat.zero_le _) (fun i hi => absurd hi (Nat.not_lt_zero _)) (by omega)
