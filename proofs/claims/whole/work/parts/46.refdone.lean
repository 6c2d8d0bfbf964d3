/-! what a working comes to -/
def wkI (y : Int) (q : wkT) : Prop := k_l q + sG kT (k_f q) (k_z q).toNat = y ∧ k_m q = sG kM (k_f q) (k_z q).toNat ∧ 0 ≤ k_z q
theorem wkI_1 {y kd : Int} {q : wkT} (h : wkI y q) : wkI y (wk1 kd q) := by
  obtain ⟨h1, h2, h3⟩ := h
  obtain ⟨z, hz⟩ : ∃ z : Nat, k_z q = (z : Int) := ⟨(k_z q).toNat, by omega⟩
  have e : ∀ t, sG t (z_sf (k_f q) (k_z q).toNat kd) (k_z q + 1).toNat = sG t (k_f q) (k_z q).toNat + t kd := fun t => by
    rw [hz, show ((z : Int) + 1).toNat = z + 1 by omega, show (z : Int).toNat = z by omega, sG_s, z_sf_s, sG_ag z (fun j hj => z_sf_n (by omega))]
  refine ⟨?_, ?_, ?_⟩
  · show k_l q - kT kd + sG kT (z_sf (k_f q) (k_z q).toNat kd) (k_z q + 1).toNat = y
    rw [e]
    omega
  · show k_m q + kM kd = sG kM (z_sf (k_f q) (k_z q).toNat kd) (k_z q + 1).toNat
    rw [e]
    omega
  · show 0 ≤ k_z q + 1
    omega
theorem wkI_W {y kd a w : Int} : ∀ m q, wkI y q → wkI y (wkW kd a w m q) := by
  intro m
  induction m with
  | zero => intro q h; exact h
  | succ m ih =>
    intro q h
    unfold wkW
    split
    · exact ih _ (wkI_1 h)
    · exact h
theorem wkI_M {y : Int} {body : wkT → wkT} (hb : ∀ q, wkI y q → wkI y (body q)) {a : Int} {w : Nat} : ∀ m tm q, wkI y q → wkI y (wkM body a w m tm q) := by
  intro m
  induction m with
  | zero => intro tm q h; exact h
  | succ m ih =>
    intro tm q h
    have h1 : wkI y (body (wkE a tm w q)) := hb _ h
    unfold wkM
    split
    · exact h1
    · exact ih _ _ h1
theorem wkI_L {y : Int} {body : wkT → wkT} (hb : ∀ q, wkI y q → wkI y (body q)) {b a : Int} {w : Nat} : ∀ m tm q, wkI y q → wkI y (wkL body b a w m tm q) := by
  intro m
  induction m with
  | zero =>
    intro tm q h
    unfold wkL
    split
    · exact h
    · exact h
  | succ m ih =>
    intro tm q h
    have h1 : wkI y (body (wkE a tm w q)) := hb _ h
    unfold wkL
    split
    · split
      · exact h1
      · split
        · exact h1
        · exact ih _ _ h1
    · split
      · exact h
      · exact h
theorem wkI_Q {y : Int} {fe : z_row} {part : Nat → wkT → wkT} (hp : ∀ p q, wkI y q → wkI y (part p q)) : ∀ m p e q, wkI y q → wkI y (wkQ fe part m p e q) := by
  intro m
  induction m with
  | zero => intro p e q h; exact h
  | succ m ih =>
    intro p e q h
    unfold wkQ
    split
    · exact ih _ _ _ (hp _ _ h)
    · exact h
theorem wkI_D {y : Int} {fs fp fn fe : z_row} : ∀ d w p e q, wkI y q → wkI y (wkD fs fp fn fe d w p e q) := by
  intro d
  induction d with
  | zero => intro w p e q h; exact h
  | succ d ih =>
    intro w p e q h
    refine wkI_Q (fun p q h => ?_) _ _ _ _ h
    unfold wkP
    split
    · exact wkI_M (fun q h => ih _ _ _ q h) _ _ _ h
    · split
      · exact wkI_L (fun q h => ih _ _ _ q h) _ _ _ h
      · exact wkI_W _ _ h
/-- a row worked whole took all that there was -/
theorem wkR_I {n : Nat} {t : z_row} {G : z_G4} {y : Int} (hn : n ≤ 250) (hG : sgG n t G) (hy : 0 ≤ y ∧ y ≤ 60) (h0 : k_h (wkR n G y) = 0) : sG kT (k_f (wkR n G y)) (k_z (wkR n G y)).toNat = y ∧ k_m (wkR n G y) = sG kM (k_f (wkR n G y)) (k_z (wkR n G y)).toNat := by
  have hI := wkI_D (y := y) (fs := G.1) (fp := G.2.1) (fn := G.2.2.1) (fe := G.2.2.2.1) 6 0 0 G.2.2.2.2 (fun _ => 0, fun _ => 0, fun _ => 0, 0, y, 0, 0, 0, 0) ⟨by show y + 0 = y; omega, rfl, by show (0 : Int) ≤ 0; omega⟩
  have hO := wkD_O hn 6 0 0 _ 0 n (by decide) hG _ (wkI_O (f := fun _ => 0) (fp := fun _ => 0) (ft := fun _ => 0) (a := 0) hy (by omega))
  unfold wkR wkA at h0 ⊢
  by_cases c : k_h (wkD G.1 G.2.1 G.2.2.1 G.2.2.2.1 6 0 0 G.2.2.2.2 (fun _ => 0, fun _ => 0, fun _ => 0, 0, y, 0, 0, 0, 0)) = 0 ∧ k_l (wkD G.1 G.2.1 G.2.2.1 G.2.2.2.1 6 0 0 G.2.2.2.2 (fun _ => 0, fun _ => 0, fun _ => 0, 0, y, 0, 0, 0, 0)) > 0
  · rw [if_pos c] at h0
    exact absurd h0 (by show ¬ (6 : Int) = 0; decide)
  · rw [if_neg c] at h0 ⊢
    have hl := hO.2.1.1
    obtain ⟨h1, h2, h3⟩ := hI
    exact ⟨by omega, h2⟩
/-! the state: what is written -/
def cpA (N : z_row) (b m : Nat) (f : z_row) : z_row := fun k => if b ≤ k ∧ k < b + m then f (k - b) else N k
theorem cpA_0 {N : z_row} {b : Nat} {f : z_row} : cpA N b 0 f = N := by
  funext k
  exact if_neg (by omega)
theorem cpA_s {N : z_row} {b m : Nat} {f : z_row} {j : Nat} {x : Int} (hj : j = b + m) (hx : x = f m) : z_sf (cpA N b m f) j x = cpA N b (m + 1) f := by
  funext k
  subst hj hx
  show (if k = b + m then f m else (if b ≤ k ∧ k < b + m then f (k - b) else N k)) = (if b ≤ k ∧ k < b + (m + 1) then f (k - b) else N k)
  by_cases h : k = b + m
  · rw [if_pos h, if_pos (by omega), h, show b + m - b = m by omega]
  · rw [if_neg h]
    by_cases h2 : b ≤ k ∧ k < b + m
    · rw [if_pos h2, if_pos (by omega)]
    · rw [if_neg h2, if_neg (by omega)]
theorem cpA_ag {N : z_row} {b m : Nat} {f u : z_row} (h : ∀ j, j < m → u j = f j) : cpA N b m u = cpA N b m f := by
  funext k
  show (if b ≤ k ∧ k < b + m then u (k - b) else N k) = (if b ≤ k ∧ k < b + m then f (k - b) else N k)
  by_cases h2 : b ≤ k ∧ k < b + m
  · rw [if_pos h2, if_pos h2, h _ (by omega)]
  · rw [if_neg h2, if_neg h2]
/-- a worked row more -/
def dnN (N : z_row) (i : Int) (f : z_row) (z : Nat) (m : Int) : z_row :=
  z_sf (z_sf (z_sf (cpA (z_sf (z_sf (z_sf (z_sf N (5026 + 204 * (N 5025).toNat) (N 5022)) (5026 + 204 * (N 5025).toNat + 1) i) (5026 + 204 * (N 5025).toNat + 2) (z : Int)) (5026 + 204 * (N 5025).toNat + 3) (N 5023)) (5026 + 204 * (N 5025).toNat + 4) z f) 5025 (N 5025 + 1)) 5023 m) 5022 (if N 5021 = 0 then 1 - N 5022 else N 5022)
theorem dnN_ag {N : z_row} {i m : Int} {f u : z_row} {z : Nat} (h : ∀ j, j < z → u j = f j) : dnN N i u z m = dnN N i f z m := by
  unfold dnN
  rw [cpA_ag h]
/-- as many worked rows as m -/
def rpN (N : z_row) (m : Nat) : z_row := z_sf (z_sf (z_sf N 5025 (m : Int)) 5023 (N (5026 + 204 * m + 3))) 5022 (N (5026 + 204 * m))
/-- a row more -/
def lnN (N : z_row) (n : Nat) (t : z_row) : z_row := z_sf (cpA (z_sf N (251 * (N 5020).toNat) (n : Int)) (251 * (N 5020).toNat + 1) n t) 5020 (N 5020 + 1)
set_option maxHeartbeats 4000000 in
set_option maxRecDepth 100000 in
theorem D_X9_done {g : z_G} {h0 : z_H} {A : Nat → Nat} (hM : mD A) {Rf Nw Th Tp Tx Kd Ia It Lk Ho Sz Im Mv : Nat → Int} {kp ln sz at_ we pa de ti lf md hi ha is_ ca : Int} {M mz : Nat} (hM9 : Nw 5025 = (M : Int)) (hM5 : M < 50) (hmz : mz ≤ 200) (h22 : z_in (Nw 5022)) (h21 : z_in (Nw 5021)) {i9 : Int} : z_D g mX9_done 1 0 0 [z_r (A 0), z_i i9] (MH h0 A Rf Nw Th Tp Tx Kd Ia It Lk Ho Sz Im Mv kp ln sz at_ we pa de ti lf md (mz : Int) hi ha is_ ca) (z_Pv (MH h0 A Rf (dnN Nw i9 Kd mz md) Th Tp Tx Kd Ia It Lk Ho Sz Im Mv kp ln sz at_ we pa de ti lf md (mz : Int) hi ha is_ ca)) := by
  refine z_D.of (by decide +kernel) (Nat.le_of_ble_eq_true rfl) (fun X F => ?_)
  obtain ⟨b, hb⟩ : ∃ b : Nat, b = 5026 + 204 * M := ⟨_, rfl⟩
  have hb2 : 5026 + 204 * (Nw 5025).toNat = b := by omega
  show z_w g X cX9_done RX9 (1, 0, 0) 0 [z_r (A 0), z_i i9, z_u, z_u] [] (MH h0 A Rf Nw Th Tp Tx Kd Ia It Lk Ho Sz Im Mv kp ln sz at_ we pa de ti lf md (mz : Int) hi ha is_ ca) 0 0
  refine z_sipush dX9_done_0 rfl ?_
  refine z_sipush dX9_done_3 rfl ?_
  refine z_aload_n dX9_done_6 rfl ?_
  refine gf_X9_13 dX9_done_7 MH_0 rfl ?_
  refine z_sipush dX9_done_10 rfl ?_
  refine z_ialdN (m := 5025) dX9_done_13 (MH_2 hM) rfl ⟨by decide, by decide⟩ ?_
  refine z_ieq (y := (M : Int)) hM9 ?_
  refine z_imul dX9_done_14 ?_
  refine z_iadd dX9_done_15 ?_
  refine z_ieq (y := (b : Int)) (by omega) ?_
  refine z_istore_n dX9_done_16 (Nat.le_of_ble_eq_true rfl) rfl ?_
  refine z_aload_n dX9_done_17 rfl ?_
  refine gf_X9_13 dX9_done_18 MH_0 rfl ?_
  refine z_iload_n dX9_done_21 rfl ?_
  refine z_aload_n dX9_done_22 rfl ?_
  refine gf_X9_13 dX9_done_23 MH_0 rfl ?_
  refine z_sipush dX9_done_26 rfl ?_
  refine z_ialdN (m := 5022) dX9_done_29 (MH_2 hM) rfl ⟨by decide, by decide⟩ ?_
  refine z_iastN (m := b) dX9_done_30 (MH_2 hM) (by omega) ⟨by omega, by omega⟩ ?_
  refine z_heq (MHu_2 hM) ?_
  refine z_aload_n dX9_done_31 rfl ?_
  refine gf_X9_13 dX9_done_32 MH_0 rfl ?_
  refine z_iload_n dX9_done_35 rfl ?_
  refine z_iconst dX9_done_36 ?_
  refine z_iadd dX9_done_37 ?_
  refine z_iload_n dX9_done_38 rfl ?_
  refine z_iastN (m := (b + 1)) dX9_done_39 (MH_2 hM) (by omega) ⟨by omega, by omega⟩ ?_
  refine z_heq (MHu_2 hM) ?_
  refine z_aload_n dX9_done_40 rfl ?_
  refine gf_X9_13 dX9_done_41 MH_0 rfl ?_
  refine z_iload_n dX9_done_44 rfl ?_
  refine z_iconst dX9_done_45 ?_
  refine z_iadd dX9_done_46 ?_
  refine z_aload_n dX9_done_47 rfl ?_
  refine gf_X9_157 dX9_done_48 MH_0 rfl ?_
  refine z_iastN (m := (b + 2)) dX9_done_51 (MH_2 hM) (by omega) ⟨by omega, by omega⟩ ?_
  refine z_heq (MHu_2 hM) ?_
  refine z_aload_n dX9_done_52 rfl ?_
  refine gf_X9_13 dX9_done_53 MH_0 rfl ?_
  refine z_iload_n dX9_done_56 rfl ?_
  refine z_iconst dX9_done_57 ?_
  refine z_iadd dX9_done_58 ?_
  refine z_aload_n dX9_done_59 rfl ?_
  refine gf_X9_13 dX9_done_60 MH_0 rfl ?_
  refine z_sipush dX9_done_63 rfl ?_
  refine z_ialdN (m := 5023) dX9_done_66 (MH_2 hM) rfl ⟨by decide, by decide⟩ ?_
  refine z_ieq (y := Nw 5023) (by rw [z_sf_n (by omega), z_sf_n (by omega), z_sf_n (by omega)]) ?_
  refine z_iastN (m := (b + 3)) dX9_done_67 (MH_2 hM) (by omega) ⟨by omega, by omega⟩ ?_
  refine z_heq (MHu_2 hM) ?_
  refine z_iconst dX9_done_68 ?_
  refine z_istore_n dX9_done_69 (Nat.le_of_ble_eq_true rfl) rfl ?_
  refine z_heq (h' := (MH h0 A Rf (cpA (z_sf (z_sf (z_sf (z_sf Nw b (Nw 5022)) (b + 1) i9) (b + 2) (mz : Int)) (b + 3) (Nw 5023)) (b + 4) 0 Kd) Th Tp Tx Kd Ia It Lk Ho Sz Im Mv kp ln sz at_ we pa de ti lf md (mz : Int) hi ha is_ ca)) (by rw [cpA_0]) ?_
  have L4 : ∀ (fu : Nat) (r : Nat) (q1 : r ≤ mz), mz - r < fu → z_w g X cX9_done RX9 (1, 0, 0) 70 [z_r (A 0), z_i i9, z_i (b : Int), z_i (r : Int)] [] (MH h0 A Rf (cpA (z_sf (z_sf (z_sf (z_sf Nw b (Nw 5022)) (b + 1) i9) (b + 2) (mz : Int)) (b + 3) (Nw 5023)) (b + 4) r Kd) Th Tp Tx Kd Ia It Lk Ho Sz Im Mv kp ln sz at_ we pa de ti lf md (mz : Int) hi ha is_ ca) 0 0 := by
    intro fu
    induction fu with
    | zero => intro r q1 hm; exact absurd hm (Nat.not_lt_zero _)
    | succ fu ih =>
      intro r q1 hm
      refine z_iload_n dX9_done_70 rfl ?_
      refine z_aload_n dX9_done_71 rfl ?_
      refine gf_X9_157 dX9_done_72 MH_0 rfl ?_
      refine z_icmp_ge dX9_done_75 (tgt := 100) rfl ⟨by omega, by omega⟩ ⟨by omega, by omega⟩ (fun c1 => ?_) (fun c1 => ?_)
      · skip
        obtain rfl : r = mz := by omega
        refine z_aload_n dX9_done_100 rfl ?_
        refine gf_X9_13 dX9_done_101 MH_0 rfl ?_
        refine z_sipush dX9_done_104 rfl ?_
        refine z_dup2 dX9_done_107 rfl rfl ?_
        refine z_ialdN (m := 5025) dX9_done_108 (MH_2 hM) rfl ⟨by decide, by decide⟩ ?_
        refine z_ieq (y := Nw 5025) (by unfold cpA; rw [if_neg (by omega), z_sf_n (by omega), z_sf_n (by omega), z_sf_n (by omega), z_sf_n (by omega)]) ?_
        refine z_iconst dX9_done_109 ?_
        refine z_iadd dX9_done_110 ?_
        refine z_iastN (m := 5025) dX9_done_111 (MH_2 hM) rfl ⟨by decide, by decide⟩ ?_
        refine z_heq (MHu_2 hM) ?_
        refine z_aload_n dX9_done_112 rfl ?_
        refine gf_X9_13 dX9_done_113 MH_0 rfl ?_
        refine z_sipush dX9_done_116 rfl ?_
        refine z_aload_n dX9_done_119 rfl ?_
        refine gf_X9_151 dX9_done_120 MH_0 rfl ?_
        refine z_iastN (m := 5023) dX9_done_123 (MH_2 hM) rfl ⟨by decide, by decide⟩ ?_
        refine z_heq (MHu_2 hM) ?_
        refine z_aload_n dX9_done_124 rfl ?_
        refine gf_X9_13 dX9_done_125 MH_0 rfl ?_
        refine z_sipush dX9_done_128 rfl ?_
        refine z_aload_n dX9_done_131 rfl ?_
        refine gf_X9_13 dX9_done_132 MH_0 rfl ?_
        refine z_sipush dX9_done_135 rfl ?_
        refine z_ialdN (m := 5021) dX9_done_138 (MH_2 hM) rfl ⟨by decide, by decide⟩ ?_
        refine z_ieq (y := Nw 5021) (by rw [z_sf_n (by omega), z_sf_n (by omega)]; unfold cpA; rw [if_neg (by omega), z_sf_n (by omega), z_sf_n (by omega), z_sf_n (by omega), z_sf_n (by omega)]) ?_
        refine z_if_ne dX9_done_139 (tgt := 155) rfl h21 (fun c2 => ?_) (fun c2 => ?_)
        · skip
          refine z_aload_n dX9_done_155 rfl ?_
          refine gf_X9_13 dX9_done_156 MH_0 rfl ?_
          refine z_sipush dX9_done_159 rfl ?_
          refine z_ialdN (m := 5022) dX9_done_162 (MH_2 hM) rfl ⟨by decide, by decide⟩ ?_
          refine z_ieq (y := Nw 5022) (by rw [z_sf_n (by omega), z_sf_n (by omega)]; unfold cpA; rw [if_neg (by omega), z_sf_n (by omega), z_sf_n (by omega), z_sf_n (by omega), z_sf_n (by omega)]) ?_
          refine z_ieq (y := if Nw 5021 = 0 then 1 - Nw 5022 else Nw 5022) (by first | rw [if_pos (by omega)] | rw [if_neg (by omega)]) ?_
          refine z_iastN (m := 5022) dX9_done_163 (MH_2 hM) rfl ⟨by decide, by decide⟩ ?_
          refine z_heq (MHu_2 hM) ?_
          exact z_vret F dX9_done_164 rfl (by decide) ⟨rfl, by unfold dnN; rw [hb2]⟩
        · skip
          refine z_iconst dX9_done_142 ?_
          refine z_aload_n dX9_done_143 rfl ?_
          refine gf_X9_13 dX9_done_144 MH_0 rfl ?_
          refine z_sipush dX9_done_147 rfl ?_
          refine z_ialdN (m := 5022) dX9_done_150 (MH_2 hM) rfl ⟨by decide, by decide⟩ ?_
          refine z_ieq (y := Nw 5022) (by rw [z_sf_n (by omega), z_sf_n (by omega)]; unfold cpA; rw [if_neg (by omega), z_sf_n (by omega), z_sf_n (by omega), z_sf_n (by omega), z_sf_n (by omega)]) ?_
          refine z_isub dX9_done_151 ?_
          refine z_goto dX9_done_152 (tgt := 163) rfl ?_
          refine z_ieq (y := if Nw 5021 = 0 then 1 - Nw 5022 else Nw 5022) (by first | rw [if_pos (by omega)] | rw [if_neg (by omega)]) ?_
          refine z_iastN (m := 5022) dX9_done_163 (MH_2 hM) rfl ⟨by decide, by decide⟩ ?_
          refine z_heq (MHu_2 hM) ?_
          exact z_vret F dX9_done_164 rfl (by decide) ⟨rfl, by unfold dnN; rw [hb2]⟩
      · skip
        refine z_aload_n dX9_done_78 rfl ?_
        refine gf_X9_13 dX9_done_79 MH_0 rfl ?_
        refine z_iload_n dX9_done_82 rfl ?_
        refine z_iconst dX9_done_83 ?_
        refine z_iadd dX9_done_84 ?_
        refine z_iload_n dX9_done_85 rfl ?_
        refine z_iadd dX9_done_86 ?_
        refine z_aload_n dX9_done_87 rfl ?_
        refine gf_X9_25 dX9_done_88 MH_0 rfl ?_
        refine z_iload_n dX9_done_91 rfl ?_
        refine z_ialdN (m := r) dX9_done_92 (MH_6 hM) (by omega) ⟨by omega, by omega⟩ ?_
        refine z_iastN (m := (b + 4 + r)) dX9_done_93 (MH_2 hM) (by omega) ⟨by omega, by omega⟩ ?_
        refine z_heq (MHu_2 hM) ?_
        refine z_heq (h' := (MH h0 A Rf (cpA (z_sf (z_sf (z_sf (z_sf Nw b (Nw 5022)) (b + 1) i9) (b + 2) (mz : Int)) (b + 3) (Nw 5023)) (b + 4) (r + 1) Kd) Th Tp Tx Kd Ia It Lk Ho Sz Im Mv kp ln sz at_ we pa de ti lf md (mz : Int) hi ha is_ ca)) (by rw [cpA_s rfl rfl]) ?_
        refine z_iinc dX9_done_94 rfl rfl ?_
        refine z_goto dX9_done_97 (tgt := 70) rfl ?_
        exact ih (r + 1) (by omega) (by omega)
  exact L4 (mz + 1) 0 (Nat.zero_le _) (by omega)
set_option maxHeartbeats 4000000 in
set_option maxRecDepth 100000 in
theorem D_X9_rips {g : z_G} {h0 : z_H} {A : Nat → Nat} (hM : mD A) {Rf Nw Th Tp Tx Kd Ia It Lk Ho Sz Im Mv : Nat → Int} {kp ln sz at_ we pa de ti lf md mn hi ha is_ ca : Int} {M m : Nat} (hM9 : Nw 5025 = (M : Int)) (hmM : m ≤ M) (hM5 : M ≤ 50) (hm5 : m < 50) : z_D g mX9_rips 1 0 0 [z_r (A 0), z_i ((M : Int) - (m : Int))] (MH h0 A Rf Nw Th Tp Tx Kd Ia It Lk Ho Sz Im Mv kp ln sz at_ we pa de ti lf md mn hi ha is_ ca) (z_Pv (MH h0 A Rf (rpN Nw m) Th Tp Tx Kd Ia It Lk Ho Sz Im Mv kp ln sz at_ we pa de ti lf md mn hi ha is_ ca)) := by
  refine z_D.of (by decide +kernel) (Nat.le_of_ble_eq_true rfl) (fun X F => ?_)
  show z_w g X cX9_rips RX9 (1, 0, 0) 0 [z_r (A 0), z_i ((M : Int) - (m : Int))] [] (MH h0 A Rf Nw Th Tp Tx Kd Ia It Lk Ho Sz Im Mv kp ln sz at_ we pa de ti lf md mn hi ha is_ ca) 0 0
  refine z_aload_n dX9_rips_0 rfl ?_
  refine gf_X9_13 dX9_rips_1 MH_0 rfl ?_
  refine z_sipush dX9_rips_4 rfl ?_
  refine z_dup2 dX9_rips_7 rfl rfl ?_
  refine z_ialdN (m := 5025) dX9_rips_8 (MH_2 hM) rfl ⟨by decide, by decide⟩ ?_
  refine z_ieq (y := (M : Int)) hM9 ?_
  refine z_iload_n dX9_rips_9 rfl ?_
  refine z_isub dX9_rips_10 ?_
  refine z_ieq (y := (m : Int)) (by omega) ?_
  refine z_iastN (m := 5025) dX9_rips_11 (MH_2 hM) rfl ⟨by decide, by decide⟩ ?_
  refine z_heq (MHu_2 hM) ?_
  refine z_aload_n dX9_rips_12 rfl ?_
  refine gf_X9_13 dX9_rips_13 MH_0 rfl ?_
  refine z_sipush dX9_rips_16 rfl ?_
  refine z_aload_n dX9_rips_19 rfl ?_
  refine gf_X9_13 dX9_rips_20 MH_0 rfl ?_
  refine z_sipush dX9_rips_23 rfl ?_
  refine z_sipush dX9_rips_26 rfl ?_
  refine z_aload_n dX9_rips_29 rfl ?_
  refine gf_X9_13 dX9_rips_30 MH_0 rfl ?_
  refine z_sipush dX9_rips_33 rfl ?_
  refine z_ialdN (m := 5025) dX9_rips_36 (MH_2 hM) rfl ⟨by decide, by decide⟩ ?_
  refine z_ieq (y := (m : Int)) z_sf_s ?_
  refine z_imul dX9_rips_37 ?_
  refine z_iadd dX9_rips_38 ?_
  refine z_iconst dX9_rips_39 ?_
  refine z_iadd dX9_rips_40 ?_
  refine z_ialdN (m := (5026 + 204 * m + 3)) dX9_rips_41 (MH_2 hM) (by omega) ⟨by omega, by omega⟩ ?_
  refine z_ieq (y := Nw (5026 + 204 * m + 3)) (by rw [z_sf_n (by omega)]) ?_
  refine z_iastN (m := 5023) dX9_rips_42 (MH_2 hM) rfl ⟨by decide, by decide⟩ ?_
  refine z_heq (MHu_2 hM) ?_
  refine z_aload_n dX9_rips_43 rfl ?_
  refine gf_X9_13 dX9_rips_44 MH_0 rfl ?_
  refine z_sipush dX9_rips_47 rfl ?_
  refine z_aload_n dX9_rips_50 rfl ?_
  refine gf_X9_13 dX9_rips_51 MH_0 rfl ?_
  refine z_sipush dX9_rips_54 rfl ?_
  refine z_sipush dX9_rips_57 rfl ?_
  refine z_aload_n dX9_rips_60 rfl ?_
  refine gf_X9_13 dX9_rips_61 MH_0 rfl ?_
  refine z_sipush dX9_rips_64 rfl ?_
  refine z_ialdN (m := 5025) dX9_rips_67 (MH_2 hM) rfl ⟨by decide, by decide⟩ ?_
  refine z_ieq (y := (m : Int)) (by rw [z_sf_n (by omega), z_sf_s] ) ?_
  refine z_imul dX9_rips_68 ?_
  refine z_iadd dX9_rips_69 ?_
  refine z_ialdN (m := (5026 + 204 * m)) dX9_rips_70 (MH_2 hM) (by omega) ⟨by omega, by omega⟩ ?_
  refine z_ieq (y := Nw (5026 + 204 * m)) (by rw [z_sf_n (by omega), z_sf_n (by omega)]) ?_
  refine z_iastN (m := 5022) dX9_rips_71 (MH_2 hM) rfl ⟨by decide, by decide⟩ ?_
  refine z_heq (MHu_2 hM) ?_
  exact z_vret F dX9_rips_72 rfl (by decide) ⟨rfl, rfl⟩
set_option maxHeartbeats 4000000 in
set_option maxRecDepth 100000 in
theorem D_X9_adds {g : z_G} {h0 : z_H} {A : Nat → Nat} (hM : mD A) {Rf Nw Th Tp Tx Kd Ia It Lk Ho Sz Im Mv : Nat → Int} {kp ln sz at_ we pa de ti lf md mn hi ha is_ : Int} {c : Nat} (hc : c < 10) {x y v : Int} : z_D g mX9_adds 1 0 0 [z_r (A 0), z_i x, z_i y, z_i v] (MH h0 A Rf Nw Th Tp Tx Kd Ia It Lk Ho Sz Im Mv kp ln sz at_ we pa de ti lf md mn hi ha is_ (c : Int)) (fun rv h' => rv = none ∧ ∃ Lk' : z_row, (∀ j, j < 3 * c → Lk' j = Lk j) ∧ Lk' (3 * c) = x ∧ Lk' (3 * c + 1) = y ∧ Lk' (3 * c + 2) = v ∧ h' = (MH h0 A Rf Nw Th Tp Tx Kd Ia It Lk' Ho Sz Im Mv kp ln sz at_ we pa de ti lf md mn hi ha is_ ((c : Int) + 1))) := by
  refine z_D.of (by decide +kernel) (Nat.le_of_ble_eq_true rfl) (fun X F => ?_)
  show z_w g X cX9_adds RX9 (1, 0, 0) 0 [z_r (A 0), z_i x, z_i y, z_i v] [] (MH h0 A Rf Nw Th Tp Tx Kd Ia It Lk Ho Sz Im Mv kp ln sz at_ we pa de ti lf md mn hi ha is_ (c : Int)) 0 0
  refine z_aload_n dX9_adds_0 rfl ?_
  refine gf_X9_34 dX9_adds_1 MH_0 rfl ?_
  refine z_iconst dX9_adds_4 ?_
  refine z_aload_n dX9_adds_5 rfl ?_
  refine gf_X9_180 dX9_adds_6 MH_0 rfl ?_
  refine z_imul dX9_adds_9 ?_
  refine z_iload_n dX9_adds_10 rfl ?_
  refine z_iast dX9_adds_11 (MH_9 hM) ⟨by omega, by omega, by omega⟩ ?_
  refine z_heq (MHu_9 hM) ?_
  refine z_aload_n dX9_adds_12 rfl ?_
  refine gf_X9_34 dX9_adds_13 MH_0 rfl ?_
  refine z_iconst dX9_adds_16 ?_
  refine z_aload_n dX9_adds_17 rfl ?_
  refine gf_X9_180 dX9_adds_18 MH_0 rfl ?_
  refine z_imul dX9_adds_21 ?_
  refine z_iconst dX9_adds_22 ?_
  refine z_iadd dX9_adds_23 ?_
  refine z_iload_n dX9_adds_24 rfl ?_
  refine z_iast dX9_adds_25 (MH_9 hM) ⟨by omega, by omega, by omega⟩ ?_
  refine z_heq (MHu_9 hM) ?_
  refine z_aload_n dX9_adds_26 rfl ?_
  refine gf_X9_34 dX9_adds_27 MH_0 rfl ?_
  refine z_iconst dX9_adds_30 ?_
  refine z_aload_n dX9_adds_31 rfl ?_
  refine gf_X9_180 dX9_adds_32 MH_0 rfl ?_
  refine z_imul dX9_adds_35 ?_
  refine z_iconst dX9_adds_36 ?_
  refine z_iadd dX9_adds_37 ?_
  refine z_iload_n dX9_adds_38 rfl ?_
  refine z_iast dX9_adds_39 (MH_9 hM) ⟨by omega, by omega, by omega⟩ ?_
  refine z_heq (MHu_9 hM) ?_
  refine z_aload_n dX9_adds_40 rfl ?_
  refine z_dup dX9_adds_41 rfl ?_
  refine gf_X9_180 dX9_adds_42 MH_0 rfl ?_
  refine z_iconst dX9_adds_45 ?_
  refine z_iadd dX9_adds_46 ?_
  refine pf_X9_180 dX9_adds_47 MH_0 (Nat.le_of_ble_eq_true rfl) ?_
  refine z_heq MHu_0 ?_
  exact z_vret F dX9_adds_50 rfl (by decide) ⟨rfl, _, fun j hj => by rw [z_sf_n (by omega), z_sf_n (by omega), z_sf_n (by omega)], by rw [z_sf_n (by omega), z_sf_n (by omega), show (3 * (c : Int)).toNat = 3 * c by omega, z_sf_s], by rw [z_sf_n (by omega), show (3 * (c : Int) + 1).toNat = 3 * c + 1 by omega, z_sf_s], by rw [show (3 * (c : Int) + 2).toNat = 3 * c + 2 by omega, z_sf_s], rfl⟩
/-! why -/
def lkQ (tm li : Int) (q : wkT) (n : Nat) : Int × Int × Int :=
  if tm > 0 ∧ n = 0 then (12, tm, li) else if n = (if tm > 0 then 1 else 0) then (11, li, k_z q) else if n < (if tm > 0 then 2 else 1) + (k_w q).toNat then (10, k_p q (n - (if tm > 0 then 2 else 1)), k_t q (n - (if tm > 0 then 2 else 1))) else (k_h q, k_a q, k_l q)
def lkN (tm : Int) (q : wkT) : Nat := (if tm > 0 then 2 else 1) + (k_w q).toNat + 1
/-- the first c links, as they must be -/
def lkP (L : z_row) (tm li : Int) (q : wkT) (c : Nat) : Prop := ∀ n, n < c → L (3 * n) = (lkQ tm li q n).1 ∧ L (3 * n + 1) = (lkQ tm li q n).2.1 ∧ L (3 * n + 2) = (lkQ tm li q n).2.2
theorem lkP_s {L L' : z_row} {tm li : Int} {q : wkT} {c : Nat} (h : lkP L tm li q c) (h1 : ∀ j, j < 3 * c → L' j = L j) {x y v : Int} (hq : lkQ tm li q c = (x, y, v)) (hx : L' (3 * c) = x) (hy : L' (3 * c + 1) = y) (hv : L' (3 * c + 2) = v) : lkP L' tm li q (c + 1) := by
  intro n hn
  rcases (show n < c ∨ n = c by omega) with e | e
  · rw [h1 _ (by omega), h1 _ (by omega), h1 _ (by omega)]
    exact h n e
  · rw [e, hq]
    exact ⟨hx, hy, hv⟩
theorem lkP_0 {L : z_row} {tm li : Int} {q : wkT} : lkP L tm li q 0 := fun n hn => absurd hn (Nat.not_lt_zero _)
theorem lkQ_12 {tm li : Int} {q : wkT} (h : tm > 0) : lkQ tm li q 0 = (12, tm, li) := if_pos ⟨h, rfl⟩
theorem lkQ_11 {tm li : Int} {q : wkT} {n : Nat} (h : n = (if tm > 0 then 1 else 0)) : lkQ tm li q n = (11, li, k_z q) := by
  unfold lkQ
  rw [if_neg (by intro c; rw [if_pos c.1] at h; omega), if_pos h]
theorem lkQ_10 {tm li : Int} {q : wkT} {n j : Nat} (h : n = (if tm > 0 then 2 else 1) + j) (hj : (j : Int) < k_w q) : lkQ tm li q n = (10, k_p q j, k_t q j) := by
  unfold lkQ
  by_cases c : tm > 0
  · simp only [c, if_true] at h ⊢
    rw [if_neg (by omega), if_neg (by omega), if_pos (by omega), show n - 2 = j by omega]
  · simp only [c, if_false] at h ⊢
    rw [if_neg (by omega), if_neg (by omega), if_pos (by omega), show n - 1 = j by omega]
theorem lkQ_e {tm li : Int} {q : wkT} {n : Nat} (h : (if tm > 0 then 2 else 1) + (k_w q).toNat ≤ n) : lkQ tm li q n = (k_h q, k_a q, k_l q) := by
  unfold lkQ
  by_cases c : tm > 0
  · simp only [c, if_true] at h ⊢
    rw [if_neg (by omega), if_neg (by omega), if_neg (by omega)]
  · simp only [c, if_false] at h ⊢
    rw [if_neg (by omega), if_neg (by omega), if_neg (by omega)]
/-- workings that tell the same links -/
def wkK (q q' : wkT) : Prop := k_z q' = k_z q ∧ k_l q' = k_l q ∧ k_h q' = k_h q ∧ k_a q' = k_a q ∧ k_w q' = k_w q ∧ ∀ j : Nat, (j : Int) < k_w q → k_p q' j = k_p q j ∧ k_t q' j = k_t q j
theorem wkV.K {q q' : wkT} (h : wkV 0 q q') (h0 : k_h q ≠ 0) : wkK q q' := by
  obtain ⟨h1, h2, h3, h4, h5, h6, h7, h8⟩ := h
  obtain ⟨g1, g2, g3⟩ := h8 h0
  exact ⟨h2, h3, h5, g1, g2, g3⟩
theorem wkK.Q {q q' : wkT} (h : wkK q q') (tm li : Int) (n : Nat) : lkQ tm li q' n = lkQ tm li q n := by
  obtain ⟨h1, h2, h3, h4, h5, h6⟩ := h
  by_cases c1 : tm > 0 ∧ n = 0
  · rw [c1.2, lkQ_12 c1.1, lkQ_12 c1.1]
  · by_cases c2 : n = (if tm > 0 then 1 else 0)
    · rw [lkQ_11 c2, lkQ_11 c2, h1]
    · by_cases c3 : n < (if tm > 0 then 2 else 1) + (k_w q).toNat
      · obtain ⟨j, hj⟩ : ∃ j, n = (if tm > 0 then 2 else 1) + j := ⟨n - (if tm > 0 then 2 else 1), by
          by_cases c : tm > 0
          · simp only [c, if_true] at c2 ⊢
            have : n ≠ 0 := fun e => c1 ⟨c, e⟩
            omega
          · simp only [c, if_false] at c2 ⊢
            omega⟩
        have hk : (j : Int) < k_w q := by
          rw [hj] at c3
          omega
        rw [lkQ_10 hj (by rw [h5]; exact hk), lkQ_10 hj hk, (h6 j hk).1, (h6 j hk).2]
      · rw [lkQ_e (by rw [h5]; omega), lkQ_e (by omega), h2, h3, h4]
theorem wkK.P {q q' : wkT} (h : wkK q q') {L : z_row} {tm li : Int} {c : Nat} (hP : lkP L tm li q' c) : lkP L tm li q c := fun n hn => by
  rw [← h.Q]
  exact hP n hn
theorem wkK.N {q q' : wkT} (h : wkK q q') (tm : Int) : lkN tm q' = lkN tm q := by
  unfold lkN
  rw [h.2.2.2.2.1]
set_option maxHeartbeats 4000000 in
set_option maxRecDepth 100000 in
theorem D_X9_tellsWhy {g : z_G} {h0 : z_H} {A : Nat → Nat} (hM : mD A) {Rf Nw Th Tp Tx Kd Ia It Lk Ho Sz Im Mv : Nat → Int} {kp ln sz at_ we pa de ti lf md mn hi ha : Int} {ca : Int} {iw : Nat} (hiw : iw ≤ 5) {li tm : Int} (htm : z_in tm) : z_D g mX9_tellsWhy 3 0 0 [z_r (A 0), z_i li, z_i tm] (MH h0 A Rf Nw Th Tp Tx Kd Ia It Lk Ho Sz Im Mv kp ln sz at_ we pa de ti lf md mn hi ha (iw : Int) ca) (fun rv h' => rv = none ∧ ∃ Lk' : z_row, lkP Lk' tm li (Kd, Ia, It, mn, lf, md, hi, ha, (iw : Int)) (lkN tm (Kd, Ia, It, mn, lf, md, hi, ha, (iw : Int))) ∧ h' = (MH h0 A Rf Nw Th Tp Tx Kd Ia It Lk' Ho Sz Im Mv kp ln sz at_ we pa de ti lf md mn hi ha (iw : Int) ((lkN tm (Kd, Ia, It, mn, lf, md, hi, ha, (iw : Int)) : Nat) : Int))) := by
  refine z_D.of (by decide +kernel) (Nat.le_of_ble_eq_true rfl) (fun X F => ?_)
  show z_w g X cX9_tellsWhy RX9 (3, 0, 0) 0 [z_r (A 0), z_i li, z_i tm, z_u] [] (MH h0 A Rf Nw Th Tp Tx Kd Ia It Lk Ho Sz Im Mv kp ln sz at_ we pa de ti lf md mn hi ha (iw : Int) ca) 0 0
  refine z_aload_n dX9_tellsWhy_0 rfl ?_
  refine z_iconst dX9_tellsWhy_1 ?_
  refine pf_X9_180 dX9_tellsWhy_2 MH_0 (Nat.le_of_ble_eq_true rfl) ?_
  refine z_heq MHu_0 ?_
  refine z_heq (h' := (MH h0 A Rf Nw Th Tp Tx Kd Ia It Lk Ho Sz Im Mv kp ln sz at_ we pa de ti lf md mn hi ha (iw : Int) ((0 : Nat) : Int))) rfl ?_
  refine z_iload_n dX9_tellsWhy_5 rfl ?_
  refine z_if_le dX9_tellsWhy_6 (tgt := 17) rfl htm (fun c1 => ?_) (fun c1 => ?_)
  · skip
    refine z_aload_n dX9_tellsWhy_17 rfl ?_
    refine z_bipush dX9_tellsWhy_18 rfl ?_
    refine z_iload_n dX9_tellsWhy_20 rfl ?_
    refine z_aload_n dX9_tellsWhy_21 rfl ?_
    refine gf_X9_157 dX9_tellsWhy_22 MH_0 rfl ?_
    refine cs_X9_183 dX9_tellsWhy_25 (D_X9_adds (Lk := Lk) hM (c := 0) (by omega)) MH_0 rfl rfl (Nat.le_of_ble_eq_true rfl) (by decide) (fun rv h' hq => ?_)
    obtain ⟨rfl, Lk1, hA1, hx1, hy1, hv1, rfl⟩ := hq
    have hP1 : lkP Lk1 tm li (Kd, Ia, It, mn, lf, md, hi, ha, (iw : Int)) (0 + 1) := lkP_s lkP_0 hA1 (lkQ_11 (by first | rw [if_pos (show tm > 0 by omega)] | rw [if_neg (show ¬ tm > 0 by omega)])) hx1 hy1 hv1
    show z_w _ _ _ _ _ _ _ [] _ _ _
    refine z_iconst dX9_tellsWhy_28 ?_
    refine z_istore_n dX9_tellsWhy_29 (Nat.le_of_ble_eq_true rfl) rfl ?_
    have L4 : ∀ (fu : Nat) (r : Nat) (LkR : z_row) (q1 : r ≤ iw) (hPr : lkP LkR tm li (Kd, Ia, It, mn, lf, md, hi, ha, (iw : Int)) (1 + r)), iw - r < fu → z_w g X cX9_tellsWhy RX9 (3, 0, 0) 30 [z_r (A 0), z_i li, z_i tm, z_i (r : Int)] [] (MH h0 A Rf Nw Th Tp Tx Kd Ia It LkR Ho Sz Im Mv kp ln sz at_ we pa de ti lf md mn hi ha (iw : Int) ((1 + r : Nat) : Int)) 0 0 := by
      intro fu
      induction fu with
      | zero => intro r LkR q1 hPr hm; exact absurd hm (Nat.not_lt_zero _)
      | succ fu ih =>
        intro r LkR q1 hPr hm
        refine z_iload_n dX9_tellsWhy_30 rfl ?_
        refine z_aload_n dX9_tellsWhy_31 rfl ?_
        refine gf_X9_138 dX9_tellsWhy_32 MH_0 rfl ?_
        refine z_icmp_ge dX9_tellsWhy_35 (tgt := 62) rfl ⟨by omega, by omega⟩ ⟨by omega, by omega⟩ (fun c2 => ?_) (fun c2 => ?_)
        · skip
          obtain rfl : iw = r := by omega
          refine z_aload_n dX9_tellsWhy_62 rfl ?_
          refine z_aload_n dX9_tellsWhy_63 rfl ?_
          refine gf_X9_132 dX9_tellsWhy_64 MH_0 rfl ?_
          refine z_aload_n dX9_tellsWhy_67 rfl ?_
          refine gf_X9_135 dX9_tellsWhy_68 MH_0 rfl ?_
          refine z_aload_n dX9_tellsWhy_71 rfl ?_
          refine gf_X9_144 dX9_tellsWhy_72 MH_0 rfl ?_
          refine cs_X9_183 dX9_tellsWhy_75 (D_X9_adds (Lk := LkR) hM (c := 1 + iw) (by omega)) MH_0 rfl rfl (Nat.le_of_ble_eq_true rfl) (by decide) (fun rv h' hq => ?_)
          obtain ⟨rfl, Lk2, hA2, hx2, hy2, hv2, rfl⟩ := hq
          have hP2 : lkP Lk2 tm li (Kd, Ia, It, mn, lf, md, hi, ha, (iw : Int)) (1 + iw + 1) := lkP_s hPr hA2 (lkQ_e (by first | rw [if_pos (show tm > 0 by omega)]; show 2 + ((iw : Int)).toNat ≤ _; omega | rw [if_neg (show ¬ tm > 0 by omega)]; show 1 + ((iw : Int)).toNat ≤ _; omega)) hx2 hy2 hv2
          show z_w _ _ _ _ _ _ _ [] _ _ _
          exact z_vret F dX9_tellsWhy_78 rfl ⟨Nat.le_refl _, Nat.le_refl _⟩ ⟨rfl, _, by rw [show lkN tm (Kd, Ia, It, mn, lf, md, hi, ha, (iw : Int)) = 1 + iw + 1 from by unfold lkN; first | rw [if_pos (show tm > 0 by omega)]; rfl | rw [if_neg (show ¬ tm > 0 by omega)]; rfl]; exact hP2, by rw [show lkN tm (Kd, Ia, It, mn, lf, md, hi, ha, (iw : Int)) = 1 + iw + 1 from by unfold lkN; first | rw [if_pos (show tm > 0 by omega)]; rfl | rw [if_neg (show ¬ tm > 0 by omega)]; rfl]; rfl⟩
        · skip
          refine z_aload_n dX9_tellsWhy_38 rfl ?_
          refine z_bipush dX9_tellsWhy_39 rfl ?_
          refine z_aload_n dX9_tellsWhy_41 rfl ?_
          refine gf_X9_28 dX9_tellsWhy_42 MH_0 rfl ?_
          refine z_iload_n dX9_tellsWhy_45 rfl ?_
          refine z_ialdN (m := r) dX9_tellsWhy_46 (MH_7 hM) (by omega) ⟨by omega, by omega⟩ ?_
          refine z_aload_n dX9_tellsWhy_47 rfl ?_
          refine gf_X9_31 dX9_tellsWhy_48 MH_0 rfl ?_
          refine z_iload_n dX9_tellsWhy_51 rfl ?_
          refine z_ialdN (m := r) dX9_tellsWhy_52 (MH_8 hM) (by omega) ⟨by omega, by omega⟩ ?_
          refine cs_X9_183 dX9_tellsWhy_53 (D_X9_adds (Lk := LkR) hM (c := 1 + r) (by omega)) MH_0 rfl rfl (Nat.le_of_ble_eq_true rfl) (by decide) (fun rv h' hq => ?_)
          obtain ⟨rfl, Lk3, hA3, hx3, hy3, hv3, rfl⟩ := hq
          have hP3 : lkP Lk3 tm li (Kd, Ia, It, mn, lf, md, hi, ha, (iw : Int)) (1 + r + 1) := lkP_s hPr hA3 (lkQ_10 (j := r) (by first | rw [if_pos (show tm > 0 by omega)] | rw [if_neg (show ¬ tm > 0 by omega)]) (show (r : Int) < (iw : Int) by omega)) hx3 hy3 hv3
          show z_w _ _ _ _ _ _ _ [] _ _ _
          refine z_iinc dX9_tellsWhy_56 rfl rfl ?_
          refine z_goto dX9_tellsWhy_59 (tgt := 30) rfl ?_
          exact ih (r + 1) _ (by omega) hP3 (by omega)
    exact L4 (iw + 1) 0 _ (Nat.zero_le _) hP1 (by omega)
  · skip
    refine z_aload_n dX9_tellsWhy_9 rfl ?_
    refine z_bipush dX9_tellsWhy_10 rfl ?_
    refine z_iload_n dX9_tellsWhy_12 rfl ?_
    refine z_iload_n dX9_tellsWhy_13 rfl ?_
    refine cs_X9_183 dX9_tellsWhy_14 (D_X9_adds (Lk := Lk) hM (c := 0) (by omega)) MH_0 rfl rfl (Nat.le_of_ble_eq_true rfl) (by decide) (fun rv h' hq => ?_)
    obtain ⟨rfl, Lk4, hA4, hx4, hy4, hv4, rfl⟩ := hq
    have hP4 : lkP Lk4 tm li (Kd, Ia, It, mn, lf, md, hi, ha, (iw : Int)) (0 + 1) := lkP_s lkP_0 hA4 (lkQ_12 (by omega)) hx4 hy4 hv4
    show z_w _ _ _ _ _ _ _ [] _ _ _
    refine z_aload_n dX9_tellsWhy_17 rfl ?_
    refine z_bipush dX9_tellsWhy_18 rfl ?_
    refine z_iload_n dX9_tellsWhy_20 rfl ?_
    refine z_aload_n dX9_tellsWhy_21 rfl ?_
    refine gf_X9_157 dX9_tellsWhy_22 MH_0 rfl ?_
    refine cs_X9_183 dX9_tellsWhy_25 (D_X9_adds (Lk := Lk4) hM (c := 0 + 1) (by omega)) MH_0 rfl rfl (Nat.le_of_ble_eq_true rfl) (by decide) (fun rv h' hq => ?_)
    obtain ⟨rfl, Lk5, hA5, hx5, hy5, hv5, rfl⟩ := hq
    have hP5 : lkP Lk5 tm li (Kd, Ia, It, mn, lf, md, hi, ha, (iw : Int)) (0 + 1 + 1) := lkP_s hP4 hA5 (lkQ_11 (by first | rw [if_pos (show tm > 0 by omega)] | rw [if_neg (show ¬ tm > 0 by omega)])) hx5 hy5 hv5
    show z_w _ _ _ _ _ _ _ [] _ _ _
    refine z_iconst dX9_tellsWhy_28 ?_
    refine z_istore_n dX9_tellsWhy_29 (Nat.le_of_ble_eq_true rfl) rfl ?_
    have L4 : ∀ (fu : Nat) (r : Nat) (LkR : z_row) (q1 : r ≤ iw) (hPr : lkP LkR tm li (Kd, Ia, It, mn, lf, md, hi, ha, (iw : Int)) (2 + r)), iw - r < fu → z_w g X cX9_tellsWhy RX9 (3, 0, 0) 30 [z_r (A 0), z_i li, z_i tm, z_i (r : Int)] [] (MH h0 A Rf Nw Th Tp Tx Kd Ia It LkR Ho Sz Im Mv kp ln sz at_ we pa de ti lf md mn hi ha (iw : Int) ((2 + r : Nat) : Int)) 0 0 := by
      intro fu
      induction fu with
      | zero => intro r LkR q1 hPr hm; exact absurd hm (Nat.not_lt_zero _)
      | succ fu ih =>
        intro r LkR q1 hPr hm
        refine z_iload_n dX9_tellsWhy_30 rfl ?_
        refine z_aload_n dX9_tellsWhy_31 rfl ?_
        refine gf_X9_138 dX9_tellsWhy_32 MH_0 rfl ?_
        refine z_icmp_ge dX9_tellsWhy_35 (tgt := 62) rfl ⟨by omega, by omega⟩ ⟨by omega, by omega⟩ (fun c3 => ?_) (fun c3 => ?_)
        · skip
          obtain rfl : iw = r := by omega
          refine z_aload_n dX9_tellsWhy_62 rfl ?_
          refine z_aload_n dX9_tellsWhy_63 rfl ?_
          refine gf_X9_132 dX9_tellsWhy_64 MH_0 rfl ?_
          refine z_aload_n dX9_tellsWhy_67 rfl ?_
          refine gf_X9_135 dX9_tellsWhy_68 MH_0 rfl ?_
          refine z_aload_n dX9_tellsWhy_71 rfl ?_
          refine gf_X9_144 dX9_tellsWhy_72 MH_0 rfl ?_
          refine cs_X9_183 dX9_tellsWhy_75 (D_X9_adds (Lk := LkR) hM (c := 2 + iw) (by omega)) MH_0 rfl rfl (Nat.le_of_ble_eq_true rfl) (by decide) (fun rv h' hq => ?_)
          obtain ⟨rfl, Lk6, hA6, hx6, hy6, hv6, rfl⟩ := hq
          have hP6 : lkP Lk6 tm li (Kd, Ia, It, mn, lf, md, hi, ha, (iw : Int)) (2 + iw + 1) := lkP_s hPr hA6 (lkQ_e (by first | rw [if_pos (show tm > 0 by omega)]; show 2 + ((iw : Int)).toNat ≤ _; omega | rw [if_neg (show ¬ tm > 0 by omega)]; show 1 + ((iw : Int)).toNat ≤ _; omega)) hx6 hy6 hv6
          show z_w _ _ _ _ _ _ _ [] _ _ _
          exact z_vret F dX9_tellsWhy_78 rfl ⟨Nat.le_refl _, Nat.le_refl _⟩ ⟨rfl, _, by rw [show lkN tm (Kd, Ia, It, mn, lf, md, hi, ha, (iw : Int)) = 2 + iw + 1 from by unfold lkN; first | rw [if_pos (show tm > 0 by omega)]; rfl | rw [if_neg (show ¬ tm > 0 by omega)]; rfl]; exact hP6, by rw [show lkN tm (Kd, Ia, It, mn, lf, md, hi, ha, (iw : Int)) = 2 + iw + 1 from by unfold lkN; first | rw [if_pos (show tm > 0 by omega)]; rfl | rw [if_neg (show ¬ tm > 0 by omega)]; rfl]; rfl⟩
        · skip
          refine z_aload_n dX9_tellsWhy_38 rfl ?_
          refine z_bipush dX9_tellsWhy_39 rfl ?_
          refine z_aload_n dX9_tellsWhy_41 rfl ?_
          refine gf_X9_28 dX9_tellsWhy_42 MH_0 rfl ?_
          refine z_iload_n dX9_tellsWhy_45 rfl ?_
          refine z_ialdN (m := r) dX9_tellsWhy_46 (MH_7 hM) (by omega) ⟨by omega, by omega⟩ ?_
          refine z_aload_n dX9_tellsWhy_47 rfl ?_
          refine gf_X9_31 dX9_tellsWhy_48 MH_0 rfl ?_
          refine z_iload_n dX9_tellsWhy_51 rfl ?_
          refine z_ialdN (m := r) dX9_tellsWhy_52 (MH_8 hM) (by omega) ⟨by omega, by omega⟩ ?_
          refine cs_X9_183 dX9_tellsWhy_53 (D_X9_adds (Lk := LkR) hM (c := 2 + r) (by omega)) MH_0 rfl rfl (Nat.le_of_ble_eq_true rfl) (by decide) (fun rv h' hq => ?_)
          obtain ⟨rfl, Lk7, hA7, hx7, hy7, hv7, rfl⟩ := hq
          have hP7 : lkP Lk7 tm li (Kd, Ia, It, mn, lf, md, hi, ha, (iw : Int)) (2 + r + 1) := lkP_s hPr hA7 (lkQ_10 (j := r) (by first | rw [if_pos (show tm > 0 by omega)] | rw [if_neg (show ¬ tm > 0 by omega)]) (show (r : Int) < (iw : Int) by omega)) hx7 hy7 hv7
          show z_w _ _ _ _ _ _ _ [] _ _ _
          refine z_iinc dX9_tellsWhy_56 rfl rfl ?_
          refine z_goto dX9_tellsWhy_59 (tgt := 30) rfl ?_
          exact ih (r + 1) _ (by omega) hP7 (by omega)
    exact L4 (iw + 1) 0 _ (Nat.zero_le _) hP5 (by omega)
