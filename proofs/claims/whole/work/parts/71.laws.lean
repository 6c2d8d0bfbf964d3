/-! the law: rows for its script, and the two worlds side by side -/
abbrev lx (g : z_G) (m : Nat) : Int := (g_x g m).toInt
theorem lx_in (g : z_G) (m : Nat) : z_in (lx g m) := ⟨Int32.le_toInt _, Int32.toInt_lt _⟩
def l_shl (a s : Int) : Int := (Int64.ofInt a <<< ((Int32.ofInt s).toInt64 &&& 63)).toInt
def l_and (a b : Int) : Int := (Int64.ofInt a &&& Int64.ofInt b).toInt
def l_or (a b : Int) : Int := (Int64.ofInt a ||| Int64.ofInt b).toInt
theorem l_or_in (a b : Int) : z_inL (l_or a b) := ⟨Int64.le_toInt _, Int64.toInt_lt _⟩
section ZLW
variable {g : z_G} {X : z_X} {cc : ByteArray} {own : String} {r : Nat × Nat × Nat} {pc k n : Nat} {ls st : List z_V} {h : z_H}
theorem z_xlen (hd : decode cc pc = .ok (.arraylength, 1)) (kk : z_w g X cc own r (pc + 1) ls (z_i (g_L g : Int) :: st) h k n) : z_w g X cc own r pc ls (z_r (g_b g) :: st) h k n := fun C0 H locs S hR hS hL => by
  obtain ⟨-, -, -, -, -, hX, hb, hA⟩ := C0.2.2.2.2.2.1.2.1
  refine va_slen C0.1 C0.2.1 hX hb hA hS hd ?_
  rw [z_ofN]
  exact kk C0 H locs S hR hS hL
theorem z_xld {j : Int} {m : Nat} (hd : decode cc pc = .ok (.iaload, 1)) (hj : j = (m : Int)) (hm : m < g_L g ∧ m < 1000000) (kk : z_w g X cc own r (pc + 1) ls (z_i (lx g m) :: st) h k n) : z_w g X cc own r pc ls (z_i j :: z_r (g_b g) :: st) h k n := fun C0 H locs S hR hS hL => by
  obtain ⟨-, -, -, -, -, hX, hb, hA⟩ := C0.2.2.2.2.2.1.2.1
  subst hj
  refine va_sld (i := Int32.ofInt (m : Int)) C0.1 C0.2.1 hX hb hA hS (z_vin (by omega) (by omega) (by omega)) hd ?_
  rw [z_clamp (by omega) (by omega), Int.toNat_natCast]
  have e : g_x g m = Int32.ofInt (lx g m) := (Int32.ofInt_toInt _).symm
  rw [e]
  exact kk C0 H locs S hR hS hL
theorem z_lshlG {a s : Int} (hd : decode cc pc = .ok (.lshl, 1)) (kk : z_w g X cc own r (pc + 1) ls (z_l (l_shl a s) :: st) h k n) : z_w g X cc own r pc ls (z_i s :: z_l a :: st) h k n := fun C0 H locs S hR hS hL =>
  lv_lshl (x := Int64.ofInt a) (y := Int32.ofInt s) (v := Int64.ofInt (l_shl a s)) C0.1 C0.2.1 hd (Int64.ofInt_toInt _).symm (kk C0 H locs S hR hS hL)
theorem z_landG {a b : Int} (hd : decode cc pc = .ok (.land, 1)) (kk : z_w g X cc own r (pc + 1) ls (z_l (l_and a b) :: st) h k n) : z_w g X cc own r pc ls (z_l b :: z_l a :: st) h k n := fun C0 H locs S hR hS hL => by
  refine lv_land (x := Int64.ofInt a) (y := Int64.ofInt b) C0.1 C0.2.1 hd ?_
  have e : Int64.ofInt a &&& Int64.ofInt b = Int64.ofInt (l_and a b) := (Int64.ofInt_toInt _).symm
  rw [e]
  exact kk C0 H locs S hR hS hL
theorem z_lorG {a b : Int} (hd : decode cc pc = .ok (.lor, 1)) (kk : z_w g X cc own r (pc + 1) ls (z_l (l_or a b) :: st) h k n) : z_w g X cc own r pc ls (z_l b :: z_l a :: st) h k n := fun C0 H locs S hR hS hL => by
  refine lv_lor (x := Int64.ofInt a) (y := Int64.ofInt b) C0.1 C0.2.1 hd ?_
  have e : Int64.ofInt a ||| Int64.ofInt b = Int64.ofInt (l_or a b) := (Int64.ofInt_toInt _).symm
  rw [e]
  exact kk C0 H locs S hR hS hL
theorem z_icmpS {a : Int} {off : Int} {tgt : Nat} (hd : decode cc pc = .ok (.if_icmp .eq off, 3)) (ht : (pc : Int) + off = (tgt : Int)) (kk : z_w g X cc own r tgt ls st h k n) : z_w g X cc own r pc ls (z_i a :: z_i a :: st) h k n := fun C0 H locs S hR hS hL =>
  lv_icmp_eq (x := Int32.ofInt a) (y := Int32.ofInt a) C0.1 C0.2.1 hd ht (fun _ => kk C0 H locs S hR hS hL) (fun q => absurd rfl q)
theorem z_lcmpS {a : Int} (hd : decode cc pc = .ok (.lcmp, 1)) (kk : z_w g X cc own r (pc + 1) ls (z_i 0 :: st) h k n) : z_w g X cc own r pc ls (z_l a :: z_l a :: st) h k n := fun C0 H locs S hR hS hL => by
  refine W.lcmp (x := Int64.ofInt a) (y := Int64.ofInt a) C0.1 C0.2.1 hd ?_
  have e : lg_cmp (Int64.ofInt a) (Int64.ofInt a) = Int32.ofInt 0 := by
    unfold lg_cmp
    rw [if_neg (by simp), if_pos rfl]
    decide
  rw [e]
  exact kk C0 H locs S hR hS hL
end ZLW
section ZMM
variable {h0 h1 : z_H} {A : Nat → Nat} {Rf Nw Th Tp Tx Kd Ia It Lk Ho Sz Im Mv : Nat → Int} {kp ln sz at_ we pa de ti lf md mn hi ha is_ ca : Int}
theorem MH_out {q : Nat} (hq : ∀ j, j < 14 → q ≠ A j) : (MH h0 A Rf Nw Th Tp Tx Kd Ia It Lk Ho Sz Im Mv kp ln sz at_ we pa de ti lf md mn hi ha is_ ca) q = h0 q := by
  unfold MH
  rw [if_neg (hq 0 (by decide)), if_neg (hq 1 (by decide)), if_neg (hq 2 (by decide)), if_neg (hq 3 (by decide)), if_neg (hq 4 (by decide)), if_neg (hq 5 (by decide)), if_neg (hq 6 (by decide)), if_neg (hq 7 (by decide)), if_neg (hq 8 (by decide)), if_neg (hq 9 (by decide)), if_neg (hq 10 (by decide)), if_neg (hq 11 (by decide)), if_neg (hq 12 (by decide)), if_neg (hq 13 (by decide))]
theorem MH_in (D : mD A) : ∀ j, j < 14 → (MH h0 A Rf Nw Th Tp Tx Kd Ia It Lk Ho Sz Im Mv kp ln sz at_ we pa de ti lf md mn hi ha is_ ca) (A j) = (MH h1 A Rf Nw Th Tp Tx Kd Ia It Lk Ho Sz Im Mv kp ln sz at_ we pa de ti lf md mn hi ha is_ ca) (A j) ∧ (MH h0 A Rf Nw Th Tp Tx Kd Ia It Lk Ho Sz Im Mv kp ln sz at_ we pa de ti lf md mn hi ha is_ ca) (A j) ≠ none := by
  intro j hj
  match j, hj with
  | 0, _ => exact ⟨MH_0.trans MH_0.symm, by rw [MH_0]; exact Option.some_ne_none _⟩
  | 1, _ => exact ⟨(MH_1 D).trans (MH_1 D).symm, by rw [MH_1 D]; exact Option.some_ne_none _⟩
  | 2, _ => exact ⟨(MH_2 D).trans (MH_2 D).symm, by rw [MH_2 D]; exact Option.some_ne_none _⟩
  | 3, _ => exact ⟨(MH_3 D).trans (MH_3 D).symm, by rw [MH_3 D]; exact Option.some_ne_none _⟩
  | 4, _ => exact ⟨(MH_4 D).trans (MH_4 D).symm, by rw [MH_4 D]; exact Option.some_ne_none _⟩
  | 5, _ => exact ⟨(MH_5 D).trans (MH_5 D).symm, by rw [MH_5 D]; exact Option.some_ne_none _⟩
  | 6, _ => exact ⟨(MH_6 D).trans (MH_6 D).symm, by rw [MH_6 D]; exact Option.some_ne_none _⟩
  | 7, _ => exact ⟨(MH_7 D).trans (MH_7 D).symm, by rw [MH_7 D]; exact Option.some_ne_none _⟩
  | 8, _ => exact ⟨(MH_8 D).trans (MH_8 D).symm, by rw [MH_8 D]; exact Option.some_ne_none _⟩
  | 9, _ => exact ⟨(MH_9 D).trans (MH_9 D).symm, by rw [MH_9 D]; exact Option.some_ne_none _⟩
  | 10, _ => exact ⟨(MH_10 D).trans (MH_10 D).symm, by rw [MH_10 D]; exact Option.some_ne_none _⟩
  | 11, _ => exact ⟨(MH_11 D).trans (MH_11 D).symm, by rw [MH_11 D]; exact Option.some_ne_none _⟩
  | 12, _ => exact ⟨(MH_12 D).trans (MH_12 D).symm, by rw [MH_12 D]; exact Option.some_ne_none _⟩
  | 13, _ => exact ⟨(MH_13 D).trans (MH_13 D).symm, by rw [MH_13 D]; exact Option.some_ne_none _⟩
  | j + 14, h => exact absurd h (by omega)
theorem MH_MH (D : mD A) {h2 : z_H} (hh : ∀ q, (∀ j, j < 14 → q ≠ A j) → h2 q = h0 q) : MH h2 A Rf Nw Th Tp Tx Kd Ia It Lk Ho Sz Im Mv kp ln sz at_ we pa de ti lf md mn hi ha is_ ca = MH h0 A Rf Nw Th Tp Tx Kd Ia It Lk Ho Sz Im Mv kp ln sz at_ we pa de ti lf md mn hi ha is_ ca := by
  funext q
  by_cases c : ∃ j, j < 14 ∧ q = A j
  · obtain ⟨j, hj, rfl⟩ := c
    exact (MH_in D j hj).1
  · have c2 : ∀ j, j < 14 → q ≠ A j := fun j hj e => c ⟨j, hj, e⟩
    rw [MH_out c2, MH_out c2]
    exact hh q c2
end ZMM
/-- the reference's places -/
def lA (ad : Nat → Nat) : Nat → Nat := fun x => ad (333 + x)
theorem lA_D {ad : Nat → Nat} (hI : aJ ad) : mD (lA ad) := fun i j hi hj e => by
  have := hI (333 + i) (333 + j) (by omega) (by omega) e
  omega
section ZMW
variable {h h' : z_H} {ad : Nat → Nat} {Rf Nw Th Tp Tx Kd Ia It Lk Ho Sz Im Mv : Nat → Int} {kp ln sz at_ we pa de ti lf md mn hi ha is_ ca : Int}
theorem MH_mv (hI : aJ ad) (e : h = MH h (lA ad) Rf Nw Th Tp Tx Kd Ia It Lk Ho Sz Im Mv kp ln sz at_ we pa de ti lf md mn hi ha is_ ca) (hz : zfr ad h h') : h' = MH h' (lA ad) Rf Nw Th Tp Tx Kd Ia It Lk Ho Sz Im Mv kp ln sz at_ we pa de ti lf md mn hi ha is_ ca := by
  funext q
  by_cases c : ∃ j, j < 14 ∧ q = lA ad j
  · obtain ⟨j, hj, rfl⟩ := c
    have h1 := (MH_in (h0 := h) (h1 := h') (lA_D hI) j hj (Rf := Rf) (Nw := Nw) (Th := Th) (Tp := Tp) (Tx := Tx) (Kd := Kd) (Ia := Ia) (It := It) (Lk := Lk) (Ho := Ho) (Sz := Sz) (Im := Im) (Mv := Mv) (kp := kp) (ln := ln) (sz := sz) (at_ := at_) (we := we) (pa := pa) (de := de) (ti := ti) (lf := lf) (md := md) (mn := mn) (hi := hi) (ha := ha) (is_ := is_) (ca := ca))
    have e2 := congrFun e (lA ad j)
    rw [← h1.1, ← e2]
    refine hz _ (by rw [e2]; exact h1.2) (fun t ht => ?_)
    exact hI.ne (i := 333 + j) (by omega) (by omega) (by omega)
  · exact (MH_out (fun j hj e => c ⟨j, hj, e⟩)).symm
theorem MH_fx (hI : aJ ad) (e : h' = MH h (lA ad) Rf Nw Th Tp Tx Kd Ia It Lk Ho Sz Im Mv kp ln sz at_ we pa de ti lf md mn hi ha is_ ca) : h' = MH h' (lA ad) Rf Nw Th Tp Tx Kd Ia It Lk Ho Sz Im Mv kp ln sz at_ we pa de ti lf md mn hi ha is_ ca := e.trans (MH_MH (lA_D hI) (fun q hq => by rw [e]; exact MH_out hq)).symm
theorem MH_cW (hI : aJ ad) {Rf' Nw' Th' Tp' Lk' Ho' Sz' Im' : z_row} {kp' : Int} {t ca' : Nat} {G Gt : Nat → z_G4} (e : h' = MH h (lA ad) Rf Nw Th Tp Tx Kd Ia It Lk Ho Sz Im Mv kp ln sz at_ we pa de ti lf md mn hi ha is_ ca) (H : cW h ad Rf' Nw' Th' Tp' Lk' Ho' Sz' Im' kp' t ca' G Gt) : cW h' ad Rf' Nw' Th' Tp' Lk' Ho' Sz' Im' kp' t ca' G Gt := by
  subst e
  refine H.fr (fun t h1 h2 => MH_out (fun j hj => ?_)) (fun q h1 h2 => MH_out (fun j hj => ?_))
  · exact hI.ne (j := 333 + j) (by omega) (by omega) (by omega)
  · exact h2 (333 + j) (by omega)
end ZMW
/-- all that both sides keep as it must be -/
def lWf (Nw Th Tp Ho Sz Im : z_row) (kp : Int) (t : Nat) (G Gt : Nat → z_G4) : Prop := nWf Nw G ∧ (kp = 0 ∨ kp = 1) ∧ (kp ≠ 0 → nWf Th Gt) ∧ (t ≤ 250 ∧ ∀ k, k < t → 0 ≤ Tp k ∧ Tp k ≤ 255) ∧ hWf Ho Sz ∧ iWf Im
def lMH (h0 : z_H) (ad : Nat → Nat) (Rf Nw Th Tp Lk Ho Sz Im : z_row) (kp : Int) (t ca : Nat) (h : z_H) : Prop := ∃ (Tx Kd Ia It Mv : z_row) (sz at_ we pa de ti lf md mn hi ha is_ : Int), (0 ≤ ha ∧ ha ≤ 250) ∧ h = MH h0 (lA ad) Rf Nw Th Tp Tx Kd Ia It Lk Ho Sz Im Mv kp (t : Int) sz at_ we pa de ti lf md mn hi ha is_ (ca : Int)
/-- both worlds stand, and tell the same -/
def lI (h : z_H) (ad : Nat → Nat) : Prop := ∃ (Rf Nw Th Tp Lk Ho Sz Im : z_row) (kp : Int) (t ca : Nat) (G Gt : Nat → z_G4), lWf Nw Th Tp Ho Sz Im kp t G Gt ∧ cW h ad Rf Nw Th Tp Lk Ho Sz Im kp t ca G Gt ∧ lMH h ad Rf Nw Th Tp Lk Ho Sz Im kp t ca h
section ZLF
variable {h h' h'' : z_H} {ad : Nat → Nat} {Rf Nw Th Tp Lk Ho Sz Im : z_row} {kp : Int} {t ca : Nat} {G Gt : Nat → z_G4}
theorem cW.lk (H : cW h ad Rf Nw Th Tp Lk Ho Sz Im kp t ca G Gt) {Lk' : z_row} (hl : ∀ k, k < 3 * ca → Lk' k = Lk k) : cW h ad Rf Nw Th Tp Lk' Ho Sz Im kp t ca G Gt := by
  obtain ⟨w0, wp, ⟨f, c1, c2⟩, ws, wn, wk⟩ := H
  exact ⟨w0, wp, ⟨f, c1, fun k hk => (c2 k hk).trans (hl k hk).symm⟩, ws, wn, wk⟩
theorem cW.ca8 (H : cW h ad Rf Nw Th Tp Lk Ho Sz Im kp t ca G Gt) : 0 ≤ (ca : Int) ∧ (ca : Int) ≤ 10 := by
  obtain ⟨w0, wp, ⟨f, c1, c2⟩, ws, wn, wk⟩ := H
  have := c1.2.2
  omega
theorem l_fin (hI : aJ ad) (hw : cW h' ad Rf Nw Th Tp Lk Ho Sz Im kp t ca G Gt) (hf : lWf Nw Th Tp Ho Sz Im kp t G Gt) (hm : lMH h' ad Rf Nw Th Tp Lk Ho Sz Im kp t ca h'') : lI h'' ad := by
  obtain ⟨Tx, Kd, Ia, It, Mv, sz, at_, we, pa, de, ti, lf, md, mn, hi, ha, is_, hha, e⟩ := hm
  exact ⟨Rf, Nw, Th, Tp, Lk, Ho, Sz, Im, kp, t, ca, G, Gt, hf, MH_cW hI e hw, Tx, Kd, Ia, It, Mv, sz, at_, we, pa, de, ti, lf, md, mn, hi, ha, is_, hha, MH_fx hI e⟩
theorem l_sm (e : h' = h) (hw : cW h ad Rf Nw Th Tp Lk Ho Sz Im kp t ca G Gt) : cW h' ad Rf Nw Th Tp Lk Ho Sz Im kp t ca G Gt ∧ zfr ad h h' := by
  subst e
  exact ⟨hw, zfr.rfl'⟩
theorem l_rf (hI : aJ ad) {k : Nat} (e : h' = rfH h ad Rf k) (hw : cW h ad Rf Nw Th Tp Lk Ho Sz Im kp t ca G Gt) : cW h' ad (z_sf Rf k (Rf k + 1)) Nw Th Tp Lk Ho Sz Im kp t ca G Gt ∧ zfr ad h h' := by
  subst e
  exact ⟨hw.rf hI, rfH_Z⟩
end ZLF
/-- what the reference's call, on the same, is to give -/
def lNN (g : z_G) (ad : Nat → Nat) (m9 : z_M) (args : List z_V) (v : z_V) (h' : z_H) : Prop := (∃ fs, h' (lA ad 0) = some (c_O 8 fs)) ∧ ∃ d, d ≤ 30 ∧ z_D g m9 d 0 0 (z_r (lA ad 0) :: args) h' (fun rv h'' => rv = some v ∧ lI h'' ad)
/-- the class's call, and then the reference's: the same answer (an int), and both worlds stand again -/
def lPi (g : z_G) (ad : Nat → Nat) (m8 m9 : z_M) (args : List z_V) (h : z_H) : Prop := (∃ fs, h (ad 0) = some (c_O 7 fs)) ∧ ∃ d mc ms, d ≤ 30 ∧ mc ≤ 6 ∧ ms ≤ 1260 ∧ z_D g m8 d mc ms (z_r (ad 0) :: args) h (fun rv h' => ∃ v, rv = some (z_i v) ∧ lNN g ad m9 args (z_i v) h')
def lPl (g : z_G) (ad : Nat → Nat) (m8 m9 : z_M) (args : List z_V) (h : z_H) : Prop := (∃ fs, h (ad 0) = some (c_O 7 fs)) ∧ ∃ d mc ms, d ≤ 30 ∧ mc ≤ 6 ∧ ms ≤ 1260 ∧ z_D g m8 d mc ms (z_r (ad 0) :: args) h (fun rv h' => ∃ v, rv = some (z_l v) ∧ lNN g ad m9 args (z_l v) h')
section ZLN
variable {g : z_G} {h h' : z_H} {ad : Nat → Nat} {Rf Nw Th Tp Tx Kd Ia It Lk Ho Sz Im Mv : Nat → Int} {kp ln sz at_ we pa de ti lf md mn hi ha is_ ca : Int}
theorem lNN.of {m9 : z_M} {args : List z_V} {v : z_V} {d : Nat} (hI : aJ ad) (e : h = MH h (lA ad) Rf Nw Th Tp Tx Kd Ia It Lk Ho Sz Im Mv kp ln sz at_ we pa de ti lf md mn hi ha is_ ca) (hz : zfr ad h h') (hd : d ≤ 30) (D : z_D g m9 d 0 0 (z_r (lA ad 0) :: args) (MH h' (lA ad) Rf Nw Th Tp Tx Kd Ia It Lk Ho Sz Im Mv kp ln sz at_ we pa de ti lf md mn hi ha is_ ca) (fun rv h'' => rv = some v ∧ lI h'' ad)) : lNN g ad m9 args v h' := by
  have e2 := MH_mv hI e hz
  refine ⟨⟨_, (congrFun e2 _).trans MH_0⟩, d, hd, ?_⟩
  have e3 := congrArg (fun x => z_D g m9 d 0 0 (z_r (lA ad 0) :: args) x (fun rv h'' => rv = some v ∧ lI h'' ad)) e2
  exact e3.mpr D
end ZLN
/-! what is kept -/
theorem lk_eq {L L' : z_row} {tm li : Int} {q : wkT} {c : Nat} (h : lkP L tm li q c) (h' : lkP L' tm li q c) : ∀ k, k < 3 * c → L' k = L k := by
  intro k hk
  obtain ⟨n, hn⟩ : ∃ n, n = k / 3 := ⟨_, rfl⟩
  obtain ⟨a1, a2, a3⟩ := h n (by omega)
  obtain ⟨b1, b2, b3⟩ := h' n (by omega)
  rcases (show k = 3 * n ∨ k = 3 * n + 1 ∨ k = 3 * n + 2 by omega) with e | e | e <;> rw [e]
  · rw [a1, b1]
  · rw [a2, b2]
  · rw [a3, b3]
theorem nWf_rnI {G : Nat → z_G4} : ∀ (r i : Nat) (N : z_row) (c : Nat), nWf N G → ((i + r : Nat) : Int) ≤ N 5020 → nWf (rnI G r i N c).2.1 G ∧ (rnI G r i N c).2.1 5020 = N 5020 := by
  intro r
  induction r with
  | zero => exact fun i N c hw _ => ⟨hw, rfl⟩
  | succ r ih =>
    intro i N c hw hi
    show nWf (if k_h (tnR N G i) ≠ 0 then ((i : Int), N, c) else rnI G r (i + 1) (dnS N G i) (c + 1)).2.1 G ∧ (if k_h (tnR N G i) ≠ 0 then ((i : Int), N, c) else rnI G r (i + 1) (dnS N G i) (c + 1)).2.1 5020 = N 5020
    by_cases c0 : k_h (tnR N G i) = 0
    · rw [if_neg (fun q => q c0)]
      have e := dnS_20 (i := i) hw
      obtain ⟨h1, h2⟩ := ih (i + 1) (dnS N G i) (c + 1) (nWf_dnS hw (by omega) c0) (by rw [e]; omega)
      exact ⟨h1, h2.trans e⟩
    · rw [if_pos c0]
      exact ⟨hw, rfl⟩
theorem nWf_rnO {G : Nat → z_G4} {E a : Nat} : ∀ (r tm : Nat) (N : z_row) (c : Nat), nWf N G → ((a + E : Nat) : Int) ≤ N 5020 → nWf (rnO G E a r tm N c).2.2.1 G ∧ (rnO G E a r tm N c).2.2.1 5020 = N 5020 := by
  intro r
  induction r with
  | zero => exact fun tm N c hw _ => ⟨hw, rfl⟩
  | succ r ih =>
    intro tm N c hw hi
    obtain ⟨h1, h2⟩ := nWf_rnI E a N c hw hi
    show nWf (if (rnI G E a N c).1 ≠ -1 then ((tm : Int), (rnI G E a N c).1, (rnI G E a N c).2.1, (rnI G E a N c).2.2) else rnO G E a r (tm + 1) (rnI G E a N c).2.1 (rnI G E a N c).2.2).2.2.1 G ∧ (if (rnI G E a N c).1 ≠ -1 then ((tm : Int), (rnI G E a N c).1, (rnI G E a N c).2.1, (rnI G E a N c).2.2) else rnO G E a r (tm + 1) (rnI G E a N c).2.1 (rnI G E a N c).2.2).2.2.1 5020 = N 5020
    by_cases c0 : (rnI G E a N c).1 = -1
    · rw [if_neg (fun q => q c0)]
      obtain ⟨h3, h4⟩ := ih (tm + 1) (rnI G E a N c).2.1 (rnI G E a N c).2.2 h1 (by rw [h2]; exact hi)
      exact ⟨h3, h4.trans h2⟩
    · rw [if_pos c0]
      exact ⟨h1, h2⟩
theorem nWf_dyS {G : Nat → z_G4} {N : z_row} (hw : nWf N G) (h0 : N 5020 ≠ 0) : nWf (dyS N G).2 G ∧ (dyS N G).2 5020 = N 5020 := by
  have h1 := hw.1
  have h5 := hw.2.2.2.2.1
  have hs : nWf (z_sf N 5024 (drN N)) G := nWf_seed hw
  have e0 : z_sf N 5024 (drN N) 5020 = N 5020 := z_sf_n (by decide)
  have e5 : z_sf N 5024 (drN N) 5025 = N 5025 := z_sf_n (by decide)
  have hd := (dyI_lt (N := N) (by omega)).2
  unfold dyS
  by_cases c0 : k_h (tnR (z_sf N 5024 (drN N)) G (dyI N)) = 0
  · rw [if_pos c0]
    exact ⟨nWf_dnS hs (by rw [e0]; exact hd) c0, (dnS_20 hs).trans e0⟩
  · rw [if_neg c0]
    by_cases c1 : N 5025 > 0
    · rw [if_pos c1]
      refine ⟨nWf_rp hs (by rw [e5]; omega), ?_⟩
      show rpN (z_sf N 5024 (drN N)) ((N 5025).toNat - 1) 5020 = N 5020
      unfold rpN
      rw [z_sf_n (by decide), z_sf_n (by decide), z_sf_n (by decide)]
      exact e0
    · rw [if_neg c1]
      exact ⟨hs, e0⟩
theorem nWf_dyF {G : Nat → z_G4} : ∀ (r : Nat) (N : z_row) (c : Int), nWf N G → N 5020 ≠ 0 → nWf (dyF G r N c).2 G := by
  intro r
  induction r with
  | zero => exact fun N c hw _ => hw
  | succ r ih =>
    intro N c hw h0
    obtain ⟨h1, h2⟩ := nWf_dyS hw h0
    exact ih (dyS N G).2 (c + (dyS N G).1) h1 (by rw [h2]; exact h0)
theorem nWf_cp {Th Nw : z_row} {Gt : Nat → z_G4} (hw : nWf Th Gt) : nWf (cpT Th 0 15226 Nw) Gt := nWf_ag (fun k hk => by rw [cpT_in hk, Nat.zero_add]) hw
theorem loB_in {s v : Int} (hv : z_inL v) : z_inL (loB s v) := by
  unfold loB
  have a1 := Int.le_bmod (x := v) (m := 256) (by decide)
  have a2 := Int.bmod_lt (x := v) (m := 256) (by decide)
  have b1 := Int.le_bmod (x := v) (m := 65536) (by decide)
  have b2 := Int.bmod_lt (x := v) (m := 65536) (by decide)
  have d1 := Int.le_bmod (x := v) (m := 4294967296) (by decide)
  have d2 := Int.bmod_lt (x := v) (m := 4294967296) (by decide)
  have hv' := hv
  repeat' split
  all_goals (refine ⟨?_, ?_⟩ <;> first | omega | exact hv'.1 | exact hv'.2)
theorem hWf_row {Ho Sz : z_row} {s : Nat} {so n : Int} (hw : hWf Ho Sz) (ho : 0 ≤ so ∧ so ≤ 4) (hn : 0 ≤ n ∧ n ≤ 40) : hWf (z_sf Ho s so) (z_sf Sz s n) := fun j hj => by
  by_cases c : j = s
  · subst c
    rw [z_sf_s, z_sf_s]
    exact ⟨Or.inr (Or.inl ho), hn⟩
  · rw [z_sf_n c, z_sf_n c]
    exact hw j hj
theorem hWf_show {Ho Sz : z_row} {s : Nat} {v : Int} (hw : hWf Ho Sz) (hv : v = -1 ∨ (14 ≤ v ∧ v ≤ 22)) : hWf (z_sf Ho s v) Sz := fun j hj => by
  by_cases c : j = s
  · subst c
    rw [z_sf_s]
    refine ⟨?_, (hw j hj).2⟩
    omega
  · rw [z_sf_n c]
    exact hw j hj
theorem iWf_row {Im : z_row} {b m : Nat} (hw : iWf Im) : iWf (cpA Im b m (fun _ => 0)) := fun k hk => by
  unfold cpA
  split
  · exact ⟨show (-9223372036854775808 : Int) ≤ 0 by decide, show (0 : Int) < 9223372036854775808 by decide⟩
  · exact hw k hk
theorem iWf_set {Im : z_row} {j : Nat} {v : Int} (hw : iWf Im) (hv : z_inL v) : iWf (z_sf Im j v) := fun k hk => by
  by_cases c : k = j
  · subst c
    rw [z_sf_s]
    exact hv
  · rw [z_sf_n c]
    exact hw k hk
theorem iWf_copy {Im : z_row} {b m c : Nat} (hw : iWf Im) (hc : c + m ≤ 320) : iWf (cpA Im b m (fun k => Im (c + k))) := fun k hk => by
  unfold cpA
  by_cases q : b ≤ k ∧ k < b + m
  · rw [if_pos q]
    exact hw _ (by omega)
  · rw [if_neg q]
    exact hw k hk
theorem bit_eq {a b : Nat} {P : Nat → Prop} (ha : ∀ p, a.testBit p = true ↔ P p) (hb : ∀ p, b.testBit p = true ↔ P p) : a = b := Nat.eq_of_testBit_eq (fun p => Bool.eq_iff_iff.mpr ((ha p).trans (hb p).symm))
