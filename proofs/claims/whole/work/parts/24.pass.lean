/-! Pass: the state of a working, its spec, the small methods -/
/-- kinds, places and times of the groups, size, left, made, hitch, its place, within how many -/
abbrev wkT : Type := z_row × z_row × z_row × Int × Int × Int × Int × Int × Int
abbrev k_f (q : wkT) : z_row := q.1
abbrev k_p (q : wkT) : z_row := q.2.1
abbrev k_t (q : wkT) : z_row := q.2.2.1
abbrev k_z (q : wkT) : Int := q.2.2.2.1
abbrev k_l (q : wkT) : Int := q.2.2.2.2.1
abbrev k_m (q : wkT) : Int := q.2.2.2.2.2.1
abbrev k_h (q : wkT) : Int := q.2.2.2.2.2.2.1
abbrev k_a (q : wkT) : Int := q.2.2.2.2.2.2.2.1
abbrev k_w (q : wkT) : Int := q.2.2.2.2.2.2.2.2
def PH (h0 : z_H) (x c k o v : Nat) (q : wkT) : z_H := fun j => if j = x then some (c_O 3 [z_r c, z_r o, z_r v, z_i (k_l q), z_i (k_m q), z_i (k_h q), z_i (k_a q), z_i (k_w q)]) else if j = c then some (c_O 6 [z_r k, z_i (k_z q)]) else if j = k then some (c_I 200 (k_f q)) else if j = o then some (c_I 5 (k_p q)) else if j = v then some (c_I 5 (k_t q)) else h0 j
def pD (x c k o v : Nat) : Prop := (c ≠ x ∧ k ≠ x ∧ o ≠ x ∧ v ≠ x) ∧ (k ≠ c ∧ o ≠ c ∧ v ≠ c) ∧ (o ≠ k ∧ v ≠ k) ∧ v ≠ o
def wkO (q : wkT) : Prop := (0 ≤ k_z q ∧ k_z q ≤ 200) ∧ (0 ≤ k_l q ∧ k_l q ≤ 60) ∧ (0 ≤ k_m q ∧ k_m q ≤ 60) ∧ (0 ≤ k_h q ∧ k_h q ≤ 7) ∧ (0 ≤ k_a q ∧ k_a q ≤ 250) ∧ (0 ≤ k_w q ∧ k_w q ≤ 5) ∧ fOk (k_z q) (k_f q)
section ZP
variable {h0 : z_H} {x c k o v : Nat} {f fp ft : z_row} {z l m hi pl wi : Int}
theorem PHx : PH h0 x c k o v (f, fp, ft, z, l, m, hi, pl, wi) x = some (c_O 3 [z_r c, z_r o, z_r v, z_i l, z_i m, z_i hi, z_i pl, z_i wi]) := if_pos rfl
theorem PHc (D : pD x c k o v) : PH h0 x c k o v (f, fp, ft, z, l, m, hi, pl, wi) c = some (c_O 6 [z_r k, z_i z]) := by
  obtain ⟨⟨d1, d2, d3, d4⟩, -⟩ := D
  unfold PH
  rw [if_neg d1, if_pos rfl]
theorem PHk (D : pD x c k o v) : PH h0 x c k o v (f, fp, ft, z, l, m, hi, pl, wi) k = some (c_I 200 f) := by
  obtain ⟨⟨d1, d2, d3, d4⟩, ⟨e1, e2, e3⟩, -⟩ := D
  unfold PH
  rw [if_neg d2, if_neg e1, if_pos rfl]
theorem PHo (D : pD x c k o v) : PH h0 x c k o v (f, fp, ft, z, l, m, hi, pl, wi) o = some (c_I 5 fp) := by
  obtain ⟨⟨d1, d2, d3, d4⟩, ⟨e1, e2, e3⟩, ⟨f1, f2⟩, -⟩ := D
  unfold PH
  rw [if_neg d3, if_neg e2, if_neg f1, if_pos rfl]
theorem PHv (D : pD x c k o v) : PH h0 x c k o v (f, fp, ft, z, l, m, hi, pl, wi) v = some (c_I 5 ft) := by
  obtain ⟨⟨d1, d2, d3, d4⟩, ⟨e1, e2, e3⟩, ⟨f1, f2⟩, g1⟩ := D
  unfold PH
  rw [if_neg d4, if_neg e3, if_neg f2, if_neg g1, if_pos rfl]
theorem PHux {l' m' hi' pl' wi' : Int} : z_up (PH h0 x c k o v (f, fp, ft, z, l, m, hi, pl, wi)) x (c_O 3 [z_r c, z_r o, z_r v, z_i l', z_i m', z_i hi', z_i pl', z_i wi']) = PH h0 x c k o v (f, fp, ft, z, l', m', hi', pl', wi') := by
  funext q
  unfold z_up PH
  split <;> rfl
theorem PHuc (D : pD x c k o v) {z' : Int} : z_up (PH h0 x c k o v (f, fp, ft, z, l, m, hi, pl, wi)) c (c_O 6 [z_r k, z_i z']) = PH h0 x c k o v (f, fp, ft, z', l, m, hi, pl, wi) := by
  obtain ⟨⟨d1, d2, d3, d4⟩, -⟩ := D
  funext q
  unfold z_up PH
  by_cases h : q = c
  · subst h
    rw [if_pos rfl, if_neg d1, if_pos rfl]
  · rw [if_neg h, if_neg h, if_neg h]
theorem PHuk (D : pD x c k o v) {f' : z_row} : z_up (PH h0 x c k o v (f, fp, ft, z, l, m, hi, pl, wi)) k (c_I 200 f') = PH h0 x c k o v (f', fp, ft, z, l, m, hi, pl, wi) := by
  obtain ⟨⟨d1, d2, d3, d4⟩, ⟨e1, e2, e3⟩, -⟩ := D
  funext q
  unfold z_up PH
  by_cases h : q = k
  · subst h
    rw [if_pos rfl, if_neg d2, if_neg e1, if_pos rfl]
  · rw [if_neg h, if_neg h, if_neg h]
theorem PHuo (D : pD x c k o v) {f' : z_row} : z_up (PH h0 x c k o v (f, fp, ft, z, l, m, hi, pl, wi)) o (c_I 5 f') = PH h0 x c k o v (f, f', ft, z, l, m, hi, pl, wi) := by
  obtain ⟨⟨d1, d2, d3, d4⟩, ⟨e1, e2, e3⟩, ⟨f1, f2⟩, -⟩ := D
  funext q
  unfold z_up PH
  by_cases h : q = o
  · subst h
    rw [if_pos rfl, if_neg d3, if_neg e2, if_neg f1, if_pos rfl]
  · rw [if_neg h, if_neg h, if_neg h]
theorem PHuv (D : pD x c k o v) {f' : z_row} : z_up (PH h0 x c k o v (f, fp, ft, z, l, m, hi, pl, wi)) v (c_I 5 f') = PH h0 x c k o v (f, fp, f', z, l, m, hi, pl, wi) := by
  obtain ⟨⟨d1, d2, d3, d4⟩, ⟨e1, e2, e3⟩, ⟨f1, f2⟩, g1⟩ := D
  funext q
  unfold z_up PH
  by_cases h : q = v
  · subst h
    rw [if_pos rfl, if_neg d4, if_neg e3, if_neg f2, if_neg g1, if_pos rfl]
  · rw [if_neg h, if_neg h, if_neg h]
end ZP
/-- the hitch, its place, within how many -/
def wkS (h a w : Int) (q : wkT) : wkT := (k_f q, k_p q, k_t q, k_z q, k_l q, k_m q, h, a, w)
/-- into a group -/
def wkE (a tm : Int) (w : Nat) (q : wkT) : wkT := (k_f q, z_sf (k_p q) w a, z_sf (k_t q) w tm, k_z q, k_l q, k_m q, k_h q, k_a q, k_w q)
def wkH (kd : Int) (q : wkT) : Int := if kT kd > k_l q then 1 else if k_m q + kM kd > 60 then 2 else if k_z q ≥ 200 then 3 else 0
/-- one stitch -/
def wk1 (kd : Int) (q : wkT) : wkT := (z_sf (k_f q) (k_z q).toNat kd, k_p q, k_t q, k_z q + 1, k_l q - kT kd, k_m q + kM kd, k_h q, k_a q, k_w q)
/-- a word, so many times -/
def wkW (kd a w : Int) : Nat → wkT → wkT
  | 0, q => q
  | n + 1, q => if wkH kd q = 0 then wkW kd a w n (wk1 kd q) else wkS (wkH kd q) a w q
/-- ( ) -/
def wkM (body : wkT → wkT) (a : Int) (w : Nat) : Nat → Int → wkT → wkT
  | 0, _, q => q
  | n + 1, tm, q => if k_h (body (wkE a tm w q)) ≠ 0 ∨ k_z (body (wkE a tm w q)) = k_z q then body (wkE a tm w q) else wkM body a w n (tm + 1) (body (wkE a tm w q))
/-- < > -/
def wkL (body : wkT → wkT) (b a : Int) (w : Nat) : Nat → Int → wkT → wkT
  | 0, _, q => if k_l q < b then wkS 5 a w q else q
  | n + 1, tm, q => if k_l q > b then (if k_h (body (wkE a tm w q)) ≠ 0 then body (wkE a tm w q) else if k_l (body (wkE a tm w q)) = k_l q then wkS 4 a w (body (wkE a tm w q)) else wkL body b a w n (tm + 1) (body (wkE a tm w q))) else if k_l q < b then wkS 5 a w q else q
def wkP (fs fp fn fe : z_row) (rec : Nat → Nat → Nat → wkT → wkT) (w p : Nat) (q : wkT) : wkT :=
  if fs p = 1 then wkM (rec (w + 1) (p + 1) (fe p).toNat) (fp p) w (fn p).toNat 1 q
  else if fs p = 2 then wkL (rec (w + 1) (p + 1) (fe p).toNat) (fn p) (fp p) w 60 1 q
  else wkW (fs p) (fp p) w (fn p).toNat q
def wkQ (fe : z_row) (part : Nat → wkT → wkT) : Nat → Nat → Nat → wkT → wkT
  | 0, _, _, q => q
  | n + 1, p, e, q => if p < e ∧ k_h q = 0 then wkQ fe part n (fe p).toNat e (part p q) else q
/-- the parts from one to another one, d levels deep -/
def wkD (fs fp fn fe : z_row) : Nat → Nat → Nat → Nat → wkT → wkT
  | 0, _, _, _, q => q
  | d + 1, w, p, e, q => wkQ fe (wkP fs fp fn fe (wkD fs fp fn fe d) w) 251 p e q
/-- a whole row -/
def wkA (n : Nat) (fs fp fn fe : z_row) (P : Nat) (q : wkT) : wkT :=
  if k_h (wkD fs fp fn fe 6 0 0 P q) = 0 ∧ k_l (wkD fs fp fn fe 6 0 0 P q) > 0 then wkS 6 n 0 (wkD fs fp fn fe 6 0 0 P q) else wkD fs fp fn fe 6 0 0 P q
theorem kT_b (kd : Int) : 0 ≤ kT kd ∧ kT kd ≤ 3 := by
  unfold kT
  split
  · omega
  · split
    · omega
    · split <;> omega
theorem kM_b (kd : Int) : 0 ≤ kM kd ∧ kM kd ≤ 1 := by
  unfold kM
  split <;> omega
theorem wkH_b (kd : Int) (q : wkT) : 0 ≤ wkH kd q ∧ wkH kd q ≤ 3 := by
  unfold wkH
  split
  · omega
  · split
    · omega
    · split <;> omega
theorem wk1_O {kd : Int} {q : wkT} (h : wkO q) (hk : kOk kd) (hh : wkH kd q = 0) : wkO (wk1 kd q) := by
  obtain ⟨⟨o1, o2⟩, ⟨o3, o4⟩, ⟨o5, o6⟩, o7, o8, o9, o10⟩ := h
  have b1 := kT_b kd
  have b2 := kM_b kd
  unfold wkH at hh
  by_cases c1 : kT kd > k_l q
  · rw [if_pos c1] at hh
    omega
  rw [if_neg c1] at hh
  by_cases c2 : k_m q + kM kd > 60
  · rw [if_pos c2] at hh
    omega
  rw [if_neg c2] at hh
  by_cases c3 : k_z q ≥ 200
  · rw [if_pos c3] at hh
    omega
  refine ⟨⟨?_, ?_⟩, ⟨?_, ?_⟩, ⟨?_, ?_⟩, o7, o8, o9, ?_⟩
  · show 0 ≤ k_z q + 1
    omega
  · show k_z q + 1 ≤ 200
    omega
  · show 0 ≤ k_l q - kT kd
    omega
  · show k_l q - kT kd ≤ 60
    omega
  · show 0 ≤ k_m q + kM kd
    omega
  · show k_m q + kM kd ≤ 60
    omega
  · intro j hj
    have hj : (j : Int) < k_z q + 1 := hj
    show kOk (z_sf (k_f q) (k_z q).toNat kd j)
    by_cases e : j = (k_z q).toNat
    · rw [e, z_sf_s]
      exact hk
    · rw [z_sf_n e]
      exact o10 j (by omega)
theorem wkS_O {h a w : Int} {q : wkT} (hq : wkO q) (h1 : 0 ≤ h ∧ h ≤ 7) (h2 : 0 ≤ a ∧ a ≤ 250) (h3 : 0 ≤ w ∧ w ≤ 5) : wkO (wkS h a w q) := ⟨hq.1, hq.2.1, hq.2.2.1, h1, h2, h3, hq.2.2.2.2.2.2⟩
theorem PHst {h0 : z_H} {x c k o v : Nat} {f fp ft : z_row} {z l m hi pl wi : Int} (D : pD x c k o v) (h : wkO (f, fp, ft, z, l, m, hi, pl, wi)) : oSt (PH h0 x c k o v (f, fp, ft, z, l, m, hi, pl, wi)) c k z f := ⟨PHc D, PHk D, h.1.1, h.1.2⟩
set_option maxHeartbeats 4000000 in
set_option maxRecDepth 100000 in
theorem D_X4_isHitched {g : z_G} {h0 : z_H} {x c k o v : Nat} (hD : pD x c k o v) {f fp ft : z_row} {z l m hi pl wi : Int} (hh : z_in hi) : z_D g mX4_isHitched 1 0 0 [z_r x] (PH h0 x c k o v (f, fp, ft, z, l, m, hi, pl, wi)) (z_Pi (if hi = 0 then 0 else 1) (PH h0 x c k o v (f, fp, ft, z, l, m, hi, pl, wi))) := by
  refine z_D.of (by decide +kernel) (Nat.le_of_ble_eq_true rfl) (fun X F => ?_)
  show z_w g X cX4_isHitched RX4 (1, 0, 0) 0 [z_r x] [] (PH h0 x c k o v (f, fp, ft, z, l, m, hi, pl, wi)) 0 0
  refine z_aload_n dX4_isHitched_0 rfl ?_
  refine gf_X4_25 dX4_isHitched_1 PHx rfl ?_
  refine z_if_eq dX4_isHitched_4 (tgt := 11) rfl hh (fun c1 => ?_) (fun c1 => ?_)
  · skip
    refine z_iconst dX4_isHitched_11 ?_
    exact z_zret F dX4_isHitched_12 rfl (by omega) (by decide) ⟨congrArg (fun z => some (z_i z)) (by split <;> omega), rfl⟩
  · skip
    refine z_iconst dX4_isHitched_7 ?_
    refine z_goto dX4_isHitched_8 (tgt := 12) rfl ?_
    exact z_zret F dX4_isHitched_12 rfl (by omega) (by decide) ⟨congrArg (fun z => some (z_i z)) (by split <;> omega), rfl⟩
set_option maxHeartbeats 4000000 in
set_option maxRecDepth 100000 in
theorem D_X4_groupPlaceAt {g : z_G} {h0 : z_H} {x c k o v : Nat} (hD : pD x c k o v) {f fp ft : z_row} {z l m hi pl wi : Int} {j : Int} (hj : 0 ≤ j ∧ j < 5) : z_D g mX4_groupPlaceAt 1 0 0 [z_r x, z_i j] (PH h0 x c k o v (f, fp, ft, z, l, m, hi, pl, wi)) (z_Pi (fp j.toNat) (PH h0 x c k o v (f, fp, ft, z, l, m, hi, pl, wi))) := by
  refine z_D.of (by decide +kernel) (Nat.le_of_ble_eq_true rfl) (fun X F => ?_)
  show z_w g X cX4_groupPlaceAt RX4 (1, 0, 0) 0 [z_r x, z_i j] [] (PH h0 x c k o v (f, fp, ft, z, l, m, hi, pl, wi)) 0 0
  refine z_iload_n dX4_groupPlaceAt_0 rfl ?_
  refine z_if_lt dX4_groupPlaceAt_1 (tgt := 22) rfl ⟨by omega, by omega⟩ (fun c1 => ?_) (fun c1 => ?_)
  · skip
    exfalso
    omega
  · skip
    refine z_iload_n dX4_groupPlaceAt_4 rfl ?_
    refine z_aload_n dX4_groupPlaceAt_5 rfl ?_
    refine gf_X4_18 dX4_groupPlaceAt_6 PHx rfl ?_
    refine z_alenI dX4_groupPlaceAt_9 (PHo hD) ?_
    refine z_icmp_ge dX4_groupPlaceAt_10 (tgt := 22) rfl ⟨by omega, by omega⟩ ⟨by omega, by omega⟩ (fun c2 => ?_) (fun c2 => ?_)
    · skip
      exfalso
      omega
    · skip
      refine z_aload_n dX4_groupPlaceAt_13 rfl ?_
      refine gf_X4_18 dX4_groupPlaceAt_14 PHx rfl ?_
      refine z_iload_n dX4_groupPlaceAt_17 rfl ?_
      refine z_iald dX4_groupPlaceAt_18 (PHo hD) ⟨by omega, by omega, by omega⟩ ?_
      refine z_goto dX4_groupPlaceAt_19 (tgt := 23) rfl ?_
      exact z_iret F dX4_groupPlaceAt_23 rfl (by decide) ⟨congrArg (fun z => some (z_i z)) (by rfl), rfl⟩
set_option maxHeartbeats 4000000 in
set_option maxRecDepth 100000 in
theorem D_X4_groupTimeAt {g : z_G} {h0 : z_H} {x c k o v : Nat} (hD : pD x c k o v) {f fp ft : z_row} {z l m hi pl wi : Int} {j : Int} (hj : 0 ≤ j ∧ j < 5) : z_D g mX4_groupTimeAt 1 0 0 [z_r x, z_i j] (PH h0 x c k o v (f, fp, ft, z, l, m, hi, pl, wi)) (z_Pi (ft j.toNat) (PH h0 x c k o v (f, fp, ft, z, l, m, hi, pl, wi))) := by
  refine z_D.of (by decide +kernel) (Nat.le_of_ble_eq_true rfl) (fun X F => ?_)
  show z_w g X cX4_groupTimeAt RX4 (1, 0, 0) 0 [z_r x, z_i j] [] (PH h0 x c k o v (f, fp, ft, z, l, m, hi, pl, wi)) 0 0
  refine z_iload_n dX4_groupTimeAt_0 rfl ?_
  refine z_if_lt dX4_groupTimeAt_1 (tgt := 22) rfl ⟨by omega, by omega⟩ (fun c1 => ?_) (fun c1 => ?_)
  · skip
    exfalso
    omega
  · skip
    refine z_iload_n dX4_groupTimeAt_4 rfl ?_
    refine z_aload_n dX4_groupTimeAt_5 rfl ?_
    refine gf_X4_22 dX4_groupTimeAt_6 PHx rfl ?_
    refine z_alenI dX4_groupTimeAt_9 (PHv hD) ?_
    refine z_icmp_ge dX4_groupTimeAt_10 (tgt := 22) rfl ⟨by omega, by omega⟩ ⟨by omega, by omega⟩ (fun c2 => ?_) (fun c2 => ?_)
    · skip
      exfalso
      omega
    · skip
      refine z_aload_n dX4_groupTimeAt_13 rfl ?_
      refine gf_X4_22 dX4_groupTimeAt_14 PHx rfl ?_
      refine z_iload_n dX4_groupTimeAt_17 rfl ?_
      refine z_iald dX4_groupTimeAt_18 (PHv hD) ⟨by omega, by omega, by omega⟩ ?_
      refine z_goto dX4_groupTimeAt_19 (tgt := 23) rfl ?_
      exact z_iret F dX4_groupTimeAt_23 rfl (by decide) ⟨congrArg (fun z => some (z_i z)) (by rfl), rfl⟩
set_option maxHeartbeats 4000000 in
set_option maxRecDepth 100000 in
theorem D_X4_begin {g : z_G} {h0 : z_H} {x c k o v : Nat} (hD : pD x c k o v) {f fp ft : z_row} {z l m hi pl wi : Int} {j : Int} : z_D g mX4_begin 1 0 0 [z_r x, z_i j] (PH h0 x c k o v (f, fp, ft, z, l, m, hi, pl, wi)) (z_Pv (PH h0 x c k o v (f, fp, ft, 0, j, 0, 0, 0, 0))) := by
  refine z_D.of (by decide +kernel) (Nat.le_of_ble_eq_true rfl) (fun X F => ?_)
  show z_w g X cX4_begin RX4 (1, 0, 0) 0 [z_r x, z_i j] [] (PH h0 x c k o v (f, fp, ft, z, l, m, hi, pl, wi)) 0 0
  refine z_aload_n dX4_begin_0 rfl ?_
  refine gf_X4_12 dX4_begin_1 PHx rfl ?_
  refine z_iconst dX4_begin_4 ?_
  refine pf_X4_53 dX4_begin_5 (PHc hD) (Nat.le_of_ble_eq_true rfl) ?_
  refine z_heq (PHuc hD) ?_
  refine z_aload_n dX4_begin_8 rfl ?_
  refine z_iload_n dX4_begin_9 rfl ?_
  refine pf_X4_46 dX4_begin_10 PHx (Nat.le_of_ble_eq_true rfl) ?_
  refine z_heq PHux ?_
  refine z_aload_n dX4_begin_13 rfl ?_
  refine z_iconst dX4_begin_14 ?_
  refine pf_X4_55 dX4_begin_15 PHx (Nat.le_of_ble_eq_true rfl) ?_
  refine z_heq PHux ?_
  refine z_aload_n dX4_begin_18 rfl ?_
  refine z_iconst dX4_begin_19 ?_
  refine pf_X4_25 dX4_begin_20 PHx (Nat.le_of_ble_eq_true rfl) ?_
  refine z_heq PHux ?_
  refine z_aload_n dX4_begin_23 rfl ?_
  refine z_iconst dX4_begin_24 ?_
  refine pf_X4_58 dX4_begin_25 PHx (Nat.le_of_ble_eq_true rfl) ?_
  refine z_heq PHux ?_
  refine z_aload_n dX4_begin_28 rfl ?_
  refine z_iconst dX4_begin_29 ?_
  refine pf_X4_61 dX4_begin_30 PHx (Nat.le_of_ble_eq_true rfl) ?_
  refine z_heq PHux ?_
  exact z_vret F dX4_begin_33 rfl (by decide) ⟨rfl, rfl⟩
set_option maxHeartbeats 4000000 in
set_option maxRecDepth 100000 in
theorem D_X4_stop {g : z_G} {h0 : z_H} {x c k o v : Nat} (hD : pD x c k o v) {f fp ft : z_row} {z l m hi pl wi : Int} {j y w : Int} : z_D g mX4_stop 1 0 0 [z_r x, z_i j, z_i y, z_i w] (PH h0 x c k o v (f, fp, ft, z, l, m, hi, pl, wi)) (z_Pv (PH h0 x c k o v (f, fp, ft, z, l, m, j, y, w))) := by
  refine z_D.of (by decide +kernel) (Nat.le_of_ble_eq_true rfl) (fun X F => ?_)
  show z_w g X cX4_stop RX4 (1, 0, 0) 0 [z_r x, z_i j, z_i y, z_i w] [] (PH h0 x c k o v (f, fp, ft, z, l, m, hi, pl, wi)) 0 0
  refine z_aload_n dX4_stop_0 rfl ?_
  refine z_iload_n dX4_stop_1 rfl ?_
  refine pf_X4_25 dX4_stop_2 PHx (Nat.le_of_ble_eq_true rfl) ?_
  refine z_heq PHux ?_
  refine z_aload_n dX4_stop_5 rfl ?_
  refine z_iload_n dX4_stop_6 rfl ?_
  refine pf_X4_58 dX4_stop_7 PHx (Nat.le_of_ble_eq_true rfl) ?_
  refine z_heq PHux ?_
  refine z_aload_n dX4_stop_10 rfl ?_
  refine z_iload_n dX4_stop_11 rfl ?_
  refine pf_X4_61 dX4_stop_12 PHx (Nat.le_of_ble_eq_true rfl) ?_
  refine z_heq PHux ?_
  exact z_vret F dX4_stop_15 rfl (by decide) ⟨rfl, rfl⟩
set_option maxHeartbeats 4000000 in
set_option maxRecDepth 100000 in
theorem D_X4_stopFilled {g : z_G} {h0 : z_H} {x c k o v : Nat} (hD : pD x c k o v) {f fp ft : z_row} {z l m hi pl wi : Int} {j : Int} : z_D g mX4_stopFilled 2 0 0 [z_r x, z_i j] (PH h0 x c k o v (f, fp, ft, z, l, m, hi, pl, wi)) (z_Pv (PH h0 x c k o v (f, fp, ft, 0, j, 0, 7, 0, 0))) := by
  refine z_D.of (by decide +kernel) (Nat.le_of_ble_eq_true rfl) (fun X F => ?_)
  show z_w g X cX4_stopFilled RX4 (2, 0, 0) 0 [z_r x, z_i j] [] (PH h0 x c k o v (f, fp, ft, z, l, m, hi, pl, wi)) 0 0
  refine z_aload_n dX4_stopFilled_0 rfl ?_
  refine z_iload_n dX4_stopFilled_1 rfl ?_
  refine cs_X4_29 dX4_stopFilled_2 (D_X4_begin hD) PHx rfl rfl (Nat.le_of_ble_eq_true rfl) (by decide) (z_kv ?_)
  refine z_aload_n dX4_stopFilled_5 rfl ?_
  refine z_bipush dX4_stopFilled_6 rfl ?_
  refine z_iconst dX4_stopFilled_8 ?_
  refine z_iconst dX4_stopFilled_9 ?_
  refine cs_X4_33 dX4_stopFilled_10 (D_X4_stop hD) PHx rfl rfl (Nat.le_of_ble_eq_true rfl) (by decide) (z_kv ?_)
  exact z_vret F dX4_stopFilled_13 rfl (by decide) ⟨rfl, rfl⟩
set_option maxHeartbeats 4000000 in
set_option maxRecDepth 100000 in
theorem D_X4_enter {g : z_G} {h0 : z_H} {x c k o v : Nat} (hD : pD x c k o v) {f fp ft : z_row} {z l m hi pl wi : Int} {y tm : Int} {w : Nat} (hw : w < 5) : z_D g mX4_enter 1 0 0 [z_r x, z_i y, z_i tm, z_i (w : Int)] (PH h0 x c k o v (f, fp, ft, z, l, m, hi, pl, wi)) (z_Pv (PH h0 x c k o v (wkE y tm w (f, fp, ft, z, l, m, hi, pl, wi)))) := by
  refine z_D.of (by decide +kernel) (Nat.le_of_ble_eq_true rfl) (fun X F => ?_)
  show z_w g X cX4_enter RX4 (1, 0, 0) 0 [z_r x, z_i y, z_i tm, z_i (w : Int)] [] (PH h0 x c k o v (f, fp, ft, z, l, m, hi, pl, wi)) 0 0
  refine z_iload_n dX4_enter_0 rfl ?_
  refine z_if_lt dX4_enter_1 (tgt := 36) rfl ⟨by omega, by omega⟩ (fun c1 => ?_) (fun c1 => ?_)
  · skip
    exfalso
    omega
  · skip
    refine z_iload_n dX4_enter_4 rfl ?_
    refine z_aload_n dX4_enter_5 rfl ?_
    refine gf_X4_18 dX4_enter_6 PHx rfl ?_
    refine z_alenI dX4_enter_9 (PHo hD) ?_
    refine z_icmp_ge dX4_enter_10 (tgt := 36) rfl ⟨by omega, by omega⟩ ⟨by omega, by omega⟩ (fun c2 => ?_) (fun c2 => ?_)
    · skip
      exfalso
      omega
    · skip
      refine z_iload_n dX4_enter_13 rfl ?_
      refine z_aload_n dX4_enter_14 rfl ?_
      refine gf_X4_22 dX4_enter_15 PHx rfl ?_
      refine z_alenI dX4_enter_18 (PHv hD) ?_
      refine z_icmp_ge dX4_enter_19 (tgt := 36) rfl ⟨by omega, by omega⟩ ⟨by omega, by omega⟩ (fun c3 => ?_) (fun c3 => ?_)
      · skip
        exfalso
        omega
      · skip
        refine z_aload_n dX4_enter_22 rfl ?_
        refine gf_X4_18 dX4_enter_23 PHx rfl ?_
        refine z_iload_n dX4_enter_26 rfl ?_
        refine z_iload_n dX4_enter_27 rfl ?_
        refine z_iast dX4_enter_28 (PHo hD) ⟨by omega, by omega, by omega⟩ ?_
        refine z_heq (PHuo hD) ?_
        refine z_aload_n dX4_enter_29 rfl ?_
        refine gf_X4_22 dX4_enter_30 PHx rfl ?_
        refine z_iload_n dX4_enter_33 rfl ?_
        refine z_iload_n dX4_enter_34 rfl ?_
        refine z_iast dX4_enter_35 (PHv hD) ⟨by omega, by omega, by omega⟩ ?_
        refine z_heq (PHuv hD) ?_
        exact z_vret F dX4_enter_36 rfl (by decide) ⟨rfl, rfl⟩
set_option maxHeartbeats 4000000 in
set_option maxRecDepth 100000 in
theorem D_X4_hitchOf {g : z_G} {h0 : z_H} {x c k o v : Nat} (hD : pD x c k o v) {f fp ft : z_row} {z l m hi pl wi : Int} (hO : wkO (f, fp, ft, z, l, m, hi, pl, wi)) {kd : Int} (hk : kOk kd) : z_D g mX4_hitchOf 1 0 0 [z_r x, z_i (kT kd), z_i (kM kd)] (PH h0 x c k o v (f, fp, ft, z, l, m, hi, pl, wi)) (z_Pi (wkH kd (f, fp, ft, z, l, m, hi, pl, wi)) (PH h0 x c k o v (f, fp, ft, z, l, m, hi, pl, wi))) := by
  refine z_D.of (by decide +kernel) (Nat.le_of_ble_eq_true rfl) (fun X F => ?_)
  show z_w g X cX4_hitchOf RX4 (1, 0, 0) 0 [z_r x, z_i (kT kd), z_i (kM kd)] [] (PH h0 x c k o v (f, fp, ft, z, l, m, hi, pl, wi)) 0 0
  obtain ⟨⟨o1, o2⟩, ⟨o3, o4⟩, ⟨o5, o6⟩, -⟩ := id hO
  have b1 : 0 ≤ kT kd ∧ kT kd ≤ 3 := kT_b kd
  have b2 : 0 ≤ kM kd ∧ kM kd ≤ 1 := kM_b kd
  simp only [k_z, k_l, k_m] at o1 o2 o3 o4 o5 o6
  refine z_iload_n dX4_hitchOf_0 rfl ?_
  refine z_aload_n dX4_hitchOf_1 rfl ?_
  refine gf_X4_46 dX4_hitchOf_2 PHx rfl ?_
  refine z_icmp_le dX4_hitchOf_5 (tgt := 10) rfl ⟨by omega, by omega⟩ ⟨by omega, by omega⟩ (fun c1 => ?_) (fun c1 => ?_)
  · skip
    refine z_aload_n dX4_hitchOf_10 rfl ?_
    refine gf_X4_55 dX4_hitchOf_11 PHx rfl ?_
    refine z_iload_n dX4_hitchOf_14 rfl ?_
    refine z_iadd dX4_hitchOf_15 ?_
    refine z_bipush dX4_hitchOf_16 rfl ?_
    refine z_icmp_le dX4_hitchOf_18 (tgt := 23) rfl ⟨by omega, by omega⟩ (by decide) (fun c2 => ?_) (fun c2 => ?_)
    · skip
      refine z_aload_n dX4_hitchOf_23 rfl ?_
      refine gf_X4_12 dX4_hitchOf_24 PHx rfl ?_
      refine gf_X4_53 dX4_hitchOf_27 (PHc hD) rfl ?_
      refine z_sipush dX4_hitchOf_30 rfl ?_
      refine z_icmp_lt dX4_hitchOf_33 (tgt := 40) rfl ⟨by omega, by omega⟩ (by decide) (fun c3 => ?_) (fun c3 => ?_)
      · skip
        refine z_iconst dX4_hitchOf_40 ?_
        exact z_iret F dX4_hitchOf_41 rfl (by decide) ⟨congrArg (fun z => some (z_i z)) (by unfold wkH; simp only [k_z, k_l, k_m]; repeat (first | rw [if_pos (by omega)] | rw [if_neg (by omega)])), rfl⟩
      · skip
        refine z_iconst dX4_hitchOf_36 ?_
        refine z_goto dX4_hitchOf_37 (tgt := 41) rfl ?_
        exact z_iret F dX4_hitchOf_41 rfl (by decide) ⟨congrArg (fun z => some (z_i z)) (by unfold wkH; simp only [k_z, k_l, k_m]; repeat (first | rw [if_pos (by omega)] | rw [if_neg (by omega)])), rfl⟩
    · skip
      refine z_iconst dX4_hitchOf_21 ?_
      exact z_iret F dX4_hitchOf_22 rfl (by decide) ⟨congrArg (fun z => some (z_i z)) (by unfold wkH; simp only [k_z, k_l, k_m]; repeat (first | rw [if_pos (by omega)] | rw [if_neg (by omega)])), rfl⟩
  · skip
    refine z_iconst dX4_hitchOf_8 ?_
    exact z_iret F dX4_hitchOf_9 rfl (by decide) ⟨congrArg (fun z => some (z_i z)) (by unfold wkH; simp only [k_z, k_l, k_m]; repeat (first | rw [if_pos (by omega)] | rw [if_neg (by omega)])), rfl⟩
set_option maxHeartbeats 2000000 in
set_option maxRecDepth 100000 in
theorem D_X4_workWord {g : z_G} {h0 : z_H} {x c k o v : Nat} (hD : pD x c k o v) {f fp ft : z_row} {z l m hi pl wi : Int} {a b s p u e n : Nat} {t ls lp ln le : z_row} {P d tl i fl : Int} (hL : ∀ q, oLi (PH h0 x c k o v q) a b s p u e n t ls lp ln le P d tl i fl) (hO : wkO (f, fp, ft, z, l, m, hi, pl, wi)) {j w : Nat} (hj : j < n) (hk : kOk (ls j)) (hn : 0 ≤ ln j ∧ ln j ≤ 60) : z_D g mX4_workWord 2 0 0 [z_r x, z_r a, z_i (j : Int), z_i (w : Int)] (PH h0 x c k o v (f, fp, ft, z, l, m, hi, pl, wi)) (z_Pv (PH h0 x c k o v (wkW (ls j) (lp j) w (ln j).toNat (f, fp, ft, z, l, m, hi, pl, wi)))) := by
  refine z_D.of (by decide +kernel) (Nat.le_of_ble_eq_true rfl) (fun X F => ?_)
  obtain ⟨N, hN⟩ : ∃ N : Nat, ln j = (N : Int) := ⟨(ln j).toNat, by omega⟩
  have b1 := kT_b (ls j)
  have b2 := kM_b (ls j)
  show z_w g X cX4_workWord RX4 (2, 0, 0) 0 [z_r x, z_r a, z_i (j : Int), z_i (w : Int), z_u, z_u, z_u, z_u, z_u, z_u] [] (PH h0 x c k o v (f, fp, ft, z, l, m, hi, pl, wi)) 0 0
  refine z_aload_n dX4_workWord_0 rfl ?_
  refine z_iload_n dX4_workWord_1 rfl ?_
  refine cs_X4_64 dX4_workWord_2 (D_X3_sortOf_in (hL _) hj) (hL _).1 rfl rfl (Nat.le_of_ble_eq_true rfl) (by decide) (z_ki ?_)
  refine z_istore dX4_workWord_5 (Nat.le_of_ble_eq_true rfl) rfl ?_
  refine z_iload dX4_workWord_7 rfl ?_
  refine cs_X4_96 dX4_workWord_9 (D_X2_takenBy_ok hk) rfl rfl (Nat.le_of_ble_eq_true rfl) (by decide) (z_ki ?_)
  refine z_istore dX4_workWord_12 (Nat.le_of_ble_eq_true rfl) rfl ?_
  refine z_iload dX4_workWord_14 rfl ?_
  refine cs_X4_101 dX4_workWord_16 (D_X2_madeBy_ok hk) rfl rfl (Nat.le_of_ble_eq_true rfl) (by decide) (z_ki ?_)
  refine z_istore dX4_workWord_19 (Nat.le_of_ble_eq_true rfl) rfl ?_
  refine z_aload_n dX4_workWord_21 rfl ?_
  refine z_iload_n dX4_workWord_22 rfl ?_
  refine cs_X4_87 dX4_workWord_23 (D_X3_numberOf_in (hL _) hj) (hL _).1 rfl rfl (Nat.le_of_ble_eq_true rfl) (by decide) (z_ki ?_)
  refine z_istore dX4_workWord_26 (Nat.le_of_ble_eq_true rfl) rfl ?_
  refine z_iconst dX4_workWord_28 ?_
  refine z_istore dX4_workWord_29 (Nat.le_of_ble_eq_true rfl) rfl ?_
  have L4 : ∀ (fu : Nat) (r rem : Nat) (f2 : z_row) (z2 l2 m2 : Int) (y9 : z_V) (q1 : r + rem = N) (hO2 : wkO (f2, fp, ft, z2, l2, m2, hi, pl, wi)) (q3 : wkW (ls j) (lp j) w N (f, fp, ft, z, l, m, hi, pl, wi) = wkW (ls j) (lp j) w rem (f2, fp, ft, z2, l2, m2, hi, pl, wi)), rem < fu → z_w g X cX4_workWord RX4 (2, 0, 0) 31 [z_r x, z_r a, z_i (j : Int), z_i (w : Int), z_i (ls j), z_i (kT (ls j)), z_i (kM (ls j)), z_i (ln j), z_i (r : Int), y9] [] (PH h0 x c k o v (f2, fp, ft, z2, l2, m2, hi, pl, wi)) 0 0 := by
    intro fu
    induction fu with
    | zero => intro r rem f2 z2 l2 m2 y9 q1 hO2 q3 hm; exact absurd hm (Nat.not_lt_zero _)
    | succ fu ih =>
      intro r rem f2 z2 l2 m2 y9 q1 hO2 q3 hm
      refine z_iload dX4_workWord_31 rfl ?_
      refine z_iload dX4_workWord_33 rfl ?_
      refine z_icmp_ge dX4_workWord_35 (tgt := 103) rfl ⟨by omega, by omega⟩ ⟨by omega, by omega⟩ (fun c1 => ?_) (fun c1 => ?_)
      · skip
        obtain rfl : rem = 0 := by omega
        exact z_vret F dX4_workWord_103 rfl (by decide) ⟨rfl, by rw [show (ln j).toNat = N by omega, q3]; rfl⟩
      · skip
        obtain ⟨rem', rfl⟩ : ∃ y, rem = y + 1 := ⟨rem - 1, by omega⟩
        have hhb := wkH_b (ls j) (f2, fp, ft, z2, l2, m2, hi, pl, wi)
        refine z_aload_n dX4_workWord_38 rfl ?_
        refine z_iload dX4_workWord_39 rfl ?_
        refine z_iload dX4_workWord_41 rfl ?_
        refine cs_X4_104 dX4_workWord_43 (D_X4_hitchOf hD hO2 hk) PHx rfl rfl (Nat.le_of_ble_eq_true rfl) (by decide) (z_ki ?_)
        refine z_istore dX4_workWord_46 (Nat.le_of_ble_eq_true rfl) rfl ?_
        refine z_iload dX4_workWord_48 rfl ?_
        refine z_if_eq dX4_workWord_50 (tgt := 66) rfl ⟨by omega, by omega⟩ (fun c2 => ?_) (fun c2 => ?_)
        · skip
          have c0 : wkH (ls j) (f2, fp, ft, z2, l2, m2, hi, pl, wi) = 0 := c2
          have hz2 : z2 < 200 := by
            have hc0 := c0
            unfold wkH at hc0
            by_cases x1 : kT (ls j) > l2
            · rw [if_pos x1] at hc0; omega
            rw [if_neg x1] at hc0
            by_cases x2 : m2 + kM (ls j) > 60
            · rw [if_pos x2] at hc0; omega
            rw [if_neg x2] at hc0
            by_cases x3 : z2 ≥ 200
            · rw [if_pos x3] at hc0; omega
            omega
          refine z_aload_n dX4_workWord_66 rfl ?_
          refine gf_X4_12 dX4_workWord_67 PHx rfl ?_
          refine z_iload dX4_workWord_70 rfl ?_
          refine cs_X4_107 dX4_workWord_72 (D_X7_addKind (PHst hD hO2) hz2) (PHc hD) rfl rfl (Nat.le_of_ble_eq_true rfl) (by decide) (z_kv ?_)
          refine z_heq (by rw [PHuk hD, PHuc hD]) ?_
          refine z_aload_n dX4_workWord_75 rfl ?_
          refine z_dup dX4_workWord_76 rfl ?_
          refine gf_X4_46 dX4_workWord_77 PHx rfl ?_
          refine z_iload dX4_workWord_80 rfl ?_
          refine z_isub dX4_workWord_82 ?_
          refine pf_X4_46 dX4_workWord_83 PHx (Nat.le_of_ble_eq_true rfl) ?_
          refine z_heq PHux ?_
          refine z_aload_n dX4_workWord_86 rfl ?_
          refine z_dup dX4_workWord_87 rfl ?_
          refine gf_X4_55 dX4_workWord_88 PHx rfl ?_
          refine z_iload dX4_workWord_91 rfl ?_
          refine z_iadd dX4_workWord_93 ?_
          refine pf_X4_55 dX4_workWord_94 PHx (Nat.le_of_ble_eq_true rfl) ?_
          refine z_heq PHux ?_
          refine z_iinc dX4_workWord_97 rfl rfl ?_
          refine z_goto dX4_workWord_100 (tgt := 31) rfl ?_
          exact ih (r + 1) rem' (z_sf f2 z2.toNat (ls j)) (z2 + 1) (l2 - kT (ls j)) (m2 + kM (ls j)) (z_i (wkH (ls j) (f2, fp, ft, z2, l2, m2, hi, pl, wi))) (by omega) (wk1_O hO2 hk c0) (q3.trans (if_pos c0)) (by omega)
        · skip
          have c0 : ¬ wkH (ls j) (f2, fp, ft, z2, l2, m2, hi, pl, wi) = 0 := c2
          refine z_aload_n dX4_workWord_53 rfl ?_
          refine z_iload dX4_workWord_54 rfl ?_
          refine z_aload_n dX4_workWord_56 rfl ?_
          refine z_iload_n dX4_workWord_57 rfl ?_
          refine cs_X4_90 dX4_workWord_58 (D_X3_placeOf_in (hL _) hj) (hL _).1 rfl rfl (Nat.le_of_ble_eq_true rfl) (by decide) (z_ki ?_)
          refine z_iload_n dX4_workWord_61 rfl ?_
          refine cs_X4_33 dX4_workWord_62 (D_X4_stop hD) PHx rfl rfl (Nat.le_of_ble_eq_true rfl) (by decide) (z_kv ?_)
          exact z_vret F dX4_workWord_65 rfl (by decide) ⟨rfl, by rw [show (ln j).toNat = N by omega, q3]; exact congrArg _ (if_neg c0).symm⟩
  exact L4 (N + 1) 0 N f z l m z_u (by omega) hO rfl (by omega)
