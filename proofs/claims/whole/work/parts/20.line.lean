/-! Line: reading a text -/
theorem z_heq {g : z_G} {X : z_X} {cc : ByteArray} {own : String} {r : Nat × Nat × Nat} {pc k n : Nat} {ls st : List z_V} {h h' : z_H} (e : h = h') (kk : z_w g X cc own r pc ls st h' k n) : z_w g X cc own r pc ls st h k n := by
  rw [e]
  exact kk
theorem z_ieq {g : z_G} {X : z_X} {cc : ByteArray} {own : String} {r : Nat × Nat × Nat} {pc k n : Nat} {ls st : List z_V} {h : z_H} {x y : Int} (e : x = y) (kk : z_w g X cc own r pc ls (z_i y :: st) h k n) : z_w g X cc own r pc ls (z_i x :: st) h k n := by
  rw [e]
  exact kk
def LH (h0 : z_H) (a b s p u e n : Nat) (fs fp fn fe : Nat → Int) (P d tl i fl : Int) : z_H := fun q => if q = a then some (c_O 2 [z_r b, z_r s, z_r p, z_r u, z_r e, z_i P, z_i d, z_i tl, z_i i, z_i fl]) else if q = s then some (c_I n fs) else if q = p then some (c_I n fp) else if q = u then some (c_I n fn) else if q = e then some (c_I n fe) else h0 q
def lD (h0 : z_H) (a b s p u e n : Nat) (t : Nat → Int) : Prop := h0 b = some (c_I n t) ∧ (b ≠ a ∧ b ≠ s ∧ b ≠ p ∧ b ≠ u ∧ b ≠ e) ∧ (s ≠ a ∧ p ≠ a ∧ u ≠ a ∧ e ≠ a) ∧ (p ≠ s ∧ u ≠ s ∧ e ≠ s) ∧ (u ≠ p ∧ e ≠ p) ∧ e ≠ u ∧ n ≤ 250 ∧ ∀ j, j < n → 0 ≤ t j ∧ t j ≤ 255
def oLi (h : z_H) (a b s p u e n : Nat) (t fs fp fn fe : Nat → Int) (P d tl i fl : Int) : Prop := h a = some (c_O 2 [z_r b, z_r s, z_r p, z_r u, z_r e, z_i P, z_i d, z_i tl, z_i i, z_i fl]) ∧ h b = some (c_I n t) ∧ h s = some (c_I n fs) ∧ h p = some (c_I n fp) ∧ h u = some (c_I n fn) ∧ h e = some (c_I n fe) ∧ n ≤ 250 ∧ ∀ j, j < n → 0 ≤ t j ∧ t j ≤ 255
section ZL
variable {h0 : z_H} {a b s p u e n : Nat} {t fs fp fn fe : Nat → Int} {P d tl i fl : Int}
theorem LHa : LH h0 a b s p u e n fs fp fn fe P d tl i fl a = some (c_O 2 [z_r b, z_r s, z_r p, z_r u, z_r e, z_i P, z_i d, z_i tl, z_i i, z_i fl]) := if_pos rfl
theorem LHb (D : lD h0 a b s p u e n t) : LH h0 a b s p u e n fs fp fn fe P d tl i fl b = some (c_I n t) := by
  obtain ⟨d0, ⟨d1, d2, d3, d4, d5⟩, -⟩ := D
  unfold LH
  rw [if_neg d1, if_neg d2, if_neg d3, if_neg d4, if_neg d5]
  exact d0
theorem LHs (D : lD h0 a b s p u e n t) : LH h0 a b s p u e n fs fp fn fe P d tl i fl s = some (c_I n fs) := by
  obtain ⟨-, -, ⟨d1, d2, d3, d4⟩, -⟩ := D
  unfold LH
  rw [if_neg d1, if_pos rfl]
theorem LHp (D : lD h0 a b s p u e n t) : LH h0 a b s p u e n fs fp fn fe P d tl i fl p = some (c_I n fp) := by
  obtain ⟨-, -, ⟨d1, d2, d3, d4⟩, ⟨e1, e2, e3⟩, -⟩ := D
  unfold LH
  rw [if_neg d2, if_neg e1, if_pos rfl]
theorem LHu (D : lD h0 a b s p u e n t) : LH h0 a b s p u e n fs fp fn fe P d tl i fl u = some (c_I n fn) := by
  obtain ⟨-, -, ⟨d1, d2, d3, d4⟩, ⟨e1, e2, e3⟩, ⟨f1, f2⟩, -⟩ := D
  unfold LH
  rw [if_neg d3, if_neg e2, if_neg f1, if_pos rfl]
theorem LHe (D : lD h0 a b s p u e n t) : LH h0 a b s p u e n fs fp fn fe P d tl i fl e = some (c_I n fe) := by
  obtain ⟨-, -, ⟨d1, d2, d3, d4⟩, ⟨e1, e2, e3⟩, ⟨f1, f2⟩, g1, -⟩ := D
  unfold LH
  rw [if_neg d4, if_neg e3, if_neg f2, if_neg g1, if_pos rfl]
theorem LHo (D : lD h0 a b s p u e n t) : oLi (LH h0 a b s p u e n fs fp fn fe P d tl i fl) a b s p u e n t fs fp fn fe P d tl i fl := ⟨LHa, LHb D, LHs D, LHp D, LHu D, LHe D, D.2.2.2.2.2.2.1, D.2.2.2.2.2.2.2⟩
theorem LHua {P' d' tl' i' fl' : Int} : z_up (LH h0 a b s p u e n fs fp fn fe P d tl i fl) a (c_O 2 [z_r b, z_r s, z_r p, z_r u, z_r e, z_i P', z_i d', z_i tl', z_i i', z_i fl']) = LH h0 a b s p u e n fs fp fn fe P' d' tl' i' fl' := by
  funext q
  unfold z_up LH
  split <;> rfl
theorem LHus (D : lD h0 a b s p u e n t) {f : Nat → Int} : z_up (LH h0 a b s p u e n fs fp fn fe P d tl i fl) s (c_I n f) = LH h0 a b s p u e n f fp fn fe P d tl i fl := by
  obtain ⟨-, -, ⟨d1, d2, d3, d4⟩, -⟩ := D
  funext q
  unfold z_up LH
  by_cases h : q = s
  · subst h
    rw [if_pos rfl, if_neg d1, if_pos rfl]
  · rw [if_neg h, if_neg h, if_neg h]
theorem LHup (D : lD h0 a b s p u e n t) {f : Nat → Int} : z_up (LH h0 a b s p u e n fs fp fn fe P d tl i fl) p (c_I n f) = LH h0 a b s p u e n fs f fn fe P d tl i fl := by
  obtain ⟨-, -, ⟨d1, d2, d3, d4⟩, ⟨e1, e2, e3⟩, -⟩ := D
  funext q
  unfold z_up LH
  by_cases h : q = p
  · subst h
    rw [if_pos rfl, if_neg d2, if_neg e1, if_pos rfl]
  · rw [if_neg h, if_neg h, if_neg h]
theorem LHuu (D : lD h0 a b s p u e n t) {f : Nat → Int} : z_up (LH h0 a b s p u e n fs fp fn fe P d tl i fl) u (c_I n f) = LH h0 a b s p u e n fs fp f fe P d tl i fl := by
  obtain ⟨-, -, ⟨d1, d2, d3, d4⟩, ⟨e1, e2, e3⟩, ⟨f1, f2⟩, -⟩ := D
  funext q
  unfold z_up LH
  by_cases h : q = u
  · subst h
    rw [if_pos rfl, if_neg d3, if_neg e2, if_neg f1, if_pos rfl]
  · rw [if_neg h, if_neg h, if_neg h]
theorem LHue (D : lD h0 a b s p u e n t) {f : Nat → Int} : z_up (LH h0 a b s p u e n fs fp fn fe P d tl i fl) e (c_I n f) = LH h0 a b s p u e n fs fp fn f P d tl i fl := by
  obtain ⟨-, -, ⟨d1, d2, d3, d4⟩, ⟨e1, e2, e3⟩, ⟨f1, f2⟩, g1, -⟩ := D
  funext q
  unfold z_up LH
  by_cases h : q = e
  · subst h
    rw [if_pos rfl, if_neg d4, if_neg e3, if_neg f2, if_neg g1, if_pos rfl]
  · rw [if_neg h, if_neg h, if_neg h]
theorem LHq {P' d' tl' i' fl' : Int} (h1 : P = P' := by omega) (h2 : d = d' := by omega) (h3 : tl = tl' := by omega) (h4 : i = i' := by omega) (h5 : fl = fl' := by omega) : LH h0 a b s p u e n fs fp fn fe P d tl i fl = LH h0 a b s p u e n fs fp fn fe P' d' tl' i' fl' := by rw [h1, h2, h3, h4, h5]
end ZL
theorem pe_b {n : Nat} {t : Nat → Int} (ht : ∀ j, j < n → 0 ≤ t j ∧ t j ≤ 255) (a : Nat) : -1 ≤ pe n t a ∧ pe n t a ≤ 255 := by
  unfold pe
  split
  · next h => have := ht a h; omega
  · omega
set_option maxHeartbeats 4000000 in
set_option maxRecDepth 100000 in
theorem D_X3_isLetter {g : z_G} {h : z_H} {c : Int} (hc : z_in c) : z_D g mX3_isLetter 1 0 0 [z_i c] h (z_Pi (if 97 ≤ c ∧ c ≤ 122 then 1 else 0) h) := by
  refine z_D.of (by decide +kernel) (Nat.le_of_ble_eq_true rfl) (fun X F => ?_)
  show z_w g X cX3_isLetter RX3 (1, 0, 0) 0 [z_i c] [] h 0 0
  refine z_iload_n dX3_isLetter_0 rfl ?_
  refine z_bipush dX3_isLetter_1 rfl ?_
  refine z_icmp_lt dX3_isLetter_3 (tgt := 16) rfl ⟨by omega, by omega⟩ (by decide) (fun c1 => ?_) (fun c1 => ?_)
  · skip
    refine z_iconst dX3_isLetter_16 ?_
    exact z_zret F dX3_isLetter_17 rfl (by omega) (by decide) ⟨congrArg (fun z => some (z_i z)) (by split <;> omega), rfl⟩
  · skip
    refine z_iload_n dX3_isLetter_6 rfl ?_
    refine z_bipush dX3_isLetter_7 rfl ?_
    refine z_icmp_gt dX3_isLetter_9 (tgt := 16) rfl ⟨by omega, by omega⟩ (by decide) (fun c2 => ?_) (fun c2 => ?_)
    · skip
      refine z_iconst dX3_isLetter_16 ?_
      exact z_zret F dX3_isLetter_17 rfl (by omega) (by decide) ⟨congrArg (fun z => some (z_i z)) (by split <;> omega), rfl⟩
    · skip
      refine z_iconst dX3_isLetter_12 ?_
      refine z_goto dX3_isLetter_13 (tgt := 17) rfl ?_
      exact z_zret F dX3_isLetter_17 rfl (by omega) (by decide) ⟨congrArg (fun z => some (z_i z)) (by split <;> omega), rfl⟩
set_option maxHeartbeats 4000000 in
set_option maxRecDepth 100000 in
theorem D_X3_isDigit {g : z_G} {h : z_H} {c : Int} (hc : z_in c) : z_D g mX3_isDigit 1 0 0 [z_i c] h (z_Pi (if 48 ≤ c ∧ c ≤ 57 then 1 else 0) h) := by
  refine z_D.of (by decide +kernel) (Nat.le_of_ble_eq_true rfl) (fun X F => ?_)
  show z_w g X cX3_isDigit RX3 (1, 0, 0) 0 [z_i c] [] h 0 0
  refine z_iload_n dX3_isDigit_0 rfl ?_
  refine z_bipush dX3_isDigit_1 rfl ?_
  refine z_icmp_lt dX3_isDigit_3 (tgt := 16) rfl ⟨by omega, by omega⟩ (by decide) (fun c1 => ?_) (fun c1 => ?_)
  · skip
    refine z_iconst dX3_isDigit_16 ?_
    exact z_zret F dX3_isDigit_17 rfl (by omega) (by decide) ⟨congrArg (fun z => some (z_i z)) (by split <;> omega), rfl⟩
  · skip
    refine z_iload_n dX3_isDigit_6 rfl ?_
    refine z_bipush dX3_isDigit_7 rfl ?_
    refine z_icmp_gt dX3_isDigit_9 (tgt := 16) rfl ⟨by omega, by omega⟩ (by decide) (fun c2 => ?_) (fun c2 => ?_)
    · skip
      refine z_iconst dX3_isDigit_16 ?_
      exact z_zret F dX3_isDigit_17 rfl (by omega) (by decide) ⟨congrArg (fun z => some (z_i z)) (by split <;> omega), rfl⟩
    · skip
      refine z_iconst dX3_isDigit_12 ?_
      refine z_goto dX3_isDigit_13 (tgt := 17) rfl ?_
      exact z_zret F dX3_isDigit_17 rfl (by omega) (by decide) ⟨congrArg (fun z => some (z_i z)) (by split <;> omega), rfl⟩
set_option maxHeartbeats 4000000 in
set_option maxRecDepth 100000 in
theorem D_X3_size {g : z_G} {h : z_H} {a b s p u e n : Nat} {t fs fp fn fe : Nat → Int} {P d tl i fl : Int} (hl : oLi h a b s p u e n t fs fp fn fe P d tl i fl) : z_D g mX3_size 1 0 0 [z_r a] h (z_Pi (n : Int) h) := by
  refine z_D.of (by decide +kernel) (Nat.le_of_ble_eq_true rfl) (fun X F => ?_)
  show z_w g X cX3_size RX3 (1, 0, 0) 0 [z_r a] [] h 0 0
  obtain ⟨h1, h2, h3, h4, h5, h6, h7, h8⟩ := id hl
  refine z_aload_n dX3_size_0 rfl ?_
  refine gf_X3_30 dX3_size_1 h1 rfl ?_
  refine z_alenI dX3_size_4 h2 ?_
  exact z_iret F dX3_size_5 rfl (by decide) ⟨congrArg (fun z => some (z_i z)) (by rfl), rfl⟩
set_option maxHeartbeats 4000000 in
set_option maxRecDepth 100000 in
theorem D_X3_byteAt {g : z_G} {h : z_H} {a b s p u e n : Nat} {t fs fp fn fe : Nat → Int} {P d tl i fl : Int} (hl : oLi h a b s p u e n t fs fp fn fe P d tl i fl) {j : Int} (hj : z_in j) : z_D g mX3_byteAt 1 0 0 [z_r a, z_i j] h (z_Pi (if 0 ≤ j ∧ j < (n : Int) then t j.toNat else -1) h) := by
  refine z_D.of (by decide +kernel) (Nat.le_of_ble_eq_true rfl) (fun X F => ?_)
  show z_w g X cX3_byteAt RX3 (1, 0, 0) 0 [z_r a, z_i j] [] h 0 0
  obtain ⟨h1, h2, h3, h4, h5, h6, h7, h8⟩ := id hl
  refine z_iload_n dX3_byteAt_0 rfl ?_
  refine z_if_lt dX3_byteAt_1 (tgt := 22) rfl ⟨by omega, by omega⟩ (fun c1 => ?_) (fun c1 => ?_)
  · skip
    refine z_iconst dX3_byteAt_22 ?_
    exact z_iret F dX3_byteAt_23 rfl (by decide) ⟨congrArg (fun z => some (z_i z)) (by first | rw [if_pos ⟨by omega, by omega⟩] | rw [if_neg (by omega)]), rfl⟩
  · skip
    refine z_iload_n dX3_byteAt_4 rfl ?_
    refine z_aload_n dX3_byteAt_5 rfl ?_
    refine gf_X3_30 dX3_byteAt_6 h1 rfl ?_
    refine z_alenI dX3_byteAt_9 h2 ?_
    refine z_icmp_ge dX3_byteAt_10 (tgt := 22) rfl ⟨by omega, by omega⟩ ⟨by omega, by omega⟩ (fun c2 => ?_) (fun c2 => ?_)
    · skip
      refine z_iconst dX3_byteAt_22 ?_
      exact z_iret F dX3_byteAt_23 rfl (by decide) ⟨congrArg (fun z => some (z_i z)) (by first | rw [if_pos ⟨by omega, by omega⟩] | rw [if_neg (by omega)]), rfl⟩
    · skip
      refine z_aload_n dX3_byteAt_13 rfl ?_
      refine gf_X3_30 dX3_byteAt_14 h1 rfl ?_
      refine z_iload_n dX3_byteAt_17 rfl ?_
      refine z_iald dX3_byteAt_18 h2 ⟨by omega, by omega, by omega⟩ ?_
      refine z_goto dX3_byteAt_19 (tgt := 23) rfl ?_
      exact z_iret F dX3_byteAt_23 rfl (by decide) ⟨congrArg (fun z => some (z_i z)) (by first | rw [if_pos ⟨by omega, by omega⟩] | rw [if_neg (by omega)]), rfl⟩
set_option maxHeartbeats 4000000 in
set_option maxRecDepth 100000 in
theorem D_X3_sortOf {g : z_G} {h : z_H} {a b s p u e n : Nat} {t fs fp fn fe : Nat → Int} {P d tl i fl : Int} (hl : oLi h a b s p u e n t fs fp fn fe P d tl i fl) {j : Int} (hj : z_in j) : z_D g mX3_sortOf 1 0 0 [z_r a, z_i j] h (z_Pi (if 0 ≤ j ∧ j < (n : Int) then fs j.toNat else -1) h) := by
  refine z_D.of (by decide +kernel) (Nat.le_of_ble_eq_true rfl) (fun X F => ?_)
  show z_w g X cX3_sortOf RX3 (1, 0, 0) 0 [z_r a, z_i j] [] h 0 0
  obtain ⟨h1, h2, h3, h4, h5, h6, h7, h8⟩ := id hl
  refine z_iload_n dX3_sortOf_0 rfl ?_
  refine z_if_lt dX3_sortOf_1 (tgt := 22) rfl ⟨by omega, by omega⟩ (fun c1 => ?_) (fun c1 => ?_)
  · skip
    refine z_iconst dX3_sortOf_22 ?_
    exact z_iret F dX3_sortOf_23 rfl (by decide) ⟨congrArg (fun z => some (z_i z)) (by first | rw [if_pos ⟨by omega, by omega⟩] | rw [if_neg (by omega)]), rfl⟩
  · skip
    refine z_iload_n dX3_sortOf_4 rfl ?_
    refine z_aload_n dX3_sortOf_5 rfl ?_
    refine gf_X3_34 dX3_sortOf_6 h1 rfl ?_
    refine z_alenI dX3_sortOf_9 h3 ?_
    refine z_icmp_ge dX3_sortOf_10 (tgt := 22) rfl ⟨by omega, by omega⟩ ⟨by omega, by omega⟩ (fun c2 => ?_) (fun c2 => ?_)
    · skip
      refine z_iconst dX3_sortOf_22 ?_
      exact z_iret F dX3_sortOf_23 rfl (by decide) ⟨congrArg (fun z => some (z_i z)) (by first | rw [if_pos ⟨by omega, by omega⟩] | rw [if_neg (by omega)]), rfl⟩
    · skip
      refine z_aload_n dX3_sortOf_13 rfl ?_
      refine gf_X3_34 dX3_sortOf_14 h1 rfl ?_
      refine z_iload_n dX3_sortOf_17 rfl ?_
      refine z_iald dX3_sortOf_18 h3 ⟨by omega, by omega, by omega⟩ ?_
      refine z_goto dX3_sortOf_19 (tgt := 23) rfl ?_
      exact z_iret F dX3_sortOf_23 rfl (by decide) ⟨congrArg (fun z => some (z_i z)) (by first | rw [if_pos ⟨by omega, by omega⟩] | rw [if_neg (by omega)]), rfl⟩
theorem D_X3_sortOf_in {g : z_G} {h : z_H} {a b s p u e n : Nat} {t fs fp fn fe : Nat → Int} {P d tl i fl : Int} (hl : oLi h a b s p u e n t fs fp fn fe P d tl i fl) {j : Nat} (hj : j < n) : z_D g mX3_sortOf 1 0 0 [z_r a, z_i (j : Int)] h (z_Pi (fs j) h) := by
  have h0 := D_X3_sortOf (g := g) hl (j := (j : Int)) ⟨by omega, by have := hl.2.2.2.2.2.2.1; omega⟩
  rw [if_pos ⟨by omega, by omega⟩] at h0
  exact h0
set_option maxHeartbeats 4000000 in
set_option maxRecDepth 100000 in
theorem D_X3_placeOf {g : z_G} {h : z_H} {a b s p u e n : Nat} {t fs fp fn fe : Nat → Int} {P d tl i fl : Int} (hl : oLi h a b s p u e n t fs fp fn fe P d tl i fl) {j : Int} (hj : z_in j) : z_D g mX3_placeOf 1 0 0 [z_r a, z_i j] h (z_Pi (if 0 ≤ j ∧ j < (n : Int) then fp j.toNat else 0) h) := by
  refine z_D.of (by decide +kernel) (Nat.le_of_ble_eq_true rfl) (fun X F => ?_)
  show z_w g X cX3_placeOf RX3 (1, 0, 0) 0 [z_r a, z_i j] [] h 0 0
  obtain ⟨h1, h2, h3, h4, h5, h6, h7, h8⟩ := id hl
  refine z_iload_n dX3_placeOf_0 rfl ?_
  refine z_if_lt dX3_placeOf_1 (tgt := 22) rfl ⟨by omega, by omega⟩ (fun c1 => ?_) (fun c1 => ?_)
  · skip
    refine z_iconst dX3_placeOf_22 ?_
    exact z_iret F dX3_placeOf_23 rfl (by decide) ⟨congrArg (fun z => some (z_i z)) (by first | rw [if_pos ⟨by omega, by omega⟩] | rw [if_neg (by omega)]), rfl⟩
  · skip
    refine z_iload_n dX3_placeOf_4 rfl ?_
    refine z_aload_n dX3_placeOf_5 rfl ?_
    refine gf_X3_37 dX3_placeOf_6 h1 rfl ?_
    refine z_alenI dX3_placeOf_9 h4 ?_
    refine z_icmp_ge dX3_placeOf_10 (tgt := 22) rfl ⟨by omega, by omega⟩ ⟨by omega, by omega⟩ (fun c2 => ?_) (fun c2 => ?_)
    · skip
      refine z_iconst dX3_placeOf_22 ?_
      exact z_iret F dX3_placeOf_23 rfl (by decide) ⟨congrArg (fun z => some (z_i z)) (by first | rw [if_pos ⟨by omega, by omega⟩] | rw [if_neg (by omega)]), rfl⟩
    · skip
      refine z_aload_n dX3_placeOf_13 rfl ?_
      refine gf_X3_37 dX3_placeOf_14 h1 rfl ?_
      refine z_iload_n dX3_placeOf_17 rfl ?_
      refine z_iald dX3_placeOf_18 h4 ⟨by omega, by omega, by omega⟩ ?_
      refine z_goto dX3_placeOf_19 (tgt := 23) rfl ?_
      exact z_iret F dX3_placeOf_23 rfl (by decide) ⟨congrArg (fun z => some (z_i z)) (by first | rw [if_pos ⟨by omega, by omega⟩] | rw [if_neg (by omega)]), rfl⟩
theorem D_X3_placeOf_in {g : z_G} {h : z_H} {a b s p u e n : Nat} {t fs fp fn fe : Nat → Int} {P d tl i fl : Int} (hl : oLi h a b s p u e n t fs fp fn fe P d tl i fl) {j : Nat} (hj : j < n) : z_D g mX3_placeOf 1 0 0 [z_r a, z_i (j : Int)] h (z_Pi (fp j) h) := by
  have h0 := D_X3_placeOf (g := g) hl (j := (j : Int)) ⟨by omega, by have := hl.2.2.2.2.2.2.1; omega⟩
  rw [if_pos ⟨by omega, by omega⟩] at h0
  exact h0
set_option maxHeartbeats 4000000 in
set_option maxRecDepth 100000 in
theorem D_X3_numberOf {g : z_G} {h : z_H} {a b s p u e n : Nat} {t fs fp fn fe : Nat → Int} {P d tl i fl : Int} (hl : oLi h a b s p u e n t fs fp fn fe P d tl i fl) {j : Int} (hj : z_in j) : z_D g mX3_numberOf 1 0 0 [z_r a, z_i j] h (z_Pi (if 0 ≤ j ∧ j < (n : Int) then fn j.toNat else 0) h) := by
  refine z_D.of (by decide +kernel) (Nat.le_of_ble_eq_true rfl) (fun X F => ?_)
  show z_w g X cX3_numberOf RX3 (1, 0, 0) 0 [z_r a, z_i j] [] h 0 0
  obtain ⟨h1, h2, h3, h4, h5, h6, h7, h8⟩ := id hl
  refine z_iload_n dX3_numberOf_0 rfl ?_
  refine z_if_lt dX3_numberOf_1 (tgt := 22) rfl ⟨by omega, by omega⟩ (fun c1 => ?_) (fun c1 => ?_)
  · skip
    refine z_iconst dX3_numberOf_22 ?_
    exact z_iret F dX3_numberOf_23 rfl (by decide) ⟨congrArg (fun z => some (z_i z)) (by first | rw [if_pos ⟨by omega, by omega⟩] | rw [if_neg (by omega)]), rfl⟩
  · skip
    refine z_iload_n dX3_numberOf_4 rfl ?_
    refine z_aload_n dX3_numberOf_5 rfl ?_
    refine gf_X3_40 dX3_numberOf_6 h1 rfl ?_
    refine z_alenI dX3_numberOf_9 h5 ?_
    refine z_icmp_ge dX3_numberOf_10 (tgt := 22) rfl ⟨by omega, by omega⟩ ⟨by omega, by omega⟩ (fun c2 => ?_) (fun c2 => ?_)
    · skip
      refine z_iconst dX3_numberOf_22 ?_
      exact z_iret F dX3_numberOf_23 rfl (by decide) ⟨congrArg (fun z => some (z_i z)) (by first | rw [if_pos ⟨by omega, by omega⟩] | rw [if_neg (by omega)]), rfl⟩
    · skip
      refine z_aload_n dX3_numberOf_13 rfl ?_
      refine gf_X3_40 dX3_numberOf_14 h1 rfl ?_
      refine z_iload_n dX3_numberOf_17 rfl ?_
      refine z_iald dX3_numberOf_18 h5 ⟨by omega, by omega, by omega⟩ ?_
      refine z_goto dX3_numberOf_19 (tgt := 23) rfl ?_
      exact z_iret F dX3_numberOf_23 rfl (by decide) ⟨congrArg (fun z => some (z_i z)) (by first | rw [if_pos ⟨by omega, by omega⟩] | rw [if_neg (by omega)]), rfl⟩
theorem D_X3_numberOf_in {g : z_G} {h : z_H} {a b s p u e n : Nat} {t fs fp fn fe : Nat → Int} {P d tl i fl : Int} (hl : oLi h a b s p u e n t fs fp fn fe P d tl i fl) {j : Nat} (hj : j < n) : z_D g mX3_numberOf 1 0 0 [z_r a, z_i (j : Int)] h (z_Pi (fn j) h) := by
  have h0 := D_X3_numberOf (g := g) hl (j := (j : Int)) ⟨by omega, by have := hl.2.2.2.2.2.2.1; omega⟩
  rw [if_pos ⟨by omega, by omega⟩] at h0
  exact h0
set_option maxHeartbeats 4000000 in
set_option maxRecDepth 100000 in
theorem D_X3_endOf {g : z_G} {h : z_H} {a b s p u e n : Nat} {t fs fp fn fe : Nat → Int} {P d tl i fl : Int} (hl : oLi h a b s p u e n t fs fp fn fe P d tl i fl) {j : Int} (hj : z_in j) : z_D g mX3_endOf 1 0 0 [z_r a, z_i j] h (z_Pi (if 0 ≤ j ∧ j < (n : Int) then fe j.toNat else P) h) := by
  refine z_D.of (by decide +kernel) (Nat.le_of_ble_eq_true rfl) (fun X F => ?_)
  show z_w g X cX3_endOf RX3 (1, 0, 0) 0 [z_r a, z_i j] [] h 0 0
  obtain ⟨h1, h2, h3, h4, h5, h6, h7, h8⟩ := id hl
  refine z_iload_n dX3_endOf_0 rfl ?_
  refine z_if_lt dX3_endOf_1 (tgt := 22) rfl ⟨by omega, by omega⟩ (fun c1 => ?_) (fun c1 => ?_)
  · skip
    refine z_aload_n dX3_endOf_22 rfl ?_
    refine gf_X3_46 dX3_endOf_23 h1 rfl ?_
    exact z_iret F dX3_endOf_26 rfl (by decide) ⟨congrArg (fun z => some (z_i z)) (by first | rw [if_pos ⟨by omega, by omega⟩] | rw [if_neg (by omega)]), rfl⟩
  · skip
    refine z_iload_n dX3_endOf_4 rfl ?_
    refine z_aload_n dX3_endOf_5 rfl ?_
    refine gf_X3_43 dX3_endOf_6 h1 rfl ?_
    refine z_alenI dX3_endOf_9 h6 ?_
    refine z_icmp_ge dX3_endOf_10 (tgt := 22) rfl ⟨by omega, by omega⟩ ⟨by omega, by omega⟩ (fun c2 => ?_) (fun c2 => ?_)
    · skip
      refine z_aload_n dX3_endOf_22 rfl ?_
      refine gf_X3_46 dX3_endOf_23 h1 rfl ?_
      exact z_iret F dX3_endOf_26 rfl (by decide) ⟨congrArg (fun z => some (z_i z)) (by first | rw [if_pos ⟨by omega, by omega⟩] | rw [if_neg (by omega)]), rfl⟩
    · skip
      refine z_aload_n dX3_endOf_13 rfl ?_
      refine gf_X3_43 dX3_endOf_14 h1 rfl ?_
      refine z_iload_n dX3_endOf_17 rfl ?_
      refine z_iald dX3_endOf_18 h6 ⟨by omega, by omega, by omega⟩ ?_
      refine z_goto dX3_endOf_19 (tgt := 26) rfl ?_
      exact z_iret F dX3_endOf_26 rfl (by decide) ⟨congrArg (fun z => some (z_i z)) (by first | rw [if_pos ⟨by omega, by omega⟩] | rw [if_neg (by omega)]), rfl⟩
theorem D_X3_endOf_in {g : z_G} {h : z_H} {a b s p u e n : Nat} {t fs fp fn fe : Nat → Int} {P d tl i fl : Int} (hl : oLi h a b s p u e n t fs fp fn fe P d tl i fl) {j : Nat} (hj : j < n) : z_D g mX3_endOf 1 0 0 [z_r a, z_i (j : Int)] h (z_Pi (fe j) h) := by
  have h0 := D_X3_endOf (g := g) hl (j := (j : Int)) ⟨by omega, by have := hl.2.2.2.2.2.2.1; omega⟩
  rw [if_pos ⟨by omega, by omega⟩] at h0
  exact h0
theorem D_X3_byteAt_n {g : z_G} {h : z_H} {a b s p u e n : Nat} {t fs fp fn fe : Nat → Int} {P d tl i fl : Int} (hl : oLi h a b s p u e n t fs fp fn fe P d tl i fl) {x : Int} {j : Nat} (hx : x = (j : Int)) (hj : j < 1000) : z_D g mX3_byteAt 1 0 0 [z_r a, z_i x] h (z_Pi (pe n t j) h) := by
  subst hx
  have h0 := D_X3_byteAt (g := g) hl (j := (j : Int)) ⟨by omega, by omega⟩
  have e : (if 0 ≤ (j : Int) ∧ (j : Int) < (n : Int) then t ((j : Int)).toNat else -1) = pe n t j := by
    unfold pe
    by_cases q : j < n
    · rw [if_pos ⟨by omega, by omega⟩, if_pos q]
      rfl
    · rw [if_neg (by omega), if_neg q]
  rw [e] at h0
  exact h0
/-- the i-th word stands from x to y -/
def spl (t : Nat → Int) (i x y : Nat) : Prop := z_sn.getD i 0 = y - x ∧ ∀ j, j < y - x → zc i j = t (x + j)
theorem kO_sp {t : Nat → Int} {m x y : Nat} (hm : m < 9) (hxy : x ≤ y) (h : spl t m x y) : kO t x y = 4 + (m : Int) := by
  obtain ⟨h1, h2⟩ := h
  unfold kO kW1 kW2
  rcases (show m = 0 ∨ m = 1 ∨ m = 2 ∨ m = 3 ∨ m = 4 ∨ m = 5 ∨ m = 6 ∨ m = 7 ∨ m = 8 by omega) with q | q | q | q | q | q | q | q | q
  all_goals subst q
  all_goals first
    | (have e : y = x + 1 := by { have h1 : 1 = y - x := h1; omega }
       have c0 := h2 0 (by omega)
       rw [Nat.add_zero] at c0
       rw [if_pos e, ← c0]
       decide)
    | (have e : y = x + 2 := by { have h1 : 2 = y - x := h1; omega }
       have c0 := h2 0 (by omega)
       have c1 := h2 1 (by omega)
       rw [Nat.add_zero] at c0
       rw [if_neg (by omega), if_pos e, ← c0, ← c1]
       decide)
theorem spl_1 {t : Nat → Int} {m x y : Nat} {c : Int} (hn : z_sn.getD m 0 = 1) (hz : zc m 0 = c) (he : y = x + 1) (h : t x = c) : spl t m x y := by
  refine ⟨by omega, fun j hj => ?_⟩
  obtain rfl : j = 0 := by omega
  rw [hz, Nat.add_zero, h]
theorem spl_2 {t : Nat → Int} {m x y : Nat} {c d : Int} (hn : z_sn.getD m 0 = 2) (hz : zc m 0 = c) (hz2 : zc m 1 = d) (he : y = x + 2) (h : t x = c) (h2 : t (x + 1) = d) : spl t m x y := by
  refine ⟨by omega, fun j hj => ?_⟩
  rcases (show j = 0 ∨ j = 1 by omega) with q | q
  · rw [q, hz, Nat.add_zero, h]
  · rw [q, hz2, h2]
theorem kO_no {t : Nat → Int} {x y : Nat} (h : ∀ m, m < 9 → ¬ spl t m x y) : kO t x y = -1 := by
  unfold kO
  split
  · next e =>
    unfold kW1
    by_cases c1 : t x = 107
    · exact absurd (spl_1 rfl (by decide) e c1) (h 0 (by decide))
    · by_cases c2 : t x = 112
      · exact absurd (spl_1 rfl (by decide) e c2) (h 1 (by decide))
      · by_cases c3 : t x = 109
        · exact absurd (spl_1 rfl (by decide) e c3) (h 4 (by decide))
        · rw [if_neg c1, if_neg c2, if_neg c3]
  · split
    · next e =>
      unfold kW2
      by_cases c1 : t x = 115 ∧ t (x + 1) = 108
      · exact absurd (spl_2 rfl (by decide) (by decide) e c1.1 c1.2) (h 2 (by decide))
      by_cases c2 : t x = 121 ∧ t (x + 1) = 111
      · exact absurd (spl_2 rfl (by decide) (by decide) e c2.1 c2.2) (h 3 (by decide))
      by_cases c3 : t x = 107 ∧ t (x + 1) = 116
      · exact absurd (spl_2 rfl (by decide) (by decide) e c3.1 c3.2) (h 5 (by decide))
      by_cases c4 : t x = 115 ∧ t (x + 1) = 107
      · exact absurd (spl_2 rfl (by decide) (by decide) e c4.1 c4.2) (h 6 (by decide))
      by_cases c5 : t x = 98 ∧ t (x + 1) = 111
      · exact absurd (spl_2 rfl (by decide) (by decide) e c5.1 c5.2) (h 7 (by decide))
      by_cases c6 : t x = 115 ∧ t (x + 1) = 100
      · exact absurd (spl_2 rfl (by decide) (by decide) e c6.1 c6.2) (h 8 (by decide))
      rw [if_neg c1, if_neg c2, if_neg c3, if_neg c4, if_neg c5, if_neg c6]
    · rfl
theorem kO_in {t : Nat → Int} {x y : Nat} : kO t x y = -1 ∨ kOk (kO t x y) := by
  by_cases h : ∃ m, m < 9 ∧ x ≤ y ∧ spl t m x y
  · obtain ⟨m, h1, h2, h3⟩ := h
    rw [kO_sp h1 h2 h3]
    exact Or.inr ⟨by omega, by omega⟩
  · by_cases hxy : x ≤ y
    · exact Or.inl (kO_no (fun m hm hs => h ⟨m, hm, hxy, hs⟩))
    · left
      unfold kO
      rw [if_neg (by omega), if_neg (by omega)]
set_option maxHeartbeats 4000000 in
set_option maxRecDepth 100000 in
theorem D_X3_isSpelled {g : z_G} {h : z_H} {a b s p u e n : Nat} {t fs fp fn fe : Nat → Int} {P d tl i fl : Int} (hl : oLi h a b s p u e n t fs fp fn fe P d tl i fl) {w x y : Nat} (hi : w < 10) (hx : x ≤ y ∧ y ≤ n) : z_D g mX3_isSpelled 5 0 0 [z_r a, z_r (g_K g w), z_i (x : Int), z_i (y : Int)] h (z_Pi (bI (spl t w x y)) h) := by
  refine z_D.of (by decide +kernel) (Nat.le_of_ble_eq_true rfl) (fun X F => ?_)
  obtain ⟨h1, h2, h3, h4, h5, h6, h7, h8⟩ := id hl
  have hsl := zs_len w hi
  show z_w g X cX3_isSpelled RX3 (5, 0, 0) 0 [z_r a, z_r (g_K g w), z_i (x : Int), z_i (y : Int), z_u] [] h 0 0
  refine z_aload_n dX3_isSpelled_0 rfl ?_
  refine z_callT hi (z_gV (M := mJ0_length_8abf5) lmX_3_108 wm_J0_length_8abf5 ws_J0_length_8abf5 wi_J0 wc_J0_length_8abf5) rfl ⟨by decide, by decide, by decide +kernel⟩ (by decide) dX3_isSpelled_1 (D_J0_length (i := w) hi) rfl (nargs := 0) rfl (Nat.le_of_ble_eq_true rfl) (by decide) (z_ki ?_)
  refine z_iload_n dX3_isSpelled_4 rfl ?_
  refine z_iload_n dX3_isSpelled_5 rfl ?_
  refine z_isub dX3_isSpelled_6 ?_
  refine z_icmp_ne dX3_isSpelled_7 (tgt := 23) rfl ⟨by omega, by omega⟩ ⟨by omega, by omega⟩ (fun c1 => ?_) (fun c1 => ?_)
  · skip
    have n1 : ¬ spl t w x y := fun q => by have := q.1; omega
    refine z_iconst dX3_isSpelled_23 ?_
    exact z_zret F dX3_isSpelled_24 rfl (by omega) (by decide) ⟨congrArg (fun z => some (z_i z)) (by exact (bI_f n1).symm), rfl⟩
  · skip
    have n2 : z_sn.getD w 0 = y - x := by omega
    refine z_iload_n dX3_isSpelled_10 rfl ?_
    refine z_if_lt dX3_isSpelled_11 (tgt := 23) rfl ⟨by omega, by omega⟩ (fun c2 => ?_) (fun c2 => ?_)
    · skip
      exfalso
      omega
    · skip
      refine z_iload_n dX3_isSpelled_14 rfl ?_
      refine z_aload_n dX3_isSpelled_15 rfl ?_
      refine gf_X3_30 dX3_isSpelled_16 h1 rfl ?_
      refine z_alenI dX3_isSpelled_19 h2 ?_
      refine z_icmp_le dX3_isSpelled_20 (tgt := 25) rfl ⟨by omega, by omega⟩ ⟨by omega, by omega⟩ (fun c3 => ?_) (fun c3 => ?_)
      · skip
        skip
        refine z_iconst dX3_isSpelled_25 ?_
        refine z_istore dX3_isSpelled_26 (Nat.le_of_ble_eq_true rfl) rfl ?_
        have L4 : ∀ (fu : Nat) (j : Nat) (h5x : j ≤ z_sn.getD w 0) (h9 : ∀ q, q < j → zc w q = t (x + q)), z_sn.getD w 0 - j < fu → z_w g X cX3_isSpelled RX3 (5, 0, 0) 28 [z_r a, z_r (g_K g w), z_i (x : Int), z_i (y : Int), z_i (j : Int)] [] h 0 0 := by
          intro fu
          induction fu with
          | zero => intro j h5x h9 hm; exact absurd hm (Nat.not_lt_zero _)
          | succ fu ih =>
            intro j h5x h9 hm
            refine z_iload dX3_isSpelled_28 rfl ?_
            refine z_aload_n dX3_isSpelled_30 rfl ?_
            refine z_callT hi (z_gV (M := mJ0_length_8abf5) lmX_3_108 wm_J0_length_8abf5 ws_J0_length_8abf5 wi_J0 wc_J0_length_8abf5) rfl ⟨by decide, by decide, by decide +kernel⟩ (by decide) dX3_isSpelled_31 (D_J0_length (i := w) hi) rfl (nargs := 0) rfl (Nat.le_of_ble_eq_true rfl) (by decide) (z_ki ?_)
            refine z_icmp_ge dX3_isSpelled_34 (tgt := 63) rfl ⟨by omega, by omega⟩ ⟨by omega, by omega⟩ (fun c4 => ?_) (fun c4 => ?_)
            · skip
              refine z_iconst dX3_isSpelled_63 ?_
              exact z_zret F dX3_isSpelled_64 rfl (by omega) (by decide) ⟨congrArg (fun z => some (z_i z)) (by exact (bI_t ⟨n2, fun q hq => h9 q (by omega)⟩).symm), rfl⟩
            · skip
              refine z_aload_n dX3_isSpelled_37 rfl ?_
              refine z_iload dX3_isSpelled_38 rfl ?_
              refine z_callT hi (z_gV (M := mJ0_charAt_5068e) lmX_3_114 wm_J0_charAt_5068e ws_J0_charAt_5068e wi_J0 wc_J0_charAt_5068e) rfl ⟨by decide, by decide, by decide +kernel⟩ (by decide) dX3_isSpelled_40 ((show z_D g mJ0_charAt_5068e 4 0 0 [z_r (g_K g w), z_i (j : Int)] h (z_Pi (zc w j) h) from D_J0_charAt (i := w) hi (j := (j : Int)) ⟨by omega, by omega⟩)) rfl (nargs := 1) rfl (Nat.le_of_ble_eq_true rfl) (by decide) (z_ki ?_)
              refine z_aload_n dX3_isSpelled_43 rfl ?_
              refine gf_X3_30 dX3_isSpelled_44 h1 rfl ?_
              refine z_iload_n dX3_isSpelled_47 rfl ?_
              refine z_iload dX3_isSpelled_48 rfl ?_
              refine z_iadd dX3_isSpelled_50 ?_
              refine z_iald dX3_isSpelled_51 h2 ⟨by omega, by omega, by omega⟩ ?_
              refine z_icmp_eq dX3_isSpelled_52 (tgt := 57) rfl ⟨by have := zc_in w hi j (by omega); omega, by have := zc_in w hi j (by omega); omega⟩ (by rw [show ((x : Int) + (j : Int)).toNat = x + j by omega]; have := h8 (x + j) (by omega); exact ⟨by omega, by omega⟩) (fun c5 => ?_) (fun c5 => ?_)
              · skip
                rw [show ((x : Int) + (j : Int)).toNat = x + j by omega] at c5
                have c9 := c5
                refine z_iinc dX3_isSpelled_57 rfl rfl ?_
                refine z_goto dX3_isSpelled_60 (tgt := 28) rfl ?_
                exact ih (j + 1) (by omega) (lt_s h9 c9) (by omega)
              · skip
                rw [show ((x : Int) + (j : Int)).toNat = x + j by omega] at c5
                have n1 : ¬ spl t w x y := fun q => c5 (q.2 j (by omega))
                refine z_iconst dX3_isSpelled_55 ?_
                exact z_zret F dX3_isSpelled_56 rfl (by omega) (by decide) ⟨congrArg (fun z => some (z_i z)) (by exact (bI_f n1).symm), rfl⟩
        exact L4 3 0 (Nat.zero_le _) lt_0 (by omega)
      · skip
        exfalso
        omega
set_option maxHeartbeats 4000000 in
set_option maxRecDepth 100000 in
theorem D_X3_kindSpelled {g : z_G} {h : z_H} {a b s p u e n : Nat} {t fs fp fn fe : Nat → Int} {P d tl i fl : Int} (hl : oLi h a b s p u e n t fs fp fn fe P d tl i fl) {x y : Nat} (hx : x ≤ y ∧ y ≤ n) : z_D g mX3_kindSpelled 6 0 0 [z_r a, z_i (x : Int), z_i (y : Int)] h (z_Pi (kO t x y) h) := by
  refine z_D.of (by decide +kernel) (Nat.le_of_ble_eq_true rfl) (fun X F => ?_)
  obtain ⟨h1, h2, h3, h4, h5, h6, h7, h8⟩ := id hl
  have L4 : ∀ (fu : Nat) (m : Nat) (h5x : m ≤ 9) (h9 : ∀ q, q < m → ¬ spl t q x y), 9 - m < fu → z_w g X cX3_kindSpelled RX3 (6, 0, 0) 2 [z_r a, z_i (x : Int), z_i (y : Int), z_i (4 + (m : Int))] [] h 0 0 := by
    intro fu
    induction fu with
    | zero => intro m h5x h9 hm; exact absurd hm (Nat.not_lt_zero _)
    | succ fu ih =>
      intro m h5x h9 hm
      refine z_iload_n dX3_kindSpelled_2 rfl ?_
      refine z_bipush dX3_kindSpelled_3 rfl ?_
      refine z_icmp_gt dX3_kindSpelled_5 (tgt := 29) rfl ⟨by omega, by omega⟩ (by decide) (fun c1 => ?_) (fun c1 => ?_)
      · skip
        refine z_iconst dX3_kindSpelled_29 ?_
        exact z_iret F dX3_kindSpelled_30 rfl (by decide) ⟨congrArg (fun z => some (z_i z)) (by exact (kO_no (fun q hq => h9 q (by omega))).symm), rfl⟩
      · skip
        have e1 : (4 + (m : Int) - 4).toNat = m := by omega
        refine z_aload_n dX3_kindSpelled_8 rfl ?_
        refine z_iload_n dX3_kindSpelled_9 rfl ?_
        refine cs_X3_100 dX3_kindSpelled_10 (e1 ▸ D_X2_wordOf (a := 4 + (m : Int)) ⟨by omega, by omega⟩) rfl rfl (Nat.le_of_ble_eq_true rfl) (by decide) (z_kq ?_)
        refine z_iload_n dX3_kindSpelled_13 rfl ?_
        refine z_iload_n dX3_kindSpelled_14 rfl ?_
        refine cs_X3_104 dX3_kindSpelled_15 (D_X3_isSpelled hl (w := m) (by omega) hx) h1 rfl rfl (Nat.le_of_ble_eq_true rfl) (by decide) (z_ki ?_)
        refine z_if_eq dX3_kindSpelled_18 (tgt := 23) rfl (bI_in _) (fun c2 => ?_) (fun c2 => ?_)
        · skip
          have c9 := bI_0 c2
          refine z_iinc dX3_kindSpelled_23 rfl rfl ?_
          refine z_goto dX3_kindSpelled_26 (tgt := 2) rfl ?_
          exact ((show 4 + ((m + 1 : Nat) : Int) = 4 + (m : Int) + 1 by omega) ▸ ih (m + 1) (by omega) (lt_s h9 c9) (by omega) :)
        · skip
          have c9 := bI_1 c2
          refine z_iload_n dX3_kindSpelled_21 rfl ?_
          exact z_iret F dX3_kindSpelled_22 rfl (by decide) ⟨congrArg (fun z => some (z_i z)) (by exact (kO_sp (by omega) hx.1 c9).symm), rfl⟩
  show z_w g X cX3_kindSpelled RX3 (6, 0, 0) 0 [z_r a, z_i (x : Int), z_i (y : Int), z_u] [] h 0 0
  refine z_iconst dX3_kindSpelled_0 ?_
  refine z_istore_n dX3_kindSpelled_1 (Nat.le_of_ble_eq_true rfl) rfl ?_
  exact L4 10 0 (Nat.zero_le _) lt_0 (by omega)
