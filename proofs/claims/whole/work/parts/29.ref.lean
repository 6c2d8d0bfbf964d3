/-! the reference: its object and its rows -/
def MH (h0 : z_H) (A : Nat → Nat) (Rf Nw Th Tp Tx Kd Ia It Lk Ho Sz Im Mv : Nat → Int) (kp ln sz at_ we pa de ti lf md mn hi ha is_ ca : Int) : z_H := fun q => if q = A 0 then some (c_O 8 [z_r (A 1), z_r (A 2), z_r (A 3), z_i kp, z_r (A 4), z_i ln, z_r (A 5), z_i sz, z_i at_, z_i we, z_i pa, z_i de, z_i ti, z_i lf, z_i md, z_i mn, z_r (A 6), z_i hi, z_i ha, z_r (A 7), z_r (A 8), z_i is_, z_r (A 9), z_i ca, z_r (A 10), z_r (A 11), z_r (A 12), z_r (A 13)]) else if q = A 1 then some (c_I 5 Rf) else if q = A 2 then some (c_I 15226 Nw) else if q = A 3 then some (c_I 15226 Th) else if q = A 4 then some (c_I 250 Tp) else if q = A 5 then some (c_I 250 Tx) else if q = A 6 then some (c_I 200 Kd) else if q = A 7 then some (c_I 6 Ia) else if q = A 8 then some (c_I 6 It) else if q = A 9 then some (c_I 30 Lk) else if q = A 10 then some (c_I 8 Ho) else if q = A 11 then some (c_I 8 Sz) else if q = A 12 then some (c_J 320 Im) else if q = A 13 then some (c_J 40 Mv) else h0 q
def mD (A : Nat → Nat) : Prop := ∀ i j, i < 14 → j < 14 → A i = A j → i = j
theorem mD.ne {A : Nat → Nat} (h : mD A) {i j : Nat} (hi : i < 14) (hj : j < 14) (hij : i ≠ j) : A i ≠ A j := fun e => hij (h i j hi hj e)
section ZM
variable {h0 : z_H} {A : Nat → Nat} {Rf Nw Th Tp Tx Kd Ia It Lk Ho Sz Im Mv : Nat → Int} {kp ln sz at_ we pa de ti lf md mn hi ha is_ ca : Int}
theorem MH_0 : (MH h0 A Rf Nw Th Tp Tx Kd Ia It Lk Ho Sz Im Mv kp ln sz at_ we pa de ti lf md mn hi ha is_ ca) (A 0) = some (c_O 8 [z_r (A 1), z_r (A 2), z_r (A 3), z_i kp, z_r (A 4), z_i ln, z_r (A 5), z_i sz, z_i at_, z_i we, z_i pa, z_i de, z_i ti, z_i lf, z_i md, z_i mn, z_r (A 6), z_i hi, z_i ha, z_r (A 7), z_r (A 8), z_i is_, z_r (A 9), z_i ca, z_r (A 10), z_r (A 11), z_r (A 12), z_r (A 13)]) := if_pos rfl
theorem MH_1 (D : mD A) : (MH h0 A Rf Nw Th Tp Tx Kd Ia It Lk Ho Sz Im Mv kp ln sz at_ we pa de ti lf md mn hi ha is_ ca) (A 1) = some (c_I 5 Rf) := by
  unfold MH
  rw [if_neg (D.ne (i := 1) (j := 0) (by decide) (by decide) (by decide)), if_pos rfl]
theorem MH_2 (D : mD A) : (MH h0 A Rf Nw Th Tp Tx Kd Ia It Lk Ho Sz Im Mv kp ln sz at_ we pa de ti lf md mn hi ha is_ ca) (A 2) = some (c_I 15226 Nw) := by
  unfold MH
  rw [if_neg (D.ne (i := 2) (j := 0) (by decide) (by decide) (by decide)), if_neg (D.ne (i := 2) (j := 1) (by decide) (by decide) (by decide)), if_pos rfl]
theorem MH_3 (D : mD A) : (MH h0 A Rf Nw Th Tp Tx Kd Ia It Lk Ho Sz Im Mv kp ln sz at_ we pa de ti lf md mn hi ha is_ ca) (A 3) = some (c_I 15226 Th) := by
  unfold MH
  rw [if_neg (D.ne (i := 3) (j := 0) (by decide) (by decide) (by decide)), if_neg (D.ne (i := 3) (j := 1) (by decide) (by decide) (by decide)), if_neg (D.ne (i := 3) (j := 2) (by decide) (by decide) (by decide)), if_pos rfl]
theorem MH_4 (D : mD A) : (MH h0 A Rf Nw Th Tp Tx Kd Ia It Lk Ho Sz Im Mv kp ln sz at_ we pa de ti lf md mn hi ha is_ ca) (A 4) = some (c_I 250 Tp) := by
  unfold MH
  rw [if_neg (D.ne (i := 4) (j := 0) (by decide) (by decide) (by decide)), if_neg (D.ne (i := 4) (j := 1) (by decide) (by decide) (by decide)), if_neg (D.ne (i := 4) (j := 2) (by decide) (by decide) (by decide)), if_neg (D.ne (i := 4) (j := 3) (by decide) (by decide) (by decide)), if_pos rfl]
theorem MH_5 (D : mD A) : (MH h0 A Rf Nw Th Tp Tx Kd Ia It Lk Ho Sz Im Mv kp ln sz at_ we pa de ti lf md mn hi ha is_ ca) (A 5) = some (c_I 250 Tx) := by
  unfold MH
  rw [if_neg (D.ne (i := 5) (j := 0) (by decide) (by decide) (by decide)), if_neg (D.ne (i := 5) (j := 1) (by decide) (by decide) (by decide)), if_neg (D.ne (i := 5) (j := 2) (by decide) (by decide) (by decide)), if_neg (D.ne (i := 5) (j := 3) (by decide) (by decide) (by decide)), if_neg (D.ne (i := 5) (j := 4) (by decide) (by decide) (by decide)), if_pos rfl]
theorem MH_6 (D : mD A) : (MH h0 A Rf Nw Th Tp Tx Kd Ia It Lk Ho Sz Im Mv kp ln sz at_ we pa de ti lf md mn hi ha is_ ca) (A 6) = some (c_I 200 Kd) := by
  unfold MH
  rw [if_neg (D.ne (i := 6) (j := 0) (by decide) (by decide) (by decide)), if_neg (D.ne (i := 6) (j := 1) (by decide) (by decide) (by decide)), if_neg (D.ne (i := 6) (j := 2) (by decide) (by decide) (by decide)), if_neg (D.ne (i := 6) (j := 3) (by decide) (by decide) (by decide)), if_neg (D.ne (i := 6) (j := 4) (by decide) (by decide) (by decide)), if_neg (D.ne (i := 6) (j := 5) (by decide) (by decide) (by decide)), if_pos rfl]
theorem MH_7 (D : mD A) : (MH h0 A Rf Nw Th Tp Tx Kd Ia It Lk Ho Sz Im Mv kp ln sz at_ we pa de ti lf md mn hi ha is_ ca) (A 7) = some (c_I 6 Ia) := by
  unfold MH
  rw [if_neg (D.ne (i := 7) (j := 0) (by decide) (by decide) (by decide)), if_neg (D.ne (i := 7) (j := 1) (by decide) (by decide) (by decide)), if_neg (D.ne (i := 7) (j := 2) (by decide) (by decide) (by decide)), if_neg (D.ne (i := 7) (j := 3) (by decide) (by decide) (by decide)), if_neg (D.ne (i := 7) (j := 4) (by decide) (by decide) (by decide)), if_neg (D.ne (i := 7) (j := 5) (by decide) (by decide) (by decide)), if_neg (D.ne (i := 7) (j := 6) (by decide) (by decide) (by decide)), if_pos rfl]
theorem MH_8 (D : mD A) : (MH h0 A Rf Nw Th Tp Tx Kd Ia It Lk Ho Sz Im Mv kp ln sz at_ we pa de ti lf md mn hi ha is_ ca) (A 8) = some (c_I 6 It) := by
  unfold MH
  rw [if_neg (D.ne (i := 8) (j := 0) (by decide) (by decide) (by decide)), if_neg (D.ne (i := 8) (j := 1) (by decide) (by decide) (by decide)), if_neg (D.ne (i := 8) (j := 2) (by decide) (by decide) (by decide)), if_neg (D.ne (i := 8) (j := 3) (by decide) (by decide) (by decide)), if_neg (D.ne (i := 8) (j := 4) (by decide) (by decide) (by decide)), if_neg (D.ne (i := 8) (j := 5) (by decide) (by decide) (by decide)), if_neg (D.ne (i := 8) (j := 6) (by decide) (by decide) (by decide)), if_neg (D.ne (i := 8) (j := 7) (by decide) (by decide) (by decide)), if_pos rfl]
theorem MH_9 (D : mD A) : (MH h0 A Rf Nw Th Tp Tx Kd Ia It Lk Ho Sz Im Mv kp ln sz at_ we pa de ti lf md mn hi ha is_ ca) (A 9) = some (c_I 30 Lk) := by
  unfold MH
  rw [if_neg (D.ne (i := 9) (j := 0) (by decide) (by decide) (by decide)), if_neg (D.ne (i := 9) (j := 1) (by decide) (by decide) (by decide)), if_neg (D.ne (i := 9) (j := 2) (by decide) (by decide) (by decide)), if_neg (D.ne (i := 9) (j := 3) (by decide) (by decide) (by decide)), if_neg (D.ne (i := 9) (j := 4) (by decide) (by decide) (by decide)), if_neg (D.ne (i := 9) (j := 5) (by decide) (by decide) (by decide)), if_neg (D.ne (i := 9) (j := 6) (by decide) (by decide) (by decide)), if_neg (D.ne (i := 9) (j := 7) (by decide) (by decide) (by decide)), if_neg (D.ne (i := 9) (j := 8) (by decide) (by decide) (by decide)), if_pos rfl]
theorem MH_10 (D : mD A) : (MH h0 A Rf Nw Th Tp Tx Kd Ia It Lk Ho Sz Im Mv kp ln sz at_ we pa de ti lf md mn hi ha is_ ca) (A 10) = some (c_I 8 Ho) := by
  unfold MH
  rw [if_neg (D.ne (i := 10) (j := 0) (by decide) (by decide) (by decide)), if_neg (D.ne (i := 10) (j := 1) (by decide) (by decide) (by decide)), if_neg (D.ne (i := 10) (j := 2) (by decide) (by decide) (by decide)), if_neg (D.ne (i := 10) (j := 3) (by decide) (by decide) (by decide)), if_neg (D.ne (i := 10) (j := 4) (by decide) (by decide) (by decide)), if_neg (D.ne (i := 10) (j := 5) (by decide) (by decide) (by decide)), if_neg (D.ne (i := 10) (j := 6) (by decide) (by decide) (by decide)), if_neg (D.ne (i := 10) (j := 7) (by decide) (by decide) (by decide)), if_neg (D.ne (i := 10) (j := 8) (by decide) (by decide) (by decide)), if_neg (D.ne (i := 10) (j := 9) (by decide) (by decide) (by decide)), if_pos rfl]
theorem MH_11 (D : mD A) : (MH h0 A Rf Nw Th Tp Tx Kd Ia It Lk Ho Sz Im Mv kp ln sz at_ we pa de ti lf md mn hi ha is_ ca) (A 11) = some (c_I 8 Sz) := by
  unfold MH
  rw [if_neg (D.ne (i := 11) (j := 0) (by decide) (by decide) (by decide)), if_neg (D.ne (i := 11) (j := 1) (by decide) (by decide) (by decide)), if_neg (D.ne (i := 11) (j := 2) (by decide) (by decide) (by decide)), if_neg (D.ne (i := 11) (j := 3) (by decide) (by decide) (by decide)), if_neg (D.ne (i := 11) (j := 4) (by decide) (by decide) (by decide)), if_neg (D.ne (i := 11) (j := 5) (by decide) (by decide) (by decide)), if_neg (D.ne (i := 11) (j := 6) (by decide) (by decide) (by decide)), if_neg (D.ne (i := 11) (j := 7) (by decide) (by decide) (by decide)), if_neg (D.ne (i := 11) (j := 8) (by decide) (by decide) (by decide)), if_neg (D.ne (i := 11) (j := 9) (by decide) (by decide) (by decide)), if_neg (D.ne (i := 11) (j := 10) (by decide) (by decide) (by decide)), if_pos rfl]
theorem MH_12 (D : mD A) : (MH h0 A Rf Nw Th Tp Tx Kd Ia It Lk Ho Sz Im Mv kp ln sz at_ we pa de ti lf md mn hi ha is_ ca) (A 12) = some (c_J 320 Im) := by
  unfold MH
  rw [if_neg (D.ne (i := 12) (j := 0) (by decide) (by decide) (by decide)), if_neg (D.ne (i := 12) (j := 1) (by decide) (by decide) (by decide)), if_neg (D.ne (i := 12) (j := 2) (by decide) (by decide) (by decide)), if_neg (D.ne (i := 12) (j := 3) (by decide) (by decide) (by decide)), if_neg (D.ne (i := 12) (j := 4) (by decide) (by decide) (by decide)), if_neg (D.ne (i := 12) (j := 5) (by decide) (by decide) (by decide)), if_neg (D.ne (i := 12) (j := 6) (by decide) (by decide) (by decide)), if_neg (D.ne (i := 12) (j := 7) (by decide) (by decide) (by decide)), if_neg (D.ne (i := 12) (j := 8) (by decide) (by decide) (by decide)), if_neg (D.ne (i := 12) (j := 9) (by decide) (by decide) (by decide)), if_neg (D.ne (i := 12) (j := 10) (by decide) (by decide) (by decide)), if_neg (D.ne (i := 12) (j := 11) (by decide) (by decide) (by decide)), if_pos rfl]
theorem MH_13 (D : mD A) : (MH h0 A Rf Nw Th Tp Tx Kd Ia It Lk Ho Sz Im Mv kp ln sz at_ we pa de ti lf md mn hi ha is_ ca) (A 13) = some (c_J 40 Mv) := by
  unfold MH
  rw [if_neg (D.ne (i := 13) (j := 0) (by decide) (by decide) (by decide)), if_neg (D.ne (i := 13) (j := 1) (by decide) (by decide) (by decide)), if_neg (D.ne (i := 13) (j := 2) (by decide) (by decide) (by decide)), if_neg (D.ne (i := 13) (j := 3) (by decide) (by decide) (by decide)), if_neg (D.ne (i := 13) (j := 4) (by decide) (by decide) (by decide)), if_neg (D.ne (i := 13) (j := 5) (by decide) (by decide) (by decide)), if_neg (D.ne (i := 13) (j := 6) (by decide) (by decide) (by decide)), if_neg (D.ne (i := 13) (j := 7) (by decide) (by decide) (by decide)), if_neg (D.ne (i := 13) (j := 8) (by decide) (by decide) (by decide)), if_neg (D.ne (i := 13) (j := 9) (by decide) (by decide) (by decide)), if_neg (D.ne (i := 13) (j := 10) (by decide) (by decide) (by decide)), if_neg (D.ne (i := 13) (j := 11) (by decide) (by decide) (by decide)), if_neg (D.ne (i := 13) (j := 12) (by decide) (by decide) (by decide)), if_pos rfl]
theorem MHu_0 {kp' ln' sz' at_' we' pa' de' ti' lf' md' mn' hi' ha' is_' ca' : Int} : z_up (MH h0 A Rf Nw Th Tp Tx Kd Ia It Lk Ho Sz Im Mv kp ln sz at_ we pa de ti lf md mn hi ha is_ ca) (A 0) (c_O 8 [z_r (A 1), z_r (A 2), z_r (A 3), z_i kp', z_r (A 4), z_i ln', z_r (A 5), z_i sz', z_i at_', z_i we', z_i pa', z_i de', z_i ti', z_i lf', z_i md', z_i mn', z_r (A 6), z_i hi', z_i ha', z_r (A 7), z_r (A 8), z_i is_', z_r (A 9), z_i ca', z_r (A 10), z_r (A 11), z_r (A 12), z_r (A 13)]) = (MH h0 A Rf Nw Th Tp Tx Kd Ia It Lk Ho Sz Im Mv kp' ln' sz' at_' we' pa' de' ti' lf' md' mn' hi' ha' is_' ca') := by
  funext q
  unfold z_up MH
  by_cases h : q = A 0
  · rw [if_pos h, if_pos h]
  · rw [if_neg h, if_neg h, if_neg h]
theorem MHu_1 (D : mD A) {f' : Nat → Int} : z_up (MH h0 A Rf Nw Th Tp Tx Kd Ia It Lk Ho Sz Im Mv kp ln sz at_ we pa de ti lf md mn hi ha is_ ca) (A 1) (c_I 5 f') = (MH h0 A f' Nw Th Tp Tx Kd Ia It Lk Ho Sz Im Mv kp ln sz at_ we pa de ti lf md mn hi ha is_ ca) := by
  funext q
  unfold z_up MH
  by_cases h : q = A 1
  · rw [h, if_pos rfl, if_neg (D.ne (i := 1) (j := 0) (by decide) (by decide) (by decide)), if_pos rfl]
  · rw [if_neg h]
    simp only [h, if_false]
theorem MHu_2 (D : mD A) {f' : Nat → Int} : z_up (MH h0 A Rf Nw Th Tp Tx Kd Ia It Lk Ho Sz Im Mv kp ln sz at_ we pa de ti lf md mn hi ha is_ ca) (A 2) (c_I 15226 f') = (MH h0 A Rf f' Th Tp Tx Kd Ia It Lk Ho Sz Im Mv kp ln sz at_ we pa de ti lf md mn hi ha is_ ca) := by
  funext q
  unfold z_up MH
  by_cases h : q = A 2
  · rw [h, if_pos rfl, if_neg (D.ne (i := 2) (j := 0) (by decide) (by decide) (by decide)), if_neg (D.ne (i := 2) (j := 1) (by decide) (by decide) (by decide)), if_pos rfl]
  · rw [if_neg h]
    simp only [h, if_false]
theorem MHu_3 (D : mD A) {f' : Nat → Int} : z_up (MH h0 A Rf Nw Th Tp Tx Kd Ia It Lk Ho Sz Im Mv kp ln sz at_ we pa de ti lf md mn hi ha is_ ca) (A 3) (c_I 15226 f') = (MH h0 A Rf Nw f' Tp Tx Kd Ia It Lk Ho Sz Im Mv kp ln sz at_ we pa de ti lf md mn hi ha is_ ca) := by
  funext q
  unfold z_up MH
  by_cases h : q = A 3
  · rw [h, if_pos rfl, if_neg (D.ne (i := 3) (j := 0) (by decide) (by decide) (by decide)), if_neg (D.ne (i := 3) (j := 1) (by decide) (by decide) (by decide)), if_neg (D.ne (i := 3) (j := 2) (by decide) (by decide) (by decide)), if_pos rfl]
  · rw [if_neg h]
    simp only [h, if_false]
theorem MHu_4 (D : mD A) {f' : Nat → Int} : z_up (MH h0 A Rf Nw Th Tp Tx Kd Ia It Lk Ho Sz Im Mv kp ln sz at_ we pa de ti lf md mn hi ha is_ ca) (A 4) (c_I 250 f') = (MH h0 A Rf Nw Th f' Tx Kd Ia It Lk Ho Sz Im Mv kp ln sz at_ we pa de ti lf md mn hi ha is_ ca) := by
  funext q
  unfold z_up MH
  by_cases h : q = A 4
  · rw [h, if_pos rfl, if_neg (D.ne (i := 4) (j := 0) (by decide) (by decide) (by decide)), if_neg (D.ne (i := 4) (j := 1) (by decide) (by decide) (by decide)), if_neg (D.ne (i := 4) (j := 2) (by decide) (by decide) (by decide)), if_neg (D.ne (i := 4) (j := 3) (by decide) (by decide) (by decide)), if_pos rfl]
  · rw [if_neg h]
    simp only [h, if_false]
theorem MHu_5 (D : mD A) {f' : Nat → Int} : z_up (MH h0 A Rf Nw Th Tp Tx Kd Ia It Lk Ho Sz Im Mv kp ln sz at_ we pa de ti lf md mn hi ha is_ ca) (A 5) (c_I 250 f') = (MH h0 A Rf Nw Th Tp f' Kd Ia It Lk Ho Sz Im Mv kp ln sz at_ we pa de ti lf md mn hi ha is_ ca) := by
  funext q
  unfold z_up MH
  by_cases h : q = A 5
  · rw [h, if_pos rfl, if_neg (D.ne (i := 5) (j := 0) (by decide) (by decide) (by decide)), if_neg (D.ne (i := 5) (j := 1) (by decide) (by decide) (by decide)), if_neg (D.ne (i := 5) (j := 2) (by decide) (by decide) (by decide)), if_neg (D.ne (i := 5) (j := 3) (by decide) (by decide) (by decide)), if_neg (D.ne (i := 5) (j := 4) (by decide) (by decide) (by decide)), if_pos rfl]
  · rw [if_neg h]
    simp only [h, if_false]
theorem MHu_6 (D : mD A) {f' : Nat → Int} : z_up (MH h0 A Rf Nw Th Tp Tx Kd Ia It Lk Ho Sz Im Mv kp ln sz at_ we pa de ti lf md mn hi ha is_ ca) (A 6) (c_I 200 f') = (MH h0 A Rf Nw Th Tp Tx f' Ia It Lk Ho Sz Im Mv kp ln sz at_ we pa de ti lf md mn hi ha is_ ca) := by
  funext q
  unfold z_up MH
  by_cases h : q = A 6
  · rw [h, if_pos rfl, if_neg (D.ne (i := 6) (j := 0) (by decide) (by decide) (by decide)), if_neg (D.ne (i := 6) (j := 1) (by decide) (by decide) (by decide)), if_neg (D.ne (i := 6) (j := 2) (by decide) (by decide) (by decide)), if_neg (D.ne (i := 6) (j := 3) (by decide) (by decide) (by decide)), if_neg (D.ne (i := 6) (j := 4) (by decide) (by decide) (by decide)), if_neg (D.ne (i := 6) (j := 5) (by decide) (by decide) (by decide)), if_pos rfl]
  · rw [if_neg h]
    simp only [h, if_false]
theorem MHu_7 (D : mD A) {f' : Nat → Int} : z_up (MH h0 A Rf Nw Th Tp Tx Kd Ia It Lk Ho Sz Im Mv kp ln sz at_ we pa de ti lf md mn hi ha is_ ca) (A 7) (c_I 6 f') = (MH h0 A Rf Nw Th Tp Tx Kd f' It Lk Ho Sz Im Mv kp ln sz at_ we pa de ti lf md mn hi ha is_ ca) := by
  funext q
  unfold z_up MH
  by_cases h : q = A 7
  · rw [h, if_pos rfl, if_neg (D.ne (i := 7) (j := 0) (by decide) (by decide) (by decide)), if_neg (D.ne (i := 7) (j := 1) (by decide) (by decide) (by decide)), if_neg (D.ne (i := 7) (j := 2) (by decide) (by decide) (by decide)), if_neg (D.ne (i := 7) (j := 3) (by decide) (by decide) (by decide)), if_neg (D.ne (i := 7) (j := 4) (by decide) (by decide) (by decide)), if_neg (D.ne (i := 7) (j := 5) (by decide) (by decide) (by decide)), if_neg (D.ne (i := 7) (j := 6) (by decide) (by decide) (by decide)), if_pos rfl]
  · rw [if_neg h]
    simp only [h, if_false]
theorem MHu_8 (D : mD A) {f' : Nat → Int} : z_up (MH h0 A Rf Nw Th Tp Tx Kd Ia It Lk Ho Sz Im Mv kp ln sz at_ we pa de ti lf md mn hi ha is_ ca) (A 8) (c_I 6 f') = (MH h0 A Rf Nw Th Tp Tx Kd Ia f' Lk Ho Sz Im Mv kp ln sz at_ we pa de ti lf md mn hi ha is_ ca) := by
  funext q
  unfold z_up MH
  by_cases h : q = A 8
  · rw [h, if_pos rfl, if_neg (D.ne (i := 8) (j := 0) (by decide) (by decide) (by decide)), if_neg (D.ne (i := 8) (j := 1) (by decide) (by decide) (by decide)), if_neg (D.ne (i := 8) (j := 2) (by decide) (by decide) (by decide)), if_neg (D.ne (i := 8) (j := 3) (by decide) (by decide) (by decide)), if_neg (D.ne (i := 8) (j := 4) (by decide) (by decide) (by decide)), if_neg (D.ne (i := 8) (j := 5) (by decide) (by decide) (by decide)), if_neg (D.ne (i := 8) (j := 6) (by decide) (by decide) (by decide)), if_neg (D.ne (i := 8) (j := 7) (by decide) (by decide) (by decide)), if_pos rfl]
  · rw [if_neg h]
    simp only [h, if_false]
theorem MHu_9 (D : mD A) {f' : Nat → Int} : z_up (MH h0 A Rf Nw Th Tp Tx Kd Ia It Lk Ho Sz Im Mv kp ln sz at_ we pa de ti lf md mn hi ha is_ ca) (A 9) (c_I 30 f') = (MH h0 A Rf Nw Th Tp Tx Kd Ia It f' Ho Sz Im Mv kp ln sz at_ we pa de ti lf md mn hi ha is_ ca) := by
  funext q
  unfold z_up MH
  by_cases h : q = A 9
  · rw [h, if_pos rfl, if_neg (D.ne (i := 9) (j := 0) (by decide) (by decide) (by decide)), if_neg (D.ne (i := 9) (j := 1) (by decide) (by decide) (by decide)), if_neg (D.ne (i := 9) (j := 2) (by decide) (by decide) (by decide)), if_neg (D.ne (i := 9) (j := 3) (by decide) (by decide) (by decide)), if_neg (D.ne (i := 9) (j := 4) (by decide) (by decide) (by decide)), if_neg (D.ne (i := 9) (j := 5) (by decide) (by decide) (by decide)), if_neg (D.ne (i := 9) (j := 6) (by decide) (by decide) (by decide)), if_neg (D.ne (i := 9) (j := 7) (by decide) (by decide) (by decide)), if_neg (D.ne (i := 9) (j := 8) (by decide) (by decide) (by decide)), if_pos rfl]
  · rw [if_neg h]
    simp only [h, if_false]
theorem MHu_10 (D : mD A) {f' : Nat → Int} : z_up (MH h0 A Rf Nw Th Tp Tx Kd Ia It Lk Ho Sz Im Mv kp ln sz at_ we pa de ti lf md mn hi ha is_ ca) (A 10) (c_I 8 f') = (MH h0 A Rf Nw Th Tp Tx Kd Ia It Lk f' Sz Im Mv kp ln sz at_ we pa de ti lf md mn hi ha is_ ca) := by
  funext q
  unfold z_up MH
  by_cases h : q = A 10
  · rw [h, if_pos rfl, if_neg (D.ne (i := 10) (j := 0) (by decide) (by decide) (by decide)), if_neg (D.ne (i := 10) (j := 1) (by decide) (by decide) (by decide)), if_neg (D.ne (i := 10) (j := 2) (by decide) (by decide) (by decide)), if_neg (D.ne (i := 10) (j := 3) (by decide) (by decide) (by decide)), if_neg (D.ne (i := 10) (j := 4) (by decide) (by decide) (by decide)), if_neg (D.ne (i := 10) (j := 5) (by decide) (by decide) (by decide)), if_neg (D.ne (i := 10) (j := 6) (by decide) (by decide) (by decide)), if_neg (D.ne (i := 10) (j := 7) (by decide) (by decide) (by decide)), if_neg (D.ne (i := 10) (j := 8) (by decide) (by decide) (by decide)), if_neg (D.ne (i := 10) (j := 9) (by decide) (by decide) (by decide)), if_pos rfl]
  · rw [if_neg h]
    simp only [h, if_false]
theorem MHu_11 (D : mD A) {f' : Nat → Int} : z_up (MH h0 A Rf Nw Th Tp Tx Kd Ia It Lk Ho Sz Im Mv kp ln sz at_ we pa de ti lf md mn hi ha is_ ca) (A 11) (c_I 8 f') = (MH h0 A Rf Nw Th Tp Tx Kd Ia It Lk Ho f' Im Mv kp ln sz at_ we pa de ti lf md mn hi ha is_ ca) := by
  funext q
  unfold z_up MH
  by_cases h : q = A 11
  · rw [h, if_pos rfl, if_neg (D.ne (i := 11) (j := 0) (by decide) (by decide) (by decide)), if_neg (D.ne (i := 11) (j := 1) (by decide) (by decide) (by decide)), if_neg (D.ne (i := 11) (j := 2) (by decide) (by decide) (by decide)), if_neg (D.ne (i := 11) (j := 3) (by decide) (by decide) (by decide)), if_neg (D.ne (i := 11) (j := 4) (by decide) (by decide) (by decide)), if_neg (D.ne (i := 11) (j := 5) (by decide) (by decide) (by decide)), if_neg (D.ne (i := 11) (j := 6) (by decide) (by decide) (by decide)), if_neg (D.ne (i := 11) (j := 7) (by decide) (by decide) (by decide)), if_neg (D.ne (i := 11) (j := 8) (by decide) (by decide) (by decide)), if_neg (D.ne (i := 11) (j := 9) (by decide) (by decide) (by decide)), if_neg (D.ne (i := 11) (j := 10) (by decide) (by decide) (by decide)), if_pos rfl]
  · rw [if_neg h]
    simp only [h, if_false]
theorem MHu_12 (D : mD A) {f' : Nat → Int} : z_up (MH h0 A Rf Nw Th Tp Tx Kd Ia It Lk Ho Sz Im Mv kp ln sz at_ we pa de ti lf md mn hi ha is_ ca) (A 12) (c_J 320 f') = (MH h0 A Rf Nw Th Tp Tx Kd Ia It Lk Ho Sz f' Mv kp ln sz at_ we pa de ti lf md mn hi ha is_ ca) := by
  funext q
  unfold z_up MH
  by_cases h : q = A 12
  · rw [h, if_pos rfl, if_neg (D.ne (i := 12) (j := 0) (by decide) (by decide) (by decide)), if_neg (D.ne (i := 12) (j := 1) (by decide) (by decide) (by decide)), if_neg (D.ne (i := 12) (j := 2) (by decide) (by decide) (by decide)), if_neg (D.ne (i := 12) (j := 3) (by decide) (by decide) (by decide)), if_neg (D.ne (i := 12) (j := 4) (by decide) (by decide) (by decide)), if_neg (D.ne (i := 12) (j := 5) (by decide) (by decide) (by decide)), if_neg (D.ne (i := 12) (j := 6) (by decide) (by decide) (by decide)), if_neg (D.ne (i := 12) (j := 7) (by decide) (by decide) (by decide)), if_neg (D.ne (i := 12) (j := 8) (by decide) (by decide) (by decide)), if_neg (D.ne (i := 12) (j := 9) (by decide) (by decide) (by decide)), if_neg (D.ne (i := 12) (j := 10) (by decide) (by decide) (by decide)), if_neg (D.ne (i := 12) (j := 11) (by decide) (by decide) (by decide)), if_pos rfl]
  · rw [if_neg h]
    simp only [h, if_false]
theorem MHu_13 (D : mD A) {f' : Nat → Int} : z_up (MH h0 A Rf Nw Th Tp Tx Kd Ia It Lk Ho Sz Im Mv kp ln sz at_ we pa de ti lf md mn hi ha is_ ca) (A 13) (c_J 40 f') = (MH h0 A Rf Nw Th Tp Tx Kd Ia It Lk Ho Sz Im f' kp ln sz at_ we pa de ti lf md mn hi ha is_ ca) := by
  funext q
  unfold z_up MH
  by_cases h : q = A 13
  · rw [h, if_pos rfl, if_neg (D.ne (i := 13) (j := 0) (by decide) (by decide) (by decide)), if_neg (D.ne (i := 13) (j := 1) (by decide) (by decide) (by decide)), if_neg (D.ne (i := 13) (j := 2) (by decide) (by decide) (by decide)), if_neg (D.ne (i := 13) (j := 3) (by decide) (by decide) (by decide)), if_neg (D.ne (i := 13) (j := 4) (by decide) (by decide) (by decide)), if_neg (D.ne (i := 13) (j := 5) (by decide) (by decide) (by decide)), if_neg (D.ne (i := 13) (j := 6) (by decide) (by decide) (by decide)), if_neg (D.ne (i := 13) (j := 7) (by decide) (by decide) (by decide)), if_neg (D.ne (i := 13) (j := 8) (by decide) (by decide) (by decide)), if_neg (D.ne (i := 13) (j := 9) (by decide) (by decide) (by decide)), if_neg (D.ne (i := 13) (j := 10) (by decide) (by decide) (by decide)), if_neg (D.ne (i := 13) (j := 11) (by decide) (by decide) (by decide)), if_neg (D.ne (i := 13) (j := 12) (by decide) (by decide) (by decide)), if_pos rfl]
  · rw [if_neg h]
    simp only [h, if_false]
end ZM
