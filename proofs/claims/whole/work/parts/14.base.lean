/-! answers of methods that read alone, and how a caller goes on -/
abbrev z_P : Type := Option z_V → z_H → Prop
def z_Pi (v : Int) (h : z_H) : z_P := fun rv h' => rv = some (z_i v) ∧ h' = h
def z_Pl (v : Int) (h : z_H) : z_P := fun rv h' => rv = some (z_l v) ∧ h' = h
def z_Pq (o : Option Nat) (h : z_H) : z_P := fun rv h' => rv = some (z_q o) ∧ h' = h
def z_Pv (h : z_H) : z_P := fun rv h' => rv = none ∧ h' = h
section ZK
variable {g : z_G} {X : z_X} {cc : ByteArray} {own : String} {r : Nat × Nat × Nat} {pc k n : Nat} {ls st : List z_V} {h : z_H}
theorem z_ki {v : Int} (kk : z_w g X cc own r pc ls (z_i v :: st) h k n) : ∀ rv h', z_Pi v h rv h' → z_w g X cc own r pc ls (rv.toList ++ st) h' k n := by
  rintro _ _ ⟨rfl, rfl⟩
  exact kk
theorem z_kl {v : Int} (kk : z_w g X cc own r pc ls (z_l v :: st) h k n) : ∀ rv h', z_Pl v h rv h' → z_w g X cc own r pc ls (rv.toList ++ st) h' k n := by
  rintro _ _ ⟨rfl, rfl⟩
  exact kk
theorem z_kq {o : Option Nat} (kk : z_w g X cc own r pc ls (z_q o :: st) h k n) : ∀ rv h', z_Pq o h rv h' → z_w g X cc own r pc ls (rv.toList ++ st) h' k n := by
  rintro _ _ ⟨rfl, rfl⟩
  exact kk
theorem z_kv (kk : z_w g X cc own r pc ls st h k n) : ∀ rv h', z_Pv h rv h' → z_w g X cc own r pc ls (rv.toList ++ st) h' k n := by
  rintro _ _ ⟨rfl, rfl⟩
  exact kk
end ZK
def z_cmp (a b : Int) : Int := if a < b then -1 else if a = b then 0 else 1
theorem z_cmpin (a b : Int) : z_in (if a < b then -1 else if a = b then 0 else 1) := by
  split
  · exact ⟨by omega, by omega⟩
  · split <;> exact ⟨by omega, by omega⟩
section ZC
variable {a b : Int}
theorem z_cmp_eq (h : (if a < b then -1 else if a = b then 0 else 1) = 0) : a = b := by
  by_cases h1 : a < b
  · simp [h1] at h ⊢ <;> omega
  · by_cases h2 : a = b
    · simp [h2] at h ⊢ <;> omega
    · simp [h1, h2] at h ⊢ <;> omega
theorem z_cmp_neq (h : ¬ (if a < b then -1 else if a = b then 0 else 1) = 0) : a ≠ b := by
  by_cases h1 : a < b
  · simp [h1] at h ⊢ <;> omega
  · by_cases h2 : a = b
    · simp [h2] at h ⊢ <;> omega
    · simp [h1, h2] at h ⊢ <;> omega
theorem z_cmp_ne (h : (if a < b then -1 else if a = b then 0 else 1) ≠ 0) : a ≠ b := by
  by_cases h1 : a < b
  · simp [h1] at h ⊢ <;> omega
  · by_cases h2 : a = b
    · simp [h2] at h ⊢ <;> omega
    · simp [h1, h2] at h ⊢ <;> omega
theorem z_cmp_nne (h : (if a < b then -1 else if a = b then 0 else 1) = 0) : a = b := by
  by_cases h1 : a < b
  · simp [h1] at h ⊢ <;> omega
  · by_cases h2 : a = b
    · simp [h2] at h ⊢ <;> omega
    · simp [h1, h2] at h ⊢ <;> omega
theorem z_cmp_lt (h : (if a < b then -1 else if a = b then 0 else 1) < 0) : a < b := by
  by_cases h1 : a < b
  · simp [h1] at h ⊢ <;> omega
  · by_cases h2 : a = b
    · simp [h2] at h ⊢ <;> omega
    · simp [h1, h2] at h ⊢ <;> omega
theorem z_cmp_nlt (h : ¬ (if a < b then -1 else if a = b then 0 else 1) < 0) : a ≥ b := by
  by_cases h1 : a < b
  · simp [h1] at h ⊢ <;> omega
  · by_cases h2 : a = b
    · simp [h2] at h ⊢ <;> omega
    · simp [h1, h2] at h ⊢ <;> omega
theorem z_cmp_ge (h : (if a < b then -1 else if a = b then 0 else 1) ≥ 0) : a ≥ b := by
  by_cases h1 : a < b
  · simp [h1] at h ⊢ <;> omega
  · by_cases h2 : a = b
    · simp [h2] at h ⊢ <;> omega
    · simp [h1, h2] at h ⊢ <;> omega
theorem z_cmp_nge (h : (if a < b then -1 else if a = b then 0 else 1) < 0) : a < b := by
  by_cases h1 : a < b
  · simp [h1] at h ⊢ <;> omega
  · by_cases h2 : a = b
    · simp [h2] at h ⊢ <;> omega
    · simp [h1, h2] at h ⊢ <;> omega
theorem z_cmp_gt (h : (if a < b then -1 else if a = b then 0 else 1) > 0) : a > b := by
  by_cases h1 : a < b
  · simp [h1] at h ⊢ <;> omega
  · by_cases h2 : a = b
    · simp [h2] at h ⊢ <;> omega
    · simp [h1, h2] at h ⊢ <;> omega
theorem z_cmp_ngt (h : (if a < b then -1 else if a = b then 0 else 1) ≤ 0) : a ≤ b := by
  by_cases h1 : a < b
  · simp [h1] at h ⊢ <;> omega
  · by_cases h2 : a = b
    · simp [h2] at h ⊢ <;> omega
    · simp [h1, h2] at h ⊢ <;> omega
theorem z_cmp_le (h : (if a < b then -1 else if a = b then 0 else 1) ≤ 0) : a ≤ b := by
  by_cases h1 : a < b
  · simp [h1] at h ⊢ <;> omega
  · by_cases h2 : a = b
    · simp [h2] at h ⊢ <;> omega
    · simp [h1, h2] at h ⊢ <;> omega
theorem z_cmp_nle (h : ¬ (if a < b then -1 else if a = b then 0 else 1) ≤ 0) : a > b := by
  by_cases h1 : a < b
  · simp [h1] at h ⊢ <;> omega
  · by_cases h2 : a = b
    · simp [h2] at h ⊢ <;> omega
    · simp [h1, h2] at h ⊢ <;> omega
end ZC
-- kinds
def kX (i : Nat) (k : Int) : Int := if 0 ≤ k ∧ k < 13 then z_tv i k.toNat else 0
def kT (k : Int) : Int := if k = 12 then 3 else if k = 9 ∨ k = 10 then 2 else if k = 7 ∨ k = 8 then 0 else 1
def kM (k : Int) : Int := if k = 11 then 0 else 1
def kY (k : Int) : Int := if k = 4 then 10 else if k = 5 then 11 else if k = 6 then 4 else if k = 7 then 13 else if k = 8 then 9 else if k = 9 then 12 else if k = 10 then 14 else if k = 11 then 15 else 18
def kMi (k : Int) : Int := if k = 9 then 10 else if k = 10 then 9 else k
def kTu (k : Int) : Int := if k = 4 then 5 else if k = 5 then 4 else kMi k
abbrev kOk (k : Int) : Prop := 4 ≤ k ∧ k ≤ 12
theorem kOk_c {P : Int → Prop} (h4 : P 4) (h5 : P 5) (h6 : P 6) (h7 : P 7) (h8 : P 8) (h9 : P 9) (h10 : P 10) (h11 : P 11) (h12 : P 12) {k : Int} (hk : kOk k) : P k := by
  obtain ⟨h1, h2⟩ := hk
  rcases (show k = 4 ∨ k = 5 ∨ k = 6 ∨ k = 7 ∨ k = 8 ∨ k = 9 ∨ k = 10 ∨ k = 11 ∨ k = 12 by omega) with rfl | rfl | rfl | rfl | rfl | rfl | rfl | rfl | rfl <;> assumption
theorem kX_T {k : Int} (hk : kOk k) : kX 1 k = kT k := kOk_c (P := fun k => kX 1 k = kT k) (by decide) (by decide) (by decide) (by decide) (by decide) (by decide) (by decide) (by decide) (by decide) hk
theorem kX_M {k : Int} (hk : kOk k) : kX 2 k = kM k := kOk_c (P := fun k => kX 2 k = kM k) (by decide) (by decide) (by decide) (by decide) (by decide) (by decide) (by decide) (by decide) (by decide) hk
theorem kX_Y {k : Int} (hk : kOk k) : kX 3 k = kY k := kOk_c (P := fun k => kX 3 k = kY k) (by decide) (by decide) (by decide) (by decide) (by decide) (by decide) (by decide) (by decide) (by decide) hk
theorem kX_out {i : Nat} {k : Int} (h : k < 0 ∨ 13 ≤ k) : kX i k = 0 := if_neg (by omega)
theorem kX_in {i : Nat} {k : Int} (h : 0 ≤ k ∧ k < 13) : kX i k = z_tv i k.toNat := if_pos h

