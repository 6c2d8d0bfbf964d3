/-! the rows on the heap, calls, returns -/
section ZH
variable {g : z_G} {X : z_X} {cc : ByteArray} {own : String} {r : Nat × Nat × Nat} {pc k n : Nat} {ls st : List z_V} {h : z_H}
theorem z_get {ix c N kf a : Nat} {C : String} {T : u_T} {fs : List z_V} {v : z_V} (hin : ∀ w ∈ u_ws C T N, w ∈ z_W) (hc : vwCl[c]? = some (C, T, N)) (hk : kf < N) (hlink : Cond.fieldLink own ix C (T kf).2.1 (T kf).2.2.1 ∈ z_W) (hsame : (T kf).1 = C)
    (hd : decode cc pc = .ok (.getfield ix, 3)) (ha : h a = some (c_O c fs)) (hv : fs[kf]? = some v) (kk : z_w g X cc own r (pc + 3) ls (v :: st) h k n) : z_w g X cc own r pc ls (z_r a :: st) h k n := fun C0 H locs S hR hS hL => by
  obtain ⟨ws, hP, hD, hw⟩ := id hR
  obtain ⟨q0, hq⟩ := hw a _ ha
  exact va_get (ref := C) (C := C) (T := T) (N := N) (v := z_v v) C0.1 C0.2.1 (Ts := z_W) C0.2.2.2.2.1 hin C0.2.2.2.1 C0.2.2.2.2.2.1.1 hP q0 hq hc kf hk (C0.2.2.2.2.1 _ hlink) (fun x hx => by rw [hsame] at hx; exact hx) (by simp [hv]) hd (kk C0 H locs S hR hS hL)
theorem z_getN {ix c N kf a : Nat} {C host : String} {T : u_T} {fs : List z_V} {v : z_V} (hin : ∀ w ∈ u_ws C T N, w ∈ z_W) (hc : vwCl[c]? = some (C, T, N)) (hk : kf < N) (hlink : Cond.fieldLinkNest own ix C (T kf).2.1 (T kf).2.2.1 host ∈ z_N) (hsame : (T kf).1 = C)
    (hd : decode cc pc = .ok (.getfield ix, 3)) (ha : h a = some (c_O c fs)) (hv : fs[kf]? = some v) (kk : z_w g X cc own r (pc + 3) ls (v :: st) h k n) : z_w g X cc own r pc ls (z_r a :: st) h k n := fun C0 H locs S hR hS hL => by
  obtain ⟨ws, hP, hD, hw⟩ := id hR
  obtain ⟨q0, hq⟩ := hw a _ ha
  exact va_getN (ref := C) (C := C) (T := T) (N := N) (v := z_v v) C0.1 C0.2.1 (Ts := z_W) C0.2.2.2.2.1 hin C0.2.2.2.1 C0.2.2.2.2.2.1.1 hP q0 hq hc kf hk ((C0.2.2.2.2.2.1.2.2.2.1 _ hlink).use rfl) (fun x hx => by rw [hsame] at hx; exact hx) (by simp [hv]) hd (kk C0 H locs S hR hS hL)
theorem z_mset (c kf : Nat) (fs : List z_V) (v : z_V) (cy : Nat → ClassId) : z_e cy (c_O c (fs.set kf v)) = .inr (c, (fs.map z_v).set kf (z_v v)) := by simp [z_e, List.map_set]
theorem z_put {ix c N kf a : Nat} {C : String} {T : u_T} {fs : List z_V} {v : z_V} {ty : FieldType} (hin : ∀ w ∈ u_ws C T N, w ∈ z_W) (ty0 : Nat → FieldType) (hty : ∀ k, k < N → parseFieldDescriptor (T k).2.2.1 = some (ty0 k)) (hnm : ∀ a, a < N → ∀ b, b < N → a ≠ b → (T a).2.1 ≠ (T b).2.1) (hc : vwCl[c]? = some (C, T, N)) (hk : kf < N) (hlink : Cond.fieldLink own ix C (T kf).2.1 (T kf).2.2.1 ∈ z_W) (hsame : (T kf).1 = C) (hfin : (T kf).2.2.2 = false) (hd0 : parseFieldDescriptor (T kf).2.2.1 = some ty)
    (hn : narrow ty (z_v v) = z_v v) (hfit : fits ty (z_v v) = true)
    (hd : decode cc pc = .ok (.putfield ix, 3)) (ha : h a = some (c_O c fs)) (hl : kf < fs.length) (kk : z_w g X cc own r (pc + 3) ls st (z_up h a (c_O c (fs.set kf v))) k n) : z_w g X cc own r pc ls (v :: z_r a :: st) h k n := fun C0 H locs S hR hS hL => by
  obtain ⟨ws, hP, hD, hw⟩ := id hR
  obtain ⟨q0, hq⟩ := hw a _ ha
  exact va_put (ref := C) (C := C) (T := T) (N := N) (v := z_v v) C0.1 C0.2.1 (Ts := z_W) C0.2.2.2.2.1 hin ty0 hty hnm C0.2.2.2.1 C0.2.2.2.2.2.1.1 hP hD hS q0 hq hc kf hk (C0.2.2.2.2.1 _ hlink) (fun x hx => by rw [hsame] at hx; exact hx) hfin hd0 hn hfit (by simpa using hl) hd
    (fun H1 locs1 hP1 hD1 hS1 => kk C0 H1 locs1 S (z_R.set hw hq (by rw [z_mset]; exact hP1) (by rw [z_mset]; exact hD1)) hS1 hL)
theorem z_putN {ix c N kf a : Nat} {C host : String} {T : u_T} {fs : List z_V} {v : z_V} {ty : FieldType} (hin : ∀ w ∈ u_ws C T N, w ∈ z_W) (ty0 : Nat → FieldType) (hty : ∀ k, k < N → parseFieldDescriptor (T k).2.2.1 = some (ty0 k)) (hnm : ∀ a, a < N → ∀ b, b < N → a ≠ b → (T a).2.1 ≠ (T b).2.1) (hc : vwCl[c]? = some (C, T, N)) (hk : kf < N) (hlink : Cond.fieldLinkNest own ix C (T kf).2.1 (T kf).2.2.1 host ∈ z_N) (hsame : (T kf).1 = C) (hfin : (T kf).2.2.2 = false) (hd0 : parseFieldDescriptor (T kf).2.2.1 = some ty)
    (hn : narrow ty (z_v v) = z_v v) (hfit : fits ty (z_v v) = true)
    (hd : decode cc pc = .ok (.putfield ix, 3)) (ha : h a = some (c_O c fs)) (hl : kf < fs.length) (kk : z_w g X cc own r (pc + 3) ls st (z_up h a (c_O c (fs.set kf v))) k n) : z_w g X cc own r pc ls (v :: z_r a :: st) h k n := fun C0 H locs S hR hS hL => by
  obtain ⟨ws, hP, hD, hw⟩ := id hR
  obtain ⟨q0, hq⟩ := hw a _ ha
  exact va_putN (ref := C) (C := C) (T := T) (N := N) (v := z_v v) C0.1 C0.2.1 (Ts := z_W) C0.2.2.2.2.1 hin ty0 hty hnm C0.2.2.2.1 C0.2.2.2.2.2.1.1 hP hD hS q0 hq hc kf hk ((C0.2.2.2.2.2.1.2.2.2.1 _ hlink).use rfl) (fun x hx => by rw [hsame] at hx; exact hx) hfin hd0 hn hfit (by simpa using hl) hd
    (fun H1 locs1 hP1 hD1 hS1 => kk C0 H1 locs1 S (z_R.set hw hq (by rw [z_mset]; exact hP1) (by rw [z_mset]; exact hD1)) hS1 hL)
theorem z_putF {ix c N kf a : Nat} {C : String} {T : u_T} {fs : List z_V} {v : z_V} {ty : FieldType} {M : z_M} {rr : Nat × Nat × Nat} {P : Option z_V → z_H → Prop} (F : z_F g X M rr P) (hM : M.1.name = "<init>") (hin : ∀ w ∈ u_ws C T N, w ∈ z_W) (ty0 : Nat → FieldType) (hty : ∀ k, k < N → parseFieldDescriptor (T k).2.2.1 = some (ty0 k)) (hnm : ∀ a, a < N → ∀ b, b < N → a ≠ b → (T a).2.1 ≠ (T b).2.1) (hc : vwCl[c]? = some (C, T, N)) (hk : kf < N) (hlink : Cond.fieldLink own ix C (T kf).2.1 (T kf).2.2.1 ∈ z_W) (hsame : (T kf).1 = C) (hfin : (T kf).2.2.2 = true) (hown : C = own) (hd0 : parseFieldDescriptor (T kf).2.2.1 = some ty)
    (hn : narrow ty (z_v v) = z_v v) (hfit : fits ty (z_v v) = true)
    (hd : decode cc pc = .ok (.putfield ix, 3)) (ha : h a = some (c_O c fs)) (hl : kf < fs.length) (kk : z_w g X cc own r (pc + 3) ls st (z_up h a (c_O c (fs.set kf v))) k n) : z_w g X cc own r pc ls (v :: z_r a :: st) h k n := fun C0 H locs S hR hS hL => by
  obtain ⟨ws, hP, hD, hw⟩ := id hR
  obtain ⟨q0, hq⟩ := hw a _ ha
  exact va_putF (ref := C) (C := C) (T := T) (N := N) (v := z_v v) C0.1 C0.2.1 (Ts := z_W) C0.2.2.2.2.1 hin ty0 hty hnm C0.2.2.2.1 C0.2.2.2.2.2.1.1 hP hD hS q0 hq hc kf hk (C0.2.2.2.2.1 _ hlink) (fun x hx => by rw [hsame] at hx; exact hx) hfin (F.2.2.trans hM) (hsame.trans hown) hd0 hn hfit (by simpa using hl) hd
    (fun H1 locs1 hP1 hD1 hS1 => kk C0 H1 locs1 S (z_R.set hw hq (by rw [z_mset]; exact hP1) (by rw [z_mset]; exact hD1)) hS1 hL)
theorem z_fitI (x : Int) : narrow .int (z_v (z_i x)) = z_v (z_i x) ∧ fits .int (z_v (z_i x)) = true := ⟨rfl, rfl⟩
theorem z_fitZ {x : Int} (hx : x = 0 ∨ x = 1) : narrow .boolean (z_v (z_i x)) = z_v (z_i x) ∧ fits .boolean (z_v (z_i x)) = true := by
  rcases hx with rfl | rfl <;> exact ⟨by decide, by decide⟩
theorem z_fitQ {ty : FieldType} (ht : (∃ s, ty = .object s) ∨ ∃ t, ty = .array t) (o : Option Nat) : narrow ty (z_v (z_q o)) = z_v (z_q o) ∧ fits ty (z_v (z_q o)) = true := by
  rcases ht with ⟨s, rfl⟩ | ⟨t, rfl⟩ <;> cases o <;> exact ⟨rfl, rfl⟩
-- arrays
theorem z_alenI {a m : Nat} {f : Nat → Int} (hd : decode cc pc = .ok (.arraylength, 1)) (ha : h a = some (c_I m f)) (kk : z_w g X cc own r (pc + 1) ls (z_i (m : Int) :: st) h k n) : z_w g X cc own r pc ls (z_r a :: st) h k n := fun C0 H locs S hR hS hL => by
  obtain ⟨ws, hP, hD, hw⟩ := id hR
  obtain ⟨q0, hq⟩ := hw a _ ha
  exact va_alen C0.1 C0.2.1 C0.2.2.2.2.2.1.1 hP q0 0 hq rfl (z_ofN m) hd (kk C0 H locs S hR hS hL)
theorem z_alenJ {a m : Nat} {f : Nat → Int} (hd : decode cc pc = .ok (.arraylength, 1)) (ha : h a = some (c_J m f)) (kk : z_w g X cc own r (pc + 1) ls (z_i (m : Int) :: st) h k n) : z_w g X cc own r pc ls (z_r a :: st) h k n := fun C0 H locs S hR hS hL => by
  obtain ⟨ws, hP, hD, hw⟩ := id hR
  obtain ⟨q0, hq⟩ := hw a _ ha
  exact va_alen C0.1 C0.2.1 C0.2.2.2.2.2.1.1 hP q0 1 hq rfl (z_ofN m) hd (kk C0 H locs S hR hS hL)
theorem z_Tk {kq : Nat} (hk : kq < 3) : ∃ C : String, (z_T g)[kq + 2]? = some (g_c g (kq + 2), .object C) := by
  match kq, hk with
  | 0, _ => exact ⟨RX1, rfl⟩
  | 1, _ => exact ⟨RX3, rfl⟩
  | 2, _ => exact ⟨RX5, rfl⟩
theorem z_alenA {a m kq : Nat} {f : Nat → Option Nat} (hd : decode cc pc = .ok (.arraylength, 1)) (hk : kq < 3) (ha : h a = some (c_A kq m f)) (kk : z_w g X cc own r (pc + 1) ls (z_i (m : Int) :: st) h k n) : z_w g X cc own r pc ls (z_r a :: st) h k n := fun C0 H locs S hR hS hL => by
  obtain ⟨ws, hP, hD, hw⟩ := id hR
  obtain ⟨q0, hq⟩ := hw a _ ha
  obtain ⟨C, ht⟩ := z_Tk (g := g) hk
  exact va_alen C0.1 C0.2.1 C0.2.2.2.2.2.1.1 hP q0 (kq + 2) hq ht (z_ofN m) hd (kk C0 H locs S hR hS hL)
abbrev z_ix (j : Int) (m : Nat) : Prop := 0 ≤ j ∧ j < (m : Int) ∧ j < 2147483648
theorem z_iald {a m : Nat} {j : Int} {f : Nat → Int} (hd : decode cc pc = .ok (.iaload, 1)) (ha : h a = some (c_I m f)) (hj : z_ix j m) (kk : z_w g X cc own r (pc + 1) ls (z_i (f j.toNat) :: st) h k n) : z_w g X cc own r pc ls (z_i j :: z_r a :: st) h k n := fun C0 H locs S hR hS hL => by
  obtain ⟨ws, hP, hD, hw⟩ := id hR
  obtain ⟨q0, hq⟩ := hw a _ ha
  refine va_iald (i := Int32.ofInt j) C0.1 C0.2.1 C0.2.2.2.2.2.1.1 hP q0 0 hq rfl (z_vin hj.1 hj.2.1 hj.2.2) hd ?_
  rw [z_clamp hj.1 hj.2.2]
  exact kk C0 H locs S hR hS hL
theorem z_lald {a m : Nat} {j : Int} {f : Nat → Int} (hd : decode cc pc = .ok (.laload, 1)) (ha : h a = some (c_J m f)) (hj : z_ix j m) (kk : z_w g X cc own r (pc + 1) ls (z_l (f j.toNat) :: st) h k n) : z_w g X cc own r pc ls (z_i j :: z_r a :: st) h k n := fun C0 H locs S hR hS hL => by
  obtain ⟨ws, hP, hD, hw⟩ := id hR
  obtain ⟨q0, hq⟩ := hw a _ ha
  refine va_lald (i := Int32.ofInt j) C0.1 C0.2.1 C0.2.2.2.2.2.1.1 hP q0 1 hq rfl (z_vin hj.1 hj.2.1 hj.2.2) hd ?_
  rw [z_clamp hj.1 hj.2.2]
  exact kk C0 H locs S hR hS hL
theorem z_aald {a m kq : Nat} {j : Int} {f : Nat → Option Nat} (hd : decode cc pc = .ok (.aaload, 1)) (hk : kq < 3) (ha : h a = some (c_A kq m f)) (hj : z_ix j m) (kk : z_w g X cc own r (pc + 1) ls (z_q (f j.toNat) :: st) h k n) : z_w g X cc own r pc ls (z_i j :: z_r a :: st) h k n := fun C0 H locs S hR hS hL => by
  obtain ⟨ws, hP, hD, hw⟩ := id hR
  obtain ⟨q0, hq⟩ := hw a _ ha
  obtain ⟨C, ht⟩ := z_Tk (g := g) hk
  refine va_aldq (i := Int32.ofInt j) C0.1 C0.2.1 C0.2.2.2.2.2.1.1 hP q0 (kq + 2) hq ht (z_vin hj.1 hj.2.1 hj.2.2) hd ?_
  rw [z_clamp hj.1 hj.2.2]
  exact kk C0 H locs S hR hS hL
theorem z_sfe (f : Nat → Int) (j : Nat) (x : Int) : (fun q => Int32.ofInt (z_sf f j x q)) = upd (fun q => Int32.ofInt (f q)) j (Int32.ofInt x) := by
  funext q
  unfold z_sf upd
  split <;> rfl
theorem z_sfL (f : Nat → Int) (j : Nat) (x : Int) : (fun q => Int64.ofInt (z_sf f j x q)) = vp_updL (fun q => Int64.ofInt (f q)) j (Int64.ofInt x) := by
  funext q
  unfold z_sf vp_updL
  split <;> rfl
theorem z_sqe (f : Nat → Option Nat) (j : Nat) (x : Option Nat) : z_sq f j x = va_up f j x := rfl
theorem z_iast {a m : Nat} {j x : Int} {f : Nat → Int} (hd : decode cc pc = .ok (.iastore, 1)) (ha : h a = some (c_I m f)) (hj : z_ix j m) (kk : z_w g X cc own r (pc + 1) ls st (z_up h a (c_I m (z_sf f j.toNat x))) k n) : z_w g X cc own r pc ls (z_i x :: z_i j :: z_r a :: st) h k n := fun C0 H locs S hR hS hL => by
  obtain ⟨ws, hP, hD, hw⟩ := id hR
  obtain ⟨q0, hq⟩ := hw a _ ha
  refine va_iast (i := Int32.ofInt j) (x := Int32.ofInt x) C0.1 C0.2.1 C0.2.2.2.2.2.1.1 hP hD hS q0 0 hq rfl (z_vin hj.1 hj.2.1 hj.2.2) hd (fun H1 locs1 hP1 hD1 hS1 => kk C0 H1 locs1 S (z_R.set hw hq ?_ ?_) hS1 hL)
  all_goals
    rw [z_clamp hj.1 hj.2.2] at hP1 hD1
    simp only [z_e, z_sfe]
    assumption
theorem z_last {a m : Nat} {j x : Int} {f : Nat → Int} (hd : decode cc pc = .ok (.lastore, 1)) (ha : h a = some (c_J m f)) (hj : z_ix j m) (kk : z_w g X cc own r (pc + 1) ls st (z_up h a (c_J m (z_sf f j.toNat x))) k n) : z_w g X cc own r pc ls (z_l x :: z_i j :: z_r a :: st) h k n := fun C0 H locs S hR hS hL => by
  obtain ⟨ws, hP, hD, hw⟩ := id hR
  obtain ⟨q0, hq⟩ := hw a _ ha
  refine va_last (i := Int32.ofInt j) (x := Int64.ofInt x) C0.1 C0.2.1 C0.2.2.2.2.2.1.1 hP hD hS q0 1 hq rfl (z_vin hj.1 hj.2.1 hj.2.2) hd (fun H1 locs1 hP1 hD1 hS1 => kk C0 H1 locs1 S (z_R.set hw hq ?_ ?_) hS1 hL)
  all_goals
    rw [z_clamp hj.1 hj.2.2] at hP1 hD1
    simp only [z_e, z_sfL]
    assumption
theorem z_aast {a m kq ci v N : Nat} {C : String} {T : u_T} {j : Int} {f : Nat → Option Nat} {vs : List z_V} (hd : decode cc pc = .ok (.aastore, 1)) (ha : h a = some (c_A kq m f)) (hj : z_ix j m) (hv : h v = some (c_O ci vs)) (hc : vwCl[ci]? = some (C, T, N)) (ht : (z_T g)[kq + 2]? = some (g_c g (kq + 2), .object C)) (kk : z_w g X cc own r (pc + 1) ls st (z_up h a (c_A kq m (z_sq f j.toNat (some v)))) k n) : z_w g X cc own r pc ls (z_r v :: z_i j :: z_r a :: st) h k n := fun C0 H locs S hR hS hL => by
  obtain ⟨ws, hP, hD, hw⟩ := id hR
  obtain ⟨q0, hq⟩ := hw a _ ha
  obtain ⟨q1, hq1⟩ := hw v _ hv
  refine va_astq (i := Int32.ofInt j) C0.1 C0.2.1 C0.2.2.2.2.2.1.1 hP hD hS q0 (kq + 2) q1 ci hq (r := (C, T, N)) ht hq1 hc (z_vin hj.1 hj.2.1 hj.2.2) hd (fun H1 locs1 hP1 hD1 hS1 => kk C0 H1 locs1 S (z_R.set hw hq ?_ ?_) hS1 hL)
  all_goals
    rw [z_clamp hj.1 hj.2.2] at hP1 hD1
    simp only [z_e, z_sqe]
    assumption
theorem z_aastN {a m kq : Nat} {j : Int} {f : Nat → Option Nat} (hd : decode cc pc = .ok (.aastore, 1)) (ha : h a = some (c_A kq m f)) (hj : z_ix j m) (hk : kq < 3) (kk : z_w g X cc own r (pc + 1) ls st (z_up h a (c_A kq m (z_sq f j.toNat none))) k n) : z_w g X cc own r pc ls (z_n :: z_i j :: z_r a :: st) h k n := fun C0 H locs S hR hS hL => by
  obtain ⟨ws, hP, hD, hw⟩ := id hR
  obtain ⟨q0, hq⟩ := hw a _ ha
  obtain ⟨C, ht⟩ := z_Tk (g := g) hk
  refine va_astqN (i := Int32.ofInt j) C0.1 C0.2.1 C0.2.2.2.2.2.1.1 hP hD hS q0 (kq + 2) hq ht (z_vin hj.1 hj.2.1 hj.2.2) hd (fun H1 locs1 hP1 hD1 hS1 => kk C0 H1 locs1 S (z_R.set hw hq ?_ ?_) hS1 hL)
  all_goals
    rw [z_clamp hj.1 hj.2.2] at hP1 hD1
    simp only [z_e, z_sqe]
    assumption
-- making
theorem z_new {ix c N : Nat} {C : String} {T : u_T} {fs : List z_V} (hin : ∀ w ∈ u_ws C T N, w ∈ z_W) (ty0 : Nat → FieldType) (hty : ∀ k, k < N → parseFieldDescriptor (T k).2.2.1 = some (ty0 k)) (hc : vwCl[c]? = some (C, T, N)) (hcl : Cond.classLink own ix C ∈ z_W) (hins : Cond.instantiable C N ∈ z_W) (hini : Cond.initialized C ∈ z_W) (hfs : ∀ j, j < N → defaultValue (ty0 j) = vp_V (fs.map z_v) j)
    (hd : decode cc pc = .ok (.new ix, 3)) (hr : k + 1 ≤ r.2.1 ∧ n + N ≤ r.2.2) (kk : ∀ q, h q = none → z_w g X cc own r (pc + 3) ls (z_r q :: st) (z_up h q (c_O c fs)) (k + 1) (n + N)) : z_w g X cc own r pc ls st h k n := fun C0 H locs S hR hS hL => by
  obtain ⟨ws, hP, hD, hw⟩ := id hR
  refine va_new (C := C) (T := T) (N := N) (fs := fs.map z_v) C0.1 C0.2.1 (Ts := z_W) C0.2.2.2.2.1 hin ty0 hty C0.2.2.2.1 (C0.2.2.2.2.1 _ hcl) (C0.2.2.2.2.1 _ hins) (C0.2.2.2.2.1 _ hini) C0.2.2.2.2.2.1.1 hP hD hS (fun q hq => Nat.le_trans C0.2.2.2.2.2.1.2.2.1 hq) hc hfs ?_ ?_ hd (fun q H1 hP1 hD1 hS1 => ?_)
  · exact Nat.le_trans hr.1 C0.2.2.2.2.2.2.2.2.1
  · exact Nat.le_trans hr.2 C0.2.2.2.2.2.2.2.2.2.1
  · obtain ⟨h1, h2⟩ := z_R.push (e1 := c_O c fs) hw hP1 hD1
    exact kk q h2 C0 H1 locs S h1 hS1 hL
theorem z_cid {U : State} {c1 c2 : ClassId} {nm : String} (h1 : U.vm.findClass nm = some c1) (h2 : U.vm.findClass nm = some c2) : c1 = c2 := Option.some.inj (h1.symm.trans h2)
theorem z_newI {j : Int} {N : Nat} (hw0 : Cond.arrayClass .int ∈ z_W) (hd : decode cc pc = .ok (.newarray .int, 2)) (hj : j = (N : Int)) (hN : N ≤ 100000) (hr : k + 1 ≤ r.2.1 ∧ n + N ≤ r.2.2) (kk : ∀ q, h q = none → z_w g X cc own r (pc + 2) ls (z_r q :: st) (z_up h q (c_I N (fun _ => 0))) (k + 1) (n + N)) : z_w g X cc own r pc ls (z_i j :: st) h k n := fun C0 H locs S hR hS hL => by
  obtain ⟨ws, hP, hD, hw⟩ := id hR
  subst hj
  refine va_newa (atype := .int) (ty := .int) (n := Int32.ofInt (N : Int)) (N' := N) (a0 := (N, .inl (fun _ => 0))) C0.1 C0.2.1 (C0.2.2.2.2.1 _ hw0) rfl C0.2.2.2.2.2.1.1 hP hD hS (fun q hq => Nat.le_trans C0.2.2.2.2.2.1.2.2.1 hq) (fun _ => rfl) ?_ ?_ ?_ ?_ ?_ hd (fun q cA H1 hK1 hP1 hD1 hS1 => ?_)
  · rw [z_0, z_lt ⟨by omega, by omega⟩ z_in0]; omega
  · rw [z_clamp (by omega) (by omega)]; rfl
  · simp [componentBytes]; omega
  · exact Nat.le_trans hr.1 C0.2.2.2.2.2.2.2.2.1
  · exact Nat.le_trans hr.2 C0.2.2.2.2.2.2.2.2.2.1
  · have e : cA = g_c g 0 := z_cid (hK1.2 5 (cA, .int) rfl).2 (hK1.2 0 (g_c g 0, .int) rfl).2
    subst e
    obtain ⟨h1, h2⟩ := z_R.push (e1 := c_I N (fun _ => 0)) hw hP1 hD1
    exact kk q h2 C0 H1 locs S h1 hS1 hL
theorem z_newJ {j : Int} {N : Nat} (hw0 : Cond.arrayClass .long ∈ z_W) (hd : decode cc pc = .ok (.newarray .long, 2)) (hj : j = (N : Int)) (hN : N ≤ 100000) (hr : k + 1 ≤ r.2.1 ∧ n + N ≤ r.2.2) (kk : ∀ q, h q = none → z_w g X cc own r (pc + 2) ls (z_r q :: st) (z_up h q (c_J N (fun _ => 0))) (k + 1) (n + N)) : z_w g X cc own r pc ls (z_i j :: st) h k n := fun C0 H locs S hR hS hL => by
  obtain ⟨ws, hP, hD, hw⟩ := id hR
  subst hj
  refine va_newa (atype := .long) (ty := .long) (n := Int32.ofInt (N : Int)) (N' := N) (a0 := (N, .inr (.inl (fun _ => 0)))) C0.1 C0.2.1 (C0.2.2.2.2.1 _ hw0) rfl C0.2.2.2.2.2.1.1 hP hD hS (fun q hq => Nat.le_trans C0.2.2.2.2.2.1.2.2.1 hq) (fun _ => rfl) ?_ ?_ ?_ ?_ ?_ hd (fun q cA H1 hK1 hP1 hD1 hS1 => ?_)
  · rw [z_0, z_lt ⟨by omega, by omega⟩ z_in0]; omega
  · rw [z_clamp (by omega) (by omega)]; rfl
  · simp [componentBytes]; omega
  · exact Nat.le_trans hr.1 C0.2.2.2.2.2.2.2.2.1
  · exact Nat.le_trans hr.2 C0.2.2.2.2.2.2.2.2.2.1
  · have e : cA = g_c g 1 := z_cid (hK1.2 5 (cA, .long) rfl).2 (hK1.2 1 (g_c g 1, .long) rfl).2
    subst e
    obtain ⟨h1, h2⟩ := z_R.push (e1 := c_J N (fun _ => 0)) hw hP1 hD1
    exact kk q h2 C0 H1 locs S h1 hS1 hL
theorem z_newA {j : Int} {N ix kq : Nat} {C : String} (hcl : Cond.classLink own ix C ∈ z_W) (hov : ∀ U, z_S g U → va_AO C U) (hk : (z_T g)[kq + 2]? = some (g_c g (kq + 2), .object C)) (hk5 : kq < 3) (hd : decode cc pc = .ok (.anewarray ix, 3)) (hj : j = (N : Int)) (hN : N ≤ 100000) (hr : k + 1 ≤ r.2.1 ∧ n + N ≤ r.2.2) (kk : ∀ q, h q = none → z_w g X cc own r (pc + 3) ls (z_r q :: st) (z_up h q (c_A kq N (fun _ => none))) (k + 1) (n + N)) : z_w g X cc own r pc ls (z_i j :: st) h k n := fun C0 H locs S hR hS hL => by
  obtain ⟨ws, hP, hD, hw⟩ := id hR
  subst hj
  refine va_newq (n := Int32.ofInt (N : Int)) (N' := N) C0.1 C0.2.1 C0.2.2.2.1 (C0.2.2.2.2.1 _ hcl) (hov _ C0.2.2.2.2.2.1) C0.2.2.2.2.2.1.1 hP hD hS (fun q hq => Nat.le_trans C0.2.2.2.2.2.1.2.2.1 hq) ?_ ?_ ?_ ?_ ?_ hd (fun q cA H1 hK1 hP1 hD1 hS1 => ?_)
  · rw [z_0, z_lt ⟨by omega, by omega⟩ z_in0]; omega
  · rw [z_clamp (by omega) (by omega)]; rfl
  · omega
  · exact Nat.le_trans hr.1 C0.2.2.2.2.2.2.2.2.1
  · exact Nat.le_trans hr.2 C0.2.2.2.2.2.2.2.2.2.1
  · have e : cA = g_c g (kq + 2) := by
      obtain ⟨_, _, _, _, _, e1⟩ := (hK1.2 5 (cA, .object C) rfl).2
      obtain ⟨_, _, _, _, _, e2⟩ := (hK1.2 (kq + 2) (g_c g (kq + 2), .object C) (by rw [List.getElem?_append_left (by simp [z_T]; omega)]; exact hk)).2
      exact z_cid e1 e2
    subst e
    obtain ⟨h1, h2⟩ := z_R.push (e1 := c_A kq N (fun _ => none)) hw hP1 hD1
    exact kk q h2 C0 H1 locs S h1 hS1 hL
-- calls
theorem z_tl (rv : Option z_V) (rest : List z_V) : (rv.map z_v).toList ++ rest.map z_v = (rv.toList ++ rest).map z_v := by cases rv <;> rfl
theorem z_cont {H : Heap} {locs : List Loc} {S : Array Slot} {mc ms : Nat} {rest : List z_V} {arr : Array Value} {P : Option z_V → z_H → Prop} (C0 : z_Cx g X cc own r) (hS : va_S (z_A g) (x_s X).heap H locs) (hL : z_L (x_n X) ls S)
    (hr : va_Run (x_p X) (g_l g) (x_e X) (x_R X) (x_s X) (x_m X) (x_a X) (x_b X) (x_t X) (x_c X) H locs k n mc ms (F0 (x_m X) pc S (st.map z_v)) (rest.map z_v) (z_Q g P arr) (z_A g))
    (kk : ∀ rv h', P rv h' → z_w g X cc own r (pc + 3) ls (rv.toList ++ rest) h' (k + mc) (n + ms)) : W (x_p X) (g_l g) (x_e X) (x_R X) (x_s X) (x_m X) (x_a X) (x_b X) (x_t X) (x_c X) H locs k n (x_q X) (F0 (x_m X) pc S (st.map z_v)) := by
  intro T hT X0
  obtain ⟨v, st₀, t, T', L, h0, X', hL', e1, e2, ⟨⟨rv, h', e3, hP, hR'⟩, hz, hk⟩, stp⟩ := hr T hT X0
  have e3' : v = rv.map z_v := by cases e3; rfl
  subst e3'
  rw [h0] at hz hk
  have hS1 : va_S (z_A g) (x_s X).heap T'.heap (locs ++ L) := ⟨Nat.le_trans hS.1 (by rw [e1]; exact hz), fun q h1 h2 => by rw [e1, hk q (Nat.lt_of_lt_of_le h1 hS.1) h2]; exact hS.2.1 q h1 h2, fun q hq => by
    rcases List.mem_append.mp hq with h | h
    · exact hS.2.2 q h
    · exact hL' q h⟩
  have h9 := kk rv h' hP C0 T'.heap (locs ++ L) S (by rw [e1]; exact hR') hS1 hL
  rw [← z_tl] at h9
  obtain ⟨t2, a1, b1⟩ := h9 T' rfl X'
  exact ⟨t2, stp t2 a1, b1⟩
theorem z_pre {M : z_M} {d mc ms : Nat} (hml : M.2.2.1 ≤ 22) (hr : d + 1 ≤ r.1) {R : Room} (h1 : r.1 ≤ R.frames) (h2 : 41 * r.1 ≤ R.locals) : (z_rm d mc ms).frames + 1 ≤ R.frames ∧ 8 + (M.2.2.1 + 11) + (z_rm d mc ms).locals ≤ R.locals := by
  refine ⟨Nat.le_trans hr h1, ?_⟩
  show 8 + (M.2.2.1 + 11) + 41 * d ≤ R.locals
  omega
abbrev z_hs (M : z_M) (nargs : Nat) : Prop := M.1.cls ≠ "java/lang/invoke/MethodHandle" ∧ M.1.cls ≠ "java/lang/invoke/VarHandle" ∧ (parseMethodDescriptor M.1.desc).map (fun d => d.parameters.length) = some nargs
theorem z_callV {M : z_M} {d mc ms ix ci N nargs a : Nat} {C : String} {T : u_T} {fs args rest : List z_V} {P : Option z_V → z_H → Prop} (hG : GoodIn z_W (wsV own ix C M.1 (z_ws M))) (hC : M.1.cls = C) (hs : z_hs M nargs) (hml : M.2.2.1 ≤ 22) (hc : vwCl[ci]? = some (C, T, N))
    (hd : decode cc pc = .ok (.invokevirtual ix, 3)) (D : z_D g M d mc ms (z_r a :: args) h P) (ha : h a = some (c_O ci fs)) (hn : args.length = nargs) (hst : st = args.reverse ++ z_r a :: rest) (hct : ((rest.map z_v).map fun v => v.category).sum ≤ 8) (hr : d + 1 ≤ r.1 ∧ k + mc ≤ r.2.1 ∧ n + ms ≤ r.2.2)
    (kk : ∀ rv h', P rv h' → z_w g X cc own r (pc + 3) ls (rv.toList ++ rest) h' (k + mc) (n + ms)) : z_w g X cc own r pc ls st h k n := fun C0 H locs S hR hS hL => by
  obtain ⟨ws, hP, hD, hw⟩ := id hR
  obtain ⟨q0, hq⟩ := hw a _ ha
  refine z_cont (arr := (Value.ref a :: args.map z_v).toArray) C0 hS hL ?_ kk
  exact va_runV (As := args.map z_v) (rest := rest.map z_v) ⟨C0.1, C0.2.1, C0.2.2.1, C0.2.2.2.1, C0.2.2.2.2.1⟩ D (cwV nargs C0.2.2.2.2.1 hG rfl rfl rfl ⟨hC, hs⟩ (z_pre hml hr.1 C0.2.2.2.2.2.2.2.1 C0.2.2.2.2.2.2.2.2.2.2))
    ⟨z_Pcb g _ h, va_recv C0.2.2.2.2.2.1.1 hP hc hq, fun U hU hW => ⟨rfl, by rw [hU]; exact hR, z_S.moved hW (by rw [hU]; exact hS.1) (fun q h1 h2 => by rw [hU]; exact hS.2.1 q h1 h2) C0.2.2.2.2.2.1⟩⟩
    rfl (by simpa using hn) hL.2.1 (by rw [hst]; simp [z_v, va_rf]) (by simpa using hct) hd ⟨Nat.le_trans hr.2.1 C0.2.2.2.2.2.2.2.2.1, Nat.le_trans hr.2.2 C0.2.2.2.2.2.2.2.2.2.1⟩
theorem z_callS {M : z_M} {d mc ms ix nargs : Nat} {args rest : List z_V} {P : Option z_V → z_H → Prop} (hG : GoodIn z_W (va_wsS own ix M.1 (z_ws M))) (hs : z_hs M nargs) (hml : M.2.2.1 ≤ 22)
    (hd : decode cc pc = .ok (.invokestatic ix, 3)) (D : z_D g M d mc ms args h P) (hn : args.length = nargs) (hst : st = args.reverse ++ rest) (hct : ((rest.map z_v).map fun v => v.category).sum ≤ 8) (hr : d + 1 ≤ r.1 ∧ k + mc ≤ r.2.1 ∧ n + ms ≤ r.2.2)
    (kk : ∀ rv h', P rv h' → z_w g X cc own r (pc + 3) ls (rv.toList ++ rest) h' (k + mc) (n + ms)) : z_w g X cc own r pc ls st h k n := fun C0 H locs S hR hS hL => by
  refine z_cont (arr := (args.map z_v).toArray) C0 hS hL ?_ kk
  exact va_runS (As := args.map z_v) (rest := rest.map z_v) ⟨C0.1, C0.2.1, C0.2.2.1, C0.2.2.2.1, C0.2.2.2.2.1⟩ D (va_cwS nargs C0.2.2.2.2.1 hG rfl rfl rfl hs (z_pre hml hr.1 C0.2.2.2.2.2.2.2.1 C0.2.2.2.2.2.2.2.2.2.2))
    ⟨z_Pcb g _ h, fun U hU hW => ⟨rfl, by rw [hU]; exact hR, z_S.moved hW (by rw [hU]; exact hS.1) (fun q h1 h2 => by rw [hU]; exact hS.2.1 q h1 h2) C0.2.2.2.2.2.1⟩⟩
    rfl (by simpa using hn) hL.2.1 (by rw [hst]; simp) (by simpa using hct) hd ⟨Nat.le_trans hr.2.1 C0.2.2.2.2.2.2.2.2.1, Nat.le_trans hr.2.2 C0.2.2.2.2.2.2.2.2.2.1⟩
theorem z_callI {y : MethodName} {bt : ByteArray} {mx d mc ms ix nargs a : Nat} {args rest : List z_V} {P : Option z_V → z_H → Prop} (hG : GoodIn z_W (z_ws (y, bt, mx, none))) (hini : Cond.initialized y.cls ∈ z_W) (hl : Cond.methodLink own ix y ∈ z_W) (hin : Cond.instanceMethod y ∈ z_W) (hy1 : y.name = "<init>") (hs : z_hs (y, bt, mx, none) nargs) (hml : mx ≤ 22)
    (hd : decode cc pc = .ok (.invokespecial ix, 3)) (D : z_D g (y, bt, mx, none) d mc ms (z_r a :: args) h P) (hn : args.length = nargs) (hst : st = args.reverse ++ z_r a :: rest) (hct : ((rest.map z_v).map fun v => v.category).sum ≤ 8) (hr : d + 1 ≤ r.1 ∧ k + mc ≤ r.2.1 ∧ n + ms ≤ r.2.2)
    (kk : ∀ rv h', P rv h' → z_w g X cc own r (pc + 3) ls (rv.toList ++ rest) h' (k + mc) (n + ms)) : z_w g X cc own r pc ls st h k n := fun C0 H locs S hR hS hL => by
  refine z_cont (arr := (Value.ref a :: args.map z_v).toArray) C0 hS hL ?_ kk
  exact va_runI (As := args.map z_v) (rest := rest.map z_v) ⟨C0.1, C0.2.1, C0.2.2.1, C0.2.2.2.1, C0.2.2.2.2.1⟩ D (cwI nargs C0.2.2.2.2.1 hG rfl rfl rfl (C0.2.2.2.2.1 _ hini) (C0.2.2.2.2.1 _ hl) (C0.2.2.2.2.1 _ hin) hy1 hs (z_pre (M := (y, bt, mx, none)) hml hr.1 C0.2.2.2.2.2.2.2.1 C0.2.2.2.2.2.2.2.2.2.2))
    ⟨z_Pcb g _ h, fun U hU hW => ⟨rfl, by rw [hU]; exact hR, z_S.moved hW (by rw [hU]; exact hS.1) (fun q h1 h2 => by rw [hU]; exact hS.2.1 q h1 h2) C0.2.2.2.2.2.1⟩⟩
    rfl (by simpa using hn) hL.2.1 (by rw [hst]; simp [z_v, va_rf]) (by simpa using hct) hd ⟨Nat.le_trans hr.2.1 C0.2.2.2.2.2.2.2.2.1, Nat.le_trans hr.2.2 C0.2.2.2.2.2.2.2.2.2.1⟩
theorem z_callN {y : MethodName} {bt : ByteArray} {host : String} {mx d mc ms ix nargs a : Nat} {args rest : List z_V} {P : Option z_V → z_H → Prop} (hG : GoodIn z_W (z_ws (y, bt, mx, none))) (hini : Cond.initialized y.cls ∈ z_W) (hl : Cond.methodLinkNest own ix y host ∈ z_N) (hin : Cond.instanceMethod y ∈ z_W) (hy1 : y.name = "<init>") (hs : z_hs (y, bt, mx, none) nargs) (hml : mx ≤ 22)
    (hd : decode cc pc = .ok (.invokespecial ix, 3)) (D : z_D g (y, bt, mx, none) d mc ms (z_r a :: args) h P) (hn : args.length = nargs) (hst : st = args.reverse ++ z_r a :: rest) (hct : ((rest.map z_v).map fun v => v.category).sum ≤ 8) (hr : d + 1 ≤ r.1 ∧ k + mc ≤ r.2.1 ∧ n + ms ≤ r.2.2)
    (kk : ∀ rv h', P rv h' → z_w g X cc own r (pc + 3) ls (rv.toList ++ rest) h' (k + mc) (n + ms)) : z_w g X cc own r pc ls st h k n := fun C0 H locs S hR hS hL => by
  refine z_cont (arr := (Value.ref a :: args.map z_v).toArray) C0 hS hL ?_ kk
  exact va_runIN (host := host) (As := args.map z_v) (rest := rest.map z_v) ⟨C0.1, C0.2.1, C0.2.2.1, C0.2.2.2.1, C0.2.2.2.2.1⟩ D ⟨va_cnB nargs C0.2.2.2.2.1 hG rfl rfl rfl (C0.2.2.2.2.2.1.2.2.2.1 _ hl) (C0.2.2.2.2.1 _ hini) hs (z_pre (M := (y, bt, mx, none)) hml hr.1 C0.2.2.2.2.2.2.2.1 C0.2.2.2.2.2.2.2.2.2.2), hy1, C0.2.2.2.2.1 _ hin⟩
    ⟨z_Pcb g _ h, fun U hU hW => ⟨rfl, by rw [hU]; exact hR, z_S.moved hW (by rw [hU]; exact hS.1) (fun q h1 h2 => by rw [hU]; exact hS.2.1 q h1 h2) C0.2.2.2.2.2.1⟩⟩
    rfl (by simpa using hn) hL.2.1 (by rw [hst]; simp [z_v, va_rf]) (by simpa using hct) hd ⟨Nat.le_trans hr.2.1 C0.2.2.2.2.2.2.2.2.1, Nat.le_trans hr.2.2 C0.2.2.2.2.2.2.2.2.2.1⟩
theorem z_gW {M : z_M} (h5 : Cond.code M.1 M.2.1 M.2.2.1 M.2.2.2 ∈ z_W) : GoodIn z_W (z_ws M) := fun w hw => by
  rcases List.mem_cons.mp hw with rfl | hw
  · exact ⟨h5, z_Wg _ h5⟩
  · exact ⟨hw, z_Wg _ hw⟩
theorem z_gV {M : z_M} {C : String} {ix : Nat} (h1 : Cond.methodLink own ix M.1 ∈ z_W) (h2 : Cond.instanceMethod M.1 ∈ z_W) (h3 : Cond.selects C M.1 M.1 ∈ z_W) (h4 : Cond.initialized C ∈ z_W) (h5 : Cond.code M.1 M.2.1 M.2.2.1 M.2.2.2 ∈ z_W) : GoodIn z_W (wsV own ix C M.1 (z_ws M)) := fun w hw => by
  unfold wsV at hw
  rcases List.mem_append.mp hw with hw | hw
  · have : w ∈ z_W := by
      simp only [List.mem_cons, List.not_mem_nil, or_false] at hw
      rcases hw with rfl | rfl | rfl | rfl <;> assumption
    exact ⟨this, z_Wg _ this⟩
  · exact z_gW h5 w hw
theorem z_gS {M : z_M} {ix : Nat} (h1 : Cond.methodLink own ix M.1 ∈ z_W) (h2 : Cond.static M.1 ∈ z_W) (h4 : Cond.initialized M.1.cls ∈ z_W) (h5 : Cond.code M.1 M.2.1 M.2.2.1 M.2.2.2 ∈ z_W) : GoodIn z_W (va_wsS own ix M.1 (z_ws M)) := fun w hw => by
  unfold va_wsS at hw
  rcases List.mem_append.mp hw with hw | hw
  · have : w ∈ z_W := by
      simp only [List.mem_cons, List.not_mem_nil, or_false] at hw
      rcases hw with rfl | rfl | rfl <;> assumption
    exact ⟨this, z_Wg _ this⟩
  · exact z_gW h5 w hw
-- returns
section ZRT
variable {M : z_M} {P : Option z_V → z_H → Prop}
theorem z_ret0 {rv : Option z_V} {H : Heap} {locs : List Loc} (hR : z_R g h H) (hS : va_S (z_A g) (x_s X).heap H locs) (hP : P rv h) : ∀ t : State, t.heap = H → (x_s X).WarmedH t.vm → z_Q g P (x_a X) (x_s X) (.returned (rv.map z_v)) t := fun t ht hW => ⟨⟨rv, h, rfl, hP, by rw [ht]; exact hR⟩, hS.F ht⟩
theorem z_iret {z : Int} (F : z_F g X M r P) (hd : decode cc pc = .ok (.ireturn, 1)) (ht : M.2.2.2 = some .int) (hk : k ≤ r.2.1 ∧ n ≤ r.2.2) (hP : P (some (z_i z)) h) : z_w g X cc own r pc ls [z_i z] h k n := fun C0 H locs S hR hS hL => by
  refine W.widen hk.1 hk.2 ?_
  rw [F.1]
  exact W.iret (v := Int32.ofInt z) C0.1 C0.2.1 (F.2.1.trans ht) (z_ret0 (rv := some (z_i z)) hR hS hP) hS.2.2 hd (hlocks := C0.2.2.2.2.2.2.1)
theorem z_zret {z : Int} (F : z_F g X M r P) (hd : decode cc pc = .ok (.ireturn, 1)) (ht : M.2.2.2 = some .boolean) (hz : z = 0 ∨ z = 1) (hk : k ≤ r.2.1 ∧ n ≤ r.2.2) (hP : P (some (z_i z)) h) : z_w g X cc own r pc ls [z_i z] h k n := fun C0 H locs S hR hS hL => by
  refine W.widen hk.1 hk.2 ?_
  rw [F.1]
  exact W.zret (v := Int32.ofInt z) C0.1 C0.2.1 (F.2.1.trans ht) (z_fitZ hz).1 (z_ret0 (rv := some (z_i z)) hR hS hP) hS.2.2 hd (hlocks := C0.2.2.2.2.2.2.1)
theorem z_lret {z : Int} (F : z_F g X M r P) (hd : decode cc pc = .ok (.lreturn, 1)) (ht : M.2.2.2 = some .long) (hk : k ≤ r.2.1 ∧ n ≤ r.2.2) (hP : P (some (z_l z)) h) : z_w g X cc own r pc ls [z_l z] h k n := fun C0 H locs S hR hS hL => by
  refine W.widen hk.1 hk.2 ?_
  rw [F.1]
  exact W.lret (v := Int64.ofInt z) C0.1 C0.2.1 (F.2.1.trans ht) (z_ret0 (rv := some (z_l z)) hR hS hP) hS.2.2 hd (hlocks := C0.2.2.2.2.2.2.1)
theorem z_vret (F : z_F g X M r P) (hd : decode cc pc = .ok (.return_, 1)) (ht : M.2.2.2 = none) (hk : k ≤ r.2.1 ∧ n ≤ r.2.2) (hP : P none h) : z_w g X cc own r pc ls [] h k n := fun C0 H locs S hR hS hL => by
  refine W.widen hk.1 hk.2 ?_
  rw [F.1]
  exact W.vret C0.1 C0.2.1 (F.2.1.trans ht) (z_ret0 (rv := none) hR hS hP) hS.2.2 hd (hlocks := C0.2.2.2.2.2.2.1)
theorem z_aret {o : Option Nat} {ty : FieldType} (F : z_F g X M r P) (hd : decode cc pc = .ok (.areturn, 1)) (ht : M.2.2.2 = some ty) (hty : (∃ n, ty = .object n) ∨ ∃ t, ty = .array t) (hk : k ≤ r.2.1 ∧ n ≤ r.2.2) (hP : P (some (z_q o)) h) : z_w g X cc own r pc ls [z_q o] h k n := fun C0 H locs S hR hS hL => by
  refine W.widen hk.1 hk.2 ?_
  rw [F.1]
  exact W.aret (v := va_rf o) C0.1 C0.2.1 (F.2.1.trans ht) hty (va_rf_or o) (z_ret0 (rv := some (z_q o)) hR hS hP) hS.2.2 hd (hlocks := C0.2.2.2.2.2.2.1)
end ZRT
-- forgetting, widening
theorem z_wk {k' n' : Nat} (h1 : k ≤ k') (h2 : n ≤ n') (kk : z_w g X cc own r pc ls st h k' n') : z_w g X cc own r pc ls st h k n := fun C0 H locs S hR hS hL => W.widen h1 h2 (kk C0 H locs S hR hS hL)
theorem z_hp {h' : z_H} (hh : ∀ a e, h' a = some e → h a = some e) (kk : z_w g X cc own r pc ls st h' k n) : z_w g X cc own r pc ls st h k n := fun C0 H locs S hR hS hL => kk C0 H locs S (hR.weak hh) hS hL
theorem z_lw {ls' : List z_V} (hl : ls'.length = ls.length) (hh : ∀ (i : Nat) (v : z_V), ls'[i]? = some v → v ≠ z_u → ls[i]? = some v) (kk : z_w g X cc own r pc ls' st h k n) : z_w g X cc own r pc ls st h k n := fun C0 H locs S hR hS hL => kk C0 H locs S hR hS ⟨hl.trans hL.1, hL.2.1, hL.2.2.1, fun i v h1 h2 => hL.2.2.2 i v (hh i v h1 h2) h2⟩
theorem z_bs {a : Nat} {e : z_C} (ha : h a = some e) (kk : g_0 g ≤ a → z_w g X cc own r pc ls st h k n) : z_w g X cc own r pc ls st h k n := fun C0 H locs S hR hS hL => kk (hR.base ha) C0 H locs S hR hS hL
-- the JDK's
theorem z_oinit {ix a : Nat} (h1 : Cond.methodLink own ix objectInit ∈ z_W) (h2 : Cond.instanceMethod objectInit ∈ z_W) (h3 : Cond.code objectInit ⟨#[0xb1]⟩ 1 none ∈ z_W) (hd : decode cc pc = .ok (.invokespecial ix, 3)) (hr : 1 ≤ r.1) (hct : ((st.map z_v).map fun v => v.category).sum ≤ 8) (kk : z_w g X cc own r (pc + 3) ls st h k n) : z_w g X cc own r pc ls (z_r a :: st) h k n := fun C0 H locs S hR hS hL => by
  refine W.objInit C0.1 C0.2.1 C0.2.2.2.1 (C0.2.2.2.2.1 _ h1) (C0.2.2.2.2.1 _ h2) (C0.2.2.2.2.1 _ h3) rfl (hL.2.1.trans C0.2.2.1.symm) rfl hd (Nat.le_trans hr C0.2.2.2.2.2.2.2.1) ?_ (kk C0 H locs S hR hS hL)
  have h8 := C0.2.2.2.2.2.2.2.2.2.2
  have : 2 * (F0 (x_m X) pc S (List.map z_v (z_r a :: st))).monitorRoom = 0 := rfl
  omega
theorem z_mmax {ix : Nat} {a b : Int} (h1 : Cond.methodLink own ix Lib.Math.max.name ∈ z_W) (h2 : Cond.static Lib.Math.max.name ∈ z_W) (h3 : Cond.initialized "java/lang/Math" ∈ z_W) (h4 : Cond.code Lib.Math.max.name Lib.Math.max.code 2 (some .int) ∈ z_W) (hd : decode cc pc = .ok (.invokestatic ix, 3)) (ha : z_in a) (hb : z_in b) (hr : 1 ≤ r.1 ∧ k ≤ r.2.1 ∧ n ≤ r.2.2) (hct : ((st.map z_v).map fun v => v.category).sum ≤ 8) (kk : z_w g X cc own r (pc + 3) ls (z_i (if a < b then b else a) :: st) h k n) : z_w g X cc own r pc ls (z_i b :: z_i a :: st) h k n := fun C0 H locs S hR hS hL => by
  refine va_mmax (x := Int32.ofInt a) (y := Int32.ofInt b) C0.1 C0.2.1 (C0.2.2.1.trans hL.2.1.symm) C0.2.2.2.1 (C0.2.2.2.2.1 _ h1) (C0.2.2.2.2.1 _ h2) (C0.2.2.2.2.1 _ h3) (C0.2.2.2.2.1 _ h4) (Nat.le_trans hr.1 C0.2.2.2.2.2.2.2.1) (by have h8 := C0.2.2.2.2.2.2.2.2.2.2; omega) (Nat.le_trans hr.2.1 C0.2.2.2.2.2.2.2.2.1) (Nat.le_trans hr.2.2 C0.2.2.2.2.2.2.2.2.2.1) hd ?_
  have e : (if Int32.ofInt a < Int32.ofInt b then Int32.ofInt b else Int32.ofInt a) = Int32.ofInt (if a < b then b else a) := by
    by_cases h9 : a < b
    · rw [if_pos h9, if_pos ((z_lt ha hb).mpr h9)]
    · rw [if_neg h9, if_neg (fun z => h9 ((z_lt ha hb).mp z))]
  rw [e]
  exact kk C0 H locs S hR hS hL
theorem z_mmin {ix : Nat} {a b : Int} (h1 : Cond.methodLink own ix Lib.Math.min.name ∈ z_W) (h2 : Cond.static Lib.Math.min.name ∈ z_W) (h3 : Cond.initialized "java/lang/Math" ∈ z_W) (h4 : Cond.code Lib.Math.min.name Lib.Math.min.code 2 (some .int) ∈ z_W) (hd : decode cc pc = .ok (.invokestatic ix, 3)) (ha : z_in a) (hb : z_in b) (hr : 1 ≤ r.1 ∧ k ≤ r.2.1 ∧ n ≤ r.2.2) (hct : ((st.map z_v).map fun v => v.category).sum ≤ 8) (kk : z_w g X cc own r (pc + 3) ls (z_i (if b < a then b else a) :: st) h k n) : z_w g X cc own r pc ls (z_i b :: z_i a :: st) h k n := fun C0 H locs S hR hS hL => by
  refine va_mmin (x := Int32.ofInt a) (y := Int32.ofInt b) C0.1 C0.2.1 (C0.2.2.1.trans hL.2.1.symm) C0.2.2.2.1 (C0.2.2.2.2.1 _ h1) (C0.2.2.2.2.1 _ h2) (C0.2.2.2.2.1 _ h3) (C0.2.2.2.2.1 _ h4) (Nat.le_trans hr.1 C0.2.2.2.2.2.2.2.1) (by have h8 := C0.2.2.2.2.2.2.2.2.2.2; omega) (Nat.le_trans hr.2.1 C0.2.2.2.2.2.2.2.2.1) (Nat.le_trans hr.2.2 C0.2.2.2.2.2.2.2.2.2.1) hd ?_
  have e : (if Int32.ofInt b < Int32.ofInt a then Int32.ofInt b else Int32.ofInt a) = Int32.ofInt (if b < a then b else a) := by
    by_cases h9 : b < a
    · rw [if_pos h9, if_pos ((z_lt hb ha).mpr h9)]
    · rw [if_neg h9, if_neg (fun z => h9 ((z_lt hb ha).mp z))]
  rw [e]
  exact kk C0 H locs S hR hS hL
theorem z_cpe (f f1 : Nat → Int) (sp dp m : Nat) : (fun q => Int32.ofInt (va_cpy f f1 sp dp m q)) = va_cpy (fun q => Int32.ofInt (f q)) (fun q => Int32.ofInt (f1 q)) sp dp m := by
  funext q
  unfold va_cpy
  split <;> rfl
theorem z_cpL (f f1 : Nat → Int) (sp dp m : Nat) : (fun q => Int64.ofInt (va_cpy f f1 sp dp m q)) = va_cpy (fun q => Int64.ofInt (f q)) (fun q => Int64.ofInt (f1 q)) sp dp m := by
  funext q
  unfold va_cpy
  split <;> rfl
theorem z_copyI {ix a0 a n0 n1 : Nat} {f f1 : Nat → Int} {sp dp m : Int} (h1 : Cond.methodLink own ix arraycopyName ∈ z_W) (h2 : Cond.native arraycopyName ∈ z_W) (h3 : Cond.static arraycopyName ∈ z_W) (h4 : Cond.initialized "java/lang/System" ∈ z_W) (hd : decode cc pc = .ok (.invokestatic ix, 3)) (ha0 : h a0 = some (c_I n0 f)) (ha : h a = some (c_I n1 f1)) (hm : 0 ≤ sp ∧ 0 ≤ dp ∧ 0 ≤ m ∧ sp + m ≤ (n0 : Int) ∧ dp + m ≤ (n1 : Int) ∧ n0 < 1000000 ∧ n1 < 1000000) (hr : 1 ≤ r.1) (hct : ((st.map z_v).map fun v => v.category).sum ≤ 8) (kk : z_w g X cc own r (pc + 3) ls st (z_up h a (c_I n1 (va_cpy f f1 sp.toNat dp.toNat m.toNat))) k n) : z_w g X cc own r pc ls (z_i m :: z_i dp :: z_r a :: z_i sp :: z_r a0 :: st) h k n := fun C0 H locs S hR hS hL => by
  obtain ⟨ws, hP, hD, hw⟩ := id hR
  obtain ⟨q0, hq⟩ := hw a0 _ ha0
  obtain ⟨q1, hq1⟩ := hw a _ ha
  have i1 : z_in sp := ⟨by omega, by omega⟩
  have i2 : z_in dp := ⟨by omega, by omega⟩
  have i3 : z_in m := ⟨by omega, by omega⟩
  refine va_copyi (sp := Int32.ofInt sp) (dp := Int32.ofInt dp) (n := Int32.ofInt m) C0.1 C0.2.1 (C0.2.2.1.trans hL.2.1.symm) C0.2.2.2.1 (C0.2.2.2.2.1 _ h1) (C0.2.2.2.2.1 _ h2) (C0.2.2.2.2.1 _ h3) (C0.2.2.2.2.1 _ h4) C0.2.2.2.2.2.1.1 hP hD hS q0 q1 0 0 hq hq1 (ty := .int) rfl rfl rfl ?_ ?_ ?_ ?_ ?_ (fun i _ => rfl) (Nat.le_trans hr C0.2.2.2.2.2.2.2.1) ?_ hd (fun H1 locs1 hP1 hD1 hS1 => kk C0 H1 locs1 S (z_R.set hw hq1 ?_ ?_) hS1 hL)
  · rw [z_0, z_lt i1 z_in0]; omega
  · rw [z_0, z_lt i2 z_in0]; omega
  · rw [z_0, z_lt i3 z_in0]; omega
  · rw [z_clamp (by omega) i1.2, z_clamp (by omega) i3.2]; omega
  · rw [z_clamp (by omega) i2.2, z_clamp (by omega) i3.2]; omega
  · have h8 := C0.2.2.2.2.2.2.2.2.2.2
    have : nativeFrameWords "java/lang/System" "arraycopy" 5 + 11 ≤ 33 := by decide
    omega
  all_goals
    rw [z_clamp (by omega) i1.2, z_clamp (by omega) i2.2, z_clamp (by omega) i3.2] at hP1 hD1
    simp only [z_e, z_cpe]
    assumption
theorem z_copyJ {ix a0 a n0 n1 : Nat} {f f1 : Nat → Int} {sp dp m : Int} (h1 : Cond.methodLink own ix arraycopyName ∈ z_W) (h2 : Cond.native arraycopyName ∈ z_W) (h3 : Cond.static arraycopyName ∈ z_W) (h4 : Cond.initialized "java/lang/System" ∈ z_W) (hd : decode cc pc = .ok (.invokestatic ix, 3)) (ha0 : h a0 = some (c_J n0 f)) (ha : h a = some (c_J n1 f1)) (hm : 0 ≤ sp ∧ 0 ≤ dp ∧ 0 ≤ m ∧ sp + m ≤ (n0 : Int) ∧ dp + m ≤ (n1 : Int) ∧ n0 < 1000000 ∧ n1 < 1000000) (hr : 1 ≤ r.1) (hct : ((st.map z_v).map fun v => v.category).sum ≤ 8) (kk : z_w g X cc own r (pc + 3) ls st (z_up h a (c_J n1 (va_cpy f f1 sp.toNat dp.toNat m.toNat))) k n) : z_w g X cc own r pc ls (z_i m :: z_i dp :: z_r a :: z_i sp :: z_r a0 :: st) h k n := fun C0 H locs S hR hS hL => by
  obtain ⟨ws, hP, hD, hw⟩ := id hR
  obtain ⟨q0, hq⟩ := hw a0 _ ha0
  obtain ⟨q1, hq1⟩ := hw a _ ha
  have i1 : z_in sp := ⟨by omega, by omega⟩
  have i2 : z_in dp := ⟨by omega, by omega⟩
  have i3 : z_in m := ⟨by omega, by omega⟩
  refine va_copyl (sp := Int32.ofInt sp) (dp := Int32.ofInt dp) (n := Int32.ofInt m) C0.1 C0.2.1 (C0.2.2.1.trans hL.2.1.symm) C0.2.2.2.1 (C0.2.2.2.2.1 _ h1) (C0.2.2.2.2.1 _ h2) (C0.2.2.2.2.1 _ h3) (C0.2.2.2.2.1 _ h4) C0.2.2.2.2.2.1.1 hP hD hS q0 q1 1 1 hq hq1 (ty := .long) rfl rfl rfl ?_ ?_ ?_ ?_ ?_ (fun i _ => rfl) (Nat.le_trans hr C0.2.2.2.2.2.2.2.1) ?_ hd (fun H1 locs1 hP1 hD1 hS1 => kk C0 H1 locs1 S (z_R.set hw hq1 ?_ ?_) hS1 hL)
  · rw [z_0, z_lt i1 z_in0]; omega
  · rw [z_0, z_lt i2 z_in0]; omega
  · rw [z_0, z_lt i3 z_in0]; omega
  · rw [z_clamp (by omega) i1.2, z_clamp (by omega) i3.2]; omega
  · rw [z_clamp (by omega) i2.2, z_clamp (by omega) i3.2]; omega
  · have h8 := C0.2.2.2.2.2.2.2.2.2.2
    have : nativeFrameWords "java/lang/System" "arraycopy" 5 + 11 ≤ 33 := by decide
    omega
  all_goals
    rw [z_clamp (by omega) i1.2, z_clamp (by omega) i2.2, z_clamp (by omega) i3.2] at hP1 hD1
    simp only [z_e, z_cpL]
    assumption
-- statics
theorem z_gets {ix i : Nat} {nm : String} (hi : i < 4) (hn : z_tn i = nm) (hlink : Cond.fieldLink own ix "KnitReader$Kinds" nm "[I" ∈ z_W) (hd : decode cc pc = .ok (.getstatic ix, 3)) (kk : z_w g X cc own r (pc + 3) ls (z_r (g_s g i) :: st) h k n) : z_w g X cc own r pc ls st h k n := fun C0 H locs S hR hS hL => by
  subst hn
  exact va_gets C0.1 C0.2.1 (C0.2.2.2.2.2.1.2.1.1 i hi).1 hS C0.2.2.2.1 (C0.2.2.2.2.1 _ hlink) (fun x hx => hx) hd (kk C0 H locs S hR hS hL)
theorem z_slen {i : Nat} (hi : i < 4) (hd : decode cc pc = .ok (.arraylength, 1)) (kk : z_w g X cc own r (pc + 1) ls (z_i 13 :: st) h k n) : z_w g X cc own r pc ls (z_r (g_s g i) :: st) h k n := fun C0 H locs S hR hS hL =>
  va_tlen C0.1 C0.2.1 (C0.2.2.2.2.2.1.2.1.1 i hi).2 hS (v := Int32.ofInt 13) (by decide) hd (kk C0 H locs S hR hS hL)
theorem z_sald {i : Nat} {j : Int} (hi : i < 4) (hd : decode cc pc = .ok (.iaload, 1)) (hj : 0 ≤ j ∧ j < 13) (kk : z_w g X cc own r (pc + 1) ls (z_i (z_tv i j.toNat) :: st) h k n) : z_w g X cc own r pc ls (z_i j :: z_r (g_s g i) :: st) h k n := fun C0 H locs S hR hS hL =>
  va_ti (i := Int32.ofInt j) (v := .int (Int32.ofInt (z_tv i j.toNat))) C0.1 C0.2.1 (C0.2.2.2.2.2.1.2.1.1 i hi).2 hS (z_vin hj.1 hj.2 (by omega)) (by rw [z_clamp hj.1 (by omega)]) hd (kk C0 H locs S hR hS hL)
end ZH
