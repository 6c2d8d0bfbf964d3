/-! the reference: what reads a text -/
section ZR
variable {n : Nat} {t : Nat → Int} {rec : Nat → rdT → Bool × rdT} {w j P d : Nat} {tl : Int}
theorem rdO_W (h : ¬ ((pe n t j = 40 ∨ pe n t j = 60) ∧ w < 5)) : rdO n t rec w (j, P, d, tl) = rdW n t w (j, P, d, tl) := by
  unfold rdO
  rw [if_neg (fun q => h ⟨Or.inl q.1, q.2⟩), if_neg (fun q => h ⟨Or.inr q.1, q.2⟩)]
theorem rdO_G {cl lo ti' : Int} (h : (pe n t j = 40 ∧ cl = 41 ∧ lo = 1 ∧ ti' = tl) ∨ (pe n t j = 60 ∧ cl = 62 ∧ lo = 0 ∧ ti' = 1)) (hw : w < 5) : rdO n t rec w (j, P, d, tl) = rdG n t rec w cl lo (j, P, d, ti') := by
  unfold rdO
  rcases h with ⟨h1, rfl, rfl, rfl⟩ | ⟨h1, rfl, rfl, rfl⟩
  · rw [if_pos ⟨h1, hw⟩]
  · have h1' : pe n t (j, P, d, tl).1 = 60 := h1
    rw [if_neg (fun q => by have := q.1; omega), if_pos ⟨h1, hw⟩]
theorem rdW_0 {e : Nat} (hE : wEnd n t j = e) (h : kO t j e = -1) : rdW n t w (j, P, d, tl) = (false, (j, P + 1, max d w, tl)) := by
  subst hE
  unfold rdW
  rw [if_pos (show kO t j (wEnd n t j) < 0 by omega)]
theorem rdW_1 {e : Nat} (hE : wEnd n t j = e) (h : kOk (kO t j e)) (hd : ¬ isDg (pe n t e)) : rdW n t w (j, P, d, tl) = (true, (e, P + 1, max d w, tl)) := by
  subst hE
  unfold rdW
  rw [if_neg (show ¬ kO t j (wEnd n t j) < 0 by have := h.1; omega), if_neg hd]
theorem rdW_2 {e : Nat} (hE : wEnd n t j = e) (h : kOk (kO t j e)) (hd : isDg (pe n t e)) (hn : nOk n t 1 e) : rdW n t w (j, P, d, tl) = (true, (e + nC n t e, P + 1, max d w, tl)) := by
  subst hE
  unfold rdW
  rw [if_neg (show ¬ kO t j (wEnd n t j) < 0 by have := h.1; omega), if_pos hd, if_pos hn]
theorem rdW_3 {e : Nat} (hE : wEnd n t j = e) (h : kOk (kO t j e)) (hd : isDg (pe n t e)) (hn : ¬ nOk n t 1 e) : rdW n t w (j, P, d, tl) = (false, (e, P + 1, max d w, tl)) := by
  subst hE
  unfold rdW
  rw [if_neg (show ¬ kO t j (wEnd n t j) < 0 by have := h.1; omega), if_pos hd, if_neg hn]
theorem rdG_f {cl lo : Int} {s2 : rdT} (h : rec (w + 1) (j + 1, P + 1, max d w, tl) = (false, s2)) : rdG n t rec w cl lo (j, P, d, tl) = (false, s2) := by
  unfold rdG
  show (let q := rec (w + 1) (j + 1, P + 1, max d w, tl); _) = _
  rw [h]
  show (if false = true then _ else (false, s2)) = _
  rw [if_neg (by decide)]
theorem rdG_c {cl lo : Int} {j2 : Nat} {s2 : Nat × Nat × Int} (h : rec (w + 1) (j + 1, P + 1, max d w, tl) = (true, (j2, s2))) (hc : pe n t j2 ≠ cl) : rdG n t rec w cl lo (j, P, d, tl) = (false, (j2, s2)) := by
  unfold rdG
  show (let q := rec (w + 1) (j + 1, P + 1, max d w, tl); _) = _
  rw [h]
  show (if true = true then if pe n t j2 = cl then _ else (false, (j2, s2)) else _) = _
  rw [if_pos rfl, if_neg hc]
theorem rdG_t {cl lo : Int} {j2 : Nat} {s2 : Nat × Nat × Int} (h : rec (w + 1) (j + 1, P + 1, max d w, tl) = (true, (j2, s2))) (hc : pe n t j2 = cl) (hn : nOk n t lo (j2 + 1)) : rdG n t rec w cl lo (j, P, d, tl) = (true, (j2 + 1 + nC n t (j2 + 1), s2)) := by
  unfold rdG
  show (let q := rec (w + 1) (j + 1, P + 1, max d w, tl); _) = _
  rw [h]
  show (if true = true then if pe n t j2 = cl then @ite _ (nOk n t lo (j2 + 1)) (Classical.propDecidable _) (true, (j2 + 1 + nC n t (j2 + 1), s2)) (false, (j2 + 1, s2)) else _ else _) = _
  rw [if_pos rfl, if_pos hc, if_pos hn]
theorem rdG_n {cl lo : Int} {j2 : Nat} {s2 : Nat × Nat × Int} (h : rec (w + 1) (j + 1, P + 1, max d w, tl) = (true, (j2, s2))) (hc : pe n t j2 = cl) (hn : ¬ nOk n t lo (j2 + 1)) : rdG n t rec w cl lo (j, P, d, tl) = (false, (j2 + 1, s2)) := by
  unfold rdG
  show (let q := rec (w + 1) (j + 1, P + 1, max d w, tl); _) = _
  rw [h]
  show (if true = true then if pe n t j2 = cl then @ite _ (nOk n t lo (j2 + 1)) (Classical.propDecidable _) (true, (j2 + 1 + nC n t (j2 + 1), s2)) (false, (j2 + 1, s2)) else _ else _) = _
  rw [if_pos rfl, if_pos hc, if_neg hn]
end ZR
/-- what a reading leaves: whether it went well, the place, parts, how deep, tills -/
def rdB (n j : Nat) (ok : Bool) (j2 d2 : Nat) (tl2 we2 : Int) : Prop := (ok = true ∧ we2 = 1 ∧ j < j2 ∧ j2 ≤ n ∧ d2 ≤ 5 ∧ (tl2 = 0 ∨ tl2 = 1)) ∨ (ok = false ∧ we2 = 0 ∧ j2 ≤ n ∧ d2 ≤ 5 ∧ (tl2 = 0 ∨ tl2 = 1))
def rdP (h0 : z_H) (A : Nat → Nat) (Rf Nw Th Tp Tx Kd Ia It Lk Ho Sz Im Mv : Nat → Int) (n : Nat) (kp ln lf md mn hi ha is_ ca : Int) (j : Nat) (r : Bool × rdT) : z_P := fun rv h' => rv = none ∧ ∃ (ok : Bool) (j2 P2 d2 : Nat) (tl2 we2 : Int), r = (ok, (j2, P2, d2, tl2)) ∧ rdB n j ok j2 d2 tl2 we2 ∧ h' = (MH h0 A Rf Nw Th Tp Tx Kd Ia It Lk Ho Sz Im Mv kp ln (n : Int) (j2 : Int) we2 (P2 : Int) (d2 : Int) tl2 lf md mn hi ha is_ ca)
def RR (g : z_G) (h0 : z_H) (A : Nat → Nat) (Rf Nw Th Tp Tx Kd Ia It Lk Ho Sz Im Mv : Nat → Int) (n : Nat) (kp ln lf md mn hi ha is_ ca : Int) (f : Nat) : Prop := ∀ (w P d j : Nat) (tl : Int), w ≤ 5 → d ≤ 5 → j ≤ n → (tl = 0 ∨ tl = 1) → n - j < f → z_D g mX9_reads (5 - w + 6) 0 0 [z_r (A 0), z_i (w : Int)] (MH h0 A Rf Nw Th Tp Tx Kd Ia It Lk Ho Sz Im Mv kp ln (n : Int) (j : Int) 1 (P : Int) (d : Int) tl lf md mn hi ha is_ ca) (rdP h0 A Rf Nw Th Tp Tx Kd Ia It Lk Ho Sz Im Mv n kp ln lf md mn hi ha is_ ca j (rdS n Tx f w (j, P, d, tl)))
theorem z_ks {g : z_G} {X : z_X} {cc : ByteArray} {own : String} {r : Nat × Nat × Nat} {pc k n : Nat} {ls st : List z_V} {h : z_H} {v : z_V} (kk : z_w g X cc own r pc ls (v :: st) h k n) : z_w g X cc own r pc ls ((some v).toList ++ st) h k n := kk
set_option maxHeartbeats 8000000 in
set_option maxRecDepth 100000 in
theorem D_X9_reads {g : z_G} {h0 : z_H} {A : Nat → Nat} (hM : mD A) {Rf Nw Th Tp Tx Kd Ia It Lk Ho Sz Im Mv : Nat → Int} {kp ln lf md mn hi ha is_ ca : Int} {n : Nat} (hn : n ≤ 250) (ht : ∀ q, q < n → 0 ≤ Tx q ∧ Tx q ≤ 255) {f : Nat} (hRR : ∀ f', f' < f → RR g h0 A Rf Nw Th Tp Tx Kd Ia It Lk Ho Sz Im Mv n kp ln lf md mn hi ha is_ ca f') : RR g h0 A Rf Nw Th Tp Tx Kd Ia It Lk Ho Sz Im Mv n kp ln lf md mn hi ha is_ ca f := by
  intro w P d j tl hw hd hj htl hf
  refine z_D.of (by decide +kernel) (Nat.le_of_ble_eq_true rfl) (fun X F => ?_)
  show z_w g X cX9_reads RX9 (5 - w + 6, 0, 0) 0 [z_r (A 0), z_i (w : Int), z_u, z_u] [] (MH h0 A Rf Nw Th Tp Tx Kd Ia It Lk Ho Sz Im Mv kp ln (n : Int) (j : Int) 1 (P : Int) (d : Int) tl lf md mn hi ha is_ ca) 0 0
  refine z_iconst dX9_reads_0 ?_
  refine z_istore_n dX9_reads_1 (Nat.le_of_ble_eq_true rfl) rfl ?_
  have L : ∀ (fu f1 : Nat) (_ : f1 ≤ fu) (i Q dp : Nat) (tm : Int) (y3 : z_V), i ≤ n → dp ≤ 5 → (tm = 0 ∨ tm = 1) → n - i < f1 → (f1 ≤ f ∧ j ≤ i) → rdS n Tx f w (j, P, d, tl) = rdS n Tx f1 w (i, Q, dp, tm) → z_w g X cX9_reads RX9 (5 - w + 6, 0, 0) 2 [z_r (A 0), z_i (w : Int), z_i 1, y3] [] (MH h0 A Rf Nw Th Tp Tx Kd Ia It Lk Ho Sz Im Mv kp ln (n : Int) (i : Int) 1 (Q : Int) (dp : Int) tm lf md mn hi ha is_ ca) 0 0 := by
    intro fu
    induction fu with
    | zero => intro f1 h1 i Q c tm y3 _ _ _ hm; exact absurd hm (by omega)
    | succ fu ih =>
      intro f1 hf1 i Q dp tm y3 hin9 hc htm hif hff hr2
      obtain ⟨f2, rfl⟩ : ∃ y, f1 = y + 1 := ⟨f1 - 1, by omega⟩
      have b0 := pe_b ht i
      have K : ∀ (ok : Bool) (i2 Q2 dp2 : Nat) (tm2 we2 : Int) (y4 : z_V), rdO n Tx (rdS n Tx f2) w (i, Q, dp, tm) = (ok, (i2, Q2, dp2, tm2)) → rdB n i ok i2 dp2 tm2 we2 → z_w g X cX9_reads RX9 (5 - w + 6, 0, 0) 192 [z_r (A 0), z_i (w : Int), z_i 1, y4] [] (MH h0 A Rf Nw Th Tp Tx Kd Ia It Lk Ho Sz Im Mv kp ln (n : Int) (i2 : Int) we2 (Q2 : Int) (dp2 : Int) tm2 lf md mn hi ha is_ ca) 0 0 := by
        intro ok i2 Q2 dp2 tm2 we2 y4 hO hB
        have hr : rdS n Tx (f2 + 1) w (i, Q, dp, tm) = rdN n Tx (rdS n Tx f2) w (ok, (i2, Q2, dp2, tm2)) := congrArg (rdN n Tx (rdS n Tx f2) w) hO
        have b2 := pe_b ht i2
        rcases hB with ⟨rfl, rfl, g1, g2, g3, g4⟩ | ⟨rfl, rfl, g2, g3, g4⟩
        · skip
          refine z_aload_n dX9_reads_192 rfl ?_
          refine gf_X9_85 dX9_reads_193 MH_0 rfl ?_
          refine z_if_eq dX9_reads_196 (tgt := 212) rfl (by decide) (fun c1 => ?_) (fun c1 => ?_)
          · exact absurd c1 (by decide)
          · skip
            refine z_aload_n dX9_reads_199 rfl ?_
            refine cs_X9_77 dX9_reads_200 (D_X9_peek hM (j := i2) hn (by omega) rfl rfl) MH_0 rfl rfl (Nat.le_of_ble_eq_true rfl) ⟨(show 1 + 1 ≤ 5 - w + 6 by omega), by exact Nat.le_refl 0, by exact Nat.le_refl 0⟩ (z_ki ?_)
            refine z_bipush dX9_reads_203 rfl ?_
            refine z_icmp_ne dX9_reads_205 (tgt := 212) rfl ⟨by omega, by omega⟩ (by decide) (fun c2 => ?_) (fun c2 => ?_)
            · skip
              have hcm : pe n Tx i2 ≠ 44 := c2
              refine z_iconst dX9_reads_212 ?_
              refine z_istore_n dX9_reads_213 (Nat.le_of_ble_eq_true rfl) rfl ?_
              refine z_aload_n dX9_reads_214 rfl ?_
              refine z_dup dX9_reads_215 rfl ?_
              refine gf_X9_67 dX9_reads_216 MH_0 rfl ?_
              refine z_iload_n dX9_reads_219 rfl ?_
              refine z_if_eq dX9_reads_220 (tgt := 227) rfl (by decide) (fun c3 => ?_) (fun c3 => ?_)
              · skip
                refine z_iconst dX9_reads_227 ?_
                refine z_iadd dX9_reads_228 ?_
                refine pf_X9_67 dX9_reads_229 MH_0 (Nat.le_of_ble_eq_true rfl) ?_
                refine z_heq MHu_0 ?_
                refine z_goto dX9_reads_232 (tgt := 2) rfl ?_
                refine z_iload_n dX9_reads_2 rfl ?_
                refine z_if_eq dX9_reads_3 (tgt := 235) rfl (by decide) (fun c4 => ?_) (fun c4 => ?_)
                · skip
                  exact z_vret F dX9_reads_235 rfl ⟨Nat.le_refl _, Nat.le_refl _⟩ ⟨rfl, true, i2, Q2, dp2, tm2, 1, hr2.trans (hr.trans (if_neg (fun q => hcm q.2))), Or.inl ⟨rfl, rfl, by omega, g2, g3, g4⟩, by rw [Int.add_zero]⟩
                · exact absurd c4 (by decide)
              · exact absurd c3 (by decide)
            · skip
              have hcm : pe n Tx i2 = 44 := c2
              have hlt2 := pe_lt (n := n) (t := Tx) (a := i2) (by omega)
              refine z_iconst dX9_reads_208 ?_
              refine z_goto dX9_reads_209 (tgt := 213) rfl ?_
              refine z_istore_n dX9_reads_213 (Nat.le_of_ble_eq_true rfl) rfl ?_
              refine z_aload_n dX9_reads_214 rfl ?_
              refine z_dup dX9_reads_215 rfl ?_
              refine gf_X9_67 dX9_reads_216 MH_0 rfl ?_
              refine z_iload_n dX9_reads_219 rfl ?_
              refine z_if_eq dX9_reads_220 (tgt := 227) rfl (by decide) (fun c5 => ?_) (fun c5 => ?_)
              · exact absurd c5 (by decide)
              · skip
                refine z_iconst dX9_reads_223 ?_
                refine z_goto dX9_reads_224 (tgt := 228) rfl ?_
                refine z_iadd dX9_reads_228 ?_
                refine pf_X9_67 dX9_reads_229 MH_0 (Nat.le_of_ble_eq_true rfl) ?_
                refine z_heq MHu_0 ?_
                refine z_goto dX9_reads_232 (tgt := 2) rfl ?_
                exact ih f2 (by omega) (i2 + 1) Q2 dp2 tm2 _ (by omega) (by omega) (by omega) (by omega) (by omega) (hr2.trans (hr.trans (if_pos ⟨rfl, hcm⟩)))
        · skip
          refine z_aload_n dX9_reads_192 rfl ?_
          refine gf_X9_85 dX9_reads_193 MH_0 rfl ?_
          refine z_if_eq dX9_reads_196 (tgt := 212) rfl (by decide) (fun c6 => ?_) (fun c6 => ?_)
          · skip
            refine z_iconst dX9_reads_212 ?_
            refine z_istore_n dX9_reads_213 (Nat.le_of_ble_eq_true rfl) rfl ?_
            refine z_aload_n dX9_reads_214 rfl ?_
            refine z_dup dX9_reads_215 rfl ?_
            refine gf_X9_67 dX9_reads_216 MH_0 rfl ?_
            refine z_iload_n dX9_reads_219 rfl ?_
            refine z_if_eq dX9_reads_220 (tgt := 227) rfl (by decide) (fun c7 => ?_) (fun c7 => ?_)
            · skip
              refine z_iconst dX9_reads_227 ?_
              refine z_iadd dX9_reads_228 ?_
              refine pf_X9_67 dX9_reads_229 MH_0 (Nat.le_of_ble_eq_true rfl) ?_
              refine z_heq MHu_0 ?_
              refine z_goto dX9_reads_232 (tgt := 2) rfl ?_
              refine z_iload_n dX9_reads_2 rfl ?_
              refine z_if_eq dX9_reads_3 (tgt := 235) rfl (by decide) (fun c8 => ?_) (fun c8 => ?_)
              · skip
                exact z_vret F dX9_reads_235 rfl ⟨Nat.le_refl _, Nat.le_refl _⟩ ⟨rfl, false, i2, Q2, dp2, tm2, 0, hr2.trans (hr.trans (if_neg (fun q => absurd (show false = true from q.1) Bool.false_ne_true))), Or.inr ⟨rfl, rfl, g2, g3, g4⟩, by rw [Int.add_zero]⟩
              · exact absurd c8 (by decide)
            · exact absurd c7 (by decide)
          · exact absurd c6 (by decide)
      refine z_iload_n dX9_reads_2 rfl ?_
      refine z_if_eq dX9_reads_3 (tgt := 235) rfl (by decide) (fun c9 => ?_) (fun c9 => ?_)
      · exact absurd c9 (by decide)
      · skip
        refine z_aload_n dX9_reads_6 rfl ?_
        refine gf_X9_85 dX9_reads_7 MH_0 rfl ?_
        refine z_if_eq dX9_reads_10 (tgt := 235) rfl (by decide) (fun c10 => ?_) (fun c10 => ?_)
        · exact absurd c10 (by decide)
        · skip
          refine z_aload_n dX9_reads_13 rfl ?_
          refine z_dup dX9_reads_14 rfl ?_
          refine gf_X9_97 dX9_reads_15 MH_0 rfl ?_
          refine z_iconst dX9_reads_18 ?_
          refine z_iadd dX9_reads_19 ?_
          refine pf_X9_97 dX9_reads_20 MH_0 (Nat.le_of_ble_eq_true rfl) ?_
          refine z_heq MHu_0 ?_
          refine z_aload_n dX9_reads_23 rfl ?_
          refine z_aload_n dX9_reads_24 rfl ?_
          refine gf_X9_100 dX9_reads_25 MH_0 rfl ?_
          refine z_iload_n dX9_reads_28 rfl ?_
          refine mm_X9_103 dX9_reads_29 ⟨by omega, by omega⟩ ⟨by omega, by omega⟩ ⟨(show 1 ≤ 5 - w + 6 by omega), by exact Nat.le_refl 0, by exact Nat.le_refl 0⟩ (Nat.le_of_ble_eq_true rfl) ?_
          refine z_ieq z_mx ?_
          refine pf_X9_100 dX9_reads_32 MH_0 (Nat.le_of_ble_eq_true rfl) ?_
          refine z_heq MHu_0 ?_
          refine z_aload_n dX9_reads_35 rfl ?_
          refine cs_X9_77 dX9_reads_36 (D_X9_peek hM (j := i) hn (by omega) rfl rfl) MH_0 rfl rfl (Nat.le_of_ble_eq_true rfl) ⟨(show 1 + 1 ≤ 5 - w + 6 by omega), by exact Nat.le_refl 0, by exact Nat.le_refl 0⟩ (z_ki ?_)
          refine z_istore_n dX9_reads_39 (Nat.le_of_ble_eq_true rfl) rfl ?_
          refine z_iload_n dX9_reads_40 rfl ?_
          refine z_bipush dX9_reads_41 rfl ?_
          refine z_icmp_eq dX9_reads_43 (tgt := 52) rfl ⟨by omega, by omega⟩ (by decide) (fun c11 => ?_) (fun c11 => ?_)
          · skip
            refine z_iload_n dX9_reads_52 rfl ?_
            refine z_iconst dX9_reads_53 ?_
            refine z_icmp_ge dX9_reads_54 (tgt := 162) rfl ⟨by omega, by omega⟩ (by decide) (fun c12 => ?_) (fun c12 => ?_)
            · skip
              have hW := rdO_W (n := n) (t := Tx) (rec := rdS n Tx f2) (w := w) (j := i) (P := Q) (d := dp) (tl := tm) (fun q => by have := q.1; have := q.2; omega)
              refine z_aload_n dX9_reads_162 rfl ?_
              refine cs_X9_118 dX9_reads_163 (D_X9_word hM (j := i) hn (by omega) ht) MH_0 rfl rfl (Nat.le_of_ble_eq_true rfl) ⟨(show 3 + 1 ≤ 5 - w + 6 by omega), by exact Nat.le_refl 0, by exact Nat.le_refl 0⟩ (fun rv h' hq => ?_)
              obtain ⟨rfl, hq⟩ := hq
              have hwn : wEnd n Tx i ≤ n := wE_n n Tx (n - i) i (by omega)
              have hwl : i ≤ wEnd n Tx i := wE_le n Tx (n - i) i
              have hnC := nC_n (n := n) (t := Tx) (a := wEnd n Tx i) hwn
              have b4 := pe_b ht (wEnd n Tx i)
              rcases hq with ⟨hq, rfl⟩ | ⟨hq, rfl⟩
              · refine z_ks ?_
                have hlt := kO_lt hq
                refine z_pop dX9_reads_166 rfl ?_
                refine z_aload_n dX9_reads_167 rfl ?_
                refine gf_X9_85 dX9_reads_168 MH_0 rfl ?_
                refine z_if_eq dX9_reads_171 (tgt := 192) rfl (by decide) (fun c13 => ?_) (fun c13 => ?_)
                · exact absurd c13 (by decide)
                · skip
                  refine z_aload_n dX9_reads_174 rfl ?_
                  refine cs_X9_77 dX9_reads_175 (D_X9_peek hM (j := wEnd n Tx i) hn (by omega) rfl rfl) MH_0 rfl rfl (Nat.le_of_ble_eq_true rfl) ⟨(show 1 + 1 ≤ 5 - w + 6 by omega), by exact Nat.le_refl 0, by exact Nat.le_refl 0⟩ (z_ki ?_)
                  refine cs_X9_81 dX9_reads_178 (D_X9_isFigure (c := pe n Tx (wEnd n Tx i)) ⟨by omega, by omega⟩) rfl rfl (Nat.le_of_ble_eq_true rfl) ⟨(show 2 + 1 ≤ 5 - w + 6 by omega), by exact Nat.le_refl 0, by exact Nat.le_refl 0⟩ (z_ki ?_)
                  refine z_if_eq dX9_reads_181 (tgt := 192) rfl ⟨by split <;> omega, by split <;> omega⟩ (fun c14 => ?_) (fun c14 => ?_)
                  · skip
                    have hnd : ¬ isDg (pe n Tx (wEnd n Tx i)) := by omega
                    exact K true (wEnd n Tx i) (Q + 1) (max dp w) tm 1 (z_i (pe n Tx i)) (hW.trans (rdW_1 rfl hq hnd)) (Or.inl ⟨rfl, rfl, by omega, by omega, by omega, by omega⟩)
                  · skip
                    have hnd : isDg (pe n Tx (wEnd n Tx i)) := by omega
                    refine z_aload_n dX9_reads_184 rfl ?_
                    refine z_iconst dX9_reads_185 ?_
                    refine z_bipush dX9_reads_186 rfl ?_
                    have hwk := hq
                    refine cs_X9_115 dX9_reads_188 (D_X9_number hM (sz := 0) (at_ := 0) (j := wEnd n Tx i) hn (by omega) ht (lo := 1) (Or.inr rfl)) MH_0 rfl rfl (Nat.le_of_ble_eq_true rfl) ⟨(show 3 + 1 ≤ 5 - w + 6 by omega), by exact Nat.le_refl 0, by exact Nat.le_refl 0⟩ (fun rv h' hq => ?_)
                    obtain ⟨rfl, hq⟩ := hq
                    rcases hq with ⟨hq, rfl⟩ | ⟨hq, rfl⟩
                    · refine z_ks ?_
                      refine z_pop dX9_reads_191 rfl ?_
                      exact K true (wEnd n Tx i + nC n Tx (wEnd n Tx i)) (Q + 1) (max dp w) tm 1 (z_i (pe n Tx i)) (hW.trans (rdW_2 rfl hwk hnd hq)) (Or.inl ⟨rfl, rfl, by omega, by omega, by omega, by omega⟩)
                    · refine z_ks ?_
                      refine z_pop dX9_reads_191 rfl ?_
                      exact K false (wEnd n Tx i) (Q + 1) (max dp w) tm 0 (z_i (pe n Tx i)) (hW.trans (rdW_3 rfl hwk hnd hq)) (Or.inr ⟨rfl, rfl, by omega, by omega, by omega⟩)
              · refine z_ks ?_
                refine z_pop dX9_reads_166 rfl ?_
                refine z_aload_n dX9_reads_167 rfl ?_
                refine gf_X9_85 dX9_reads_168 MH_0 rfl ?_
                refine z_if_eq dX9_reads_171 (tgt := 192) rfl (by decide) (fun c15 => ?_) (fun c15 => ?_)
                · skip
                  exact K false (i) (Q + 1) (max dp w) tm 0 (z_i (pe n Tx i)) (hW.trans (rdW_0 rfl hq)) (Or.inr ⟨rfl, rfl, by omega, by omega, by omega⟩)
                · exact absurd c15 (by decide)
            · skip
              refine z_aload_n dX9_reads_57 rfl ?_
              refine z_aload_n dX9_reads_58 rfl ?_
              refine gf_X9_108 dX9_reads_59 MH_0 rfl ?_
              refine z_if_ne dX9_reads_62 (tgt := 71) rfl ⟨by omega, by omega⟩ (fun c16 => ?_) (fun c16 => ?_)
              · skip
                refine z_iconst dX9_reads_71 ?_
                refine z_goto dX9_reads_72 (tgt := 76) rfl ?_
                have hlt8 := pe_lt (n := n) (t := Tx) (a := i) (by omega)
                refine z_ieq (y := tm) (by omega) ?_
                refine pf_X9_108 (by omega) dX9_reads_76 MH_0 (Nat.le_of_ble_eq_true rfl) ?_
                refine z_heq MHu_0 ?_
                refine z_aload_n dX9_reads_79 rfl ?_
                refine z_dup dX9_reads_80 rfl ?_
                refine gf_X9_67 dX9_reads_81 MH_0 rfl ?_
                refine z_iconst dX9_reads_84 ?_
                refine z_iadd dX9_reads_85 ?_
                refine pf_X9_67 dX9_reads_86 MH_0 (Nat.le_of_ble_eq_true rfl) ?_
                refine z_heq MHu_0 ?_
                refine z_aload_n dX9_reads_89 rfl ?_
                refine z_iload_n dX9_reads_90 rfl ?_
                refine z_iconst dX9_reads_91 ?_
                refine z_iadd dX9_reads_92 ?_
                refine cs_X9_111 dX9_reads_93 (hRR f2 (by omega) (w + 1) (Q + 1) (max dp w) (i + 1) tm (by omega) (by omega) (by omega) (by omega) (by omega)) MH_0 rfl rfl (Nat.le_of_ble_eq_true rfl) ⟨(show (5 - (w + 1) + 6) + 1 ≤ 5 - w + 6 by omega), by exact Nat.le_refl 0, by exact Nat.le_refl 0⟩ (fun rv h' hq => ?_)
                obtain ⟨rfl, ok, j2, P2, d2, tl2, we2, hS, hB2, rfl⟩ := hq
                have hG := rdO_G (n := n) (t := Tx) (rec := rdS n Tx f2) (w := w) (j := i) (P := Q) (d := dp) (tl := tm) (cl := 41) (lo := 1) (ti' := tm) (by omega) (by omega)
                have b3 := pe_b ht j2
                show z_w _ _ _ _ _ _ _ [] _ _ _
                rcases hB2 with ⟨rfl, rfl, k1, k2, k3, k4⟩ | ⟨rfl, rfl, k2, k3, k4⟩
                · skip
                  refine z_aload_n dX9_reads_96 rfl ?_
                  refine gf_X9_85 dX9_reads_97 MH_0 rfl ?_
                  refine z_if_eq dX9_reads_100 (tgt := 154) rfl (by decide) (fun c17 => ?_) (fun c17 => ?_)
                  · exact absurd c17 (by decide)
                  · skip
                    refine z_aload_n dX9_reads_103 rfl ?_
                    refine cs_X9_77 dX9_reads_104 (D_X9_peek hM (j := j2) hn (by omega) rfl rfl) MH_0 rfl rfl (Nat.le_of_ble_eq_true rfl) ⟨(show 1 + 1 ≤ 5 - w + 6 by omega), by exact Nat.le_refl 0, by exact Nat.le_refl 0⟩ (z_ki ?_)
                    refine z_iload_n dX9_reads_107 rfl ?_
                    refine z_bipush dX9_reads_108 rfl ?_
                    refine z_icmp_ne dX9_reads_110 (tgt := 118) rfl ⟨by omega, by omega⟩ (by decide) (fun c18 => ?_) (fun c18 => ?_)
                    · skip
                      exfalso
                      omega
                    · skip
                      refine z_bipush dX9_reads_113 rfl ?_
                      refine z_goto dX9_reads_115 (tgt := 120) rfl ?_
                      refine z_icmp_ne dX9_reads_120 (tgt := 154) rfl ⟨by omega, by omega⟩ (by decide) (fun c19 => ?_) (fun c19 => ?_)
                      · skip
                        refine z_aload_n dX9_reads_154 rfl ?_
                        refine z_iconst dX9_reads_155 ?_
                        refine pf_X9_85 (by omega) dX9_reads_156 MH_0 (Nat.le_of_ble_eq_true rfl) ?_
                        refine z_heq MHu_0 ?_
                        refine z_goto dX9_reads_159 (tgt := 192) rfl ?_
                        exact K false (j2) (P2) (d2) tl2 0 (z_i (pe n Tx i)) (hG.trans (rdG_c hS (by omega))) (Or.inr ⟨rfl, rfl, by omega, by omega, by omega⟩)
                      · skip
                        have hj2 := pe_lt (n := n) (t := Tx) (a := j2) (by omega)
                        have hnC := nC_n (n := n) (t := Tx) (a := j2 + 1) (by omega)
                        refine z_aload_n dX9_reads_123 rfl ?_
                        refine z_dup dX9_reads_124 rfl ?_
                        refine gf_X9_67 dX9_reads_125 MH_0 rfl ?_
                        refine z_iconst dX9_reads_128 ?_
                        refine z_iadd dX9_reads_129 ?_
                        refine pf_X9_67 dX9_reads_130 MH_0 (Nat.le_of_ble_eq_true rfl) ?_
                        refine z_heq MHu_0 ?_
                        refine z_aload_n dX9_reads_133 rfl ?_
                        refine z_iload_n dX9_reads_134 rfl ?_
                        refine z_bipush dX9_reads_135 rfl ?_
                        refine z_icmp_ne dX9_reads_137 (tgt := 144) rfl ⟨by omega, by omega⟩ (by decide) (fun c20 => ?_) (fun c20 => ?_)
                        · skip
                          exfalso
                          omega
                        · skip
                          refine z_iconst dX9_reads_140 ?_
                          refine z_goto dX9_reads_141 (tgt := 145) rfl ?_
                          refine z_bipush dX9_reads_145 rfl ?_
                          refine cs_X9_115 dX9_reads_147 (D_X9_number hM (sz := 0) (at_ := 0) (j := j2 + 1) hn (by omega) ht (lo := 1) (by omega)) MH_0 rfl rfl (Nat.le_of_ble_eq_true rfl) ⟨(show 3 + 1 ≤ 5 - w + 6 by omega), by exact Nat.le_refl 0, by exact Nat.le_refl 0⟩ (fun rv h' hq => ?_)
                          obtain ⟨rfl, hq⟩ := hq
                          rcases hq with ⟨hq, rfl⟩ | ⟨hq, rfl⟩
                          · refine z_ks ?_
                            refine z_pop dX9_reads_150 rfl ?_
                            refine z_goto dX9_reads_151 (tgt := 192) rfl ?_
                            exact K true (j2 + 1 + nC n Tx (j2 + 1)) (P2) (d2) tl2 1 (z_i (pe n Tx i)) (hG.trans (rdG_t hS (by omega) hq)) (Or.inl ⟨rfl, rfl, by omega, by omega, by omega, by omega⟩)
                          · refine z_ks ?_
                            refine z_pop dX9_reads_150 rfl ?_
                            refine z_goto dX9_reads_151 (tgt := 192) rfl ?_
                            exact K false (j2 + 1) (P2) (d2) tl2 0 (z_i (pe n Tx i)) (hG.trans (rdG_n hS (by omega) hq)) (Or.inr ⟨rfl, rfl, by omega, by omega, by omega⟩)
                · skip
                  refine z_aload_n dX9_reads_96 rfl ?_
                  refine gf_X9_85 dX9_reads_97 MH_0 rfl ?_
                  refine z_if_eq dX9_reads_100 (tgt := 154) rfl (by decide) (fun c21 => ?_) (fun c21 => ?_)
                  · skip
                    refine z_aload_n dX9_reads_154 rfl ?_
                    refine z_iconst dX9_reads_155 ?_
                    refine pf_X9_85 (by omega) dX9_reads_156 MH_0 (Nat.le_of_ble_eq_true rfl) ?_
                    refine z_heq MHu_0 ?_
                    refine z_goto dX9_reads_159 (tgt := 192) rfl ?_
                    exact K false (j2) (P2) (d2) tl2 0 (z_i (pe n Tx i)) (hG.trans (rdG_f hS)) (Or.inr ⟨rfl, rfl, by omega, by omega, by omega⟩)
                  · exact absurd c21 (by decide)
              · skip
                refine z_iload_n dX9_reads_65 rfl ?_
                refine z_bipush dX9_reads_66 rfl ?_
                refine z_icmp_ne dX9_reads_68 (tgt := 75) rfl ⟨by omega, by omega⟩ (by decide) (fun c22 => ?_) (fun c22 => ?_)
                · skip
                  refine z_iconst dX9_reads_75 ?_
                  have hlt8 := pe_lt (n := n) (t := Tx) (a := i) (by omega)
                  refine z_ieq (y := tm) (by omega) ?_
                  refine pf_X9_108 (by omega) dX9_reads_76 MH_0 (Nat.le_of_ble_eq_true rfl) ?_
                  refine z_heq MHu_0 ?_
                  refine z_aload_n dX9_reads_79 rfl ?_
                  refine z_dup dX9_reads_80 rfl ?_
                  refine gf_X9_67 dX9_reads_81 MH_0 rfl ?_
                  refine z_iconst dX9_reads_84 ?_
                  refine z_iadd dX9_reads_85 ?_
                  refine pf_X9_67 dX9_reads_86 MH_0 (Nat.le_of_ble_eq_true rfl) ?_
                  refine z_heq MHu_0 ?_
                  refine z_aload_n dX9_reads_89 rfl ?_
                  refine z_iload_n dX9_reads_90 rfl ?_
                  refine z_iconst dX9_reads_91 ?_
                  refine z_iadd dX9_reads_92 ?_
                  refine cs_X9_111 dX9_reads_93 (hRR f2 (by omega) (w + 1) (Q + 1) (max dp w) (i + 1) tm (by omega) (by omega) (by omega) (by omega) (by omega)) MH_0 rfl rfl (Nat.le_of_ble_eq_true rfl) ⟨(show (5 - (w + 1) + 6) + 1 ≤ 5 - w + 6 by omega), by exact Nat.le_refl 0, by exact Nat.le_refl 0⟩ (fun rv h' hq => ?_)
                  obtain ⟨rfl, ok, j2, P2, d2, tl2, we2, hS, hB2, rfl⟩ := hq
                  have hG := rdO_G (n := n) (t := Tx) (rec := rdS n Tx f2) (w := w) (j := i) (P := Q) (d := dp) (tl := tm) (cl := 41) (lo := 1) (ti' := tm) (by omega) (by omega)
                  have b3 := pe_b ht j2
                  show z_w _ _ _ _ _ _ _ [] _ _ _
                  rcases hB2 with ⟨rfl, rfl, k1, k2, k3, k4⟩ | ⟨rfl, rfl, k2, k3, k4⟩
                  · skip
                    refine z_aload_n dX9_reads_96 rfl ?_
                    refine gf_X9_85 dX9_reads_97 MH_0 rfl ?_
                    refine z_if_eq dX9_reads_100 (tgt := 154) rfl (by decide) (fun c23 => ?_) (fun c23 => ?_)
                    · exact absurd c23 (by decide)
                    · skip
                      refine z_aload_n dX9_reads_103 rfl ?_
                      refine cs_X9_77 dX9_reads_104 (D_X9_peek hM (j := j2) hn (by omega) rfl rfl) MH_0 rfl rfl (Nat.le_of_ble_eq_true rfl) ⟨(show 1 + 1 ≤ 5 - w + 6 by omega), by exact Nat.le_refl 0, by exact Nat.le_refl 0⟩ (z_ki ?_)
                      refine z_iload_n dX9_reads_107 rfl ?_
                      refine z_bipush dX9_reads_108 rfl ?_
                      refine z_icmp_ne dX9_reads_110 (tgt := 118) rfl ⟨by omega, by omega⟩ (by decide) (fun c24 => ?_) (fun c24 => ?_)
                      · skip
                        exfalso
                        omega
                      · skip
                        refine z_bipush dX9_reads_113 rfl ?_
                        refine z_goto dX9_reads_115 (tgt := 120) rfl ?_
                        refine z_icmp_ne dX9_reads_120 (tgt := 154) rfl ⟨by omega, by omega⟩ (by decide) (fun c25 => ?_) (fun c25 => ?_)
                        · skip
                          refine z_aload_n dX9_reads_154 rfl ?_
                          refine z_iconst dX9_reads_155 ?_
                          refine pf_X9_85 (by omega) dX9_reads_156 MH_0 (Nat.le_of_ble_eq_true rfl) ?_
                          refine z_heq MHu_0 ?_
                          refine z_goto dX9_reads_159 (tgt := 192) rfl ?_
                          exact K false (j2) (P2) (d2) tl2 0 (z_i (pe n Tx i)) (hG.trans (rdG_c hS (by omega))) (Or.inr ⟨rfl, rfl, by omega, by omega, by omega⟩)
                        · skip
                          have hj2 := pe_lt (n := n) (t := Tx) (a := j2) (by omega)
                          have hnC := nC_n (n := n) (t := Tx) (a := j2 + 1) (by omega)
                          refine z_aload_n dX9_reads_123 rfl ?_
                          refine z_dup dX9_reads_124 rfl ?_
                          refine gf_X9_67 dX9_reads_125 MH_0 rfl ?_
                          refine z_iconst dX9_reads_128 ?_
                          refine z_iadd dX9_reads_129 ?_
                          refine pf_X9_67 dX9_reads_130 MH_0 (Nat.le_of_ble_eq_true rfl) ?_
                          refine z_heq MHu_0 ?_
                          refine z_aload_n dX9_reads_133 rfl ?_
                          refine z_iload_n dX9_reads_134 rfl ?_
                          refine z_bipush dX9_reads_135 rfl ?_
                          refine z_icmp_ne dX9_reads_137 (tgt := 144) rfl ⟨by omega, by omega⟩ (by decide) (fun c26 => ?_) (fun c26 => ?_)
                          · skip
                            exfalso
                            omega
                          · skip
                            refine z_iconst dX9_reads_140 ?_
                            refine z_goto dX9_reads_141 (tgt := 145) rfl ?_
                            refine z_bipush dX9_reads_145 rfl ?_
                            refine cs_X9_115 dX9_reads_147 (D_X9_number hM (sz := 0) (at_ := 0) (j := j2 + 1) hn (by omega) ht (lo := 1) (by omega)) MH_0 rfl rfl (Nat.le_of_ble_eq_true rfl) ⟨(show 3 + 1 ≤ 5 - w + 6 by omega), by exact Nat.le_refl 0, by exact Nat.le_refl 0⟩ (fun rv h' hq => ?_)
                            obtain ⟨rfl, hq⟩ := hq
                            rcases hq with ⟨hq, rfl⟩ | ⟨hq, rfl⟩
                            · refine z_ks ?_
                              refine z_pop dX9_reads_150 rfl ?_
                              refine z_goto dX9_reads_151 (tgt := 192) rfl ?_
                              exact K true (j2 + 1 + nC n Tx (j2 + 1)) (P2) (d2) tl2 1 (z_i (pe n Tx i)) (hG.trans (rdG_t hS (by omega) hq)) (Or.inl ⟨rfl, rfl, by omega, by omega, by omega, by omega⟩)
                            · refine z_ks ?_
                              refine z_pop dX9_reads_150 rfl ?_
                              refine z_goto dX9_reads_151 (tgt := 192) rfl ?_
                              exact K false (j2 + 1) (P2) (d2) tl2 0 (z_i (pe n Tx i)) (hG.trans (rdG_n hS (by omega) hq)) (Or.inr ⟨rfl, rfl, by omega, by omega, by omega⟩)
                  · skip
                    refine z_aload_n dX9_reads_96 rfl ?_
                    refine gf_X9_85 dX9_reads_97 MH_0 rfl ?_
                    refine z_if_eq dX9_reads_100 (tgt := 154) rfl (by decide) (fun c27 => ?_) (fun c27 => ?_)
                    · skip
                      refine z_aload_n dX9_reads_154 rfl ?_
                      refine z_iconst dX9_reads_155 ?_
                      refine pf_X9_85 (by omega) dX9_reads_156 MH_0 (Nat.le_of_ble_eq_true rfl) ?_
                      refine z_heq MHu_0 ?_
                      refine z_goto dX9_reads_159 (tgt := 192) rfl ?_
                      exact K false (j2) (P2) (d2) tl2 0 (z_i (pe n Tx i)) (hG.trans (rdG_f hS)) (Or.inr ⟨rfl, rfl, by omega, by omega, by omega⟩)
                    · exact absurd c27 (by decide)
                · skip
                  exfalso
                  omega
          · skip
            refine z_iload_n dX9_reads_46 rfl ?_
            refine z_bipush dX9_reads_47 rfl ?_
            refine z_icmp_ne dX9_reads_49 (tgt := 162) rfl ⟨by omega, by omega⟩ (by decide) (fun c28 => ?_) (fun c28 => ?_)
            · skip
              have hW := rdO_W (n := n) (t := Tx) (rec := rdS n Tx f2) (w := w) (j := i) (P := Q) (d := dp) (tl := tm) (fun q => by have := q.1; have := q.2; omega)
              refine z_aload_n dX9_reads_162 rfl ?_
              refine cs_X9_118 dX9_reads_163 (D_X9_word hM (j := i) hn (by omega) ht) MH_0 rfl rfl (Nat.le_of_ble_eq_true rfl) ⟨(show 3 + 1 ≤ 5 - w + 6 by omega), by exact Nat.le_refl 0, by exact Nat.le_refl 0⟩ (fun rv h' hq => ?_)
              obtain ⟨rfl, hq⟩ := hq
              have hwn : wEnd n Tx i ≤ n := wE_n n Tx (n - i) i (by omega)
              have hwl : i ≤ wEnd n Tx i := wE_le n Tx (n - i) i
              have hnC := nC_n (n := n) (t := Tx) (a := wEnd n Tx i) hwn
              have b4 := pe_b ht (wEnd n Tx i)
              rcases hq with ⟨hq, rfl⟩ | ⟨hq, rfl⟩
              · refine z_ks ?_
                have hlt := kO_lt hq
                refine z_pop dX9_reads_166 rfl ?_
                refine z_aload_n dX9_reads_167 rfl ?_
                refine gf_X9_85 dX9_reads_168 MH_0 rfl ?_
                refine z_if_eq dX9_reads_171 (tgt := 192) rfl (by decide) (fun c29 => ?_) (fun c29 => ?_)
                · exact absurd c29 (by decide)
                · skip
                  refine z_aload_n dX9_reads_174 rfl ?_
                  refine cs_X9_77 dX9_reads_175 (D_X9_peek hM (j := wEnd n Tx i) hn (by omega) rfl rfl) MH_0 rfl rfl (Nat.le_of_ble_eq_true rfl) ⟨(show 1 + 1 ≤ 5 - w + 6 by omega), by exact Nat.le_refl 0, by exact Nat.le_refl 0⟩ (z_ki ?_)
                  refine cs_X9_81 dX9_reads_178 (D_X9_isFigure (c := pe n Tx (wEnd n Tx i)) ⟨by omega, by omega⟩) rfl rfl (Nat.le_of_ble_eq_true rfl) ⟨(show 2 + 1 ≤ 5 - w + 6 by omega), by exact Nat.le_refl 0, by exact Nat.le_refl 0⟩ (z_ki ?_)
                  refine z_if_eq dX9_reads_181 (tgt := 192) rfl ⟨by split <;> omega, by split <;> omega⟩ (fun c30 => ?_) (fun c30 => ?_)
                  · skip
                    have hnd : ¬ isDg (pe n Tx (wEnd n Tx i)) := by omega
                    exact K true (wEnd n Tx i) (Q + 1) (max dp w) tm 1 (z_i (pe n Tx i)) (hW.trans (rdW_1 rfl hq hnd)) (Or.inl ⟨rfl, rfl, by omega, by omega, by omega, by omega⟩)
                  · skip
                    have hnd : isDg (pe n Tx (wEnd n Tx i)) := by omega
                    refine z_aload_n dX9_reads_184 rfl ?_
                    refine z_iconst dX9_reads_185 ?_
                    refine z_bipush dX9_reads_186 rfl ?_
                    have hwk := hq
                    refine cs_X9_115 dX9_reads_188 (D_X9_number hM (sz := 0) (at_ := 0) (j := wEnd n Tx i) hn (by omega) ht (lo := 1) (Or.inr rfl)) MH_0 rfl rfl (Nat.le_of_ble_eq_true rfl) ⟨(show 3 + 1 ≤ 5 - w + 6 by omega), by exact Nat.le_refl 0, by exact Nat.le_refl 0⟩ (fun rv h' hq => ?_)
                    obtain ⟨rfl, hq⟩ := hq
                    rcases hq with ⟨hq, rfl⟩ | ⟨hq, rfl⟩
                    · refine z_ks ?_
                      refine z_pop dX9_reads_191 rfl ?_
                      exact K true (wEnd n Tx i + nC n Tx (wEnd n Tx i)) (Q + 1) (max dp w) tm 1 (z_i (pe n Tx i)) (hW.trans (rdW_2 rfl hwk hnd hq)) (Or.inl ⟨rfl, rfl, by omega, by omega, by omega, by omega⟩)
                    · refine z_ks ?_
                      refine z_pop dX9_reads_191 rfl ?_
                      exact K false (wEnd n Tx i) (Q + 1) (max dp w) tm 0 (z_i (pe n Tx i)) (hW.trans (rdW_3 rfl hwk hnd hq)) (Or.inr ⟨rfl, rfl, by omega, by omega, by omega⟩)
              · refine z_ks ?_
                refine z_pop dX9_reads_166 rfl ?_
                refine z_aload_n dX9_reads_167 rfl ?_
                refine gf_X9_85 dX9_reads_168 MH_0 rfl ?_
                refine z_if_eq dX9_reads_171 (tgt := 192) rfl (by decide) (fun c31 => ?_) (fun c31 => ?_)
                · skip
                  exact K false (i) (Q + 1) (max dp w) tm 0 (z_i (pe n Tx i)) (hW.trans (rdW_0 rfl hq)) (Or.inr ⟨rfl, rfl, by omega, by omega, by omega⟩)
                · exact absurd c31 (by decide)
            · skip
              refine z_iload_n dX9_reads_52 rfl ?_
              refine z_iconst dX9_reads_53 ?_
              refine z_icmp_ge dX9_reads_54 (tgt := 162) rfl ⟨by omega, by omega⟩ (by decide) (fun c32 => ?_) (fun c32 => ?_)
              · skip
                have hW := rdO_W (n := n) (t := Tx) (rec := rdS n Tx f2) (w := w) (j := i) (P := Q) (d := dp) (tl := tm) (fun q => by have := q.1; have := q.2; omega)
                refine z_aload_n dX9_reads_162 rfl ?_
                refine cs_X9_118 dX9_reads_163 (D_X9_word hM (j := i) hn (by omega) ht) MH_0 rfl rfl (Nat.le_of_ble_eq_true rfl) ⟨(show 3 + 1 ≤ 5 - w + 6 by omega), by exact Nat.le_refl 0, by exact Nat.le_refl 0⟩ (fun rv h' hq => ?_)
                obtain ⟨rfl, hq⟩ := hq
                have hwn : wEnd n Tx i ≤ n := wE_n n Tx (n - i) i (by omega)
                have hwl : i ≤ wEnd n Tx i := wE_le n Tx (n - i) i
                have hnC := nC_n (n := n) (t := Tx) (a := wEnd n Tx i) hwn
                have b4 := pe_b ht (wEnd n Tx i)
                rcases hq with ⟨hq, rfl⟩ | ⟨hq, rfl⟩
                · refine z_ks ?_
                  have hlt := kO_lt hq
                  refine z_pop dX9_reads_166 rfl ?_
                  refine z_aload_n dX9_reads_167 rfl ?_
                  refine gf_X9_85 dX9_reads_168 MH_0 rfl ?_
                  refine z_if_eq dX9_reads_171 (tgt := 192) rfl (by decide) (fun c33 => ?_) (fun c33 => ?_)
                  · exact absurd c33 (by decide)
                  · skip
                    refine z_aload_n dX9_reads_174 rfl ?_
                    refine cs_X9_77 dX9_reads_175 (D_X9_peek hM (j := wEnd n Tx i) hn (by omega) rfl rfl) MH_0 rfl rfl (Nat.le_of_ble_eq_true rfl) ⟨(show 1 + 1 ≤ 5 - w + 6 by omega), by exact Nat.le_refl 0, by exact Nat.le_refl 0⟩ (z_ki ?_)
                    refine cs_X9_81 dX9_reads_178 (D_X9_isFigure (c := pe n Tx (wEnd n Tx i)) ⟨by omega, by omega⟩) rfl rfl (Nat.le_of_ble_eq_true rfl) ⟨(show 2 + 1 ≤ 5 - w + 6 by omega), by exact Nat.le_refl 0, by exact Nat.le_refl 0⟩ (z_ki ?_)
                    refine z_if_eq dX9_reads_181 (tgt := 192) rfl ⟨by split <;> omega, by split <;> omega⟩ (fun c34 => ?_) (fun c34 => ?_)
                    · skip
                      have hnd : ¬ isDg (pe n Tx (wEnd n Tx i)) := by omega
                      exact K true (wEnd n Tx i) (Q + 1) (max dp w) tm 1 (z_i (pe n Tx i)) (hW.trans (rdW_1 rfl hq hnd)) (Or.inl ⟨rfl, rfl, by omega, by omega, by omega, by omega⟩)
                    · skip
                      have hnd : isDg (pe n Tx (wEnd n Tx i)) := by omega
                      refine z_aload_n dX9_reads_184 rfl ?_
                      refine z_iconst dX9_reads_185 ?_
                      refine z_bipush dX9_reads_186 rfl ?_
                      have hwk := hq
                      refine cs_X9_115 dX9_reads_188 (D_X9_number hM (sz := 0) (at_ := 0) (j := wEnd n Tx i) hn (by omega) ht (lo := 1) (Or.inr rfl)) MH_0 rfl rfl (Nat.le_of_ble_eq_true rfl) ⟨(show 3 + 1 ≤ 5 - w + 6 by omega), by exact Nat.le_refl 0, by exact Nat.le_refl 0⟩ (fun rv h' hq => ?_)
                      obtain ⟨rfl, hq⟩ := hq
                      rcases hq with ⟨hq, rfl⟩ | ⟨hq, rfl⟩
                      · refine z_ks ?_
                        refine z_pop dX9_reads_191 rfl ?_
                        exact K true (wEnd n Tx i + nC n Tx (wEnd n Tx i)) (Q + 1) (max dp w) tm 1 (z_i (pe n Tx i)) (hW.trans (rdW_2 rfl hwk hnd hq)) (Or.inl ⟨rfl, rfl, by omega, by omega, by omega, by omega⟩)
                      · refine z_ks ?_
                        refine z_pop dX9_reads_191 rfl ?_
                        exact K false (wEnd n Tx i) (Q + 1) (max dp w) tm 0 (z_i (pe n Tx i)) (hW.trans (rdW_3 rfl hwk hnd hq)) (Or.inr ⟨rfl, rfl, by omega, by omega, by omega⟩)
                · refine z_ks ?_
                  refine z_pop dX9_reads_166 rfl ?_
                  refine z_aload_n dX9_reads_167 rfl ?_
                  refine gf_X9_85 dX9_reads_168 MH_0 rfl ?_
                  refine z_if_eq dX9_reads_171 (tgt := 192) rfl (by decide) (fun c35 => ?_) (fun c35 => ?_)
                  · skip
                    exact K false (i) (Q + 1) (max dp w) tm 0 (z_i (pe n Tx i)) (hW.trans (rdW_0 rfl hq)) (Or.inr ⟨rfl, rfl, by omega, by omega, by omega⟩)
                  · exact absurd c35 (by decide)
              · skip
                refine z_aload_n dX9_reads_57 rfl ?_
                refine z_aload_n dX9_reads_58 rfl ?_
                refine gf_X9_108 dX9_reads_59 MH_0 rfl ?_
                refine z_if_ne dX9_reads_62 (tgt := 71) rfl ⟨by omega, by omega⟩ (fun c36 => ?_) (fun c36 => ?_)
                · skip
                  refine z_iconst dX9_reads_71 ?_
                  refine z_goto dX9_reads_72 (tgt := 76) rfl ?_
                  have hlt8 := pe_lt (n := n) (t := Tx) (a := i) (by omega)
                  refine z_ieq (y := 1) (by omega) ?_
                  refine pf_X9_108 (by omega) dX9_reads_76 MH_0 (Nat.le_of_ble_eq_true rfl) ?_
                  refine z_heq MHu_0 ?_
                  refine z_aload_n dX9_reads_79 rfl ?_
                  refine z_dup dX9_reads_80 rfl ?_
                  refine gf_X9_67 dX9_reads_81 MH_0 rfl ?_
                  refine z_iconst dX9_reads_84 ?_
                  refine z_iadd dX9_reads_85 ?_
                  refine pf_X9_67 dX9_reads_86 MH_0 (Nat.le_of_ble_eq_true rfl) ?_
                  refine z_heq MHu_0 ?_
                  refine z_aload_n dX9_reads_89 rfl ?_
                  refine z_iload_n dX9_reads_90 rfl ?_
                  refine z_iconst dX9_reads_91 ?_
                  refine z_iadd dX9_reads_92 ?_
                  refine cs_X9_111 dX9_reads_93 (hRR f2 (by omega) (w + 1) (Q + 1) (max dp w) (i + 1) 1 (by omega) (by omega) (by omega) (by omega) (by omega)) MH_0 rfl rfl (Nat.le_of_ble_eq_true rfl) ⟨(show (5 - (w + 1) + 6) + 1 ≤ 5 - w + 6 by omega), by exact Nat.le_refl 0, by exact Nat.le_refl 0⟩ (fun rv h' hq => ?_)
                  obtain ⟨rfl, ok, j2, P2, d2, tl2, we2, hS, hB2, rfl⟩ := hq
                  have hG := rdO_G (n := n) (t := Tx) (rec := rdS n Tx f2) (w := w) (j := i) (P := Q) (d := dp) (tl := tm) (cl := 62) (lo := 0) (ti' := 1) (by omega) (by omega)
                  have b3 := pe_b ht j2
                  show z_w _ _ _ _ _ _ _ [] _ _ _
                  rcases hB2 with ⟨rfl, rfl, k1, k2, k3, k4⟩ | ⟨rfl, rfl, k2, k3, k4⟩
                  · skip
                    refine z_aload_n dX9_reads_96 rfl ?_
                    refine gf_X9_85 dX9_reads_97 MH_0 rfl ?_
                    refine z_if_eq dX9_reads_100 (tgt := 154) rfl (by decide) (fun c37 => ?_) (fun c37 => ?_)
                    · exact absurd c37 (by decide)
                    · skip
                      refine z_aload_n dX9_reads_103 rfl ?_
                      refine cs_X9_77 dX9_reads_104 (D_X9_peek hM (j := j2) hn (by omega) rfl rfl) MH_0 rfl rfl (Nat.le_of_ble_eq_true rfl) ⟨(show 1 + 1 ≤ 5 - w + 6 by omega), by exact Nat.le_refl 0, by exact Nat.le_refl 0⟩ (z_ki ?_)
                      refine z_iload_n dX9_reads_107 rfl ?_
                      refine z_bipush dX9_reads_108 rfl ?_
                      refine z_icmp_ne dX9_reads_110 (tgt := 118) rfl ⟨by omega, by omega⟩ (by decide) (fun c38 => ?_) (fun c38 => ?_)
                      · skip
                        refine z_bipush dX9_reads_118 rfl ?_
                        refine z_icmp_ne dX9_reads_120 (tgt := 154) rfl ⟨by omega, by omega⟩ (by decide) (fun c39 => ?_) (fun c39 => ?_)
                        · skip
                          refine z_aload_n dX9_reads_154 rfl ?_
                          refine z_iconst dX9_reads_155 ?_
                          refine pf_X9_85 (by omega) dX9_reads_156 MH_0 (Nat.le_of_ble_eq_true rfl) ?_
                          refine z_heq MHu_0 ?_
                          refine z_goto dX9_reads_159 (tgt := 192) rfl ?_
                          exact K false (j2) (P2) (d2) tl2 0 (z_i (pe n Tx i)) (hG.trans (rdG_c hS (by omega))) (Or.inr ⟨rfl, rfl, by omega, by omega, by omega⟩)
                        · skip
                          have hj2 := pe_lt (n := n) (t := Tx) (a := j2) (by omega)
                          have hnC := nC_n (n := n) (t := Tx) (a := j2 + 1) (by omega)
                          refine z_aload_n dX9_reads_123 rfl ?_
                          refine z_dup dX9_reads_124 rfl ?_
                          refine gf_X9_67 dX9_reads_125 MH_0 rfl ?_
                          refine z_iconst dX9_reads_128 ?_
                          refine z_iadd dX9_reads_129 ?_
                          refine pf_X9_67 dX9_reads_130 MH_0 (Nat.le_of_ble_eq_true rfl) ?_
                          refine z_heq MHu_0 ?_
                          refine z_aload_n dX9_reads_133 rfl ?_
                          refine z_iload_n dX9_reads_134 rfl ?_
                          refine z_bipush dX9_reads_135 rfl ?_
                          refine z_icmp_ne dX9_reads_137 (tgt := 144) rfl ⟨by omega, by omega⟩ (by decide) (fun c40 => ?_) (fun c40 => ?_)
                          · skip
                            refine z_iconst dX9_reads_144 ?_
                            refine z_bipush dX9_reads_145 rfl ?_
                            refine cs_X9_115 dX9_reads_147 (D_X9_number hM (sz := 0) (at_ := 0) (j := j2 + 1) hn (by omega) ht (lo := 0) (by omega)) MH_0 rfl rfl (Nat.le_of_ble_eq_true rfl) ⟨(show 3 + 1 ≤ 5 - w + 6 by omega), by exact Nat.le_refl 0, by exact Nat.le_refl 0⟩ (fun rv h' hq => ?_)
                            obtain ⟨rfl, hq⟩ := hq
                            rcases hq with ⟨hq, rfl⟩ | ⟨hq, rfl⟩
                            · refine z_ks ?_
                              refine z_pop dX9_reads_150 rfl ?_
                              refine z_goto dX9_reads_151 (tgt := 192) rfl ?_
                              exact K true (j2 + 1 + nC n Tx (j2 + 1)) (P2) (d2) tl2 1 (z_i (pe n Tx i)) (hG.trans (rdG_t hS (by omega) hq)) (Or.inl ⟨rfl, rfl, by omega, by omega, by omega, by omega⟩)
                            · refine z_ks ?_
                              refine z_pop dX9_reads_150 rfl ?_
                              refine z_goto dX9_reads_151 (tgt := 192) rfl ?_
                              exact K false (j2 + 1) (P2) (d2) tl2 0 (z_i (pe n Tx i)) (hG.trans (rdG_n hS (by omega) hq)) (Or.inr ⟨rfl, rfl, by omega, by omega, by omega⟩)
                          · skip
                            exfalso
                            omega
                      · skip
                        exfalso
                        omega
                  · skip
                    refine z_aload_n dX9_reads_96 rfl ?_
                    refine gf_X9_85 dX9_reads_97 MH_0 rfl ?_
                    refine z_if_eq dX9_reads_100 (tgt := 154) rfl (by decide) (fun c41 => ?_) (fun c41 => ?_)
                    · skip
                      refine z_aload_n dX9_reads_154 rfl ?_
                      refine z_iconst dX9_reads_155 ?_
                      refine pf_X9_85 (by omega) dX9_reads_156 MH_0 (Nat.le_of_ble_eq_true rfl) ?_
                      refine z_heq MHu_0 ?_
                      refine z_goto dX9_reads_159 (tgt := 192) rfl ?_
                      exact K false (j2) (P2) (d2) tl2 0 (z_i (pe n Tx i)) (hG.trans (rdG_f hS)) (Or.inr ⟨rfl, rfl, by omega, by omega, by omega⟩)
                    · exact absurd c41 (by decide)
                · skip
                  refine z_iload_n dX9_reads_65 rfl ?_
                  refine z_bipush dX9_reads_66 rfl ?_
                  refine z_icmp_ne dX9_reads_68 (tgt := 75) rfl ⟨by omega, by omega⟩ (by decide) (fun c42 => ?_) (fun c42 => ?_)
                  · skip
                    exfalso
                    omega
                  · skip
                    refine z_iconst dX9_reads_71 ?_
                    refine z_goto dX9_reads_72 (tgt := 76) rfl ?_
                    have hlt8 := pe_lt (n := n) (t := Tx) (a := i) (by omega)
                    refine z_ieq (y := 1) (by omega) ?_
                    refine pf_X9_108 (by omega) dX9_reads_76 MH_0 (Nat.le_of_ble_eq_true rfl) ?_
                    refine z_heq MHu_0 ?_
                    refine z_aload_n dX9_reads_79 rfl ?_
                    refine z_dup dX9_reads_80 rfl ?_
                    refine gf_X9_67 dX9_reads_81 MH_0 rfl ?_
                    refine z_iconst dX9_reads_84 ?_
                    refine z_iadd dX9_reads_85 ?_
                    refine pf_X9_67 dX9_reads_86 MH_0 (Nat.le_of_ble_eq_true rfl) ?_
                    refine z_heq MHu_0 ?_
                    refine z_aload_n dX9_reads_89 rfl ?_
                    refine z_iload_n dX9_reads_90 rfl ?_
                    refine z_iconst dX9_reads_91 ?_
                    refine z_iadd dX9_reads_92 ?_
                    refine cs_X9_111 dX9_reads_93 (hRR f2 (by omega) (w + 1) (Q + 1) (max dp w) (i + 1) 1 (by omega) (by omega) (by omega) (by omega) (by omega)) MH_0 rfl rfl (Nat.le_of_ble_eq_true rfl) ⟨(show (5 - (w + 1) + 6) + 1 ≤ 5 - w + 6 by omega), by exact Nat.le_refl 0, by exact Nat.le_refl 0⟩ (fun rv h' hq => ?_)
                    obtain ⟨rfl, ok, j2, P2, d2, tl2, we2, hS, hB2, rfl⟩ := hq
                    have hG := rdO_G (n := n) (t := Tx) (rec := rdS n Tx f2) (w := w) (j := i) (P := Q) (d := dp) (tl := tm) (cl := 62) (lo := 0) (ti' := 1) (by omega) (by omega)
                    have b3 := pe_b ht j2
                    show z_w _ _ _ _ _ _ _ [] _ _ _
                    rcases hB2 with ⟨rfl, rfl, k1, k2, k3, k4⟩ | ⟨rfl, rfl, k2, k3, k4⟩
                    · skip
                      refine z_aload_n dX9_reads_96 rfl ?_
                      refine gf_X9_85 dX9_reads_97 MH_0 rfl ?_
                      refine z_if_eq dX9_reads_100 (tgt := 154) rfl (by decide) (fun c43 => ?_) (fun c43 => ?_)
                      · exact absurd c43 (by decide)
                      · skip
                        refine z_aload_n dX9_reads_103 rfl ?_
                        refine cs_X9_77 dX9_reads_104 (D_X9_peek hM (j := j2) hn (by omega) rfl rfl) MH_0 rfl rfl (Nat.le_of_ble_eq_true rfl) ⟨(show 1 + 1 ≤ 5 - w + 6 by omega), by exact Nat.le_refl 0, by exact Nat.le_refl 0⟩ (z_ki ?_)
                        refine z_iload_n dX9_reads_107 rfl ?_
                        refine z_bipush dX9_reads_108 rfl ?_
                        refine z_icmp_ne dX9_reads_110 (tgt := 118) rfl ⟨by omega, by omega⟩ (by decide) (fun c44 => ?_) (fun c44 => ?_)
                        · skip
                          refine z_bipush dX9_reads_118 rfl ?_
                          refine z_icmp_ne dX9_reads_120 (tgt := 154) rfl ⟨by omega, by omega⟩ (by decide) (fun c45 => ?_) (fun c45 => ?_)
                          · skip
                            refine z_aload_n dX9_reads_154 rfl ?_
                            refine z_iconst dX9_reads_155 ?_
                            refine pf_X9_85 (by omega) dX9_reads_156 MH_0 (Nat.le_of_ble_eq_true rfl) ?_
                            refine z_heq MHu_0 ?_
                            refine z_goto dX9_reads_159 (tgt := 192) rfl ?_
                            exact K false (j2) (P2) (d2) tl2 0 (z_i (pe n Tx i)) (hG.trans (rdG_c hS (by omega))) (Or.inr ⟨rfl, rfl, by omega, by omega, by omega⟩)
                          · skip
                            have hj2 := pe_lt (n := n) (t := Tx) (a := j2) (by omega)
                            have hnC := nC_n (n := n) (t := Tx) (a := j2 + 1) (by omega)
                            refine z_aload_n dX9_reads_123 rfl ?_
                            refine z_dup dX9_reads_124 rfl ?_
                            refine gf_X9_67 dX9_reads_125 MH_0 rfl ?_
                            refine z_iconst dX9_reads_128 ?_
                            refine z_iadd dX9_reads_129 ?_
                            refine pf_X9_67 dX9_reads_130 MH_0 (Nat.le_of_ble_eq_true rfl) ?_
                            refine z_heq MHu_0 ?_
                            refine z_aload_n dX9_reads_133 rfl ?_
                            refine z_iload_n dX9_reads_134 rfl ?_
                            refine z_bipush dX9_reads_135 rfl ?_
                            refine z_icmp_ne dX9_reads_137 (tgt := 144) rfl ⟨by omega, by omega⟩ (by decide) (fun c46 => ?_) (fun c46 => ?_)
                            · skip
                              refine z_iconst dX9_reads_144 ?_
                              refine z_bipush dX9_reads_145 rfl ?_
                              refine cs_X9_115 dX9_reads_147 (D_X9_number hM (sz := 0) (at_ := 0) (j := j2 + 1) hn (by omega) ht (lo := 0) (by omega)) MH_0 rfl rfl (Nat.le_of_ble_eq_true rfl) ⟨(show 3 + 1 ≤ 5 - w + 6 by omega), by exact Nat.le_refl 0, by exact Nat.le_refl 0⟩ (fun rv h' hq => ?_)
                              obtain ⟨rfl, hq⟩ := hq
                              rcases hq with ⟨hq, rfl⟩ | ⟨hq, rfl⟩
                              · refine z_ks ?_
                                refine z_pop dX9_reads_150 rfl ?_
                                refine z_goto dX9_reads_151 (tgt := 192) rfl ?_
                                exact K true (j2 + 1 + nC n Tx (j2 + 1)) (P2) (d2) tl2 1 (z_i (pe n Tx i)) (hG.trans (rdG_t hS (by omega) hq)) (Or.inl ⟨rfl, rfl, by omega, by omega, by omega, by omega⟩)
                              · refine z_ks ?_
                                refine z_pop dX9_reads_150 rfl ?_
                                refine z_goto dX9_reads_151 (tgt := 192) rfl ?_
                                exact K false (j2 + 1) (P2) (d2) tl2 0 (z_i (pe n Tx i)) (hG.trans (rdG_n hS (by omega) hq)) (Or.inr ⟨rfl, rfl, by omega, by omega, by omega⟩)
                            · skip
                              exfalso
                              omega
                        · skip
                          exfalso
                          omega
                    · skip
                      refine z_aload_n dX9_reads_96 rfl ?_
                      refine gf_X9_85 dX9_reads_97 MH_0 rfl ?_
                      refine z_if_eq dX9_reads_100 (tgt := 154) rfl (by decide) (fun c47 => ?_) (fun c47 => ?_)
                      · skip
                        refine z_aload_n dX9_reads_154 rfl ?_
                        refine z_iconst dX9_reads_155 ?_
                        refine pf_X9_85 (by omega) dX9_reads_156 MH_0 (Nat.le_of_ble_eq_true rfl) ?_
                        refine z_heq MHu_0 ?_
                        refine z_goto dX9_reads_159 (tgt := 192) rfl ?_
                        exact K false (j2) (P2) (d2) tl2 0 (z_i (pe n Tx i)) (hG.trans (rdG_f hS)) (Or.inr ⟨rfl, rfl, by omega, by omega, by omega⟩)
                      · exact absurd c47 (by decide)
  exact L f f (Nat.le_refl _) j P d tl z_u hj hd htl hf ⟨Nat.le_refl _, Nat.le_refl _⟩ rfl
theorem RR_all {g : z_G} {h0 : z_H} {A : Nat → Nat} (hM : mD A) {Rf Nw Th Tp Tx Kd Ia It Lk Ho Sz Im Mv : Nat → Int} {kp ln lf md mn hi ha is_ ca : Int} {n : Nat} (hn : n ≤ 250) (ht : ∀ q, q < n → 0 ≤ Tx q ∧ Tx q ≤ 255) : ∀ f, RR g h0 A Rf Nw Th Tp Tx Kd Ia It Lk Ho Sz Im Mv n kp ln lf md mn hi ha is_ ca f := by
  have K : ∀ f, ∀ f', f' < f → RR g h0 A Rf Nw Th Tp Tx Kd Ia It Lk Ho Sz Im Mv n kp ln lf md mn hi ha is_ ca f' := by
    intro f
    induction f with
    | zero => intro f' h; omega
    | succ f ih =>
      intro f' h
      exact D_X9_reads hM hn ht (fun f'' h'' => ih f'' (by omega))
  intro f
  exact K (f + 1) f (Nat.lt_succ_self f)
