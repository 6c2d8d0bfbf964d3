/-! the reference: parts are worked -/
theorem oneP_sz {n : Nat} {t fs fp fn fe : z_row} {sg : sgT} (hm : sgM n sg) (hsg : ∀ p q s e, sg p q s e → q + s ≤ e + p) {p q s e : Nat} (h : oneP n t fs fp fn fe sg p q s e) : q + s ≤ e + p := by
  have hlt := oneP_lt hm h
  obtain ⟨h1, h2, ⟨h3, h4, h5, h6⟩ | ⟨h4, c, h5, h6, h7, h8, h9⟩⟩ := h
  · omega
  · have := hsg _ _ _ _ h5
    omega
theorem seqP_sz {n : Nat} {t : z_row} {one : sgT} (ho : ∀ p q s e, one p q s e → q + s ≤ e + p) : ∀ f p q s e, seqP n t one f p q s e → q + s ≤ e + p := by
  intro f
  induction f with
  | zero => intro p q s e h; exact h.elim
  | succ f ih =>
    intro p q s e h
    rcases h with ⟨h, -⟩ | ⟨p', e', h1, h2, h3⟩
    · exact ho _ _ _ _ h
    · have a1 := ho _ _ _ _ h1
      have a2 := ih _ _ _ _ h3
      omega
theorem sgP_sz {n : Nat} {t fs fp fn fe : z_row} : ∀ d p q s e, sgP n t fs fp fn fe d p q s e → q + s ≤ e + p := by
  intro d
  induction d with
  | zero => intro p q s e h; exact h.elim
  | succ d ih =>
    intro p q s e h
    exact seqP_sz (fun _ _ _ _ h => oneP_sz (sgP_lt d) ih h) _ _ _ _ _ h
set_option maxHeartbeats 8000000 in
set_option maxRecDepth 100000 in
theorem D_X9_works {g : z_G} {h0 : z_H} {A : Nat → Nat} (hM : mD A) {Rf Nw Th Tp Tx Lk Ho Sz Im Mv : z_row} {n : Nat} {kp ln pa de ti ca : Int} {ls lp ln9 le : z_row} (hn : n ≤ 250) (ht : ∀ q, q < n → 0 ≤ Tx q ∧ Tx q ≤ 255) {d : Nat} (hWW : WW g h0 A Rf Nw Th Tp Tx Lk Ho Sz Im Mv n kp ln pa de ti ca ls lp ln9 le d) : WW g h0 A Rf Nw Th Tp Tx Lk Ho Sz Im Mv n kp ln pa de ti ca ls lp ln9 le (d + 1) := by
  intro w p e9 s e2 q hwd hsg hE hO hh
  obtain ⟨f, fp, ft, z, l, m, hi, pl, wi⟩ := q
  obtain rfl : hi = 0 := hh
  refine z_D.of (by decide +kernel) (Nat.le_of_ble_eq_true rfl) (fun X F => ?_)
  show z_w g X cX9_works RX9 (3 * (d + 1) + 4, 0, 0) 0 [z_r (A 0), z_i (w : Int), z_u, z_u, z_u, z_u, z_u, z_u, z_u, z_u, z_u] [] (MH h0 A Rf Nw Th Tp Tx f fp ft Lk Ho Sz Im Mv kp ln (n : Int) (s : Int) 1 pa de ti l m z 0 pl wi ca) 0 0
  have L : ∀ (fu rem pp s1 : Nat) (f2 fp2 ft2 : z_row) (z2 l2 m2 pl2 wi2 : Int) (y3 y4 y5 y6 y7 y8 y9 y10 : z_V), e9 - pp < rem → rem ≤ fu → s1 ≤ n → wkO (f2, fp2, ft2, z2, l2, m2, 0, pl2, wi2) → (∃ fx, seqP n Tx (oneP n Tx ls lp ln9 le (sgP n Tx ls lp ln9 le d)) fx pp e9 s1 e2) → wkQ le (wkP ls lp ln9 le (wkD ls lp ln9 le d) w) 251 p e9 (f, fp, ft, z, l, m, 0, pl, wi) = wkQ le (wkP ls lp ln9 le (wkD ls lp ln9 le d) w) rem pp e9 (f2, fp2, ft2, z2, l2, m2, 0, pl2, wi2) → z_w g X cX9_works RX9 (3 * (d + 1) + 4, 0, 0) 2 [z_r (A 0), z_i (w : Int), z_i 1, y3, y4, y5, y6, y7, y8, y9, y10] [] (MH h0 A Rf Nw Th Tp Tx f2 fp2 ft2 Lk Ho Sz Im Mv kp ln (n : Int) (s1 : Int) 1 pa de ti l2 m2 z2 0 pl2 wi2 ca) 0 0 := by
    intro fu
    induction fu with
    | zero => intro rem pp s1 f2 fp2 ft2 z2 l2 m2 pl2 wi2 y3 y4 y5 y6 y7 y8 y9 y10 a1 a2; exact absurd a1 (by omega)
    | succ fu ih =>
      intro rem pp s1 f2 fp2 ft2 z2 l2 m2 pl2 wi2 y3 y4 y5 y6 y7 y8 y9 y10 a1 a2 hs1 hO2 hsq q3
      obtain ⟨rem', rfl⟩ : ∃ y, rem = y + 1 := ⟨rem - 1, by omega⟩
      have hone : ∃ nx e1, oneP n Tx ls lp ln9 le (sgP n Tx ls lp ln9 le d) pp nx s1 e1 ∧ pp < nx ∧ s1 < e1 ∧ e1 ≤ n ∧ nx ≤ e9 ∧ ((nx = e9 ∧ e1 = e2 ∧ pe n Tx e1 ≠ 44) ∨ (nx < e9 ∧ pe n Tx e1 = 44 ∧ ∃ fx, seqP n Tx (oneP n Tx ls lp ln9 le (sgP n Tx ls lp ln9 le d)) fx nx e9 (e1 + 1) e2)) := by
        obtain ⟨fx, hsq⟩ := hsq
        cases fx with
        | zero => exact hsq.elim
        | succ fx =>
          rcases hsq with ⟨g1, g2⟩ | ⟨p', e', g1, g2, g3⟩
          · have g4 := oneP_lt (sgP_lt d) g1
            exact ⟨e9, e2, g1, g4.1, g4.2, hE, Nat.le_refl _, Or.inl ⟨rfl, rfl, g2⟩⟩
          · have g4 := oneP_lt (sgP_lt d) g1
            have g5 := seqP_lt (fun _ _ _ _ h => oneP_lt (sgP_lt d) h) _ _ _ _ _ g3
            exact ⟨p', e', g1, g4.1, g4.2, by omega, by omega, Or.inr ⟨g5.1, g2, fx, g3⟩⟩
      obtain ⟨nx, e1, hone, hpn, hse, he1, hnx, hnext⟩ := hone
      obtain ⟨hb1, hb2, hle, hkk⟩ := oneP_c hn hone
      have hlt : pp < e9 := by omega
      have hle2 : (le pp).toNat = nx := by omega
      have K : ∀ (at3 : Nat) (f3 fp3 ft3 : z_row) (z3 l3 m3 hi3 pl3 wi3 : Int) (x3 x4 x5 x6 x7 x8 x9 x10 : z_V), (wkP ls lp ln9 le (wkD ls lp ln9 le d) w) pp (f2, fp2, ft2, z2, l2, m2, 0, pl2, wi2) = (f3, fp3, ft3, z3, l3, m3, hi3, pl3, wi3) → wkO (f3, fp3, ft3, z3, l3, m3, hi3, pl3, wi3) → at3 ≤ n → (hi3 = 0 → at3 = e1) → z_w g X cX9_works RX9 (3 * (d + 1) + 4, 0, 0) 210 [z_r (A 0), z_i (w : Int), z_i 1, x3, x4, x5, x6, x7, x8, x9, x10] [] (MH h0 A Rf Nw Th Tp Tx f3 fp3 ft3 Lk Ho Sz Im Mv kp ln (n : Int) (at3 : Int) 1 pa de ti l3 m3 z3 hi3 pl3 wi3 ca) 0 0 := by
        intro at3 f3 fp3 ft3 z3 l3 m3 hi3 pl3 wi3 x3 x4 x5 x6 x7 x8 x9 x10 hP hO3 hat he3
        have hi3b : 0 ≤ hi3 ∧ hi3 ≤ 7 := hO3.2.2.2.1
        have hq : wkQ le (wkP ls lp ln9 le (wkD ls lp ln9 le d) w) 251 p e9 (f, fp, ft, z, l, m, 0, pl, wi) = wkQ le (wkP ls lp ln9 le (wkD ls lp ln9 le d) w) rem' nx e9 (f3, fp3, ft3, z3, l3, m3, hi3, pl3, wi3) := q3.trans ((if_pos ⟨hlt, rfl⟩).trans (by rw [hle2, hP]))
        have b1 := pe_b ht at3
        refine z_aload_n dX9_works_210 rfl ?_
        refine gf_X9_132 dX9_works_211 MH_0 rfl ?_
        refine z_if_ne dX9_works_214 (tgt := 230) rfl ⟨by omega, by omega⟩ (fun c1 => ?_) (fun c1 => ?_)
        · skip
          have hq2 : wkD ls lp ln9 le (d + 1) w p e9 (f, fp, ft, z, l, m, 0, pl, wi) = (f3, fp3, ft3, z3, l3, m3, hi3, pl3, wi3) := hq.trans (wkQ_h _ _ _ _ (show ¬ hi3 = 0 by omega))
          refine z_iconst dX9_works_230 ?_
          refine z_istore_n dX9_works_231 (Nat.le_of_ble_eq_true rfl) rfl ?_
          refine z_aload_n dX9_works_232 rfl ?_
          refine z_dup dX9_works_233 rfl ?_
          refine gf_X9_67 dX9_works_234 MH_0 rfl ?_
          refine z_iload_n dX9_works_237 rfl ?_
          refine z_if_eq dX9_works_238 (tgt := 245) rfl (by decide) (fun c2 => ?_) (fun c2 => ?_)
          · skip
            refine z_iconst dX9_works_245 ?_
            refine z_iadd dX9_works_246 ?_
            refine pf_X9_67 dX9_works_247 MH_0 (Nat.le_of_ble_eq_true rfl) ?_
            refine z_heq MHu_0 ?_
            refine z_goto dX9_works_250 (tgt := 2) rfl ?_
            refine z_iload_n dX9_works_2 rfl ?_
            refine z_if_eq dX9_works_3 (tgt := 253) rfl (by decide) (fun c3 => ?_) (fun c3 => ?_)
            · skip
              exact z_vret F dX9_works_253 rfl ⟨Nat.le_refl _, Nat.le_refl _⟩ ⟨rfl, at3, hat, fun q => absurd (by rw [hq2] at q; exact q) (show ¬ hi3 = 0 by omega), by rw [Int.add_zero, hq2] <;> rfl⟩
            · exact absurd c3 (by decide)
          · exact absurd c2 (by decide)
        · skip
          obtain rfl : hi3 = 0 := by omega
          obtain rfl : at3 = e1 := he3 rfl
          refine z_aload_n dX9_works_217 rfl ?_
          refine cs_X9_77 dX9_works_218 (D_X9_peek hM (j := at3) hn (by omega) rfl rfl) MH_0 rfl rfl (Nat.le_of_ble_eq_true rfl) ⟨(show 1 + 1 ≤ 3 * (d + 1) + 4 by omega), by exact Nat.le_refl 0, by exact Nat.le_refl 0⟩ (z_ki ?_)
          refine z_bipush dX9_works_221 rfl ?_
          refine z_icmp_ne dX9_works_223 (tgt := 230) rfl ⟨by omega, by omega⟩ (by decide) (fun c4 => ?_) (fun c4 => ?_)
          · skip
            obtain ⟨n1, n2, n3⟩ := hnext.resolve_right (fun q => c4 q.2.1)
            have hq2 : wkD ls lp ln9 le (d + 1) w p e9 (f, fp, ft, z, l, m, 0, pl, wi) = (f3, fp3, ft3, z3, l3, m3, 0, pl3, wi3) := hq.trans (wkQ_e _ _ _ _ (show ¬ nx < e9 by omega))
            refine z_iconst dX9_works_230 ?_
            refine z_istore_n dX9_works_231 (Nat.le_of_ble_eq_true rfl) rfl ?_
            refine z_aload_n dX9_works_232 rfl ?_
            refine z_dup dX9_works_233 rfl ?_
            refine gf_X9_67 dX9_works_234 MH_0 rfl ?_
            refine z_iload_n dX9_works_237 rfl ?_
            refine z_if_eq dX9_works_238 (tgt := 245) rfl (by decide) (fun c5 => ?_) (fun c5 => ?_)
            · skip
              refine z_iconst dX9_works_245 ?_
              refine z_iadd dX9_works_246 ?_
              refine pf_X9_67 dX9_works_247 MH_0 (Nat.le_of_ble_eq_true rfl) ?_
              refine z_heq MHu_0 ?_
              refine z_goto dX9_works_250 (tgt := 2) rfl ?_
              refine z_iload_n dX9_works_2 rfl ?_
              refine z_if_eq dX9_works_3 (tgt := 253) rfl (by decide) (fun c6 => ?_) (fun c6 => ?_)
              · skip
                exact z_vret F dX9_works_253 rfl ⟨Nat.le_refl _, Nat.le_refl _⟩ ⟨rfl, at3, hat, fun _ => n2, by rw [Int.add_zero, hq2] <;> rfl⟩
              · exact absurd c6 (by decide)
            · exact absurd c5 (by decide)
          · skip
            obtain ⟨n1, n2, n3⟩ := hnext.resolve_left (fun q => q.2.2 c4)
            have hal := pe_lt (n := n) (t := Tx) (a := at3) (by omega)
            refine z_iconst dX9_works_226 ?_
            refine z_goto dX9_works_227 (tgt := 231) rfl ?_
            refine z_istore_n dX9_works_231 (Nat.le_of_ble_eq_true rfl) rfl ?_
            refine z_aload_n dX9_works_232 rfl ?_
            refine z_dup dX9_works_233 rfl ?_
            refine gf_X9_67 dX9_works_234 MH_0 rfl ?_
            refine z_iload_n dX9_works_237 rfl ?_
            refine z_if_eq dX9_works_238 (tgt := 245) rfl (by decide) (fun c7 => ?_) (fun c7 => ?_)
            · exact absurd c7 (by decide)
            · skip
              refine z_iconst dX9_works_241 ?_
              refine z_goto dX9_works_242 (tgt := 246) rfl ?_
              refine z_iadd dX9_works_246 ?_
              refine pf_X9_67 dX9_works_247 MH_0 (Nat.le_of_ble_eq_true rfl) ?_
              refine z_heq MHu_0 ?_
              refine z_goto dX9_works_250 (tgt := 2) rfl ?_
              exact ih rem' nx (at3 + 1) f3 fp3 ft3 z3 l3 m3 pl3 wi3 _ _ _ _ _ _ _ _ (by omega) (by omega) (by omega) hO3 n3 hq
      have bs := pe_b ht s1
      have hone0 := hone
      obtain ⟨hlp, hlq, ⟨o3, o4, o5, o6⟩ | ⟨o4, c, o5, o6, o7, o8, o9⟩⟩ := hone
      · skip
        have hil : isLt (pe n Tx s1) := wE_let n Tx (n - s1) s1 s1 (Nat.le_refl _) (kO_lt (t := Tx) (show kOk (kO Tx s1 (wEnd n Tx s1)) by rw [o5]; exact o4))
        obtain ⟨N, hN⟩ : ∃ N : Nat, ln9 pp = (N : Int) := ⟨(ln9 pp).toNat, by omega⟩
        have hwn : wEnd n Tx s1 ≤ n := wE_n n Tx (n - s1) s1 hs1
        have b4 := pe_b ht (wEnd n Tx s1)
        refine z_iload_n dX9_works_2 rfl ?_
        refine z_if_eq dX9_works_3 (tgt := 253) rfl (by decide) (fun c8 => ?_) (fun c8 => ?_)
        · exact absurd c8 (by decide)
        · skip
          refine z_aload_n dX9_works_6 rfl ?_
          refine gf_X9_132 dX9_works_7 MH_0 rfl ?_
          refine z_if_ne dX9_works_10 (tgt := 253) rfl (by decide) (fun c9 => ?_) (fun c9 => ?_)
          · exact absurd c9 (by decide)
          · skip
            refine z_aload_n dX9_works_13 rfl ?_
            refine gf_X9_67 dX9_works_14 MH_0 rfl ?_
            refine z_istore_n dX9_works_17 (Nat.le_of_ble_eq_true rfl) rfl ?_
            refine z_aload_n dX9_works_18 rfl ?_
            refine cs_X9_77 dX9_works_19 (D_X9_peek hM (j := s1) hn (by omega) rfl rfl) MH_0 rfl rfl (Nat.le_of_ble_eq_true rfl) ⟨(show 1 + 1 ≤ 3 * (d + 1) + 4 by omega), by exact Nat.le_refl 0, by exact Nat.le_refl 0⟩ (z_ki ?_)
            refine z_istore dX9_works_22 (Nat.le_of_ble_eq_true rfl) rfl ?_
            refine z_iload dX9_works_24 rfl ?_
            refine z_bipush dX9_works_26 rfl ?_
            refine z_icmp_eq dX9_works_28 (tgt := 38) rfl ⟨by omega, by omega⟩ (by decide) (fun c10 => ?_) (fun c10 => ?_)
            · skip
              exfalso
              omega
            · skip
              refine z_iload dX9_works_31 rfl ?_
              refine z_bipush dX9_works_33 rfl ?_
              refine z_icmp_ne dX9_works_35 (tgt := 171) rfl ⟨by omega, by omega⟩ (by decide) (fun c11 => ?_) (fun c11 => ?_)
              · skip
                refine z_aload_n dX9_works_171 rfl ?_
                refine cs_X9_118 dX9_works_172 (D_X9_word hM (j := s1) hn (by omega) ht) MH_0 rfl rfl (Nat.le_of_ble_eq_true rfl) ⟨(show 3 + 1 ≤ 3 * (d + 1) + 4 by omega), by exact Nat.le_refl 0, by exact Nat.le_refl 0⟩ (fun rv h' hq => ?_)
                obtain ⟨rfl, hq⟩ := hq
                obtain ⟨hq, rfl⟩ := hq.resolve_right (fun q => by have := o4.1; have := q.1; omega)
                refine z_ks ?_
                refine z_ieq (y := ls pp) o5 ?_
                refine z_istore dX9_works_175 (Nat.le_of_ble_eq_true rfl) rfl ?_
                refine z_aload_n dX9_works_177 rfl ?_
                refine cs_X9_77 dX9_works_178 (D_X9_peek hM (j := wEnd n Tx s1) hn (by omega) rfl rfl) MH_0 rfl rfl (Nat.le_of_ble_eq_true rfl) ⟨(show 1 + 1 ≤ 3 * (d + 1) + 4 by omega), by exact Nat.le_refl 0, by exact Nat.le_refl 0⟩ (z_ki ?_)
                refine cs_X9_81 dX9_works_181 (D_X9_isFigure (c := pe n Tx (wEnd n Tx s1)) ⟨by omega, by omega⟩) rfl rfl (Nat.le_of_ble_eq_true rfl) ⟨(show 2 + 1 ≤ 3 * (d + 1) + 4 by omega), by exact Nat.le_refl 0, by exact Nat.le_refl 0⟩ (z_ki ?_)
                refine z_if_eq dX9_works_184 (tgt := 197) rfl ⟨by split <;> omega, by split <;> omega⟩ (fun c12 => ?_) (fun c12 => ?_)
                · skip
                  have hnd : ¬ isDg (pe n Tx (wEnd n Tx s1)) := by omega
                  rw [if_neg hnd] at o6
                  refine z_iconst dX9_works_197 ?_
                  refine z_ieq (y := (N : Int)) (by rw [← hN, o6.2]) ?_
                  refine z_istore dX9_works_198 (Nat.le_of_ble_eq_true rfl) rfl ?_
                  refine z_aload_n dX9_works_200 rfl ?_
                  refine z_iload dX9_works_201 rfl ?_
                  refine z_iload dX9_works_203 rfl ?_
                  refine z_iload_n dX9_works_205 rfl ?_
                  refine z_ieq (y := lp pp) hlp.symm ?_
                  refine z_iload_n dX9_works_206 rfl ?_
                  refine cs_X9_173 dX9_works_207 (D_X9_stitches hM hO2 (kd := ls pp) (a := lp pp) (w := (w : Int)) o4 (N := N) (by omega)) MH_0 rfl rfl (Nat.le_of_ble_eq_true rfl) ⟨(show 2 + 1 ≤ 3 * (d + 1) + 4 by omega), by exact Nat.le_refl 0, by exact Nat.le_refl 0⟩ (z_kv ?_)
                  obtain ⟨B, hB⟩ : ∃ B, B = wkW (ls pp) (lp pp) (w : Int) N (f2, fp2, ft2, z2, l2, m2, 0, pl2, wi2) := ⟨_, rfl⟩
                  have hBO : wkO B := by rw [hB]; exact wkW_O o4 hb1 (by omega) _ _ hO2
                  have hBP : (wkP ls lp ln9 le (wkD ls lp ln9 le d) w) pp (f2, fp2, ft2, z2, l2, m2, 0, pl2, wi2) = B := by rw [hB, wkP_w o4, hN]; rfl
                  refine z_heq (congrArg _ hB.symm) ?_
                  obtain ⟨f3, fp3, ft3, z3, l3, m3, hi3, pl3, wi3⟩ := B
                  exact K (wEnd n Tx s1) f3 fp3 ft3 z3 l3 m3 hi3 pl3 wi3 _ _ _ _ _ _ _ _ hBP hBO (by omega) (fun _ => by omega)
                · skip
                  have hnd : isDg (pe n Tx (wEnd n Tx s1)) := by omega
                  rw [if_pos hnd] at o6
                  refine z_aload_n dX9_works_187 rfl ?_
                  refine z_iconst dX9_works_188 ?_
                  refine z_bipush dX9_works_189 rfl ?_
                  refine cs_X9_115 dX9_works_191 (D_X9_number hM (sz := 0) (at_ := 0) (j := wEnd n Tx s1) hn (by omega) ht (lo := 1) (Or.inr rfl)) MH_0 rfl rfl (Nat.le_of_ble_eq_true rfl) ⟨(show 3 + 1 ≤ 3 * (d + 1) + 4 by omega), by exact Nat.le_refl 0, by exact Nat.le_refl 0⟩ (fun rv h' hq => ?_)
                  obtain ⟨rfl, hq⟩ := hq
                  obtain ⟨hq, rfl⟩ := hq.resolve_right (fun q => q.1 o6.1)
                  refine z_ks ?_
                  refine z_ieq (y := (N : Int)) (by rw [← hN, o6.2.2]) ?_
                  refine z_goto dX9_works_194 (tgt := 198) rfl ?_
                  refine z_istore dX9_works_198 (Nat.le_of_ble_eq_true rfl) rfl ?_
                  refine z_aload_n dX9_works_200 rfl ?_
                  refine z_iload dX9_works_201 rfl ?_
                  refine z_iload dX9_works_203 rfl ?_
                  refine z_iload_n dX9_works_205 rfl ?_
                  refine z_ieq (y := lp pp) hlp.symm ?_
                  refine z_iload_n dX9_works_206 rfl ?_
                  refine cs_X9_173 dX9_works_207 (D_X9_stitches hM hO2 (kd := ls pp) (a := lp pp) (w := (w : Int)) o4 (N := N) (by omega)) MH_0 rfl rfl (Nat.le_of_ble_eq_true rfl) ⟨(show 2 + 1 ≤ 3 * (d + 1) + 4 by omega), by exact Nat.le_refl 0, by exact Nat.le_refl 0⟩ (z_kv ?_)
                  obtain ⟨B, hB⟩ : ∃ B, B = wkW (ls pp) (lp pp) (w : Int) N (f2, fp2, ft2, z2, l2, m2, 0, pl2, wi2) := ⟨_, rfl⟩
                  have hBO : wkO B := by rw [hB]; exact wkW_O o4 hb1 (by omega) _ _ hO2
                  have hBP : (wkP ls lp ln9 le (wkD ls lp ln9 le d) w) pp (f2, fp2, ft2, z2, l2, m2, 0, pl2, wi2) = B := by rw [hB, wkP_w o4, hN]; rfl
                  refine z_heq (congrArg _ hB.symm) ?_
                  obtain ⟨f3, fp3, ft3, z3, l3, m3, hi3, pl3, wi3⟩ := B
                  exact K (wEnd n Tx s1 + nC n Tx (wEnd n Tx s1)) f3 fp3 ft3 z3 l3 m3 hi3 pl3 wi3 _ _ _ _ _ _ _ _ hBP hBO (by omega) (fun _ => by omega)
              · skip
                exfalso
                omega
      · skip
        have hd0 : 0 < d := by
          cases d with
          | zero => exact o5.elim
          | succ d => exact Nat.succ_pos d
        have hc1 : c < n := pe_lt (n := n) (t := Tx) (a := c) (by rw [o6]; split <;> omega)
        have hcn := nC_n (n := n) (t := Tx) (a := c + 1) (by omega)
        have hend : eN n Tx (s1 + 1) 0 = c := sgP_eN o5 (by rw [o6]; split <;> omega)
        have hs2 : s1 < n := by omega
        have hno : nOk n Tx 0 (c + 1) := ⟨o7.1, by have h7 := o7.2.1; split at h7 <;> omega, o7.2.2⟩
        obtain ⟨N, hN⟩ : ∃ N : Nat, ln9 pp = (N : Int) := ⟨(ln9 pp).toNat, by omega⟩
        rcases o4 with ⟨o4, o4c⟩ | ⟨o4, o4c⟩
        · skip
          refine z_iload_n dX9_works_2 rfl ?_
          refine z_if_eq dX9_works_3 (tgt := 253) rfl (by decide) (fun c13 => ?_) (fun c13 => ?_)
          · exact absurd c13 (by decide)
          · skip
            refine z_aload_n dX9_works_6 rfl ?_
            refine gf_X9_132 dX9_works_7 MH_0 rfl ?_
            refine z_if_ne dX9_works_10 (tgt := 253) rfl (by decide) (fun c14 => ?_) (fun c14 => ?_)
            · exact absurd c14 (by decide)
            · skip
              refine z_aload_n dX9_works_13 rfl ?_
              refine gf_X9_67 dX9_works_14 MH_0 rfl ?_
              refine z_istore_n dX9_works_17 (Nat.le_of_ble_eq_true rfl) rfl ?_
              refine z_aload_n dX9_works_18 rfl ?_
              refine cs_X9_77 dX9_works_19 (D_X9_peek hM (j := s1) hn (by omega) rfl rfl) MH_0 rfl rfl (Nat.le_of_ble_eq_true rfl) ⟨(show 1 + 1 ≤ 3 * (d + 1) + 4 by omega), by exact Nat.le_refl 0, by exact Nat.le_refl 0⟩ (z_ki ?_)
              refine z_istore dX9_works_22 (Nat.le_of_ble_eq_true rfl) rfl ?_
              refine z_iload dX9_works_24 rfl ?_
              refine z_bipush dX9_works_26 rfl ?_
              refine z_icmp_eq dX9_works_28 (tgt := 38) rfl ⟨by omega, by omega⟩ (by decide) (fun c15 => ?_) (fun c15 => ?_)
              · skip
                refine z_aload_n dX9_works_38 rfl ?_
                refine gf_X9_67 dX9_works_39 MH_0 rfl ?_
                refine z_iconst dX9_works_42 ?_
                refine z_iadd dX9_works_43 ?_
                refine z_istore dX9_works_44 (Nat.le_of_ble_eq_true rfl) rfl ?_
                refine z_aload_n dX9_works_46 rfl ?_
                refine z_iload dX9_works_47 rfl ?_
                refine cs_X9_163 dX9_works_49 (D_X9_end hM (j := s1 + 1) hn (by omega) ht) MH_0 rfl rfl (Nat.le_of_ble_eq_true rfl) ⟨(show 1 + 1 ≤ 3 * (d + 1) + 4 by omega), by exact Nat.le_refl 0, by exact Nat.le_refl 0⟩ (z_ki ?_)
                refine z_ieq (y := (c : Int)) (by rw [hend]) ?_
                refine z_istore dX9_works_52 (Nat.le_of_ble_eq_true rfl) rfl ?_
                refine z_aload_n dX9_works_54 rfl ?_
                refine z_iload dX9_works_55 rfl ?_
                refine z_iconst dX9_works_57 ?_
                refine z_iadd dX9_works_58 ?_
                refine pf_X9_67 dX9_works_59 MH_0 (Nat.le_of_ble_eq_true rfl) ?_
                refine z_heq MHu_0 ?_
                refine z_aload_n dX9_works_62 rfl ?_
                refine z_iconst dX9_works_63 ?_
                refine z_bipush dX9_works_64 rfl ?_
                refine cs_X9_115 dX9_works_66 (D_X9_number hM (sz := 0) (at_ := 0) (j := c + 1) hn (by omega) ht (lo := 0) (Or.inl rfl)) MH_0 rfl rfl (Nat.le_of_ble_eq_true rfl) ⟨(show 3 + 1 ≤ 3 * (d + 1) + 4 by omega), by exact Nat.le_refl 0, by exact Nat.le_refl 0⟩ (fun rv h' hq => ?_)
                obtain ⟨rfl, hq⟩ := hq
                obtain ⟨hq, rfl⟩ := hq.resolve_right (fun q => q.1 hno)
                refine z_ks ?_
                refine z_ieq (y := (N : Int)) (by rw [← hN, o9]) ?_
                refine z_heq (h' := (MH h0 A Rf Nw Th Tp Tx f2 fp2 ft2 Lk Ho Sz Im Mv kp ln (n : Int) (e1 : Int) 1 pa de ti l2 m2 z2 0 pl2 wi2 ca)) (by rw [← o8]) ?_
                refine z_istore dX9_works_69 (Nat.le_of_ble_eq_true rfl) rfl ?_
                refine z_aload_n dX9_works_71 rfl ?_
                refine gf_X9_67 dX9_works_72 MH_0 rfl ?_
                refine z_istore dX9_works_75 (Nat.le_of_ble_eq_true rfl) rfl ?_
                refine z_iload dX9_works_77 rfl ?_
                refine z_bipush dX9_works_79 rfl ?_
                refine z_icmp_ne dX9_works_81 (tgt := 138) rfl ⟨by omega, by omega⟩ (by decide) (fun c16 => ?_) (fun c16 => ?_)
                · skip
                  exfalso
                  omega
                · skip
                  refine z_iconst dX9_works_84 ?_
                  refine z_istore dX9_works_85 (Nat.le_of_ble_eq_true rfl) rfl ?_
                  refine z_iconst dX9_works_87 ?_
                  refine z_istore dX9_works_88 (Nat.le_of_ble_eq_true rfl) rfl ?_
                  have L5 : ∀ (fu : Nat) (r rm4 i4 : Nat) (f4 fp4 ft4 : z_row) (z4 l4 m4 pl4 wi4 ah : Int) (q1 : r + rm4 = N) (qi : i4 ≤ n) (hO4 : wkO (f4, fp4, ft4, z4, l4, m4, 0, pl4, wi4)) (qa : z4 ≠ ah ∧ z_in ah) (q4 : wkM (wkD ls lp ln9 le d (w + 1) (pp + 1) nx) (lp pp) w N 1 (f2, fp2, ft2, z2, l2, m2, 0, pl2, wi2) = wkM (wkD ls lp ln9 le d (w + 1) (pp + 1) nx) (lp pp) w rm4 ((r : Int) + 1) (f4, fp4, ft4, z4, l4, m4, 0, pl4, wi4)), rm4 < fu → z_w g X cX9_works RX9 (3 * (d + 1) + 4, 0, 0) 90 [z_r (A 0), z_i (w : Int), z_i 1, z_i (s1 : Int), z_i (pe n Tx s1), z_i ((s1 : Int) + 1), z_i (c : Int), z_i (N : Int), z_i (e1 : Int), z_i ah, z_i ((r : Int) + 1)] [] (MH h0 A Rf Nw Th Tp Tx f4 fp4 ft4 Lk Ho Sz Im Mv kp ln (n : Int) (i4 : Int) 1 pa de ti l4 m4 z4 0 pl4 wi4 ca) 0 0 := by
                    intro fu
                    induction fu with
                    | zero => intro r rm4 i4 f4 fp4 ft4 z4 l4 m4 pl4 wi4 ah q1 qi hO4 qa q4 hm; exact absurd hm (Nat.not_lt_zero _)
                    | succ fu ih =>
                      intro r rm4 i4 f4 fp4 ft4 z4 l4 m4 pl4 wi4 ah q1 qi hO4 qa q4 hm
                      refine z_iload dX9_works_90 rfl ?_
                      refine z_iload dX9_works_92 rfl ?_
                      refine z_icmp_gt dX9_works_94 (tgt := 135) rfl ⟨by omega, by omega⟩ ⟨by omega, by omega⟩ (fun c17 => ?_) (fun c17 => ?_)
                      · skip
                        obtain rfl : rm4 = 0 := by omega
                        have hx4 := q4
                        refine z_goto dX9_works_135 (tgt := 148) rfl ?_
                        refine z_aload_n dX9_works_148 rfl ?_
                        refine z_aload_n dX9_works_149 rfl ?_
                        refine gf_X9_132 dX9_works_150 MH_0 rfl ?_
                        refine z_if_ne dX9_works_153 (tgt := 161) rfl ⟨by omega, by omega⟩ (fun c18 => ?_) (fun c18 => ?_)
                        · exact absurd c18 (by decide)
                        · skip
                          refine z_iload dX9_works_156 rfl ?_
                          refine z_goto dX9_works_158 (tgt := 165) rfl ?_
                          refine pf_X9_67 dX9_works_165 MH_0 (Nat.le_of_ble_eq_true rfl) ?_
                          refine z_heq MHu_0 ?_
                          refine z_goto dX9_works_168 (tgt := 210) rfl ?_
                          exact K e1 f4 fp4 ft4 z4 l4 m4 0 pl4 wi4 _ _ _ _ _ _ _ _ (by rw [wkP_1 (by omega) hle, hN]; exact hx4) hO4 he1 (fun _ => rfl)
                      · skip
                        obtain ⟨rm5, rfl⟩ : ∃ y, rm4 = y + 1 := ⟨rm4 - 1, by omega⟩
                        have hz4b : 0 ≤ z4 ∧ z4 ≤ 200 := hO4.1
                        refine z_aload_n dX9_works_97 rfl ?_
                        refine gf_X9_132 dX9_works_98 MH_0 rfl ?_
                        refine z_if_ne dX9_works_101 (tgt := 135) rfl ⟨by omega, by omega⟩ (fun c19 => ?_) (fun c19 => ?_)
                        · exact absurd c19 (by decide)
                        · skip
                          refine z_aload_n dX9_works_104 rfl ?_
                          refine gf_X9_157 dX9_works_105 MH_0 rfl ?_
                          refine z_iload dX9_works_108 rfl ?_
                          refine z_icmp_eq dX9_works_110 (tgt := 135) rfl ⟨by omega, by omega⟩ ⟨by have := qa.2.1; omega, by have := qa.2.2; omega⟩ (fun c20 => ?_) (fun c20 => ?_)
                          · skip
                            exact absurd c20 qa.1
                          · skip
                            refine z_aload_n dX9_works_113 rfl ?_
                            refine gf_X9_157 dX9_works_114 MH_0 rfl ?_
                            refine z_istore dX9_works_117 (Nat.le_of_ble_eq_true rfl) rfl ?_
                            refine z_aload_n dX9_works_119 rfl ?_
                            refine z_iload dX9_works_120 rfl ?_
                            refine z_iload_n dX9_works_122 rfl ?_
                            refine z_ieq (y := lp pp) hlp.symm ?_
                            refine z_iload dX9_works_123 rfl ?_
                            refine z_iload_n dX9_works_125 rfl ?_
                            refine cs_X9_166 dX9_works_126 (D_X9_once hM hn (a := lp pp) (tm := (r : Int) + 1) hO4 hWW (w := w) (p := pp + 1) (E := nx) (s := s1 + 1) (c := c) (by omega) hd0 o5 (by omega)) MH_0 rfl rfl (Nat.le_of_ble_eq_true rfl) ⟨(show (3 * d + 5) + 1 ≤ 3 * (d + 1) + 4 by omega), by exact Nat.le_refl 0, by exact Nat.le_refl 0⟩ (fun rv h' hq => ?_)
                            obtain ⟨rfl, at5, ha5, he5, rfl⟩ := hq
                            obtain ⟨B, hB⟩ : ∃ B, B = wkD ls lp ln9 le d (w + 1) (pp + 1) nx (wkE (lp pp) ((r : Int) + 1) w (f4, fp4, ft4, z4, l4, m4, 0, pl4, wi4)) := ⟨_, rfl⟩
                            have hBO : wkO B := by rw [hB]; exact wkD_O hn d (w + 1) (pp + 1) nx _ _ (by omega) o5 _ (wkE_O hO4)
                            rw [← hB] at he5
                            refine z_heq (h' := (MW h0 A Rf Nw Th Tp Tx Lk Ho Sz Im Mv kp ln (n : Int) (at5 : Int) 1 pa de ti ca B)) (congrArg _ hB.symm) ?_
                            obtain ⟨f5, fp5, ft5, z5, l5, m5, hi5, pl5, wi5⟩ := B
                            have hi5b : 0 ≤ hi5 ∧ hi5 ≤ 7 := hBO.2.2.2.1
                            have hz5b : 0 ≤ z5 ∧ z5 ≤ 200 := hBO.1
                            show z_w _ _ _ _ _ _ _ [] (MH h0 A Rf Nw Th Tp Tx f5 fp5 ft5 Lk Ho Sz Im Mv kp ln (n : Int) (at5 : Int) 1 pa de ti l5 m5 z5 hi5 pl5 wi5 ca) _ _
                            refine z_iinc dX9_works_129 rfl rfl ?_
                            refine z_goto dX9_works_132 (tgt := 90) rfl ?_
                            by_cases gx : hi5 ≠ 0 ∨ z5 = z4
                            · skip
                              have hx : wkM (wkD ls lp ln9 le d (w + 1) (pp + 1) nx) (lp pp) w (rm5 + 1) ((r : Int) + 1) (f4, fp4, ft4, z4, l4, m4, 0, pl4, wi4) = (f5, fp5, ft5, z5, l5, m5, hi5, pl5, wi5) := by
                                rw [hB]
                                exact if_pos (by rw [← hB]; exact gx)
                              have hx4 := q4.trans hx
                              refine z_iload dX9_works_90 rfl ?_
                              refine z_iload dX9_works_92 rfl ?_
                              refine z_icmp_gt dX9_works_94 (tgt := 135) rfl ⟨by omega, by omega⟩ ⟨by omega, by omega⟩ (fun c21 => ?_) (fun c21 => ?_)
                              · skip
                                refine z_goto dX9_works_135 (tgt := 148) rfl ?_
                                refine z_aload_n dX9_works_148 rfl ?_
                                refine z_aload_n dX9_works_149 rfl ?_
                                refine gf_X9_132 dX9_works_150 MH_0 rfl ?_
                                refine z_if_ne dX9_works_153 (tgt := 161) rfl ⟨by omega, by omega⟩ (fun c22 => ?_) (fun c22 => ?_)
                                · skip
                                  refine z_aload_n dX9_works_161 rfl ?_
                                  refine gf_X9_67 dX9_works_162 MH_0 rfl ?_
                                  refine pf_X9_67 dX9_works_165 MH_0 (Nat.le_of_ble_eq_true rfl) ?_
                                  refine z_heq MHu_0 ?_
                                  refine z_goto dX9_works_168 (tgt := 210) rfl ?_
                                  exact K at5 f5 fp5 ft5 z5 l5 m5 hi5 pl5 wi5 _ _ _ _ _ _ _ _ (by rw [wkP_1 (by omega) hle, hN]; exact hx4) hBO ha5 (fun q => absurd q (by omega))
                                · skip
                                  refine z_iload dX9_works_156 rfl ?_
                                  refine z_goto dX9_works_158 (tgt := 165) rfl ?_
                                  refine pf_X9_67 dX9_works_165 MH_0 (Nat.le_of_ble_eq_true rfl) ?_
                                  refine z_heq MHu_0 ?_
                                  refine z_goto dX9_works_168 (tgt := 210) rfl ?_
                                  exact K e1 f5 fp5 ft5 z5 l5 m5 hi5 pl5 wi5 _ _ _ _ _ _ _ _ (by rw [wkP_1 (by omega) hle, hN]; exact hx4) hBO he1 (fun _ => rfl)
                              · skip
                                refine z_aload_n dX9_works_97 rfl ?_
                                refine gf_X9_132 dX9_works_98 MH_0 rfl ?_
                                refine z_if_ne dX9_works_101 (tgt := 135) rfl ⟨by omega, by omega⟩ (fun c23 => ?_) (fun c23 => ?_)
                                · skip
                                  refine z_goto dX9_works_135 (tgt := 148) rfl ?_
                                  refine z_aload_n dX9_works_148 rfl ?_
                                  refine z_aload_n dX9_works_149 rfl ?_
                                  refine gf_X9_132 dX9_works_150 MH_0 rfl ?_
                                  refine z_if_ne dX9_works_153 (tgt := 161) rfl ⟨by omega, by omega⟩ (fun c24 => ?_) (fun c24 => ?_)
                                  · skip
                                    refine z_aload_n dX9_works_161 rfl ?_
                                    refine gf_X9_67 dX9_works_162 MH_0 rfl ?_
                                    refine pf_X9_67 dX9_works_165 MH_0 (Nat.le_of_ble_eq_true rfl) ?_
                                    refine z_heq MHu_0 ?_
                                    refine z_goto dX9_works_168 (tgt := 210) rfl ?_
                                    exact K at5 f5 fp5 ft5 z5 l5 m5 hi5 pl5 wi5 _ _ _ _ _ _ _ _ (by rw [wkP_1 (by omega) hle, hN]; exact hx4) hBO ha5 (fun q => absurd q (by omega))
                                  · skip
                                    refine z_iload dX9_works_156 rfl ?_
                                    refine z_goto dX9_works_158 (tgt := 165) rfl ?_
                                    refine pf_X9_67 dX9_works_165 MH_0 (Nat.le_of_ble_eq_true rfl) ?_
                                    refine z_heq MHu_0 ?_
                                    refine z_goto dX9_works_168 (tgt := 210) rfl ?_
                                    exact K e1 f5 fp5 ft5 z5 l5 m5 hi5 pl5 wi5 _ _ _ _ _ _ _ _ (by rw [wkP_1 (by omega) hle, hN]; exact hx4) hBO he1 (fun _ => rfl)
                                · skip
                                  refine z_aload_n dX9_works_104 rfl ?_
                                  refine gf_X9_157 dX9_works_105 MH_0 rfl ?_
                                  refine z_iload dX9_works_108 rfl ?_
                                  refine z_icmp_eq dX9_works_110 (tgt := 135) rfl ⟨by omega, by omega⟩ ⟨by have := qa.2.1; omega, by have := qa.2.2; omega⟩ (fun c25 => ?_) (fun c25 => ?_)
                                  · skip
                                    refine z_goto dX9_works_135 (tgt := 148) rfl ?_
                                    refine z_aload_n dX9_works_148 rfl ?_
                                    refine z_aload_n dX9_works_149 rfl ?_
                                    refine gf_X9_132 dX9_works_150 MH_0 rfl ?_
                                    refine z_if_ne dX9_works_153 (tgt := 161) rfl ⟨by omega, by omega⟩ (fun c26 => ?_) (fun c26 => ?_)
                                    · skip
                                      refine z_aload_n dX9_works_161 rfl ?_
                                      refine gf_X9_67 dX9_works_162 MH_0 rfl ?_
                                      refine pf_X9_67 dX9_works_165 MH_0 (Nat.le_of_ble_eq_true rfl) ?_
                                      refine z_heq MHu_0 ?_
                                      refine z_goto dX9_works_168 (tgt := 210) rfl ?_
                                      exact K at5 f5 fp5 ft5 z5 l5 m5 hi5 pl5 wi5 _ _ _ _ _ _ _ _ (by rw [wkP_1 (by omega) hle, hN]; exact hx4) hBO ha5 (fun q => absurd q (by omega))
                                    · skip
                                      refine z_iload dX9_works_156 rfl ?_
                                      refine z_goto dX9_works_158 (tgt := 165) rfl ?_
                                      refine pf_X9_67 dX9_works_165 MH_0 (Nat.le_of_ble_eq_true rfl) ?_
                                      refine z_heq MHu_0 ?_
                                      refine z_goto dX9_works_168 (tgt := 210) rfl ?_
                                      exact K e1 f5 fp5 ft5 z5 l5 m5 hi5 pl5 wi5 _ _ _ _ _ _ _ _ (by rw [wkP_1 (by omega) hle, hN]; exact hx4) hBO he1 (fun _ => rfl)
                                  · skip
                                    exact absurd c25 (by omega)
                            · skip
                              have hx : wkM (wkD ls lp ln9 le d (w + 1) (pp + 1) nx) (lp pp) w (rm5 + 1) ((r : Int) + 1) (f4, fp4, ft4, z4, l4, m4, 0, pl4, wi4) = wkM (wkD ls lp ln9 le d (w + 1) (pp + 1) nx) (lp pp) w rm5 ((r : Int) + 1 + 1) (f5, fp5, ft5, z5, l5, m5, hi5, pl5, wi5) := by
                                rw [hB]
                                exact if_neg (by rw [← hB]; exact gx)
                              obtain rfl : hi5 = 0 := by omega
                              exact ih (r + 1) rm5 at5 f5 fp5 ft5 z5 l5 m5 pl5 wi5 z4 (by omega) ha5 hBO ⟨by omega, ⟨by omega, by omega⟩⟩ (q4.trans hx) (by omega)
                  exact L5 (N + 1) 0 N e1 f2 fp2 ft2 z2 l2 m2 pl2 wi2 (-1) (by omega) he1 hO2 ⟨by have : 0 ≤ z2 := hO2.1.1; omega, by decide⟩ rfl (by omega)
              · skip
                exfalso
                omega
        · skip
          refine z_iload_n dX9_works_2 rfl ?_
          refine z_if_eq dX9_works_3 (tgt := 253) rfl (by decide) (fun c27 => ?_) (fun c27 => ?_)
          · exact absurd c27 (by decide)
          · skip
            refine z_aload_n dX9_works_6 rfl ?_
            refine gf_X9_132 dX9_works_7 MH_0 rfl ?_
            refine z_if_ne dX9_works_10 (tgt := 253) rfl (by decide) (fun c28 => ?_) (fun c28 => ?_)
            · exact absurd c28 (by decide)
            · skip
              refine z_aload_n dX9_works_13 rfl ?_
              refine gf_X9_67 dX9_works_14 MH_0 rfl ?_
              refine z_istore_n dX9_works_17 (Nat.le_of_ble_eq_true rfl) rfl ?_
              refine z_aload_n dX9_works_18 rfl ?_
              refine cs_X9_77 dX9_works_19 (D_X9_peek hM (j := s1) hn (by omega) rfl rfl) MH_0 rfl rfl (Nat.le_of_ble_eq_true rfl) ⟨(show 1 + 1 ≤ 3 * (d + 1) + 4 by omega), by exact Nat.le_refl 0, by exact Nat.le_refl 0⟩ (z_ki ?_)
              refine z_istore dX9_works_22 (Nat.le_of_ble_eq_true rfl) rfl ?_
              refine z_iload dX9_works_24 rfl ?_
              refine z_bipush dX9_works_26 rfl ?_
              refine z_icmp_eq dX9_works_28 (tgt := 38) rfl ⟨by omega, by omega⟩ (by decide) (fun c29 => ?_) (fun c29 => ?_)
              · skip
                exfalso
                omega
              · skip
                refine z_iload dX9_works_31 rfl ?_
                refine z_bipush dX9_works_33 rfl ?_
                refine z_icmp_ne dX9_works_35 (tgt := 171) rfl ⟨by omega, by omega⟩ (by decide) (fun c30 => ?_) (fun c30 => ?_)
                · skip
                  exfalso
                  omega
                · skip
                  refine z_aload_n dX9_works_38 rfl ?_
                  refine gf_X9_67 dX9_works_39 MH_0 rfl ?_
                  refine z_iconst dX9_works_42 ?_
                  refine z_iadd dX9_works_43 ?_
                  refine z_istore dX9_works_44 (Nat.le_of_ble_eq_true rfl) rfl ?_
                  refine z_aload_n dX9_works_46 rfl ?_
                  refine z_iload dX9_works_47 rfl ?_
                  refine cs_X9_163 dX9_works_49 (D_X9_end hM (j := s1 + 1) hn (by omega) ht) MH_0 rfl rfl (Nat.le_of_ble_eq_true rfl) ⟨(show 1 + 1 ≤ 3 * (d + 1) + 4 by omega), by exact Nat.le_refl 0, by exact Nat.le_refl 0⟩ (z_ki ?_)
                  refine z_ieq (y := (c : Int)) (by rw [hend]) ?_
                  refine z_istore dX9_works_52 (Nat.le_of_ble_eq_true rfl) rfl ?_
                  refine z_aload_n dX9_works_54 rfl ?_
                  refine z_iload dX9_works_55 rfl ?_
                  refine z_iconst dX9_works_57 ?_
                  refine z_iadd dX9_works_58 ?_
                  refine pf_X9_67 dX9_works_59 MH_0 (Nat.le_of_ble_eq_true rfl) ?_
                  refine z_heq MHu_0 ?_
                  refine z_aload_n dX9_works_62 rfl ?_
                  refine z_iconst dX9_works_63 ?_
                  refine z_bipush dX9_works_64 rfl ?_
                  refine cs_X9_115 dX9_works_66 (D_X9_number hM (sz := 0) (at_ := 0) (j := c + 1) hn (by omega) ht (lo := 0) (Or.inl rfl)) MH_0 rfl rfl (Nat.le_of_ble_eq_true rfl) ⟨(show 3 + 1 ≤ 3 * (d + 1) + 4 by omega), by exact Nat.le_refl 0, by exact Nat.le_refl 0⟩ (fun rv h' hq => ?_)
                  obtain ⟨rfl, hq⟩ := hq
                  obtain ⟨hq, rfl⟩ := hq.resolve_right (fun q => q.1 hno)
                  refine z_ks ?_
                  refine z_ieq (y := (N : Int)) (by rw [← hN, o9]) ?_
                  refine z_heq (h' := (MH h0 A Rf Nw Th Tp Tx f2 fp2 ft2 Lk Ho Sz Im Mv kp ln (n : Int) (e1 : Int) 1 pa de ti l2 m2 z2 0 pl2 wi2 ca)) (by rw [← o8]) ?_
                  refine z_istore dX9_works_69 (Nat.le_of_ble_eq_true rfl) rfl ?_
                  refine z_aload_n dX9_works_71 rfl ?_
                  refine gf_X9_67 dX9_works_72 MH_0 rfl ?_
                  refine z_istore dX9_works_75 (Nat.le_of_ble_eq_true rfl) rfl ?_
                  refine z_iload dX9_works_77 rfl ?_
                  refine z_bipush dX9_works_79 rfl ?_
                  refine z_icmp_ne dX9_works_81 (tgt := 138) rfl ⟨by omega, by omega⟩ (by decide) (fun c31 => ?_) (fun c31 => ?_)
                  · skip
                    refine z_aload_n dX9_works_138 rfl ?_
                    refine z_iload dX9_works_139 rfl ?_
                    refine z_iload_n dX9_works_141 rfl ?_
                    refine z_ieq (y := lp pp) hlp.symm ?_
                    refine z_iload dX9_works_142 rfl ?_
                    refine z_iload_n dX9_works_144 rfl ?_
                    refine cs_X9_170 dX9_works_145 (D_X9_tillLeft hM (at_ := 0) hn hO2 hWW (w := w) (p := pp + 1) (E := nx) (s := s1 + 1) (c := c) (by omega) hd0 o5 (by omega) (a := lp pp) (b := (N : Int)) (by omega) (j := e1) he1) MH_0 rfl rfl (Nat.le_of_ble_eq_true rfl) ⟨(show (3 * d + 6) + 1 ≤ 3 * (d + 1) + 4 by omega), by exact Nat.le_refl 0, by exact Nat.le_refl 0⟩ (fun rv h' hq => ?_)
                    obtain ⟨rfl, at5, ha5, rfl⟩ := hq
                    obtain ⟨B, hB⟩ : ∃ B, B = wkL (wkD ls lp ln9 le d (w + 1) (pp + 1) nx) (N : Int) (lp pp) w 60 1 (f2, fp2, ft2, z2, l2, m2, 0, pl2, wi2) := ⟨_, rfl⟩
                    have hBO : wkO B := by rw [hB]; exact wkL_O (fun q hq => wkD_O hn d (w + 1) (pp + 1) nx _ _ (by omega) o5 _ hq) hb1 (by omega) _ _ _ hO2
                    have hBP : (wkP ls lp ln9 le (wkD ls lp ln9 le d) w) pp (f2, fp2, ft2, z2, l2, m2, 0, pl2, wi2) = B := by rw [hB, wkP_2 (by omega) hle, hN]
                    refine z_heq (h' := (MW h0 A Rf Nw Th Tp Tx Lk Ho Sz Im Mv kp ln (n : Int) (at5 : Int) 1 pa de ti ca B)) (congrArg _ hB.symm) ?_
                    obtain ⟨f5, fp5, ft5, z5, l5, m5, hi5, pl5, wi5⟩ := B
                    have hi5b : 0 ≤ hi5 ∧ hi5 ≤ 7 := hBO.2.2.2.1
                    show z_w _ _ _ _ _ _ _ [] (MH h0 A Rf Nw Th Tp Tx f5 fp5 ft5 Lk Ho Sz Im Mv kp ln (n : Int) (at5 : Int) 1 pa de ti l5 m5 z5 hi5 pl5 wi5 ca) _ _
                    refine z_aload_n dX9_works_148 rfl ?_
                    refine z_aload_n dX9_works_149 rfl ?_
                    refine gf_X9_132 dX9_works_150 MH_0 rfl ?_
                    refine z_if_ne dX9_works_153 (tgt := 161) rfl ⟨by omega, by omega⟩ (fun c32 => ?_) (fun c32 => ?_)
                    · skip
                      refine z_aload_n dX9_works_161 rfl ?_
                      refine gf_X9_67 dX9_works_162 MH_0 rfl ?_
                      refine pf_X9_67 dX9_works_165 MH_0 (Nat.le_of_ble_eq_true rfl) ?_
                      refine z_heq MHu_0 ?_
                      refine z_goto dX9_works_168 (tgt := 210) rfl ?_
                      exact K at5 f5 fp5 ft5 z5 l5 m5 hi5 pl5 wi5 _ _ _ _ _ _ _ _ hBP hBO ha5 (fun q => absurd q (by omega))
                    · skip
                      refine z_iload dX9_works_156 rfl ?_
                      refine z_goto dX9_works_158 (tgt := 165) rfl ?_
                      refine pf_X9_67 dX9_works_165 MH_0 (Nat.le_of_ble_eq_true rfl) ?_
                      refine z_heq MHu_0 ?_
                      refine z_goto dX9_works_168 (tgt := 210) rfl ?_
                      exact K e1 f5 fp5 ft5 z5 l5 m5 hi5 pl5 wi5 _ _ _ _ _ _ _ _ hBP hBO he1 (fun _ => rfl)
                  · skip
                    exfalso
                    omega
  refine z_iconst dX9_works_0 ?_
  refine z_istore_n dX9_works_1 (Nat.le_of_ble_eq_true rfl) rfl ?_
  exact L 251 251 p s f fp ft z l m pl wi _ _ _ _ _ _ _ _ (by have := sgP_sz (d + 1) _ _ _ _ hsg; omega) (Nat.le_refl _) (by have := sgP_lt (d + 1) _ _ _ _ hsg; omega) hO ⟨251, hsg⟩ rfl
theorem WW_all {g : z_G} {h0 : z_H} {A : Nat → Nat} (hM : mD A) {Rf Nw Th Tp Tx Lk Ho Sz Im Mv : z_row} {n : Nat} {kp ln pa de ti ca : Int} {ls lp ln9 le : z_row} (hn : n ≤ 250) (ht : ∀ q, q < n → 0 ≤ Tx q ∧ Tx q ≤ 255) : ∀ d, WW g h0 A Rf Nw Th Tp Tx Lk Ho Sz Im Mv n kp ln pa de ti ca ls lp ln9 le d := by
  intro d
  induction d with
  | zero => intro w p e s e2 q _ h; exact h.elim
  | succ d ih => exact D_X9_works hM hn ht ih
