/-! the reference: shorthand -/
def rlG (f : z_row) (z k : Nat) : Nat → Nat → Nat
  | 0, t => t
  | u + 1, t => if k + t < z ∧ f (k + t) = f k then rlG f z k u (t + 1) else t
/-- how long the run is that begins at k -/
def rl (f : z_row) (z k : Nat) : Nat := rlG f z k (z + 1) 0
def shL (k : Int) : Int := if kL1 k = 0 then 1 else 2
def shD (t : Int) : Int := if t < 2 then 0 else if t < 10 then 1 else if t < 100 then 2 else 3
def shN (t x : Int) : Int := 48 + (if x = 0 then t else if x = 1 then t / 10 else t / 100) % 10
def shC (z k : Nat) : Int := if k < z then 1 else 0
/-- byte j of the shorthand from the run on that begins at k -/
def shG (f : z_row) (z : Nat) : Nat → Nat → Int → Int
  | 0, _, _ => -1
  | u + 1, k, j => if k < z then
      (if 0 ≤ j ∧ j < shL (f k) then (if j = 0 then kL0 (f k) else kL1 (f k))
       else if shL (f k) ≤ j ∧ j < shL (f k) + shD (rl f z k) then shN (rl f z k) (shL (f k) + shD (rl f z k) - 1 - j)
       else if j = shL (f k) + shD (rl f z k) ∧ k + rl f z k < z then 44
       else shG f z u (k + rl f z k) (j - (shL (f k) + shD (rl f z k) + shC z (k + rl f z k))))
    else -1
def shV (f : z_row) (z : Nat) (i : Int) : Int := shG f z (z + 1) 0 i
theorem shL_b (k : Int) : 1 ≤ shL k ∧ shL k ≤ 2 := by unfold shL; split <;> omega
theorem shD_b (t : Int) : 0 ≤ shD t ∧ shD t ≤ 3 := by
  unfold shD
  repeat' split
  all_goals omega
theorem shC_b (z k : Nat) : 0 ≤ shC z k ∧ shC z k ≤ 1 := by unfold shC; split <;> omega
theorem shG_neg (f : z_row) (z : Nat) : ∀ u k j, j < 0 → shG f z u k j = -1 := by
  intro u
  induction u with
  | zero => intro k j _; rfl
  | succ u ih =>
    intro k j hj
    have b1 := shL_b (f k)
    have b2 := shD_b (rl f z k)
    have b3 := shC_b z (k + rl f z k)
    unfold shG
    split
    · rw [if_neg (by omega), if_neg (by omega), if_neg (by omega)]
      exact ih _ _ (by omega)
    · rfl
/-- an int's own value: another integer of it that lies in range -/
theorem w_ex {x : Int} (h : -2147500000 ≤ x ∧ x < 2147483648) : ∃ jj : Int, z_v (z_i x) = z_v (z_i jj) ∧ z_in jj ∧ (jj = x ∨ (jj ≥ 2000000000 ∧ x < 0)) := by
  by_cases c : -2147483648 ≤ x
  · exact ⟨x, rfl, ⟨c, h.2⟩, Or.inl rfl⟩
  · exact ⟨x + 4294967296, z_viw (Or.inr (by omega)), ⟨by omega, by omega⟩, Or.inr ⟨by omega, by omega⟩⟩
theorem z_vst {g : z_G} {X : z_X} {cc : ByteArray} {own : String} {r : Nat × Nat × Nat} {pc k n : Nat} {ls st : List z_V} {h : z_H} {x y : z_V} (e : z_v x = z_v y) (kk : z_w g X cc own r pc ls (y :: st) h k n) : z_w g X cc own r pc ls (x :: st) h k n := fun C H locs S hR hS hL => by
  have q := kk C H locs S hR hS hL
  rw [List.map_cons, e, ← List.map_cons]
  exact q
theorem kL1_in (k : Int) : z_in (kL1 k) := by
  have h : 0 ≤ kL1 k ∧ kL1 k ≤ 200 := by
    unfold kL1
    repeat' split
    all_goals omega
  exact ⟨by omega, by omega⟩
set_option maxHeartbeats 4000000 in
set_option maxRecDepth 100000 in
theorem D_X9_shorthand {g : z_G} {h0 : z_H} {A : Nat → Nat} (hM : mD A) {Rf Nw Th Tp Tx Kd Ia It Lk Ho Sz Im Mv : Nat → Int} {kp ln sz at_ we pa de ti lf md mn hi ha is_ ca : Int} {G : Nat → z_G4} (hwf : nWf Nw G) {wk i9 : Int} (hwk : z_in wk) (hi9 : z_in i9) : z_D g mX9_shorthand 3 0 0 [z_r (A 0), z_i wk, z_i i9] (MH h0 A Rf Nw Th Tp Tx Kd Ia It Lk Ho Sz Im Mv kp ln sz at_ we pa de ti lf md mn hi ha is_ ca) (fun rv h' => (isW Nw wk → rv = some (z_i (shV (kR Nw wk.toNat) (zF Nw wk.toNat) i9)) ∧ h' = (MH h0 A Rf Nw Th Tp Tx Kd Ia It Lk Ho Sz Im Mv kp ln sz at_ we pa de ti lf md mn hi ha is_ ca)) ∧ (¬ (isW Nw wk) → rv = some (z_i (-92)) ∧ h' = (MH h0 A (z_sf Rf 0 (Rf 0 + 1)) Nw Th Tp Tx Kd Ia It Lk Ho Sz Im Mv kp ln sz at_ we pa de ti lf md mn hi ha is_ ca))) := by
  refine z_D.of (by decide +kernel) (Nat.le_of_ble_eq_true rfl) (fun X F => ?_)
  obtain ⟨w1, w2, w3, w4, w5, w6, w7⟩ := hwf
  show z_w g X cX9_shorthand RX9 (3, 0, 0) 0 [z_r (A 0), z_i wk, z_i i9, z_u, z_u, z_u, z_u, z_u, z_u, z_u, z_u, z_u, z_u] [] (MH h0 A Rf Nw Th Tp Tx Kd Ia It Lk Ho Sz Im Mv kp ln sz at_ we pa de ti lf md mn hi ha is_ ca) 0 0
  refine z_aload_n dX9_shorthand_0 rfl ?_
  refine z_iload_n dX9_shorthand_1 rfl ?_
  refine cs_X9_215 dX9_shorthand_2 (D_X9_isWorked hM (i := wk) ⟨by omega, by omega⟩ ⟨by omega, by omega⟩) MH_0 rfl rfl (Nat.le_of_ble_eq_true rfl) (by decide) (z_ki ?_)
  refine z_if_ne dX9_shorthand_5 (tgt := 15) rfl ⟨by split <;> omega, by split <;> omega⟩ (fun c1 => ?_) (fun c1 => ?_)
  · skip
    obtain ⟨w, rfl⟩ : ∃ y : Nat, wk = (y : Int) := ⟨wk.toNat, by omega⟩
    have hRw := w7 w (by omega)
    have hWw := hRw.1
    have hz200w := hWw.2.2.1
    have hw50w := hWw.1
    refine z_aload_n dX9_shorthand_15 rfl ?_
    refine z_iload_n dX9_shorthand_16 rfl ?_
    refine cs_X9_220 dX9_shorthand_17 (D_X9_sizeOf hM hWw) MH_0 rfl rfl (Nat.le_of_ble_eq_true rfl) (by decide) (z_ki ?_)
    refine z_istore_n dX9_shorthand_20 (Nat.le_of_ble_eq_true rfl) rfl ?_
    refine z_iconst dX9_shorthand_21 ?_
    refine z_istore dX9_shorthand_22 (Nat.le_of_ble_eq_true rfl) rfl ?_
    refine z_iconst dX9_shorthand_24 ?_
    refine z_istore dX9_shorthand_25 (Nat.le_of_ble_eq_true rfl) rfl ?_
    have L4 : ∀ (fu : Nat) (k u : Nat) (pl : Int) (x6 x7 x8 x9 x10 x11 x12 : z_V), k ≤ (zF Nw w) → u = fu → (zF Nw w) - k < u → (0 ≤ pl ∧ pl ≤ 6 * (k : Int)) → shV (kR Nw w) (zF Nw w) i9 = shG (kR Nw w) (zF Nw w) u k (i9 - pl) → z_w g X cX9_shorthand RX9 (3, 0, 0) 27 [z_r (A 0), z_i (w : Int), z_i i9, z_i (zF Nw w : Int), z_i pl, z_i (k : Int), x6, x7, x8, x9, x10, x11, x12] [] (MH h0 A Rf Nw Th Tp Tx Kd Ia It Lk Ho Sz Im Mv kp ln sz at_ we pa de ti lf md mn hi ha is_ ca) 0 0 := by
      intro fu
      induction fu with
      | zero => intro k u pl x6 x7 x8 x9 x10 x11 x12 h1 h2 h3; exact absurd h3 (by omega)
      | succ fu ih =>
        intro k u pl x6 x7 x8 x9 x10 x11 x12 hkz hu hm hpl q3
        subst hu
        have K91 : ∀ (t : Nat) (x9 x10 x11 x12 : z_V), z_in (kR Nw w k) → kOk (kR Nw w k) → k < (zF Nw w) → (1 ≤ t ∧ k + t ≤ (zF Nw w)) → rl (kR Nw w) (zF Nw w) k = t → z_w g X cX9_shorthand RX9 (3, 0, 0) 91 [z_r (A 0), z_i (w : Int), z_i i9, z_i (zF Nw w : Int), z_i pl, z_i (k : Int), z_i (kR Nw w k), z_i (t : Int), z_i (shL (kR Nw w k)), x9, x10, x11, x12] [] (MH h0 A Rf Nw Th Tp Tx Kd Ia It Lk Ho Sz Im Mv kp ln sz at_ we pa de ti lf md mn hi ha is_ ca) 0 0 := by
          intro t x9 x10 x11 x12 hk1 hk hkl ht hrl
          have b1 := shL_b (kR Nw w k)
          have b2 := shD_b (t : Int)
          have b3 := shC_b (zF Nw w) (k + t)
          have K142 : ∀ (x11 x12 : z_V), z_w g X cX9_shorthand RX9 (3, 0, 0) 142 [z_r (A 0), z_i (w : Int), z_i i9, z_i (zF Nw w : Int), z_i pl, z_i (k : Int), z_i (kR Nw w k), z_i (t : Int), z_i (shL (kR Nw w k)), z_i (shD (t : Int)), z_i (shC (zF Nw w) (k + t)), x11, x12] [] (MH h0 A Rf Nw Th Tp Tx Kd Ia It Lk Ho Sz Im Mv kp ln sz at_ we pa de ti lf md mn hi ha is_ ca) 0 0 := by
            intro x11 x12
            have hstep : shG (kR Nw w) (zF Nw w) (fu + 1) k (i9 - pl) = (if 0 ≤ i9 - pl ∧ i9 - pl < (shL (kR Nw w k)) then (if i9 - pl = 0 then kL0 (kR Nw w k) else kL1 (kR Nw w k)) else if (shL (kR Nw w k)) ≤ i9 - pl ∧ i9 - pl < (shL (kR Nw w k)) + (shD (t : Int)) then shN (t : Int) ((shL (kR Nw w k)) + (shD (t : Int)) - 1 - (i9 - pl)) else if i9 - pl = (shL (kR Nw w k)) + (shD (t : Int)) ∧ k + t < (zF Nw w) then 44 else shG (kR Nw w) (zF Nw w) fu (k + t) (i9 - pl - ((shL (kR Nw w k)) + (shD (t : Int)) + (shC (zF Nw w) (k + t))))) := by
              refine (if_pos hkl).trans ?_
              rw [hrl]
            have hst := q3.trans hstep
            obtain ⟨jj, hj1, hj2, hj3⟩ := w_ex (x := i9 - pl) ⟨by omega, by omega⟩
            refine z_iload_n dX9_shorthand_142 rfl ?_
            refine z_iload dX9_shorthand_143 rfl ?_
            refine z_isub dX9_shorthand_145 ?_
            refine z_vst hj1 ?_
            refine z_istore dX9_shorthand_146 (Nat.le_of_ble_eq_true rfl) rfl ?_
            refine z_iload dX9_shorthand_148 rfl ?_
            refine z_i2l dX9_shorthand_150 ⟨by omega, by omega⟩ ?_
            refine z_lconst0 dX9_shorthand_151 ?_
            refine z_iload dX9_shorthand_152 rfl ?_
            refine z_iconst dX9_shorthand_154 ?_
            refine z_isub dX9_shorthand_155 ?_
            refine z_i2l dX9_shorthand_156 ⟨by omega, by omega⟩ ?_
            refine cs_X9_56 dX9_shorthand_157 (D_X9_isIn (v := jj) (lo := 0) (hi := (shL (kR Nw w k)) - 1) ⟨by omega, by omega⟩ (by decide) ⟨by omega, by omega⟩) rfl rfl (Nat.le_of_ble_eq_true rfl) (by decide) (z_ki ?_)
            refine z_if_eq dX9_shorthand_160 (tgt := 171) rfl ⟨by split <;> omega, by split <;> omega⟩ (fun c2 => ?_) (fun c2 => ?_)
            · skip
              refine z_iload dX9_shorthand_171 rfl ?_
              refine z_i2l dX9_shorthand_173 ⟨by omega, by omega⟩ ?_
              refine z_iload dX9_shorthand_174 rfl ?_
              refine z_i2l dX9_shorthand_176 ⟨by omega, by omega⟩ ?_
              refine z_iload dX9_shorthand_177 rfl ?_
              refine z_iload dX9_shorthand_179 rfl ?_
              refine z_iadd dX9_shorthand_181 ?_
              refine z_iconst dX9_shorthand_182 ?_
              refine z_isub dX9_shorthand_183 ?_
              refine z_i2l dX9_shorthand_184 ⟨by omega, by omega⟩ ?_
              refine cs_X9_56 dX9_shorthand_185 (D_X9_isIn (v := jj) (lo := (shL (kR Nw w k))) (hi := (shL (kR Nw w k)) + (shD (t : Int)) - 1) ⟨by omega, by omega⟩ ⟨by omega, by omega⟩ ⟨by omega, by omega⟩) rfl rfl (Nat.le_of_ble_eq_true rfl) (by decide) (z_ki ?_)
              refine z_if_eq dX9_shorthand_188 (tgt := 239) rfl ⟨by split <;> omega, by split <;> omega⟩ (fun c3 => ?_) (fun c3 => ?_)
              · skip
                refine z_iload dX9_shorthand_239 rfl ?_
                refine z_iload dX9_shorthand_241 rfl ?_
                refine z_iload dX9_shorthand_243 rfl ?_
                refine z_iadd dX9_shorthand_245 ?_
                refine z_icmp_ne dX9_shorthand_246 (tgt := 258) rfl hj2 ⟨by omega, by omega⟩ (fun c4 => ?_) (fun c4 => ?_)
                · skip
                  have hres := hst.trans ((if_neg (by omega)).trans ((if_neg (by omega)).trans (if_neg (by omega))))
                  refine z_iload dX9_shorthand_258 rfl ?_
                  refine z_iload dX9_shorthand_260 rfl ?_
                  refine z_iload dX9_shorthand_262 rfl ?_
                  refine z_iadd dX9_shorthand_264 ?_
                  refine z_iload dX9_shorthand_265 rfl ?_
                  refine z_iadd dX9_shorthand_267 ?_
                  refine z_iadd dX9_shorthand_268 ?_
                  refine z_istore dX9_shorthand_269 (Nat.le_of_ble_eq_true rfl) rfl ?_
                  refine z_iload dX9_shorthand_271 rfl ?_
                  refine z_iload dX9_shorthand_273 rfl ?_
                  refine z_iadd dX9_shorthand_275 ?_
                  refine z_istore dX9_shorthand_276 (Nat.le_of_ble_eq_true rfl) rfl ?_
                  refine z_goto dX9_shorthand_278 (tgt := 27) rfl ?_
                  refine z_lseq (ls2 := [z_r (A 0), z_i (w : Int), z_i i9, z_i (zF Nw w : Int), z_i (pl + (((shL (kR Nw w k)) + (shD (t : Int))) + (shC (zF Nw w) (k + t)))), z_i ((k + t : Nat) : Int), z_i (kR Nw w k), z_i (t : Int), z_i (shL (kR Nw w k)), z_i (shD (t : Int)), z_i (shC (zF Nw w) (k + t)), z_i jj, x12]) (by rw [show (k : Int) + (t : Int) = ((k + t : Nat) : Int) by omega]; rfl) ?_
                  exact ih (k + t) fu _ _ _ _ _ _ _ _ (by omega) rfl (by omega) (by omega) (hres.trans (congrArg _ (by omega)))
                · skip
                  refine z_iload dX9_shorthand_249 rfl ?_
                  refine z_iconst dX9_shorthand_251 ?_
                  refine z_icmp_ne dX9_shorthand_252 (tgt := 258) rfl ⟨by omega, by omega⟩ (by decide) (fun c5 => ?_) (fun c5 => ?_)
                  · skip
                    have hres := hst.trans ((if_neg (by omega)).trans ((if_neg (by omega)).trans (if_neg (by have hc0 := c5; unfold shC at hc0; split at hc0 <;> omega))))
                    refine z_iload dX9_shorthand_258 rfl ?_
                    refine z_iload dX9_shorthand_260 rfl ?_
                    refine z_iload dX9_shorthand_262 rfl ?_
                    refine z_iadd dX9_shorthand_264 ?_
                    refine z_iload dX9_shorthand_265 rfl ?_
                    refine z_iadd dX9_shorthand_267 ?_
                    refine z_iadd dX9_shorthand_268 ?_
                    refine z_istore dX9_shorthand_269 (Nat.le_of_ble_eq_true rfl) rfl ?_
                    refine z_iload dX9_shorthand_271 rfl ?_
                    refine z_iload dX9_shorthand_273 rfl ?_
                    refine z_iadd dX9_shorthand_275 ?_
                    refine z_istore dX9_shorthand_276 (Nat.le_of_ble_eq_true rfl) rfl ?_
                    refine z_goto dX9_shorthand_278 (tgt := 27) rfl ?_
                    refine z_lseq (ls2 := [z_r (A 0), z_i (w : Int), z_i i9, z_i (zF Nw w : Int), z_i (pl + (((shL (kR Nw w k)) + (shD (t : Int))) + (shC (zF Nw w) (k + t)))), z_i ((k + t : Nat) : Int), z_i (kR Nw w k), z_i (t : Int), z_i (shL (kR Nw w k)), z_i (shD (t : Int)), z_i (shC (zF Nw w) (k + t)), z_i jj, x12]) (by rw [show (k : Int) + (t : Int) = ((k + t : Nat) : Int) by omega]; rfl) ?_
                    exact ih (k + t) fu _ _ _ _ _ _ _ _ (by omega) rfl (by omega) (by omega) (hres.trans (congrArg _ (by omega)))
                  · skip
                    have hkt : k + t < (zF Nw w) := by have hc0 := c5; unfold shC at hc0; split at hc0 <;> omega
                    obtain rfl : jj = i9 - pl := by omega
                    have hres := hst.trans ((if_neg (by omega)).trans ((if_neg (by omega)).trans (if_pos ⟨by omega, hkt⟩)))
                    refine z_bipush dX9_shorthand_255 rfl ?_
                    exact z_iret F dX9_shorthand_257 rfl (by decide) ⟨fun q => ⟨congrArg (fun z => some (z_i z)) (hres.symm), rfl⟩, fun q => absurd (by omega) q⟩
              · skip
                obtain rfl : jj = i9 - pl := by omega
                have hres := hst.trans ((if_neg (by omega)).trans (if_pos (by omega)))
                refine z_iload dX9_shorthand_191 rfl ?_
                refine z_iload dX9_shorthand_193 rfl ?_
                refine z_iadd dX9_shorthand_195 ?_
                refine z_iconst dX9_shorthand_196 ?_
                refine z_isub dX9_shorthand_197 ?_
                refine z_iload dX9_shorthand_198 rfl ?_
                refine z_isub dX9_shorthand_200 ?_
                refine z_istore dX9_shorthand_201 (Nat.le_of_ble_eq_true rfl) rfl ?_
                refine z_bipush dX9_shorthand_203 rfl ?_
                refine z_iload dX9_shorthand_205 rfl ?_
                refine z_if_ne dX9_shorthand_207 (tgt := 215) rfl ⟨by omega, by omega⟩ (fun c6 => ?_) (fun c6 => ?_)
                · skip
                  refine z_iload dX9_shorthand_215 rfl ?_
                  refine z_iconst dX9_shorthand_217 ?_
                  refine z_icmp_ne dX9_shorthand_218 (tgt := 229) rfl ⟨by omega, by omega⟩ (by decide) (fun c7 => ?_) (fun c7 => ?_)
                  · skip
                    refine z_iload dX9_shorthand_229 rfl ?_
                    refine z_bipush dX9_shorthand_231 rfl ?_
                    refine z_idiv dX9_shorthand_233 ⟨by omega, by omega⟩ (by decide) ?_
                    refine z_bipush dX9_shorthand_234 rfl ?_
                    refine z_irem dX9_shorthand_236 ⟨by omega, by omega⟩ (by decide) ?_
                    refine z_iadd dX9_shorthand_237 ?_
                    exact z_iret F dX9_shorthand_238 rfl (by decide) ⟨fun q => ⟨congrArg (fun z => some (z_i z)) ((hres.trans (congrArg (fun x => 48 + x % 10) ((if_neg (by omega)).trans (if_neg (by omega))))).symm), rfl⟩, fun q => absurd (by omega) q⟩
                  · skip
                    refine z_iload dX9_shorthand_221 rfl ?_
                    refine z_bipush dX9_shorthand_223 rfl ?_
                    refine z_idiv dX9_shorthand_225 ⟨by omega, by omega⟩ (by decide) ?_
                    refine z_goto dX9_shorthand_226 (tgt := 234) rfl ?_
                    refine z_bipush dX9_shorthand_234 rfl ?_
                    refine z_irem dX9_shorthand_236 ⟨by omega, by omega⟩ (by decide) ?_
                    refine z_iadd dX9_shorthand_237 ?_
                    exact z_iret F dX9_shorthand_238 rfl (by decide) ⟨fun q => ⟨congrArg (fun z => some (z_i z)) ((hres.trans (congrArg (fun x => 48 + x % 10) ((if_neg (by omega)).trans (if_pos (by omega))))).symm), rfl⟩, fun q => absurd (by omega) q⟩
                · skip
                  refine z_iload dX9_shorthand_210 rfl ?_
                  refine z_goto dX9_shorthand_212 (tgt := 234) rfl ?_
                  refine z_bipush dX9_shorthand_234 rfl ?_
                  refine z_irem dX9_shorthand_236 ⟨by omega, by omega⟩ (by decide) ?_
                  refine z_iadd dX9_shorthand_237 ?_
                  exact z_iret F dX9_shorthand_238 rfl (by decide) ⟨fun q => ⟨congrArg (fun z => some (z_i z)) ((hres.trans (congrArg (fun x => 48 + x % 10) (if_pos (by omega)))).symm), rfl⟩, fun q => absurd (by omega) q⟩
            · skip
              obtain rfl : jj = i9 - pl := by omega
              have hres := hst.trans (if_pos (by omega))
              refine z_iload dX9_shorthand_163 rfl ?_
              refine z_iload dX9_shorthand_165 rfl ?_
              refine cs_X9_233 dX9_shorthand_167 (D_X9_letter (a := kR Nw w k) (q := i9 - pl) hk1 (by omega)) rfl rfl (Nat.le_of_ble_eq_true rfl) (by decide) (z_ki ?_)
              exact z_iret F dX9_shorthand_170 rfl (by decide) ⟨fun q => ⟨congrArg (fun z => some (z_i z)) (hres.symm), rfl⟩, fun q => absurd (by omega) q⟩
          have K126 : ∀ (x10 x11 x12 : z_V), z_w g X cX9_shorthand RX9 (3, 0, 0) 126 [z_r (A 0), z_i (w : Int), z_i i9, z_i (zF Nw w : Int), z_i pl, z_i (k : Int), z_i (kR Nw w k), z_i (t : Int), z_i (shL (kR Nw w k)), z_i (shD (t : Int)), x10, x11, x12] [] (MH h0 A Rf Nw Th Tp Tx Kd Ia It Lk Ho Sz Im Mv kp ln sz at_ we pa de ti lf md mn hi ha is_ ca) 0 0 := by
            intro x10 x11 x12
            refine z_iload dX9_shorthand_126 rfl ?_
            refine z_iload dX9_shorthand_128 rfl ?_
            refine z_iadd dX9_shorthand_130 ?_
            refine z_iload_n dX9_shorthand_131 rfl ?_
            refine z_icmp_ge dX9_shorthand_132 (tgt := 139) rfl ⟨by omega, by omega⟩ ⟨by omega, by omega⟩ (fun c8 => ?_) (fun c8 => ?_)
            · skip
              refine z_iconst dX9_shorthand_139 ?_
              refine z_ieq (y := (shC (zF Nw w) (k + t))) (by unfold shC; first | rw [if_pos (by omega)] | rw [if_neg (by omega)]) ?_
              refine z_istore dX9_shorthand_140 (Nat.le_of_ble_eq_true rfl) rfl ?_
              exact K142 _ _
            · skip
              refine z_iconst dX9_shorthand_135 ?_
              refine z_goto dX9_shorthand_136 (tgt := 140) rfl ?_
              refine z_ieq (y := (shC (zF Nw w) (k + t))) (by unfold shC; first | rw [if_pos (by omega)] | rw [if_neg (by omega)]) ?_
              refine z_istore dX9_shorthand_140 (Nat.le_of_ble_eq_true rfl) rfl ?_
              exact K142 _ _
          refine z_iload dX9_shorthand_91 rfl ?_
          refine z_iconst dX9_shorthand_93 ?_
          refine z_icmp_ge dX9_shorthand_94 (tgt := 101) rfl ⟨by omega, by omega⟩ (by decide) (fun c9 => ?_) (fun c9 => ?_)
          · skip
            refine z_iload dX9_shorthand_101 rfl ?_
            refine z_bipush dX9_shorthand_103 rfl ?_
            refine z_icmp_ge dX9_shorthand_105 (tgt := 112) rfl ⟨by omega, by omega⟩ (by decide) (fun c10 => ?_) (fun c10 => ?_)
            · skip
              refine z_iload dX9_shorthand_112 rfl ?_
              refine z_bipush dX9_shorthand_114 rfl ?_
              refine z_icmp_ge dX9_shorthand_116 (tgt := 123) rfl ⟨by omega, by omega⟩ (by decide) (fun c11 => ?_) (fun c11 => ?_)
              · skip
                refine z_iconst dX9_shorthand_123 ?_
                refine z_ieq (y := (shD (t : Int))) (by unfold shD; repeat (first | rw [if_pos (by omega)] | rw [if_neg (by omega)])) ?_
                refine z_istore dX9_shorthand_124 (Nat.le_of_ble_eq_true rfl) rfl ?_
                exact K126 _ _ _
              · skip
                refine z_iconst dX9_shorthand_119 ?_
                refine z_goto dX9_shorthand_120 (tgt := 124) rfl ?_
                refine z_ieq (y := (shD (t : Int))) (by unfold shD; repeat (first | rw [if_pos (by omega)] | rw [if_neg (by omega)])) ?_
                refine z_istore dX9_shorthand_124 (Nat.le_of_ble_eq_true rfl) rfl ?_
                exact K126 _ _ _
            · skip
              refine z_iconst dX9_shorthand_108 ?_
              refine z_goto dX9_shorthand_109 (tgt := 124) rfl ?_
              refine z_ieq (y := (shD (t : Int))) (by unfold shD; repeat (first | rw [if_pos (by omega)] | rw [if_neg (by omega)])) ?_
              refine z_istore dX9_shorthand_124 (Nat.le_of_ble_eq_true rfl) rfl ?_
              exact K126 _ _ _
          · skip
            refine z_iconst dX9_shorthand_97 ?_
            refine z_goto dX9_shorthand_98 (tgt := 124) rfl ?_
            refine z_ieq (y := (shD (t : Int))) (by unfold shD; repeat (first | rw [if_pos (by omega)] | rw [if_neg (by omega)])) ?_
            refine z_istore dX9_shorthand_124 (Nat.le_of_ble_eq_true rfl) rfl ?_
            exact K126 _ _ _
        refine z_iload dX9_shorthand_27 rfl ?_
        refine z_iload_n dX9_shorthand_29 rfl ?_
        refine z_icmp_ge dX9_shorthand_30 (tgt := 281) rfl ⟨by omega, by omega⟩ ⟨by omega, by omega⟩ (fun c12 => ?_) (fun c12 => ?_)
        · skip
          have hend : shV (kR Nw w) (zF Nw w) i9 = -1 := q3.trans (if_neg (by omega))
          refine z_iconst dX9_shorthand_281 ?_
          exact z_iret F dX9_shorthand_282 rfl (by decide) ⟨fun q => ⟨congrArg (fun z => some (z_i z)) (hend.symm), rfl⟩, fun q => absurd (by omega) q⟩
        · skip
          have hk : kOk (kR Nw w k) := hWw.2.2.2 k (by omega)
          have hkl : k < (zF Nw w) := by omega
          have hkL1 : z_in (if (1 : Int) = 0 then kL0 (kR Nw w k) else kL1 (kR Nw w k)) := by rw [if_neg (by decide)]; exact kL1_in _
          refine z_aload_n dX9_shorthand_33 rfl ?_
          refine z_iload_n dX9_shorthand_34 rfl ?_
          refine z_iload dX9_shorthand_35 rfl ?_
          refine cs_X9_212 dX9_shorthand_37 (D_X9_kind hM hWw (i := k) (by omega)) MH_0 rfl rfl (Nat.le_of_ble_eq_true rfl) (by decide) (z_ki ?_)
          refine z_istore dX9_shorthand_40 (Nat.le_of_ble_eq_true rfl) rfl ?_
          refine z_iconst dX9_shorthand_42 ?_
          refine z_istore dX9_shorthand_43 (Nat.le_of_ble_eq_true rfl) rfl ?_
          have L5 : ∀ (fu : Nat) (t v : Nat) (p1 : k + t ≤ (zF Nw w)) (p2 : t + v = (zF Nw w) + 1) (p3 : rl (kR Nw w) (zF Nw w) k = rlG (kR Nw w) (zF Nw w) k v t) (p4 : t = 0 → k < (zF Nw w)), v < fu → z_w g X cX9_shorthand RX9 (3, 0, 0) 45 [z_r (A 0), z_i (w : Int), z_i i9, z_i (zF Nw w : Int), z_i pl, z_i (k : Int), z_i (kR Nw w (k)), z_i (t : Int), x8, x9, x10, x11, x12] [] (MH h0 A Rf Nw Th Tp Tx Kd Ia It Lk Ho Sz Im Mv kp ln sz at_ we pa de ti lf md mn hi ha is_ ca) 0 0 := by
            intro fu
            induction fu with
            | zero => intro t v p1 p2 p3 p4 hm; exact absurd hm (Nat.not_lt_zero _)
            | succ fu2 ih2 =>
              intro t v p1 p2 p3 p4 hm
              refine z_iload dX9_shorthand_45 rfl ?_
              refine z_iload dX9_shorthand_47 rfl ?_
              refine z_iadd dX9_shorthand_49 ?_
              refine z_iload_n dX9_shorthand_50 rfl ?_
              refine z_icmp_ge dX9_shorthand_51 (tgt := 75) rfl ⟨by omega, by omega⟩ ⟨by omega, by omega⟩ (fun c13 => ?_) (fun c13 => ?_)
              · skip
                have hrl : rl (kR Nw w) (zF Nw w) k = t := by rw [p3]; cases v with
                  | zero => rfl
                  | succ v => exact if_neg (fun q => by have := q.1; omega)
                have ht0 : ¬ t = 0 := fun q => by omega
                refine z_iload dX9_shorthand_75 rfl ?_
                refine z_iconst dX9_shorthand_77 ?_
                refine cs_X9_233 dX9_shorthand_78 (D_X9_letter (a := kR Nw w k) (q := 1) (kOk_in hk) (Or.inr rfl)) rfl rfl (Nat.le_of_ble_eq_true rfl) (by decide) (z_ki ?_)
                refine z_if_ne dX9_shorthand_81 (tgt := 88) rfl hkL1 (fun c14 => ?_) (fun c14 => ?_)
                · skip
                  refine z_iconst dX9_shorthand_88 ?_
                  refine z_ieq (y := (shL (kR Nw w k))) (by unfold shL; first | rw [if_pos (by omega)] | rw [if_neg (by omega)]) ?_
                  refine z_istore dX9_shorthand_89 (Nat.le_of_ble_eq_true rfl) rfl ?_
                  exact K91 t _ _ _ _ (kOk_in hk) hk hkl ⟨by omega, by omega⟩ hrl
                · skip
                  refine z_iconst dX9_shorthand_84 ?_
                  refine z_goto dX9_shorthand_85 (tgt := 89) rfl ?_
                  refine z_ieq (y := (shL (kR Nw w k))) (by unfold shL; first | rw [if_pos (by omega)] | rw [if_neg (by omega)]) ?_
                  refine z_istore dX9_shorthand_89 (Nat.le_of_ble_eq_true rfl) rfl ?_
                  exact K91 t _ _ _ _ (kOk_in hk) hk hkl ⟨by omega, by omega⟩ hrl
              · skip
                obtain ⟨v2, rfl⟩ : ∃ y, v = y + 1 := ⟨v - 1, by omega⟩
                have hk2 : kOk (kR Nw w (k + t)) := hWw.2.2.2 (k + t) (by omega)
                have hkd := D_X9_kind (g := g) (h0 := h0) hM (Rf := Rf) (Nw := Nw) (Th := Th) (Tp := Tp) (Tx := Tx) (Kd := Kd) (Ia := Ia) (It := It) (Lk := Lk) (Ho := Ho) (Sz := Sz) (Im := Im) (Mv := Mv) (kp := kp) (ln := ln) (sz := sz) (at_ := at_) (we := we) (pa := pa) (de := de) (ti := ti) (lf := lf) (md := md) (mn := mn) (hi := hi) (ha := ha) (is_ := is_) (ca := ca) hWw (i := k + t) (by omega)
                rw [show ((k + t : Nat) : Int) = (k : Int) + (t : Int) by omega] at hkd
                refine z_aload_n dX9_shorthand_54 rfl ?_
                refine z_iload_n dX9_shorthand_55 rfl ?_
                refine z_iload dX9_shorthand_56 rfl ?_
                refine z_iload dX9_shorthand_58 rfl ?_
                refine z_iadd dX9_shorthand_60 ?_
                refine cs_X9_212 dX9_shorthand_61 hkd MH_0 rfl rfl (Nat.le_of_ble_eq_true rfl) (by decide) (z_ki ?_)
                refine z_iload dX9_shorthand_64 rfl ?_
                refine z_icmp_ne dX9_shorthand_66 (tgt := 75) rfl (kOk_in hk2) (kOk_in hk) (fun c15 => ?_) (fun c15 => ?_)
                · skip
                  have hrl : rl (kR Nw w) (zF Nw w) k = t := p3.trans (if_neg (fun q => c15 q.2))
                  have ht0 : ¬ t = 0 := fun q => by subst q; exact c15 rfl
                  refine z_iload dX9_shorthand_75 rfl ?_
                  refine z_iconst dX9_shorthand_77 ?_
                  refine cs_X9_233 dX9_shorthand_78 (D_X9_letter (a := kR Nw w k) (q := 1) (kOk_in hk) (Or.inr rfl)) rfl rfl (Nat.le_of_ble_eq_true rfl) (by decide) (z_ki ?_)
                  refine z_if_ne dX9_shorthand_81 (tgt := 88) rfl hkL1 (fun c16 => ?_) (fun c16 => ?_)
                  · skip
                    refine z_iconst dX9_shorthand_88 ?_
                    refine z_ieq (y := (shL (kR Nw w k))) (by unfold shL; first | rw [if_pos (by omega)] | rw [if_neg (by omega)]) ?_
                    refine z_istore dX9_shorthand_89 (Nat.le_of_ble_eq_true rfl) rfl ?_
                    exact K91 t _ _ _ _ (kOk_in hk) hk hkl ⟨by omega, by omega⟩ hrl
                  · skip
                    refine z_iconst dX9_shorthand_84 ?_
                    refine z_goto dX9_shorthand_85 (tgt := 89) rfl ?_
                    refine z_ieq (y := (shL (kR Nw w k))) (by unfold shL; first | rw [if_pos (by omega)] | rw [if_neg (by omega)]) ?_
                    refine z_istore dX9_shorthand_89 (Nat.le_of_ble_eq_true rfl) rfl ?_
                    exact K91 t _ _ _ _ (kOk_in hk) hk hkl ⟨by omega, by omega⟩ hrl
                · skip
                  have hgo : rlG (kR Nw w) (zF Nw w) k (v2 + 1) t = rlG (kR Nw w) (zF Nw w) k v2 (t + 1) := if_pos ⟨by omega, c15⟩
                  refine z_iinc dX9_shorthand_69 rfl rfl ?_
                  refine z_goto dX9_shorthand_72 (tgt := 45) rfl ?_
                  exact ih2 (t + 1) v2 (by omega) (by omega) (p3.trans hgo) (by omega) (by omega)
          exact L5 ((zF Nw w) + 2) 0 ((zF Nw w) + 1) (by omega) (by omega) rfl (fun _ => hkl) (by omega)
    exact L4 ((zF Nw w) + 1) 0 ((zF Nw w) + 1) 0 z_u z_u z_u z_u z_u z_u z_u (Nat.zero_le _) rfl (by omega) (by omega) (by rw [Int.sub_zero]; rfl)
  · skip
    refine z_aload_n dX9_shorthand_8 rfl ?_
    refine z_bipush dX9_shorthand_9 rfl ?_
    refine cs_X9_60 dX9_shorthand_11 (D_X9_ref0 hM) MH_0 rfl rfl (Nat.le_of_ble_eq_true rfl) (by decide) (z_ki ?_)
    exact z_iret F dX9_shorthand_14 rfl (by decide) ⟨fun q => absurd q (fun q => by omega), fun q => ⟨rfl, rfl⟩⟩
