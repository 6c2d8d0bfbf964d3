/-! the reference: what reads the text -/
set_option maxHeartbeats 4000000 in
set_option maxRecDepth 100000 in
theorem D_X9_peek {g : z_G} {h0 : z_H} {A : Nat → Nat} (hM : mD A) {Rf Nw Th Tp Tx Kd Ia It Lk Ho Sz Im Mv : Nat → Int} {kp ln sz at_ we pa de ti lf md mn hi ha is_ ca : Int} {n j : Nat} (hn : n ≤ 250) (hj : j < 1000) (hs : sz = (n : Int)) (ha9 : at_ = (j : Int)) : z_D g mX9_peek 1 0 0 [z_r (A 0)] (MH h0 A Rf Nw Th Tp Tx Kd Ia It Lk Ho Sz Im Mv kp ln sz at_ we pa de ti lf md mn hi ha is_ ca) (z_Pi (pe n Tx j) (MH h0 A Rf Nw Th Tp Tx Kd Ia It Lk Ho Sz Im Mv kp ln sz at_ we pa de ti lf md mn hi ha is_ ca)) := by
  refine z_D.of (by decide +kernel) (Nat.le_of_ble_eq_true rfl) (fun X F => ?_)
  show z_w g X cX9_peek RX9 (1, 0, 0) 0 [z_r (A 0)] [] (MH h0 A Rf Nw Th Tp Tx Kd Ia It Lk Ho Sz Im Mv kp ln sz at_ we pa de ti lf md mn hi ha is_ ca) 0 0
  refine z_aload_n dX9_peek_0 rfl ?_
  refine gf_X9_67 dX9_peek_1 MH_0 rfl ?_
  refine z_aload_n dX9_peek_4 rfl ?_
  refine gf_X9_70 dX9_peek_5 MH_0 rfl ?_
  refine z_icmp_ge dX9_peek_8 (tgt := 23) rfl ⟨by omega, by omega⟩ ⟨by omega, by omega⟩ (fun c1 => ?_) (fun c1 => ?_)
  · skip
    refine z_iconst dX9_peek_23 ?_
    exact z_iret F dX9_peek_24 rfl (by decide) ⟨congrArg (fun z => some (z_i z)) (by subst ha9; unfold pe; first | rw [if_pos (by omega)] <;> rfl | rw [if_neg (by omega)]), rfl⟩
  · skip
    refine z_aload_n dX9_peek_11 rfl ?_
    refine gf_X9_22 dX9_peek_12 MH_0 rfl ?_
    refine z_aload_n dX9_peek_15 rfl ?_
    refine gf_X9_67 dX9_peek_16 MH_0 rfl ?_
    refine z_iald dX9_peek_19 (MH_5 hM) ⟨by omega, by omega, by omega⟩ ?_
    refine z_goto dX9_peek_20 (tgt := 24) rfl ?_
    exact z_iret F dX9_peek_24 rfl (by decide) ⟨congrArg (fun z => some (z_i z)) (by subst ha9; unfold pe; first | rw [if_pos (by omega)] <;> rfl | rw [if_neg (by omega)]), rfl⟩
