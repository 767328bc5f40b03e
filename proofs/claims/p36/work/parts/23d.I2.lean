/-! PIECES OF THE WALK (written by wip/p36/writeB.py). -/
section PCS
variable {sv : Nat → Value} {mt : Nat → (Nat → Option ab_I) × Nat} {xs : Nat → Int32} {L : Nat} {J : Nat → Int32} {lam : Nat → Int64} {dd n0 s0 : Nat} {Q : ab_Q}
noncomputable def sI2_0_b7 : sg_S := []
noncomputable def fI2_0_b7 : sx_F := [(30, (3, 14000), (3, 14000), (0, 1))]
noncomputable def tI2_0_b7 : List sg_T := [ct_applyT 67 68 69 70 71 72 73 74 75 8 7 10130 10131 10132 10133 8130 8131 8132 8133 14010 14011 14012 14013 14000 14001 14002 14003 (0, 0) (0, 0) (0, 0) (0, 0)]
theorem pI2_0_b7 (Z : lw_W sv mt xs L lam dd) (hJ : lb_ok xs L J) (nx : lw_P sv mt xs L J lam dd n0 s0 Q 1170 l_I2_1 g_I2_1 249 1715) : lw_P sv mt xs L J lam dd n0 s0 Q 1170 l_I2_0 g_I2_0 240 1676 := by
  have hS : ∀ α, sg_So (lx_r xs L J, lam, α) sI2_0_b7 := fun α => so_nil
  exact sg_seg (d := 40) (d0 := 20) (fuel := 6000) (stop := sg_st 1170) (S := sI2_0_b7) (rs := [(0, 209)]) (F := sg_nF sI2_0_b7 fI2_0_b7) (T := tI2_0_b7) Z.1 Z.2.1 (by have := Z.2.2.1; omega) hS (fun α => sg_nF_ok (hS α) (lk_cons (fa_eq30 (vN (r14000 (J := J) hJ)) (vN (r14000 (J := J) hJ)) (rfl)) (lk_nil))) (fun α => lt_cons (ct_apply Z.1 Z.2.1 (src := lx_x1 xs L) (by decide) (rng (r10130 J) (lx_row_rng xs L 5 1 (by decide) 3 0 (by decide))) (rng (r10131 J) (lx_row_rng xs L 5 1 (by decide) 3 1 (by decide))) (rng (r10132 J) (lx_row_rng xs L 5 1 (by decide) 3 2 (by decide))) (rng (r10133 J) (lx_row_rng xs L 5 1 (by decide) 3 3 (by decide))) (r14010 (J := J) hJ) (r14011 (J := J) hJ) (r14012 (J := J) hJ) (r14013 (J := J) hJ) (qx (r14000 (J := J) hJ) (r10130 J) (r8130 J) rfl) (qx (r14001 (J := J) hJ) (r10131 J) (r8131 J) rfl) (qx (r14002 (J := J) hJ) (r10132 J) (r8132 J) rfl) (qx (r14003 (J := J) hJ) (r10133 J) (r8133 J) rfl) rfl rfl rfl rfl) (lt_nil)) (by decide +kernel) nx
noncomputable def sI2_1_b8 : sg_S := [(21, (0, 1))]
noncomputable def fI2_1_b8 : sx_F := [(30, (3, 14010), (3, 14010), (0, 1))]
noncomputable def tI2_1_b8 : List sg_T := []
theorem pI2_1_b8 (Z : lw_W sv mt xs L lam dd) (hb : lx_nf xs L 1 = 1) (hJ : lb_ok xs L J) (nx : lw_P sv mt xs L J lam dd n0 s0 Q 1170 l_I2_2 g_I2_2 258 1754) : lw_P sv mt xs L J lam dd n0 s0 Q 1170 l_I2_1 g_I2_1 249 1715 := by
  have hS : ∀ α, sg_So (lx_r xs L J, lam, α) sI2_1_b8 := fun α => so_c rfl ((r21 J).trans (congrArg iN hb)) (so_nil)
  exact sg_seg (d := 40) (d0 := 20) (fuel := 6000) (stop := sg_st 1170) (S := sI2_1_b8) (rs := [(0, 209)]) (F := sg_nF sI2_1_b8 fI2_1_b8) (T := tI2_1_b8) Z.1 Z.2.1 (by have := Z.2.2.1; omega) hS (fun α => sg_nF_ok (hS α) (lk_cons (fa_eq30 (vN (r14010 (J := J) hJ)) (vN (r14010 (J := J) hJ)) (rfl)) (lk_nil))) (fun α => lt_nil) (by decide +kernel) nx
noncomputable def sI2_1_b9 : sg_S := [(21, (0, 2))]
noncomputable def fI2_1_b9 : sx_F := [(30, (3, 14010), (3, 14010), (0, 1)), (30, (3, 14011), (3, 14011), (0, 1))]
noncomputable def tI2_1_b9 : List sg_T := []
theorem pI2_1_b9 (Z : lw_W sv mt xs L lam dd) (hb : lx_nf xs L 1 = 2) (hJ : lb_ok xs L J) (nx : lw_P sv mt xs L J lam dd n0 s0 Q 1170 l_I2_2 g_I2_2 258 1754) : lw_P sv mt xs L J lam dd n0 s0 Q 1170 l_I2_1 g_I2_1 249 1715 := by
  have hS : ∀ α, sg_So (lx_r xs L J, lam, α) sI2_1_b9 := fun α => so_c rfl ((r21 J).trans (congrArg iN hb)) (so_nil)
  exact sg_seg (d := 40) (d0 := 20) (fuel := 6000) (stop := sg_st 1170) (S := sI2_1_b9) (rs := [(0, 209)]) (F := sg_nF sI2_1_b9 fI2_1_b9) (T := tI2_1_b9) Z.1 Z.2.1 (by have := Z.2.2.1; omega) hS (fun α => sg_nF_ok (hS α) (lk_cons (fa_eq30 (vN (r14010 (J := J) hJ)) (vN (r14010 (J := J) hJ)) (rfl)) (lk_cons (fa_eq30 (vN (r14011 (J := J) hJ)) (vN (r14011 (J := J) hJ)) (rfl)) (lk_nil)))) (fun α => lt_nil) (by decide +kernel) nx
noncomputable def sI2_1_b10 : sg_S := [(21, (0, 3))]
noncomputable def fI2_1_b10 : sx_F := [(30, (3, 14010), (3, 14010), (0, 1)), (30, (3, 14011), (3, 14011), (0, 1)), (30, (3, 14012), (3, 14012), (0, 1))]
noncomputable def tI2_1_b10 : List sg_T := []
theorem pI2_1_b10 (Z : lw_W sv mt xs L lam dd) (hb : lx_nf xs L 1 = 3) (hJ : lb_ok xs L J) (nx : lw_P sv mt xs L J lam dd n0 s0 Q 1170 l_I2_2 g_I2_2 258 1754) : lw_P sv mt xs L J lam dd n0 s0 Q 1170 l_I2_1 g_I2_1 249 1715 := by
  have hS : ∀ α, sg_So (lx_r xs L J, lam, α) sI2_1_b10 := fun α => so_c rfl ((r21 J).trans (congrArg iN hb)) (so_nil)
  exact sg_seg (d := 40) (d0 := 20) (fuel := 6000) (stop := sg_st 1170) (S := sI2_1_b10) (rs := [(0, 209)]) (F := sg_nF sI2_1_b10 fI2_1_b10) (T := tI2_1_b10) Z.1 Z.2.1 (by have := Z.2.2.1; omega) hS (fun α => sg_nF_ok (hS α) (lk_cons (fa_eq30 (vN (r14010 (J := J) hJ)) (vN (r14010 (J := J) hJ)) (rfl)) (lk_cons (fa_eq30 (vN (r14011 (J := J) hJ)) (vN (r14011 (J := J) hJ)) (rfl)) (lk_cons (fa_eq30 (vN (r14012 (J := J) hJ)) (vN (r14012 (J := J) hJ)) (rfl)) (lk_nil))))) (fun α => lt_nil) (by decide +kernel) nx
noncomputable def sI2_1_b11 : sg_S := [(21, (0, 4))]
noncomputable def fI2_1_b11 : sx_F := [(30, (3, 14010), (3, 14010), (0, 1)), (30, (3, 14011), (3, 14011), (0, 1)), (30, (3, 14012), (3, 14012), (0, 1)), (30, (3, 14013), (3, 14013), (0, 1))]
noncomputable def tI2_1_b11 : List sg_T := []
theorem pI2_1_b11 (Z : lw_W sv mt xs L lam dd) (hb : lx_nf xs L 1 = 4) (hJ : lb_ok xs L J) (nx : lw_P sv mt xs L J lam dd n0 s0 Q 1170 l_I2_2 g_I2_2 258 1754) : lw_P sv mt xs L J lam dd n0 s0 Q 1170 l_I2_1 g_I2_1 249 1715 := by
  have hS : ∀ α, sg_So (lx_r xs L J, lam, α) sI2_1_b11 := fun α => so_c rfl ((r21 J).trans (congrArg iN hb)) (so_nil)
  exact sg_seg (d := 40) (d0 := 20) (fuel := 6000) (stop := sg_st 1170) (S := sI2_1_b11) (rs := [(0, 209)]) (F := sg_nF sI2_1_b11 fI2_1_b11) (T := tI2_1_b11) Z.1 Z.2.1 (by have := Z.2.2.1; omega) hS (fun α => sg_nF_ok (hS α) (lk_cons (fa_eq30 (vN (r14010 (J := J) hJ)) (vN (r14010 (J := J) hJ)) (rfl)) (lk_cons (fa_eq30 (vN (r14011 (J := J) hJ)) (vN (r14011 (J := J) hJ)) (rfl)) (lk_cons (fa_eq30 (vN (r14012 (J := J) hJ)) (vN (r14012 (J := J) hJ)) (rfl)) (lk_cons (fa_eq30 (vN (r14013 (J := J) hJ)) (vN (r14013 (J := J) hJ)) (rfl)) (lk_nil)))))) (fun α => lt_nil) (by decide +kernel) nx
end PCS
