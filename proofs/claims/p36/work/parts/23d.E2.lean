/-! PIECES OF THE WALK (written by wip/p36/writeB.py). -/
section PCS
variable {sv : Nat → Value} {mt : Nat → (Nat → Option ab_I) × Nat} {xs : Nat → Int32} {L : Nat} {J : Nat → Int32} {lam : Nat → Int64} {dd n0 s0 : Nat} {Q : ab_Q}
noncomputable def sX2_b0 : sg_S := [(10, (0, 2))]
noncomputable def fX2_b0 : sx_F := []
noncomputable def tX2_b0 : List sg_T := []
theorem pX2_b0 (Z : lw_W sv mt xs L lam dd) (hn : lx_nv xs L = 2) (nx : lw_P sv mt xs L J lam dd n0 s0 Q 740 l_E2_0 g_E2_0 218 1594) : lw_P sv mt xs L J lam dd n0 s0 Q 737 l_X2 g_X2 218 1594 := by
  have hS : ∀ α, sg_So (lx_r xs L J, lam, α) sX2_b0 := fun α => so_c rfl ((r10 J).trans (congrArg iN hn)) (so_nil)
  exact sg_seg (d := 40) (d0 := 20) (fuel := 6000) (stop := sg_st 740) (S := sX2_b0) (rs := [(0, 200)]) (F := sg_nF sX2_b0 fX2_b0) (T := tX2_b0) Z.1 Z.2.1 (by have := Z.2.2.1; omega) hS (fun α => sg_nF_ok (hS α) (lk_nil)) (fun α => lt_nil) (by decide +kernel) nx
noncomputable def sE2_0_b1 : sg_S := [(13001, (0, 1))]
noncomputable def fE2_0_b1 : sx_F := []
noncomputable def tE2_0_b1 : List sg_T := []
theorem pE2_0_b1 (Z : lw_W sv mt xs L lam dd) (nx : lw_P sv mt xs L J lam dd n0 s0 Q 740 l_E2_1 g_E2_1 223 1604) : lw_P sv mt xs L J lam dd n0 s0 Q 740 l_E2_0 g_E2_0 218 1594 := by
  have hS : ∀ α, sg_So (lx_r xs L J, lam, α) sE2_0_b1 := fun α => so_c rfl ((r13001 J).trans (tou_1)) (so_nil)
  exact sg_seg (d := 40) (d0 := 20) (fuel := 6000) (stop := sg_st 740) (S := sE2_0_b1) (rs := [(0, 200)]) (F := sg_nF sE2_0_b1 fE2_0_b1) (T := tE2_0_b1) Z.1 Z.2.1 (by have := Z.2.2.1; omega) hS (fun α => sg_nF_ok (hS α) (lk_nil)) (fun α => lt_nil) (by decide +kernel) nx
end PCS
