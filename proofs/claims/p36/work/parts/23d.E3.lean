/-! PIECES OF THE WALK (written by wip/p36/writeB.py). -/
section PCS
variable {sv : Nat → Value} {mt : Nat → (Nat → Option ab_I) × Nat} {xs : Nat → Int32} {L : Nat} {J : Nat → Int32} {lam : Nat → Int64} {dd n0 s0 : Nat} {Q : ab_Q}
noncomputable def sX3_b12 : sg_S := [(10, (0, 3))]
noncomputable def fX3_b12 : sx_F := []
noncomputable def tX3_b12 : List sg_T := []
theorem pX3_b12 (Z : lw_W sv mt xs L lam dd) (hn : lx_nv xs L = 3) (nx : lw_P sv mt xs L J lam dd n0 s0 Q 740 l_E3_0 g_E3_0 257 1960) : lw_P sv mt xs L J lam dd n0 s0 Q 737 l_X3 g_X3 257 1960 := by
  have hS : ∀ α, sg_So (lx_r xs L J, lam, α) sX3_b12 := fun α => so_c rfl ((r10 J).trans (congrArg iN hn)) (so_nil)
  exact sg_seg (d := 40) (d0 := 20) (fuel := 6000) (stop := sg_st 740) (S := sX3_b12) (rs := [(0, 234)]) (F := sg_nF sX3_b12 fX3_b12) (T := tX3_b12) Z.1 Z.2.1 (by have := Z.2.2.1; omega) hS (fun α => sg_nF_ok (hS α) (lk_nil)) (fun α => lt_nil) (by decide +kernel) nx
noncomputable def sE3_0_b13 : sg_S := [(13001, (0, 1))]
noncomputable def fE3_0_b13 : sx_F := []
noncomputable def tE3_0_b13 : List sg_T := []
theorem pE3_0_b13 (Z : lw_W sv mt xs L lam dd) (nx : lw_P sv mt xs L J lam dd n0 s0 Q 740 l_E3_1 g_E3_1 262 1970) : lw_P sv mt xs L J lam dd n0 s0 Q 740 l_E3_0 g_E3_0 257 1960 := by
  have hS : ∀ α, sg_So (lx_r xs L J, lam, α) sE3_0_b13 := fun α => so_c rfl ((r13001 J).trans (tou_1)) (so_nil)
  exact sg_seg (d := 40) (d0 := 20) (fuel := 6000) (stop := sg_st 740) (S := sE3_0_b13) (rs := [(0, 234)]) (F := sg_nF sE3_0_b13 fE3_0_b13) (T := tE3_0_b13) Z.1 Z.2.1 (by have := Z.2.2.1; omega) hS (fun α => sg_nF_ok (hS α) (lk_nil)) (fun α => lt_nil) (by decide +kernel) nx
noncomputable def sE3_1_b14 : sg_S := [(13002, (0, 1))]
noncomputable def fE3_1_b14 : sx_F := [(30, (3, 21), (3, 22), (0, 0))]
noncomputable def tE3_1_b14 : List sg_T := []
theorem pE3_1_b14 (Z : lw_W sv mt xs L lam dd) (hs : lx_nf xs L 2 ≠ lx_nf xs L 1) (nx : lw_P sv mt xs L J lam dd n0 s0 Q 740 l_E3_2 g_E3_2 267 1980) : lw_P sv mt xs L J lam dd n0 s0 Q 740 l_E3_1 g_E3_1 262 1970 := by
  have hS : ∀ α, sg_So (lx_r xs L J, lam, α) sE3_1_b14 := fun α => so_c rfl ((r13002 J).trans (tou_ne hs)) (so_nil)
  exact sg_seg (d := 40) (d0 := 20) (fuel := 6000) (stop := sg_st 740) (S := sE3_1_b14) (rs := [(0, 234)]) (F := sg_nF sE3_1_b14 fE3_1_b14) (T := tE3_1_b14) Z.1 Z.2.1 (by have := Z.2.2.1; omega) hS (fun α => sg_nF_ok (hS α) (lk_cons (fa_ne30 (vN (r21 J)) (vN (r22 J)) (iN_neS (by have := lx_nf_14 xs L 1; omega) (by have := lx_nf_14 xs L 2; omega) (Ne.symm hs))) (lk_nil))) (fun α => lt_nil) (by decide +kernel) nx
noncomputable def sE3_1_b15 : sg_S := [(13002, (0, 0))]
noncomputable def fE3_1_b15 : sx_F := [(30, (3, 21), (3, 22), (0, 1))]
noncomputable def tE3_1_b15 : List sg_T := []
theorem pE3_1_b15 (Z : lw_W sv mt xs L lam dd) (hs : lx_nf xs L 2 = lx_nf xs L 1) (nx : lw_P sv mt xs L J lam dd n0 s0 Q 740 l_E3_2 g_E3_2 267 1980) : lw_P sv mt xs L J lam dd n0 s0 Q 740 l_E3_1 g_E3_1 262 1970 := by
  have hS : ∀ α, sg_So (lx_r xs L J, lam, α) sE3_1_b15 := fun α => so_c rfl ((r13002 J).trans (tou_eq (by decide) hs)) (so_nil)
  exact sg_seg (d := 40) (d0 := 20) (fuel := 6000) (stop := sg_st 740) (S := sE3_1_b15) (rs := [(0, 234)]) (F := sg_nF sE3_1_b15 fE3_1_b15) (T := tE3_1_b15) Z.1 Z.2.1 (by have := Z.2.2.1; omega) hS (fun α => sg_nF_ok (hS α) (lk_cons (fa_eq30 (vN (r21 J)) (vN (r22 J)) (congrArg iN hs.symm)) (lk_nil))) (fun α => lt_nil) (by decide +kernel) nx
end PCS
