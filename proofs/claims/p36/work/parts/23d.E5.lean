/-! PIECES OF THE WALK (written by wip/p36/writeB.py). -/
section PCS
variable {sv : Nat → Value} {mt : Nat → (Nat → Option ab_I) × Nat} {xs : Nat → Int32} {L : Nat} {J : Nat → Int32} {lam : Nat → Int64} {dd n0 s0 : Nat} {Q : ab_Q}
noncomputable def sX5_b66 : sg_S := [(10, (0, 5))]
noncomputable def fX5_b66 : sx_F := []
noncomputable def tX5_b66 : List sg_T := []
theorem pX5_b66 (Z : lw_W sv mt xs L lam dd) (hn : lx_nv xs L = 5) (nx : lw_P sv mt xs L J lam dd n0 s0 Q 740 l_E5_0 g_E5_0 335 2692) : lw_P sv mt xs L J lam dd n0 s0 Q 737 l_X5 g_X5 335 2692 := by
  have hS : ∀ α, sg_So (lx_r xs L J, lam, α) sX5_b66 := fun α => so_c rfl ((r10 J).trans (congrArg iN hn)) (so_nil)
  exact sg_seg (d := 40) (d0 := 20) (fuel := 6000) (stop := sg_st 740) (S := sX5_b66) (rs := [(0, 302)]) (F := sg_nF sX5_b66 fX5_b66) (T := tX5_b66) Z.1 Z.2.1 (by have := Z.2.2.1; omega) hS (fun α => sg_nF_ok (hS α) (lk_nil)) (fun α => lt_nil) (by decide +kernel) nx
noncomputable def sE5_0_b67 : sg_S := [(13001, (0, 1))]
noncomputable def fE5_0_b67 : sx_F := []
noncomputable def tE5_0_b67 : List sg_T := []
theorem pE5_0_b67 (Z : lw_W sv mt xs L lam dd) (nx : lw_P sv mt xs L J lam dd n0 s0 Q 740 l_E5_1 g_E5_1 340 2702) : lw_P sv mt xs L J lam dd n0 s0 Q 740 l_E5_0 g_E5_0 335 2692 := by
  have hS : ∀ α, sg_So (lx_r xs L J, lam, α) sE5_0_b67 := fun α => so_c rfl ((r13001 J).trans (tou_1)) (so_nil)
  exact sg_seg (d := 40) (d0 := 20) (fuel := 6000) (stop := sg_st 740) (S := sE5_0_b67) (rs := [(0, 302)]) (F := sg_nF sE5_0_b67 fE5_0_b67) (T := tE5_0_b67) Z.1 Z.2.1 (by have := Z.2.2.1; omega) hS (fun α => sg_nF_ok (hS α) (lk_nil)) (fun α => lt_nil) (by decide +kernel) nx
noncomputable def sE5_1_b68 : sg_S := [(13002, (0, 1))]
noncomputable def fE5_1_b68 : sx_F := [(30, (3, 21), (3, 22), (0, 0))]
noncomputable def tE5_1_b68 : List sg_T := []
theorem pE5_1_b68 (Z : lw_W sv mt xs L lam dd) (hs : lx_nf xs L 2 ≠ lx_nf xs L 1) (nx : lw_P sv mt xs L J lam dd n0 s0 Q 740 l_E5_2 g_E5_2 345 2712) : lw_P sv mt xs L J lam dd n0 s0 Q 740 l_E5_1 g_E5_1 340 2702 := by
  have hS : ∀ α, sg_So (lx_r xs L J, lam, α) sE5_1_b68 := fun α => so_c rfl ((r13002 J).trans (tou_ne hs)) (so_nil)
  exact sg_seg (d := 40) (d0 := 20) (fuel := 6000) (stop := sg_st 740) (S := sE5_1_b68) (rs := [(0, 302)]) (F := sg_nF sE5_1_b68 fE5_1_b68) (T := tE5_1_b68) Z.1 Z.2.1 (by have := Z.2.2.1; omega) hS (fun α => sg_nF_ok (hS α) (lk_cons (fa_ne30 (vN (r21 J)) (vN (r22 J)) (iN_neS (by have := lx_nf_14 xs L 1; omega) (by have := lx_nf_14 xs L 2; omega) (Ne.symm hs))) (lk_nil))) (fun α => lt_nil) (by decide +kernel) nx
noncomputable def sE5_1_b69 : sg_S := [(13002, (0, 0))]
noncomputable def fE5_1_b69 : sx_F := [(30, (3, 21), (3, 22), (0, 1))]
noncomputable def tE5_1_b69 : List sg_T := []
theorem pE5_1_b69 (Z : lw_W sv mt xs L lam dd) (hs : lx_nf xs L 2 = lx_nf xs L 1) (nx : lw_P sv mt xs L J lam dd n0 s0 Q 740 l_E5_2 g_E5_2 345 2712) : lw_P sv mt xs L J lam dd n0 s0 Q 740 l_E5_1 g_E5_1 340 2702 := by
  have hS : ∀ α, sg_So (lx_r xs L J, lam, α) sE5_1_b69 := fun α => so_c rfl ((r13002 J).trans (tou_eq (by decide) hs)) (so_nil)
  exact sg_seg (d := 40) (d0 := 20) (fuel := 6000) (stop := sg_st 740) (S := sE5_1_b69) (rs := [(0, 302)]) (F := sg_nF sE5_1_b69 fE5_1_b69) (T := tE5_1_b69) Z.1 Z.2.1 (by have := Z.2.2.1; omega) hS (fun α => sg_nF_ok (hS α) (lk_cons (fa_eq30 (vN (r21 J)) (vN (r22 J)) (congrArg iN hs.symm)) (lk_nil))) (fun α => lt_nil) (by decide +kernel) nx
noncomputable def sE5_2_b70 : sg_S := [(13003, (0, 1))]
noncomputable def fE5_2_b70 : sx_F := [(30, (3, 22), (3, 23), (0, 0))]
noncomputable def tE5_2_b70 : List sg_T := []
theorem pE5_2_b70 (Z : lw_W sv mt xs L lam dd) (hs : lx_nf xs L 3 ≠ lx_nf xs L 2) (nx : lw_P sv mt xs L J lam dd n0 s0 Q 740 l_E5_3 g_E5_3 350 2722) : lw_P sv mt xs L J lam dd n0 s0 Q 740 l_E5_2 g_E5_2 345 2712 := by
  have hS : ∀ α, sg_So (lx_r xs L J, lam, α) sE5_2_b70 := fun α => so_c rfl ((r13003 J).trans (tou_ne hs)) (so_nil)
  exact sg_seg (d := 40) (d0 := 20) (fuel := 6000) (stop := sg_st 740) (S := sE5_2_b70) (rs := [(0, 302)]) (F := sg_nF sE5_2_b70 fE5_2_b70) (T := tE5_2_b70) Z.1 Z.2.1 (by have := Z.2.2.1; omega) hS (fun α => sg_nF_ok (hS α) (lk_cons (fa_ne30 (vN (r22 J)) (vN (r23 J)) (iN_neS (by have := lx_nf_14 xs L 2; omega) (by have := lx_nf_14 xs L 3; omega) (Ne.symm hs))) (lk_nil))) (fun α => lt_nil) (by decide +kernel) nx
noncomputable def sE5_2_b71 : sg_S := [(13003, (0, 0))]
noncomputable def fE5_2_b71 : sx_F := [(30, (3, 22), (3, 23), (0, 1))]
noncomputable def tE5_2_b71 : List sg_T := []
theorem pE5_2_b71 (Z : lw_W sv mt xs L lam dd) (hs : lx_nf xs L 3 = lx_nf xs L 2) (nx : lw_P sv mt xs L J lam dd n0 s0 Q 740 l_E5_3 g_E5_3 350 2722) : lw_P sv mt xs L J lam dd n0 s0 Q 740 l_E5_2 g_E5_2 345 2712 := by
  have hS : ∀ α, sg_So (lx_r xs L J, lam, α) sE5_2_b71 := fun α => so_c rfl ((r13003 J).trans (tou_eq (by decide) hs)) (so_nil)
  exact sg_seg (d := 40) (d0 := 20) (fuel := 6000) (stop := sg_st 740) (S := sE5_2_b71) (rs := [(0, 302)]) (F := sg_nF sE5_2_b71 fE5_2_b71) (T := tE5_2_b71) Z.1 Z.2.1 (by have := Z.2.2.1; omega) hS (fun α => sg_nF_ok (hS α) (lk_cons (fa_eq30 (vN (r22 J)) (vN (r23 J)) (congrArg iN hs.symm)) (lk_nil))) (fun α => lt_nil) (by decide +kernel) nx
noncomputable def sE5_3_b72 : sg_S := [(13004, (0, 1))]
noncomputable def fE5_3_b72 : sx_F := [(30, (3, 23), (3, 24), (0, 0))]
noncomputable def tE5_3_b72 : List sg_T := []
theorem pE5_3_b72 (Z : lw_W sv mt xs L lam dd) (hs : lx_nf xs L 4 ≠ lx_nf xs L 3) (nx : lw_P sv mt xs L J lam dd n0 s0 Q 740 l_E5_4 g_E5_4 355 2732) : lw_P sv mt xs L J lam dd n0 s0 Q 740 l_E5_3 g_E5_3 350 2722 := by
  have hS : ∀ α, sg_So (lx_r xs L J, lam, α) sE5_3_b72 := fun α => so_c rfl ((r13004 J).trans (tou_ne hs)) (so_nil)
  exact sg_seg (d := 40) (d0 := 20) (fuel := 6000) (stop := sg_st 740) (S := sE5_3_b72) (rs := [(0, 302)]) (F := sg_nF sE5_3_b72 fE5_3_b72) (T := tE5_3_b72) Z.1 Z.2.1 (by have := Z.2.2.1; omega) hS (fun α => sg_nF_ok (hS α) (lk_cons (fa_ne30 (vN (r23 J)) (vN (r24 J)) (iN_neS (by have := lx_nf_14 xs L 3; omega) (by have := lx_nf_14 xs L 4; omega) (Ne.symm hs))) (lk_nil))) (fun α => lt_nil) (by decide +kernel) nx
noncomputable def sE5_3_b73 : sg_S := [(13004, (0, 0))]
noncomputable def fE5_3_b73 : sx_F := [(30, (3, 23), (3, 24), (0, 1))]
noncomputable def tE5_3_b73 : List sg_T := []
theorem pE5_3_b73 (Z : lw_W sv mt xs L lam dd) (hs : lx_nf xs L 4 = lx_nf xs L 3) (nx : lw_P sv mt xs L J lam dd n0 s0 Q 740 l_E5_4 g_E5_4 355 2732) : lw_P sv mt xs L J lam dd n0 s0 Q 740 l_E5_3 g_E5_3 350 2722 := by
  have hS : ∀ α, sg_So (lx_r xs L J, lam, α) sE5_3_b73 := fun α => so_c rfl ((r13004 J).trans (tou_eq (by decide) hs)) (so_nil)
  exact sg_seg (d := 40) (d0 := 20) (fuel := 6000) (stop := sg_st 740) (S := sE5_3_b73) (rs := [(0, 302)]) (F := sg_nF sE5_3_b73 fE5_3_b73) (T := tE5_3_b73) Z.1 Z.2.1 (by have := Z.2.2.1; omega) hS (fun α => sg_nF_ok (hS α) (lk_cons (fa_eq30 (vN (r23 J)) (vN (r24 J)) (congrArg iN hs.symm)) (lk_nil))) (fun α => lt_nil) (by decide +kernel) nx
end PCS
