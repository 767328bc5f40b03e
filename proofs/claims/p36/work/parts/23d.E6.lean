/-! PIECES OF THE WALK (written by wip/p36/writeB.py). -/
section PCS
variable {sv : Nat → Value} {mt : Nat → (Nat → Option ab_I) × Nat} {xs : Nat → Int32} {L : Nat} {J : Nat → Int32} {lam : Nat → Int64} {dd n0 s0 : Nat} {Q : ab_Q}
noncomputable def sX6_b108 : sg_S := [(10, (0, 6))]
noncomputable def fX6_b108 : sx_F := []
noncomputable def tX6_b108 : List sg_T := []
theorem pX6_b108 (Z : lw_W sv mt xs L lam dd) (hn : lx_nv xs L = 6) (nx : lw_P sv mt xs L J lam dd n0 s0 Q 740 l_E6_0 g_E6_0 374 3058) : lw_P sv mt xs L J lam dd n0 s0 Q 737 l_X6 g_X6 374 3058 := by
  have hS : ∀ α, sg_So (lx_r xs L J, lam, α) sX6_b108 := fun α => so_c rfl ((r10 J).trans (congrArg iN hn)) (so_nil)
  exact sg_seg (d := 40) (d0 := 20) (fuel := 6000) (stop := sg_st 740) (S := sX6_b108) (rs := [(0, 336)]) (F := sg_nF sX6_b108 fX6_b108) (T := tX6_b108) Z.1 Z.2.1 (by have := Z.2.2.1; omega) hS (fun α => sg_nF_ok (hS α) (lk_nil)) (fun α => lt_nil) (by decide +kernel) nx
noncomputable def sE6_0_b109 : sg_S := [(13001, (0, 1))]
noncomputable def fE6_0_b109 : sx_F := []
noncomputable def tE6_0_b109 : List sg_T := []
theorem pE6_0_b109 (Z : lw_W sv mt xs L lam dd) (nx : lw_P sv mt xs L J lam dd n0 s0 Q 740 l_E6_1 g_E6_1 379 3068) : lw_P sv mt xs L J lam dd n0 s0 Q 740 l_E6_0 g_E6_0 374 3058 := by
  have hS : ∀ α, sg_So (lx_r xs L J, lam, α) sE6_0_b109 := fun α => so_c rfl ((r13001 J).trans (tou_1)) (so_nil)
  exact sg_seg (d := 40) (d0 := 20) (fuel := 6000) (stop := sg_st 740) (S := sE6_0_b109) (rs := [(0, 336)]) (F := sg_nF sE6_0_b109 fE6_0_b109) (T := tE6_0_b109) Z.1 Z.2.1 (by have := Z.2.2.1; omega) hS (fun α => sg_nF_ok (hS α) (lk_nil)) (fun α => lt_nil) (by decide +kernel) nx
noncomputable def sE6_1_b110 : sg_S := [(13002, (0, 1))]
noncomputable def fE6_1_b110 : sx_F := [(30, (3, 21), (3, 22), (0, 0))]
noncomputable def tE6_1_b110 : List sg_T := []
theorem pE6_1_b110 (Z : lw_W sv mt xs L lam dd) (hs : lx_nf xs L 2 ≠ lx_nf xs L 1) (nx : lw_P sv mt xs L J lam dd n0 s0 Q 740 l_E6_2 g_E6_2 384 3078) : lw_P sv mt xs L J lam dd n0 s0 Q 740 l_E6_1 g_E6_1 379 3068 := by
  have hS : ∀ α, sg_So (lx_r xs L J, lam, α) sE6_1_b110 := fun α => so_c rfl ((r13002 J).trans (tou_ne hs)) (so_nil)
  exact sg_seg (d := 40) (d0 := 20) (fuel := 6000) (stop := sg_st 740) (S := sE6_1_b110) (rs := [(0, 336)]) (F := sg_nF sE6_1_b110 fE6_1_b110) (T := tE6_1_b110) Z.1 Z.2.1 (by have := Z.2.2.1; omega) hS (fun α => sg_nF_ok (hS α) (lk_cons (fa_ne30 (vN (r21 J)) (vN (r22 J)) (iN_neS (by have := lx_nf_14 xs L 1; omega) (by have := lx_nf_14 xs L 2; omega) (Ne.symm hs))) (lk_nil))) (fun α => lt_nil) (by decide +kernel) nx
noncomputable def sE6_1_b111 : sg_S := [(13002, (0, 0))]
noncomputable def fE6_1_b111 : sx_F := [(30, (3, 21), (3, 22), (0, 1))]
noncomputable def tE6_1_b111 : List sg_T := []
theorem pE6_1_b111 (Z : lw_W sv mt xs L lam dd) (hs : lx_nf xs L 2 = lx_nf xs L 1) (nx : lw_P sv mt xs L J lam dd n0 s0 Q 740 l_E6_2 g_E6_2 384 3078) : lw_P sv mt xs L J lam dd n0 s0 Q 740 l_E6_1 g_E6_1 379 3068 := by
  have hS : ∀ α, sg_So (lx_r xs L J, lam, α) sE6_1_b111 := fun α => so_c rfl ((r13002 J).trans (tou_eq (by decide) hs)) (so_nil)
  exact sg_seg (d := 40) (d0 := 20) (fuel := 6000) (stop := sg_st 740) (S := sE6_1_b111) (rs := [(0, 336)]) (F := sg_nF sE6_1_b111 fE6_1_b111) (T := tE6_1_b111) Z.1 Z.2.1 (by have := Z.2.2.1; omega) hS (fun α => sg_nF_ok (hS α) (lk_cons (fa_eq30 (vN (r21 J)) (vN (r22 J)) (congrArg iN hs.symm)) (lk_nil))) (fun α => lt_nil) (by decide +kernel) nx
noncomputable def sE6_2_b112 : sg_S := [(13003, (0, 1))]
noncomputable def fE6_2_b112 : sx_F := [(30, (3, 22), (3, 23), (0, 0))]
noncomputable def tE6_2_b112 : List sg_T := []
theorem pE6_2_b112 (Z : lw_W sv mt xs L lam dd) (hs : lx_nf xs L 3 ≠ lx_nf xs L 2) (nx : lw_P sv mt xs L J lam dd n0 s0 Q 740 l_E6_3 g_E6_3 389 3088) : lw_P sv mt xs L J lam dd n0 s0 Q 740 l_E6_2 g_E6_2 384 3078 := by
  have hS : ∀ α, sg_So (lx_r xs L J, lam, α) sE6_2_b112 := fun α => so_c rfl ((r13003 J).trans (tou_ne hs)) (so_nil)
  exact sg_seg (d := 40) (d0 := 20) (fuel := 6000) (stop := sg_st 740) (S := sE6_2_b112) (rs := [(0, 336)]) (F := sg_nF sE6_2_b112 fE6_2_b112) (T := tE6_2_b112) Z.1 Z.2.1 (by have := Z.2.2.1; omega) hS (fun α => sg_nF_ok (hS α) (lk_cons (fa_ne30 (vN (r22 J)) (vN (r23 J)) (iN_neS (by have := lx_nf_14 xs L 2; omega) (by have := lx_nf_14 xs L 3; omega) (Ne.symm hs))) (lk_nil))) (fun α => lt_nil) (by decide +kernel) nx
noncomputable def sE6_2_b113 : sg_S := [(13003, (0, 0))]
noncomputable def fE6_2_b113 : sx_F := [(30, (3, 22), (3, 23), (0, 1))]
noncomputable def tE6_2_b113 : List sg_T := []
theorem pE6_2_b113 (Z : lw_W sv mt xs L lam dd) (hs : lx_nf xs L 3 = lx_nf xs L 2) (nx : lw_P sv mt xs L J lam dd n0 s0 Q 740 l_E6_3 g_E6_3 389 3088) : lw_P sv mt xs L J lam dd n0 s0 Q 740 l_E6_2 g_E6_2 384 3078 := by
  have hS : ∀ α, sg_So (lx_r xs L J, lam, α) sE6_2_b113 := fun α => so_c rfl ((r13003 J).trans (tou_eq (by decide) hs)) (so_nil)
  exact sg_seg (d := 40) (d0 := 20) (fuel := 6000) (stop := sg_st 740) (S := sE6_2_b113) (rs := [(0, 336)]) (F := sg_nF sE6_2_b113 fE6_2_b113) (T := tE6_2_b113) Z.1 Z.2.1 (by have := Z.2.2.1; omega) hS (fun α => sg_nF_ok (hS α) (lk_cons (fa_eq30 (vN (r22 J)) (vN (r23 J)) (congrArg iN hs.symm)) (lk_nil))) (fun α => lt_nil) (by decide +kernel) nx
noncomputable def sE6_3_b114 : sg_S := [(13004, (0, 1))]
noncomputable def fE6_3_b114 : sx_F := [(30, (3, 23), (3, 24), (0, 0))]
noncomputable def tE6_3_b114 : List sg_T := []
theorem pE6_3_b114 (Z : lw_W sv mt xs L lam dd) (hs : lx_nf xs L 4 ≠ lx_nf xs L 3) (nx : lw_P sv mt xs L J lam dd n0 s0 Q 740 l_E6_4 g_E6_4 394 3098) : lw_P sv mt xs L J lam dd n0 s0 Q 740 l_E6_3 g_E6_3 389 3088 := by
  have hS : ∀ α, sg_So (lx_r xs L J, lam, α) sE6_3_b114 := fun α => so_c rfl ((r13004 J).trans (tou_ne hs)) (so_nil)
  exact sg_seg (d := 40) (d0 := 20) (fuel := 6000) (stop := sg_st 740) (S := sE6_3_b114) (rs := [(0, 336)]) (F := sg_nF sE6_3_b114 fE6_3_b114) (T := tE6_3_b114) Z.1 Z.2.1 (by have := Z.2.2.1; omega) hS (fun α => sg_nF_ok (hS α) (lk_cons (fa_ne30 (vN (r23 J)) (vN (r24 J)) (iN_neS (by have := lx_nf_14 xs L 3; omega) (by have := lx_nf_14 xs L 4; omega) (Ne.symm hs))) (lk_nil))) (fun α => lt_nil) (by decide +kernel) nx
noncomputable def sE6_3_b115 : sg_S := [(13004, (0, 0))]
noncomputable def fE6_3_b115 : sx_F := [(30, (3, 23), (3, 24), (0, 1))]
noncomputable def tE6_3_b115 : List sg_T := []
theorem pE6_3_b115 (Z : lw_W sv mt xs L lam dd) (hs : lx_nf xs L 4 = lx_nf xs L 3) (nx : lw_P sv mt xs L J lam dd n0 s0 Q 740 l_E6_4 g_E6_4 394 3098) : lw_P sv mt xs L J lam dd n0 s0 Q 740 l_E6_3 g_E6_3 389 3088 := by
  have hS : ∀ α, sg_So (lx_r xs L J, lam, α) sE6_3_b115 := fun α => so_c rfl ((r13004 J).trans (tou_eq (by decide) hs)) (so_nil)
  exact sg_seg (d := 40) (d0 := 20) (fuel := 6000) (stop := sg_st 740) (S := sE6_3_b115) (rs := [(0, 336)]) (F := sg_nF sE6_3_b115 fE6_3_b115) (T := tE6_3_b115) Z.1 Z.2.1 (by have := Z.2.2.1; omega) hS (fun α => sg_nF_ok (hS α) (lk_cons (fa_eq30 (vN (r23 J)) (vN (r24 J)) (congrArg iN hs.symm)) (lk_nil))) (fun α => lt_nil) (by decide +kernel) nx
noncomputable def sE6_4_b116 : sg_S := [(13005, (0, 1))]
noncomputable def fE6_4_b116 : sx_F := [(30, (3, 24), (3, 25), (0, 0))]
noncomputable def tE6_4_b116 : List sg_T := []
theorem pE6_4_b116 (Z : lw_W sv mt xs L lam dd) (hs : lx_nf xs L 5 ≠ lx_nf xs L 4) (nx : lw_P sv mt xs L J lam dd n0 s0 Q 740 l_E6_5 g_E6_5 399 3108) : lw_P sv mt xs L J lam dd n0 s0 Q 740 l_E6_4 g_E6_4 394 3098 := by
  have hS : ∀ α, sg_So (lx_r xs L J, lam, α) sE6_4_b116 := fun α => so_c rfl ((r13005 J).trans (tou_ne hs)) (so_nil)
  exact sg_seg (d := 40) (d0 := 20) (fuel := 6000) (stop := sg_st 740) (S := sE6_4_b116) (rs := [(0, 336)]) (F := sg_nF sE6_4_b116 fE6_4_b116) (T := tE6_4_b116) Z.1 Z.2.1 (by have := Z.2.2.1; omega) hS (fun α => sg_nF_ok (hS α) (lk_cons (fa_ne30 (vN (r24 J)) (vN (r25 J)) (iN_neS (by have := lx_nf_14 xs L 4; omega) (by have := lx_nf_14 xs L 5; omega) (Ne.symm hs))) (lk_nil))) (fun α => lt_nil) (by decide +kernel) nx
noncomputable def sE6_4_b117 : sg_S := [(13005, (0, 0))]
noncomputable def fE6_4_b117 : sx_F := [(30, (3, 24), (3, 25), (0, 1))]
noncomputable def tE6_4_b117 : List sg_T := []
theorem pE6_4_b117 (Z : lw_W sv mt xs L lam dd) (hs : lx_nf xs L 5 = lx_nf xs L 4) (nx : lw_P sv mt xs L J lam dd n0 s0 Q 740 l_E6_5 g_E6_5 399 3108) : lw_P sv mt xs L J lam dd n0 s0 Q 740 l_E6_4 g_E6_4 394 3098 := by
  have hS : ∀ α, sg_So (lx_r xs L J, lam, α) sE6_4_b117 := fun α => so_c rfl ((r13005 J).trans (tou_eq (by decide) hs)) (so_nil)
  exact sg_seg (d := 40) (d0 := 20) (fuel := 6000) (stop := sg_st 740) (S := sE6_4_b117) (rs := [(0, 336)]) (F := sg_nF sE6_4_b117 fE6_4_b117) (T := tE6_4_b117) Z.1 Z.2.1 (by have := Z.2.2.1; omega) hS (fun α => sg_nF_ok (hS α) (lk_cons (fa_eq30 (vN (r24 J)) (vN (r25 J)) (congrArg iN hs.symm)) (lk_nil))) (fun α => lt_nil) (by decide +kernel) nx
end PCS
