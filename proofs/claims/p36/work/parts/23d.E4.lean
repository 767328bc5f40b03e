/-! PIECES OF THE WALK (written by wip/p36/writeB.py). -/
section PCS
variable {sv : Nat → Value} {mt : Nat → (Nat → Option ab_I) × Nat} {xs : Nat → Int32} {L : Nat} {J : Nat → Int32} {lam : Nat → Int64} {dd n0 s0 : Nat} {Q : ab_Q}
noncomputable def sX4_b34 : sg_S := [(10, (0, 4))]
noncomputable def fX4_b34 : sx_F := []
noncomputable def tX4_b34 : List sg_T := []
theorem pX4_b34 (Z : lw_W sv mt xs L lam dd) (hn : lx_nv xs L = 4) (nx : lw_P sv mt xs L J lam dd n0 s0 Q 740 l_E4_0 g_E4_0 296 2326) : lw_P sv mt xs L J lam dd n0 s0 Q 737 l_X4 g_X4 296 2326 := by
  have hS : ∀ α, sg_So (lx_r xs L J, lam, α) sX4_b34 := fun α => so_c rfl ((r10 J).trans (congrArg iN hn)) (so_nil)
  exact sg_seg (d := 40) (d0 := 20) (fuel := 6000) (stop := sg_st 740) (S := sX4_b34) (rs := [(0, 268)]) (F := sg_nF sX4_b34 fX4_b34) (T := tX4_b34) Z.1 Z.2.1 (by have := Z.2.2.1; omega) hS (fun α => sg_nF_ok (hS α) (lk_nil)) (fun α => lt_nil) (by decide +kernel) nx
noncomputable def sE4_0_b35 : sg_S := [(13001, (0, 1))]
noncomputable def fE4_0_b35 : sx_F := []
noncomputable def tE4_0_b35 : List sg_T := []
theorem pE4_0_b35 (Z : lw_W sv mt xs L lam dd) (nx : lw_P sv mt xs L J lam dd n0 s0 Q 740 l_E4_1 g_E4_1 301 2336) : lw_P sv mt xs L J lam dd n0 s0 Q 740 l_E4_0 g_E4_0 296 2326 := by
  have hS : ∀ α, sg_So (lx_r xs L J, lam, α) sE4_0_b35 := fun α => so_c rfl ((r13001 J).trans (tou_1)) (so_nil)
  exact sg_seg (d := 40) (d0 := 20) (fuel := 6000) (stop := sg_st 740) (S := sE4_0_b35) (rs := [(0, 268)]) (F := sg_nF sE4_0_b35 fE4_0_b35) (T := tE4_0_b35) Z.1 Z.2.1 (by have := Z.2.2.1; omega) hS (fun α => sg_nF_ok (hS α) (lk_nil)) (fun α => lt_nil) (by decide +kernel) nx
noncomputable def sE4_1_b36 : sg_S := [(13002, (0, 1))]
noncomputable def fE4_1_b36 : sx_F := [(30, (3, 21), (3, 22), (0, 0))]
noncomputable def tE4_1_b36 : List sg_T := []
theorem pE4_1_b36 (Z : lw_W sv mt xs L lam dd) (hs : lx_nf xs L 2 ≠ lx_nf xs L 1) (nx : lw_P sv mt xs L J lam dd n0 s0 Q 740 l_E4_2 g_E4_2 306 2346) : lw_P sv mt xs L J lam dd n0 s0 Q 740 l_E4_1 g_E4_1 301 2336 := by
  have hS : ∀ α, sg_So (lx_r xs L J, lam, α) sE4_1_b36 := fun α => so_c rfl ((r13002 J).trans (tou_ne hs)) (so_nil)
  exact sg_seg (d := 40) (d0 := 20) (fuel := 6000) (stop := sg_st 740) (S := sE4_1_b36) (rs := [(0, 268)]) (F := sg_nF sE4_1_b36 fE4_1_b36) (T := tE4_1_b36) Z.1 Z.2.1 (by have := Z.2.2.1; omega) hS (fun α => sg_nF_ok (hS α) (lk_cons (fa_ne30 (vN (r21 J)) (vN (r22 J)) (iN_neS (by have := lx_nf_14 xs L 1; omega) (by have := lx_nf_14 xs L 2; omega) (Ne.symm hs))) (lk_nil))) (fun α => lt_nil) (by decide +kernel) nx
noncomputable def sE4_1_b37 : sg_S := [(13002, (0, 0))]
noncomputable def fE4_1_b37 : sx_F := [(30, (3, 21), (3, 22), (0, 1))]
noncomputable def tE4_1_b37 : List sg_T := []
theorem pE4_1_b37 (Z : lw_W sv mt xs L lam dd) (hs : lx_nf xs L 2 = lx_nf xs L 1) (nx : lw_P sv mt xs L J lam dd n0 s0 Q 740 l_E4_2 g_E4_2 306 2346) : lw_P sv mt xs L J lam dd n0 s0 Q 740 l_E4_1 g_E4_1 301 2336 := by
  have hS : ∀ α, sg_So (lx_r xs L J, lam, α) sE4_1_b37 := fun α => so_c rfl ((r13002 J).trans (tou_eq (by decide) hs)) (so_nil)
  exact sg_seg (d := 40) (d0 := 20) (fuel := 6000) (stop := sg_st 740) (S := sE4_1_b37) (rs := [(0, 268)]) (F := sg_nF sE4_1_b37 fE4_1_b37) (T := tE4_1_b37) Z.1 Z.2.1 (by have := Z.2.2.1; omega) hS (fun α => sg_nF_ok (hS α) (lk_cons (fa_eq30 (vN (r21 J)) (vN (r22 J)) (congrArg iN hs.symm)) (lk_nil))) (fun α => lt_nil) (by decide +kernel) nx
noncomputable def sE4_2_b38 : sg_S := [(13003, (0, 1))]
noncomputable def fE4_2_b38 : sx_F := [(30, (3, 22), (3, 23), (0, 0))]
noncomputable def tE4_2_b38 : List sg_T := []
theorem pE4_2_b38 (Z : lw_W sv mt xs L lam dd) (hs : lx_nf xs L 3 ≠ lx_nf xs L 2) (nx : lw_P sv mt xs L J lam dd n0 s0 Q 740 l_E4_3 g_E4_3 311 2356) : lw_P sv mt xs L J lam dd n0 s0 Q 740 l_E4_2 g_E4_2 306 2346 := by
  have hS : ∀ α, sg_So (lx_r xs L J, lam, α) sE4_2_b38 := fun α => so_c rfl ((r13003 J).trans (tou_ne hs)) (so_nil)
  exact sg_seg (d := 40) (d0 := 20) (fuel := 6000) (stop := sg_st 740) (S := sE4_2_b38) (rs := [(0, 268)]) (F := sg_nF sE4_2_b38 fE4_2_b38) (T := tE4_2_b38) Z.1 Z.2.1 (by have := Z.2.2.1; omega) hS (fun α => sg_nF_ok (hS α) (lk_cons (fa_ne30 (vN (r22 J)) (vN (r23 J)) (iN_neS (by have := lx_nf_14 xs L 2; omega) (by have := lx_nf_14 xs L 3; omega) (Ne.symm hs))) (lk_nil))) (fun α => lt_nil) (by decide +kernel) nx
noncomputable def sE4_2_b39 : sg_S := [(13003, (0, 0))]
noncomputable def fE4_2_b39 : sx_F := [(30, (3, 22), (3, 23), (0, 1))]
noncomputable def tE4_2_b39 : List sg_T := []
theorem pE4_2_b39 (Z : lw_W sv mt xs L lam dd) (hs : lx_nf xs L 3 = lx_nf xs L 2) (nx : lw_P sv mt xs L J lam dd n0 s0 Q 740 l_E4_3 g_E4_3 311 2356) : lw_P sv mt xs L J lam dd n0 s0 Q 740 l_E4_2 g_E4_2 306 2346 := by
  have hS : ∀ α, sg_So (lx_r xs L J, lam, α) sE4_2_b39 := fun α => so_c rfl ((r13003 J).trans (tou_eq (by decide) hs)) (so_nil)
  exact sg_seg (d := 40) (d0 := 20) (fuel := 6000) (stop := sg_st 740) (S := sE4_2_b39) (rs := [(0, 268)]) (F := sg_nF sE4_2_b39 fE4_2_b39) (T := tE4_2_b39) Z.1 Z.2.1 (by have := Z.2.2.1; omega) hS (fun α => sg_nF_ok (hS α) (lk_cons (fa_eq30 (vN (r22 J)) (vN (r23 J)) (congrArg iN hs.symm)) (lk_nil))) (fun α => lt_nil) (by decide +kernel) nx
end PCS
