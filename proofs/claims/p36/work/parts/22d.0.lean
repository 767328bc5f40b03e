/-! PIECES OF THE WALK (written by wip/p36/writeA.py). -/
section PCS
variable {sv : Nat → Value} {mt : Nat → (Nat → Option ab_I) × Nat} {xs : Nat → Int32} {L : Nat} {J : Nat → Int32} {lam : Nat → Int64} {dd n0 s0 : Nat} {Q : ab_Q}
noncomputable def sH_0 : sg_S := []
noncomputable def fH_0 : sx_F := [(0, (0, 2), (3, 3000), (3, 10))]
noncomputable def tH_0 : List sg_T := [lw_ats 0, lw_som 2000 5 3000]
theorem pH_0 (Z : lw_W sv mt xs L lam dd) (nx : lw_P sv mt xs L J lam dd n0 s0 Q 162 l_A1 g_A1 169 1178) : lw_P sv mt xs L J lam dd n0 s0 Q 0 l_H g_H 0 0 := by
  have hS : ∀ α, sg_So (lx_r xs L J, lam, α) sH_0 := fun α => so_nil
  exact sg_seg (d := 40) (d0 := 20) (fuel := 6000) (stop := sg_st 162) (S := sH_0) (rs := [(0, 137), (142, 29)]) (F := sg_nF sH_0 fH_0) (T := tH_0) Z.1 Z.2.1 (by have := Z.2.2.1; omega) hS (fun α => sg_nF_ok (hS α) (lk_cons (fa_add (cN 2) (vN (r3000 J)) (vN (r10 J))) (lk_nil))) (fun α => lt_cons (Z.2.2.2.1 _ _ _) (lt_cons (Z.2.2.2.2 _ _ _ _ (by decide) (by decide) (r3000 J)) (lt_nil))) (by decide +kernel) nx
noncomputable def sA2_236 : sg_S := []
noncomputable def fA2_236 : sx_F := [(33, (0, 2), (3, 10), (0, 1))]
noncomputable def tA2_236 : List sg_T := []
theorem pA2_236 (Z : lw_W sv mt xs L lam dd) (hv : lx_nv xs L = 2) (nx : lw_P sv mt xs L J lam dd n0 s0 Q 737 l_X2 g_X2 218 1594) : lw_P sv mt xs L J lam dd n0 s0 Q 162 l_A2 g_A2 218 1594 := by
  have hS : ∀ α, sg_So (lx_r xs L J, lam, α) sA2_236 := fun α => so_nil
  exact sg_seg (d := 40) (d0 := 20) (fuel := 6000) (stop := sg_st 737) (S := sA2_236) (rs := [(0, 200)]) (F := sg_nF sA2_236 fA2_236) (T := tA2_236) Z.1 Z.2.1 (by have := Z.2.2.1; omega) hS (fun α => sg_nF_ok (hS α) (lk_cons (fa_ge33 (cN 2) (vN (r10 J)) (iN_leS (by have := lx_nv_26 xs L; omega) (by decide) (by omega))) (lk_nil))) (fun α => lt_nil) (by decide +kernel) nx
noncomputable def sA3_237 : sg_S := []
noncomputable def fA3_237 : sx_F := [(33, (0, 3), (3, 10), (0, 1))]
noncomputable def tA3_237 : List sg_T := []
theorem pA3_237 (Z : lw_W sv mt xs L lam dd) (hv : lx_nv xs L = 3) (nx : lw_P sv mt xs L J lam dd n0 s0 Q 737 l_X3 g_X3 257 1960) : lw_P sv mt xs L J lam dd n0 s0 Q 162 l_A3 g_A3 257 1960 := by
  have hS : ∀ α, sg_So (lx_r xs L J, lam, α) sA3_237 := fun α => so_nil
  exact sg_seg (d := 40) (d0 := 20) (fuel := 6000) (stop := sg_st 737) (S := sA3_237) (rs := [(0, 234)]) (F := sg_nF sA3_237 fA3_237) (T := tA3_237) Z.1 Z.2.1 (by have := Z.2.2.1; omega) hS (fun α => sg_nF_ok (hS α) (lk_cons (fa_ge33 (cN 3) (vN (r10 J)) (iN_leS (by have := lx_nv_26 xs L; omega) (by decide) (by omega))) (lk_nil))) (fun α => lt_nil) (by decide +kernel) nx
noncomputable def sA4_238 : sg_S := []
noncomputable def fA4_238 : sx_F := [(33, (0, 4), (3, 10), (0, 1))]
noncomputable def tA4_238 : List sg_T := []
theorem pA4_238 (Z : lw_W sv mt xs L lam dd) (hv : lx_nv xs L = 4) (nx : lw_P sv mt xs L J lam dd n0 s0 Q 737 l_X4 g_X4 296 2326) : lw_P sv mt xs L J lam dd n0 s0 Q 162 l_A4 g_A4 296 2326 := by
  have hS : ∀ α, sg_So (lx_r xs L J, lam, α) sA4_238 := fun α => so_nil
  exact sg_seg (d := 40) (d0 := 20) (fuel := 6000) (stop := sg_st 737) (S := sA4_238) (rs := [(0, 268)]) (F := sg_nF sA4_238 fA4_238) (T := tA4_238) Z.1 Z.2.1 (by have := Z.2.2.1; omega) hS (fun α => sg_nF_ok (hS α) (lk_cons (fa_ge33 (cN 4) (vN (r10 J)) (iN_leS (by have := lx_nv_26 xs L; omega) (by decide) (by omega))) (lk_nil))) (fun α => lt_nil) (by decide +kernel) nx
noncomputable def sA5_239 : sg_S := []
noncomputable def fA5_239 : sx_F := [(33, (0, 5), (3, 10), (0, 1))]
noncomputable def tA5_239 : List sg_T := []
theorem pA5_239 (Z : lw_W sv mt xs L lam dd) (hv : lx_nv xs L = 5) (nx : lw_P sv mt xs L J lam dd n0 s0 Q 737 l_X5 g_X5 335 2692) : lw_P sv mt xs L J lam dd n0 s0 Q 162 l_A5 g_A5 335 2692 := by
  have hS : ∀ α, sg_So (lx_r xs L J, lam, α) sA5_239 := fun α => so_nil
  exact sg_seg (d := 40) (d0 := 20) (fuel := 6000) (stop := sg_st 737) (S := sA5_239) (rs := [(0, 302)]) (F := sg_nF sA5_239 fA5_239) (T := tA5_239) Z.1 Z.2.1 (by have := Z.2.2.1; omega) hS (fun α => sg_nF_ok (hS α) (lk_cons (fa_ge33 (cN 5) (vN (r10 J)) (iN_leS (by have := lx_nv_26 xs L; omega) (by decide) (by omega))) (lk_nil))) (fun α => lt_nil) (by decide +kernel) nx
noncomputable def sA6_240 : sg_S := []
noncomputable def fA6_240 : sx_F := [(33, (0, 6), (3, 10), (0, 1))]
noncomputable def tA6_240 : List sg_T := []
theorem pA6_240 (Z : lw_W sv mt xs L lam dd) (hv : lx_nv xs L = 6) (nx : lw_P sv mt xs L J lam dd n0 s0 Q 737 l_X6 g_X6 374 3058) : lw_P sv mt xs L J lam dd n0 s0 Q 162 l_A6 g_A6 374 3058 := by
  have hS : ∀ α, sg_So (lx_r xs L J, lam, α) sA6_240 := fun α => so_nil
  exact sg_seg (d := 40) (d0 := 20) (fuel := 6000) (stop := sg_st 737) (S := sA6_240) (rs := [(0, 336)]) (F := sg_nF sA6_240 fA6_240) (T := tA6_240) Z.1 Z.2.1 (by have := Z.2.2.1; omega) hS (fun α => sg_nF_ok (hS α) (lk_cons (fa_ge33 (cN 6) (vN (r10 J)) (iN_leS (by have := lx_nv_26 xs L; omega) (by decide) (by omega))) (lk_nil))) (fun α => lt_nil) (by decide +kernel) nx
end PCS
