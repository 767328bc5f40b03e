/-! PIECES OF THE WALK (written by wip/p36/writeB.py). -/
section PCS
variable {sv : Nat → Value} {mt : Nat → (Nat → Option ab_I) × Nat} {xs : Nat → Int32} {L : Nat} {J : Nat → Int32} {lam : Nat → Int64} {dd n0 s0 : Nat} {Q : ab_Q}
noncomputable def sG2_2_b6 : sg_S := []
noncomputable def fG2_2_b6 : sx_F := []
noncomputable def tG2_2_b6 : List sg_T := []
theorem pG2_2_b6 (Z : lw_W sv mt xs L lam dd) (nx : lw_P sv mt xs L J lam dd n0 s0 Q 1170 l_I2_0 g_I2_0 240 1676) : lw_P sv mt xs L J lam dd n0 s0 Q 1092 l_G2_2 g_G2_2 240 1676 := by
  have hS : ∀ α, sg_So (lx_r xs L J, lam, α) sG2_2_b6 := fun α => so_nil
  exact sg_seg (d := 40) (d0 := 20) (fuel := 6000) (stop := sg_st 1170) (S := sG2_2_b6) (rs := [(0, 209)]) (F := sg_nF sG2_2_b6 fG2_2_b6) (T := tG2_2_b6) Z.1 Z.2.1 (by have := Z.2.2.1; omega) hS (fun α => sg_nF_ok (hS α) (lk_nil)) (fun α => lt_nil) (by decide +kernel) nx
end PCS
