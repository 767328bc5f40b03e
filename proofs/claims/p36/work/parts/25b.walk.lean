/-! THE WHOLE WALK. -/
section WLK
variable {sv : Nat → Value} {mt : Nat → (Nat → Option ab_I) × Nat} {xs : Nat → Int32} {L : Nat} {J : Nat → Int32} {lam : Nat → Int64} {dd n0 s0 : Nat} {Q : ab_Q}
theorem hE2 (Z : lw_W sv mt xs L lam dd) (hn : lx_nv xs L = 2) (hl : lc_l lam) (hQ : ∀ h : ab_H, h.2.1 ≤ n0 + 599 → h.2.2 ≤ s0 + 3927 → Q (.inl (some (.int 1))) h) (J : Nat → Int32) (hJ : lb_ok xs L J) (hC : lc_ok xs L J) : lw_P sv mt xs L J lam dd n0 s0 Q 1326 l_K2_5 g_K2_5 288 1838 := by
  have w : lw_P sv mt xs L J lam dd n0 s0 Q 2856 l_W2 g_W2 375 2222 := pW2_z3 Z hJ hC hl hQ
  have hs := lk_ns_lt xs L 5
  rcases (by omega : lk_ns xs L 5 = 0 ∨ lk_ns xs L 5 = 1) with h | h
  · exact pK2_5_z0 Z hJ hC hl (pY2_z1 Z hJ hC hl h w)
  · exact pK2_5_z0 Z hJ hC hl (pY2_z2 Z hJ hC hl h w)
theorem hcar2_0 (Z : lw_W sv mt xs L lam dd) (hn : lx_nv xs L = 2) : ∀ J, lb_ok xs L J → lc_ok xs L J → lk_tk xs L 0 = true → lk_x xs L 0 / 3 % 2 = 1 → ∃ J', (∀ i, i < 20010 ∨ 20010 + 10 ≤ i → J i = J' i) ∧ ∀ α, sg_ct sv mt 35 (lx_r xs L J', lam, α) kT2_0 := fun J hJ hC ht ho => by
  refine ⟨kJ2 xs L J 20010 (lk_ns xs L 0) (lk_np xs L 1), kJ2_out, fun α => ?_⟩
  rw [kt_2_0]
  have o1 : kJ2 xs L J 20010 (lk_ns xs L 0) (lk_np xs L 1) 16010 = iN (lk_ns xs L 0) := (kJ2_out 16010 (by decide)).symm.trans ((hC 16010 (by decide) (by decide)).trans rfl)
  have o2 : kJ2 xs L J 20010 (lk_ns xs L 0) (lk_np xs L 1) 16020 = iN (lk_np xs L 1) := (kJ2_out 16020 (by decide)).symm.trans (((hC 16020 (by decide) (by decide)).trans rfl).trans (to_np ht).symm)
  exact ct_carry2 Z.1 Z.2.1 (s := lk_ns xs L 0) (t := lk_np xs L 1) (by decide) (by decide) (by decide) (by decide) o1 o2 (by have := lk_ns_lt xs L 0; omega) (by have := lk_np_lt xs L 1; omega) (fun i hi => kJ2_a (by decide) i hi) (fun i hi => kJ2_b (by decide) i hi)
theorem hcar2_1 (Z : lw_W sv mt xs L lam dd) (hn : lx_nv xs L = 2) : ∀ J, lb_ok xs L J → lc_ok xs L J → lk_tk xs L 1 = true → lk_x xs L 1 / 3 % 2 = 1 → ∃ J', (∀ i, i < 20020 ∨ 20020 + 10 ≤ i → J i = J' i) ∧ ∀ α, sg_ct sv mt 35 (lx_r xs L J', lam, α) kT2_1 := fun J hJ hC ht ho => by
  refine ⟨kJ2 xs L J 20020 (lk_ns xs L 1) (lk_np xs L 2), kJ2_out, fun α => ?_⟩
  rw [kt_2_1]
  have o1 : kJ2 xs L J 20020 (lk_ns xs L 1) (lk_np xs L 2) 16011 = iN (lk_ns xs L 1) := (kJ2_out 16011 (by decide)).symm.trans ((hC 16011 (by decide) (by decide)).trans rfl)
  have o2 : kJ2 xs L J 20020 (lk_ns xs L 1) (lk_np xs L 2) 16021 = iN (lk_np xs L 2) := (kJ2_out 16021 (by decide)).symm.trans (((hC 16021 (by decide) (by decide)).trans rfl).trans (to_np ht).symm)
  exact ct_carry2 Z.1 Z.2.1 (s := lk_ns xs L 1) (t := lk_np xs L 2) (by decide) (by decide) (by decide) (by decide) o1 o2 (by have := lk_ns_lt xs L 1; omega) (by have := lk_np_lt xs L 2; omega) (fun i hi => kJ2_a (by decide) i hi) (fun i hi => kJ2_b (by decide) i hi)
theorem hcar2_2 (Z : lw_W sv mt xs L lam dd) (hn : lx_nv xs L = 2) : ∀ J, lb_ok xs L J → lc_ok xs L J → lk_tk xs L 2 = true → lk_x xs L 2 / 3 % 2 = 1 → ∃ J', (∀ i, i < 20030 ∨ 20030 + 10 ≤ i → J i = J' i) ∧ ∀ α, sg_ct sv mt 35 (lx_r xs L J', lam, α) kT2_2 := fun J hJ hC ht ho => by
  refine ⟨kJ2 xs L J 20030 (lk_ns xs L 2) (lk_np xs L 3), kJ2_out, fun α => ?_⟩
  rw [kt_2_2]
  have o1 : kJ2 xs L J 20030 (lk_ns xs L 2) (lk_np xs L 3) 16012 = iN (lk_ns xs L 2) := (kJ2_out 16012 (by decide)).symm.trans ((hC 16012 (by decide) (by decide)).trans rfl)
  have o2 : kJ2 xs L J 20030 (lk_ns xs L 2) (lk_np xs L 3) 16022 = iN (lk_np xs L 3) := (kJ2_out 16022 (by decide)).symm.trans (((hC 16022 (by decide) (by decide)).trans rfl).trans (to_np ht).symm)
  exact ct_carry2 Z.1 Z.2.1 (s := lk_ns xs L 2) (t := lk_np xs L 3) (by decide) (by decide) (by decide) (by decide) o1 o2 (by have := lk_ns_lt xs L 2; omega) (by have := lk_np_lt xs L 3; omega) (fun i hi => kJ2_a (by decide) i hi) (fun i hi => kJ2_b (by decide) i hi)
theorem hcar2_3 (Z : lw_W sv mt xs L lam dd) (hn : lx_nv xs L = 2) : ∀ J, lb_ok xs L J → lc_ok xs L J → lk_tk xs L 3 = true → lk_x xs L 3 / 3 % 2 = 1 → ∃ J', (∀ i, i < 20040 ∨ 20040 + 10 ≤ i → J i = J' i) ∧ ∀ α, sg_ct sv mt 35 (lx_r xs L J', lam, α) kT2_3 := fun J hJ hC ht ho => by
  refine ⟨kJ2 xs L J 20040 (lk_ns xs L 3) (lk_np xs L 4), kJ2_out, fun α => ?_⟩
  rw [kt_2_3]
  have o1 : kJ2 xs L J 20040 (lk_ns xs L 3) (lk_np xs L 4) 16013 = iN (lk_ns xs L 3) := (kJ2_out 16013 (by decide)).symm.trans ((hC 16013 (by decide) (by decide)).trans rfl)
  have o2 : kJ2 xs L J 20040 (lk_ns xs L 3) (lk_np xs L 4) 16023 = iN (lk_np xs L 4) := (kJ2_out 16023 (by decide)).symm.trans (((hC 16023 (by decide) (by decide)).trans rfl).trans (to_np ht).symm)
  exact ct_carry2 Z.1 Z.2.1 (s := lk_ns xs L 3) (t := lk_np xs L 4) (by decide) (by decide) (by decide) (by decide) o1 o2 (by have := lk_ns_lt xs L 3; omega) (by have := lk_np_lt xs L 4; omega) (fun i hi => kJ2_a (by decide) i hi) (fun i hi => kJ2_b (by decide) i hi)
theorem hcar2_4 (Z : lw_W sv mt xs L lam dd) (hn : lx_nv xs L = 2) : ∀ J, lb_ok xs L J → lc_ok xs L J → lk_tk xs L 4 = true → lk_x xs L 4 / 3 % 2 = 1 → ∃ J', (∀ i, i < 20050 ∨ 20050 + 10 ≤ i → J i = J' i) ∧ ∀ α, sg_ct sv mt 35 (lx_r xs L J', lam, α) kT2_4 := fun J hJ hC ht ho => by
  refine ⟨kJ2 xs L J 20050 (lk_ns xs L 4) (lk_np xs L 5), kJ2_out, fun α => ?_⟩
  rw [kt_2_4]
  have o1 : kJ2 xs L J 20050 (lk_ns xs L 4) (lk_np xs L 5) 16014 = iN (lk_ns xs L 4) := (kJ2_out 16014 (by decide)).symm.trans ((hC 16014 (by decide) (by decide)).trans rfl)
  have o2 : kJ2 xs L J 20050 (lk_ns xs L 4) (lk_np xs L 5) 16024 = iN (lk_np xs L 5) := (kJ2_out 16024 (by decide)).symm.trans (((hC 16024 (by decide) (by decide)).trans rfl).trans (to_np ht).symm)
  exact ct_carry2 Z.1 Z.2.1 (s := lk_ns xs L 4) (t := lk_np xs L 5) (by decide) (by decide) (by decide) (by decide) o1 o2 (by have := lk_ns_lt xs L 4; omega) (by have := lk_np_lt xs L 5; omega) (fun i hi => kJ2_a (by decide) i hi) (fun i hi => kJ2_b (by decide) i hi)
theorem hW2 (Z : lw_W sv mt xs L lam dd) (hn : lx_nv xs L = 2) (hb : lb_l xs L lam) (hl : lc_l lam) (hL : (lam 0).toNatClampNeg ≤ 1000) (hQ : ∀ h : ab_H, h.2.1 ≤ n0 + 599 → h.2.2 ≤ s0 + 3927 → Q (.inl (some (.int 1))) h) : lw_P sv mt xs L (lz_J xs L) lam dd n0 s0 Q 737 l_X2 g_X2 218 1594 := by
  have k4 : ∀ J : Nat → Int32, lb_ok xs L J → lc_ok xs L J → lw_P sv mt xs L J lam dd n0 s0 Q 1326 l_K2_4 g_K2_4 283 1825 := hK2_4 Z hn hl hL (hcar2_4 Z hn) (hE2 Z hn hl hQ)
  have k3 : ∀ J : Nat → Int32, lb_ok xs L J → lc_ok xs L J → lw_P sv mt xs L J lam dd n0 s0 Q 1326 l_K2_3 g_K2_3 278 1812 := hK2_3 Z hn hl hL (hcar2_3 Z hn) (k4)
  have k2 : ∀ J : Nat → Int32, lb_ok xs L J → lc_ok xs L J → lw_P sv mt xs L J lam dd n0 s0 Q 1326 l_K2_2 g_K2_2 273 1799 := hK2_2 Z hn hl hL (hcar2_2 Z hn) (k3)
  have k1 : ∀ J : Nat → Int32, lb_ok xs L J → lc_ok xs L J → lw_P sv mt xs L J lam dd n0 s0 Q 1326 l_K2_1 g_K2_1 268 1786 := hK2_1 Z hn hl hL (hcar2_1 Z hn) (k2)
  have k0 : ∀ J : Nat → Int32, lb_ok xs L J → lc_ok xs L J → lw_P sv mt xs L J lam dd n0 s0 Q 1326 l_K2_0 g_K2_0 263 1773 := hK2_0 Z hn hl hL (hcar2_0 Z hn) (k1)
  have i0 : lw_P sv mt xs L (lz_J xs L) lam dd n0 s0 Q 1170 l_I2_2 g_I2_2 258 1754 := pI2_2_k0 Z (lz_b xs L) (lz_c xs L) (lz_r xs L 0 (by decide)) (lz_q xs L 0 0 (by decide) (by decide) (by omega)) (lz_r xs L 1 (by decide)) (lz_q xs L 0 1 (by decide) (by decide) (by omega)) (lz_r xs L 2 (by decide)) (lz_q xs L 0 2 (by decide) (by decide) (by omega)) (lz_r xs L 3 (by decide)) (lz_q xs L 0 3 (by decide) (by decide) (by omega)) (k0 _ (lz_b xs L) (lz_c xs L))
  exact hX2 Z hn (lz_b xs L) hb i0
theorem hE3 (Z : lw_W sv mt xs L lam dd) (hn : lx_nv xs L = 3) (hl : lc_l lam) (hQ : ∀ h : ab_H, h.2.1 ≤ n0 + 599 → h.2.2 ≤ s0 + 3927 → Q (.inl (some (.int 1))) h) (J : Nat → Int32) (hJ : lb_ok xs L J) (hC : lc_ok xs L J) : lw_P sv mt xs L J lam dd n0 s0 Q 1326 l_K3_5 g_K3_5 342 2257 := by
  have w : lw_P sv mt xs L J lam dd n0 s0 Q 2856 l_W3 g_W3 429 2641 := pW3_z8 Z hJ hC hl hQ
  have hs := lk_ns_lt xs L 5
  rcases (by omega : lk_ns xs L 5 = 0 ∨ lk_ns xs L 5 = 1 ∨ lk_ns xs L 5 = 2) with h | h | h
  · exact pK3_5_z4 Z hJ hC hl (pY3_z5 Z hJ hC hl h w)
  · exact pK3_5_z4 Z hJ hC hl (pY3_z6 Z hJ hC hl h w)
  · exact pK3_5_z4 Z hJ hC hl (pY3_z7 Z hJ hC hl h w)
theorem hcar3_0 (Z : lw_W sv mt xs L lam dd) (hn : lx_nv xs L = 3) : ∀ J, lb_ok xs L J → lc_ok xs L J → lk_tk xs L 0 = true → lk_x xs L 0 / 3 % 2 = 1 → ∃ J', (∀ i, i < 20010 ∨ 20010 + 10 ≤ i → J i = J' i) ∧ ∀ α, sg_ct sv mt 35 (lx_r xs L J', lam, α) kT3_0 := fun J hJ hC ht ho => by
  refine ⟨kJ2 xs L J 20010 (lk_ns xs L 0) (lk_np xs L 1), kJ2_out, fun α => ?_⟩
  rw [kt_3_0]
  have o1 : kJ2 xs L J 20010 (lk_ns xs L 0) (lk_np xs L 1) 16010 = iN (lk_ns xs L 0) := (kJ2_out 16010 (by decide)).symm.trans ((hC 16010 (by decide) (by decide)).trans rfl)
  have o2 : kJ2 xs L J 20010 (lk_ns xs L 0) (lk_np xs L 1) 16020 = iN (lk_np xs L 1) := (kJ2_out 16020 (by decide)).symm.trans (((hC 16020 (by decide) (by decide)).trans rfl).trans (to_np ht).symm)
  exact ct_carry3 Z.1 Z.2.1 (s := lk_ns xs L 0) (t := lk_np xs L 1) (by decide) (by decide) (by decide) (by decide) o1 o2 (by have := lk_ns_lt xs L 0; omega) (by have := lk_np_lt xs L 1; omega) (fun i hi => kJ2_a (by decide) i hi) (fun i hi => kJ2_b (by decide) i hi)
theorem hcar3_1 (Z : lw_W sv mt xs L lam dd) (hn : lx_nv xs L = 3) : ∀ J, lb_ok xs L J → lc_ok xs L J → lk_tk xs L 1 = true → lk_x xs L 1 / 3 % 2 = 1 → ∃ J', (∀ i, i < 20020 ∨ 20020 + 10 ≤ i → J i = J' i) ∧ ∀ α, sg_ct sv mt 35 (lx_r xs L J', lam, α) kT3_1 := fun J hJ hC ht ho => by
  refine ⟨kJ2 xs L J 20020 (lk_ns xs L 1) (lk_np xs L 2), kJ2_out, fun α => ?_⟩
  rw [kt_3_1]
  have o1 : kJ2 xs L J 20020 (lk_ns xs L 1) (lk_np xs L 2) 16011 = iN (lk_ns xs L 1) := (kJ2_out 16011 (by decide)).symm.trans ((hC 16011 (by decide) (by decide)).trans rfl)
  have o2 : kJ2 xs L J 20020 (lk_ns xs L 1) (lk_np xs L 2) 16021 = iN (lk_np xs L 2) := (kJ2_out 16021 (by decide)).symm.trans (((hC 16021 (by decide) (by decide)).trans rfl).trans (to_np ht).symm)
  exact ct_carry3 Z.1 Z.2.1 (s := lk_ns xs L 1) (t := lk_np xs L 2) (by decide) (by decide) (by decide) (by decide) o1 o2 (by have := lk_ns_lt xs L 1; omega) (by have := lk_np_lt xs L 2; omega) (fun i hi => kJ2_a (by decide) i hi) (fun i hi => kJ2_b (by decide) i hi)
theorem hcar3_2 (Z : lw_W sv mt xs L lam dd) (hn : lx_nv xs L = 3) : ∀ J, lb_ok xs L J → lc_ok xs L J → lk_tk xs L 2 = true → lk_x xs L 2 / 3 % 2 = 1 → ∃ J', (∀ i, i < 20030 ∨ 20030 + 10 ≤ i → J i = J' i) ∧ ∀ α, sg_ct sv mt 35 (lx_r xs L J', lam, α) kT3_2 := fun J hJ hC ht ho => by
  refine ⟨kJ2 xs L J 20030 (lk_ns xs L 2) (lk_np xs L 3), kJ2_out, fun α => ?_⟩
  rw [kt_3_2]
  have o1 : kJ2 xs L J 20030 (lk_ns xs L 2) (lk_np xs L 3) 16012 = iN (lk_ns xs L 2) := (kJ2_out 16012 (by decide)).symm.trans ((hC 16012 (by decide) (by decide)).trans rfl)
  have o2 : kJ2 xs L J 20030 (lk_ns xs L 2) (lk_np xs L 3) 16022 = iN (lk_np xs L 3) := (kJ2_out 16022 (by decide)).symm.trans (((hC 16022 (by decide) (by decide)).trans rfl).trans (to_np ht).symm)
  exact ct_carry3 Z.1 Z.2.1 (s := lk_ns xs L 2) (t := lk_np xs L 3) (by decide) (by decide) (by decide) (by decide) o1 o2 (by have := lk_ns_lt xs L 2; omega) (by have := lk_np_lt xs L 3; omega) (fun i hi => kJ2_a (by decide) i hi) (fun i hi => kJ2_b (by decide) i hi)
theorem hcar3_3 (Z : lw_W sv mt xs L lam dd) (hn : lx_nv xs L = 3) : ∀ J, lb_ok xs L J → lc_ok xs L J → lk_tk xs L 3 = true → lk_x xs L 3 / 3 % 2 = 1 → ∃ J', (∀ i, i < 20040 ∨ 20040 + 10 ≤ i → J i = J' i) ∧ ∀ α, sg_ct sv mt 35 (lx_r xs L J', lam, α) kT3_3 := fun J hJ hC ht ho => by
  refine ⟨kJ2 xs L J 20040 (lk_ns xs L 3) (lk_np xs L 4), kJ2_out, fun α => ?_⟩
  rw [kt_3_3]
  have o1 : kJ2 xs L J 20040 (lk_ns xs L 3) (lk_np xs L 4) 16013 = iN (lk_ns xs L 3) := (kJ2_out 16013 (by decide)).symm.trans ((hC 16013 (by decide) (by decide)).trans rfl)
  have o2 : kJ2 xs L J 20040 (lk_ns xs L 3) (lk_np xs L 4) 16023 = iN (lk_np xs L 4) := (kJ2_out 16023 (by decide)).symm.trans (((hC 16023 (by decide) (by decide)).trans rfl).trans (to_np ht).symm)
  exact ct_carry3 Z.1 Z.2.1 (s := lk_ns xs L 3) (t := lk_np xs L 4) (by decide) (by decide) (by decide) (by decide) o1 o2 (by have := lk_ns_lt xs L 3; omega) (by have := lk_np_lt xs L 4; omega) (fun i hi => kJ2_a (by decide) i hi) (fun i hi => kJ2_b (by decide) i hi)
theorem hcar3_4 (Z : lw_W sv mt xs L lam dd) (hn : lx_nv xs L = 3) : ∀ J, lb_ok xs L J → lc_ok xs L J → lk_tk xs L 4 = true → lk_x xs L 4 / 3 % 2 = 1 → ∃ J', (∀ i, i < 20050 ∨ 20050 + 10 ≤ i → J i = J' i) ∧ ∀ α, sg_ct sv mt 35 (lx_r xs L J', lam, α) kT3_4 := fun J hJ hC ht ho => by
  refine ⟨kJ2 xs L J 20050 (lk_ns xs L 4) (lk_np xs L 5), kJ2_out, fun α => ?_⟩
  rw [kt_3_4]
  have o1 : kJ2 xs L J 20050 (lk_ns xs L 4) (lk_np xs L 5) 16014 = iN (lk_ns xs L 4) := (kJ2_out 16014 (by decide)).symm.trans ((hC 16014 (by decide) (by decide)).trans rfl)
  have o2 : kJ2 xs L J 20050 (lk_ns xs L 4) (lk_np xs L 5) 16024 = iN (lk_np xs L 5) := (kJ2_out 16024 (by decide)).symm.trans (((hC 16024 (by decide) (by decide)).trans rfl).trans (to_np ht).symm)
  exact ct_carry3 Z.1 Z.2.1 (s := lk_ns xs L 4) (t := lk_np xs L 5) (by decide) (by decide) (by decide) (by decide) o1 o2 (by have := lk_ns_lt xs L 4; omega) (by have := lk_np_lt xs L 5; omega) (fun i hi => kJ2_a (by decide) i hi) (fun i hi => kJ2_b (by decide) i hi)
theorem hW3 (Z : lw_W sv mt xs L lam dd) (hn : lx_nv xs L = 3) (hb : lb_l xs L lam) (hl : lc_l lam) (hL : (lam 0).toNatClampNeg ≤ 1000) (hQ : ∀ h : ab_H, h.2.1 ≤ n0 + 599 → h.2.2 ≤ s0 + 3927 → Q (.inl (some (.int 1))) h) : lw_P sv mt xs L (lz_J xs L) lam dd n0 s0 Q 737 l_X3 g_X3 257 1960 := by
  have k4 : ∀ J : Nat → Int32, lb_ok xs L J → lc_ok xs L J → lw_P sv mt xs L J lam dd n0 s0 Q 1326 l_K3_4 g_K3_4 337 2244 := hK3_4 Z hn hl hL (hcar3_4 Z hn) (hE3 Z hn hl hQ)
  have k3 : ∀ J : Nat → Int32, lb_ok xs L J → lc_ok xs L J → lw_P sv mt xs L J lam dd n0 s0 Q 1326 l_K3_3 g_K3_3 332 2231 := hK3_3 Z hn hl hL (hcar3_3 Z hn) (k4)
  have k2 : ∀ J : Nat → Int32, lb_ok xs L J → lc_ok xs L J → lw_P sv mt xs L J lam dd n0 s0 Q 1326 l_K3_2 g_K3_2 327 2218 := hK3_2 Z hn hl hL (hcar3_2 Z hn) (k3)
  have k1 : ∀ J : Nat → Int32, lb_ok xs L J → lc_ok xs L J → lw_P sv mt xs L J lam dd n0 s0 Q 1326 l_K3_1 g_K3_1 322 2205 := hK3_1 Z hn hl hL (hcar3_1 Z hn) (k2)
  have k0 : ∀ J : Nat → Int32, lb_ok xs L J → lc_ok xs L J → lw_P sv mt xs L J lam dd n0 s0 Q 1326 l_K3_0 g_K3_0 317 2192 := hK3_0 Z hn hl hL (hcar3_0 Z hn) (k1)
  have i0 : lw_P sv mt xs L (lz_J xs L) lam dd n0 s0 Q 1170 l_I3_3 g_I3_3 312 2173 := pI3_3_k61 Z (lz_b xs L) (lz_c xs L) (lz_r xs L 0 (by decide)) (lz_q xs L 2 0 (by decide) (by decide) (by omega)) (lz_r xs L 1 (by decide)) (lz_q xs L 2 1 (by decide) (by decide) (by omega)) (lz_r xs L 2 (by decide)) (lz_q xs L 2 2 (by decide) (by decide) (by omega)) (lz_r xs L 3 (by decide)) (lz_q xs L 2 3 (by decide) (by decide) (by omega)) (k0 _ (lz_b xs L) (lz_c xs L))
  exact hX3 Z hn (lz_b xs L) hb i0
theorem hE4 (Z : lw_W sv mt xs L lam dd) (hn : lx_nv xs L = 4) (hl : lc_l lam) (hQ : ∀ h : ab_H, h.2.1 ≤ n0 + 599 → h.2.2 ≤ s0 + 3927 → Q (.inl (some (.int 1))) h) (J : Nat → Int32) (hJ : lb_ok xs L J) (hC : lc_ok xs L J) : lw_P sv mt xs L J lam dd n0 s0 Q 1326 l_K4_5 g_K4_5 396 2676 := by
  have w : lw_P sv mt xs L J lam dd n0 s0 Q 2856 l_W4 g_W4 483 3060 := pW4_z14 Z hJ hC hl hQ
  have hs := lk_ns_lt xs L 5
  rcases (by omega : lk_ns xs L 5 = 0 ∨ lk_ns xs L 5 = 1 ∨ lk_ns xs L 5 = 2 ∨ lk_ns xs L 5 = 3) with h | h | h | h
  · exact pK4_5_z9 Z hJ hC hl (pY4_z10 Z hJ hC hl h w)
  · exact pK4_5_z9 Z hJ hC hl (pY4_z11 Z hJ hC hl h w)
  · exact pK4_5_z9 Z hJ hC hl (pY4_z12 Z hJ hC hl h w)
  · exact pK4_5_z9 Z hJ hC hl (pY4_z13 Z hJ hC hl h w)
theorem hcar4_0 (Z : lw_W sv mt xs L lam dd) (hn : lx_nv xs L = 4) : ∀ J, lb_ok xs L J → lc_ok xs L J → lk_tk xs L 0 = true → lk_x xs L 0 / 3 % 2 = 1 → ∃ J', (∀ i, i < 20010 ∨ 20010 + 10 ≤ i → J i = J' i) ∧ ∀ α, sg_ct sv mt 35 (lx_r xs L J', lam, α) kT4_0 := fun J hJ hC ht ho => by
  refine ⟨kJ2 xs L J 20010 (lk_ns xs L 0) (lk_np xs L 1), kJ2_out, fun α => ?_⟩
  rw [kt_4_0]
  have o1 : kJ2 xs L J 20010 (lk_ns xs L 0) (lk_np xs L 1) 16010 = iN (lk_ns xs L 0) := (kJ2_out 16010 (by decide)).symm.trans ((hC 16010 (by decide) (by decide)).trans rfl)
  have o2 : kJ2 xs L J 20010 (lk_ns xs L 0) (lk_np xs L 1) 16020 = iN (lk_np xs L 1) := (kJ2_out 16020 (by decide)).symm.trans (((hC 16020 (by decide) (by decide)).trans rfl).trans (to_np ht).symm)
  exact ct_carry4 Z.1 Z.2.1 (s := lk_ns xs L 0) (t := lk_np xs L 1) (by decide) (by decide) (by decide) (by decide) o1 o2 (by have := lk_ns_lt xs L 0; omega) (by have := lk_np_lt xs L 1; omega) (fun i hi => kJ2_a (by decide) i hi) (fun i hi => kJ2_b (by decide) i hi)
theorem hcar4_1 (Z : lw_W sv mt xs L lam dd) (hn : lx_nv xs L = 4) : ∀ J, lb_ok xs L J → lc_ok xs L J → lk_tk xs L 1 = true → lk_x xs L 1 / 3 % 2 = 1 → ∃ J', (∀ i, i < 20020 ∨ 20020 + 10 ≤ i → J i = J' i) ∧ ∀ α, sg_ct sv mt 35 (lx_r xs L J', lam, α) kT4_1 := fun J hJ hC ht ho => by
  refine ⟨kJ2 xs L J 20020 (lk_ns xs L 1) (lk_np xs L 2), kJ2_out, fun α => ?_⟩
  rw [kt_4_1]
  have o1 : kJ2 xs L J 20020 (lk_ns xs L 1) (lk_np xs L 2) 16011 = iN (lk_ns xs L 1) := (kJ2_out 16011 (by decide)).symm.trans ((hC 16011 (by decide) (by decide)).trans rfl)
  have o2 : kJ2 xs L J 20020 (lk_ns xs L 1) (lk_np xs L 2) 16021 = iN (lk_np xs L 2) := (kJ2_out 16021 (by decide)).symm.trans (((hC 16021 (by decide) (by decide)).trans rfl).trans (to_np ht).symm)
  exact ct_carry4 Z.1 Z.2.1 (s := lk_ns xs L 1) (t := lk_np xs L 2) (by decide) (by decide) (by decide) (by decide) o1 o2 (by have := lk_ns_lt xs L 1; omega) (by have := lk_np_lt xs L 2; omega) (fun i hi => kJ2_a (by decide) i hi) (fun i hi => kJ2_b (by decide) i hi)
theorem hcar4_2 (Z : lw_W sv mt xs L lam dd) (hn : lx_nv xs L = 4) : ∀ J, lb_ok xs L J → lc_ok xs L J → lk_tk xs L 2 = true → lk_x xs L 2 / 3 % 2 = 1 → ∃ J', (∀ i, i < 20030 ∨ 20030 + 10 ≤ i → J i = J' i) ∧ ∀ α, sg_ct sv mt 35 (lx_r xs L J', lam, α) kT4_2 := fun J hJ hC ht ho => by
  refine ⟨kJ2 xs L J 20030 (lk_ns xs L 2) (lk_np xs L 3), kJ2_out, fun α => ?_⟩
  rw [kt_4_2]
  have o1 : kJ2 xs L J 20030 (lk_ns xs L 2) (lk_np xs L 3) 16012 = iN (lk_ns xs L 2) := (kJ2_out 16012 (by decide)).symm.trans ((hC 16012 (by decide) (by decide)).trans rfl)
  have o2 : kJ2 xs L J 20030 (lk_ns xs L 2) (lk_np xs L 3) 16022 = iN (lk_np xs L 3) := (kJ2_out 16022 (by decide)).symm.trans (((hC 16022 (by decide) (by decide)).trans rfl).trans (to_np ht).symm)
  exact ct_carry4 Z.1 Z.2.1 (s := lk_ns xs L 2) (t := lk_np xs L 3) (by decide) (by decide) (by decide) (by decide) o1 o2 (by have := lk_ns_lt xs L 2; omega) (by have := lk_np_lt xs L 3; omega) (fun i hi => kJ2_a (by decide) i hi) (fun i hi => kJ2_b (by decide) i hi)
theorem hcar4_3 (Z : lw_W sv mt xs L lam dd) (hn : lx_nv xs L = 4) : ∀ J, lb_ok xs L J → lc_ok xs L J → lk_tk xs L 3 = true → lk_x xs L 3 / 3 % 2 = 1 → ∃ J', (∀ i, i < 20040 ∨ 20040 + 10 ≤ i → J i = J' i) ∧ ∀ α, sg_ct sv mt 35 (lx_r xs L J', lam, α) kT4_3 := fun J hJ hC ht ho => by
  refine ⟨kJ2 xs L J 20040 (lk_ns xs L 3) (lk_np xs L 4), kJ2_out, fun α => ?_⟩
  rw [kt_4_3]
  have o1 : kJ2 xs L J 20040 (lk_ns xs L 3) (lk_np xs L 4) 16013 = iN (lk_ns xs L 3) := (kJ2_out 16013 (by decide)).symm.trans ((hC 16013 (by decide) (by decide)).trans rfl)
  have o2 : kJ2 xs L J 20040 (lk_ns xs L 3) (lk_np xs L 4) 16023 = iN (lk_np xs L 4) := (kJ2_out 16023 (by decide)).symm.trans (((hC 16023 (by decide) (by decide)).trans rfl).trans (to_np ht).symm)
  exact ct_carry4 Z.1 Z.2.1 (s := lk_ns xs L 3) (t := lk_np xs L 4) (by decide) (by decide) (by decide) (by decide) o1 o2 (by have := lk_ns_lt xs L 3; omega) (by have := lk_np_lt xs L 4; omega) (fun i hi => kJ2_a (by decide) i hi) (fun i hi => kJ2_b (by decide) i hi)
theorem hcar4_4 (Z : lw_W sv mt xs L lam dd) (hn : lx_nv xs L = 4) : ∀ J, lb_ok xs L J → lc_ok xs L J → lk_tk xs L 4 = true → lk_x xs L 4 / 3 % 2 = 1 → ∃ J', (∀ i, i < 20050 ∨ 20050 + 10 ≤ i → J i = J' i) ∧ ∀ α, sg_ct sv mt 35 (lx_r xs L J', lam, α) kT4_4 := fun J hJ hC ht ho => by
  refine ⟨kJ2 xs L J 20050 (lk_ns xs L 4) (lk_np xs L 5), kJ2_out, fun α => ?_⟩
  rw [kt_4_4]
  have o1 : kJ2 xs L J 20050 (lk_ns xs L 4) (lk_np xs L 5) 16014 = iN (lk_ns xs L 4) := (kJ2_out 16014 (by decide)).symm.trans ((hC 16014 (by decide) (by decide)).trans rfl)
  have o2 : kJ2 xs L J 20050 (lk_ns xs L 4) (lk_np xs L 5) 16024 = iN (lk_np xs L 5) := (kJ2_out 16024 (by decide)).symm.trans (((hC 16024 (by decide) (by decide)).trans rfl).trans (to_np ht).symm)
  exact ct_carry4 Z.1 Z.2.1 (s := lk_ns xs L 4) (t := lk_np xs L 5) (by decide) (by decide) (by decide) (by decide) o1 o2 (by have := lk_ns_lt xs L 4; omega) (by have := lk_np_lt xs L 5; omega) (fun i hi => kJ2_a (by decide) i hi) (fun i hi => kJ2_b (by decide) i hi)
theorem hW4 (Z : lw_W sv mt xs L lam dd) (hn : lx_nv xs L = 4) (hb : lb_l xs L lam) (hl : lc_l lam) (hL : (lam 0).toNatClampNeg ≤ 1000) (hQ : ∀ h : ab_H, h.2.1 ≤ n0 + 599 → h.2.2 ≤ s0 + 3927 → Q (.inl (some (.int 1))) h) : lw_P sv mt xs L (lz_J xs L) lam dd n0 s0 Q 737 l_X4 g_X4 296 2326 := by
  have k4 : ∀ J : Nat → Int32, lb_ok xs L J → lc_ok xs L J → lw_P sv mt xs L J lam dd n0 s0 Q 1326 l_K4_4 g_K4_4 391 2663 := hK4_4 Z hn hl hL (hcar4_4 Z hn) (hE4 Z hn hl hQ)
  have k3 : ∀ J : Nat → Int32, lb_ok xs L J → lc_ok xs L J → lw_P sv mt xs L J lam dd n0 s0 Q 1326 l_K4_3 g_K4_3 386 2650 := hK4_3 Z hn hl hL (hcar4_3 Z hn) (k4)
  have k2 : ∀ J : Nat → Int32, lb_ok xs L J → lc_ok xs L J → lw_P sv mt xs L J lam dd n0 s0 Q 1326 l_K4_2 g_K4_2 381 2637 := hK4_2 Z hn hl hL (hcar4_2 Z hn) (k3)
  have k1 : ∀ J : Nat → Int32, lb_ok xs L J → lc_ok xs L J → lw_P sv mt xs L J lam dd n0 s0 Q 1326 l_K4_1 g_K4_1 376 2624 := hK4_1 Z hn hl hL (hcar4_1 Z hn) (k2)
  have k0 : ∀ J : Nat → Int32, lb_ok xs L J → lc_ok xs L J → lw_P sv mt xs L J lam dd n0 s0 Q 1326 l_K4_0 g_K4_0 371 2611 := hK4_0 Z hn hl hL (hcar4_0 Z hn) (k1)
  have i0 : lw_P sv mt xs L (lz_J xs L) lam dd n0 s0 Q 1170 l_I4_4 g_I4_4 366 2592 := pI4_4_k146 Z (lz_b xs L) (lz_c xs L) (lz_r xs L 0 (by decide)) (lz_q xs L 3 0 (by decide) (by decide) (by omega)) (lz_r xs L 1 (by decide)) (lz_q xs L 3 1 (by decide) (by decide) (by omega)) (lz_r xs L 2 (by decide)) (lz_q xs L 3 2 (by decide) (by decide) (by omega)) (lz_r xs L 3 (by decide)) (lz_q xs L 3 3 (by decide) (by decide) (by omega)) (k0 _ (lz_b xs L) (lz_c xs L))
  exact hX4 Z hn (lz_b xs L) hb i0
theorem hE5 (Z : lw_W sv mt xs L lam dd) (hn : lx_nv xs L = 5) (hl : lc_l lam) (hQ : ∀ h : ab_H, h.2.1 ≤ n0 + 599 → h.2.2 ≤ s0 + 3927 → Q (.inl (some (.int 1))) h) (J : Nat → Int32) (hJ : lb_ok xs L J) (hC : lc_ok xs L J) : lw_P sv mt xs L J lam dd n0 s0 Q 1326 l_K5_5 g_K5_5 450 3095 := by
  have w : lw_P sv mt xs L J lam dd n0 s0 Q 2856 l_W5 g_W5 537 3479 := pW5_z21 Z hJ hC hl hQ
  have hs := lk_ns_lt xs L 5
  rcases (by omega : lk_ns xs L 5 = 0 ∨ lk_ns xs L 5 = 1 ∨ lk_ns xs L 5 = 2 ∨ lk_ns xs L 5 = 3 ∨ lk_ns xs L 5 = 4) with h | h | h | h | h
  · exact pK5_5_z15 Z hJ hC hl (pY5_z16 Z hJ hC hl h w)
  · exact pK5_5_z15 Z hJ hC hl (pY5_z17 Z hJ hC hl h w)
  · exact pK5_5_z15 Z hJ hC hl (pY5_z18 Z hJ hC hl h w)
  · exact pK5_5_z15 Z hJ hC hl (pY5_z19 Z hJ hC hl h w)
  · exact pK5_5_z15 Z hJ hC hl (pY5_z20 Z hJ hC hl h w)
theorem hcar5_0 (Z : lw_W sv mt xs L lam dd) (hn : lx_nv xs L = 5) : ∀ J, lb_ok xs L J → lc_ok xs L J → lk_tk xs L 0 = true → lk_x xs L 0 / 3 % 2 = 1 → ∃ J', (∀ i, i < 20010 ∨ 20010 + 10 ≤ i → J i = J' i) ∧ ∀ α, sg_ct sv mt 35 (lx_r xs L J', lam, α) kT5_0 := fun J hJ hC ht ho => by
  refine ⟨kJ2 xs L J 20010 (lk_ns xs L 0) (lk_np xs L 1), kJ2_out, fun α => ?_⟩
  rw [kt_5_0]
  have o1 : kJ2 xs L J 20010 (lk_ns xs L 0) (lk_np xs L 1) 16010 = iN (lk_ns xs L 0) := (kJ2_out 16010 (by decide)).symm.trans ((hC 16010 (by decide) (by decide)).trans rfl)
  have o2 : kJ2 xs L J 20010 (lk_ns xs L 0) (lk_np xs L 1) 16020 = iN (lk_np xs L 1) := (kJ2_out 16020 (by decide)).symm.trans (((hC 16020 (by decide) (by decide)).trans rfl).trans (to_np ht).symm)
  exact ct_carry5 Z.1 Z.2.1 (s := lk_ns xs L 0) (t := lk_np xs L 1) (by decide) (by decide) (by decide) (by decide) o1 o2 (by have := lk_ns_lt xs L 0; omega) (by have := lk_np_lt xs L 1; omega) (fun i hi => kJ2_a (by decide) i hi) (fun i hi => kJ2_b (by decide) i hi)
theorem hcar5_1 (Z : lw_W sv mt xs L lam dd) (hn : lx_nv xs L = 5) : ∀ J, lb_ok xs L J → lc_ok xs L J → lk_tk xs L 1 = true → lk_x xs L 1 / 3 % 2 = 1 → ∃ J', (∀ i, i < 20020 ∨ 20020 + 10 ≤ i → J i = J' i) ∧ ∀ α, sg_ct sv mt 35 (lx_r xs L J', lam, α) kT5_1 := fun J hJ hC ht ho => by
  refine ⟨kJ2 xs L J 20020 (lk_ns xs L 1) (lk_np xs L 2), kJ2_out, fun α => ?_⟩
  rw [kt_5_1]
  have o1 : kJ2 xs L J 20020 (lk_ns xs L 1) (lk_np xs L 2) 16011 = iN (lk_ns xs L 1) := (kJ2_out 16011 (by decide)).symm.trans ((hC 16011 (by decide) (by decide)).trans rfl)
  have o2 : kJ2 xs L J 20020 (lk_ns xs L 1) (lk_np xs L 2) 16021 = iN (lk_np xs L 2) := (kJ2_out 16021 (by decide)).symm.trans (((hC 16021 (by decide) (by decide)).trans rfl).trans (to_np ht).symm)
  exact ct_carry5 Z.1 Z.2.1 (s := lk_ns xs L 1) (t := lk_np xs L 2) (by decide) (by decide) (by decide) (by decide) o1 o2 (by have := lk_ns_lt xs L 1; omega) (by have := lk_np_lt xs L 2; omega) (fun i hi => kJ2_a (by decide) i hi) (fun i hi => kJ2_b (by decide) i hi)
theorem hcar5_2 (Z : lw_W sv mt xs L lam dd) (hn : lx_nv xs L = 5) : ∀ J, lb_ok xs L J → lc_ok xs L J → lk_tk xs L 2 = true → lk_x xs L 2 / 3 % 2 = 1 → ∃ J', (∀ i, i < 20030 ∨ 20030 + 10 ≤ i → J i = J' i) ∧ ∀ α, sg_ct sv mt 35 (lx_r xs L J', lam, α) kT5_2 := fun J hJ hC ht ho => by
  refine ⟨kJ2 xs L J 20030 (lk_ns xs L 2) (lk_np xs L 3), kJ2_out, fun α => ?_⟩
  rw [kt_5_2]
  have o1 : kJ2 xs L J 20030 (lk_ns xs L 2) (lk_np xs L 3) 16012 = iN (lk_ns xs L 2) := (kJ2_out 16012 (by decide)).symm.trans ((hC 16012 (by decide) (by decide)).trans rfl)
  have o2 : kJ2 xs L J 20030 (lk_ns xs L 2) (lk_np xs L 3) 16022 = iN (lk_np xs L 3) := (kJ2_out 16022 (by decide)).symm.trans (((hC 16022 (by decide) (by decide)).trans rfl).trans (to_np ht).symm)
  exact ct_carry5 Z.1 Z.2.1 (s := lk_ns xs L 2) (t := lk_np xs L 3) (by decide) (by decide) (by decide) (by decide) o1 o2 (by have := lk_ns_lt xs L 2; omega) (by have := lk_np_lt xs L 3; omega) (fun i hi => kJ2_a (by decide) i hi) (fun i hi => kJ2_b (by decide) i hi)
theorem hcar5_3 (Z : lw_W sv mt xs L lam dd) (hn : lx_nv xs L = 5) : ∀ J, lb_ok xs L J → lc_ok xs L J → lk_tk xs L 3 = true → lk_x xs L 3 / 3 % 2 = 1 → ∃ J', (∀ i, i < 20040 ∨ 20040 + 10 ≤ i → J i = J' i) ∧ ∀ α, sg_ct sv mt 35 (lx_r xs L J', lam, α) kT5_3 := fun J hJ hC ht ho => by
  refine ⟨kJ2 xs L J 20040 (lk_ns xs L 3) (lk_np xs L 4), kJ2_out, fun α => ?_⟩
  rw [kt_5_3]
  have o1 : kJ2 xs L J 20040 (lk_ns xs L 3) (lk_np xs L 4) 16013 = iN (lk_ns xs L 3) := (kJ2_out 16013 (by decide)).symm.trans ((hC 16013 (by decide) (by decide)).trans rfl)
  have o2 : kJ2 xs L J 20040 (lk_ns xs L 3) (lk_np xs L 4) 16023 = iN (lk_np xs L 4) := (kJ2_out 16023 (by decide)).symm.trans (((hC 16023 (by decide) (by decide)).trans rfl).trans (to_np ht).symm)
  exact ct_carry5 Z.1 Z.2.1 (s := lk_ns xs L 3) (t := lk_np xs L 4) (by decide) (by decide) (by decide) (by decide) o1 o2 (by have := lk_ns_lt xs L 3; omega) (by have := lk_np_lt xs L 4; omega) (fun i hi => kJ2_a (by decide) i hi) (fun i hi => kJ2_b (by decide) i hi)
theorem hcar5_4 (Z : lw_W sv mt xs L lam dd) (hn : lx_nv xs L = 5) : ∀ J, lb_ok xs L J → lc_ok xs L J → lk_tk xs L 4 = true → lk_x xs L 4 / 3 % 2 = 1 → ∃ J', (∀ i, i < 20050 ∨ 20050 + 10 ≤ i → J i = J' i) ∧ ∀ α, sg_ct sv mt 35 (lx_r xs L J', lam, α) kT5_4 := fun J hJ hC ht ho => by
  refine ⟨kJ2 xs L J 20050 (lk_ns xs L 4) (lk_np xs L 5), kJ2_out, fun α => ?_⟩
  rw [kt_5_4]
  have o1 : kJ2 xs L J 20050 (lk_ns xs L 4) (lk_np xs L 5) 16014 = iN (lk_ns xs L 4) := (kJ2_out 16014 (by decide)).symm.trans ((hC 16014 (by decide) (by decide)).trans rfl)
  have o2 : kJ2 xs L J 20050 (lk_ns xs L 4) (lk_np xs L 5) 16024 = iN (lk_np xs L 5) := (kJ2_out 16024 (by decide)).symm.trans (((hC 16024 (by decide) (by decide)).trans rfl).trans (to_np ht).symm)
  exact ct_carry5 Z.1 Z.2.1 (s := lk_ns xs L 4) (t := lk_np xs L 5) (by decide) (by decide) (by decide) (by decide) o1 o2 (by have := lk_ns_lt xs L 4; omega) (by have := lk_np_lt xs L 5; omega) (fun i hi => kJ2_a (by decide) i hi) (fun i hi => kJ2_b (by decide) i hi)
theorem hW5 (Z : lw_W sv mt xs L lam dd) (hn : lx_nv xs L = 5) (hb : lb_l xs L lam) (hl : lc_l lam) (hL : (lam 0).toNatClampNeg ≤ 1000) (hQ : ∀ h : ab_H, h.2.1 ≤ n0 + 599 → h.2.2 ≤ s0 + 3927 → Q (.inl (some (.int 1))) h) : lw_P sv mt xs L (lz_J xs L) lam dd n0 s0 Q 737 l_X5 g_X5 335 2692 := by
  have k4 : ∀ J : Nat → Int32, lb_ok xs L J → lc_ok xs L J → lw_P sv mt xs L J lam dd n0 s0 Q 1326 l_K5_4 g_K5_4 445 3082 := hK5_4 Z hn hl hL (hcar5_4 Z hn) (hE5 Z hn hl hQ)
  have k3 : ∀ J : Nat → Int32, lb_ok xs L J → lc_ok xs L J → lw_P sv mt xs L J lam dd n0 s0 Q 1326 l_K5_3 g_K5_3 440 3069 := hK5_3 Z hn hl hL (hcar5_3 Z hn) (k4)
  have k2 : ∀ J : Nat → Int32, lb_ok xs L J → lc_ok xs L J → lw_P sv mt xs L J lam dd n0 s0 Q 1326 l_K5_2 g_K5_2 435 3056 := hK5_2 Z hn hl hL (hcar5_2 Z hn) (k3)
  have k1 : ∀ J : Nat → Int32, lb_ok xs L J → lc_ok xs L J → lw_P sv mt xs L J lam dd n0 s0 Q 1326 l_K5_1 g_K5_1 430 3043 := hK5_1 Z hn hl hL (hcar5_1 Z hn) (k2)
  have k0 : ∀ J : Nat → Int32, lb_ok xs L J → lc_ok xs L J → lw_P sv mt xs L J lam dd n0 s0 Q 1326 l_K5_0 g_K5_0 425 3030 := hK5_0 Z hn hl hL (hcar5_0 Z hn) (k1)
  have i0 : lw_P sv mt xs L (lz_J xs L) lam dd n0 s0 Q 1170 l_I5_5 g_I5_5 420 3011 := pI5_5_k231 Z (lz_b xs L) (lz_c xs L) (lz_r xs L 0 (by decide)) (lz_q xs L 4 0 (by decide) (by decide) (by omega)) (lz_r xs L 1 (by decide)) (lz_q xs L 4 1 (by decide) (by decide) (by omega)) (lz_r xs L 2 (by decide)) (lz_q xs L 4 2 (by decide) (by decide) (by omega)) (lz_r xs L 3 (by decide)) (lz_q xs L 4 3 (by decide) (by decide) (by omega)) (k0 _ (lz_b xs L) (lz_c xs L))
  exact hX5 Z hn (lz_b xs L) hb i0
theorem hE6 (Z : lw_W sv mt xs L lam dd) (hn : lx_nv xs L = 6) (hl : lc_l lam) (hQ : ∀ h : ab_H, h.2.1 ≤ n0 + 599 → h.2.2 ≤ s0 + 3927 → Q (.inl (some (.int 1))) h) (J : Nat → Int32) (hJ : lb_ok xs L J) (hC : lc_ok xs L J) : lw_P sv mt xs L J lam dd n0 s0 Q 1326 l_K6_5 g_K6_5 504 3514 := by
  have w : lw_P sv mt xs L J lam dd n0 s0 Q 2856 l_W6 g_W6 591 3898 := pW6_z29 Z hJ hC hl hQ
  have hs := lk_ns_lt xs L 5
  rcases (by omega : lk_ns xs L 5 = 0 ∨ lk_ns xs L 5 = 1 ∨ lk_ns xs L 5 = 2 ∨ lk_ns xs L 5 = 3 ∨ lk_ns xs L 5 = 4 ∨ lk_ns xs L 5 = 5) with h | h | h | h | h | h
  · exact pK6_5_z22 Z hJ hC hl (pY6_z23 Z hJ hC hl h w)
  · exact pK6_5_z22 Z hJ hC hl (pY6_z24 Z hJ hC hl h w)
  · exact pK6_5_z22 Z hJ hC hl (pY6_z25 Z hJ hC hl h w)
  · exact pK6_5_z22 Z hJ hC hl (pY6_z26 Z hJ hC hl h w)
  · exact pK6_5_z22 Z hJ hC hl (pY6_z27 Z hJ hC hl h w)
  · exact pK6_5_z22 Z hJ hC hl (pY6_z28 Z hJ hC hl h w)
theorem hcar6_0 (Z : lw_W sv mt xs L lam dd) (hn : lx_nv xs L = 6) : ∀ J, lb_ok xs L J → lc_ok xs L J → lk_tk xs L 0 = true → lk_x xs L 0 / 3 % 2 = 1 → ∃ J', (∀ i, i < 20010 ∨ 20010 + 10 ≤ i → J i = J' i) ∧ ∀ α, sg_ct sv mt 35 (lx_r xs L J', lam, α) kT6_0 := fun J hJ hC ht ho => by
  refine ⟨kJ2 xs L J 20010 (lk_ns xs L 0) (lk_np xs L 1), kJ2_out, fun α => ?_⟩
  rw [kt_6_0]
  have o1 : kJ2 xs L J 20010 (lk_ns xs L 0) (lk_np xs L 1) 16010 = iN (lk_ns xs L 0) := (kJ2_out 16010 (by decide)).symm.trans ((hC 16010 (by decide) (by decide)).trans rfl)
  have o2 : kJ2 xs L J 20010 (lk_ns xs L 0) (lk_np xs L 1) 16020 = iN (lk_np xs L 1) := (kJ2_out 16020 (by decide)).symm.trans (((hC 16020 (by decide) (by decide)).trans rfl).trans (to_np ht).symm)
  exact ct_carry6 Z.1 Z.2.1 (s := lk_ns xs L 0) (t := lk_np xs L 1) (by decide) (by decide) (by decide) (by decide) o1 o2 (by have := lk_ns_lt xs L 0; omega) (by have := lk_np_lt xs L 1; omega) (fun i hi => kJ2_a (by decide) i hi) (fun i hi => kJ2_b (by decide) i hi)
theorem hcar6_1 (Z : lw_W sv mt xs L lam dd) (hn : lx_nv xs L = 6) : ∀ J, lb_ok xs L J → lc_ok xs L J → lk_tk xs L 1 = true → lk_x xs L 1 / 3 % 2 = 1 → ∃ J', (∀ i, i < 20020 ∨ 20020 + 10 ≤ i → J i = J' i) ∧ ∀ α, sg_ct sv mt 35 (lx_r xs L J', lam, α) kT6_1 := fun J hJ hC ht ho => by
  refine ⟨kJ2 xs L J 20020 (lk_ns xs L 1) (lk_np xs L 2), kJ2_out, fun α => ?_⟩
  rw [kt_6_1]
  have o1 : kJ2 xs L J 20020 (lk_ns xs L 1) (lk_np xs L 2) 16011 = iN (lk_ns xs L 1) := (kJ2_out 16011 (by decide)).symm.trans ((hC 16011 (by decide) (by decide)).trans rfl)
  have o2 : kJ2 xs L J 20020 (lk_ns xs L 1) (lk_np xs L 2) 16021 = iN (lk_np xs L 2) := (kJ2_out 16021 (by decide)).symm.trans (((hC 16021 (by decide) (by decide)).trans rfl).trans (to_np ht).symm)
  exact ct_carry6 Z.1 Z.2.1 (s := lk_ns xs L 1) (t := lk_np xs L 2) (by decide) (by decide) (by decide) (by decide) o1 o2 (by have := lk_ns_lt xs L 1; omega) (by have := lk_np_lt xs L 2; omega) (fun i hi => kJ2_a (by decide) i hi) (fun i hi => kJ2_b (by decide) i hi)
theorem hcar6_2 (Z : lw_W sv mt xs L lam dd) (hn : lx_nv xs L = 6) : ∀ J, lb_ok xs L J → lc_ok xs L J → lk_tk xs L 2 = true → lk_x xs L 2 / 3 % 2 = 1 → ∃ J', (∀ i, i < 20030 ∨ 20030 + 10 ≤ i → J i = J' i) ∧ ∀ α, sg_ct sv mt 35 (lx_r xs L J', lam, α) kT6_2 := fun J hJ hC ht ho => by
  refine ⟨kJ2 xs L J 20030 (lk_ns xs L 2) (lk_np xs L 3), kJ2_out, fun α => ?_⟩
  rw [kt_6_2]
  have o1 : kJ2 xs L J 20030 (lk_ns xs L 2) (lk_np xs L 3) 16012 = iN (lk_ns xs L 2) := (kJ2_out 16012 (by decide)).symm.trans ((hC 16012 (by decide) (by decide)).trans rfl)
  have o2 : kJ2 xs L J 20030 (lk_ns xs L 2) (lk_np xs L 3) 16022 = iN (lk_np xs L 3) := (kJ2_out 16022 (by decide)).symm.trans (((hC 16022 (by decide) (by decide)).trans rfl).trans (to_np ht).symm)
  exact ct_carry6 Z.1 Z.2.1 (s := lk_ns xs L 2) (t := lk_np xs L 3) (by decide) (by decide) (by decide) (by decide) o1 o2 (by have := lk_ns_lt xs L 2; omega) (by have := lk_np_lt xs L 3; omega) (fun i hi => kJ2_a (by decide) i hi) (fun i hi => kJ2_b (by decide) i hi)
theorem hcar6_3 (Z : lw_W sv mt xs L lam dd) (hn : lx_nv xs L = 6) : ∀ J, lb_ok xs L J → lc_ok xs L J → lk_tk xs L 3 = true → lk_x xs L 3 / 3 % 2 = 1 → ∃ J', (∀ i, i < 20040 ∨ 20040 + 10 ≤ i → J i = J' i) ∧ ∀ α, sg_ct sv mt 35 (lx_r xs L J', lam, α) kT6_3 := fun J hJ hC ht ho => by
  refine ⟨kJ2 xs L J 20040 (lk_ns xs L 3) (lk_np xs L 4), kJ2_out, fun α => ?_⟩
  rw [kt_6_3]
  have o1 : kJ2 xs L J 20040 (lk_ns xs L 3) (lk_np xs L 4) 16013 = iN (lk_ns xs L 3) := (kJ2_out 16013 (by decide)).symm.trans ((hC 16013 (by decide) (by decide)).trans rfl)
  have o2 : kJ2 xs L J 20040 (lk_ns xs L 3) (lk_np xs L 4) 16023 = iN (lk_np xs L 4) := (kJ2_out 16023 (by decide)).symm.trans (((hC 16023 (by decide) (by decide)).trans rfl).trans (to_np ht).symm)
  exact ct_carry6 Z.1 Z.2.1 (s := lk_ns xs L 3) (t := lk_np xs L 4) (by decide) (by decide) (by decide) (by decide) o1 o2 (by have := lk_ns_lt xs L 3; omega) (by have := lk_np_lt xs L 4; omega) (fun i hi => kJ2_a (by decide) i hi) (fun i hi => kJ2_b (by decide) i hi)
theorem hcar6_4 (Z : lw_W sv mt xs L lam dd) (hn : lx_nv xs L = 6) : ∀ J, lb_ok xs L J → lc_ok xs L J → lk_tk xs L 4 = true → lk_x xs L 4 / 3 % 2 = 1 → ∃ J', (∀ i, i < 20050 ∨ 20050 + 10 ≤ i → J i = J' i) ∧ ∀ α, sg_ct sv mt 35 (lx_r xs L J', lam, α) kT6_4 := fun J hJ hC ht ho => by
  refine ⟨kJ2 xs L J 20050 (lk_ns xs L 4) (lk_np xs L 5), kJ2_out, fun α => ?_⟩
  rw [kt_6_4]
  have o1 : kJ2 xs L J 20050 (lk_ns xs L 4) (lk_np xs L 5) 16014 = iN (lk_ns xs L 4) := (kJ2_out 16014 (by decide)).symm.trans ((hC 16014 (by decide) (by decide)).trans rfl)
  have o2 : kJ2 xs L J 20050 (lk_ns xs L 4) (lk_np xs L 5) 16024 = iN (lk_np xs L 5) := (kJ2_out 16024 (by decide)).symm.trans (((hC 16024 (by decide) (by decide)).trans rfl).trans (to_np ht).symm)
  exact ct_carry6 Z.1 Z.2.1 (s := lk_ns xs L 4) (t := lk_np xs L 5) (by decide) (by decide) (by decide) (by decide) o1 o2 (by have := lk_ns_lt xs L 4; omega) (by have := lk_np_lt xs L 5; omega) (fun i hi => kJ2_a (by decide) i hi) (fun i hi => kJ2_b (by decide) i hi)
theorem hW6 (Z : lw_W sv mt xs L lam dd) (hn : lx_nv xs L = 6) (hb : lb_l xs L lam) (hl : lc_l lam) (hL : (lam 0).toNatClampNeg ≤ 1000) (hQ : ∀ h : ab_H, h.2.1 ≤ n0 + 599 → h.2.2 ≤ s0 + 3927 → Q (.inl (some (.int 1))) h) : lw_P sv mt xs L (lz_J xs L) lam dd n0 s0 Q 737 l_X6 g_X6 374 3058 := by
  have k4 : ∀ J : Nat → Int32, lb_ok xs L J → lc_ok xs L J → lw_P sv mt xs L J lam dd n0 s0 Q 1326 l_K6_4 g_K6_4 499 3501 := hK6_4 Z hn hl hL (hcar6_4 Z hn) (hE6 Z hn hl hQ)
  have k3 : ∀ J : Nat → Int32, lb_ok xs L J → lc_ok xs L J → lw_P sv mt xs L J lam dd n0 s0 Q 1326 l_K6_3 g_K6_3 494 3488 := hK6_3 Z hn hl hL (hcar6_3 Z hn) (k4)
  have k2 : ∀ J : Nat → Int32, lb_ok xs L J → lc_ok xs L J → lw_P sv mt xs L J lam dd n0 s0 Q 1326 l_K6_2 g_K6_2 489 3475 := hK6_2 Z hn hl hL (hcar6_2 Z hn) (k3)
  have k1 : ∀ J : Nat → Int32, lb_ok xs L J → lc_ok xs L J → lw_P sv mt xs L J lam dd n0 s0 Q 1326 l_K6_1 g_K6_1 484 3462 := hK6_1 Z hn hl hL (hcar6_1 Z hn) (k2)
  have k0 : ∀ J : Nat → Int32, lb_ok xs L J → lc_ok xs L J → lw_P sv mt xs L J lam dd n0 s0 Q 1326 l_K6_0 g_K6_0 479 3449 := hK6_0 Z hn hl hL (hcar6_0 Z hn) (k1)
  have i0 : lw_P sv mt xs L (lz_J xs L) lam dd n0 s0 Q 1170 l_I6_6 g_I6_6 474 3430 := pI6_6_k316 Z (lz_b xs L) (lz_c xs L) (lz_r xs L 0 (by decide)) (lz_q xs L 5 0 (by decide) (by decide) (by omega)) (lz_r xs L 1 (by decide)) (lz_q xs L 5 1 (by decide) (by decide) (by omega)) (lz_r xs L 2 (by decide)) (lz_q xs L 5 2 (by decide) (by decide) (by omega)) (lz_r xs L 3 (by decide)) (lz_q xs L 5 3 (by decide) (by decide) (by omega)) (k0 _ (lz_b xs L) (lz_c xs L))
  exact hX6 Z hn (lz_b xs L) hb i0
/-- from the law's entry to its end -/
theorem hWalk (Z : lw_W sv mt xs L lam dd) (hb : lb_l xs L lam) (hl : lc_l lam) (hL : (lam 0).toNatClampNeg ≤ 1000) (hQ : ∀ h : ab_H, h.2.1 ≤ n0 + 599 → h.2.2 ≤ s0 + 3927 → Q (.inl (some (.int 1))) h) : lw_P sv mt xs L (lz_J xs L) lam dd n0 s0 Q 0 l_H g_H 0 0 :=
  hPhaseA Z (fun h => hW2 Z h hb hl hL hQ) (fun h => hW3 Z h hb hl hL hQ) (fun h => hW4 Z h hb hl hL hQ) (fun h => hW5 Z h hb hl hL hQ) (fun h => hW6 Z h hb hl hL hQ)
end WLK
