/-! THE CHANGES AT THE END: the pieces put together. -/
section HDS
variable {sv : Nat → Value} {mt : Nat → (Nat → Option ab_I) × Nat} {xs : Nat → Int32} {L : Nat} {J : Nat → Int32} {lam : Nat → Int64} {dd n0 s0 : Nat} {Q : ab_Q}
theorem hK2_4 (Z : lw_W sv mt xs L lam dd) (hn : lx_nv xs L = 2) (hl : lc_l lam) (hL : (lam 0).toNatClampNeg ≤ 1000) (hcar : ∀ J, lb_ok xs L J → lc_ok xs L J → lk_tk xs L 4 = true → lk_x xs L 4 / 3 % 2 = 1 → ∃ J', (∀ i, i < 20050 ∨ 20050 + 10 ≤ i → J i = J' i) ∧ ∀ α, sg_ct sv mt 35 (lx_r xs L J', lam, α) kT2_4) (nx : ∀ J, lb_ok xs L J → lc_ok xs L J → lw_P sv mt xs L J lam dd n0 s0 Q 1326 l_K2_5 g_K2_5 288 1838) (J : Nat → Int32) (hJ : lb_ok xs L J) (hC : lc_ok xs L J) : lw_P sv mt xs L J lam dd n0 s0 Q 1326 l_K2_4 g_K2_4 283 1825 := by
  have tr : ∀ J' : Nat → Int32, (∀ i, i < 20050 ∨ 20050 + 10 ≤ i → J i = J' i) → lw_P sv mt xs L J' lam dd n0 s0 Q 1326 l_K2_4 g_K2_4 283 1825 → lw_P sv mt xs L J lam dd n0 s0 Q 1326 l_K2_4 g_K2_4 283 1825 := fun J' h P => lw_P_J (lo := 20050) (hi := 20050 + 10) h (by decide) hL (by decide +kernel) (by decide +kernel) P
  by_cases hb : lk_x xs L 4 % 3 = 0
  · by_cases ht : lk_tk xs L 4 = true
    · rcases (by omega : lk_x xs L 4 / 3 % 2 = 0 ∨ lk_x xs L 4 / 3 % 2 = 1) with ho | ho
      · by_cases hp : lk_np xs L 4 = 1
        · by_cases he : lk_ns xs L 5 = lk_np xs L 5
          · exact tr (kJ J 20050) (kJ_out J 20050) (pK2_4_k52 Z hn (kJ_b (by decide) hJ) (kJ_c (by decide) hC) hl hp hb ht ho (kJ_r J 20050 20050 (by decide) (by decide) (by decide)) (kJ_r J 20050 20055 (by decide) (by decide) (by decide)) (kJ_r J 20050 20051 (by decide) (by decide) (by decide)) (kJ_r J 20050 20056 (by decide) (by decide) (by decide)) (kJ_r J 20050 20052 (by decide) (by decide) (by decide)) (kJ_r J 20050 20057 (by decide) (by decide) (by decide)) (kJ_r J 20050 20053 (by decide) (by decide) (by decide)) (kJ_r J 20050 20058 (by decide) (by decide) (by decide)) he (nx _ (kJ_b (by decide) hJ) (kJ_c (by decide) hC)))
          · exact tr (kJ J 20050) (kJ_out J 20050) (pK2_4_k51 Z hn (kJ_b (by decide) hJ) (kJ_c (by decide) hC) hl hp hb ht ho (kJ_r J 20050 20050 (by decide) (by decide) (by decide)) (kJ_r J 20050 20055 (by decide) (by decide) (by decide)) (kJ_r J 20050 20051 (by decide) (by decide) (by decide)) (kJ_r J 20050 20056 (by decide) (by decide) (by decide)) (kJ_r J 20050 20052 (by decide) (by decide) (by decide)) (kJ_r J 20050 20057 (by decide) (by decide) (by decide)) (kJ_r J 20050 20053 (by decide) (by decide) (by decide)) (kJ_r J 20050 20058 (by decide) (by decide) (by decide)) he (nx _ (kJ_b (by decide) hJ) (kJ_c (by decide) hC)))
        · exfalso
          have hq := lk_np_lt xs L 4
          have := tk_b hb ht; omega
      · by_cases hp : lk_np xs L 4 = 1
        · obtain ⟨J', h1, h2⟩ := hcar J hJ hC ht ho
          have hJ' : lb_ok xs L J' := fun i a b => by rw [← h1 i (by omega)]; exact hJ i a b
          have hC' : lc_ok xs L J' := fun i a b => by rw [← h1 i (by omega)]; exact hC i a b
          exact tr J' h1 (pK2_4_k53 Z hn hJ' hC' hl hp hb ht ho h2 (nx J' hJ' hC'))
        · exfalso
          have hq := lk_np_lt xs L 4
          have := tk_b hb ht; omega
    · rcases (by omega : lk_x xs L 4 / 3 % 2 = 0 ∨ lk_x xs L 4 / 3 % 2 = 1) with ho | ho
      · by_cases hp : lk_np xs L 4 = 1
        · exfalso
          have hq := lk_np_lt xs L 4
          have := tk_b0 hb ht; omega
        · by_cases he : lk_ns xs L 5 = lk_np xs L 5
          · exact tr (kJ J 20050) (kJ_out J 20050) (pK2_4_k58 Z hn (kJ_b (by decide) hJ) (kJ_c (by decide) hC) hl hp hb ht ho (kJ_r J 20050 20050 (by decide) (by decide) (by decide)) (kJ_r J 20050 20055 (by decide) (by decide) (by decide)) (kJ_r J 20050 20051 (by decide) (by decide) (by decide)) (kJ_r J 20050 20056 (by decide) (by decide) (by decide)) (kJ_r J 20050 20052 (by decide) (by decide) (by decide)) (kJ_r J 20050 20057 (by decide) (by decide) (by decide)) (kJ_r J 20050 20053 (by decide) (by decide) (by decide)) (kJ_r J 20050 20058 (by decide) (by decide) (by decide)) he (nx _ (kJ_b (by decide) hJ) (kJ_c (by decide) hC)))
          · exact tr (kJ J 20050) (kJ_out J 20050) (pK2_4_k57 Z hn (kJ_b (by decide) hJ) (kJ_c (by decide) hC) hl hp hb ht ho (kJ_r J 20050 20050 (by decide) (by decide) (by decide)) (kJ_r J 20050 20055 (by decide) (by decide) (by decide)) (kJ_r J 20050 20051 (by decide) (by decide) (by decide)) (kJ_r J 20050 20056 (by decide) (by decide) (by decide)) (kJ_r J 20050 20052 (by decide) (by decide) (by decide)) (kJ_r J 20050 20057 (by decide) (by decide) (by decide)) (kJ_r J 20050 20053 (by decide) (by decide) (by decide)) (kJ_r J 20050 20058 (by decide) (by decide) (by decide)) he (nx _ (kJ_b (by decide) hJ) (kJ_c (by decide) hC)))
      · by_cases hp : lk_np xs L 4 = 1
        · exfalso
          have hq := lk_np_lt xs L 4
          have := tk_b0 hb ht; omega
        · by_cases he : lk_ns xs L 5 = lk_np xs L 5
          · exact tr (kJ J 20050) (kJ_out J 20050) (pK2_4_k60 Z hn (kJ_b (by decide) hJ) (kJ_c (by decide) hC) hl hp hb ht ho (kJ_r J 20050 20050 (by decide) (by decide) (by decide)) (kJ_r J 20050 20055 (by decide) (by decide) (by decide)) (kJ_r J 20050 20051 (by decide) (by decide) (by decide)) (kJ_r J 20050 20056 (by decide) (by decide) (by decide)) (kJ_r J 20050 20052 (by decide) (by decide) (by decide)) (kJ_r J 20050 20057 (by decide) (by decide) (by decide)) (kJ_r J 20050 20053 (by decide) (by decide) (by decide)) (kJ_r J 20050 20058 (by decide) (by decide) (by decide)) he (nx _ (kJ_b (by decide) hJ) (kJ_c (by decide) hC)))
          · exact tr (kJ J 20050) (kJ_out J 20050) (pK2_4_k59 Z hn (kJ_b (by decide) hJ) (kJ_c (by decide) hC) hl hp hb ht ho (kJ_r J 20050 20050 (by decide) (by decide) (by decide)) (kJ_r J 20050 20055 (by decide) (by decide) (by decide)) (kJ_r J 20050 20051 (by decide) (by decide) (by decide)) (kJ_r J 20050 20056 (by decide) (by decide) (by decide)) (kJ_r J 20050 20052 (by decide) (by decide) (by decide)) (kJ_r J 20050 20057 (by decide) (by decide) (by decide)) (kJ_r J 20050 20053 (by decide) (by decide) (by decide)) (kJ_r J 20050 20058 (by decide) (by decide) (by decide)) he (nx _ (kJ_b (by decide) hJ) (kJ_c (by decide) hC)))
  · by_cases ht : lk_tk xs L 4 = true
    · rcases (by omega : lk_x xs L 4 / 3 % 2 = 0 ∨ lk_x xs L 4 / 3 % 2 = 1) with ho | ho
      · by_cases hp : lk_np xs L 4 = 1
        · exfalso
          have hq := lk_np_lt xs L 4
          have := tk_f hb ht; omega
        · by_cases he : lk_ns xs L 5 = lk_np xs L 5
          · exact tr (kJ J 20050) (kJ_out J 20050) (pK2_4_k55 Z hn (kJ_b (by decide) hJ) (kJ_c (by decide) hC) hl hp hb ht ho (kJ_r J 20050 20050 (by decide) (by decide) (by decide)) (kJ_r J 20050 20055 (by decide) (by decide) (by decide)) (kJ_r J 20050 20051 (by decide) (by decide) (by decide)) (kJ_r J 20050 20056 (by decide) (by decide) (by decide)) (kJ_r J 20050 20052 (by decide) (by decide) (by decide)) (kJ_r J 20050 20057 (by decide) (by decide) (by decide)) (kJ_r J 20050 20053 (by decide) (by decide) (by decide)) (kJ_r J 20050 20058 (by decide) (by decide) (by decide)) he (nx _ (kJ_b (by decide) hJ) (kJ_c (by decide) hC)))
          · exact tr (kJ J 20050) (kJ_out J 20050) (pK2_4_k54 Z hn (kJ_b (by decide) hJ) (kJ_c (by decide) hC) hl hp hb ht ho (kJ_r J 20050 20050 (by decide) (by decide) (by decide)) (kJ_r J 20050 20055 (by decide) (by decide) (by decide)) (kJ_r J 20050 20051 (by decide) (by decide) (by decide)) (kJ_r J 20050 20056 (by decide) (by decide) (by decide)) (kJ_r J 20050 20052 (by decide) (by decide) (by decide)) (kJ_r J 20050 20057 (by decide) (by decide) (by decide)) (kJ_r J 20050 20053 (by decide) (by decide) (by decide)) (kJ_r J 20050 20058 (by decide) (by decide) (by decide)) he (nx _ (kJ_b (by decide) hJ) (kJ_c (by decide) hC)))
      · by_cases hp : lk_np xs L 4 = 1
        · exfalso
          have hq := lk_np_lt xs L 4
          have := tk_f hb ht; omega
        · obtain ⟨J', h1, h2⟩ := hcar J hJ hC ht ho
          have hJ' : lb_ok xs L J' := fun i a b => by rw [← h1 i (by omega)]; exact hJ i a b
          have hC' : lc_ok xs L J' := fun i a b => by rw [← h1 i (by omega)]; exact hC i a b
          exact tr J' h1 (pK2_4_k56 Z hn hJ' hC' hl hp hb ht ho h2 (nx J' hJ' hC'))
    · rcases (by omega : lk_x xs L 4 / 3 % 2 = 0 ∨ lk_x xs L 4 / 3 % 2 = 1) with ho | ho
      · by_cases hp : lk_np xs L 4 = 1
        · by_cases he : lk_ns xs L 5 = lk_np xs L 5
          · exact tr (kJ J 20050) (kJ_out J 20050) (pK2_4_k48 Z hn (kJ_b (by decide) hJ) (kJ_c (by decide) hC) hl hp hb ht ho (kJ_r J 20050 20050 (by decide) (by decide) (by decide)) (kJ_r J 20050 20055 (by decide) (by decide) (by decide)) (kJ_r J 20050 20051 (by decide) (by decide) (by decide)) (kJ_r J 20050 20056 (by decide) (by decide) (by decide)) (kJ_r J 20050 20052 (by decide) (by decide) (by decide)) (kJ_r J 20050 20057 (by decide) (by decide) (by decide)) (kJ_r J 20050 20053 (by decide) (by decide) (by decide)) (kJ_r J 20050 20058 (by decide) (by decide) (by decide)) he (nx _ (kJ_b (by decide) hJ) (kJ_c (by decide) hC)))
          · exact tr (kJ J 20050) (kJ_out J 20050) (pK2_4_k47 Z hn (kJ_b (by decide) hJ) (kJ_c (by decide) hC) hl hp hb ht ho (kJ_r J 20050 20050 (by decide) (by decide) (by decide)) (kJ_r J 20050 20055 (by decide) (by decide) (by decide)) (kJ_r J 20050 20051 (by decide) (by decide) (by decide)) (kJ_r J 20050 20056 (by decide) (by decide) (by decide)) (kJ_r J 20050 20052 (by decide) (by decide) (by decide)) (kJ_r J 20050 20057 (by decide) (by decide) (by decide)) (kJ_r J 20050 20053 (by decide) (by decide) (by decide)) (kJ_r J 20050 20058 (by decide) (by decide) (by decide)) he (nx _ (kJ_b (by decide) hJ) (kJ_c (by decide) hC)))
        · exfalso
          have hq := lk_np_lt xs L 4
          have := tk_f0 hb ht; omega
      · by_cases hp : lk_np xs L 4 = 1
        · by_cases he : lk_ns xs L 5 = lk_np xs L 5
          · exact tr (kJ J 20050) (kJ_out J 20050) (pK2_4_k50 Z hn (kJ_b (by decide) hJ) (kJ_c (by decide) hC) hl hp hb ht ho (kJ_r J 20050 20050 (by decide) (by decide) (by decide)) (kJ_r J 20050 20055 (by decide) (by decide) (by decide)) (kJ_r J 20050 20051 (by decide) (by decide) (by decide)) (kJ_r J 20050 20056 (by decide) (by decide) (by decide)) (kJ_r J 20050 20052 (by decide) (by decide) (by decide)) (kJ_r J 20050 20057 (by decide) (by decide) (by decide)) (kJ_r J 20050 20053 (by decide) (by decide) (by decide)) (kJ_r J 20050 20058 (by decide) (by decide) (by decide)) he (nx _ (kJ_b (by decide) hJ) (kJ_c (by decide) hC)))
          · exact tr (kJ J 20050) (kJ_out J 20050) (pK2_4_k49 Z hn (kJ_b (by decide) hJ) (kJ_c (by decide) hC) hl hp hb ht ho (kJ_r J 20050 20050 (by decide) (by decide) (by decide)) (kJ_r J 20050 20055 (by decide) (by decide) (by decide)) (kJ_r J 20050 20051 (by decide) (by decide) (by decide)) (kJ_r J 20050 20056 (by decide) (by decide) (by decide)) (kJ_r J 20050 20052 (by decide) (by decide) (by decide)) (kJ_r J 20050 20057 (by decide) (by decide) (by decide)) (kJ_r J 20050 20053 (by decide) (by decide) (by decide)) (kJ_r J 20050 20058 (by decide) (by decide) (by decide)) he (nx _ (kJ_b (by decide) hJ) (kJ_c (by decide) hC)))
        · exfalso
          have hq := lk_np_lt xs L 4
          have := tk_f0 hb ht; omega
theorem hK2_3 (Z : lw_W sv mt xs L lam dd) (hn : lx_nv xs L = 2) (hl : lc_l lam) (hL : (lam 0).toNatClampNeg ≤ 1000) (hcar : ∀ J, lb_ok xs L J → lc_ok xs L J → lk_tk xs L 3 = true → lk_x xs L 3 / 3 % 2 = 1 → ∃ J', (∀ i, i < 20040 ∨ 20040 + 10 ≤ i → J i = J' i) ∧ ∀ α, sg_ct sv mt 35 (lx_r xs L J', lam, α) kT2_3) (nx : ∀ J, lb_ok xs L J → lc_ok xs L J → lw_P sv mt xs L J lam dd n0 s0 Q 1326 l_K2_4 g_K2_4 283 1825) (J : Nat → Int32) (hJ : lb_ok xs L J) (hC : lc_ok xs L J) : lw_P sv mt xs L J lam dd n0 s0 Q 1326 l_K2_3 g_K2_3 278 1812 := by
  have tr : ∀ J' : Nat → Int32, (∀ i, i < 20040 ∨ 20040 + 10 ≤ i → J i = J' i) → lw_P sv mt xs L J' lam dd n0 s0 Q 1326 l_K2_3 g_K2_3 278 1812 → lw_P sv mt xs L J lam dd n0 s0 Q 1326 l_K2_3 g_K2_3 278 1812 := fun J' h P => lw_P_J (lo := 20040) (hi := 20040 + 10) h (by decide) hL (by decide +kernel) (by decide +kernel) P
  by_cases hb : lk_x xs L 3 % 3 = 0
  · by_cases ht : lk_tk xs L 3 = true
    · rcases (by omega : lk_x xs L 3 / 3 % 2 = 0 ∨ lk_x xs L 3 / 3 % 2 = 1) with ho | ho
      · by_cases hp : lk_np xs L 3 = 1
        · by_cases he : lk_ns xs L 4 = lk_np xs L 4
          · exact tr (kJ J 20040) (kJ_out J 20040) (pK2_3_k38 Z hn (kJ_b (by decide) hJ) (kJ_c (by decide) hC) hl hp hb ht ho (kJ_r J 20040 20040 (by decide) (by decide) (by decide)) (kJ_r J 20040 20045 (by decide) (by decide) (by decide)) (kJ_r J 20040 20041 (by decide) (by decide) (by decide)) (kJ_r J 20040 20046 (by decide) (by decide) (by decide)) (kJ_r J 20040 20042 (by decide) (by decide) (by decide)) (kJ_r J 20040 20047 (by decide) (by decide) (by decide)) (kJ_r J 20040 20043 (by decide) (by decide) (by decide)) (kJ_r J 20040 20048 (by decide) (by decide) (by decide)) he (nx _ (kJ_b (by decide) hJ) (kJ_c (by decide) hC)))
          · exact tr (kJ J 20040) (kJ_out J 20040) (pK2_3_k37 Z hn (kJ_b (by decide) hJ) (kJ_c (by decide) hC) hl hp hb ht ho (kJ_r J 20040 20040 (by decide) (by decide) (by decide)) (kJ_r J 20040 20045 (by decide) (by decide) (by decide)) (kJ_r J 20040 20041 (by decide) (by decide) (by decide)) (kJ_r J 20040 20046 (by decide) (by decide) (by decide)) (kJ_r J 20040 20042 (by decide) (by decide) (by decide)) (kJ_r J 20040 20047 (by decide) (by decide) (by decide)) (kJ_r J 20040 20043 (by decide) (by decide) (by decide)) (kJ_r J 20040 20048 (by decide) (by decide) (by decide)) he (nx _ (kJ_b (by decide) hJ) (kJ_c (by decide) hC)))
        · exfalso
          have hq := lk_np_lt xs L 3
          have := tk_b hb ht; omega
      · by_cases hp : lk_np xs L 3 = 1
        · obtain ⟨J', h1, h2⟩ := hcar J hJ hC ht ho
          have hJ' : lb_ok xs L J' := fun i a b => by rw [← h1 i (by omega)]; exact hJ i a b
          have hC' : lc_ok xs L J' := fun i a b => by rw [← h1 i (by omega)]; exact hC i a b
          exact tr J' h1 (pK2_3_k39 Z hn hJ' hC' hl hp hb ht ho h2 (nx J' hJ' hC'))
        · exfalso
          have hq := lk_np_lt xs L 3
          have := tk_b hb ht; omega
    · rcases (by omega : lk_x xs L 3 / 3 % 2 = 0 ∨ lk_x xs L 3 / 3 % 2 = 1) with ho | ho
      · by_cases hp : lk_np xs L 3 = 1
        · exfalso
          have hq := lk_np_lt xs L 3
          have := tk_b0 hb ht; omega
        · by_cases he : lk_ns xs L 4 = lk_np xs L 4
          · exact tr (kJ J 20040) (kJ_out J 20040) (pK2_3_k44 Z hn (kJ_b (by decide) hJ) (kJ_c (by decide) hC) hl hp hb ht ho (kJ_r J 20040 20040 (by decide) (by decide) (by decide)) (kJ_r J 20040 20045 (by decide) (by decide) (by decide)) (kJ_r J 20040 20041 (by decide) (by decide) (by decide)) (kJ_r J 20040 20046 (by decide) (by decide) (by decide)) (kJ_r J 20040 20042 (by decide) (by decide) (by decide)) (kJ_r J 20040 20047 (by decide) (by decide) (by decide)) (kJ_r J 20040 20043 (by decide) (by decide) (by decide)) (kJ_r J 20040 20048 (by decide) (by decide) (by decide)) he (nx _ (kJ_b (by decide) hJ) (kJ_c (by decide) hC)))
          · exact tr (kJ J 20040) (kJ_out J 20040) (pK2_3_k43 Z hn (kJ_b (by decide) hJ) (kJ_c (by decide) hC) hl hp hb ht ho (kJ_r J 20040 20040 (by decide) (by decide) (by decide)) (kJ_r J 20040 20045 (by decide) (by decide) (by decide)) (kJ_r J 20040 20041 (by decide) (by decide) (by decide)) (kJ_r J 20040 20046 (by decide) (by decide) (by decide)) (kJ_r J 20040 20042 (by decide) (by decide) (by decide)) (kJ_r J 20040 20047 (by decide) (by decide) (by decide)) (kJ_r J 20040 20043 (by decide) (by decide) (by decide)) (kJ_r J 20040 20048 (by decide) (by decide) (by decide)) he (nx _ (kJ_b (by decide) hJ) (kJ_c (by decide) hC)))
      · by_cases hp : lk_np xs L 3 = 1
        · exfalso
          have hq := lk_np_lt xs L 3
          have := tk_b0 hb ht; omega
        · by_cases he : lk_ns xs L 4 = lk_np xs L 4
          · exact tr (kJ J 20040) (kJ_out J 20040) (pK2_3_k46 Z hn (kJ_b (by decide) hJ) (kJ_c (by decide) hC) hl hp hb ht ho (kJ_r J 20040 20040 (by decide) (by decide) (by decide)) (kJ_r J 20040 20045 (by decide) (by decide) (by decide)) (kJ_r J 20040 20041 (by decide) (by decide) (by decide)) (kJ_r J 20040 20046 (by decide) (by decide) (by decide)) (kJ_r J 20040 20042 (by decide) (by decide) (by decide)) (kJ_r J 20040 20047 (by decide) (by decide) (by decide)) (kJ_r J 20040 20043 (by decide) (by decide) (by decide)) (kJ_r J 20040 20048 (by decide) (by decide) (by decide)) he (nx _ (kJ_b (by decide) hJ) (kJ_c (by decide) hC)))
          · exact tr (kJ J 20040) (kJ_out J 20040) (pK2_3_k45 Z hn (kJ_b (by decide) hJ) (kJ_c (by decide) hC) hl hp hb ht ho (kJ_r J 20040 20040 (by decide) (by decide) (by decide)) (kJ_r J 20040 20045 (by decide) (by decide) (by decide)) (kJ_r J 20040 20041 (by decide) (by decide) (by decide)) (kJ_r J 20040 20046 (by decide) (by decide) (by decide)) (kJ_r J 20040 20042 (by decide) (by decide) (by decide)) (kJ_r J 20040 20047 (by decide) (by decide) (by decide)) (kJ_r J 20040 20043 (by decide) (by decide) (by decide)) (kJ_r J 20040 20048 (by decide) (by decide) (by decide)) he (nx _ (kJ_b (by decide) hJ) (kJ_c (by decide) hC)))
  · by_cases ht : lk_tk xs L 3 = true
    · rcases (by omega : lk_x xs L 3 / 3 % 2 = 0 ∨ lk_x xs L 3 / 3 % 2 = 1) with ho | ho
      · by_cases hp : lk_np xs L 3 = 1
        · exfalso
          have hq := lk_np_lt xs L 3
          have := tk_f hb ht; omega
        · by_cases he : lk_ns xs L 4 = lk_np xs L 4
          · exact tr (kJ J 20040) (kJ_out J 20040) (pK2_3_k41 Z hn (kJ_b (by decide) hJ) (kJ_c (by decide) hC) hl hp hb ht ho (kJ_r J 20040 20040 (by decide) (by decide) (by decide)) (kJ_r J 20040 20045 (by decide) (by decide) (by decide)) (kJ_r J 20040 20041 (by decide) (by decide) (by decide)) (kJ_r J 20040 20046 (by decide) (by decide) (by decide)) (kJ_r J 20040 20042 (by decide) (by decide) (by decide)) (kJ_r J 20040 20047 (by decide) (by decide) (by decide)) (kJ_r J 20040 20043 (by decide) (by decide) (by decide)) (kJ_r J 20040 20048 (by decide) (by decide) (by decide)) he (nx _ (kJ_b (by decide) hJ) (kJ_c (by decide) hC)))
          · exact tr (kJ J 20040) (kJ_out J 20040) (pK2_3_k40 Z hn (kJ_b (by decide) hJ) (kJ_c (by decide) hC) hl hp hb ht ho (kJ_r J 20040 20040 (by decide) (by decide) (by decide)) (kJ_r J 20040 20045 (by decide) (by decide) (by decide)) (kJ_r J 20040 20041 (by decide) (by decide) (by decide)) (kJ_r J 20040 20046 (by decide) (by decide) (by decide)) (kJ_r J 20040 20042 (by decide) (by decide) (by decide)) (kJ_r J 20040 20047 (by decide) (by decide) (by decide)) (kJ_r J 20040 20043 (by decide) (by decide) (by decide)) (kJ_r J 20040 20048 (by decide) (by decide) (by decide)) he (nx _ (kJ_b (by decide) hJ) (kJ_c (by decide) hC)))
      · by_cases hp : lk_np xs L 3 = 1
        · exfalso
          have hq := lk_np_lt xs L 3
          have := tk_f hb ht; omega
        · obtain ⟨J', h1, h2⟩ := hcar J hJ hC ht ho
          have hJ' : lb_ok xs L J' := fun i a b => by rw [← h1 i (by omega)]; exact hJ i a b
          have hC' : lc_ok xs L J' := fun i a b => by rw [← h1 i (by omega)]; exact hC i a b
          exact tr J' h1 (pK2_3_k42 Z hn hJ' hC' hl hp hb ht ho h2 (nx J' hJ' hC'))
    · rcases (by omega : lk_x xs L 3 / 3 % 2 = 0 ∨ lk_x xs L 3 / 3 % 2 = 1) with ho | ho
      · by_cases hp : lk_np xs L 3 = 1
        · by_cases he : lk_ns xs L 4 = lk_np xs L 4
          · exact tr (kJ J 20040) (kJ_out J 20040) (pK2_3_k34 Z hn (kJ_b (by decide) hJ) (kJ_c (by decide) hC) hl hp hb ht ho (kJ_r J 20040 20040 (by decide) (by decide) (by decide)) (kJ_r J 20040 20045 (by decide) (by decide) (by decide)) (kJ_r J 20040 20041 (by decide) (by decide) (by decide)) (kJ_r J 20040 20046 (by decide) (by decide) (by decide)) (kJ_r J 20040 20042 (by decide) (by decide) (by decide)) (kJ_r J 20040 20047 (by decide) (by decide) (by decide)) (kJ_r J 20040 20043 (by decide) (by decide) (by decide)) (kJ_r J 20040 20048 (by decide) (by decide) (by decide)) he (nx _ (kJ_b (by decide) hJ) (kJ_c (by decide) hC)))
          · exact tr (kJ J 20040) (kJ_out J 20040) (pK2_3_k33 Z hn (kJ_b (by decide) hJ) (kJ_c (by decide) hC) hl hp hb ht ho (kJ_r J 20040 20040 (by decide) (by decide) (by decide)) (kJ_r J 20040 20045 (by decide) (by decide) (by decide)) (kJ_r J 20040 20041 (by decide) (by decide) (by decide)) (kJ_r J 20040 20046 (by decide) (by decide) (by decide)) (kJ_r J 20040 20042 (by decide) (by decide) (by decide)) (kJ_r J 20040 20047 (by decide) (by decide) (by decide)) (kJ_r J 20040 20043 (by decide) (by decide) (by decide)) (kJ_r J 20040 20048 (by decide) (by decide) (by decide)) he (nx _ (kJ_b (by decide) hJ) (kJ_c (by decide) hC)))
        · exfalso
          have hq := lk_np_lt xs L 3
          have := tk_f0 hb ht; omega
      · by_cases hp : lk_np xs L 3 = 1
        · by_cases he : lk_ns xs L 4 = lk_np xs L 4
          · exact tr (kJ J 20040) (kJ_out J 20040) (pK2_3_k36 Z hn (kJ_b (by decide) hJ) (kJ_c (by decide) hC) hl hp hb ht ho (kJ_r J 20040 20040 (by decide) (by decide) (by decide)) (kJ_r J 20040 20045 (by decide) (by decide) (by decide)) (kJ_r J 20040 20041 (by decide) (by decide) (by decide)) (kJ_r J 20040 20046 (by decide) (by decide) (by decide)) (kJ_r J 20040 20042 (by decide) (by decide) (by decide)) (kJ_r J 20040 20047 (by decide) (by decide) (by decide)) (kJ_r J 20040 20043 (by decide) (by decide) (by decide)) (kJ_r J 20040 20048 (by decide) (by decide) (by decide)) he (nx _ (kJ_b (by decide) hJ) (kJ_c (by decide) hC)))
          · exact tr (kJ J 20040) (kJ_out J 20040) (pK2_3_k35 Z hn (kJ_b (by decide) hJ) (kJ_c (by decide) hC) hl hp hb ht ho (kJ_r J 20040 20040 (by decide) (by decide) (by decide)) (kJ_r J 20040 20045 (by decide) (by decide) (by decide)) (kJ_r J 20040 20041 (by decide) (by decide) (by decide)) (kJ_r J 20040 20046 (by decide) (by decide) (by decide)) (kJ_r J 20040 20042 (by decide) (by decide) (by decide)) (kJ_r J 20040 20047 (by decide) (by decide) (by decide)) (kJ_r J 20040 20043 (by decide) (by decide) (by decide)) (kJ_r J 20040 20048 (by decide) (by decide) (by decide)) he (nx _ (kJ_b (by decide) hJ) (kJ_c (by decide) hC)))
        · exfalso
          have hq := lk_np_lt xs L 3
          have := tk_f0 hb ht; omega
theorem hK2_2 (Z : lw_W sv mt xs L lam dd) (hn : lx_nv xs L = 2) (hl : lc_l lam) (hL : (lam 0).toNatClampNeg ≤ 1000) (hcar : ∀ J, lb_ok xs L J → lc_ok xs L J → lk_tk xs L 2 = true → lk_x xs L 2 / 3 % 2 = 1 → ∃ J', (∀ i, i < 20030 ∨ 20030 + 10 ≤ i → J i = J' i) ∧ ∀ α, sg_ct sv mt 35 (lx_r xs L J', lam, α) kT2_2) (nx : ∀ J, lb_ok xs L J → lc_ok xs L J → lw_P sv mt xs L J lam dd n0 s0 Q 1326 l_K2_3 g_K2_3 278 1812) (J : Nat → Int32) (hJ : lb_ok xs L J) (hC : lc_ok xs L J) : lw_P sv mt xs L J lam dd n0 s0 Q 1326 l_K2_2 g_K2_2 273 1799 := by
  have tr : ∀ J' : Nat → Int32, (∀ i, i < 20030 ∨ 20030 + 10 ≤ i → J i = J' i) → lw_P sv mt xs L J' lam dd n0 s0 Q 1326 l_K2_2 g_K2_2 273 1799 → lw_P sv mt xs L J lam dd n0 s0 Q 1326 l_K2_2 g_K2_2 273 1799 := fun J' h P => lw_P_J (lo := 20030) (hi := 20030 + 10) h (by decide) hL (by decide +kernel) (by decide +kernel) P
  by_cases hb : lk_x xs L 2 % 3 = 0
  · by_cases ht : lk_tk xs L 2 = true
    · rcases (by omega : lk_x xs L 2 / 3 % 2 = 0 ∨ lk_x xs L 2 / 3 % 2 = 1) with ho | ho
      · by_cases hp : lk_np xs L 2 = 1
        · by_cases he : lk_ns xs L 3 = lk_np xs L 3
          · exact tr (kJ J 20030) (kJ_out J 20030) (pK2_2_k24 Z hn (kJ_b (by decide) hJ) (kJ_c (by decide) hC) hl hp hb ht ho (kJ_r J 20030 20030 (by decide) (by decide) (by decide)) (kJ_r J 20030 20035 (by decide) (by decide) (by decide)) (kJ_r J 20030 20031 (by decide) (by decide) (by decide)) (kJ_r J 20030 20036 (by decide) (by decide) (by decide)) (kJ_r J 20030 20032 (by decide) (by decide) (by decide)) (kJ_r J 20030 20037 (by decide) (by decide) (by decide)) (kJ_r J 20030 20033 (by decide) (by decide) (by decide)) (kJ_r J 20030 20038 (by decide) (by decide) (by decide)) he (nx _ (kJ_b (by decide) hJ) (kJ_c (by decide) hC)))
          · exact tr (kJ J 20030) (kJ_out J 20030) (pK2_2_k23 Z hn (kJ_b (by decide) hJ) (kJ_c (by decide) hC) hl hp hb ht ho (kJ_r J 20030 20030 (by decide) (by decide) (by decide)) (kJ_r J 20030 20035 (by decide) (by decide) (by decide)) (kJ_r J 20030 20031 (by decide) (by decide) (by decide)) (kJ_r J 20030 20036 (by decide) (by decide) (by decide)) (kJ_r J 20030 20032 (by decide) (by decide) (by decide)) (kJ_r J 20030 20037 (by decide) (by decide) (by decide)) (kJ_r J 20030 20033 (by decide) (by decide) (by decide)) (kJ_r J 20030 20038 (by decide) (by decide) (by decide)) he (nx _ (kJ_b (by decide) hJ) (kJ_c (by decide) hC)))
        · exfalso
          have hq := lk_np_lt xs L 2
          have := tk_b hb ht; omega
      · by_cases hp : lk_np xs L 2 = 1
        · obtain ⟨J', h1, h2⟩ := hcar J hJ hC ht ho
          have hJ' : lb_ok xs L J' := fun i a b => by rw [← h1 i (by omega)]; exact hJ i a b
          have hC' : lc_ok xs L J' := fun i a b => by rw [← h1 i (by omega)]; exact hC i a b
          exact tr J' h1 (pK2_2_k25 Z hn hJ' hC' hl hp hb ht ho h2 (nx J' hJ' hC'))
        · exfalso
          have hq := lk_np_lt xs L 2
          have := tk_b hb ht; omega
    · rcases (by omega : lk_x xs L 2 / 3 % 2 = 0 ∨ lk_x xs L 2 / 3 % 2 = 1) with ho | ho
      · by_cases hp : lk_np xs L 2 = 1
        · exfalso
          have hq := lk_np_lt xs L 2
          have := tk_b0 hb ht; omega
        · by_cases he : lk_ns xs L 3 = lk_np xs L 3
          · exact tr (kJ J 20030) (kJ_out J 20030) (pK2_2_k30 Z hn (kJ_b (by decide) hJ) (kJ_c (by decide) hC) hl hp hb ht ho (kJ_r J 20030 20030 (by decide) (by decide) (by decide)) (kJ_r J 20030 20035 (by decide) (by decide) (by decide)) (kJ_r J 20030 20031 (by decide) (by decide) (by decide)) (kJ_r J 20030 20036 (by decide) (by decide) (by decide)) (kJ_r J 20030 20032 (by decide) (by decide) (by decide)) (kJ_r J 20030 20037 (by decide) (by decide) (by decide)) (kJ_r J 20030 20033 (by decide) (by decide) (by decide)) (kJ_r J 20030 20038 (by decide) (by decide) (by decide)) he (nx _ (kJ_b (by decide) hJ) (kJ_c (by decide) hC)))
          · exact tr (kJ J 20030) (kJ_out J 20030) (pK2_2_k29 Z hn (kJ_b (by decide) hJ) (kJ_c (by decide) hC) hl hp hb ht ho (kJ_r J 20030 20030 (by decide) (by decide) (by decide)) (kJ_r J 20030 20035 (by decide) (by decide) (by decide)) (kJ_r J 20030 20031 (by decide) (by decide) (by decide)) (kJ_r J 20030 20036 (by decide) (by decide) (by decide)) (kJ_r J 20030 20032 (by decide) (by decide) (by decide)) (kJ_r J 20030 20037 (by decide) (by decide) (by decide)) (kJ_r J 20030 20033 (by decide) (by decide) (by decide)) (kJ_r J 20030 20038 (by decide) (by decide) (by decide)) he (nx _ (kJ_b (by decide) hJ) (kJ_c (by decide) hC)))
      · by_cases hp : lk_np xs L 2 = 1
        · exfalso
          have hq := lk_np_lt xs L 2
          have := tk_b0 hb ht; omega
        · by_cases he : lk_ns xs L 3 = lk_np xs L 3
          · exact tr (kJ J 20030) (kJ_out J 20030) (pK2_2_k32 Z hn (kJ_b (by decide) hJ) (kJ_c (by decide) hC) hl hp hb ht ho (kJ_r J 20030 20030 (by decide) (by decide) (by decide)) (kJ_r J 20030 20035 (by decide) (by decide) (by decide)) (kJ_r J 20030 20031 (by decide) (by decide) (by decide)) (kJ_r J 20030 20036 (by decide) (by decide) (by decide)) (kJ_r J 20030 20032 (by decide) (by decide) (by decide)) (kJ_r J 20030 20037 (by decide) (by decide) (by decide)) (kJ_r J 20030 20033 (by decide) (by decide) (by decide)) (kJ_r J 20030 20038 (by decide) (by decide) (by decide)) he (nx _ (kJ_b (by decide) hJ) (kJ_c (by decide) hC)))
          · exact tr (kJ J 20030) (kJ_out J 20030) (pK2_2_k31 Z hn (kJ_b (by decide) hJ) (kJ_c (by decide) hC) hl hp hb ht ho (kJ_r J 20030 20030 (by decide) (by decide) (by decide)) (kJ_r J 20030 20035 (by decide) (by decide) (by decide)) (kJ_r J 20030 20031 (by decide) (by decide) (by decide)) (kJ_r J 20030 20036 (by decide) (by decide) (by decide)) (kJ_r J 20030 20032 (by decide) (by decide) (by decide)) (kJ_r J 20030 20037 (by decide) (by decide) (by decide)) (kJ_r J 20030 20033 (by decide) (by decide) (by decide)) (kJ_r J 20030 20038 (by decide) (by decide) (by decide)) he (nx _ (kJ_b (by decide) hJ) (kJ_c (by decide) hC)))
  · by_cases ht : lk_tk xs L 2 = true
    · rcases (by omega : lk_x xs L 2 / 3 % 2 = 0 ∨ lk_x xs L 2 / 3 % 2 = 1) with ho | ho
      · by_cases hp : lk_np xs L 2 = 1
        · exfalso
          have hq := lk_np_lt xs L 2
          have := tk_f hb ht; omega
        · by_cases he : lk_ns xs L 3 = lk_np xs L 3
          · exact tr (kJ J 20030) (kJ_out J 20030) (pK2_2_k27 Z hn (kJ_b (by decide) hJ) (kJ_c (by decide) hC) hl hp hb ht ho (kJ_r J 20030 20030 (by decide) (by decide) (by decide)) (kJ_r J 20030 20035 (by decide) (by decide) (by decide)) (kJ_r J 20030 20031 (by decide) (by decide) (by decide)) (kJ_r J 20030 20036 (by decide) (by decide) (by decide)) (kJ_r J 20030 20032 (by decide) (by decide) (by decide)) (kJ_r J 20030 20037 (by decide) (by decide) (by decide)) (kJ_r J 20030 20033 (by decide) (by decide) (by decide)) (kJ_r J 20030 20038 (by decide) (by decide) (by decide)) he (nx _ (kJ_b (by decide) hJ) (kJ_c (by decide) hC)))
          · exact tr (kJ J 20030) (kJ_out J 20030) (pK2_2_k26 Z hn (kJ_b (by decide) hJ) (kJ_c (by decide) hC) hl hp hb ht ho (kJ_r J 20030 20030 (by decide) (by decide) (by decide)) (kJ_r J 20030 20035 (by decide) (by decide) (by decide)) (kJ_r J 20030 20031 (by decide) (by decide) (by decide)) (kJ_r J 20030 20036 (by decide) (by decide) (by decide)) (kJ_r J 20030 20032 (by decide) (by decide) (by decide)) (kJ_r J 20030 20037 (by decide) (by decide) (by decide)) (kJ_r J 20030 20033 (by decide) (by decide) (by decide)) (kJ_r J 20030 20038 (by decide) (by decide) (by decide)) he (nx _ (kJ_b (by decide) hJ) (kJ_c (by decide) hC)))
      · by_cases hp : lk_np xs L 2 = 1
        · exfalso
          have hq := lk_np_lt xs L 2
          have := tk_f hb ht; omega
        · obtain ⟨J', h1, h2⟩ := hcar J hJ hC ht ho
          have hJ' : lb_ok xs L J' := fun i a b => by rw [← h1 i (by omega)]; exact hJ i a b
          have hC' : lc_ok xs L J' := fun i a b => by rw [← h1 i (by omega)]; exact hC i a b
          exact tr J' h1 (pK2_2_k28 Z hn hJ' hC' hl hp hb ht ho h2 (nx J' hJ' hC'))
    · rcases (by omega : lk_x xs L 2 / 3 % 2 = 0 ∨ lk_x xs L 2 / 3 % 2 = 1) with ho | ho
      · by_cases hp : lk_np xs L 2 = 1
        · by_cases he : lk_ns xs L 3 = lk_np xs L 3
          · exact tr (kJ J 20030) (kJ_out J 20030) (pK2_2_k20 Z hn (kJ_b (by decide) hJ) (kJ_c (by decide) hC) hl hp hb ht ho (kJ_r J 20030 20030 (by decide) (by decide) (by decide)) (kJ_r J 20030 20035 (by decide) (by decide) (by decide)) (kJ_r J 20030 20031 (by decide) (by decide) (by decide)) (kJ_r J 20030 20036 (by decide) (by decide) (by decide)) (kJ_r J 20030 20032 (by decide) (by decide) (by decide)) (kJ_r J 20030 20037 (by decide) (by decide) (by decide)) (kJ_r J 20030 20033 (by decide) (by decide) (by decide)) (kJ_r J 20030 20038 (by decide) (by decide) (by decide)) he (nx _ (kJ_b (by decide) hJ) (kJ_c (by decide) hC)))
          · exact tr (kJ J 20030) (kJ_out J 20030) (pK2_2_k19 Z hn (kJ_b (by decide) hJ) (kJ_c (by decide) hC) hl hp hb ht ho (kJ_r J 20030 20030 (by decide) (by decide) (by decide)) (kJ_r J 20030 20035 (by decide) (by decide) (by decide)) (kJ_r J 20030 20031 (by decide) (by decide) (by decide)) (kJ_r J 20030 20036 (by decide) (by decide) (by decide)) (kJ_r J 20030 20032 (by decide) (by decide) (by decide)) (kJ_r J 20030 20037 (by decide) (by decide) (by decide)) (kJ_r J 20030 20033 (by decide) (by decide) (by decide)) (kJ_r J 20030 20038 (by decide) (by decide) (by decide)) he (nx _ (kJ_b (by decide) hJ) (kJ_c (by decide) hC)))
        · exfalso
          have hq := lk_np_lt xs L 2
          have := tk_f0 hb ht; omega
      · by_cases hp : lk_np xs L 2 = 1
        · by_cases he : lk_ns xs L 3 = lk_np xs L 3
          · exact tr (kJ J 20030) (kJ_out J 20030) (pK2_2_k22 Z hn (kJ_b (by decide) hJ) (kJ_c (by decide) hC) hl hp hb ht ho (kJ_r J 20030 20030 (by decide) (by decide) (by decide)) (kJ_r J 20030 20035 (by decide) (by decide) (by decide)) (kJ_r J 20030 20031 (by decide) (by decide) (by decide)) (kJ_r J 20030 20036 (by decide) (by decide) (by decide)) (kJ_r J 20030 20032 (by decide) (by decide) (by decide)) (kJ_r J 20030 20037 (by decide) (by decide) (by decide)) (kJ_r J 20030 20033 (by decide) (by decide) (by decide)) (kJ_r J 20030 20038 (by decide) (by decide) (by decide)) he (nx _ (kJ_b (by decide) hJ) (kJ_c (by decide) hC)))
          · exact tr (kJ J 20030) (kJ_out J 20030) (pK2_2_k21 Z hn (kJ_b (by decide) hJ) (kJ_c (by decide) hC) hl hp hb ht ho (kJ_r J 20030 20030 (by decide) (by decide) (by decide)) (kJ_r J 20030 20035 (by decide) (by decide) (by decide)) (kJ_r J 20030 20031 (by decide) (by decide) (by decide)) (kJ_r J 20030 20036 (by decide) (by decide) (by decide)) (kJ_r J 20030 20032 (by decide) (by decide) (by decide)) (kJ_r J 20030 20037 (by decide) (by decide) (by decide)) (kJ_r J 20030 20033 (by decide) (by decide) (by decide)) (kJ_r J 20030 20038 (by decide) (by decide) (by decide)) he (nx _ (kJ_b (by decide) hJ) (kJ_c (by decide) hC)))
        · exfalso
          have hq := lk_np_lt xs L 2
          have := tk_f0 hb ht; omega
theorem hK2_1 (Z : lw_W sv mt xs L lam dd) (hn : lx_nv xs L = 2) (hl : lc_l lam) (hL : (lam 0).toNatClampNeg ≤ 1000) (hcar : ∀ J, lb_ok xs L J → lc_ok xs L J → lk_tk xs L 1 = true → lk_x xs L 1 / 3 % 2 = 1 → ∃ J', (∀ i, i < 20020 ∨ 20020 + 10 ≤ i → J i = J' i) ∧ ∀ α, sg_ct sv mt 35 (lx_r xs L J', lam, α) kT2_1) (nx : ∀ J, lb_ok xs L J → lc_ok xs L J → lw_P sv mt xs L J lam dd n0 s0 Q 1326 l_K2_2 g_K2_2 273 1799) (J : Nat → Int32) (hJ : lb_ok xs L J) (hC : lc_ok xs L J) : lw_P sv mt xs L J lam dd n0 s0 Q 1326 l_K2_1 g_K2_1 268 1786 := by
  have tr : ∀ J' : Nat → Int32, (∀ i, i < 20020 ∨ 20020 + 10 ≤ i → J i = J' i) → lw_P sv mt xs L J' lam dd n0 s0 Q 1326 l_K2_1 g_K2_1 268 1786 → lw_P sv mt xs L J lam dd n0 s0 Q 1326 l_K2_1 g_K2_1 268 1786 := fun J' h P => lw_P_J (lo := 20020) (hi := 20020 + 10) h (by decide) hL (by decide +kernel) (by decide +kernel) P
  by_cases hb : lk_x xs L 1 % 3 = 0
  · by_cases ht : lk_tk xs L 1 = true
    · rcases (by omega : lk_x xs L 1 / 3 % 2 = 0 ∨ lk_x xs L 1 / 3 % 2 = 1) with ho | ho
      · by_cases hp : lk_np xs L 1 = 1
        · by_cases he : lk_ns xs L 2 = lk_np xs L 2
          · exact tr (kJ J 20020) (kJ_out J 20020) (pK2_1_k10 Z hn (kJ_b (by decide) hJ) (kJ_c (by decide) hC) hl hp hb ht ho (kJ_r J 20020 20020 (by decide) (by decide) (by decide)) (kJ_r J 20020 20025 (by decide) (by decide) (by decide)) (kJ_r J 20020 20021 (by decide) (by decide) (by decide)) (kJ_r J 20020 20026 (by decide) (by decide) (by decide)) (kJ_r J 20020 20022 (by decide) (by decide) (by decide)) (kJ_r J 20020 20027 (by decide) (by decide) (by decide)) (kJ_r J 20020 20023 (by decide) (by decide) (by decide)) (kJ_r J 20020 20028 (by decide) (by decide) (by decide)) he (nx _ (kJ_b (by decide) hJ) (kJ_c (by decide) hC)))
          · exact tr (kJ J 20020) (kJ_out J 20020) (pK2_1_k9 Z hn (kJ_b (by decide) hJ) (kJ_c (by decide) hC) hl hp hb ht ho (kJ_r J 20020 20020 (by decide) (by decide) (by decide)) (kJ_r J 20020 20025 (by decide) (by decide) (by decide)) (kJ_r J 20020 20021 (by decide) (by decide) (by decide)) (kJ_r J 20020 20026 (by decide) (by decide) (by decide)) (kJ_r J 20020 20022 (by decide) (by decide) (by decide)) (kJ_r J 20020 20027 (by decide) (by decide) (by decide)) (kJ_r J 20020 20023 (by decide) (by decide) (by decide)) (kJ_r J 20020 20028 (by decide) (by decide) (by decide)) he (nx _ (kJ_b (by decide) hJ) (kJ_c (by decide) hC)))
        · exfalso
          have hq := lk_np_lt xs L 1
          have := tk_b hb ht; omega
      · by_cases hp : lk_np xs L 1 = 1
        · obtain ⟨J', h1, h2⟩ := hcar J hJ hC ht ho
          have hJ' : lb_ok xs L J' := fun i a b => by rw [← h1 i (by omega)]; exact hJ i a b
          have hC' : lc_ok xs L J' := fun i a b => by rw [← h1 i (by omega)]; exact hC i a b
          exact tr J' h1 (pK2_1_k11 Z hn hJ' hC' hl hp hb ht ho h2 (nx J' hJ' hC'))
        · exfalso
          have hq := lk_np_lt xs L 1
          have := tk_b hb ht; omega
    · rcases (by omega : lk_x xs L 1 / 3 % 2 = 0 ∨ lk_x xs L 1 / 3 % 2 = 1) with ho | ho
      · by_cases hp : lk_np xs L 1 = 1
        · exfalso
          have hq := lk_np_lt xs L 1
          have := tk_b0 hb ht; omega
        · by_cases he : lk_ns xs L 2 = lk_np xs L 2
          · exact tr (kJ J 20020) (kJ_out J 20020) (pK2_1_k16 Z hn (kJ_b (by decide) hJ) (kJ_c (by decide) hC) hl hp hb ht ho (kJ_r J 20020 20020 (by decide) (by decide) (by decide)) (kJ_r J 20020 20025 (by decide) (by decide) (by decide)) (kJ_r J 20020 20021 (by decide) (by decide) (by decide)) (kJ_r J 20020 20026 (by decide) (by decide) (by decide)) (kJ_r J 20020 20022 (by decide) (by decide) (by decide)) (kJ_r J 20020 20027 (by decide) (by decide) (by decide)) (kJ_r J 20020 20023 (by decide) (by decide) (by decide)) (kJ_r J 20020 20028 (by decide) (by decide) (by decide)) he (nx _ (kJ_b (by decide) hJ) (kJ_c (by decide) hC)))
          · exact tr (kJ J 20020) (kJ_out J 20020) (pK2_1_k15 Z hn (kJ_b (by decide) hJ) (kJ_c (by decide) hC) hl hp hb ht ho (kJ_r J 20020 20020 (by decide) (by decide) (by decide)) (kJ_r J 20020 20025 (by decide) (by decide) (by decide)) (kJ_r J 20020 20021 (by decide) (by decide) (by decide)) (kJ_r J 20020 20026 (by decide) (by decide) (by decide)) (kJ_r J 20020 20022 (by decide) (by decide) (by decide)) (kJ_r J 20020 20027 (by decide) (by decide) (by decide)) (kJ_r J 20020 20023 (by decide) (by decide) (by decide)) (kJ_r J 20020 20028 (by decide) (by decide) (by decide)) he (nx _ (kJ_b (by decide) hJ) (kJ_c (by decide) hC)))
      · by_cases hp : lk_np xs L 1 = 1
        · exfalso
          have hq := lk_np_lt xs L 1
          have := tk_b0 hb ht; omega
        · by_cases he : lk_ns xs L 2 = lk_np xs L 2
          · exact tr (kJ J 20020) (kJ_out J 20020) (pK2_1_k18 Z hn (kJ_b (by decide) hJ) (kJ_c (by decide) hC) hl hp hb ht ho (kJ_r J 20020 20020 (by decide) (by decide) (by decide)) (kJ_r J 20020 20025 (by decide) (by decide) (by decide)) (kJ_r J 20020 20021 (by decide) (by decide) (by decide)) (kJ_r J 20020 20026 (by decide) (by decide) (by decide)) (kJ_r J 20020 20022 (by decide) (by decide) (by decide)) (kJ_r J 20020 20027 (by decide) (by decide) (by decide)) (kJ_r J 20020 20023 (by decide) (by decide) (by decide)) (kJ_r J 20020 20028 (by decide) (by decide) (by decide)) he (nx _ (kJ_b (by decide) hJ) (kJ_c (by decide) hC)))
          · exact tr (kJ J 20020) (kJ_out J 20020) (pK2_1_k17 Z hn (kJ_b (by decide) hJ) (kJ_c (by decide) hC) hl hp hb ht ho (kJ_r J 20020 20020 (by decide) (by decide) (by decide)) (kJ_r J 20020 20025 (by decide) (by decide) (by decide)) (kJ_r J 20020 20021 (by decide) (by decide) (by decide)) (kJ_r J 20020 20026 (by decide) (by decide) (by decide)) (kJ_r J 20020 20022 (by decide) (by decide) (by decide)) (kJ_r J 20020 20027 (by decide) (by decide) (by decide)) (kJ_r J 20020 20023 (by decide) (by decide) (by decide)) (kJ_r J 20020 20028 (by decide) (by decide) (by decide)) he (nx _ (kJ_b (by decide) hJ) (kJ_c (by decide) hC)))
  · by_cases ht : lk_tk xs L 1 = true
    · rcases (by omega : lk_x xs L 1 / 3 % 2 = 0 ∨ lk_x xs L 1 / 3 % 2 = 1) with ho | ho
      · by_cases hp : lk_np xs L 1 = 1
        · exfalso
          have hq := lk_np_lt xs L 1
          have := tk_f hb ht; omega
        · by_cases he : lk_ns xs L 2 = lk_np xs L 2
          · exact tr (kJ J 20020) (kJ_out J 20020) (pK2_1_k13 Z hn (kJ_b (by decide) hJ) (kJ_c (by decide) hC) hl hp hb ht ho (kJ_r J 20020 20020 (by decide) (by decide) (by decide)) (kJ_r J 20020 20025 (by decide) (by decide) (by decide)) (kJ_r J 20020 20021 (by decide) (by decide) (by decide)) (kJ_r J 20020 20026 (by decide) (by decide) (by decide)) (kJ_r J 20020 20022 (by decide) (by decide) (by decide)) (kJ_r J 20020 20027 (by decide) (by decide) (by decide)) (kJ_r J 20020 20023 (by decide) (by decide) (by decide)) (kJ_r J 20020 20028 (by decide) (by decide) (by decide)) he (nx _ (kJ_b (by decide) hJ) (kJ_c (by decide) hC)))
          · exact tr (kJ J 20020) (kJ_out J 20020) (pK2_1_k12 Z hn (kJ_b (by decide) hJ) (kJ_c (by decide) hC) hl hp hb ht ho (kJ_r J 20020 20020 (by decide) (by decide) (by decide)) (kJ_r J 20020 20025 (by decide) (by decide) (by decide)) (kJ_r J 20020 20021 (by decide) (by decide) (by decide)) (kJ_r J 20020 20026 (by decide) (by decide) (by decide)) (kJ_r J 20020 20022 (by decide) (by decide) (by decide)) (kJ_r J 20020 20027 (by decide) (by decide) (by decide)) (kJ_r J 20020 20023 (by decide) (by decide) (by decide)) (kJ_r J 20020 20028 (by decide) (by decide) (by decide)) he (nx _ (kJ_b (by decide) hJ) (kJ_c (by decide) hC)))
      · by_cases hp : lk_np xs L 1 = 1
        · exfalso
          have hq := lk_np_lt xs L 1
          have := tk_f hb ht; omega
        · obtain ⟨J', h1, h2⟩ := hcar J hJ hC ht ho
          have hJ' : lb_ok xs L J' := fun i a b => by rw [← h1 i (by omega)]; exact hJ i a b
          have hC' : lc_ok xs L J' := fun i a b => by rw [← h1 i (by omega)]; exact hC i a b
          exact tr J' h1 (pK2_1_k14 Z hn hJ' hC' hl hp hb ht ho h2 (nx J' hJ' hC'))
    · rcases (by omega : lk_x xs L 1 / 3 % 2 = 0 ∨ lk_x xs L 1 / 3 % 2 = 1) with ho | ho
      · by_cases hp : lk_np xs L 1 = 1
        · by_cases he : lk_ns xs L 2 = lk_np xs L 2
          · exact tr (kJ J 20020) (kJ_out J 20020) (pK2_1_k6 Z hn (kJ_b (by decide) hJ) (kJ_c (by decide) hC) hl hp hb ht ho (kJ_r J 20020 20020 (by decide) (by decide) (by decide)) (kJ_r J 20020 20025 (by decide) (by decide) (by decide)) (kJ_r J 20020 20021 (by decide) (by decide) (by decide)) (kJ_r J 20020 20026 (by decide) (by decide) (by decide)) (kJ_r J 20020 20022 (by decide) (by decide) (by decide)) (kJ_r J 20020 20027 (by decide) (by decide) (by decide)) (kJ_r J 20020 20023 (by decide) (by decide) (by decide)) (kJ_r J 20020 20028 (by decide) (by decide) (by decide)) he (nx _ (kJ_b (by decide) hJ) (kJ_c (by decide) hC)))
          · exact tr (kJ J 20020) (kJ_out J 20020) (pK2_1_k5 Z hn (kJ_b (by decide) hJ) (kJ_c (by decide) hC) hl hp hb ht ho (kJ_r J 20020 20020 (by decide) (by decide) (by decide)) (kJ_r J 20020 20025 (by decide) (by decide) (by decide)) (kJ_r J 20020 20021 (by decide) (by decide) (by decide)) (kJ_r J 20020 20026 (by decide) (by decide) (by decide)) (kJ_r J 20020 20022 (by decide) (by decide) (by decide)) (kJ_r J 20020 20027 (by decide) (by decide) (by decide)) (kJ_r J 20020 20023 (by decide) (by decide) (by decide)) (kJ_r J 20020 20028 (by decide) (by decide) (by decide)) he (nx _ (kJ_b (by decide) hJ) (kJ_c (by decide) hC)))
        · exfalso
          have hq := lk_np_lt xs L 1
          have := tk_f0 hb ht; omega
      · by_cases hp : lk_np xs L 1 = 1
        · by_cases he : lk_ns xs L 2 = lk_np xs L 2
          · exact tr (kJ J 20020) (kJ_out J 20020) (pK2_1_k8 Z hn (kJ_b (by decide) hJ) (kJ_c (by decide) hC) hl hp hb ht ho (kJ_r J 20020 20020 (by decide) (by decide) (by decide)) (kJ_r J 20020 20025 (by decide) (by decide) (by decide)) (kJ_r J 20020 20021 (by decide) (by decide) (by decide)) (kJ_r J 20020 20026 (by decide) (by decide) (by decide)) (kJ_r J 20020 20022 (by decide) (by decide) (by decide)) (kJ_r J 20020 20027 (by decide) (by decide) (by decide)) (kJ_r J 20020 20023 (by decide) (by decide) (by decide)) (kJ_r J 20020 20028 (by decide) (by decide) (by decide)) he (nx _ (kJ_b (by decide) hJ) (kJ_c (by decide) hC)))
          · exact tr (kJ J 20020) (kJ_out J 20020) (pK2_1_k7 Z hn (kJ_b (by decide) hJ) (kJ_c (by decide) hC) hl hp hb ht ho (kJ_r J 20020 20020 (by decide) (by decide) (by decide)) (kJ_r J 20020 20025 (by decide) (by decide) (by decide)) (kJ_r J 20020 20021 (by decide) (by decide) (by decide)) (kJ_r J 20020 20026 (by decide) (by decide) (by decide)) (kJ_r J 20020 20022 (by decide) (by decide) (by decide)) (kJ_r J 20020 20027 (by decide) (by decide) (by decide)) (kJ_r J 20020 20023 (by decide) (by decide) (by decide)) (kJ_r J 20020 20028 (by decide) (by decide) (by decide)) he (nx _ (kJ_b (by decide) hJ) (kJ_c (by decide) hC)))
        · exfalso
          have hq := lk_np_lt xs L 1
          have := tk_f0 hb ht; omega
theorem hK2_0 (Z : lw_W sv mt xs L lam dd) (hn : lx_nv xs L = 2) (hl : lc_l lam) (hL : (lam 0).toNatClampNeg ≤ 1000) (hcar : ∀ J, lb_ok xs L J → lc_ok xs L J → lk_tk xs L 0 = true → lk_x xs L 0 / 3 % 2 = 1 → ∃ J', (∀ i, i < 20010 ∨ 20010 + 10 ≤ i → J i = J' i) ∧ ∀ α, sg_ct sv mt 35 (lx_r xs L J', lam, α) kT2_0) (nx : ∀ J, lb_ok xs L J → lc_ok xs L J → lw_P sv mt xs L J lam dd n0 s0 Q 1326 l_K2_1 g_K2_1 268 1786) (J : Nat → Int32) (hJ : lb_ok xs L J) (hC : lc_ok xs L J) : lw_P sv mt xs L J lam dd n0 s0 Q 1326 l_K2_0 g_K2_0 263 1773 := by
  have tr : ∀ J' : Nat → Int32, (∀ i, i < 20010 ∨ 20010 + 10 ≤ i → J i = J' i) → lw_P sv mt xs L J' lam dd n0 s0 Q 1326 l_K2_0 g_K2_0 263 1773 → lw_P sv mt xs L J lam dd n0 s0 Q 1326 l_K2_0 g_K2_0 263 1773 := fun J' h P => lw_P_J (lo := 20010) (hi := 20010 + 10) h (by decide) hL (by decide +kernel) (by decide +kernel) P
  by_cases hb : lk_x xs L 0 % 3 = 0
  · by_cases ht : lk_tk xs L 0 = true
    · rcases (by omega : lk_x xs L 0 / 3 % 2 = 0 ∨ lk_x xs L 0 / 3 % 2 = 1) with ho | ho
      · exact tr (kJ J 20010) (kJ_out J 20010) (pK2_0_k3 Z hn (kJ_b (by decide) hJ) (kJ_c (by decide) hC) hl hb ht ho (kJ_r J 20010 20010 (by decide) (by decide) (by decide)) (kJ_r J 20010 20015 (by decide) (by decide) (by decide)) (kJ_r J 20010 20011 (by decide) (by decide) (by decide)) (kJ_r J 20010 20016 (by decide) (by decide) (by decide)) (kJ_r J 20010 20012 (by decide) (by decide) (by decide)) (kJ_r J 20010 20017 (by decide) (by decide) (by decide)) (kJ_r J 20010 20013 (by decide) (by decide) (by decide)) (kJ_r J 20010 20018 (by decide) (by decide) (by decide)) (nx _ (kJ_b (by decide) hJ) (kJ_c (by decide) hC)))
      · obtain ⟨J', h1, h2⟩ := hcar J hJ hC ht ho
        have hJ' : lb_ok xs L J' := fun i a b => by rw [← h1 i (by omega)]; exact hJ i a b
        have hC' : lc_ok xs L J' := fun i a b => by rw [← h1 i (by omega)]; exact hC i a b
        exact tr J' h1 (pK2_0_k4 Z hn hJ' hC' hl hb ht ho h2 (nx J' hJ' hC'))
    · rcases (by omega : lk_x xs L 0 / 3 % 2 = 0 ∨ lk_x xs L 0 / 3 % 2 = 1) with ho | ho
      · exfalso
        have e0 : lk_np xs L 0 = 1 := rfl
        have := tk_b0 hb ht; omega
      · exfalso
        have e0 : lk_np xs L 0 = 1 := rfl
        have := tk_b0 hb ht; omega
  · by_cases ht : lk_tk xs L 0 = true
    · rcases (by omega : lk_x xs L 0 / 3 % 2 = 0 ∨ lk_x xs L 0 / 3 % 2 = 1) with ho | ho
      · exfalso
        have e0 : lk_np xs L 0 = 1 := rfl
        have := tk_f hb ht; omega
      · exfalso
        have e0 : lk_np xs L 0 = 1 := rfl
        have := tk_f hb ht; omega
    · rcases (by omega : lk_x xs L 0 / 3 % 2 = 0 ∨ lk_x xs L 0 / 3 % 2 = 1) with ho | ho
      · exact tr (kJ J 20010) (kJ_out J 20010) (pK2_0_k1 Z hn (kJ_b (by decide) hJ) (kJ_c (by decide) hC) hl hb ht ho (kJ_r J 20010 20010 (by decide) (by decide) (by decide)) (kJ_r J 20010 20015 (by decide) (by decide) (by decide)) (kJ_r J 20010 20011 (by decide) (by decide) (by decide)) (kJ_r J 20010 20016 (by decide) (by decide) (by decide)) (kJ_r J 20010 20012 (by decide) (by decide) (by decide)) (kJ_r J 20010 20017 (by decide) (by decide) (by decide)) (kJ_r J 20010 20013 (by decide) (by decide) (by decide)) (kJ_r J 20010 20018 (by decide) (by decide) (by decide)) (nx _ (kJ_b (by decide) hJ) (kJ_c (by decide) hC)))
      · exact tr (kJ J 20010) (kJ_out J 20010) (pK2_0_k2 Z hn (kJ_b (by decide) hJ) (kJ_c (by decide) hC) hl hb ht ho (kJ_r J 20010 20010 (by decide) (by decide) (by decide)) (kJ_r J 20010 20015 (by decide) (by decide) (by decide)) (kJ_r J 20010 20011 (by decide) (by decide) (by decide)) (kJ_r J 20010 20016 (by decide) (by decide) (by decide)) (kJ_r J 20010 20012 (by decide) (by decide) (by decide)) (kJ_r J 20010 20017 (by decide) (by decide) (by decide)) (kJ_r J 20010 20013 (by decide) (by decide) (by decide)) (kJ_r J 20010 20018 (by decide) (by decide) (by decide)) (nx _ (kJ_b (by decide) hJ) (kJ_c (by decide) hC)))
theorem hK3_4 (Z : lw_W sv mt xs L lam dd) (hn : lx_nv xs L = 3) (hl : lc_l lam) (hL : (lam 0).toNatClampNeg ≤ 1000) (hcar : ∀ J, lb_ok xs L J → lc_ok xs L J → lk_tk xs L 4 = true → lk_x xs L 4 / 3 % 2 = 1 → ∃ J', (∀ i, i < 20050 ∨ 20050 + 10 ≤ i → J i = J' i) ∧ ∀ α, sg_ct sv mt 35 (lx_r xs L J', lam, α) kT3_4) (nx : ∀ J, lb_ok xs L J → lc_ok xs L J → lw_P sv mt xs L J lam dd n0 s0 Q 1326 l_K3_5 g_K3_5 342 2257) (J : Nat → Int32) (hJ : lb_ok xs L J) (hC : lc_ok xs L J) : lw_P sv mt xs L J lam dd n0 s0 Q 1326 l_K3_4 g_K3_4 337 2244 := by
  have tr : ∀ J' : Nat → Int32, (∀ i, i < 20050 ∨ 20050 + 10 ≤ i → J i = J' i) → lw_P sv mt xs L J' lam dd n0 s0 Q 1326 l_K3_4 g_K3_4 337 2244 → lw_P sv mt xs L J lam dd n0 s0 Q 1326 l_K3_4 g_K3_4 337 2244 := fun J' h P => lw_P_J (lo := 20050) (hi := 20050 + 10) h (by decide) hL (by decide +kernel) (by decide +kernel) P
  by_cases hb : lk_x xs L 4 % 3 = 0
  · by_cases ht : lk_tk xs L 4 = true
    · rcases (by omega : lk_x xs L 4 / 3 % 2 = 0 ∨ lk_x xs L 4 / 3 % 2 = 1) with ho | ho
      · by_cases hp : lk_np xs L 4 = 1
        · by_cases he : lk_ns xs L 5 = lk_np xs L 5
          · exact tr (kJ J 20050) (kJ_out J 20050) (pK3_4_k130 Z hn (kJ_b (by decide) hJ) (kJ_c (by decide) hC) hl hp hb ht ho (kJ_r J 20050 20050 (by decide) (by decide) (by decide)) (kJ_r J 20050 20055 (by decide) (by decide) (by decide)) (kJ_r J 20050 20051 (by decide) (by decide) (by decide)) (kJ_r J 20050 20056 (by decide) (by decide) (by decide)) (kJ_r J 20050 20052 (by decide) (by decide) (by decide)) (kJ_r J 20050 20057 (by decide) (by decide) (by decide)) (kJ_r J 20050 20053 (by decide) (by decide) (by decide)) (kJ_r J 20050 20058 (by decide) (by decide) (by decide)) he (nx _ (kJ_b (by decide) hJ) (kJ_c (by decide) hC)))
          · exact tr (kJ J 20050) (kJ_out J 20050) (pK3_4_k129 Z hn (kJ_b (by decide) hJ) (kJ_c (by decide) hC) hl hp hb ht ho (kJ_r J 20050 20050 (by decide) (by decide) (by decide)) (kJ_r J 20050 20055 (by decide) (by decide) (by decide)) (kJ_r J 20050 20051 (by decide) (by decide) (by decide)) (kJ_r J 20050 20056 (by decide) (by decide) (by decide)) (kJ_r J 20050 20052 (by decide) (by decide) (by decide)) (kJ_r J 20050 20057 (by decide) (by decide) (by decide)) (kJ_r J 20050 20053 (by decide) (by decide) (by decide)) (kJ_r J 20050 20058 (by decide) (by decide) (by decide)) he (nx _ (kJ_b (by decide) hJ) (kJ_c (by decide) hC)))
        · by_cases he : lk_ns xs L 5 = lk_np xs L 5
          · exact tr (kJ J 20050) (kJ_out J 20050) (pK3_4_k144 Z hn (kJ_b (by decide) hJ) (kJ_c (by decide) hC) hl hp hb ht ho (kJ_r J 20050 20050 (by decide) (by decide) (by decide)) (kJ_r J 20050 20055 (by decide) (by decide) (by decide)) (kJ_r J 20050 20051 (by decide) (by decide) (by decide)) (kJ_r J 20050 20056 (by decide) (by decide) (by decide)) (kJ_r J 20050 20052 (by decide) (by decide) (by decide)) (kJ_r J 20050 20057 (by decide) (by decide) (by decide)) (kJ_r J 20050 20053 (by decide) (by decide) (by decide)) (kJ_r J 20050 20058 (by decide) (by decide) (by decide)) he (nx _ (kJ_b (by decide) hJ) (kJ_c (by decide) hC)))
          · exact tr (kJ J 20050) (kJ_out J 20050) (pK3_4_k143 Z hn (kJ_b (by decide) hJ) (kJ_c (by decide) hC) hl hp hb ht ho (kJ_r J 20050 20050 (by decide) (by decide) (by decide)) (kJ_r J 20050 20055 (by decide) (by decide) (by decide)) (kJ_r J 20050 20051 (by decide) (by decide) (by decide)) (kJ_r J 20050 20056 (by decide) (by decide) (by decide)) (kJ_r J 20050 20052 (by decide) (by decide) (by decide)) (kJ_r J 20050 20057 (by decide) (by decide) (by decide)) (kJ_r J 20050 20053 (by decide) (by decide) (by decide)) (kJ_r J 20050 20058 (by decide) (by decide) (by decide)) he (nx _ (kJ_b (by decide) hJ) (kJ_c (by decide) hC)))
      · by_cases hp : lk_np xs L 4 = 1
        · obtain ⟨J', h1, h2⟩ := hcar J hJ hC ht ho
          have hJ' : lb_ok xs L J' := fun i a b => by rw [← h1 i (by omega)]; exact hJ i a b
          have hC' : lc_ok xs L J' := fun i a b => by rw [← h1 i (by omega)]; exact hC i a b
          exact tr J' h1 (pK3_4_k131 Z hn hJ' hC' hl hp hb ht ho h2 (nx J' hJ' hC'))
        · obtain ⟨J', h1, h2⟩ := hcar J hJ hC ht ho
          have hJ' : lb_ok xs L J' := fun i a b => by rw [← h1 i (by omega)]; exact hJ i a b
          have hC' : lc_ok xs L J' := fun i a b => by rw [← h1 i (by omega)]; exact hC i a b
          exact tr J' h1 (pK3_4_k145 Z hn hJ' hC' hl hp hb ht ho h2 (nx J' hJ' hC'))
    · rcases (by omega : lk_x xs L 4 / 3 % 2 = 0 ∨ lk_x xs L 4 / 3 % 2 = 1) with ho | ho
      · by_cases hp : lk_np xs L 4 = 1
        · exfalso
          have hq := lk_np_lt xs L 4
          have := tk_b0 hb ht; omega
        · by_cases he : lk_ns xs L 5 = lk_np xs L 5
          · exact tr (kJ J 20050) (kJ_out J 20050) (pK3_4_k140 Z hn (kJ_b (by decide) hJ) (kJ_c (by decide) hC) hl hp hb ht ho (kJ_r J 20050 20050 (by decide) (by decide) (by decide)) (kJ_r J 20050 20055 (by decide) (by decide) (by decide)) (kJ_r J 20050 20051 (by decide) (by decide) (by decide)) (kJ_r J 20050 20056 (by decide) (by decide) (by decide)) (kJ_r J 20050 20052 (by decide) (by decide) (by decide)) (kJ_r J 20050 20057 (by decide) (by decide) (by decide)) (kJ_r J 20050 20053 (by decide) (by decide) (by decide)) (kJ_r J 20050 20058 (by decide) (by decide) (by decide)) he (nx _ (kJ_b (by decide) hJ) (kJ_c (by decide) hC)))
          · exact tr (kJ J 20050) (kJ_out J 20050) (pK3_4_k139 Z hn (kJ_b (by decide) hJ) (kJ_c (by decide) hC) hl hp hb ht ho (kJ_r J 20050 20050 (by decide) (by decide) (by decide)) (kJ_r J 20050 20055 (by decide) (by decide) (by decide)) (kJ_r J 20050 20051 (by decide) (by decide) (by decide)) (kJ_r J 20050 20056 (by decide) (by decide) (by decide)) (kJ_r J 20050 20052 (by decide) (by decide) (by decide)) (kJ_r J 20050 20057 (by decide) (by decide) (by decide)) (kJ_r J 20050 20053 (by decide) (by decide) (by decide)) (kJ_r J 20050 20058 (by decide) (by decide) (by decide)) he (nx _ (kJ_b (by decide) hJ) (kJ_c (by decide) hC)))
      · by_cases hp : lk_np xs L 4 = 1
        · exfalso
          have hq := lk_np_lt xs L 4
          have := tk_b0 hb ht; omega
        · by_cases he : lk_ns xs L 5 = lk_np xs L 5
          · exact tr (kJ J 20050) (kJ_out J 20050) (pK3_4_k142 Z hn (kJ_b (by decide) hJ) (kJ_c (by decide) hC) hl hp hb ht ho (kJ_r J 20050 20050 (by decide) (by decide) (by decide)) (kJ_r J 20050 20055 (by decide) (by decide) (by decide)) (kJ_r J 20050 20051 (by decide) (by decide) (by decide)) (kJ_r J 20050 20056 (by decide) (by decide) (by decide)) (kJ_r J 20050 20052 (by decide) (by decide) (by decide)) (kJ_r J 20050 20057 (by decide) (by decide) (by decide)) (kJ_r J 20050 20053 (by decide) (by decide) (by decide)) (kJ_r J 20050 20058 (by decide) (by decide) (by decide)) he (nx _ (kJ_b (by decide) hJ) (kJ_c (by decide) hC)))
          · exact tr (kJ J 20050) (kJ_out J 20050) (pK3_4_k141 Z hn (kJ_b (by decide) hJ) (kJ_c (by decide) hC) hl hp hb ht ho (kJ_r J 20050 20050 (by decide) (by decide) (by decide)) (kJ_r J 20050 20055 (by decide) (by decide) (by decide)) (kJ_r J 20050 20051 (by decide) (by decide) (by decide)) (kJ_r J 20050 20056 (by decide) (by decide) (by decide)) (kJ_r J 20050 20052 (by decide) (by decide) (by decide)) (kJ_r J 20050 20057 (by decide) (by decide) (by decide)) (kJ_r J 20050 20053 (by decide) (by decide) (by decide)) (kJ_r J 20050 20058 (by decide) (by decide) (by decide)) he (nx _ (kJ_b (by decide) hJ) (kJ_c (by decide) hC)))
  · by_cases ht : lk_tk xs L 4 = true
    · rcases (by omega : lk_x xs L 4 / 3 % 2 = 0 ∨ lk_x xs L 4 / 3 % 2 = 1) with ho | ho
      · by_cases hp : lk_np xs L 4 = 1
        · by_cases he : lk_ns xs L 5 = lk_np xs L 5
          · exact tr (kJ J 20050) (kJ_out J 20050) (pK3_4_k127 Z hn (kJ_b (by decide) hJ) (kJ_c (by decide) hC) hl hp hb ht ho (kJ_r J 20050 20050 (by decide) (by decide) (by decide)) (kJ_r J 20050 20055 (by decide) (by decide) (by decide)) (kJ_r J 20050 20051 (by decide) (by decide) (by decide)) (kJ_r J 20050 20056 (by decide) (by decide) (by decide)) (kJ_r J 20050 20052 (by decide) (by decide) (by decide)) (kJ_r J 20050 20057 (by decide) (by decide) (by decide)) (kJ_r J 20050 20053 (by decide) (by decide) (by decide)) (kJ_r J 20050 20058 (by decide) (by decide) (by decide)) he (nx _ (kJ_b (by decide) hJ) (kJ_c (by decide) hC)))
          · exact tr (kJ J 20050) (kJ_out J 20050) (pK3_4_k126 Z hn (kJ_b (by decide) hJ) (kJ_c (by decide) hC) hl hp hb ht ho (kJ_r J 20050 20050 (by decide) (by decide) (by decide)) (kJ_r J 20050 20055 (by decide) (by decide) (by decide)) (kJ_r J 20050 20051 (by decide) (by decide) (by decide)) (kJ_r J 20050 20056 (by decide) (by decide) (by decide)) (kJ_r J 20050 20052 (by decide) (by decide) (by decide)) (kJ_r J 20050 20057 (by decide) (by decide) (by decide)) (kJ_r J 20050 20053 (by decide) (by decide) (by decide)) (kJ_r J 20050 20058 (by decide) (by decide) (by decide)) he (nx _ (kJ_b (by decide) hJ) (kJ_c (by decide) hC)))
        · by_cases he : lk_ns xs L 5 = lk_np xs L 5
          · exact tr (kJ J 20050) (kJ_out J 20050) (pK3_4_k137 Z hn (kJ_b (by decide) hJ) (kJ_c (by decide) hC) hl hp hb ht ho (kJ_r J 20050 20050 (by decide) (by decide) (by decide)) (kJ_r J 20050 20055 (by decide) (by decide) (by decide)) (kJ_r J 20050 20051 (by decide) (by decide) (by decide)) (kJ_r J 20050 20056 (by decide) (by decide) (by decide)) (kJ_r J 20050 20052 (by decide) (by decide) (by decide)) (kJ_r J 20050 20057 (by decide) (by decide) (by decide)) (kJ_r J 20050 20053 (by decide) (by decide) (by decide)) (kJ_r J 20050 20058 (by decide) (by decide) (by decide)) he (nx _ (kJ_b (by decide) hJ) (kJ_c (by decide) hC)))
          · exact tr (kJ J 20050) (kJ_out J 20050) (pK3_4_k136 Z hn (kJ_b (by decide) hJ) (kJ_c (by decide) hC) hl hp hb ht ho (kJ_r J 20050 20050 (by decide) (by decide) (by decide)) (kJ_r J 20050 20055 (by decide) (by decide) (by decide)) (kJ_r J 20050 20051 (by decide) (by decide) (by decide)) (kJ_r J 20050 20056 (by decide) (by decide) (by decide)) (kJ_r J 20050 20052 (by decide) (by decide) (by decide)) (kJ_r J 20050 20057 (by decide) (by decide) (by decide)) (kJ_r J 20050 20053 (by decide) (by decide) (by decide)) (kJ_r J 20050 20058 (by decide) (by decide) (by decide)) he (nx _ (kJ_b (by decide) hJ) (kJ_c (by decide) hC)))
      · by_cases hp : lk_np xs L 4 = 1
        · obtain ⟨J', h1, h2⟩ := hcar J hJ hC ht ho
          have hJ' : lb_ok xs L J' := fun i a b => by rw [← h1 i (by omega)]; exact hJ i a b
          have hC' : lc_ok xs L J' := fun i a b => by rw [← h1 i (by omega)]; exact hC i a b
          exact tr J' h1 (pK3_4_k128 Z hn hJ' hC' hl hp hb ht ho h2 (nx J' hJ' hC'))
        · obtain ⟨J', h1, h2⟩ := hcar J hJ hC ht ho
          have hJ' : lb_ok xs L J' := fun i a b => by rw [← h1 i (by omega)]; exact hJ i a b
          have hC' : lc_ok xs L J' := fun i a b => by rw [← h1 i (by omega)]; exact hC i a b
          exact tr J' h1 (pK3_4_k138 Z hn hJ' hC' hl hp hb ht ho h2 (nx J' hJ' hC'))
    · rcases (by omega : lk_x xs L 4 / 3 % 2 = 0 ∨ lk_x xs L 4 / 3 % 2 = 1) with ho | ho
      · by_cases hp : lk_np xs L 4 = 1
        · exfalso
          have hq := lk_np_lt xs L 4
          have := tk_f0 hb ht; omega
        · by_cases he : lk_ns xs L 5 = lk_np xs L 5
          · exact tr (kJ J 20050) (kJ_out J 20050) (pK3_4_k133 Z hn (kJ_b (by decide) hJ) (kJ_c (by decide) hC) hl hp hb ht ho (kJ_r J 20050 20050 (by decide) (by decide) (by decide)) (kJ_r J 20050 20055 (by decide) (by decide) (by decide)) (kJ_r J 20050 20051 (by decide) (by decide) (by decide)) (kJ_r J 20050 20056 (by decide) (by decide) (by decide)) (kJ_r J 20050 20052 (by decide) (by decide) (by decide)) (kJ_r J 20050 20057 (by decide) (by decide) (by decide)) (kJ_r J 20050 20053 (by decide) (by decide) (by decide)) (kJ_r J 20050 20058 (by decide) (by decide) (by decide)) he (nx _ (kJ_b (by decide) hJ) (kJ_c (by decide) hC)))
          · exact tr (kJ J 20050) (kJ_out J 20050) (pK3_4_k132 Z hn (kJ_b (by decide) hJ) (kJ_c (by decide) hC) hl hp hb ht ho (kJ_r J 20050 20050 (by decide) (by decide) (by decide)) (kJ_r J 20050 20055 (by decide) (by decide) (by decide)) (kJ_r J 20050 20051 (by decide) (by decide) (by decide)) (kJ_r J 20050 20056 (by decide) (by decide) (by decide)) (kJ_r J 20050 20052 (by decide) (by decide) (by decide)) (kJ_r J 20050 20057 (by decide) (by decide) (by decide)) (kJ_r J 20050 20053 (by decide) (by decide) (by decide)) (kJ_r J 20050 20058 (by decide) (by decide) (by decide)) he (nx _ (kJ_b (by decide) hJ) (kJ_c (by decide) hC)))
      · by_cases hp : lk_np xs L 4 = 1
        · exfalso
          have hq := lk_np_lt xs L 4
          have := tk_f0 hb ht; omega
        · by_cases he : lk_ns xs L 5 = lk_np xs L 5
          · exact tr (kJ J 20050) (kJ_out J 20050) (pK3_4_k135 Z hn (kJ_b (by decide) hJ) (kJ_c (by decide) hC) hl hp hb ht ho (kJ_r J 20050 20050 (by decide) (by decide) (by decide)) (kJ_r J 20050 20055 (by decide) (by decide) (by decide)) (kJ_r J 20050 20051 (by decide) (by decide) (by decide)) (kJ_r J 20050 20056 (by decide) (by decide) (by decide)) (kJ_r J 20050 20052 (by decide) (by decide) (by decide)) (kJ_r J 20050 20057 (by decide) (by decide) (by decide)) (kJ_r J 20050 20053 (by decide) (by decide) (by decide)) (kJ_r J 20050 20058 (by decide) (by decide) (by decide)) he (nx _ (kJ_b (by decide) hJ) (kJ_c (by decide) hC)))
          · exact tr (kJ J 20050) (kJ_out J 20050) (pK3_4_k134 Z hn (kJ_b (by decide) hJ) (kJ_c (by decide) hC) hl hp hb ht ho (kJ_r J 20050 20050 (by decide) (by decide) (by decide)) (kJ_r J 20050 20055 (by decide) (by decide) (by decide)) (kJ_r J 20050 20051 (by decide) (by decide) (by decide)) (kJ_r J 20050 20056 (by decide) (by decide) (by decide)) (kJ_r J 20050 20052 (by decide) (by decide) (by decide)) (kJ_r J 20050 20057 (by decide) (by decide) (by decide)) (kJ_r J 20050 20053 (by decide) (by decide) (by decide)) (kJ_r J 20050 20058 (by decide) (by decide) (by decide)) he (nx _ (kJ_b (by decide) hJ) (kJ_c (by decide) hC)))
theorem hK3_3 (Z : lw_W sv mt xs L lam dd) (hn : lx_nv xs L = 3) (hl : lc_l lam) (hL : (lam 0).toNatClampNeg ≤ 1000) (hcar : ∀ J, lb_ok xs L J → lc_ok xs L J → lk_tk xs L 3 = true → lk_x xs L 3 / 3 % 2 = 1 → ∃ J', (∀ i, i < 20040 ∨ 20040 + 10 ≤ i → J i = J' i) ∧ ∀ α, sg_ct sv mt 35 (lx_r xs L J', lam, α) kT3_3) (nx : ∀ J, lb_ok xs L J → lc_ok xs L J → lw_P sv mt xs L J lam dd n0 s0 Q 1326 l_K3_4 g_K3_4 337 2244) (J : Nat → Int32) (hJ : lb_ok xs L J) (hC : lc_ok xs L J) : lw_P sv mt xs L J lam dd n0 s0 Q 1326 l_K3_3 g_K3_3 332 2231 := by
  have tr : ∀ J' : Nat → Int32, (∀ i, i < 20040 ∨ 20040 + 10 ≤ i → J i = J' i) → lw_P sv mt xs L J' lam dd n0 s0 Q 1326 l_K3_3 g_K3_3 332 2231 → lw_P sv mt xs L J lam dd n0 s0 Q 1326 l_K3_3 g_K3_3 332 2231 := fun J' h P => lw_P_J (lo := 20040) (hi := 20040 + 10) h (by decide) hL (by decide +kernel) (by decide +kernel) P
  by_cases hb : lk_x xs L 3 % 3 = 0
  · by_cases ht : lk_tk xs L 3 = true
    · rcases (by omega : lk_x xs L 3 / 3 % 2 = 0 ∨ lk_x xs L 3 / 3 % 2 = 1) with ho | ho
      · by_cases hp : lk_np xs L 3 = 1
        · by_cases he : lk_ns xs L 4 = lk_np xs L 4
          · exact tr (kJ J 20040) (kJ_out J 20040) (pK3_3_k110 Z hn (kJ_b (by decide) hJ) (kJ_c (by decide) hC) hl hp hb ht ho (kJ_r J 20040 20040 (by decide) (by decide) (by decide)) (kJ_r J 20040 20045 (by decide) (by decide) (by decide)) (kJ_r J 20040 20041 (by decide) (by decide) (by decide)) (kJ_r J 20040 20046 (by decide) (by decide) (by decide)) (kJ_r J 20040 20042 (by decide) (by decide) (by decide)) (kJ_r J 20040 20047 (by decide) (by decide) (by decide)) (kJ_r J 20040 20043 (by decide) (by decide) (by decide)) (kJ_r J 20040 20048 (by decide) (by decide) (by decide)) he (nx _ (kJ_b (by decide) hJ) (kJ_c (by decide) hC)))
          · exact tr (kJ J 20040) (kJ_out J 20040) (pK3_3_k109 Z hn (kJ_b (by decide) hJ) (kJ_c (by decide) hC) hl hp hb ht ho (kJ_r J 20040 20040 (by decide) (by decide) (by decide)) (kJ_r J 20040 20045 (by decide) (by decide) (by decide)) (kJ_r J 20040 20041 (by decide) (by decide) (by decide)) (kJ_r J 20040 20046 (by decide) (by decide) (by decide)) (kJ_r J 20040 20042 (by decide) (by decide) (by decide)) (kJ_r J 20040 20047 (by decide) (by decide) (by decide)) (kJ_r J 20040 20043 (by decide) (by decide) (by decide)) (kJ_r J 20040 20048 (by decide) (by decide) (by decide)) he (nx _ (kJ_b (by decide) hJ) (kJ_c (by decide) hC)))
        · by_cases he : lk_ns xs L 4 = lk_np xs L 4
          · exact tr (kJ J 20040) (kJ_out J 20040) (pK3_3_k124 Z hn (kJ_b (by decide) hJ) (kJ_c (by decide) hC) hl hp hb ht ho (kJ_r J 20040 20040 (by decide) (by decide) (by decide)) (kJ_r J 20040 20045 (by decide) (by decide) (by decide)) (kJ_r J 20040 20041 (by decide) (by decide) (by decide)) (kJ_r J 20040 20046 (by decide) (by decide) (by decide)) (kJ_r J 20040 20042 (by decide) (by decide) (by decide)) (kJ_r J 20040 20047 (by decide) (by decide) (by decide)) (kJ_r J 20040 20043 (by decide) (by decide) (by decide)) (kJ_r J 20040 20048 (by decide) (by decide) (by decide)) he (nx _ (kJ_b (by decide) hJ) (kJ_c (by decide) hC)))
          · exact tr (kJ J 20040) (kJ_out J 20040) (pK3_3_k123 Z hn (kJ_b (by decide) hJ) (kJ_c (by decide) hC) hl hp hb ht ho (kJ_r J 20040 20040 (by decide) (by decide) (by decide)) (kJ_r J 20040 20045 (by decide) (by decide) (by decide)) (kJ_r J 20040 20041 (by decide) (by decide) (by decide)) (kJ_r J 20040 20046 (by decide) (by decide) (by decide)) (kJ_r J 20040 20042 (by decide) (by decide) (by decide)) (kJ_r J 20040 20047 (by decide) (by decide) (by decide)) (kJ_r J 20040 20043 (by decide) (by decide) (by decide)) (kJ_r J 20040 20048 (by decide) (by decide) (by decide)) he (nx _ (kJ_b (by decide) hJ) (kJ_c (by decide) hC)))
      · by_cases hp : lk_np xs L 3 = 1
        · obtain ⟨J', h1, h2⟩ := hcar J hJ hC ht ho
          have hJ' : lb_ok xs L J' := fun i a b => by rw [← h1 i (by omega)]; exact hJ i a b
          have hC' : lc_ok xs L J' := fun i a b => by rw [← h1 i (by omega)]; exact hC i a b
          exact tr J' h1 (pK3_3_k111 Z hn hJ' hC' hl hp hb ht ho h2 (nx J' hJ' hC'))
        · obtain ⟨J', h1, h2⟩ := hcar J hJ hC ht ho
          have hJ' : lb_ok xs L J' := fun i a b => by rw [← h1 i (by omega)]; exact hJ i a b
          have hC' : lc_ok xs L J' := fun i a b => by rw [← h1 i (by omega)]; exact hC i a b
          exact tr J' h1 (pK3_3_k125 Z hn hJ' hC' hl hp hb ht ho h2 (nx J' hJ' hC'))
    · rcases (by omega : lk_x xs L 3 / 3 % 2 = 0 ∨ lk_x xs L 3 / 3 % 2 = 1) with ho | ho
      · by_cases hp : lk_np xs L 3 = 1
        · exfalso
          have hq := lk_np_lt xs L 3
          have := tk_b0 hb ht; omega
        · by_cases he : lk_ns xs L 4 = lk_np xs L 4
          · exact tr (kJ J 20040) (kJ_out J 20040) (pK3_3_k120 Z hn (kJ_b (by decide) hJ) (kJ_c (by decide) hC) hl hp hb ht ho (kJ_r J 20040 20040 (by decide) (by decide) (by decide)) (kJ_r J 20040 20045 (by decide) (by decide) (by decide)) (kJ_r J 20040 20041 (by decide) (by decide) (by decide)) (kJ_r J 20040 20046 (by decide) (by decide) (by decide)) (kJ_r J 20040 20042 (by decide) (by decide) (by decide)) (kJ_r J 20040 20047 (by decide) (by decide) (by decide)) (kJ_r J 20040 20043 (by decide) (by decide) (by decide)) (kJ_r J 20040 20048 (by decide) (by decide) (by decide)) he (nx _ (kJ_b (by decide) hJ) (kJ_c (by decide) hC)))
          · exact tr (kJ J 20040) (kJ_out J 20040) (pK3_3_k119 Z hn (kJ_b (by decide) hJ) (kJ_c (by decide) hC) hl hp hb ht ho (kJ_r J 20040 20040 (by decide) (by decide) (by decide)) (kJ_r J 20040 20045 (by decide) (by decide) (by decide)) (kJ_r J 20040 20041 (by decide) (by decide) (by decide)) (kJ_r J 20040 20046 (by decide) (by decide) (by decide)) (kJ_r J 20040 20042 (by decide) (by decide) (by decide)) (kJ_r J 20040 20047 (by decide) (by decide) (by decide)) (kJ_r J 20040 20043 (by decide) (by decide) (by decide)) (kJ_r J 20040 20048 (by decide) (by decide) (by decide)) he (nx _ (kJ_b (by decide) hJ) (kJ_c (by decide) hC)))
      · by_cases hp : lk_np xs L 3 = 1
        · exfalso
          have hq := lk_np_lt xs L 3
          have := tk_b0 hb ht; omega
        · by_cases he : lk_ns xs L 4 = lk_np xs L 4
          · exact tr (kJ J 20040) (kJ_out J 20040) (pK3_3_k122 Z hn (kJ_b (by decide) hJ) (kJ_c (by decide) hC) hl hp hb ht ho (kJ_r J 20040 20040 (by decide) (by decide) (by decide)) (kJ_r J 20040 20045 (by decide) (by decide) (by decide)) (kJ_r J 20040 20041 (by decide) (by decide) (by decide)) (kJ_r J 20040 20046 (by decide) (by decide) (by decide)) (kJ_r J 20040 20042 (by decide) (by decide) (by decide)) (kJ_r J 20040 20047 (by decide) (by decide) (by decide)) (kJ_r J 20040 20043 (by decide) (by decide) (by decide)) (kJ_r J 20040 20048 (by decide) (by decide) (by decide)) he (nx _ (kJ_b (by decide) hJ) (kJ_c (by decide) hC)))
          · exact tr (kJ J 20040) (kJ_out J 20040) (pK3_3_k121 Z hn (kJ_b (by decide) hJ) (kJ_c (by decide) hC) hl hp hb ht ho (kJ_r J 20040 20040 (by decide) (by decide) (by decide)) (kJ_r J 20040 20045 (by decide) (by decide) (by decide)) (kJ_r J 20040 20041 (by decide) (by decide) (by decide)) (kJ_r J 20040 20046 (by decide) (by decide) (by decide)) (kJ_r J 20040 20042 (by decide) (by decide) (by decide)) (kJ_r J 20040 20047 (by decide) (by decide) (by decide)) (kJ_r J 20040 20043 (by decide) (by decide) (by decide)) (kJ_r J 20040 20048 (by decide) (by decide) (by decide)) he (nx _ (kJ_b (by decide) hJ) (kJ_c (by decide) hC)))
  · by_cases ht : lk_tk xs L 3 = true
    · rcases (by omega : lk_x xs L 3 / 3 % 2 = 0 ∨ lk_x xs L 3 / 3 % 2 = 1) with ho | ho
      · by_cases hp : lk_np xs L 3 = 1
        · by_cases he : lk_ns xs L 4 = lk_np xs L 4
          · exact tr (kJ J 20040) (kJ_out J 20040) (pK3_3_k107 Z hn (kJ_b (by decide) hJ) (kJ_c (by decide) hC) hl hp hb ht ho (kJ_r J 20040 20040 (by decide) (by decide) (by decide)) (kJ_r J 20040 20045 (by decide) (by decide) (by decide)) (kJ_r J 20040 20041 (by decide) (by decide) (by decide)) (kJ_r J 20040 20046 (by decide) (by decide) (by decide)) (kJ_r J 20040 20042 (by decide) (by decide) (by decide)) (kJ_r J 20040 20047 (by decide) (by decide) (by decide)) (kJ_r J 20040 20043 (by decide) (by decide) (by decide)) (kJ_r J 20040 20048 (by decide) (by decide) (by decide)) he (nx _ (kJ_b (by decide) hJ) (kJ_c (by decide) hC)))
          · exact tr (kJ J 20040) (kJ_out J 20040) (pK3_3_k106 Z hn (kJ_b (by decide) hJ) (kJ_c (by decide) hC) hl hp hb ht ho (kJ_r J 20040 20040 (by decide) (by decide) (by decide)) (kJ_r J 20040 20045 (by decide) (by decide) (by decide)) (kJ_r J 20040 20041 (by decide) (by decide) (by decide)) (kJ_r J 20040 20046 (by decide) (by decide) (by decide)) (kJ_r J 20040 20042 (by decide) (by decide) (by decide)) (kJ_r J 20040 20047 (by decide) (by decide) (by decide)) (kJ_r J 20040 20043 (by decide) (by decide) (by decide)) (kJ_r J 20040 20048 (by decide) (by decide) (by decide)) he (nx _ (kJ_b (by decide) hJ) (kJ_c (by decide) hC)))
        · by_cases he : lk_ns xs L 4 = lk_np xs L 4
          · exact tr (kJ J 20040) (kJ_out J 20040) (pK3_3_k117 Z hn (kJ_b (by decide) hJ) (kJ_c (by decide) hC) hl hp hb ht ho (kJ_r J 20040 20040 (by decide) (by decide) (by decide)) (kJ_r J 20040 20045 (by decide) (by decide) (by decide)) (kJ_r J 20040 20041 (by decide) (by decide) (by decide)) (kJ_r J 20040 20046 (by decide) (by decide) (by decide)) (kJ_r J 20040 20042 (by decide) (by decide) (by decide)) (kJ_r J 20040 20047 (by decide) (by decide) (by decide)) (kJ_r J 20040 20043 (by decide) (by decide) (by decide)) (kJ_r J 20040 20048 (by decide) (by decide) (by decide)) he (nx _ (kJ_b (by decide) hJ) (kJ_c (by decide) hC)))
          · exact tr (kJ J 20040) (kJ_out J 20040) (pK3_3_k116 Z hn (kJ_b (by decide) hJ) (kJ_c (by decide) hC) hl hp hb ht ho (kJ_r J 20040 20040 (by decide) (by decide) (by decide)) (kJ_r J 20040 20045 (by decide) (by decide) (by decide)) (kJ_r J 20040 20041 (by decide) (by decide) (by decide)) (kJ_r J 20040 20046 (by decide) (by decide) (by decide)) (kJ_r J 20040 20042 (by decide) (by decide) (by decide)) (kJ_r J 20040 20047 (by decide) (by decide) (by decide)) (kJ_r J 20040 20043 (by decide) (by decide) (by decide)) (kJ_r J 20040 20048 (by decide) (by decide) (by decide)) he (nx _ (kJ_b (by decide) hJ) (kJ_c (by decide) hC)))
      · by_cases hp : lk_np xs L 3 = 1
        · obtain ⟨J', h1, h2⟩ := hcar J hJ hC ht ho
          have hJ' : lb_ok xs L J' := fun i a b => by rw [← h1 i (by omega)]; exact hJ i a b
          have hC' : lc_ok xs L J' := fun i a b => by rw [← h1 i (by omega)]; exact hC i a b
          exact tr J' h1 (pK3_3_k108 Z hn hJ' hC' hl hp hb ht ho h2 (nx J' hJ' hC'))
        · obtain ⟨J', h1, h2⟩ := hcar J hJ hC ht ho
          have hJ' : lb_ok xs L J' := fun i a b => by rw [← h1 i (by omega)]; exact hJ i a b
          have hC' : lc_ok xs L J' := fun i a b => by rw [← h1 i (by omega)]; exact hC i a b
          exact tr J' h1 (pK3_3_k118 Z hn hJ' hC' hl hp hb ht ho h2 (nx J' hJ' hC'))
    · rcases (by omega : lk_x xs L 3 / 3 % 2 = 0 ∨ lk_x xs L 3 / 3 % 2 = 1) with ho | ho
      · by_cases hp : lk_np xs L 3 = 1
        · exfalso
          have hq := lk_np_lt xs L 3
          have := tk_f0 hb ht; omega
        · by_cases he : lk_ns xs L 4 = lk_np xs L 4
          · exact tr (kJ J 20040) (kJ_out J 20040) (pK3_3_k113 Z hn (kJ_b (by decide) hJ) (kJ_c (by decide) hC) hl hp hb ht ho (kJ_r J 20040 20040 (by decide) (by decide) (by decide)) (kJ_r J 20040 20045 (by decide) (by decide) (by decide)) (kJ_r J 20040 20041 (by decide) (by decide) (by decide)) (kJ_r J 20040 20046 (by decide) (by decide) (by decide)) (kJ_r J 20040 20042 (by decide) (by decide) (by decide)) (kJ_r J 20040 20047 (by decide) (by decide) (by decide)) (kJ_r J 20040 20043 (by decide) (by decide) (by decide)) (kJ_r J 20040 20048 (by decide) (by decide) (by decide)) he (nx _ (kJ_b (by decide) hJ) (kJ_c (by decide) hC)))
          · exact tr (kJ J 20040) (kJ_out J 20040) (pK3_3_k112 Z hn (kJ_b (by decide) hJ) (kJ_c (by decide) hC) hl hp hb ht ho (kJ_r J 20040 20040 (by decide) (by decide) (by decide)) (kJ_r J 20040 20045 (by decide) (by decide) (by decide)) (kJ_r J 20040 20041 (by decide) (by decide) (by decide)) (kJ_r J 20040 20046 (by decide) (by decide) (by decide)) (kJ_r J 20040 20042 (by decide) (by decide) (by decide)) (kJ_r J 20040 20047 (by decide) (by decide) (by decide)) (kJ_r J 20040 20043 (by decide) (by decide) (by decide)) (kJ_r J 20040 20048 (by decide) (by decide) (by decide)) he (nx _ (kJ_b (by decide) hJ) (kJ_c (by decide) hC)))
      · by_cases hp : lk_np xs L 3 = 1
        · exfalso
          have hq := lk_np_lt xs L 3
          have := tk_f0 hb ht; omega
        · by_cases he : lk_ns xs L 4 = lk_np xs L 4
          · exact tr (kJ J 20040) (kJ_out J 20040) (pK3_3_k115 Z hn (kJ_b (by decide) hJ) (kJ_c (by decide) hC) hl hp hb ht ho (kJ_r J 20040 20040 (by decide) (by decide) (by decide)) (kJ_r J 20040 20045 (by decide) (by decide) (by decide)) (kJ_r J 20040 20041 (by decide) (by decide) (by decide)) (kJ_r J 20040 20046 (by decide) (by decide) (by decide)) (kJ_r J 20040 20042 (by decide) (by decide) (by decide)) (kJ_r J 20040 20047 (by decide) (by decide) (by decide)) (kJ_r J 20040 20043 (by decide) (by decide) (by decide)) (kJ_r J 20040 20048 (by decide) (by decide) (by decide)) he (nx _ (kJ_b (by decide) hJ) (kJ_c (by decide) hC)))
          · exact tr (kJ J 20040) (kJ_out J 20040) (pK3_3_k114 Z hn (kJ_b (by decide) hJ) (kJ_c (by decide) hC) hl hp hb ht ho (kJ_r J 20040 20040 (by decide) (by decide) (by decide)) (kJ_r J 20040 20045 (by decide) (by decide) (by decide)) (kJ_r J 20040 20041 (by decide) (by decide) (by decide)) (kJ_r J 20040 20046 (by decide) (by decide) (by decide)) (kJ_r J 20040 20042 (by decide) (by decide) (by decide)) (kJ_r J 20040 20047 (by decide) (by decide) (by decide)) (kJ_r J 20040 20043 (by decide) (by decide) (by decide)) (kJ_r J 20040 20048 (by decide) (by decide) (by decide)) he (nx _ (kJ_b (by decide) hJ) (kJ_c (by decide) hC)))
theorem hK3_2 (Z : lw_W sv mt xs L lam dd) (hn : lx_nv xs L = 3) (hl : lc_l lam) (hL : (lam 0).toNatClampNeg ≤ 1000) (hcar : ∀ J, lb_ok xs L J → lc_ok xs L J → lk_tk xs L 2 = true → lk_x xs L 2 / 3 % 2 = 1 → ∃ J', (∀ i, i < 20030 ∨ 20030 + 10 ≤ i → J i = J' i) ∧ ∀ α, sg_ct sv mt 35 (lx_r xs L J', lam, α) kT3_2) (nx : ∀ J, lb_ok xs L J → lc_ok xs L J → lw_P sv mt xs L J lam dd n0 s0 Q 1326 l_K3_3 g_K3_3 332 2231) (J : Nat → Int32) (hJ : lb_ok xs L J) (hC : lc_ok xs L J) : lw_P sv mt xs L J lam dd n0 s0 Q 1326 l_K3_2 g_K3_2 327 2218 := by
  have tr : ∀ J' : Nat → Int32, (∀ i, i < 20030 ∨ 20030 + 10 ≤ i → J i = J' i) → lw_P sv mt xs L J' lam dd n0 s0 Q 1326 l_K3_2 g_K3_2 327 2218 → lw_P sv mt xs L J lam dd n0 s0 Q 1326 l_K3_2 g_K3_2 327 2218 := fun J' h P => lw_P_J (lo := 20030) (hi := 20030 + 10) h (by decide) hL (by decide +kernel) (by decide +kernel) P
  by_cases hb : lk_x xs L 2 % 3 = 0
  · by_cases ht : lk_tk xs L 2 = true
    · rcases (by omega : lk_x xs L 2 / 3 % 2 = 0 ∨ lk_x xs L 2 / 3 % 2 = 1) with ho | ho
      · by_cases hp : lk_np xs L 2 = 1
        · by_cases he : lk_ns xs L 3 = lk_np xs L 3
          · exact tr (kJ J 20030) (kJ_out J 20030) (pK3_2_k90 Z hn (kJ_b (by decide) hJ) (kJ_c (by decide) hC) hl hp hb ht ho (kJ_r J 20030 20030 (by decide) (by decide) (by decide)) (kJ_r J 20030 20035 (by decide) (by decide) (by decide)) (kJ_r J 20030 20031 (by decide) (by decide) (by decide)) (kJ_r J 20030 20036 (by decide) (by decide) (by decide)) (kJ_r J 20030 20032 (by decide) (by decide) (by decide)) (kJ_r J 20030 20037 (by decide) (by decide) (by decide)) (kJ_r J 20030 20033 (by decide) (by decide) (by decide)) (kJ_r J 20030 20038 (by decide) (by decide) (by decide)) he (nx _ (kJ_b (by decide) hJ) (kJ_c (by decide) hC)))
          · exact tr (kJ J 20030) (kJ_out J 20030) (pK3_2_k89 Z hn (kJ_b (by decide) hJ) (kJ_c (by decide) hC) hl hp hb ht ho (kJ_r J 20030 20030 (by decide) (by decide) (by decide)) (kJ_r J 20030 20035 (by decide) (by decide) (by decide)) (kJ_r J 20030 20031 (by decide) (by decide) (by decide)) (kJ_r J 20030 20036 (by decide) (by decide) (by decide)) (kJ_r J 20030 20032 (by decide) (by decide) (by decide)) (kJ_r J 20030 20037 (by decide) (by decide) (by decide)) (kJ_r J 20030 20033 (by decide) (by decide) (by decide)) (kJ_r J 20030 20038 (by decide) (by decide) (by decide)) he (nx _ (kJ_b (by decide) hJ) (kJ_c (by decide) hC)))
        · by_cases he : lk_ns xs L 3 = lk_np xs L 3
          · exact tr (kJ J 20030) (kJ_out J 20030) (pK3_2_k104 Z hn (kJ_b (by decide) hJ) (kJ_c (by decide) hC) hl hp hb ht ho (kJ_r J 20030 20030 (by decide) (by decide) (by decide)) (kJ_r J 20030 20035 (by decide) (by decide) (by decide)) (kJ_r J 20030 20031 (by decide) (by decide) (by decide)) (kJ_r J 20030 20036 (by decide) (by decide) (by decide)) (kJ_r J 20030 20032 (by decide) (by decide) (by decide)) (kJ_r J 20030 20037 (by decide) (by decide) (by decide)) (kJ_r J 20030 20033 (by decide) (by decide) (by decide)) (kJ_r J 20030 20038 (by decide) (by decide) (by decide)) he (nx _ (kJ_b (by decide) hJ) (kJ_c (by decide) hC)))
          · exact tr (kJ J 20030) (kJ_out J 20030) (pK3_2_k103 Z hn (kJ_b (by decide) hJ) (kJ_c (by decide) hC) hl hp hb ht ho (kJ_r J 20030 20030 (by decide) (by decide) (by decide)) (kJ_r J 20030 20035 (by decide) (by decide) (by decide)) (kJ_r J 20030 20031 (by decide) (by decide) (by decide)) (kJ_r J 20030 20036 (by decide) (by decide) (by decide)) (kJ_r J 20030 20032 (by decide) (by decide) (by decide)) (kJ_r J 20030 20037 (by decide) (by decide) (by decide)) (kJ_r J 20030 20033 (by decide) (by decide) (by decide)) (kJ_r J 20030 20038 (by decide) (by decide) (by decide)) he (nx _ (kJ_b (by decide) hJ) (kJ_c (by decide) hC)))
      · by_cases hp : lk_np xs L 2 = 1
        · obtain ⟨J', h1, h2⟩ := hcar J hJ hC ht ho
          have hJ' : lb_ok xs L J' := fun i a b => by rw [← h1 i (by omega)]; exact hJ i a b
          have hC' : lc_ok xs L J' := fun i a b => by rw [← h1 i (by omega)]; exact hC i a b
          exact tr J' h1 (pK3_2_k91 Z hn hJ' hC' hl hp hb ht ho h2 (nx J' hJ' hC'))
        · obtain ⟨J', h1, h2⟩ := hcar J hJ hC ht ho
          have hJ' : lb_ok xs L J' := fun i a b => by rw [← h1 i (by omega)]; exact hJ i a b
          have hC' : lc_ok xs L J' := fun i a b => by rw [← h1 i (by omega)]; exact hC i a b
          exact tr J' h1 (pK3_2_k105 Z hn hJ' hC' hl hp hb ht ho h2 (nx J' hJ' hC'))
    · rcases (by omega : lk_x xs L 2 / 3 % 2 = 0 ∨ lk_x xs L 2 / 3 % 2 = 1) with ho | ho
      · by_cases hp : lk_np xs L 2 = 1
        · exfalso
          have hq := lk_np_lt xs L 2
          have := tk_b0 hb ht; omega
        · by_cases he : lk_ns xs L 3 = lk_np xs L 3
          · exact tr (kJ J 20030) (kJ_out J 20030) (pK3_2_k100 Z hn (kJ_b (by decide) hJ) (kJ_c (by decide) hC) hl hp hb ht ho (kJ_r J 20030 20030 (by decide) (by decide) (by decide)) (kJ_r J 20030 20035 (by decide) (by decide) (by decide)) (kJ_r J 20030 20031 (by decide) (by decide) (by decide)) (kJ_r J 20030 20036 (by decide) (by decide) (by decide)) (kJ_r J 20030 20032 (by decide) (by decide) (by decide)) (kJ_r J 20030 20037 (by decide) (by decide) (by decide)) (kJ_r J 20030 20033 (by decide) (by decide) (by decide)) (kJ_r J 20030 20038 (by decide) (by decide) (by decide)) he (nx _ (kJ_b (by decide) hJ) (kJ_c (by decide) hC)))
          · exact tr (kJ J 20030) (kJ_out J 20030) (pK3_2_k99 Z hn (kJ_b (by decide) hJ) (kJ_c (by decide) hC) hl hp hb ht ho (kJ_r J 20030 20030 (by decide) (by decide) (by decide)) (kJ_r J 20030 20035 (by decide) (by decide) (by decide)) (kJ_r J 20030 20031 (by decide) (by decide) (by decide)) (kJ_r J 20030 20036 (by decide) (by decide) (by decide)) (kJ_r J 20030 20032 (by decide) (by decide) (by decide)) (kJ_r J 20030 20037 (by decide) (by decide) (by decide)) (kJ_r J 20030 20033 (by decide) (by decide) (by decide)) (kJ_r J 20030 20038 (by decide) (by decide) (by decide)) he (nx _ (kJ_b (by decide) hJ) (kJ_c (by decide) hC)))
      · by_cases hp : lk_np xs L 2 = 1
        · exfalso
          have hq := lk_np_lt xs L 2
          have := tk_b0 hb ht; omega
        · by_cases he : lk_ns xs L 3 = lk_np xs L 3
          · exact tr (kJ J 20030) (kJ_out J 20030) (pK3_2_k102 Z hn (kJ_b (by decide) hJ) (kJ_c (by decide) hC) hl hp hb ht ho (kJ_r J 20030 20030 (by decide) (by decide) (by decide)) (kJ_r J 20030 20035 (by decide) (by decide) (by decide)) (kJ_r J 20030 20031 (by decide) (by decide) (by decide)) (kJ_r J 20030 20036 (by decide) (by decide) (by decide)) (kJ_r J 20030 20032 (by decide) (by decide) (by decide)) (kJ_r J 20030 20037 (by decide) (by decide) (by decide)) (kJ_r J 20030 20033 (by decide) (by decide) (by decide)) (kJ_r J 20030 20038 (by decide) (by decide) (by decide)) he (nx _ (kJ_b (by decide) hJ) (kJ_c (by decide) hC)))
          · exact tr (kJ J 20030) (kJ_out J 20030) (pK3_2_k101 Z hn (kJ_b (by decide) hJ) (kJ_c (by decide) hC) hl hp hb ht ho (kJ_r J 20030 20030 (by decide) (by decide) (by decide)) (kJ_r J 20030 20035 (by decide) (by decide) (by decide)) (kJ_r J 20030 20031 (by decide) (by decide) (by decide)) (kJ_r J 20030 20036 (by decide) (by decide) (by decide)) (kJ_r J 20030 20032 (by decide) (by decide) (by decide)) (kJ_r J 20030 20037 (by decide) (by decide) (by decide)) (kJ_r J 20030 20033 (by decide) (by decide) (by decide)) (kJ_r J 20030 20038 (by decide) (by decide) (by decide)) he (nx _ (kJ_b (by decide) hJ) (kJ_c (by decide) hC)))
  · by_cases ht : lk_tk xs L 2 = true
    · rcases (by omega : lk_x xs L 2 / 3 % 2 = 0 ∨ lk_x xs L 2 / 3 % 2 = 1) with ho | ho
      · by_cases hp : lk_np xs L 2 = 1
        · by_cases he : lk_ns xs L 3 = lk_np xs L 3
          · exact tr (kJ J 20030) (kJ_out J 20030) (pK3_2_k87 Z hn (kJ_b (by decide) hJ) (kJ_c (by decide) hC) hl hp hb ht ho (kJ_r J 20030 20030 (by decide) (by decide) (by decide)) (kJ_r J 20030 20035 (by decide) (by decide) (by decide)) (kJ_r J 20030 20031 (by decide) (by decide) (by decide)) (kJ_r J 20030 20036 (by decide) (by decide) (by decide)) (kJ_r J 20030 20032 (by decide) (by decide) (by decide)) (kJ_r J 20030 20037 (by decide) (by decide) (by decide)) (kJ_r J 20030 20033 (by decide) (by decide) (by decide)) (kJ_r J 20030 20038 (by decide) (by decide) (by decide)) he (nx _ (kJ_b (by decide) hJ) (kJ_c (by decide) hC)))
          · exact tr (kJ J 20030) (kJ_out J 20030) (pK3_2_k86 Z hn (kJ_b (by decide) hJ) (kJ_c (by decide) hC) hl hp hb ht ho (kJ_r J 20030 20030 (by decide) (by decide) (by decide)) (kJ_r J 20030 20035 (by decide) (by decide) (by decide)) (kJ_r J 20030 20031 (by decide) (by decide) (by decide)) (kJ_r J 20030 20036 (by decide) (by decide) (by decide)) (kJ_r J 20030 20032 (by decide) (by decide) (by decide)) (kJ_r J 20030 20037 (by decide) (by decide) (by decide)) (kJ_r J 20030 20033 (by decide) (by decide) (by decide)) (kJ_r J 20030 20038 (by decide) (by decide) (by decide)) he (nx _ (kJ_b (by decide) hJ) (kJ_c (by decide) hC)))
        · by_cases he : lk_ns xs L 3 = lk_np xs L 3
          · exact tr (kJ J 20030) (kJ_out J 20030) (pK3_2_k97 Z hn (kJ_b (by decide) hJ) (kJ_c (by decide) hC) hl hp hb ht ho (kJ_r J 20030 20030 (by decide) (by decide) (by decide)) (kJ_r J 20030 20035 (by decide) (by decide) (by decide)) (kJ_r J 20030 20031 (by decide) (by decide) (by decide)) (kJ_r J 20030 20036 (by decide) (by decide) (by decide)) (kJ_r J 20030 20032 (by decide) (by decide) (by decide)) (kJ_r J 20030 20037 (by decide) (by decide) (by decide)) (kJ_r J 20030 20033 (by decide) (by decide) (by decide)) (kJ_r J 20030 20038 (by decide) (by decide) (by decide)) he (nx _ (kJ_b (by decide) hJ) (kJ_c (by decide) hC)))
          · exact tr (kJ J 20030) (kJ_out J 20030) (pK3_2_k96 Z hn (kJ_b (by decide) hJ) (kJ_c (by decide) hC) hl hp hb ht ho (kJ_r J 20030 20030 (by decide) (by decide) (by decide)) (kJ_r J 20030 20035 (by decide) (by decide) (by decide)) (kJ_r J 20030 20031 (by decide) (by decide) (by decide)) (kJ_r J 20030 20036 (by decide) (by decide) (by decide)) (kJ_r J 20030 20032 (by decide) (by decide) (by decide)) (kJ_r J 20030 20037 (by decide) (by decide) (by decide)) (kJ_r J 20030 20033 (by decide) (by decide) (by decide)) (kJ_r J 20030 20038 (by decide) (by decide) (by decide)) he (nx _ (kJ_b (by decide) hJ) (kJ_c (by decide) hC)))
      · by_cases hp : lk_np xs L 2 = 1
        · obtain ⟨J', h1, h2⟩ := hcar J hJ hC ht ho
          have hJ' : lb_ok xs L J' := fun i a b => by rw [← h1 i (by omega)]; exact hJ i a b
          have hC' : lc_ok xs L J' := fun i a b => by rw [← h1 i (by omega)]; exact hC i a b
          exact tr J' h1 (pK3_2_k88 Z hn hJ' hC' hl hp hb ht ho h2 (nx J' hJ' hC'))
        · obtain ⟨J', h1, h2⟩ := hcar J hJ hC ht ho
          have hJ' : lb_ok xs L J' := fun i a b => by rw [← h1 i (by omega)]; exact hJ i a b
          have hC' : lc_ok xs L J' := fun i a b => by rw [← h1 i (by omega)]; exact hC i a b
          exact tr J' h1 (pK3_2_k98 Z hn hJ' hC' hl hp hb ht ho h2 (nx J' hJ' hC'))
    · rcases (by omega : lk_x xs L 2 / 3 % 2 = 0 ∨ lk_x xs L 2 / 3 % 2 = 1) with ho | ho
      · by_cases hp : lk_np xs L 2 = 1
        · exfalso
          have hq := lk_np_lt xs L 2
          have := tk_f0 hb ht; omega
        · by_cases he : lk_ns xs L 3 = lk_np xs L 3
          · exact tr (kJ J 20030) (kJ_out J 20030) (pK3_2_k93 Z hn (kJ_b (by decide) hJ) (kJ_c (by decide) hC) hl hp hb ht ho (kJ_r J 20030 20030 (by decide) (by decide) (by decide)) (kJ_r J 20030 20035 (by decide) (by decide) (by decide)) (kJ_r J 20030 20031 (by decide) (by decide) (by decide)) (kJ_r J 20030 20036 (by decide) (by decide) (by decide)) (kJ_r J 20030 20032 (by decide) (by decide) (by decide)) (kJ_r J 20030 20037 (by decide) (by decide) (by decide)) (kJ_r J 20030 20033 (by decide) (by decide) (by decide)) (kJ_r J 20030 20038 (by decide) (by decide) (by decide)) he (nx _ (kJ_b (by decide) hJ) (kJ_c (by decide) hC)))
          · exact tr (kJ J 20030) (kJ_out J 20030) (pK3_2_k92 Z hn (kJ_b (by decide) hJ) (kJ_c (by decide) hC) hl hp hb ht ho (kJ_r J 20030 20030 (by decide) (by decide) (by decide)) (kJ_r J 20030 20035 (by decide) (by decide) (by decide)) (kJ_r J 20030 20031 (by decide) (by decide) (by decide)) (kJ_r J 20030 20036 (by decide) (by decide) (by decide)) (kJ_r J 20030 20032 (by decide) (by decide) (by decide)) (kJ_r J 20030 20037 (by decide) (by decide) (by decide)) (kJ_r J 20030 20033 (by decide) (by decide) (by decide)) (kJ_r J 20030 20038 (by decide) (by decide) (by decide)) he (nx _ (kJ_b (by decide) hJ) (kJ_c (by decide) hC)))
      · by_cases hp : lk_np xs L 2 = 1
        · exfalso
          have hq := lk_np_lt xs L 2
          have := tk_f0 hb ht; omega
        · by_cases he : lk_ns xs L 3 = lk_np xs L 3
          · exact tr (kJ J 20030) (kJ_out J 20030) (pK3_2_k95 Z hn (kJ_b (by decide) hJ) (kJ_c (by decide) hC) hl hp hb ht ho (kJ_r J 20030 20030 (by decide) (by decide) (by decide)) (kJ_r J 20030 20035 (by decide) (by decide) (by decide)) (kJ_r J 20030 20031 (by decide) (by decide) (by decide)) (kJ_r J 20030 20036 (by decide) (by decide) (by decide)) (kJ_r J 20030 20032 (by decide) (by decide) (by decide)) (kJ_r J 20030 20037 (by decide) (by decide) (by decide)) (kJ_r J 20030 20033 (by decide) (by decide) (by decide)) (kJ_r J 20030 20038 (by decide) (by decide) (by decide)) he (nx _ (kJ_b (by decide) hJ) (kJ_c (by decide) hC)))
          · exact tr (kJ J 20030) (kJ_out J 20030) (pK3_2_k94 Z hn (kJ_b (by decide) hJ) (kJ_c (by decide) hC) hl hp hb ht ho (kJ_r J 20030 20030 (by decide) (by decide) (by decide)) (kJ_r J 20030 20035 (by decide) (by decide) (by decide)) (kJ_r J 20030 20031 (by decide) (by decide) (by decide)) (kJ_r J 20030 20036 (by decide) (by decide) (by decide)) (kJ_r J 20030 20032 (by decide) (by decide) (by decide)) (kJ_r J 20030 20037 (by decide) (by decide) (by decide)) (kJ_r J 20030 20033 (by decide) (by decide) (by decide)) (kJ_r J 20030 20038 (by decide) (by decide) (by decide)) he (nx _ (kJ_b (by decide) hJ) (kJ_c (by decide) hC)))
theorem hK3_1 (Z : lw_W sv mt xs L lam dd) (hn : lx_nv xs L = 3) (hl : lc_l lam) (hL : (lam 0).toNatClampNeg ≤ 1000) (hcar : ∀ J, lb_ok xs L J → lc_ok xs L J → lk_tk xs L 1 = true → lk_x xs L 1 / 3 % 2 = 1 → ∃ J', (∀ i, i < 20020 ∨ 20020 + 10 ≤ i → J i = J' i) ∧ ∀ α, sg_ct sv mt 35 (lx_r xs L J', lam, α) kT3_1) (nx : ∀ J, lb_ok xs L J → lc_ok xs L J → lw_P sv mt xs L J lam dd n0 s0 Q 1326 l_K3_2 g_K3_2 327 2218) (J : Nat → Int32) (hJ : lb_ok xs L J) (hC : lc_ok xs L J) : lw_P sv mt xs L J lam dd n0 s0 Q 1326 l_K3_1 g_K3_1 322 2205 := by
  have tr : ∀ J' : Nat → Int32, (∀ i, i < 20020 ∨ 20020 + 10 ≤ i → J i = J' i) → lw_P sv mt xs L J' lam dd n0 s0 Q 1326 l_K3_1 g_K3_1 322 2205 → lw_P sv mt xs L J lam dd n0 s0 Q 1326 l_K3_1 g_K3_1 322 2205 := fun J' h P => lw_P_J (lo := 20020) (hi := 20020 + 10) h (by decide) hL (by decide +kernel) (by decide +kernel) P
  by_cases hb : lk_x xs L 1 % 3 = 0
  · by_cases ht : lk_tk xs L 1 = true
    · rcases (by omega : lk_x xs L 1 / 3 % 2 = 0 ∨ lk_x xs L 1 / 3 % 2 = 1) with ho | ho
      · by_cases hp : lk_np xs L 1 = 1
        · by_cases he : lk_ns xs L 2 = lk_np xs L 2
          · exact tr (kJ J 20020) (kJ_out J 20020) (pK3_1_k70 Z hn (kJ_b (by decide) hJ) (kJ_c (by decide) hC) hl hp hb ht ho (kJ_r J 20020 20020 (by decide) (by decide) (by decide)) (kJ_r J 20020 20025 (by decide) (by decide) (by decide)) (kJ_r J 20020 20021 (by decide) (by decide) (by decide)) (kJ_r J 20020 20026 (by decide) (by decide) (by decide)) (kJ_r J 20020 20022 (by decide) (by decide) (by decide)) (kJ_r J 20020 20027 (by decide) (by decide) (by decide)) (kJ_r J 20020 20023 (by decide) (by decide) (by decide)) (kJ_r J 20020 20028 (by decide) (by decide) (by decide)) he (nx _ (kJ_b (by decide) hJ) (kJ_c (by decide) hC)))
          · exact tr (kJ J 20020) (kJ_out J 20020) (pK3_1_k69 Z hn (kJ_b (by decide) hJ) (kJ_c (by decide) hC) hl hp hb ht ho (kJ_r J 20020 20020 (by decide) (by decide) (by decide)) (kJ_r J 20020 20025 (by decide) (by decide) (by decide)) (kJ_r J 20020 20021 (by decide) (by decide) (by decide)) (kJ_r J 20020 20026 (by decide) (by decide) (by decide)) (kJ_r J 20020 20022 (by decide) (by decide) (by decide)) (kJ_r J 20020 20027 (by decide) (by decide) (by decide)) (kJ_r J 20020 20023 (by decide) (by decide) (by decide)) (kJ_r J 20020 20028 (by decide) (by decide) (by decide)) he (nx _ (kJ_b (by decide) hJ) (kJ_c (by decide) hC)))
        · by_cases he : lk_ns xs L 2 = lk_np xs L 2
          · exact tr (kJ J 20020) (kJ_out J 20020) (pK3_1_k84 Z hn (kJ_b (by decide) hJ) (kJ_c (by decide) hC) hl hp hb ht ho (kJ_r J 20020 20020 (by decide) (by decide) (by decide)) (kJ_r J 20020 20025 (by decide) (by decide) (by decide)) (kJ_r J 20020 20021 (by decide) (by decide) (by decide)) (kJ_r J 20020 20026 (by decide) (by decide) (by decide)) (kJ_r J 20020 20022 (by decide) (by decide) (by decide)) (kJ_r J 20020 20027 (by decide) (by decide) (by decide)) (kJ_r J 20020 20023 (by decide) (by decide) (by decide)) (kJ_r J 20020 20028 (by decide) (by decide) (by decide)) he (nx _ (kJ_b (by decide) hJ) (kJ_c (by decide) hC)))
          · exact tr (kJ J 20020) (kJ_out J 20020) (pK3_1_k83 Z hn (kJ_b (by decide) hJ) (kJ_c (by decide) hC) hl hp hb ht ho (kJ_r J 20020 20020 (by decide) (by decide) (by decide)) (kJ_r J 20020 20025 (by decide) (by decide) (by decide)) (kJ_r J 20020 20021 (by decide) (by decide) (by decide)) (kJ_r J 20020 20026 (by decide) (by decide) (by decide)) (kJ_r J 20020 20022 (by decide) (by decide) (by decide)) (kJ_r J 20020 20027 (by decide) (by decide) (by decide)) (kJ_r J 20020 20023 (by decide) (by decide) (by decide)) (kJ_r J 20020 20028 (by decide) (by decide) (by decide)) he (nx _ (kJ_b (by decide) hJ) (kJ_c (by decide) hC)))
      · by_cases hp : lk_np xs L 1 = 1
        · obtain ⟨J', h1, h2⟩ := hcar J hJ hC ht ho
          have hJ' : lb_ok xs L J' := fun i a b => by rw [← h1 i (by omega)]; exact hJ i a b
          have hC' : lc_ok xs L J' := fun i a b => by rw [← h1 i (by omega)]; exact hC i a b
          exact tr J' h1 (pK3_1_k71 Z hn hJ' hC' hl hp hb ht ho h2 (nx J' hJ' hC'))
        · obtain ⟨J', h1, h2⟩ := hcar J hJ hC ht ho
          have hJ' : lb_ok xs L J' := fun i a b => by rw [← h1 i (by omega)]; exact hJ i a b
          have hC' : lc_ok xs L J' := fun i a b => by rw [← h1 i (by omega)]; exact hC i a b
          exact tr J' h1 (pK3_1_k85 Z hn hJ' hC' hl hp hb ht ho h2 (nx J' hJ' hC'))
    · rcases (by omega : lk_x xs L 1 / 3 % 2 = 0 ∨ lk_x xs L 1 / 3 % 2 = 1) with ho | ho
      · by_cases hp : lk_np xs L 1 = 1
        · exfalso
          have hq := lk_np_lt xs L 1
          have := tk_b0 hb ht; omega
        · by_cases he : lk_ns xs L 2 = lk_np xs L 2
          · exact tr (kJ J 20020) (kJ_out J 20020) (pK3_1_k80 Z hn (kJ_b (by decide) hJ) (kJ_c (by decide) hC) hl hp hb ht ho (kJ_r J 20020 20020 (by decide) (by decide) (by decide)) (kJ_r J 20020 20025 (by decide) (by decide) (by decide)) (kJ_r J 20020 20021 (by decide) (by decide) (by decide)) (kJ_r J 20020 20026 (by decide) (by decide) (by decide)) (kJ_r J 20020 20022 (by decide) (by decide) (by decide)) (kJ_r J 20020 20027 (by decide) (by decide) (by decide)) (kJ_r J 20020 20023 (by decide) (by decide) (by decide)) (kJ_r J 20020 20028 (by decide) (by decide) (by decide)) he (nx _ (kJ_b (by decide) hJ) (kJ_c (by decide) hC)))
          · exact tr (kJ J 20020) (kJ_out J 20020) (pK3_1_k79 Z hn (kJ_b (by decide) hJ) (kJ_c (by decide) hC) hl hp hb ht ho (kJ_r J 20020 20020 (by decide) (by decide) (by decide)) (kJ_r J 20020 20025 (by decide) (by decide) (by decide)) (kJ_r J 20020 20021 (by decide) (by decide) (by decide)) (kJ_r J 20020 20026 (by decide) (by decide) (by decide)) (kJ_r J 20020 20022 (by decide) (by decide) (by decide)) (kJ_r J 20020 20027 (by decide) (by decide) (by decide)) (kJ_r J 20020 20023 (by decide) (by decide) (by decide)) (kJ_r J 20020 20028 (by decide) (by decide) (by decide)) he (nx _ (kJ_b (by decide) hJ) (kJ_c (by decide) hC)))
      · by_cases hp : lk_np xs L 1 = 1
        · exfalso
          have hq := lk_np_lt xs L 1
          have := tk_b0 hb ht; omega
        · by_cases he : lk_ns xs L 2 = lk_np xs L 2
          · exact tr (kJ J 20020) (kJ_out J 20020) (pK3_1_k82 Z hn (kJ_b (by decide) hJ) (kJ_c (by decide) hC) hl hp hb ht ho (kJ_r J 20020 20020 (by decide) (by decide) (by decide)) (kJ_r J 20020 20025 (by decide) (by decide) (by decide)) (kJ_r J 20020 20021 (by decide) (by decide) (by decide)) (kJ_r J 20020 20026 (by decide) (by decide) (by decide)) (kJ_r J 20020 20022 (by decide) (by decide) (by decide)) (kJ_r J 20020 20027 (by decide) (by decide) (by decide)) (kJ_r J 20020 20023 (by decide) (by decide) (by decide)) (kJ_r J 20020 20028 (by decide) (by decide) (by decide)) he (nx _ (kJ_b (by decide) hJ) (kJ_c (by decide) hC)))
          · exact tr (kJ J 20020) (kJ_out J 20020) (pK3_1_k81 Z hn (kJ_b (by decide) hJ) (kJ_c (by decide) hC) hl hp hb ht ho (kJ_r J 20020 20020 (by decide) (by decide) (by decide)) (kJ_r J 20020 20025 (by decide) (by decide) (by decide)) (kJ_r J 20020 20021 (by decide) (by decide) (by decide)) (kJ_r J 20020 20026 (by decide) (by decide) (by decide)) (kJ_r J 20020 20022 (by decide) (by decide) (by decide)) (kJ_r J 20020 20027 (by decide) (by decide) (by decide)) (kJ_r J 20020 20023 (by decide) (by decide) (by decide)) (kJ_r J 20020 20028 (by decide) (by decide) (by decide)) he (nx _ (kJ_b (by decide) hJ) (kJ_c (by decide) hC)))
  · by_cases ht : lk_tk xs L 1 = true
    · rcases (by omega : lk_x xs L 1 / 3 % 2 = 0 ∨ lk_x xs L 1 / 3 % 2 = 1) with ho | ho
      · by_cases hp : lk_np xs L 1 = 1
        · by_cases he : lk_ns xs L 2 = lk_np xs L 2
          · exact tr (kJ J 20020) (kJ_out J 20020) (pK3_1_k67 Z hn (kJ_b (by decide) hJ) (kJ_c (by decide) hC) hl hp hb ht ho (kJ_r J 20020 20020 (by decide) (by decide) (by decide)) (kJ_r J 20020 20025 (by decide) (by decide) (by decide)) (kJ_r J 20020 20021 (by decide) (by decide) (by decide)) (kJ_r J 20020 20026 (by decide) (by decide) (by decide)) (kJ_r J 20020 20022 (by decide) (by decide) (by decide)) (kJ_r J 20020 20027 (by decide) (by decide) (by decide)) (kJ_r J 20020 20023 (by decide) (by decide) (by decide)) (kJ_r J 20020 20028 (by decide) (by decide) (by decide)) he (nx _ (kJ_b (by decide) hJ) (kJ_c (by decide) hC)))
          · exact tr (kJ J 20020) (kJ_out J 20020) (pK3_1_k66 Z hn (kJ_b (by decide) hJ) (kJ_c (by decide) hC) hl hp hb ht ho (kJ_r J 20020 20020 (by decide) (by decide) (by decide)) (kJ_r J 20020 20025 (by decide) (by decide) (by decide)) (kJ_r J 20020 20021 (by decide) (by decide) (by decide)) (kJ_r J 20020 20026 (by decide) (by decide) (by decide)) (kJ_r J 20020 20022 (by decide) (by decide) (by decide)) (kJ_r J 20020 20027 (by decide) (by decide) (by decide)) (kJ_r J 20020 20023 (by decide) (by decide) (by decide)) (kJ_r J 20020 20028 (by decide) (by decide) (by decide)) he (nx _ (kJ_b (by decide) hJ) (kJ_c (by decide) hC)))
        · by_cases he : lk_ns xs L 2 = lk_np xs L 2
          · exact tr (kJ J 20020) (kJ_out J 20020) (pK3_1_k77 Z hn (kJ_b (by decide) hJ) (kJ_c (by decide) hC) hl hp hb ht ho (kJ_r J 20020 20020 (by decide) (by decide) (by decide)) (kJ_r J 20020 20025 (by decide) (by decide) (by decide)) (kJ_r J 20020 20021 (by decide) (by decide) (by decide)) (kJ_r J 20020 20026 (by decide) (by decide) (by decide)) (kJ_r J 20020 20022 (by decide) (by decide) (by decide)) (kJ_r J 20020 20027 (by decide) (by decide) (by decide)) (kJ_r J 20020 20023 (by decide) (by decide) (by decide)) (kJ_r J 20020 20028 (by decide) (by decide) (by decide)) he (nx _ (kJ_b (by decide) hJ) (kJ_c (by decide) hC)))
          · exact tr (kJ J 20020) (kJ_out J 20020) (pK3_1_k76 Z hn (kJ_b (by decide) hJ) (kJ_c (by decide) hC) hl hp hb ht ho (kJ_r J 20020 20020 (by decide) (by decide) (by decide)) (kJ_r J 20020 20025 (by decide) (by decide) (by decide)) (kJ_r J 20020 20021 (by decide) (by decide) (by decide)) (kJ_r J 20020 20026 (by decide) (by decide) (by decide)) (kJ_r J 20020 20022 (by decide) (by decide) (by decide)) (kJ_r J 20020 20027 (by decide) (by decide) (by decide)) (kJ_r J 20020 20023 (by decide) (by decide) (by decide)) (kJ_r J 20020 20028 (by decide) (by decide) (by decide)) he (nx _ (kJ_b (by decide) hJ) (kJ_c (by decide) hC)))
      · by_cases hp : lk_np xs L 1 = 1
        · obtain ⟨J', h1, h2⟩ := hcar J hJ hC ht ho
          have hJ' : lb_ok xs L J' := fun i a b => by rw [← h1 i (by omega)]; exact hJ i a b
          have hC' : lc_ok xs L J' := fun i a b => by rw [← h1 i (by omega)]; exact hC i a b
          exact tr J' h1 (pK3_1_k68 Z hn hJ' hC' hl hp hb ht ho h2 (nx J' hJ' hC'))
        · obtain ⟨J', h1, h2⟩ := hcar J hJ hC ht ho
          have hJ' : lb_ok xs L J' := fun i a b => by rw [← h1 i (by omega)]; exact hJ i a b
          have hC' : lc_ok xs L J' := fun i a b => by rw [← h1 i (by omega)]; exact hC i a b
          exact tr J' h1 (pK3_1_k78 Z hn hJ' hC' hl hp hb ht ho h2 (nx J' hJ' hC'))
    · rcases (by omega : lk_x xs L 1 / 3 % 2 = 0 ∨ lk_x xs L 1 / 3 % 2 = 1) with ho | ho
      · by_cases hp : lk_np xs L 1 = 1
        · exfalso
          have hq := lk_np_lt xs L 1
          have := tk_f0 hb ht; omega
        · by_cases he : lk_ns xs L 2 = lk_np xs L 2
          · exact tr (kJ J 20020) (kJ_out J 20020) (pK3_1_k73 Z hn (kJ_b (by decide) hJ) (kJ_c (by decide) hC) hl hp hb ht ho (kJ_r J 20020 20020 (by decide) (by decide) (by decide)) (kJ_r J 20020 20025 (by decide) (by decide) (by decide)) (kJ_r J 20020 20021 (by decide) (by decide) (by decide)) (kJ_r J 20020 20026 (by decide) (by decide) (by decide)) (kJ_r J 20020 20022 (by decide) (by decide) (by decide)) (kJ_r J 20020 20027 (by decide) (by decide) (by decide)) (kJ_r J 20020 20023 (by decide) (by decide) (by decide)) (kJ_r J 20020 20028 (by decide) (by decide) (by decide)) he (nx _ (kJ_b (by decide) hJ) (kJ_c (by decide) hC)))
          · exact tr (kJ J 20020) (kJ_out J 20020) (pK3_1_k72 Z hn (kJ_b (by decide) hJ) (kJ_c (by decide) hC) hl hp hb ht ho (kJ_r J 20020 20020 (by decide) (by decide) (by decide)) (kJ_r J 20020 20025 (by decide) (by decide) (by decide)) (kJ_r J 20020 20021 (by decide) (by decide) (by decide)) (kJ_r J 20020 20026 (by decide) (by decide) (by decide)) (kJ_r J 20020 20022 (by decide) (by decide) (by decide)) (kJ_r J 20020 20027 (by decide) (by decide) (by decide)) (kJ_r J 20020 20023 (by decide) (by decide) (by decide)) (kJ_r J 20020 20028 (by decide) (by decide) (by decide)) he (nx _ (kJ_b (by decide) hJ) (kJ_c (by decide) hC)))
      · by_cases hp : lk_np xs L 1 = 1
        · exfalso
          have hq := lk_np_lt xs L 1
          have := tk_f0 hb ht; omega
        · by_cases he : lk_ns xs L 2 = lk_np xs L 2
          · exact tr (kJ J 20020) (kJ_out J 20020) (pK3_1_k75 Z hn (kJ_b (by decide) hJ) (kJ_c (by decide) hC) hl hp hb ht ho (kJ_r J 20020 20020 (by decide) (by decide) (by decide)) (kJ_r J 20020 20025 (by decide) (by decide) (by decide)) (kJ_r J 20020 20021 (by decide) (by decide) (by decide)) (kJ_r J 20020 20026 (by decide) (by decide) (by decide)) (kJ_r J 20020 20022 (by decide) (by decide) (by decide)) (kJ_r J 20020 20027 (by decide) (by decide) (by decide)) (kJ_r J 20020 20023 (by decide) (by decide) (by decide)) (kJ_r J 20020 20028 (by decide) (by decide) (by decide)) he (nx _ (kJ_b (by decide) hJ) (kJ_c (by decide) hC)))
          · exact tr (kJ J 20020) (kJ_out J 20020) (pK3_1_k74 Z hn (kJ_b (by decide) hJ) (kJ_c (by decide) hC) hl hp hb ht ho (kJ_r J 20020 20020 (by decide) (by decide) (by decide)) (kJ_r J 20020 20025 (by decide) (by decide) (by decide)) (kJ_r J 20020 20021 (by decide) (by decide) (by decide)) (kJ_r J 20020 20026 (by decide) (by decide) (by decide)) (kJ_r J 20020 20022 (by decide) (by decide) (by decide)) (kJ_r J 20020 20027 (by decide) (by decide) (by decide)) (kJ_r J 20020 20023 (by decide) (by decide) (by decide)) (kJ_r J 20020 20028 (by decide) (by decide) (by decide)) he (nx _ (kJ_b (by decide) hJ) (kJ_c (by decide) hC)))
theorem hK3_0 (Z : lw_W sv mt xs L lam dd) (hn : lx_nv xs L = 3) (hl : lc_l lam) (hL : (lam 0).toNatClampNeg ≤ 1000) (hcar : ∀ J, lb_ok xs L J → lc_ok xs L J → lk_tk xs L 0 = true → lk_x xs L 0 / 3 % 2 = 1 → ∃ J', (∀ i, i < 20010 ∨ 20010 + 10 ≤ i → J i = J' i) ∧ ∀ α, sg_ct sv mt 35 (lx_r xs L J', lam, α) kT3_0) (nx : ∀ J, lb_ok xs L J → lc_ok xs L J → lw_P sv mt xs L J lam dd n0 s0 Q 1326 l_K3_1 g_K3_1 322 2205) (J : Nat → Int32) (hJ : lb_ok xs L J) (hC : lc_ok xs L J) : lw_P sv mt xs L J lam dd n0 s0 Q 1326 l_K3_0 g_K3_0 317 2192 := by
  have tr : ∀ J' : Nat → Int32, (∀ i, i < 20010 ∨ 20010 + 10 ≤ i → J i = J' i) → lw_P sv mt xs L J' lam dd n0 s0 Q 1326 l_K3_0 g_K3_0 317 2192 → lw_P sv mt xs L J lam dd n0 s0 Q 1326 l_K3_0 g_K3_0 317 2192 := fun J' h P => lw_P_J (lo := 20010) (hi := 20010 + 10) h (by decide) hL (by decide +kernel) (by decide +kernel) P
  by_cases hb : lk_x xs L 0 % 3 = 0
  · by_cases ht : lk_tk xs L 0 = true
    · rcases (by omega : lk_x xs L 0 / 3 % 2 = 0 ∨ lk_x xs L 0 / 3 % 2 = 1) with ho | ho
      · exact tr (kJ J 20010) (kJ_out J 20010) (pK3_0_k64 Z hn (kJ_b (by decide) hJ) (kJ_c (by decide) hC) hl hb ht ho (kJ_r J 20010 20010 (by decide) (by decide) (by decide)) (kJ_r J 20010 20015 (by decide) (by decide) (by decide)) (kJ_r J 20010 20011 (by decide) (by decide) (by decide)) (kJ_r J 20010 20016 (by decide) (by decide) (by decide)) (kJ_r J 20010 20012 (by decide) (by decide) (by decide)) (kJ_r J 20010 20017 (by decide) (by decide) (by decide)) (kJ_r J 20010 20013 (by decide) (by decide) (by decide)) (kJ_r J 20010 20018 (by decide) (by decide) (by decide)) (nx _ (kJ_b (by decide) hJ) (kJ_c (by decide) hC)))
      · obtain ⟨J', h1, h2⟩ := hcar J hJ hC ht ho
        have hJ' : lb_ok xs L J' := fun i a b => by rw [← h1 i (by omega)]; exact hJ i a b
        have hC' : lc_ok xs L J' := fun i a b => by rw [← h1 i (by omega)]; exact hC i a b
        exact tr J' h1 (pK3_0_k65 Z hn hJ' hC' hl hb ht ho h2 (nx J' hJ' hC'))
    · rcases (by omega : lk_x xs L 0 / 3 % 2 = 0 ∨ lk_x xs L 0 / 3 % 2 = 1) with ho | ho
      · exfalso
        have e0 : lk_np xs L 0 = 1 := rfl
        have := tk_b0 hb ht; omega
      · exfalso
        have e0 : lk_np xs L 0 = 1 := rfl
        have := tk_b0 hb ht; omega
  · by_cases ht : lk_tk xs L 0 = true
    · rcases (by omega : lk_x xs L 0 / 3 % 2 = 0 ∨ lk_x xs L 0 / 3 % 2 = 1) with ho | ho
      · exact tr (kJ J 20010) (kJ_out J 20010) (pK3_0_k62 Z hn (kJ_b (by decide) hJ) (kJ_c (by decide) hC) hl hb ht ho (kJ_r J 20010 20010 (by decide) (by decide) (by decide)) (kJ_r J 20010 20015 (by decide) (by decide) (by decide)) (kJ_r J 20010 20011 (by decide) (by decide) (by decide)) (kJ_r J 20010 20016 (by decide) (by decide) (by decide)) (kJ_r J 20010 20012 (by decide) (by decide) (by decide)) (kJ_r J 20010 20017 (by decide) (by decide) (by decide)) (kJ_r J 20010 20013 (by decide) (by decide) (by decide)) (kJ_r J 20010 20018 (by decide) (by decide) (by decide)) (nx _ (kJ_b (by decide) hJ) (kJ_c (by decide) hC)))
      · obtain ⟨J', h1, h2⟩ := hcar J hJ hC ht ho
        have hJ' : lb_ok xs L J' := fun i a b => by rw [← h1 i (by omega)]; exact hJ i a b
        have hC' : lc_ok xs L J' := fun i a b => by rw [← h1 i (by omega)]; exact hC i a b
        exact tr J' h1 (pK3_0_k63 Z hn hJ' hC' hl hb ht ho h2 (nx J' hJ' hC'))
    · rcases (by omega : lk_x xs L 0 / 3 % 2 = 0 ∨ lk_x xs L 0 / 3 % 2 = 1) with ho | ho
      · exfalso
        have e0 : lk_np xs L 0 = 1 := rfl
        have := tk_f0 hb ht; omega
      · exfalso
        have e0 : lk_np xs L 0 = 1 := rfl
        have := tk_f0 hb ht; omega
theorem hK4_4 (Z : lw_W sv mt xs L lam dd) (hn : lx_nv xs L = 4) (hl : lc_l lam) (hL : (lam 0).toNatClampNeg ≤ 1000) (hcar : ∀ J, lb_ok xs L J → lc_ok xs L J → lk_tk xs L 4 = true → lk_x xs L 4 / 3 % 2 = 1 → ∃ J', (∀ i, i < 20050 ∨ 20050 + 10 ≤ i → J i = J' i) ∧ ∀ α, sg_ct sv mt 35 (lx_r xs L J', lam, α) kT4_4) (nx : ∀ J, lb_ok xs L J → lc_ok xs L J → lw_P sv mt xs L J lam dd n0 s0 Q 1326 l_K4_5 g_K4_5 396 2676) (J : Nat → Int32) (hJ : lb_ok xs L J) (hC : lc_ok xs L J) : lw_P sv mt xs L J lam dd n0 s0 Q 1326 l_K4_4 g_K4_4 391 2663 := by
  have tr : ∀ J' : Nat → Int32, (∀ i, i < 20050 ∨ 20050 + 10 ≤ i → J i = J' i) → lw_P sv mt xs L J' lam dd n0 s0 Q 1326 l_K4_4 g_K4_4 391 2663 → lw_P sv mt xs L J lam dd n0 s0 Q 1326 l_K4_4 g_K4_4 391 2663 := fun J' h P => lw_P_J (lo := 20050) (hi := 20050 + 10) h (by decide) hL (by decide +kernel) (by decide +kernel) P
  by_cases hb : lk_x xs L 4 % 3 = 0
  · by_cases ht : lk_tk xs L 4 = true
    · rcases (by omega : lk_x xs L 4 / 3 % 2 = 0 ∨ lk_x xs L 4 / 3 % 2 = 1) with ho | ho
      · by_cases hp : lk_np xs L 4 = 1
        · by_cases he : lk_ns xs L 5 = lk_np xs L 5
          · exact tr (kJ J 20050) (kJ_out J 20050) (pK4_4_k215 Z hn (kJ_b (by decide) hJ) (kJ_c (by decide) hC) hl hp hb ht ho (kJ_r J 20050 20050 (by decide) (by decide) (by decide)) (kJ_r J 20050 20055 (by decide) (by decide) (by decide)) (kJ_r J 20050 20051 (by decide) (by decide) (by decide)) (kJ_r J 20050 20056 (by decide) (by decide) (by decide)) (kJ_r J 20050 20052 (by decide) (by decide) (by decide)) (kJ_r J 20050 20057 (by decide) (by decide) (by decide)) (kJ_r J 20050 20053 (by decide) (by decide) (by decide)) (kJ_r J 20050 20058 (by decide) (by decide) (by decide)) he (nx _ (kJ_b (by decide) hJ) (kJ_c (by decide) hC)))
          · exact tr (kJ J 20050) (kJ_out J 20050) (pK4_4_k214 Z hn (kJ_b (by decide) hJ) (kJ_c (by decide) hC) hl hp hb ht ho (kJ_r J 20050 20050 (by decide) (by decide) (by decide)) (kJ_r J 20050 20055 (by decide) (by decide) (by decide)) (kJ_r J 20050 20051 (by decide) (by decide) (by decide)) (kJ_r J 20050 20056 (by decide) (by decide) (by decide)) (kJ_r J 20050 20052 (by decide) (by decide) (by decide)) (kJ_r J 20050 20057 (by decide) (by decide) (by decide)) (kJ_r J 20050 20053 (by decide) (by decide) (by decide)) (kJ_r J 20050 20058 (by decide) (by decide) (by decide)) he (nx _ (kJ_b (by decide) hJ) (kJ_c (by decide) hC)))
        · by_cases he : lk_ns xs L 5 = lk_np xs L 5
          · exact tr (kJ J 20050) (kJ_out J 20050) (pK4_4_k229 Z hn (kJ_b (by decide) hJ) (kJ_c (by decide) hC) hl hp hb ht ho (kJ_r J 20050 20050 (by decide) (by decide) (by decide)) (kJ_r J 20050 20055 (by decide) (by decide) (by decide)) (kJ_r J 20050 20051 (by decide) (by decide) (by decide)) (kJ_r J 20050 20056 (by decide) (by decide) (by decide)) (kJ_r J 20050 20052 (by decide) (by decide) (by decide)) (kJ_r J 20050 20057 (by decide) (by decide) (by decide)) (kJ_r J 20050 20053 (by decide) (by decide) (by decide)) (kJ_r J 20050 20058 (by decide) (by decide) (by decide)) he (nx _ (kJ_b (by decide) hJ) (kJ_c (by decide) hC)))
          · exact tr (kJ J 20050) (kJ_out J 20050) (pK4_4_k228 Z hn (kJ_b (by decide) hJ) (kJ_c (by decide) hC) hl hp hb ht ho (kJ_r J 20050 20050 (by decide) (by decide) (by decide)) (kJ_r J 20050 20055 (by decide) (by decide) (by decide)) (kJ_r J 20050 20051 (by decide) (by decide) (by decide)) (kJ_r J 20050 20056 (by decide) (by decide) (by decide)) (kJ_r J 20050 20052 (by decide) (by decide) (by decide)) (kJ_r J 20050 20057 (by decide) (by decide) (by decide)) (kJ_r J 20050 20053 (by decide) (by decide) (by decide)) (kJ_r J 20050 20058 (by decide) (by decide) (by decide)) he (nx _ (kJ_b (by decide) hJ) (kJ_c (by decide) hC)))
      · by_cases hp : lk_np xs L 4 = 1
        · obtain ⟨J', h1, h2⟩ := hcar J hJ hC ht ho
          have hJ' : lb_ok xs L J' := fun i a b => by rw [← h1 i (by omega)]; exact hJ i a b
          have hC' : lc_ok xs L J' := fun i a b => by rw [← h1 i (by omega)]; exact hC i a b
          exact tr J' h1 (pK4_4_k216 Z hn hJ' hC' hl hp hb ht ho h2 (nx J' hJ' hC'))
        · obtain ⟨J', h1, h2⟩ := hcar J hJ hC ht ho
          have hJ' : lb_ok xs L J' := fun i a b => by rw [← h1 i (by omega)]; exact hJ i a b
          have hC' : lc_ok xs L J' := fun i a b => by rw [← h1 i (by omega)]; exact hC i a b
          exact tr J' h1 (pK4_4_k230 Z hn hJ' hC' hl hp hb ht ho h2 (nx J' hJ' hC'))
    · rcases (by omega : lk_x xs L 4 / 3 % 2 = 0 ∨ lk_x xs L 4 / 3 % 2 = 1) with ho | ho
      · by_cases hp : lk_np xs L 4 = 1
        · exfalso
          have hq := lk_np_lt xs L 4
          have := tk_b0 hb ht; omega
        · by_cases he : lk_ns xs L 5 = lk_np xs L 5
          · exact tr (kJ J 20050) (kJ_out J 20050) (pK4_4_k225 Z hn (kJ_b (by decide) hJ) (kJ_c (by decide) hC) hl hp hb ht ho (kJ_r J 20050 20050 (by decide) (by decide) (by decide)) (kJ_r J 20050 20055 (by decide) (by decide) (by decide)) (kJ_r J 20050 20051 (by decide) (by decide) (by decide)) (kJ_r J 20050 20056 (by decide) (by decide) (by decide)) (kJ_r J 20050 20052 (by decide) (by decide) (by decide)) (kJ_r J 20050 20057 (by decide) (by decide) (by decide)) (kJ_r J 20050 20053 (by decide) (by decide) (by decide)) (kJ_r J 20050 20058 (by decide) (by decide) (by decide)) he (nx _ (kJ_b (by decide) hJ) (kJ_c (by decide) hC)))
          · exact tr (kJ J 20050) (kJ_out J 20050) (pK4_4_k224 Z hn (kJ_b (by decide) hJ) (kJ_c (by decide) hC) hl hp hb ht ho (kJ_r J 20050 20050 (by decide) (by decide) (by decide)) (kJ_r J 20050 20055 (by decide) (by decide) (by decide)) (kJ_r J 20050 20051 (by decide) (by decide) (by decide)) (kJ_r J 20050 20056 (by decide) (by decide) (by decide)) (kJ_r J 20050 20052 (by decide) (by decide) (by decide)) (kJ_r J 20050 20057 (by decide) (by decide) (by decide)) (kJ_r J 20050 20053 (by decide) (by decide) (by decide)) (kJ_r J 20050 20058 (by decide) (by decide) (by decide)) he (nx _ (kJ_b (by decide) hJ) (kJ_c (by decide) hC)))
      · by_cases hp : lk_np xs L 4 = 1
        · exfalso
          have hq := lk_np_lt xs L 4
          have := tk_b0 hb ht; omega
        · by_cases he : lk_ns xs L 5 = lk_np xs L 5
          · exact tr (kJ J 20050) (kJ_out J 20050) (pK4_4_k227 Z hn (kJ_b (by decide) hJ) (kJ_c (by decide) hC) hl hp hb ht ho (kJ_r J 20050 20050 (by decide) (by decide) (by decide)) (kJ_r J 20050 20055 (by decide) (by decide) (by decide)) (kJ_r J 20050 20051 (by decide) (by decide) (by decide)) (kJ_r J 20050 20056 (by decide) (by decide) (by decide)) (kJ_r J 20050 20052 (by decide) (by decide) (by decide)) (kJ_r J 20050 20057 (by decide) (by decide) (by decide)) (kJ_r J 20050 20053 (by decide) (by decide) (by decide)) (kJ_r J 20050 20058 (by decide) (by decide) (by decide)) he (nx _ (kJ_b (by decide) hJ) (kJ_c (by decide) hC)))
          · exact tr (kJ J 20050) (kJ_out J 20050) (pK4_4_k226 Z hn (kJ_b (by decide) hJ) (kJ_c (by decide) hC) hl hp hb ht ho (kJ_r J 20050 20050 (by decide) (by decide) (by decide)) (kJ_r J 20050 20055 (by decide) (by decide) (by decide)) (kJ_r J 20050 20051 (by decide) (by decide) (by decide)) (kJ_r J 20050 20056 (by decide) (by decide) (by decide)) (kJ_r J 20050 20052 (by decide) (by decide) (by decide)) (kJ_r J 20050 20057 (by decide) (by decide) (by decide)) (kJ_r J 20050 20053 (by decide) (by decide) (by decide)) (kJ_r J 20050 20058 (by decide) (by decide) (by decide)) he (nx _ (kJ_b (by decide) hJ) (kJ_c (by decide) hC)))
  · by_cases ht : lk_tk xs L 4 = true
    · rcases (by omega : lk_x xs L 4 / 3 % 2 = 0 ∨ lk_x xs L 4 / 3 % 2 = 1) with ho | ho
      · by_cases hp : lk_np xs L 4 = 1
        · by_cases he : lk_ns xs L 5 = lk_np xs L 5
          · exact tr (kJ J 20050) (kJ_out J 20050) (pK4_4_k212 Z hn (kJ_b (by decide) hJ) (kJ_c (by decide) hC) hl hp hb ht ho (kJ_r J 20050 20050 (by decide) (by decide) (by decide)) (kJ_r J 20050 20055 (by decide) (by decide) (by decide)) (kJ_r J 20050 20051 (by decide) (by decide) (by decide)) (kJ_r J 20050 20056 (by decide) (by decide) (by decide)) (kJ_r J 20050 20052 (by decide) (by decide) (by decide)) (kJ_r J 20050 20057 (by decide) (by decide) (by decide)) (kJ_r J 20050 20053 (by decide) (by decide) (by decide)) (kJ_r J 20050 20058 (by decide) (by decide) (by decide)) he (nx _ (kJ_b (by decide) hJ) (kJ_c (by decide) hC)))
          · exact tr (kJ J 20050) (kJ_out J 20050) (pK4_4_k211 Z hn (kJ_b (by decide) hJ) (kJ_c (by decide) hC) hl hp hb ht ho (kJ_r J 20050 20050 (by decide) (by decide) (by decide)) (kJ_r J 20050 20055 (by decide) (by decide) (by decide)) (kJ_r J 20050 20051 (by decide) (by decide) (by decide)) (kJ_r J 20050 20056 (by decide) (by decide) (by decide)) (kJ_r J 20050 20052 (by decide) (by decide) (by decide)) (kJ_r J 20050 20057 (by decide) (by decide) (by decide)) (kJ_r J 20050 20053 (by decide) (by decide) (by decide)) (kJ_r J 20050 20058 (by decide) (by decide) (by decide)) he (nx _ (kJ_b (by decide) hJ) (kJ_c (by decide) hC)))
        · by_cases he : lk_ns xs L 5 = lk_np xs L 5
          · exact tr (kJ J 20050) (kJ_out J 20050) (pK4_4_k222 Z hn (kJ_b (by decide) hJ) (kJ_c (by decide) hC) hl hp hb ht ho (kJ_r J 20050 20050 (by decide) (by decide) (by decide)) (kJ_r J 20050 20055 (by decide) (by decide) (by decide)) (kJ_r J 20050 20051 (by decide) (by decide) (by decide)) (kJ_r J 20050 20056 (by decide) (by decide) (by decide)) (kJ_r J 20050 20052 (by decide) (by decide) (by decide)) (kJ_r J 20050 20057 (by decide) (by decide) (by decide)) (kJ_r J 20050 20053 (by decide) (by decide) (by decide)) (kJ_r J 20050 20058 (by decide) (by decide) (by decide)) he (nx _ (kJ_b (by decide) hJ) (kJ_c (by decide) hC)))
          · exact tr (kJ J 20050) (kJ_out J 20050) (pK4_4_k221 Z hn (kJ_b (by decide) hJ) (kJ_c (by decide) hC) hl hp hb ht ho (kJ_r J 20050 20050 (by decide) (by decide) (by decide)) (kJ_r J 20050 20055 (by decide) (by decide) (by decide)) (kJ_r J 20050 20051 (by decide) (by decide) (by decide)) (kJ_r J 20050 20056 (by decide) (by decide) (by decide)) (kJ_r J 20050 20052 (by decide) (by decide) (by decide)) (kJ_r J 20050 20057 (by decide) (by decide) (by decide)) (kJ_r J 20050 20053 (by decide) (by decide) (by decide)) (kJ_r J 20050 20058 (by decide) (by decide) (by decide)) he (nx _ (kJ_b (by decide) hJ) (kJ_c (by decide) hC)))
      · by_cases hp : lk_np xs L 4 = 1
        · obtain ⟨J', h1, h2⟩ := hcar J hJ hC ht ho
          have hJ' : lb_ok xs L J' := fun i a b => by rw [← h1 i (by omega)]; exact hJ i a b
          have hC' : lc_ok xs L J' := fun i a b => by rw [← h1 i (by omega)]; exact hC i a b
          exact tr J' h1 (pK4_4_k213 Z hn hJ' hC' hl hp hb ht ho h2 (nx J' hJ' hC'))
        · obtain ⟨J', h1, h2⟩ := hcar J hJ hC ht ho
          have hJ' : lb_ok xs L J' := fun i a b => by rw [← h1 i (by omega)]; exact hJ i a b
          have hC' : lc_ok xs L J' := fun i a b => by rw [← h1 i (by omega)]; exact hC i a b
          exact tr J' h1 (pK4_4_k223 Z hn hJ' hC' hl hp hb ht ho h2 (nx J' hJ' hC'))
    · rcases (by omega : lk_x xs L 4 / 3 % 2 = 0 ∨ lk_x xs L 4 / 3 % 2 = 1) with ho | ho
      · by_cases hp : lk_np xs L 4 = 1
        · exfalso
          have hq := lk_np_lt xs L 4
          have := tk_f0 hb ht; omega
        · by_cases he : lk_ns xs L 5 = lk_np xs L 5
          · exact tr (kJ J 20050) (kJ_out J 20050) (pK4_4_k218 Z hn (kJ_b (by decide) hJ) (kJ_c (by decide) hC) hl hp hb ht ho (kJ_r J 20050 20050 (by decide) (by decide) (by decide)) (kJ_r J 20050 20055 (by decide) (by decide) (by decide)) (kJ_r J 20050 20051 (by decide) (by decide) (by decide)) (kJ_r J 20050 20056 (by decide) (by decide) (by decide)) (kJ_r J 20050 20052 (by decide) (by decide) (by decide)) (kJ_r J 20050 20057 (by decide) (by decide) (by decide)) (kJ_r J 20050 20053 (by decide) (by decide) (by decide)) (kJ_r J 20050 20058 (by decide) (by decide) (by decide)) he (nx _ (kJ_b (by decide) hJ) (kJ_c (by decide) hC)))
          · exact tr (kJ J 20050) (kJ_out J 20050) (pK4_4_k217 Z hn (kJ_b (by decide) hJ) (kJ_c (by decide) hC) hl hp hb ht ho (kJ_r J 20050 20050 (by decide) (by decide) (by decide)) (kJ_r J 20050 20055 (by decide) (by decide) (by decide)) (kJ_r J 20050 20051 (by decide) (by decide) (by decide)) (kJ_r J 20050 20056 (by decide) (by decide) (by decide)) (kJ_r J 20050 20052 (by decide) (by decide) (by decide)) (kJ_r J 20050 20057 (by decide) (by decide) (by decide)) (kJ_r J 20050 20053 (by decide) (by decide) (by decide)) (kJ_r J 20050 20058 (by decide) (by decide) (by decide)) he (nx _ (kJ_b (by decide) hJ) (kJ_c (by decide) hC)))
      · by_cases hp : lk_np xs L 4 = 1
        · exfalso
          have hq := lk_np_lt xs L 4
          have := tk_f0 hb ht; omega
        · by_cases he : lk_ns xs L 5 = lk_np xs L 5
          · exact tr (kJ J 20050) (kJ_out J 20050) (pK4_4_k220 Z hn (kJ_b (by decide) hJ) (kJ_c (by decide) hC) hl hp hb ht ho (kJ_r J 20050 20050 (by decide) (by decide) (by decide)) (kJ_r J 20050 20055 (by decide) (by decide) (by decide)) (kJ_r J 20050 20051 (by decide) (by decide) (by decide)) (kJ_r J 20050 20056 (by decide) (by decide) (by decide)) (kJ_r J 20050 20052 (by decide) (by decide) (by decide)) (kJ_r J 20050 20057 (by decide) (by decide) (by decide)) (kJ_r J 20050 20053 (by decide) (by decide) (by decide)) (kJ_r J 20050 20058 (by decide) (by decide) (by decide)) he (nx _ (kJ_b (by decide) hJ) (kJ_c (by decide) hC)))
          · exact tr (kJ J 20050) (kJ_out J 20050) (pK4_4_k219 Z hn (kJ_b (by decide) hJ) (kJ_c (by decide) hC) hl hp hb ht ho (kJ_r J 20050 20050 (by decide) (by decide) (by decide)) (kJ_r J 20050 20055 (by decide) (by decide) (by decide)) (kJ_r J 20050 20051 (by decide) (by decide) (by decide)) (kJ_r J 20050 20056 (by decide) (by decide) (by decide)) (kJ_r J 20050 20052 (by decide) (by decide) (by decide)) (kJ_r J 20050 20057 (by decide) (by decide) (by decide)) (kJ_r J 20050 20053 (by decide) (by decide) (by decide)) (kJ_r J 20050 20058 (by decide) (by decide) (by decide)) he (nx _ (kJ_b (by decide) hJ) (kJ_c (by decide) hC)))
theorem hK4_3 (Z : lw_W sv mt xs L lam dd) (hn : lx_nv xs L = 4) (hl : lc_l lam) (hL : (lam 0).toNatClampNeg ≤ 1000) (hcar : ∀ J, lb_ok xs L J → lc_ok xs L J → lk_tk xs L 3 = true → lk_x xs L 3 / 3 % 2 = 1 → ∃ J', (∀ i, i < 20040 ∨ 20040 + 10 ≤ i → J i = J' i) ∧ ∀ α, sg_ct sv mt 35 (lx_r xs L J', lam, α) kT4_3) (nx : ∀ J, lb_ok xs L J → lc_ok xs L J → lw_P sv mt xs L J lam dd n0 s0 Q 1326 l_K4_4 g_K4_4 391 2663) (J : Nat → Int32) (hJ : lb_ok xs L J) (hC : lc_ok xs L J) : lw_P sv mt xs L J lam dd n0 s0 Q 1326 l_K4_3 g_K4_3 386 2650 := by
  have tr : ∀ J' : Nat → Int32, (∀ i, i < 20040 ∨ 20040 + 10 ≤ i → J i = J' i) → lw_P sv mt xs L J' lam dd n0 s0 Q 1326 l_K4_3 g_K4_3 386 2650 → lw_P sv mt xs L J lam dd n0 s0 Q 1326 l_K4_3 g_K4_3 386 2650 := fun J' h P => lw_P_J (lo := 20040) (hi := 20040 + 10) h (by decide) hL (by decide +kernel) (by decide +kernel) P
  by_cases hb : lk_x xs L 3 % 3 = 0
  · by_cases ht : lk_tk xs L 3 = true
    · rcases (by omega : lk_x xs L 3 / 3 % 2 = 0 ∨ lk_x xs L 3 / 3 % 2 = 1) with ho | ho
      · by_cases hp : lk_np xs L 3 = 1
        · by_cases he : lk_ns xs L 4 = lk_np xs L 4
          · exact tr (kJ J 20040) (kJ_out J 20040) (pK4_3_k195 Z hn (kJ_b (by decide) hJ) (kJ_c (by decide) hC) hl hp hb ht ho (kJ_r J 20040 20040 (by decide) (by decide) (by decide)) (kJ_r J 20040 20045 (by decide) (by decide) (by decide)) (kJ_r J 20040 20041 (by decide) (by decide) (by decide)) (kJ_r J 20040 20046 (by decide) (by decide) (by decide)) (kJ_r J 20040 20042 (by decide) (by decide) (by decide)) (kJ_r J 20040 20047 (by decide) (by decide) (by decide)) (kJ_r J 20040 20043 (by decide) (by decide) (by decide)) (kJ_r J 20040 20048 (by decide) (by decide) (by decide)) he (nx _ (kJ_b (by decide) hJ) (kJ_c (by decide) hC)))
          · exact tr (kJ J 20040) (kJ_out J 20040) (pK4_3_k194 Z hn (kJ_b (by decide) hJ) (kJ_c (by decide) hC) hl hp hb ht ho (kJ_r J 20040 20040 (by decide) (by decide) (by decide)) (kJ_r J 20040 20045 (by decide) (by decide) (by decide)) (kJ_r J 20040 20041 (by decide) (by decide) (by decide)) (kJ_r J 20040 20046 (by decide) (by decide) (by decide)) (kJ_r J 20040 20042 (by decide) (by decide) (by decide)) (kJ_r J 20040 20047 (by decide) (by decide) (by decide)) (kJ_r J 20040 20043 (by decide) (by decide) (by decide)) (kJ_r J 20040 20048 (by decide) (by decide) (by decide)) he (nx _ (kJ_b (by decide) hJ) (kJ_c (by decide) hC)))
        · by_cases he : lk_ns xs L 4 = lk_np xs L 4
          · exact tr (kJ J 20040) (kJ_out J 20040) (pK4_3_k209 Z hn (kJ_b (by decide) hJ) (kJ_c (by decide) hC) hl hp hb ht ho (kJ_r J 20040 20040 (by decide) (by decide) (by decide)) (kJ_r J 20040 20045 (by decide) (by decide) (by decide)) (kJ_r J 20040 20041 (by decide) (by decide) (by decide)) (kJ_r J 20040 20046 (by decide) (by decide) (by decide)) (kJ_r J 20040 20042 (by decide) (by decide) (by decide)) (kJ_r J 20040 20047 (by decide) (by decide) (by decide)) (kJ_r J 20040 20043 (by decide) (by decide) (by decide)) (kJ_r J 20040 20048 (by decide) (by decide) (by decide)) he (nx _ (kJ_b (by decide) hJ) (kJ_c (by decide) hC)))
          · exact tr (kJ J 20040) (kJ_out J 20040) (pK4_3_k208 Z hn (kJ_b (by decide) hJ) (kJ_c (by decide) hC) hl hp hb ht ho (kJ_r J 20040 20040 (by decide) (by decide) (by decide)) (kJ_r J 20040 20045 (by decide) (by decide) (by decide)) (kJ_r J 20040 20041 (by decide) (by decide) (by decide)) (kJ_r J 20040 20046 (by decide) (by decide) (by decide)) (kJ_r J 20040 20042 (by decide) (by decide) (by decide)) (kJ_r J 20040 20047 (by decide) (by decide) (by decide)) (kJ_r J 20040 20043 (by decide) (by decide) (by decide)) (kJ_r J 20040 20048 (by decide) (by decide) (by decide)) he (nx _ (kJ_b (by decide) hJ) (kJ_c (by decide) hC)))
      · by_cases hp : lk_np xs L 3 = 1
        · obtain ⟨J', h1, h2⟩ := hcar J hJ hC ht ho
          have hJ' : lb_ok xs L J' := fun i a b => by rw [← h1 i (by omega)]; exact hJ i a b
          have hC' : lc_ok xs L J' := fun i a b => by rw [← h1 i (by omega)]; exact hC i a b
          exact tr J' h1 (pK4_3_k196 Z hn hJ' hC' hl hp hb ht ho h2 (nx J' hJ' hC'))
        · obtain ⟨J', h1, h2⟩ := hcar J hJ hC ht ho
          have hJ' : lb_ok xs L J' := fun i a b => by rw [← h1 i (by omega)]; exact hJ i a b
          have hC' : lc_ok xs L J' := fun i a b => by rw [← h1 i (by omega)]; exact hC i a b
          exact tr J' h1 (pK4_3_k210 Z hn hJ' hC' hl hp hb ht ho h2 (nx J' hJ' hC'))
    · rcases (by omega : lk_x xs L 3 / 3 % 2 = 0 ∨ lk_x xs L 3 / 3 % 2 = 1) with ho | ho
      · by_cases hp : lk_np xs L 3 = 1
        · exfalso
          have hq := lk_np_lt xs L 3
          have := tk_b0 hb ht; omega
        · by_cases he : lk_ns xs L 4 = lk_np xs L 4
          · exact tr (kJ J 20040) (kJ_out J 20040) (pK4_3_k205 Z hn (kJ_b (by decide) hJ) (kJ_c (by decide) hC) hl hp hb ht ho (kJ_r J 20040 20040 (by decide) (by decide) (by decide)) (kJ_r J 20040 20045 (by decide) (by decide) (by decide)) (kJ_r J 20040 20041 (by decide) (by decide) (by decide)) (kJ_r J 20040 20046 (by decide) (by decide) (by decide)) (kJ_r J 20040 20042 (by decide) (by decide) (by decide)) (kJ_r J 20040 20047 (by decide) (by decide) (by decide)) (kJ_r J 20040 20043 (by decide) (by decide) (by decide)) (kJ_r J 20040 20048 (by decide) (by decide) (by decide)) he (nx _ (kJ_b (by decide) hJ) (kJ_c (by decide) hC)))
          · exact tr (kJ J 20040) (kJ_out J 20040) (pK4_3_k204 Z hn (kJ_b (by decide) hJ) (kJ_c (by decide) hC) hl hp hb ht ho (kJ_r J 20040 20040 (by decide) (by decide) (by decide)) (kJ_r J 20040 20045 (by decide) (by decide) (by decide)) (kJ_r J 20040 20041 (by decide) (by decide) (by decide)) (kJ_r J 20040 20046 (by decide) (by decide) (by decide)) (kJ_r J 20040 20042 (by decide) (by decide) (by decide)) (kJ_r J 20040 20047 (by decide) (by decide) (by decide)) (kJ_r J 20040 20043 (by decide) (by decide) (by decide)) (kJ_r J 20040 20048 (by decide) (by decide) (by decide)) he (nx _ (kJ_b (by decide) hJ) (kJ_c (by decide) hC)))
      · by_cases hp : lk_np xs L 3 = 1
        · exfalso
          have hq := lk_np_lt xs L 3
          have := tk_b0 hb ht; omega
        · by_cases he : lk_ns xs L 4 = lk_np xs L 4
          · exact tr (kJ J 20040) (kJ_out J 20040) (pK4_3_k207 Z hn (kJ_b (by decide) hJ) (kJ_c (by decide) hC) hl hp hb ht ho (kJ_r J 20040 20040 (by decide) (by decide) (by decide)) (kJ_r J 20040 20045 (by decide) (by decide) (by decide)) (kJ_r J 20040 20041 (by decide) (by decide) (by decide)) (kJ_r J 20040 20046 (by decide) (by decide) (by decide)) (kJ_r J 20040 20042 (by decide) (by decide) (by decide)) (kJ_r J 20040 20047 (by decide) (by decide) (by decide)) (kJ_r J 20040 20043 (by decide) (by decide) (by decide)) (kJ_r J 20040 20048 (by decide) (by decide) (by decide)) he (nx _ (kJ_b (by decide) hJ) (kJ_c (by decide) hC)))
          · exact tr (kJ J 20040) (kJ_out J 20040) (pK4_3_k206 Z hn (kJ_b (by decide) hJ) (kJ_c (by decide) hC) hl hp hb ht ho (kJ_r J 20040 20040 (by decide) (by decide) (by decide)) (kJ_r J 20040 20045 (by decide) (by decide) (by decide)) (kJ_r J 20040 20041 (by decide) (by decide) (by decide)) (kJ_r J 20040 20046 (by decide) (by decide) (by decide)) (kJ_r J 20040 20042 (by decide) (by decide) (by decide)) (kJ_r J 20040 20047 (by decide) (by decide) (by decide)) (kJ_r J 20040 20043 (by decide) (by decide) (by decide)) (kJ_r J 20040 20048 (by decide) (by decide) (by decide)) he (nx _ (kJ_b (by decide) hJ) (kJ_c (by decide) hC)))
  · by_cases ht : lk_tk xs L 3 = true
    · rcases (by omega : lk_x xs L 3 / 3 % 2 = 0 ∨ lk_x xs L 3 / 3 % 2 = 1) with ho | ho
      · by_cases hp : lk_np xs L 3 = 1
        · by_cases he : lk_ns xs L 4 = lk_np xs L 4
          · exact tr (kJ J 20040) (kJ_out J 20040) (pK4_3_k192 Z hn (kJ_b (by decide) hJ) (kJ_c (by decide) hC) hl hp hb ht ho (kJ_r J 20040 20040 (by decide) (by decide) (by decide)) (kJ_r J 20040 20045 (by decide) (by decide) (by decide)) (kJ_r J 20040 20041 (by decide) (by decide) (by decide)) (kJ_r J 20040 20046 (by decide) (by decide) (by decide)) (kJ_r J 20040 20042 (by decide) (by decide) (by decide)) (kJ_r J 20040 20047 (by decide) (by decide) (by decide)) (kJ_r J 20040 20043 (by decide) (by decide) (by decide)) (kJ_r J 20040 20048 (by decide) (by decide) (by decide)) he (nx _ (kJ_b (by decide) hJ) (kJ_c (by decide) hC)))
          · exact tr (kJ J 20040) (kJ_out J 20040) (pK4_3_k191 Z hn (kJ_b (by decide) hJ) (kJ_c (by decide) hC) hl hp hb ht ho (kJ_r J 20040 20040 (by decide) (by decide) (by decide)) (kJ_r J 20040 20045 (by decide) (by decide) (by decide)) (kJ_r J 20040 20041 (by decide) (by decide) (by decide)) (kJ_r J 20040 20046 (by decide) (by decide) (by decide)) (kJ_r J 20040 20042 (by decide) (by decide) (by decide)) (kJ_r J 20040 20047 (by decide) (by decide) (by decide)) (kJ_r J 20040 20043 (by decide) (by decide) (by decide)) (kJ_r J 20040 20048 (by decide) (by decide) (by decide)) he (nx _ (kJ_b (by decide) hJ) (kJ_c (by decide) hC)))
        · by_cases he : lk_ns xs L 4 = lk_np xs L 4
          · exact tr (kJ J 20040) (kJ_out J 20040) (pK4_3_k202 Z hn (kJ_b (by decide) hJ) (kJ_c (by decide) hC) hl hp hb ht ho (kJ_r J 20040 20040 (by decide) (by decide) (by decide)) (kJ_r J 20040 20045 (by decide) (by decide) (by decide)) (kJ_r J 20040 20041 (by decide) (by decide) (by decide)) (kJ_r J 20040 20046 (by decide) (by decide) (by decide)) (kJ_r J 20040 20042 (by decide) (by decide) (by decide)) (kJ_r J 20040 20047 (by decide) (by decide) (by decide)) (kJ_r J 20040 20043 (by decide) (by decide) (by decide)) (kJ_r J 20040 20048 (by decide) (by decide) (by decide)) he (nx _ (kJ_b (by decide) hJ) (kJ_c (by decide) hC)))
          · exact tr (kJ J 20040) (kJ_out J 20040) (pK4_3_k201 Z hn (kJ_b (by decide) hJ) (kJ_c (by decide) hC) hl hp hb ht ho (kJ_r J 20040 20040 (by decide) (by decide) (by decide)) (kJ_r J 20040 20045 (by decide) (by decide) (by decide)) (kJ_r J 20040 20041 (by decide) (by decide) (by decide)) (kJ_r J 20040 20046 (by decide) (by decide) (by decide)) (kJ_r J 20040 20042 (by decide) (by decide) (by decide)) (kJ_r J 20040 20047 (by decide) (by decide) (by decide)) (kJ_r J 20040 20043 (by decide) (by decide) (by decide)) (kJ_r J 20040 20048 (by decide) (by decide) (by decide)) he (nx _ (kJ_b (by decide) hJ) (kJ_c (by decide) hC)))
      · by_cases hp : lk_np xs L 3 = 1
        · obtain ⟨J', h1, h2⟩ := hcar J hJ hC ht ho
          have hJ' : lb_ok xs L J' := fun i a b => by rw [← h1 i (by omega)]; exact hJ i a b
          have hC' : lc_ok xs L J' := fun i a b => by rw [← h1 i (by omega)]; exact hC i a b
          exact tr J' h1 (pK4_3_k193 Z hn hJ' hC' hl hp hb ht ho h2 (nx J' hJ' hC'))
        · obtain ⟨J', h1, h2⟩ := hcar J hJ hC ht ho
          have hJ' : lb_ok xs L J' := fun i a b => by rw [← h1 i (by omega)]; exact hJ i a b
          have hC' : lc_ok xs L J' := fun i a b => by rw [← h1 i (by omega)]; exact hC i a b
          exact tr J' h1 (pK4_3_k203 Z hn hJ' hC' hl hp hb ht ho h2 (nx J' hJ' hC'))
    · rcases (by omega : lk_x xs L 3 / 3 % 2 = 0 ∨ lk_x xs L 3 / 3 % 2 = 1) with ho | ho
      · by_cases hp : lk_np xs L 3 = 1
        · exfalso
          have hq := lk_np_lt xs L 3
          have := tk_f0 hb ht; omega
        · by_cases he : lk_ns xs L 4 = lk_np xs L 4
          · exact tr (kJ J 20040) (kJ_out J 20040) (pK4_3_k198 Z hn (kJ_b (by decide) hJ) (kJ_c (by decide) hC) hl hp hb ht ho (kJ_r J 20040 20040 (by decide) (by decide) (by decide)) (kJ_r J 20040 20045 (by decide) (by decide) (by decide)) (kJ_r J 20040 20041 (by decide) (by decide) (by decide)) (kJ_r J 20040 20046 (by decide) (by decide) (by decide)) (kJ_r J 20040 20042 (by decide) (by decide) (by decide)) (kJ_r J 20040 20047 (by decide) (by decide) (by decide)) (kJ_r J 20040 20043 (by decide) (by decide) (by decide)) (kJ_r J 20040 20048 (by decide) (by decide) (by decide)) he (nx _ (kJ_b (by decide) hJ) (kJ_c (by decide) hC)))
          · exact tr (kJ J 20040) (kJ_out J 20040) (pK4_3_k197 Z hn (kJ_b (by decide) hJ) (kJ_c (by decide) hC) hl hp hb ht ho (kJ_r J 20040 20040 (by decide) (by decide) (by decide)) (kJ_r J 20040 20045 (by decide) (by decide) (by decide)) (kJ_r J 20040 20041 (by decide) (by decide) (by decide)) (kJ_r J 20040 20046 (by decide) (by decide) (by decide)) (kJ_r J 20040 20042 (by decide) (by decide) (by decide)) (kJ_r J 20040 20047 (by decide) (by decide) (by decide)) (kJ_r J 20040 20043 (by decide) (by decide) (by decide)) (kJ_r J 20040 20048 (by decide) (by decide) (by decide)) he (nx _ (kJ_b (by decide) hJ) (kJ_c (by decide) hC)))
      · by_cases hp : lk_np xs L 3 = 1
        · exfalso
          have hq := lk_np_lt xs L 3
          have := tk_f0 hb ht; omega
        · by_cases he : lk_ns xs L 4 = lk_np xs L 4
          · exact tr (kJ J 20040) (kJ_out J 20040) (pK4_3_k200 Z hn (kJ_b (by decide) hJ) (kJ_c (by decide) hC) hl hp hb ht ho (kJ_r J 20040 20040 (by decide) (by decide) (by decide)) (kJ_r J 20040 20045 (by decide) (by decide) (by decide)) (kJ_r J 20040 20041 (by decide) (by decide) (by decide)) (kJ_r J 20040 20046 (by decide) (by decide) (by decide)) (kJ_r J 20040 20042 (by decide) (by decide) (by decide)) (kJ_r J 20040 20047 (by decide) (by decide) (by decide)) (kJ_r J 20040 20043 (by decide) (by decide) (by decide)) (kJ_r J 20040 20048 (by decide) (by decide) (by decide)) he (nx _ (kJ_b (by decide) hJ) (kJ_c (by decide) hC)))
          · exact tr (kJ J 20040) (kJ_out J 20040) (pK4_3_k199 Z hn (kJ_b (by decide) hJ) (kJ_c (by decide) hC) hl hp hb ht ho (kJ_r J 20040 20040 (by decide) (by decide) (by decide)) (kJ_r J 20040 20045 (by decide) (by decide) (by decide)) (kJ_r J 20040 20041 (by decide) (by decide) (by decide)) (kJ_r J 20040 20046 (by decide) (by decide) (by decide)) (kJ_r J 20040 20042 (by decide) (by decide) (by decide)) (kJ_r J 20040 20047 (by decide) (by decide) (by decide)) (kJ_r J 20040 20043 (by decide) (by decide) (by decide)) (kJ_r J 20040 20048 (by decide) (by decide) (by decide)) he (nx _ (kJ_b (by decide) hJ) (kJ_c (by decide) hC)))
theorem hK4_2 (Z : lw_W sv mt xs L lam dd) (hn : lx_nv xs L = 4) (hl : lc_l lam) (hL : (lam 0).toNatClampNeg ≤ 1000) (hcar : ∀ J, lb_ok xs L J → lc_ok xs L J → lk_tk xs L 2 = true → lk_x xs L 2 / 3 % 2 = 1 → ∃ J', (∀ i, i < 20030 ∨ 20030 + 10 ≤ i → J i = J' i) ∧ ∀ α, sg_ct sv mt 35 (lx_r xs L J', lam, α) kT4_2) (nx : ∀ J, lb_ok xs L J → lc_ok xs L J → lw_P sv mt xs L J lam dd n0 s0 Q 1326 l_K4_3 g_K4_3 386 2650) (J : Nat → Int32) (hJ : lb_ok xs L J) (hC : lc_ok xs L J) : lw_P sv mt xs L J lam dd n0 s0 Q 1326 l_K4_2 g_K4_2 381 2637 := by
  have tr : ∀ J' : Nat → Int32, (∀ i, i < 20030 ∨ 20030 + 10 ≤ i → J i = J' i) → lw_P sv mt xs L J' lam dd n0 s0 Q 1326 l_K4_2 g_K4_2 381 2637 → lw_P sv mt xs L J lam dd n0 s0 Q 1326 l_K4_2 g_K4_2 381 2637 := fun J' h P => lw_P_J (lo := 20030) (hi := 20030 + 10) h (by decide) hL (by decide +kernel) (by decide +kernel) P
  by_cases hb : lk_x xs L 2 % 3 = 0
  · by_cases ht : lk_tk xs L 2 = true
    · rcases (by omega : lk_x xs L 2 / 3 % 2 = 0 ∨ lk_x xs L 2 / 3 % 2 = 1) with ho | ho
      · by_cases hp : lk_np xs L 2 = 1
        · by_cases he : lk_ns xs L 3 = lk_np xs L 3
          · exact tr (kJ J 20030) (kJ_out J 20030) (pK4_2_k175 Z hn (kJ_b (by decide) hJ) (kJ_c (by decide) hC) hl hp hb ht ho (kJ_r J 20030 20030 (by decide) (by decide) (by decide)) (kJ_r J 20030 20035 (by decide) (by decide) (by decide)) (kJ_r J 20030 20031 (by decide) (by decide) (by decide)) (kJ_r J 20030 20036 (by decide) (by decide) (by decide)) (kJ_r J 20030 20032 (by decide) (by decide) (by decide)) (kJ_r J 20030 20037 (by decide) (by decide) (by decide)) (kJ_r J 20030 20033 (by decide) (by decide) (by decide)) (kJ_r J 20030 20038 (by decide) (by decide) (by decide)) he (nx _ (kJ_b (by decide) hJ) (kJ_c (by decide) hC)))
          · exact tr (kJ J 20030) (kJ_out J 20030) (pK4_2_k174 Z hn (kJ_b (by decide) hJ) (kJ_c (by decide) hC) hl hp hb ht ho (kJ_r J 20030 20030 (by decide) (by decide) (by decide)) (kJ_r J 20030 20035 (by decide) (by decide) (by decide)) (kJ_r J 20030 20031 (by decide) (by decide) (by decide)) (kJ_r J 20030 20036 (by decide) (by decide) (by decide)) (kJ_r J 20030 20032 (by decide) (by decide) (by decide)) (kJ_r J 20030 20037 (by decide) (by decide) (by decide)) (kJ_r J 20030 20033 (by decide) (by decide) (by decide)) (kJ_r J 20030 20038 (by decide) (by decide) (by decide)) he (nx _ (kJ_b (by decide) hJ) (kJ_c (by decide) hC)))
        · by_cases he : lk_ns xs L 3 = lk_np xs L 3
          · exact tr (kJ J 20030) (kJ_out J 20030) (pK4_2_k189 Z hn (kJ_b (by decide) hJ) (kJ_c (by decide) hC) hl hp hb ht ho (kJ_r J 20030 20030 (by decide) (by decide) (by decide)) (kJ_r J 20030 20035 (by decide) (by decide) (by decide)) (kJ_r J 20030 20031 (by decide) (by decide) (by decide)) (kJ_r J 20030 20036 (by decide) (by decide) (by decide)) (kJ_r J 20030 20032 (by decide) (by decide) (by decide)) (kJ_r J 20030 20037 (by decide) (by decide) (by decide)) (kJ_r J 20030 20033 (by decide) (by decide) (by decide)) (kJ_r J 20030 20038 (by decide) (by decide) (by decide)) he (nx _ (kJ_b (by decide) hJ) (kJ_c (by decide) hC)))
          · exact tr (kJ J 20030) (kJ_out J 20030) (pK4_2_k188 Z hn (kJ_b (by decide) hJ) (kJ_c (by decide) hC) hl hp hb ht ho (kJ_r J 20030 20030 (by decide) (by decide) (by decide)) (kJ_r J 20030 20035 (by decide) (by decide) (by decide)) (kJ_r J 20030 20031 (by decide) (by decide) (by decide)) (kJ_r J 20030 20036 (by decide) (by decide) (by decide)) (kJ_r J 20030 20032 (by decide) (by decide) (by decide)) (kJ_r J 20030 20037 (by decide) (by decide) (by decide)) (kJ_r J 20030 20033 (by decide) (by decide) (by decide)) (kJ_r J 20030 20038 (by decide) (by decide) (by decide)) he (nx _ (kJ_b (by decide) hJ) (kJ_c (by decide) hC)))
      · by_cases hp : lk_np xs L 2 = 1
        · obtain ⟨J', h1, h2⟩ := hcar J hJ hC ht ho
          have hJ' : lb_ok xs L J' := fun i a b => by rw [← h1 i (by omega)]; exact hJ i a b
          have hC' : lc_ok xs L J' := fun i a b => by rw [← h1 i (by omega)]; exact hC i a b
          exact tr J' h1 (pK4_2_k176 Z hn hJ' hC' hl hp hb ht ho h2 (nx J' hJ' hC'))
        · obtain ⟨J', h1, h2⟩ := hcar J hJ hC ht ho
          have hJ' : lb_ok xs L J' := fun i a b => by rw [← h1 i (by omega)]; exact hJ i a b
          have hC' : lc_ok xs L J' := fun i a b => by rw [← h1 i (by omega)]; exact hC i a b
          exact tr J' h1 (pK4_2_k190 Z hn hJ' hC' hl hp hb ht ho h2 (nx J' hJ' hC'))
    · rcases (by omega : lk_x xs L 2 / 3 % 2 = 0 ∨ lk_x xs L 2 / 3 % 2 = 1) with ho | ho
      · by_cases hp : lk_np xs L 2 = 1
        · exfalso
          have hq := lk_np_lt xs L 2
          have := tk_b0 hb ht; omega
        · by_cases he : lk_ns xs L 3 = lk_np xs L 3
          · exact tr (kJ J 20030) (kJ_out J 20030) (pK4_2_k185 Z hn (kJ_b (by decide) hJ) (kJ_c (by decide) hC) hl hp hb ht ho (kJ_r J 20030 20030 (by decide) (by decide) (by decide)) (kJ_r J 20030 20035 (by decide) (by decide) (by decide)) (kJ_r J 20030 20031 (by decide) (by decide) (by decide)) (kJ_r J 20030 20036 (by decide) (by decide) (by decide)) (kJ_r J 20030 20032 (by decide) (by decide) (by decide)) (kJ_r J 20030 20037 (by decide) (by decide) (by decide)) (kJ_r J 20030 20033 (by decide) (by decide) (by decide)) (kJ_r J 20030 20038 (by decide) (by decide) (by decide)) he (nx _ (kJ_b (by decide) hJ) (kJ_c (by decide) hC)))
          · exact tr (kJ J 20030) (kJ_out J 20030) (pK4_2_k184 Z hn (kJ_b (by decide) hJ) (kJ_c (by decide) hC) hl hp hb ht ho (kJ_r J 20030 20030 (by decide) (by decide) (by decide)) (kJ_r J 20030 20035 (by decide) (by decide) (by decide)) (kJ_r J 20030 20031 (by decide) (by decide) (by decide)) (kJ_r J 20030 20036 (by decide) (by decide) (by decide)) (kJ_r J 20030 20032 (by decide) (by decide) (by decide)) (kJ_r J 20030 20037 (by decide) (by decide) (by decide)) (kJ_r J 20030 20033 (by decide) (by decide) (by decide)) (kJ_r J 20030 20038 (by decide) (by decide) (by decide)) he (nx _ (kJ_b (by decide) hJ) (kJ_c (by decide) hC)))
      · by_cases hp : lk_np xs L 2 = 1
        · exfalso
          have hq := lk_np_lt xs L 2
          have := tk_b0 hb ht; omega
        · by_cases he : lk_ns xs L 3 = lk_np xs L 3
          · exact tr (kJ J 20030) (kJ_out J 20030) (pK4_2_k187 Z hn (kJ_b (by decide) hJ) (kJ_c (by decide) hC) hl hp hb ht ho (kJ_r J 20030 20030 (by decide) (by decide) (by decide)) (kJ_r J 20030 20035 (by decide) (by decide) (by decide)) (kJ_r J 20030 20031 (by decide) (by decide) (by decide)) (kJ_r J 20030 20036 (by decide) (by decide) (by decide)) (kJ_r J 20030 20032 (by decide) (by decide) (by decide)) (kJ_r J 20030 20037 (by decide) (by decide) (by decide)) (kJ_r J 20030 20033 (by decide) (by decide) (by decide)) (kJ_r J 20030 20038 (by decide) (by decide) (by decide)) he (nx _ (kJ_b (by decide) hJ) (kJ_c (by decide) hC)))
          · exact tr (kJ J 20030) (kJ_out J 20030) (pK4_2_k186 Z hn (kJ_b (by decide) hJ) (kJ_c (by decide) hC) hl hp hb ht ho (kJ_r J 20030 20030 (by decide) (by decide) (by decide)) (kJ_r J 20030 20035 (by decide) (by decide) (by decide)) (kJ_r J 20030 20031 (by decide) (by decide) (by decide)) (kJ_r J 20030 20036 (by decide) (by decide) (by decide)) (kJ_r J 20030 20032 (by decide) (by decide) (by decide)) (kJ_r J 20030 20037 (by decide) (by decide) (by decide)) (kJ_r J 20030 20033 (by decide) (by decide) (by decide)) (kJ_r J 20030 20038 (by decide) (by decide) (by decide)) he (nx _ (kJ_b (by decide) hJ) (kJ_c (by decide) hC)))
  · by_cases ht : lk_tk xs L 2 = true
    · rcases (by omega : lk_x xs L 2 / 3 % 2 = 0 ∨ lk_x xs L 2 / 3 % 2 = 1) with ho | ho
      · by_cases hp : lk_np xs L 2 = 1
        · by_cases he : lk_ns xs L 3 = lk_np xs L 3
          · exact tr (kJ J 20030) (kJ_out J 20030) (pK4_2_k172 Z hn (kJ_b (by decide) hJ) (kJ_c (by decide) hC) hl hp hb ht ho (kJ_r J 20030 20030 (by decide) (by decide) (by decide)) (kJ_r J 20030 20035 (by decide) (by decide) (by decide)) (kJ_r J 20030 20031 (by decide) (by decide) (by decide)) (kJ_r J 20030 20036 (by decide) (by decide) (by decide)) (kJ_r J 20030 20032 (by decide) (by decide) (by decide)) (kJ_r J 20030 20037 (by decide) (by decide) (by decide)) (kJ_r J 20030 20033 (by decide) (by decide) (by decide)) (kJ_r J 20030 20038 (by decide) (by decide) (by decide)) he (nx _ (kJ_b (by decide) hJ) (kJ_c (by decide) hC)))
          · exact tr (kJ J 20030) (kJ_out J 20030) (pK4_2_k171 Z hn (kJ_b (by decide) hJ) (kJ_c (by decide) hC) hl hp hb ht ho (kJ_r J 20030 20030 (by decide) (by decide) (by decide)) (kJ_r J 20030 20035 (by decide) (by decide) (by decide)) (kJ_r J 20030 20031 (by decide) (by decide) (by decide)) (kJ_r J 20030 20036 (by decide) (by decide) (by decide)) (kJ_r J 20030 20032 (by decide) (by decide) (by decide)) (kJ_r J 20030 20037 (by decide) (by decide) (by decide)) (kJ_r J 20030 20033 (by decide) (by decide) (by decide)) (kJ_r J 20030 20038 (by decide) (by decide) (by decide)) he (nx _ (kJ_b (by decide) hJ) (kJ_c (by decide) hC)))
        · by_cases he : lk_ns xs L 3 = lk_np xs L 3
          · exact tr (kJ J 20030) (kJ_out J 20030) (pK4_2_k182 Z hn (kJ_b (by decide) hJ) (kJ_c (by decide) hC) hl hp hb ht ho (kJ_r J 20030 20030 (by decide) (by decide) (by decide)) (kJ_r J 20030 20035 (by decide) (by decide) (by decide)) (kJ_r J 20030 20031 (by decide) (by decide) (by decide)) (kJ_r J 20030 20036 (by decide) (by decide) (by decide)) (kJ_r J 20030 20032 (by decide) (by decide) (by decide)) (kJ_r J 20030 20037 (by decide) (by decide) (by decide)) (kJ_r J 20030 20033 (by decide) (by decide) (by decide)) (kJ_r J 20030 20038 (by decide) (by decide) (by decide)) he (nx _ (kJ_b (by decide) hJ) (kJ_c (by decide) hC)))
          · exact tr (kJ J 20030) (kJ_out J 20030) (pK4_2_k181 Z hn (kJ_b (by decide) hJ) (kJ_c (by decide) hC) hl hp hb ht ho (kJ_r J 20030 20030 (by decide) (by decide) (by decide)) (kJ_r J 20030 20035 (by decide) (by decide) (by decide)) (kJ_r J 20030 20031 (by decide) (by decide) (by decide)) (kJ_r J 20030 20036 (by decide) (by decide) (by decide)) (kJ_r J 20030 20032 (by decide) (by decide) (by decide)) (kJ_r J 20030 20037 (by decide) (by decide) (by decide)) (kJ_r J 20030 20033 (by decide) (by decide) (by decide)) (kJ_r J 20030 20038 (by decide) (by decide) (by decide)) he (nx _ (kJ_b (by decide) hJ) (kJ_c (by decide) hC)))
      · by_cases hp : lk_np xs L 2 = 1
        · obtain ⟨J', h1, h2⟩ := hcar J hJ hC ht ho
          have hJ' : lb_ok xs L J' := fun i a b => by rw [← h1 i (by omega)]; exact hJ i a b
          have hC' : lc_ok xs L J' := fun i a b => by rw [← h1 i (by omega)]; exact hC i a b
          exact tr J' h1 (pK4_2_k173 Z hn hJ' hC' hl hp hb ht ho h2 (nx J' hJ' hC'))
        · obtain ⟨J', h1, h2⟩ := hcar J hJ hC ht ho
          have hJ' : lb_ok xs L J' := fun i a b => by rw [← h1 i (by omega)]; exact hJ i a b
          have hC' : lc_ok xs L J' := fun i a b => by rw [← h1 i (by omega)]; exact hC i a b
          exact tr J' h1 (pK4_2_k183 Z hn hJ' hC' hl hp hb ht ho h2 (nx J' hJ' hC'))
    · rcases (by omega : lk_x xs L 2 / 3 % 2 = 0 ∨ lk_x xs L 2 / 3 % 2 = 1) with ho | ho
      · by_cases hp : lk_np xs L 2 = 1
        · exfalso
          have hq := lk_np_lt xs L 2
          have := tk_f0 hb ht; omega
        · by_cases he : lk_ns xs L 3 = lk_np xs L 3
          · exact tr (kJ J 20030) (kJ_out J 20030) (pK4_2_k178 Z hn (kJ_b (by decide) hJ) (kJ_c (by decide) hC) hl hp hb ht ho (kJ_r J 20030 20030 (by decide) (by decide) (by decide)) (kJ_r J 20030 20035 (by decide) (by decide) (by decide)) (kJ_r J 20030 20031 (by decide) (by decide) (by decide)) (kJ_r J 20030 20036 (by decide) (by decide) (by decide)) (kJ_r J 20030 20032 (by decide) (by decide) (by decide)) (kJ_r J 20030 20037 (by decide) (by decide) (by decide)) (kJ_r J 20030 20033 (by decide) (by decide) (by decide)) (kJ_r J 20030 20038 (by decide) (by decide) (by decide)) he (nx _ (kJ_b (by decide) hJ) (kJ_c (by decide) hC)))
          · exact tr (kJ J 20030) (kJ_out J 20030) (pK4_2_k177 Z hn (kJ_b (by decide) hJ) (kJ_c (by decide) hC) hl hp hb ht ho (kJ_r J 20030 20030 (by decide) (by decide) (by decide)) (kJ_r J 20030 20035 (by decide) (by decide) (by decide)) (kJ_r J 20030 20031 (by decide) (by decide) (by decide)) (kJ_r J 20030 20036 (by decide) (by decide) (by decide)) (kJ_r J 20030 20032 (by decide) (by decide) (by decide)) (kJ_r J 20030 20037 (by decide) (by decide) (by decide)) (kJ_r J 20030 20033 (by decide) (by decide) (by decide)) (kJ_r J 20030 20038 (by decide) (by decide) (by decide)) he (nx _ (kJ_b (by decide) hJ) (kJ_c (by decide) hC)))
      · by_cases hp : lk_np xs L 2 = 1
        · exfalso
          have hq := lk_np_lt xs L 2
          have := tk_f0 hb ht; omega
        · by_cases he : lk_ns xs L 3 = lk_np xs L 3
          · exact tr (kJ J 20030) (kJ_out J 20030) (pK4_2_k180 Z hn (kJ_b (by decide) hJ) (kJ_c (by decide) hC) hl hp hb ht ho (kJ_r J 20030 20030 (by decide) (by decide) (by decide)) (kJ_r J 20030 20035 (by decide) (by decide) (by decide)) (kJ_r J 20030 20031 (by decide) (by decide) (by decide)) (kJ_r J 20030 20036 (by decide) (by decide) (by decide)) (kJ_r J 20030 20032 (by decide) (by decide) (by decide)) (kJ_r J 20030 20037 (by decide) (by decide) (by decide)) (kJ_r J 20030 20033 (by decide) (by decide) (by decide)) (kJ_r J 20030 20038 (by decide) (by decide) (by decide)) he (nx _ (kJ_b (by decide) hJ) (kJ_c (by decide) hC)))
          · exact tr (kJ J 20030) (kJ_out J 20030) (pK4_2_k179 Z hn (kJ_b (by decide) hJ) (kJ_c (by decide) hC) hl hp hb ht ho (kJ_r J 20030 20030 (by decide) (by decide) (by decide)) (kJ_r J 20030 20035 (by decide) (by decide) (by decide)) (kJ_r J 20030 20031 (by decide) (by decide) (by decide)) (kJ_r J 20030 20036 (by decide) (by decide) (by decide)) (kJ_r J 20030 20032 (by decide) (by decide) (by decide)) (kJ_r J 20030 20037 (by decide) (by decide) (by decide)) (kJ_r J 20030 20033 (by decide) (by decide) (by decide)) (kJ_r J 20030 20038 (by decide) (by decide) (by decide)) he (nx _ (kJ_b (by decide) hJ) (kJ_c (by decide) hC)))
theorem hK4_1 (Z : lw_W sv mt xs L lam dd) (hn : lx_nv xs L = 4) (hl : lc_l lam) (hL : (lam 0).toNatClampNeg ≤ 1000) (hcar : ∀ J, lb_ok xs L J → lc_ok xs L J → lk_tk xs L 1 = true → lk_x xs L 1 / 3 % 2 = 1 → ∃ J', (∀ i, i < 20020 ∨ 20020 + 10 ≤ i → J i = J' i) ∧ ∀ α, sg_ct sv mt 35 (lx_r xs L J', lam, α) kT4_1) (nx : ∀ J, lb_ok xs L J → lc_ok xs L J → lw_P sv mt xs L J lam dd n0 s0 Q 1326 l_K4_2 g_K4_2 381 2637) (J : Nat → Int32) (hJ : lb_ok xs L J) (hC : lc_ok xs L J) : lw_P sv mt xs L J lam dd n0 s0 Q 1326 l_K4_1 g_K4_1 376 2624 := by
  have tr : ∀ J' : Nat → Int32, (∀ i, i < 20020 ∨ 20020 + 10 ≤ i → J i = J' i) → lw_P sv mt xs L J' lam dd n0 s0 Q 1326 l_K4_1 g_K4_1 376 2624 → lw_P sv mt xs L J lam dd n0 s0 Q 1326 l_K4_1 g_K4_1 376 2624 := fun J' h P => lw_P_J (lo := 20020) (hi := 20020 + 10) h (by decide) hL (by decide +kernel) (by decide +kernel) P
  by_cases hb : lk_x xs L 1 % 3 = 0
  · by_cases ht : lk_tk xs L 1 = true
    · rcases (by omega : lk_x xs L 1 / 3 % 2 = 0 ∨ lk_x xs L 1 / 3 % 2 = 1) with ho | ho
      · by_cases hp : lk_np xs L 1 = 1
        · by_cases he : lk_ns xs L 2 = lk_np xs L 2
          · exact tr (kJ J 20020) (kJ_out J 20020) (pK4_1_k155 Z hn (kJ_b (by decide) hJ) (kJ_c (by decide) hC) hl hp hb ht ho (kJ_r J 20020 20020 (by decide) (by decide) (by decide)) (kJ_r J 20020 20025 (by decide) (by decide) (by decide)) (kJ_r J 20020 20021 (by decide) (by decide) (by decide)) (kJ_r J 20020 20026 (by decide) (by decide) (by decide)) (kJ_r J 20020 20022 (by decide) (by decide) (by decide)) (kJ_r J 20020 20027 (by decide) (by decide) (by decide)) (kJ_r J 20020 20023 (by decide) (by decide) (by decide)) (kJ_r J 20020 20028 (by decide) (by decide) (by decide)) he (nx _ (kJ_b (by decide) hJ) (kJ_c (by decide) hC)))
          · exact tr (kJ J 20020) (kJ_out J 20020) (pK4_1_k154 Z hn (kJ_b (by decide) hJ) (kJ_c (by decide) hC) hl hp hb ht ho (kJ_r J 20020 20020 (by decide) (by decide) (by decide)) (kJ_r J 20020 20025 (by decide) (by decide) (by decide)) (kJ_r J 20020 20021 (by decide) (by decide) (by decide)) (kJ_r J 20020 20026 (by decide) (by decide) (by decide)) (kJ_r J 20020 20022 (by decide) (by decide) (by decide)) (kJ_r J 20020 20027 (by decide) (by decide) (by decide)) (kJ_r J 20020 20023 (by decide) (by decide) (by decide)) (kJ_r J 20020 20028 (by decide) (by decide) (by decide)) he (nx _ (kJ_b (by decide) hJ) (kJ_c (by decide) hC)))
        · by_cases he : lk_ns xs L 2 = lk_np xs L 2
          · exact tr (kJ J 20020) (kJ_out J 20020) (pK4_1_k169 Z hn (kJ_b (by decide) hJ) (kJ_c (by decide) hC) hl hp hb ht ho (kJ_r J 20020 20020 (by decide) (by decide) (by decide)) (kJ_r J 20020 20025 (by decide) (by decide) (by decide)) (kJ_r J 20020 20021 (by decide) (by decide) (by decide)) (kJ_r J 20020 20026 (by decide) (by decide) (by decide)) (kJ_r J 20020 20022 (by decide) (by decide) (by decide)) (kJ_r J 20020 20027 (by decide) (by decide) (by decide)) (kJ_r J 20020 20023 (by decide) (by decide) (by decide)) (kJ_r J 20020 20028 (by decide) (by decide) (by decide)) he (nx _ (kJ_b (by decide) hJ) (kJ_c (by decide) hC)))
          · exact tr (kJ J 20020) (kJ_out J 20020) (pK4_1_k168 Z hn (kJ_b (by decide) hJ) (kJ_c (by decide) hC) hl hp hb ht ho (kJ_r J 20020 20020 (by decide) (by decide) (by decide)) (kJ_r J 20020 20025 (by decide) (by decide) (by decide)) (kJ_r J 20020 20021 (by decide) (by decide) (by decide)) (kJ_r J 20020 20026 (by decide) (by decide) (by decide)) (kJ_r J 20020 20022 (by decide) (by decide) (by decide)) (kJ_r J 20020 20027 (by decide) (by decide) (by decide)) (kJ_r J 20020 20023 (by decide) (by decide) (by decide)) (kJ_r J 20020 20028 (by decide) (by decide) (by decide)) he (nx _ (kJ_b (by decide) hJ) (kJ_c (by decide) hC)))
      · by_cases hp : lk_np xs L 1 = 1
        · obtain ⟨J', h1, h2⟩ := hcar J hJ hC ht ho
          have hJ' : lb_ok xs L J' := fun i a b => by rw [← h1 i (by omega)]; exact hJ i a b
          have hC' : lc_ok xs L J' := fun i a b => by rw [← h1 i (by omega)]; exact hC i a b
          exact tr J' h1 (pK4_1_k156 Z hn hJ' hC' hl hp hb ht ho h2 (nx J' hJ' hC'))
        · obtain ⟨J', h1, h2⟩ := hcar J hJ hC ht ho
          have hJ' : lb_ok xs L J' := fun i a b => by rw [← h1 i (by omega)]; exact hJ i a b
          have hC' : lc_ok xs L J' := fun i a b => by rw [← h1 i (by omega)]; exact hC i a b
          exact tr J' h1 (pK4_1_k170 Z hn hJ' hC' hl hp hb ht ho h2 (nx J' hJ' hC'))
    · rcases (by omega : lk_x xs L 1 / 3 % 2 = 0 ∨ lk_x xs L 1 / 3 % 2 = 1) with ho | ho
      · by_cases hp : lk_np xs L 1 = 1
        · exfalso
          have hq := lk_np_lt xs L 1
          have := tk_b0 hb ht; omega
        · by_cases he : lk_ns xs L 2 = lk_np xs L 2
          · exact tr (kJ J 20020) (kJ_out J 20020) (pK4_1_k165 Z hn (kJ_b (by decide) hJ) (kJ_c (by decide) hC) hl hp hb ht ho (kJ_r J 20020 20020 (by decide) (by decide) (by decide)) (kJ_r J 20020 20025 (by decide) (by decide) (by decide)) (kJ_r J 20020 20021 (by decide) (by decide) (by decide)) (kJ_r J 20020 20026 (by decide) (by decide) (by decide)) (kJ_r J 20020 20022 (by decide) (by decide) (by decide)) (kJ_r J 20020 20027 (by decide) (by decide) (by decide)) (kJ_r J 20020 20023 (by decide) (by decide) (by decide)) (kJ_r J 20020 20028 (by decide) (by decide) (by decide)) he (nx _ (kJ_b (by decide) hJ) (kJ_c (by decide) hC)))
          · exact tr (kJ J 20020) (kJ_out J 20020) (pK4_1_k164 Z hn (kJ_b (by decide) hJ) (kJ_c (by decide) hC) hl hp hb ht ho (kJ_r J 20020 20020 (by decide) (by decide) (by decide)) (kJ_r J 20020 20025 (by decide) (by decide) (by decide)) (kJ_r J 20020 20021 (by decide) (by decide) (by decide)) (kJ_r J 20020 20026 (by decide) (by decide) (by decide)) (kJ_r J 20020 20022 (by decide) (by decide) (by decide)) (kJ_r J 20020 20027 (by decide) (by decide) (by decide)) (kJ_r J 20020 20023 (by decide) (by decide) (by decide)) (kJ_r J 20020 20028 (by decide) (by decide) (by decide)) he (nx _ (kJ_b (by decide) hJ) (kJ_c (by decide) hC)))
      · by_cases hp : lk_np xs L 1 = 1
        · exfalso
          have hq := lk_np_lt xs L 1
          have := tk_b0 hb ht; omega
        · by_cases he : lk_ns xs L 2 = lk_np xs L 2
          · exact tr (kJ J 20020) (kJ_out J 20020) (pK4_1_k167 Z hn (kJ_b (by decide) hJ) (kJ_c (by decide) hC) hl hp hb ht ho (kJ_r J 20020 20020 (by decide) (by decide) (by decide)) (kJ_r J 20020 20025 (by decide) (by decide) (by decide)) (kJ_r J 20020 20021 (by decide) (by decide) (by decide)) (kJ_r J 20020 20026 (by decide) (by decide) (by decide)) (kJ_r J 20020 20022 (by decide) (by decide) (by decide)) (kJ_r J 20020 20027 (by decide) (by decide) (by decide)) (kJ_r J 20020 20023 (by decide) (by decide) (by decide)) (kJ_r J 20020 20028 (by decide) (by decide) (by decide)) he (nx _ (kJ_b (by decide) hJ) (kJ_c (by decide) hC)))
          · exact tr (kJ J 20020) (kJ_out J 20020) (pK4_1_k166 Z hn (kJ_b (by decide) hJ) (kJ_c (by decide) hC) hl hp hb ht ho (kJ_r J 20020 20020 (by decide) (by decide) (by decide)) (kJ_r J 20020 20025 (by decide) (by decide) (by decide)) (kJ_r J 20020 20021 (by decide) (by decide) (by decide)) (kJ_r J 20020 20026 (by decide) (by decide) (by decide)) (kJ_r J 20020 20022 (by decide) (by decide) (by decide)) (kJ_r J 20020 20027 (by decide) (by decide) (by decide)) (kJ_r J 20020 20023 (by decide) (by decide) (by decide)) (kJ_r J 20020 20028 (by decide) (by decide) (by decide)) he (nx _ (kJ_b (by decide) hJ) (kJ_c (by decide) hC)))
  · by_cases ht : lk_tk xs L 1 = true
    · rcases (by omega : lk_x xs L 1 / 3 % 2 = 0 ∨ lk_x xs L 1 / 3 % 2 = 1) with ho | ho
      · by_cases hp : lk_np xs L 1 = 1
        · by_cases he : lk_ns xs L 2 = lk_np xs L 2
          · exact tr (kJ J 20020) (kJ_out J 20020) (pK4_1_k152 Z hn (kJ_b (by decide) hJ) (kJ_c (by decide) hC) hl hp hb ht ho (kJ_r J 20020 20020 (by decide) (by decide) (by decide)) (kJ_r J 20020 20025 (by decide) (by decide) (by decide)) (kJ_r J 20020 20021 (by decide) (by decide) (by decide)) (kJ_r J 20020 20026 (by decide) (by decide) (by decide)) (kJ_r J 20020 20022 (by decide) (by decide) (by decide)) (kJ_r J 20020 20027 (by decide) (by decide) (by decide)) (kJ_r J 20020 20023 (by decide) (by decide) (by decide)) (kJ_r J 20020 20028 (by decide) (by decide) (by decide)) he (nx _ (kJ_b (by decide) hJ) (kJ_c (by decide) hC)))
          · exact tr (kJ J 20020) (kJ_out J 20020) (pK4_1_k151 Z hn (kJ_b (by decide) hJ) (kJ_c (by decide) hC) hl hp hb ht ho (kJ_r J 20020 20020 (by decide) (by decide) (by decide)) (kJ_r J 20020 20025 (by decide) (by decide) (by decide)) (kJ_r J 20020 20021 (by decide) (by decide) (by decide)) (kJ_r J 20020 20026 (by decide) (by decide) (by decide)) (kJ_r J 20020 20022 (by decide) (by decide) (by decide)) (kJ_r J 20020 20027 (by decide) (by decide) (by decide)) (kJ_r J 20020 20023 (by decide) (by decide) (by decide)) (kJ_r J 20020 20028 (by decide) (by decide) (by decide)) he (nx _ (kJ_b (by decide) hJ) (kJ_c (by decide) hC)))
        · by_cases he : lk_ns xs L 2 = lk_np xs L 2
          · exact tr (kJ J 20020) (kJ_out J 20020) (pK4_1_k162 Z hn (kJ_b (by decide) hJ) (kJ_c (by decide) hC) hl hp hb ht ho (kJ_r J 20020 20020 (by decide) (by decide) (by decide)) (kJ_r J 20020 20025 (by decide) (by decide) (by decide)) (kJ_r J 20020 20021 (by decide) (by decide) (by decide)) (kJ_r J 20020 20026 (by decide) (by decide) (by decide)) (kJ_r J 20020 20022 (by decide) (by decide) (by decide)) (kJ_r J 20020 20027 (by decide) (by decide) (by decide)) (kJ_r J 20020 20023 (by decide) (by decide) (by decide)) (kJ_r J 20020 20028 (by decide) (by decide) (by decide)) he (nx _ (kJ_b (by decide) hJ) (kJ_c (by decide) hC)))
          · exact tr (kJ J 20020) (kJ_out J 20020) (pK4_1_k161 Z hn (kJ_b (by decide) hJ) (kJ_c (by decide) hC) hl hp hb ht ho (kJ_r J 20020 20020 (by decide) (by decide) (by decide)) (kJ_r J 20020 20025 (by decide) (by decide) (by decide)) (kJ_r J 20020 20021 (by decide) (by decide) (by decide)) (kJ_r J 20020 20026 (by decide) (by decide) (by decide)) (kJ_r J 20020 20022 (by decide) (by decide) (by decide)) (kJ_r J 20020 20027 (by decide) (by decide) (by decide)) (kJ_r J 20020 20023 (by decide) (by decide) (by decide)) (kJ_r J 20020 20028 (by decide) (by decide) (by decide)) he (nx _ (kJ_b (by decide) hJ) (kJ_c (by decide) hC)))
      · by_cases hp : lk_np xs L 1 = 1
        · obtain ⟨J', h1, h2⟩ := hcar J hJ hC ht ho
          have hJ' : lb_ok xs L J' := fun i a b => by rw [← h1 i (by omega)]; exact hJ i a b
          have hC' : lc_ok xs L J' := fun i a b => by rw [← h1 i (by omega)]; exact hC i a b
          exact tr J' h1 (pK4_1_k153 Z hn hJ' hC' hl hp hb ht ho h2 (nx J' hJ' hC'))
        · obtain ⟨J', h1, h2⟩ := hcar J hJ hC ht ho
          have hJ' : lb_ok xs L J' := fun i a b => by rw [← h1 i (by omega)]; exact hJ i a b
          have hC' : lc_ok xs L J' := fun i a b => by rw [← h1 i (by omega)]; exact hC i a b
          exact tr J' h1 (pK4_1_k163 Z hn hJ' hC' hl hp hb ht ho h2 (nx J' hJ' hC'))
    · rcases (by omega : lk_x xs L 1 / 3 % 2 = 0 ∨ lk_x xs L 1 / 3 % 2 = 1) with ho | ho
      · by_cases hp : lk_np xs L 1 = 1
        · exfalso
          have hq := lk_np_lt xs L 1
          have := tk_f0 hb ht; omega
        · by_cases he : lk_ns xs L 2 = lk_np xs L 2
          · exact tr (kJ J 20020) (kJ_out J 20020) (pK4_1_k158 Z hn (kJ_b (by decide) hJ) (kJ_c (by decide) hC) hl hp hb ht ho (kJ_r J 20020 20020 (by decide) (by decide) (by decide)) (kJ_r J 20020 20025 (by decide) (by decide) (by decide)) (kJ_r J 20020 20021 (by decide) (by decide) (by decide)) (kJ_r J 20020 20026 (by decide) (by decide) (by decide)) (kJ_r J 20020 20022 (by decide) (by decide) (by decide)) (kJ_r J 20020 20027 (by decide) (by decide) (by decide)) (kJ_r J 20020 20023 (by decide) (by decide) (by decide)) (kJ_r J 20020 20028 (by decide) (by decide) (by decide)) he (nx _ (kJ_b (by decide) hJ) (kJ_c (by decide) hC)))
          · exact tr (kJ J 20020) (kJ_out J 20020) (pK4_1_k157 Z hn (kJ_b (by decide) hJ) (kJ_c (by decide) hC) hl hp hb ht ho (kJ_r J 20020 20020 (by decide) (by decide) (by decide)) (kJ_r J 20020 20025 (by decide) (by decide) (by decide)) (kJ_r J 20020 20021 (by decide) (by decide) (by decide)) (kJ_r J 20020 20026 (by decide) (by decide) (by decide)) (kJ_r J 20020 20022 (by decide) (by decide) (by decide)) (kJ_r J 20020 20027 (by decide) (by decide) (by decide)) (kJ_r J 20020 20023 (by decide) (by decide) (by decide)) (kJ_r J 20020 20028 (by decide) (by decide) (by decide)) he (nx _ (kJ_b (by decide) hJ) (kJ_c (by decide) hC)))
      · by_cases hp : lk_np xs L 1 = 1
        · exfalso
          have hq := lk_np_lt xs L 1
          have := tk_f0 hb ht; omega
        · by_cases he : lk_ns xs L 2 = lk_np xs L 2
          · exact tr (kJ J 20020) (kJ_out J 20020) (pK4_1_k160 Z hn (kJ_b (by decide) hJ) (kJ_c (by decide) hC) hl hp hb ht ho (kJ_r J 20020 20020 (by decide) (by decide) (by decide)) (kJ_r J 20020 20025 (by decide) (by decide) (by decide)) (kJ_r J 20020 20021 (by decide) (by decide) (by decide)) (kJ_r J 20020 20026 (by decide) (by decide) (by decide)) (kJ_r J 20020 20022 (by decide) (by decide) (by decide)) (kJ_r J 20020 20027 (by decide) (by decide) (by decide)) (kJ_r J 20020 20023 (by decide) (by decide) (by decide)) (kJ_r J 20020 20028 (by decide) (by decide) (by decide)) he (nx _ (kJ_b (by decide) hJ) (kJ_c (by decide) hC)))
          · exact tr (kJ J 20020) (kJ_out J 20020) (pK4_1_k159 Z hn (kJ_b (by decide) hJ) (kJ_c (by decide) hC) hl hp hb ht ho (kJ_r J 20020 20020 (by decide) (by decide) (by decide)) (kJ_r J 20020 20025 (by decide) (by decide) (by decide)) (kJ_r J 20020 20021 (by decide) (by decide) (by decide)) (kJ_r J 20020 20026 (by decide) (by decide) (by decide)) (kJ_r J 20020 20022 (by decide) (by decide) (by decide)) (kJ_r J 20020 20027 (by decide) (by decide) (by decide)) (kJ_r J 20020 20023 (by decide) (by decide) (by decide)) (kJ_r J 20020 20028 (by decide) (by decide) (by decide)) he (nx _ (kJ_b (by decide) hJ) (kJ_c (by decide) hC)))
theorem hK4_0 (Z : lw_W sv mt xs L lam dd) (hn : lx_nv xs L = 4) (hl : lc_l lam) (hL : (lam 0).toNatClampNeg ≤ 1000) (hcar : ∀ J, lb_ok xs L J → lc_ok xs L J → lk_tk xs L 0 = true → lk_x xs L 0 / 3 % 2 = 1 → ∃ J', (∀ i, i < 20010 ∨ 20010 + 10 ≤ i → J i = J' i) ∧ ∀ α, sg_ct sv mt 35 (lx_r xs L J', lam, α) kT4_0) (nx : ∀ J, lb_ok xs L J → lc_ok xs L J → lw_P sv mt xs L J lam dd n0 s0 Q 1326 l_K4_1 g_K4_1 376 2624) (J : Nat → Int32) (hJ : lb_ok xs L J) (hC : lc_ok xs L J) : lw_P sv mt xs L J lam dd n0 s0 Q 1326 l_K4_0 g_K4_0 371 2611 := by
  have tr : ∀ J' : Nat → Int32, (∀ i, i < 20010 ∨ 20010 + 10 ≤ i → J i = J' i) → lw_P sv mt xs L J' lam dd n0 s0 Q 1326 l_K4_0 g_K4_0 371 2611 → lw_P sv mt xs L J lam dd n0 s0 Q 1326 l_K4_0 g_K4_0 371 2611 := fun J' h P => lw_P_J (lo := 20010) (hi := 20010 + 10) h (by decide) hL (by decide +kernel) (by decide +kernel) P
  by_cases hb : lk_x xs L 0 % 3 = 0
  · by_cases ht : lk_tk xs L 0 = true
    · rcases (by omega : lk_x xs L 0 / 3 % 2 = 0 ∨ lk_x xs L 0 / 3 % 2 = 1) with ho | ho
      · exact tr (kJ J 20010) (kJ_out J 20010) (pK4_0_k149 Z hn (kJ_b (by decide) hJ) (kJ_c (by decide) hC) hl hb ht ho (kJ_r J 20010 20010 (by decide) (by decide) (by decide)) (kJ_r J 20010 20015 (by decide) (by decide) (by decide)) (kJ_r J 20010 20011 (by decide) (by decide) (by decide)) (kJ_r J 20010 20016 (by decide) (by decide) (by decide)) (kJ_r J 20010 20012 (by decide) (by decide) (by decide)) (kJ_r J 20010 20017 (by decide) (by decide) (by decide)) (kJ_r J 20010 20013 (by decide) (by decide) (by decide)) (kJ_r J 20010 20018 (by decide) (by decide) (by decide)) (nx _ (kJ_b (by decide) hJ) (kJ_c (by decide) hC)))
      · obtain ⟨J', h1, h2⟩ := hcar J hJ hC ht ho
        have hJ' : lb_ok xs L J' := fun i a b => by rw [← h1 i (by omega)]; exact hJ i a b
        have hC' : lc_ok xs L J' := fun i a b => by rw [← h1 i (by omega)]; exact hC i a b
        exact tr J' h1 (pK4_0_k150 Z hn hJ' hC' hl hb ht ho h2 (nx J' hJ' hC'))
    · rcases (by omega : lk_x xs L 0 / 3 % 2 = 0 ∨ lk_x xs L 0 / 3 % 2 = 1) with ho | ho
      · exfalso
        have e0 : lk_np xs L 0 = 1 := rfl
        have := tk_b0 hb ht; omega
      · exfalso
        have e0 : lk_np xs L 0 = 1 := rfl
        have := tk_b0 hb ht; omega
  · by_cases ht : lk_tk xs L 0 = true
    · rcases (by omega : lk_x xs L 0 / 3 % 2 = 0 ∨ lk_x xs L 0 / 3 % 2 = 1) with ho | ho
      · exact tr (kJ J 20010) (kJ_out J 20010) (pK4_0_k147 Z hn (kJ_b (by decide) hJ) (kJ_c (by decide) hC) hl hb ht ho (kJ_r J 20010 20010 (by decide) (by decide) (by decide)) (kJ_r J 20010 20015 (by decide) (by decide) (by decide)) (kJ_r J 20010 20011 (by decide) (by decide) (by decide)) (kJ_r J 20010 20016 (by decide) (by decide) (by decide)) (kJ_r J 20010 20012 (by decide) (by decide) (by decide)) (kJ_r J 20010 20017 (by decide) (by decide) (by decide)) (kJ_r J 20010 20013 (by decide) (by decide) (by decide)) (kJ_r J 20010 20018 (by decide) (by decide) (by decide)) (nx _ (kJ_b (by decide) hJ) (kJ_c (by decide) hC)))
      · obtain ⟨J', h1, h2⟩ := hcar J hJ hC ht ho
        have hJ' : lb_ok xs L J' := fun i a b => by rw [← h1 i (by omega)]; exact hJ i a b
        have hC' : lc_ok xs L J' := fun i a b => by rw [← h1 i (by omega)]; exact hC i a b
        exact tr J' h1 (pK4_0_k148 Z hn hJ' hC' hl hb ht ho h2 (nx J' hJ' hC'))
    · rcases (by omega : lk_x xs L 0 / 3 % 2 = 0 ∨ lk_x xs L 0 / 3 % 2 = 1) with ho | ho
      · exfalso
        have e0 : lk_np xs L 0 = 1 := rfl
        have := tk_f0 hb ht; omega
      · exfalso
        have e0 : lk_np xs L 0 = 1 := rfl
        have := tk_f0 hb ht; omega
theorem hK5_4 (Z : lw_W sv mt xs L lam dd) (hn : lx_nv xs L = 5) (hl : lc_l lam) (hL : (lam 0).toNatClampNeg ≤ 1000) (hcar : ∀ J, lb_ok xs L J → lc_ok xs L J → lk_tk xs L 4 = true → lk_x xs L 4 / 3 % 2 = 1 → ∃ J', (∀ i, i < 20050 ∨ 20050 + 10 ≤ i → J i = J' i) ∧ ∀ α, sg_ct sv mt 35 (lx_r xs L J', lam, α) kT5_4) (nx : ∀ J, lb_ok xs L J → lc_ok xs L J → lw_P sv mt xs L J lam dd n0 s0 Q 1326 l_K5_5 g_K5_5 450 3095) (J : Nat → Int32) (hJ : lb_ok xs L J) (hC : lc_ok xs L J) : lw_P sv mt xs L J lam dd n0 s0 Q 1326 l_K5_4 g_K5_4 445 3082 := by
  have tr : ∀ J' : Nat → Int32, (∀ i, i < 20050 ∨ 20050 + 10 ≤ i → J i = J' i) → lw_P sv mt xs L J' lam dd n0 s0 Q 1326 l_K5_4 g_K5_4 445 3082 → lw_P sv mt xs L J lam dd n0 s0 Q 1326 l_K5_4 g_K5_4 445 3082 := fun J' h P => lw_P_J (lo := 20050) (hi := 20050 + 10) h (by decide) hL (by decide +kernel) (by decide +kernel) P
  by_cases hb : lk_x xs L 4 % 3 = 0
  · by_cases ht : lk_tk xs L 4 = true
    · rcases (by omega : lk_x xs L 4 / 3 % 2 = 0 ∨ lk_x xs L 4 / 3 % 2 = 1) with ho | ho
      · by_cases hp : lk_np xs L 4 = 1
        · by_cases he : lk_ns xs L 5 = lk_np xs L 5
          · exact tr (kJ J 20050) (kJ_out J 20050) (pK5_4_k300 Z hn (kJ_b (by decide) hJ) (kJ_c (by decide) hC) hl hp hb ht ho (kJ_r J 20050 20050 (by decide) (by decide) (by decide)) (kJ_r J 20050 20055 (by decide) (by decide) (by decide)) (kJ_r J 20050 20051 (by decide) (by decide) (by decide)) (kJ_r J 20050 20056 (by decide) (by decide) (by decide)) (kJ_r J 20050 20052 (by decide) (by decide) (by decide)) (kJ_r J 20050 20057 (by decide) (by decide) (by decide)) (kJ_r J 20050 20053 (by decide) (by decide) (by decide)) (kJ_r J 20050 20058 (by decide) (by decide) (by decide)) he (nx _ (kJ_b (by decide) hJ) (kJ_c (by decide) hC)))
          · exact tr (kJ J 20050) (kJ_out J 20050) (pK5_4_k299 Z hn (kJ_b (by decide) hJ) (kJ_c (by decide) hC) hl hp hb ht ho (kJ_r J 20050 20050 (by decide) (by decide) (by decide)) (kJ_r J 20050 20055 (by decide) (by decide) (by decide)) (kJ_r J 20050 20051 (by decide) (by decide) (by decide)) (kJ_r J 20050 20056 (by decide) (by decide) (by decide)) (kJ_r J 20050 20052 (by decide) (by decide) (by decide)) (kJ_r J 20050 20057 (by decide) (by decide) (by decide)) (kJ_r J 20050 20053 (by decide) (by decide) (by decide)) (kJ_r J 20050 20058 (by decide) (by decide) (by decide)) he (nx _ (kJ_b (by decide) hJ) (kJ_c (by decide) hC)))
        · by_cases he : lk_ns xs L 5 = lk_np xs L 5
          · exact tr (kJ J 20050) (kJ_out J 20050) (pK5_4_k314 Z hn (kJ_b (by decide) hJ) (kJ_c (by decide) hC) hl hp hb ht ho (kJ_r J 20050 20050 (by decide) (by decide) (by decide)) (kJ_r J 20050 20055 (by decide) (by decide) (by decide)) (kJ_r J 20050 20051 (by decide) (by decide) (by decide)) (kJ_r J 20050 20056 (by decide) (by decide) (by decide)) (kJ_r J 20050 20052 (by decide) (by decide) (by decide)) (kJ_r J 20050 20057 (by decide) (by decide) (by decide)) (kJ_r J 20050 20053 (by decide) (by decide) (by decide)) (kJ_r J 20050 20058 (by decide) (by decide) (by decide)) he (nx _ (kJ_b (by decide) hJ) (kJ_c (by decide) hC)))
          · exact tr (kJ J 20050) (kJ_out J 20050) (pK5_4_k313 Z hn (kJ_b (by decide) hJ) (kJ_c (by decide) hC) hl hp hb ht ho (kJ_r J 20050 20050 (by decide) (by decide) (by decide)) (kJ_r J 20050 20055 (by decide) (by decide) (by decide)) (kJ_r J 20050 20051 (by decide) (by decide) (by decide)) (kJ_r J 20050 20056 (by decide) (by decide) (by decide)) (kJ_r J 20050 20052 (by decide) (by decide) (by decide)) (kJ_r J 20050 20057 (by decide) (by decide) (by decide)) (kJ_r J 20050 20053 (by decide) (by decide) (by decide)) (kJ_r J 20050 20058 (by decide) (by decide) (by decide)) he (nx _ (kJ_b (by decide) hJ) (kJ_c (by decide) hC)))
      · by_cases hp : lk_np xs L 4 = 1
        · obtain ⟨J', h1, h2⟩ := hcar J hJ hC ht ho
          have hJ' : lb_ok xs L J' := fun i a b => by rw [← h1 i (by omega)]; exact hJ i a b
          have hC' : lc_ok xs L J' := fun i a b => by rw [← h1 i (by omega)]; exact hC i a b
          exact tr J' h1 (pK5_4_k301 Z hn hJ' hC' hl hp hb ht ho h2 (nx J' hJ' hC'))
        · obtain ⟨J', h1, h2⟩ := hcar J hJ hC ht ho
          have hJ' : lb_ok xs L J' := fun i a b => by rw [← h1 i (by omega)]; exact hJ i a b
          have hC' : lc_ok xs L J' := fun i a b => by rw [← h1 i (by omega)]; exact hC i a b
          exact tr J' h1 (pK5_4_k315 Z hn hJ' hC' hl hp hb ht ho h2 (nx J' hJ' hC'))
    · rcases (by omega : lk_x xs L 4 / 3 % 2 = 0 ∨ lk_x xs L 4 / 3 % 2 = 1) with ho | ho
      · by_cases hp : lk_np xs L 4 = 1
        · exfalso
          have hq := lk_np_lt xs L 4
          have := tk_b0 hb ht; omega
        · by_cases he : lk_ns xs L 5 = lk_np xs L 5
          · exact tr (kJ J 20050) (kJ_out J 20050) (pK5_4_k310 Z hn (kJ_b (by decide) hJ) (kJ_c (by decide) hC) hl hp hb ht ho (kJ_r J 20050 20050 (by decide) (by decide) (by decide)) (kJ_r J 20050 20055 (by decide) (by decide) (by decide)) (kJ_r J 20050 20051 (by decide) (by decide) (by decide)) (kJ_r J 20050 20056 (by decide) (by decide) (by decide)) (kJ_r J 20050 20052 (by decide) (by decide) (by decide)) (kJ_r J 20050 20057 (by decide) (by decide) (by decide)) (kJ_r J 20050 20053 (by decide) (by decide) (by decide)) (kJ_r J 20050 20058 (by decide) (by decide) (by decide)) he (nx _ (kJ_b (by decide) hJ) (kJ_c (by decide) hC)))
          · exact tr (kJ J 20050) (kJ_out J 20050) (pK5_4_k309 Z hn (kJ_b (by decide) hJ) (kJ_c (by decide) hC) hl hp hb ht ho (kJ_r J 20050 20050 (by decide) (by decide) (by decide)) (kJ_r J 20050 20055 (by decide) (by decide) (by decide)) (kJ_r J 20050 20051 (by decide) (by decide) (by decide)) (kJ_r J 20050 20056 (by decide) (by decide) (by decide)) (kJ_r J 20050 20052 (by decide) (by decide) (by decide)) (kJ_r J 20050 20057 (by decide) (by decide) (by decide)) (kJ_r J 20050 20053 (by decide) (by decide) (by decide)) (kJ_r J 20050 20058 (by decide) (by decide) (by decide)) he (nx _ (kJ_b (by decide) hJ) (kJ_c (by decide) hC)))
      · by_cases hp : lk_np xs L 4 = 1
        · exfalso
          have hq := lk_np_lt xs L 4
          have := tk_b0 hb ht; omega
        · by_cases he : lk_ns xs L 5 = lk_np xs L 5
          · exact tr (kJ J 20050) (kJ_out J 20050) (pK5_4_k312 Z hn (kJ_b (by decide) hJ) (kJ_c (by decide) hC) hl hp hb ht ho (kJ_r J 20050 20050 (by decide) (by decide) (by decide)) (kJ_r J 20050 20055 (by decide) (by decide) (by decide)) (kJ_r J 20050 20051 (by decide) (by decide) (by decide)) (kJ_r J 20050 20056 (by decide) (by decide) (by decide)) (kJ_r J 20050 20052 (by decide) (by decide) (by decide)) (kJ_r J 20050 20057 (by decide) (by decide) (by decide)) (kJ_r J 20050 20053 (by decide) (by decide) (by decide)) (kJ_r J 20050 20058 (by decide) (by decide) (by decide)) he (nx _ (kJ_b (by decide) hJ) (kJ_c (by decide) hC)))
          · exact tr (kJ J 20050) (kJ_out J 20050) (pK5_4_k311 Z hn (kJ_b (by decide) hJ) (kJ_c (by decide) hC) hl hp hb ht ho (kJ_r J 20050 20050 (by decide) (by decide) (by decide)) (kJ_r J 20050 20055 (by decide) (by decide) (by decide)) (kJ_r J 20050 20051 (by decide) (by decide) (by decide)) (kJ_r J 20050 20056 (by decide) (by decide) (by decide)) (kJ_r J 20050 20052 (by decide) (by decide) (by decide)) (kJ_r J 20050 20057 (by decide) (by decide) (by decide)) (kJ_r J 20050 20053 (by decide) (by decide) (by decide)) (kJ_r J 20050 20058 (by decide) (by decide) (by decide)) he (nx _ (kJ_b (by decide) hJ) (kJ_c (by decide) hC)))
  · by_cases ht : lk_tk xs L 4 = true
    · rcases (by omega : lk_x xs L 4 / 3 % 2 = 0 ∨ lk_x xs L 4 / 3 % 2 = 1) with ho | ho
      · by_cases hp : lk_np xs L 4 = 1
        · by_cases he : lk_ns xs L 5 = lk_np xs L 5
          · exact tr (kJ J 20050) (kJ_out J 20050) (pK5_4_k297 Z hn (kJ_b (by decide) hJ) (kJ_c (by decide) hC) hl hp hb ht ho (kJ_r J 20050 20050 (by decide) (by decide) (by decide)) (kJ_r J 20050 20055 (by decide) (by decide) (by decide)) (kJ_r J 20050 20051 (by decide) (by decide) (by decide)) (kJ_r J 20050 20056 (by decide) (by decide) (by decide)) (kJ_r J 20050 20052 (by decide) (by decide) (by decide)) (kJ_r J 20050 20057 (by decide) (by decide) (by decide)) (kJ_r J 20050 20053 (by decide) (by decide) (by decide)) (kJ_r J 20050 20058 (by decide) (by decide) (by decide)) he (nx _ (kJ_b (by decide) hJ) (kJ_c (by decide) hC)))
          · exact tr (kJ J 20050) (kJ_out J 20050) (pK5_4_k296 Z hn (kJ_b (by decide) hJ) (kJ_c (by decide) hC) hl hp hb ht ho (kJ_r J 20050 20050 (by decide) (by decide) (by decide)) (kJ_r J 20050 20055 (by decide) (by decide) (by decide)) (kJ_r J 20050 20051 (by decide) (by decide) (by decide)) (kJ_r J 20050 20056 (by decide) (by decide) (by decide)) (kJ_r J 20050 20052 (by decide) (by decide) (by decide)) (kJ_r J 20050 20057 (by decide) (by decide) (by decide)) (kJ_r J 20050 20053 (by decide) (by decide) (by decide)) (kJ_r J 20050 20058 (by decide) (by decide) (by decide)) he (nx _ (kJ_b (by decide) hJ) (kJ_c (by decide) hC)))
        · by_cases he : lk_ns xs L 5 = lk_np xs L 5
          · exact tr (kJ J 20050) (kJ_out J 20050) (pK5_4_k307 Z hn (kJ_b (by decide) hJ) (kJ_c (by decide) hC) hl hp hb ht ho (kJ_r J 20050 20050 (by decide) (by decide) (by decide)) (kJ_r J 20050 20055 (by decide) (by decide) (by decide)) (kJ_r J 20050 20051 (by decide) (by decide) (by decide)) (kJ_r J 20050 20056 (by decide) (by decide) (by decide)) (kJ_r J 20050 20052 (by decide) (by decide) (by decide)) (kJ_r J 20050 20057 (by decide) (by decide) (by decide)) (kJ_r J 20050 20053 (by decide) (by decide) (by decide)) (kJ_r J 20050 20058 (by decide) (by decide) (by decide)) he (nx _ (kJ_b (by decide) hJ) (kJ_c (by decide) hC)))
          · exact tr (kJ J 20050) (kJ_out J 20050) (pK5_4_k306 Z hn (kJ_b (by decide) hJ) (kJ_c (by decide) hC) hl hp hb ht ho (kJ_r J 20050 20050 (by decide) (by decide) (by decide)) (kJ_r J 20050 20055 (by decide) (by decide) (by decide)) (kJ_r J 20050 20051 (by decide) (by decide) (by decide)) (kJ_r J 20050 20056 (by decide) (by decide) (by decide)) (kJ_r J 20050 20052 (by decide) (by decide) (by decide)) (kJ_r J 20050 20057 (by decide) (by decide) (by decide)) (kJ_r J 20050 20053 (by decide) (by decide) (by decide)) (kJ_r J 20050 20058 (by decide) (by decide) (by decide)) he (nx _ (kJ_b (by decide) hJ) (kJ_c (by decide) hC)))
      · by_cases hp : lk_np xs L 4 = 1
        · obtain ⟨J', h1, h2⟩ := hcar J hJ hC ht ho
          have hJ' : lb_ok xs L J' := fun i a b => by rw [← h1 i (by omega)]; exact hJ i a b
          have hC' : lc_ok xs L J' := fun i a b => by rw [← h1 i (by omega)]; exact hC i a b
          exact tr J' h1 (pK5_4_k298 Z hn hJ' hC' hl hp hb ht ho h2 (nx J' hJ' hC'))
        · obtain ⟨J', h1, h2⟩ := hcar J hJ hC ht ho
          have hJ' : lb_ok xs L J' := fun i a b => by rw [← h1 i (by omega)]; exact hJ i a b
          have hC' : lc_ok xs L J' := fun i a b => by rw [← h1 i (by omega)]; exact hC i a b
          exact tr J' h1 (pK5_4_k308 Z hn hJ' hC' hl hp hb ht ho h2 (nx J' hJ' hC'))
    · rcases (by omega : lk_x xs L 4 / 3 % 2 = 0 ∨ lk_x xs L 4 / 3 % 2 = 1) with ho | ho
      · by_cases hp : lk_np xs L 4 = 1
        · exfalso
          have hq := lk_np_lt xs L 4
          have := tk_f0 hb ht; omega
        · by_cases he : lk_ns xs L 5 = lk_np xs L 5
          · exact tr (kJ J 20050) (kJ_out J 20050) (pK5_4_k303 Z hn (kJ_b (by decide) hJ) (kJ_c (by decide) hC) hl hp hb ht ho (kJ_r J 20050 20050 (by decide) (by decide) (by decide)) (kJ_r J 20050 20055 (by decide) (by decide) (by decide)) (kJ_r J 20050 20051 (by decide) (by decide) (by decide)) (kJ_r J 20050 20056 (by decide) (by decide) (by decide)) (kJ_r J 20050 20052 (by decide) (by decide) (by decide)) (kJ_r J 20050 20057 (by decide) (by decide) (by decide)) (kJ_r J 20050 20053 (by decide) (by decide) (by decide)) (kJ_r J 20050 20058 (by decide) (by decide) (by decide)) he (nx _ (kJ_b (by decide) hJ) (kJ_c (by decide) hC)))
          · exact tr (kJ J 20050) (kJ_out J 20050) (pK5_4_k302 Z hn (kJ_b (by decide) hJ) (kJ_c (by decide) hC) hl hp hb ht ho (kJ_r J 20050 20050 (by decide) (by decide) (by decide)) (kJ_r J 20050 20055 (by decide) (by decide) (by decide)) (kJ_r J 20050 20051 (by decide) (by decide) (by decide)) (kJ_r J 20050 20056 (by decide) (by decide) (by decide)) (kJ_r J 20050 20052 (by decide) (by decide) (by decide)) (kJ_r J 20050 20057 (by decide) (by decide) (by decide)) (kJ_r J 20050 20053 (by decide) (by decide) (by decide)) (kJ_r J 20050 20058 (by decide) (by decide) (by decide)) he (nx _ (kJ_b (by decide) hJ) (kJ_c (by decide) hC)))
      · by_cases hp : lk_np xs L 4 = 1
        · exfalso
          have hq := lk_np_lt xs L 4
          have := tk_f0 hb ht; omega
        · by_cases he : lk_ns xs L 5 = lk_np xs L 5
          · exact tr (kJ J 20050) (kJ_out J 20050) (pK5_4_k305 Z hn (kJ_b (by decide) hJ) (kJ_c (by decide) hC) hl hp hb ht ho (kJ_r J 20050 20050 (by decide) (by decide) (by decide)) (kJ_r J 20050 20055 (by decide) (by decide) (by decide)) (kJ_r J 20050 20051 (by decide) (by decide) (by decide)) (kJ_r J 20050 20056 (by decide) (by decide) (by decide)) (kJ_r J 20050 20052 (by decide) (by decide) (by decide)) (kJ_r J 20050 20057 (by decide) (by decide) (by decide)) (kJ_r J 20050 20053 (by decide) (by decide) (by decide)) (kJ_r J 20050 20058 (by decide) (by decide) (by decide)) he (nx _ (kJ_b (by decide) hJ) (kJ_c (by decide) hC)))
          · exact tr (kJ J 20050) (kJ_out J 20050) (pK5_4_k304 Z hn (kJ_b (by decide) hJ) (kJ_c (by decide) hC) hl hp hb ht ho (kJ_r J 20050 20050 (by decide) (by decide) (by decide)) (kJ_r J 20050 20055 (by decide) (by decide) (by decide)) (kJ_r J 20050 20051 (by decide) (by decide) (by decide)) (kJ_r J 20050 20056 (by decide) (by decide) (by decide)) (kJ_r J 20050 20052 (by decide) (by decide) (by decide)) (kJ_r J 20050 20057 (by decide) (by decide) (by decide)) (kJ_r J 20050 20053 (by decide) (by decide) (by decide)) (kJ_r J 20050 20058 (by decide) (by decide) (by decide)) he (nx _ (kJ_b (by decide) hJ) (kJ_c (by decide) hC)))
theorem hK5_3 (Z : lw_W sv mt xs L lam dd) (hn : lx_nv xs L = 5) (hl : lc_l lam) (hL : (lam 0).toNatClampNeg ≤ 1000) (hcar : ∀ J, lb_ok xs L J → lc_ok xs L J → lk_tk xs L 3 = true → lk_x xs L 3 / 3 % 2 = 1 → ∃ J', (∀ i, i < 20040 ∨ 20040 + 10 ≤ i → J i = J' i) ∧ ∀ α, sg_ct sv mt 35 (lx_r xs L J', lam, α) kT5_3) (nx : ∀ J, lb_ok xs L J → lc_ok xs L J → lw_P sv mt xs L J lam dd n0 s0 Q 1326 l_K5_4 g_K5_4 445 3082) (J : Nat → Int32) (hJ : lb_ok xs L J) (hC : lc_ok xs L J) : lw_P sv mt xs L J lam dd n0 s0 Q 1326 l_K5_3 g_K5_3 440 3069 := by
  have tr : ∀ J' : Nat → Int32, (∀ i, i < 20040 ∨ 20040 + 10 ≤ i → J i = J' i) → lw_P sv mt xs L J' lam dd n0 s0 Q 1326 l_K5_3 g_K5_3 440 3069 → lw_P sv mt xs L J lam dd n0 s0 Q 1326 l_K5_3 g_K5_3 440 3069 := fun J' h P => lw_P_J (lo := 20040) (hi := 20040 + 10) h (by decide) hL (by decide +kernel) (by decide +kernel) P
  by_cases hb : lk_x xs L 3 % 3 = 0
  · by_cases ht : lk_tk xs L 3 = true
    · rcases (by omega : lk_x xs L 3 / 3 % 2 = 0 ∨ lk_x xs L 3 / 3 % 2 = 1) with ho | ho
      · by_cases hp : lk_np xs L 3 = 1
        · by_cases he : lk_ns xs L 4 = lk_np xs L 4
          · exact tr (kJ J 20040) (kJ_out J 20040) (pK5_3_k280 Z hn (kJ_b (by decide) hJ) (kJ_c (by decide) hC) hl hp hb ht ho (kJ_r J 20040 20040 (by decide) (by decide) (by decide)) (kJ_r J 20040 20045 (by decide) (by decide) (by decide)) (kJ_r J 20040 20041 (by decide) (by decide) (by decide)) (kJ_r J 20040 20046 (by decide) (by decide) (by decide)) (kJ_r J 20040 20042 (by decide) (by decide) (by decide)) (kJ_r J 20040 20047 (by decide) (by decide) (by decide)) (kJ_r J 20040 20043 (by decide) (by decide) (by decide)) (kJ_r J 20040 20048 (by decide) (by decide) (by decide)) he (nx _ (kJ_b (by decide) hJ) (kJ_c (by decide) hC)))
          · exact tr (kJ J 20040) (kJ_out J 20040) (pK5_3_k279 Z hn (kJ_b (by decide) hJ) (kJ_c (by decide) hC) hl hp hb ht ho (kJ_r J 20040 20040 (by decide) (by decide) (by decide)) (kJ_r J 20040 20045 (by decide) (by decide) (by decide)) (kJ_r J 20040 20041 (by decide) (by decide) (by decide)) (kJ_r J 20040 20046 (by decide) (by decide) (by decide)) (kJ_r J 20040 20042 (by decide) (by decide) (by decide)) (kJ_r J 20040 20047 (by decide) (by decide) (by decide)) (kJ_r J 20040 20043 (by decide) (by decide) (by decide)) (kJ_r J 20040 20048 (by decide) (by decide) (by decide)) he (nx _ (kJ_b (by decide) hJ) (kJ_c (by decide) hC)))
        · by_cases he : lk_ns xs L 4 = lk_np xs L 4
          · exact tr (kJ J 20040) (kJ_out J 20040) (pK5_3_k294 Z hn (kJ_b (by decide) hJ) (kJ_c (by decide) hC) hl hp hb ht ho (kJ_r J 20040 20040 (by decide) (by decide) (by decide)) (kJ_r J 20040 20045 (by decide) (by decide) (by decide)) (kJ_r J 20040 20041 (by decide) (by decide) (by decide)) (kJ_r J 20040 20046 (by decide) (by decide) (by decide)) (kJ_r J 20040 20042 (by decide) (by decide) (by decide)) (kJ_r J 20040 20047 (by decide) (by decide) (by decide)) (kJ_r J 20040 20043 (by decide) (by decide) (by decide)) (kJ_r J 20040 20048 (by decide) (by decide) (by decide)) he (nx _ (kJ_b (by decide) hJ) (kJ_c (by decide) hC)))
          · exact tr (kJ J 20040) (kJ_out J 20040) (pK5_3_k293 Z hn (kJ_b (by decide) hJ) (kJ_c (by decide) hC) hl hp hb ht ho (kJ_r J 20040 20040 (by decide) (by decide) (by decide)) (kJ_r J 20040 20045 (by decide) (by decide) (by decide)) (kJ_r J 20040 20041 (by decide) (by decide) (by decide)) (kJ_r J 20040 20046 (by decide) (by decide) (by decide)) (kJ_r J 20040 20042 (by decide) (by decide) (by decide)) (kJ_r J 20040 20047 (by decide) (by decide) (by decide)) (kJ_r J 20040 20043 (by decide) (by decide) (by decide)) (kJ_r J 20040 20048 (by decide) (by decide) (by decide)) he (nx _ (kJ_b (by decide) hJ) (kJ_c (by decide) hC)))
      · by_cases hp : lk_np xs L 3 = 1
        · obtain ⟨J', h1, h2⟩ := hcar J hJ hC ht ho
          have hJ' : lb_ok xs L J' := fun i a b => by rw [← h1 i (by omega)]; exact hJ i a b
          have hC' : lc_ok xs L J' := fun i a b => by rw [← h1 i (by omega)]; exact hC i a b
          exact tr J' h1 (pK5_3_k281 Z hn hJ' hC' hl hp hb ht ho h2 (nx J' hJ' hC'))
        · obtain ⟨J', h1, h2⟩ := hcar J hJ hC ht ho
          have hJ' : lb_ok xs L J' := fun i a b => by rw [← h1 i (by omega)]; exact hJ i a b
          have hC' : lc_ok xs L J' := fun i a b => by rw [← h1 i (by omega)]; exact hC i a b
          exact tr J' h1 (pK5_3_k295 Z hn hJ' hC' hl hp hb ht ho h2 (nx J' hJ' hC'))
    · rcases (by omega : lk_x xs L 3 / 3 % 2 = 0 ∨ lk_x xs L 3 / 3 % 2 = 1) with ho | ho
      · by_cases hp : lk_np xs L 3 = 1
        · exfalso
          have hq := lk_np_lt xs L 3
          have := tk_b0 hb ht; omega
        · by_cases he : lk_ns xs L 4 = lk_np xs L 4
          · exact tr (kJ J 20040) (kJ_out J 20040) (pK5_3_k290 Z hn (kJ_b (by decide) hJ) (kJ_c (by decide) hC) hl hp hb ht ho (kJ_r J 20040 20040 (by decide) (by decide) (by decide)) (kJ_r J 20040 20045 (by decide) (by decide) (by decide)) (kJ_r J 20040 20041 (by decide) (by decide) (by decide)) (kJ_r J 20040 20046 (by decide) (by decide) (by decide)) (kJ_r J 20040 20042 (by decide) (by decide) (by decide)) (kJ_r J 20040 20047 (by decide) (by decide) (by decide)) (kJ_r J 20040 20043 (by decide) (by decide) (by decide)) (kJ_r J 20040 20048 (by decide) (by decide) (by decide)) he (nx _ (kJ_b (by decide) hJ) (kJ_c (by decide) hC)))
          · exact tr (kJ J 20040) (kJ_out J 20040) (pK5_3_k289 Z hn (kJ_b (by decide) hJ) (kJ_c (by decide) hC) hl hp hb ht ho (kJ_r J 20040 20040 (by decide) (by decide) (by decide)) (kJ_r J 20040 20045 (by decide) (by decide) (by decide)) (kJ_r J 20040 20041 (by decide) (by decide) (by decide)) (kJ_r J 20040 20046 (by decide) (by decide) (by decide)) (kJ_r J 20040 20042 (by decide) (by decide) (by decide)) (kJ_r J 20040 20047 (by decide) (by decide) (by decide)) (kJ_r J 20040 20043 (by decide) (by decide) (by decide)) (kJ_r J 20040 20048 (by decide) (by decide) (by decide)) he (nx _ (kJ_b (by decide) hJ) (kJ_c (by decide) hC)))
      · by_cases hp : lk_np xs L 3 = 1
        · exfalso
          have hq := lk_np_lt xs L 3
          have := tk_b0 hb ht; omega
        · by_cases he : lk_ns xs L 4 = lk_np xs L 4
          · exact tr (kJ J 20040) (kJ_out J 20040) (pK5_3_k292 Z hn (kJ_b (by decide) hJ) (kJ_c (by decide) hC) hl hp hb ht ho (kJ_r J 20040 20040 (by decide) (by decide) (by decide)) (kJ_r J 20040 20045 (by decide) (by decide) (by decide)) (kJ_r J 20040 20041 (by decide) (by decide) (by decide)) (kJ_r J 20040 20046 (by decide) (by decide) (by decide)) (kJ_r J 20040 20042 (by decide) (by decide) (by decide)) (kJ_r J 20040 20047 (by decide) (by decide) (by decide)) (kJ_r J 20040 20043 (by decide) (by decide) (by decide)) (kJ_r J 20040 20048 (by decide) (by decide) (by decide)) he (nx _ (kJ_b (by decide) hJ) (kJ_c (by decide) hC)))
          · exact tr (kJ J 20040) (kJ_out J 20040) (pK5_3_k291 Z hn (kJ_b (by decide) hJ) (kJ_c (by decide) hC) hl hp hb ht ho (kJ_r J 20040 20040 (by decide) (by decide) (by decide)) (kJ_r J 20040 20045 (by decide) (by decide) (by decide)) (kJ_r J 20040 20041 (by decide) (by decide) (by decide)) (kJ_r J 20040 20046 (by decide) (by decide) (by decide)) (kJ_r J 20040 20042 (by decide) (by decide) (by decide)) (kJ_r J 20040 20047 (by decide) (by decide) (by decide)) (kJ_r J 20040 20043 (by decide) (by decide) (by decide)) (kJ_r J 20040 20048 (by decide) (by decide) (by decide)) he (nx _ (kJ_b (by decide) hJ) (kJ_c (by decide) hC)))
  · by_cases ht : lk_tk xs L 3 = true
    · rcases (by omega : lk_x xs L 3 / 3 % 2 = 0 ∨ lk_x xs L 3 / 3 % 2 = 1) with ho | ho
      · by_cases hp : lk_np xs L 3 = 1
        · by_cases he : lk_ns xs L 4 = lk_np xs L 4
          · exact tr (kJ J 20040) (kJ_out J 20040) (pK5_3_k277 Z hn (kJ_b (by decide) hJ) (kJ_c (by decide) hC) hl hp hb ht ho (kJ_r J 20040 20040 (by decide) (by decide) (by decide)) (kJ_r J 20040 20045 (by decide) (by decide) (by decide)) (kJ_r J 20040 20041 (by decide) (by decide) (by decide)) (kJ_r J 20040 20046 (by decide) (by decide) (by decide)) (kJ_r J 20040 20042 (by decide) (by decide) (by decide)) (kJ_r J 20040 20047 (by decide) (by decide) (by decide)) (kJ_r J 20040 20043 (by decide) (by decide) (by decide)) (kJ_r J 20040 20048 (by decide) (by decide) (by decide)) he (nx _ (kJ_b (by decide) hJ) (kJ_c (by decide) hC)))
          · exact tr (kJ J 20040) (kJ_out J 20040) (pK5_3_k276 Z hn (kJ_b (by decide) hJ) (kJ_c (by decide) hC) hl hp hb ht ho (kJ_r J 20040 20040 (by decide) (by decide) (by decide)) (kJ_r J 20040 20045 (by decide) (by decide) (by decide)) (kJ_r J 20040 20041 (by decide) (by decide) (by decide)) (kJ_r J 20040 20046 (by decide) (by decide) (by decide)) (kJ_r J 20040 20042 (by decide) (by decide) (by decide)) (kJ_r J 20040 20047 (by decide) (by decide) (by decide)) (kJ_r J 20040 20043 (by decide) (by decide) (by decide)) (kJ_r J 20040 20048 (by decide) (by decide) (by decide)) he (nx _ (kJ_b (by decide) hJ) (kJ_c (by decide) hC)))
        · by_cases he : lk_ns xs L 4 = lk_np xs L 4
          · exact tr (kJ J 20040) (kJ_out J 20040) (pK5_3_k287 Z hn (kJ_b (by decide) hJ) (kJ_c (by decide) hC) hl hp hb ht ho (kJ_r J 20040 20040 (by decide) (by decide) (by decide)) (kJ_r J 20040 20045 (by decide) (by decide) (by decide)) (kJ_r J 20040 20041 (by decide) (by decide) (by decide)) (kJ_r J 20040 20046 (by decide) (by decide) (by decide)) (kJ_r J 20040 20042 (by decide) (by decide) (by decide)) (kJ_r J 20040 20047 (by decide) (by decide) (by decide)) (kJ_r J 20040 20043 (by decide) (by decide) (by decide)) (kJ_r J 20040 20048 (by decide) (by decide) (by decide)) he (nx _ (kJ_b (by decide) hJ) (kJ_c (by decide) hC)))
          · exact tr (kJ J 20040) (kJ_out J 20040) (pK5_3_k286 Z hn (kJ_b (by decide) hJ) (kJ_c (by decide) hC) hl hp hb ht ho (kJ_r J 20040 20040 (by decide) (by decide) (by decide)) (kJ_r J 20040 20045 (by decide) (by decide) (by decide)) (kJ_r J 20040 20041 (by decide) (by decide) (by decide)) (kJ_r J 20040 20046 (by decide) (by decide) (by decide)) (kJ_r J 20040 20042 (by decide) (by decide) (by decide)) (kJ_r J 20040 20047 (by decide) (by decide) (by decide)) (kJ_r J 20040 20043 (by decide) (by decide) (by decide)) (kJ_r J 20040 20048 (by decide) (by decide) (by decide)) he (nx _ (kJ_b (by decide) hJ) (kJ_c (by decide) hC)))
      · by_cases hp : lk_np xs L 3 = 1
        · obtain ⟨J', h1, h2⟩ := hcar J hJ hC ht ho
          have hJ' : lb_ok xs L J' := fun i a b => by rw [← h1 i (by omega)]; exact hJ i a b
          have hC' : lc_ok xs L J' := fun i a b => by rw [← h1 i (by omega)]; exact hC i a b
          exact tr J' h1 (pK5_3_k278 Z hn hJ' hC' hl hp hb ht ho h2 (nx J' hJ' hC'))
        · obtain ⟨J', h1, h2⟩ := hcar J hJ hC ht ho
          have hJ' : lb_ok xs L J' := fun i a b => by rw [← h1 i (by omega)]; exact hJ i a b
          have hC' : lc_ok xs L J' := fun i a b => by rw [← h1 i (by omega)]; exact hC i a b
          exact tr J' h1 (pK5_3_k288 Z hn hJ' hC' hl hp hb ht ho h2 (nx J' hJ' hC'))
    · rcases (by omega : lk_x xs L 3 / 3 % 2 = 0 ∨ lk_x xs L 3 / 3 % 2 = 1) with ho | ho
      · by_cases hp : lk_np xs L 3 = 1
        · exfalso
          have hq := lk_np_lt xs L 3
          have := tk_f0 hb ht; omega
        · by_cases he : lk_ns xs L 4 = lk_np xs L 4
          · exact tr (kJ J 20040) (kJ_out J 20040) (pK5_3_k283 Z hn (kJ_b (by decide) hJ) (kJ_c (by decide) hC) hl hp hb ht ho (kJ_r J 20040 20040 (by decide) (by decide) (by decide)) (kJ_r J 20040 20045 (by decide) (by decide) (by decide)) (kJ_r J 20040 20041 (by decide) (by decide) (by decide)) (kJ_r J 20040 20046 (by decide) (by decide) (by decide)) (kJ_r J 20040 20042 (by decide) (by decide) (by decide)) (kJ_r J 20040 20047 (by decide) (by decide) (by decide)) (kJ_r J 20040 20043 (by decide) (by decide) (by decide)) (kJ_r J 20040 20048 (by decide) (by decide) (by decide)) he (nx _ (kJ_b (by decide) hJ) (kJ_c (by decide) hC)))
          · exact tr (kJ J 20040) (kJ_out J 20040) (pK5_3_k282 Z hn (kJ_b (by decide) hJ) (kJ_c (by decide) hC) hl hp hb ht ho (kJ_r J 20040 20040 (by decide) (by decide) (by decide)) (kJ_r J 20040 20045 (by decide) (by decide) (by decide)) (kJ_r J 20040 20041 (by decide) (by decide) (by decide)) (kJ_r J 20040 20046 (by decide) (by decide) (by decide)) (kJ_r J 20040 20042 (by decide) (by decide) (by decide)) (kJ_r J 20040 20047 (by decide) (by decide) (by decide)) (kJ_r J 20040 20043 (by decide) (by decide) (by decide)) (kJ_r J 20040 20048 (by decide) (by decide) (by decide)) he (nx _ (kJ_b (by decide) hJ) (kJ_c (by decide) hC)))
      · by_cases hp : lk_np xs L 3 = 1
        · exfalso
          have hq := lk_np_lt xs L 3
          have := tk_f0 hb ht; omega
        · by_cases he : lk_ns xs L 4 = lk_np xs L 4
          · exact tr (kJ J 20040) (kJ_out J 20040) (pK5_3_k285 Z hn (kJ_b (by decide) hJ) (kJ_c (by decide) hC) hl hp hb ht ho (kJ_r J 20040 20040 (by decide) (by decide) (by decide)) (kJ_r J 20040 20045 (by decide) (by decide) (by decide)) (kJ_r J 20040 20041 (by decide) (by decide) (by decide)) (kJ_r J 20040 20046 (by decide) (by decide) (by decide)) (kJ_r J 20040 20042 (by decide) (by decide) (by decide)) (kJ_r J 20040 20047 (by decide) (by decide) (by decide)) (kJ_r J 20040 20043 (by decide) (by decide) (by decide)) (kJ_r J 20040 20048 (by decide) (by decide) (by decide)) he (nx _ (kJ_b (by decide) hJ) (kJ_c (by decide) hC)))
          · exact tr (kJ J 20040) (kJ_out J 20040) (pK5_3_k284 Z hn (kJ_b (by decide) hJ) (kJ_c (by decide) hC) hl hp hb ht ho (kJ_r J 20040 20040 (by decide) (by decide) (by decide)) (kJ_r J 20040 20045 (by decide) (by decide) (by decide)) (kJ_r J 20040 20041 (by decide) (by decide) (by decide)) (kJ_r J 20040 20046 (by decide) (by decide) (by decide)) (kJ_r J 20040 20042 (by decide) (by decide) (by decide)) (kJ_r J 20040 20047 (by decide) (by decide) (by decide)) (kJ_r J 20040 20043 (by decide) (by decide) (by decide)) (kJ_r J 20040 20048 (by decide) (by decide) (by decide)) he (nx _ (kJ_b (by decide) hJ) (kJ_c (by decide) hC)))
theorem hK5_2 (Z : lw_W sv mt xs L lam dd) (hn : lx_nv xs L = 5) (hl : lc_l lam) (hL : (lam 0).toNatClampNeg ≤ 1000) (hcar : ∀ J, lb_ok xs L J → lc_ok xs L J → lk_tk xs L 2 = true → lk_x xs L 2 / 3 % 2 = 1 → ∃ J', (∀ i, i < 20030 ∨ 20030 + 10 ≤ i → J i = J' i) ∧ ∀ α, sg_ct sv mt 35 (lx_r xs L J', lam, α) kT5_2) (nx : ∀ J, lb_ok xs L J → lc_ok xs L J → lw_P sv mt xs L J lam dd n0 s0 Q 1326 l_K5_3 g_K5_3 440 3069) (J : Nat → Int32) (hJ : lb_ok xs L J) (hC : lc_ok xs L J) : lw_P sv mt xs L J lam dd n0 s0 Q 1326 l_K5_2 g_K5_2 435 3056 := by
  have tr : ∀ J' : Nat → Int32, (∀ i, i < 20030 ∨ 20030 + 10 ≤ i → J i = J' i) → lw_P sv mt xs L J' lam dd n0 s0 Q 1326 l_K5_2 g_K5_2 435 3056 → lw_P sv mt xs L J lam dd n0 s0 Q 1326 l_K5_2 g_K5_2 435 3056 := fun J' h P => lw_P_J (lo := 20030) (hi := 20030 + 10) h (by decide) hL (by decide +kernel) (by decide +kernel) P
  by_cases hb : lk_x xs L 2 % 3 = 0
  · by_cases ht : lk_tk xs L 2 = true
    · rcases (by omega : lk_x xs L 2 / 3 % 2 = 0 ∨ lk_x xs L 2 / 3 % 2 = 1) with ho | ho
      · by_cases hp : lk_np xs L 2 = 1
        · by_cases he : lk_ns xs L 3 = lk_np xs L 3
          · exact tr (kJ J 20030) (kJ_out J 20030) (pK5_2_k260 Z hn (kJ_b (by decide) hJ) (kJ_c (by decide) hC) hl hp hb ht ho (kJ_r J 20030 20030 (by decide) (by decide) (by decide)) (kJ_r J 20030 20035 (by decide) (by decide) (by decide)) (kJ_r J 20030 20031 (by decide) (by decide) (by decide)) (kJ_r J 20030 20036 (by decide) (by decide) (by decide)) (kJ_r J 20030 20032 (by decide) (by decide) (by decide)) (kJ_r J 20030 20037 (by decide) (by decide) (by decide)) (kJ_r J 20030 20033 (by decide) (by decide) (by decide)) (kJ_r J 20030 20038 (by decide) (by decide) (by decide)) he (nx _ (kJ_b (by decide) hJ) (kJ_c (by decide) hC)))
          · exact tr (kJ J 20030) (kJ_out J 20030) (pK5_2_k259 Z hn (kJ_b (by decide) hJ) (kJ_c (by decide) hC) hl hp hb ht ho (kJ_r J 20030 20030 (by decide) (by decide) (by decide)) (kJ_r J 20030 20035 (by decide) (by decide) (by decide)) (kJ_r J 20030 20031 (by decide) (by decide) (by decide)) (kJ_r J 20030 20036 (by decide) (by decide) (by decide)) (kJ_r J 20030 20032 (by decide) (by decide) (by decide)) (kJ_r J 20030 20037 (by decide) (by decide) (by decide)) (kJ_r J 20030 20033 (by decide) (by decide) (by decide)) (kJ_r J 20030 20038 (by decide) (by decide) (by decide)) he (nx _ (kJ_b (by decide) hJ) (kJ_c (by decide) hC)))
        · by_cases he : lk_ns xs L 3 = lk_np xs L 3
          · exact tr (kJ J 20030) (kJ_out J 20030) (pK5_2_k274 Z hn (kJ_b (by decide) hJ) (kJ_c (by decide) hC) hl hp hb ht ho (kJ_r J 20030 20030 (by decide) (by decide) (by decide)) (kJ_r J 20030 20035 (by decide) (by decide) (by decide)) (kJ_r J 20030 20031 (by decide) (by decide) (by decide)) (kJ_r J 20030 20036 (by decide) (by decide) (by decide)) (kJ_r J 20030 20032 (by decide) (by decide) (by decide)) (kJ_r J 20030 20037 (by decide) (by decide) (by decide)) (kJ_r J 20030 20033 (by decide) (by decide) (by decide)) (kJ_r J 20030 20038 (by decide) (by decide) (by decide)) he (nx _ (kJ_b (by decide) hJ) (kJ_c (by decide) hC)))
          · exact tr (kJ J 20030) (kJ_out J 20030) (pK5_2_k273 Z hn (kJ_b (by decide) hJ) (kJ_c (by decide) hC) hl hp hb ht ho (kJ_r J 20030 20030 (by decide) (by decide) (by decide)) (kJ_r J 20030 20035 (by decide) (by decide) (by decide)) (kJ_r J 20030 20031 (by decide) (by decide) (by decide)) (kJ_r J 20030 20036 (by decide) (by decide) (by decide)) (kJ_r J 20030 20032 (by decide) (by decide) (by decide)) (kJ_r J 20030 20037 (by decide) (by decide) (by decide)) (kJ_r J 20030 20033 (by decide) (by decide) (by decide)) (kJ_r J 20030 20038 (by decide) (by decide) (by decide)) he (nx _ (kJ_b (by decide) hJ) (kJ_c (by decide) hC)))
      · by_cases hp : lk_np xs L 2 = 1
        · obtain ⟨J', h1, h2⟩ := hcar J hJ hC ht ho
          have hJ' : lb_ok xs L J' := fun i a b => by rw [← h1 i (by omega)]; exact hJ i a b
          have hC' : lc_ok xs L J' := fun i a b => by rw [← h1 i (by omega)]; exact hC i a b
          exact tr J' h1 (pK5_2_k261 Z hn hJ' hC' hl hp hb ht ho h2 (nx J' hJ' hC'))
        · obtain ⟨J', h1, h2⟩ := hcar J hJ hC ht ho
          have hJ' : lb_ok xs L J' := fun i a b => by rw [← h1 i (by omega)]; exact hJ i a b
          have hC' : lc_ok xs L J' := fun i a b => by rw [← h1 i (by omega)]; exact hC i a b
          exact tr J' h1 (pK5_2_k275 Z hn hJ' hC' hl hp hb ht ho h2 (nx J' hJ' hC'))
    · rcases (by omega : lk_x xs L 2 / 3 % 2 = 0 ∨ lk_x xs L 2 / 3 % 2 = 1) with ho | ho
      · by_cases hp : lk_np xs L 2 = 1
        · exfalso
          have hq := lk_np_lt xs L 2
          have := tk_b0 hb ht; omega
        · by_cases he : lk_ns xs L 3 = lk_np xs L 3
          · exact tr (kJ J 20030) (kJ_out J 20030) (pK5_2_k270 Z hn (kJ_b (by decide) hJ) (kJ_c (by decide) hC) hl hp hb ht ho (kJ_r J 20030 20030 (by decide) (by decide) (by decide)) (kJ_r J 20030 20035 (by decide) (by decide) (by decide)) (kJ_r J 20030 20031 (by decide) (by decide) (by decide)) (kJ_r J 20030 20036 (by decide) (by decide) (by decide)) (kJ_r J 20030 20032 (by decide) (by decide) (by decide)) (kJ_r J 20030 20037 (by decide) (by decide) (by decide)) (kJ_r J 20030 20033 (by decide) (by decide) (by decide)) (kJ_r J 20030 20038 (by decide) (by decide) (by decide)) he (nx _ (kJ_b (by decide) hJ) (kJ_c (by decide) hC)))
          · exact tr (kJ J 20030) (kJ_out J 20030) (pK5_2_k269 Z hn (kJ_b (by decide) hJ) (kJ_c (by decide) hC) hl hp hb ht ho (kJ_r J 20030 20030 (by decide) (by decide) (by decide)) (kJ_r J 20030 20035 (by decide) (by decide) (by decide)) (kJ_r J 20030 20031 (by decide) (by decide) (by decide)) (kJ_r J 20030 20036 (by decide) (by decide) (by decide)) (kJ_r J 20030 20032 (by decide) (by decide) (by decide)) (kJ_r J 20030 20037 (by decide) (by decide) (by decide)) (kJ_r J 20030 20033 (by decide) (by decide) (by decide)) (kJ_r J 20030 20038 (by decide) (by decide) (by decide)) he (nx _ (kJ_b (by decide) hJ) (kJ_c (by decide) hC)))
      · by_cases hp : lk_np xs L 2 = 1
        · exfalso
          have hq := lk_np_lt xs L 2
          have := tk_b0 hb ht; omega
        · by_cases he : lk_ns xs L 3 = lk_np xs L 3
          · exact tr (kJ J 20030) (kJ_out J 20030) (pK5_2_k272 Z hn (kJ_b (by decide) hJ) (kJ_c (by decide) hC) hl hp hb ht ho (kJ_r J 20030 20030 (by decide) (by decide) (by decide)) (kJ_r J 20030 20035 (by decide) (by decide) (by decide)) (kJ_r J 20030 20031 (by decide) (by decide) (by decide)) (kJ_r J 20030 20036 (by decide) (by decide) (by decide)) (kJ_r J 20030 20032 (by decide) (by decide) (by decide)) (kJ_r J 20030 20037 (by decide) (by decide) (by decide)) (kJ_r J 20030 20033 (by decide) (by decide) (by decide)) (kJ_r J 20030 20038 (by decide) (by decide) (by decide)) he (nx _ (kJ_b (by decide) hJ) (kJ_c (by decide) hC)))
          · exact tr (kJ J 20030) (kJ_out J 20030) (pK5_2_k271 Z hn (kJ_b (by decide) hJ) (kJ_c (by decide) hC) hl hp hb ht ho (kJ_r J 20030 20030 (by decide) (by decide) (by decide)) (kJ_r J 20030 20035 (by decide) (by decide) (by decide)) (kJ_r J 20030 20031 (by decide) (by decide) (by decide)) (kJ_r J 20030 20036 (by decide) (by decide) (by decide)) (kJ_r J 20030 20032 (by decide) (by decide) (by decide)) (kJ_r J 20030 20037 (by decide) (by decide) (by decide)) (kJ_r J 20030 20033 (by decide) (by decide) (by decide)) (kJ_r J 20030 20038 (by decide) (by decide) (by decide)) he (nx _ (kJ_b (by decide) hJ) (kJ_c (by decide) hC)))
  · by_cases ht : lk_tk xs L 2 = true
    · rcases (by omega : lk_x xs L 2 / 3 % 2 = 0 ∨ lk_x xs L 2 / 3 % 2 = 1) with ho | ho
      · by_cases hp : lk_np xs L 2 = 1
        · by_cases he : lk_ns xs L 3 = lk_np xs L 3
          · exact tr (kJ J 20030) (kJ_out J 20030) (pK5_2_k257 Z hn (kJ_b (by decide) hJ) (kJ_c (by decide) hC) hl hp hb ht ho (kJ_r J 20030 20030 (by decide) (by decide) (by decide)) (kJ_r J 20030 20035 (by decide) (by decide) (by decide)) (kJ_r J 20030 20031 (by decide) (by decide) (by decide)) (kJ_r J 20030 20036 (by decide) (by decide) (by decide)) (kJ_r J 20030 20032 (by decide) (by decide) (by decide)) (kJ_r J 20030 20037 (by decide) (by decide) (by decide)) (kJ_r J 20030 20033 (by decide) (by decide) (by decide)) (kJ_r J 20030 20038 (by decide) (by decide) (by decide)) he (nx _ (kJ_b (by decide) hJ) (kJ_c (by decide) hC)))
          · exact tr (kJ J 20030) (kJ_out J 20030) (pK5_2_k256 Z hn (kJ_b (by decide) hJ) (kJ_c (by decide) hC) hl hp hb ht ho (kJ_r J 20030 20030 (by decide) (by decide) (by decide)) (kJ_r J 20030 20035 (by decide) (by decide) (by decide)) (kJ_r J 20030 20031 (by decide) (by decide) (by decide)) (kJ_r J 20030 20036 (by decide) (by decide) (by decide)) (kJ_r J 20030 20032 (by decide) (by decide) (by decide)) (kJ_r J 20030 20037 (by decide) (by decide) (by decide)) (kJ_r J 20030 20033 (by decide) (by decide) (by decide)) (kJ_r J 20030 20038 (by decide) (by decide) (by decide)) he (nx _ (kJ_b (by decide) hJ) (kJ_c (by decide) hC)))
        · by_cases he : lk_ns xs L 3 = lk_np xs L 3
          · exact tr (kJ J 20030) (kJ_out J 20030) (pK5_2_k267 Z hn (kJ_b (by decide) hJ) (kJ_c (by decide) hC) hl hp hb ht ho (kJ_r J 20030 20030 (by decide) (by decide) (by decide)) (kJ_r J 20030 20035 (by decide) (by decide) (by decide)) (kJ_r J 20030 20031 (by decide) (by decide) (by decide)) (kJ_r J 20030 20036 (by decide) (by decide) (by decide)) (kJ_r J 20030 20032 (by decide) (by decide) (by decide)) (kJ_r J 20030 20037 (by decide) (by decide) (by decide)) (kJ_r J 20030 20033 (by decide) (by decide) (by decide)) (kJ_r J 20030 20038 (by decide) (by decide) (by decide)) he (nx _ (kJ_b (by decide) hJ) (kJ_c (by decide) hC)))
          · exact tr (kJ J 20030) (kJ_out J 20030) (pK5_2_k266 Z hn (kJ_b (by decide) hJ) (kJ_c (by decide) hC) hl hp hb ht ho (kJ_r J 20030 20030 (by decide) (by decide) (by decide)) (kJ_r J 20030 20035 (by decide) (by decide) (by decide)) (kJ_r J 20030 20031 (by decide) (by decide) (by decide)) (kJ_r J 20030 20036 (by decide) (by decide) (by decide)) (kJ_r J 20030 20032 (by decide) (by decide) (by decide)) (kJ_r J 20030 20037 (by decide) (by decide) (by decide)) (kJ_r J 20030 20033 (by decide) (by decide) (by decide)) (kJ_r J 20030 20038 (by decide) (by decide) (by decide)) he (nx _ (kJ_b (by decide) hJ) (kJ_c (by decide) hC)))
      · by_cases hp : lk_np xs L 2 = 1
        · obtain ⟨J', h1, h2⟩ := hcar J hJ hC ht ho
          have hJ' : lb_ok xs L J' := fun i a b => by rw [← h1 i (by omega)]; exact hJ i a b
          have hC' : lc_ok xs L J' := fun i a b => by rw [← h1 i (by omega)]; exact hC i a b
          exact tr J' h1 (pK5_2_k258 Z hn hJ' hC' hl hp hb ht ho h2 (nx J' hJ' hC'))
        · obtain ⟨J', h1, h2⟩ := hcar J hJ hC ht ho
          have hJ' : lb_ok xs L J' := fun i a b => by rw [← h1 i (by omega)]; exact hJ i a b
          have hC' : lc_ok xs L J' := fun i a b => by rw [← h1 i (by omega)]; exact hC i a b
          exact tr J' h1 (pK5_2_k268 Z hn hJ' hC' hl hp hb ht ho h2 (nx J' hJ' hC'))
    · rcases (by omega : lk_x xs L 2 / 3 % 2 = 0 ∨ lk_x xs L 2 / 3 % 2 = 1) with ho | ho
      · by_cases hp : lk_np xs L 2 = 1
        · exfalso
          have hq := lk_np_lt xs L 2
          have := tk_f0 hb ht; omega
        · by_cases he : lk_ns xs L 3 = lk_np xs L 3
          · exact tr (kJ J 20030) (kJ_out J 20030) (pK5_2_k263 Z hn (kJ_b (by decide) hJ) (kJ_c (by decide) hC) hl hp hb ht ho (kJ_r J 20030 20030 (by decide) (by decide) (by decide)) (kJ_r J 20030 20035 (by decide) (by decide) (by decide)) (kJ_r J 20030 20031 (by decide) (by decide) (by decide)) (kJ_r J 20030 20036 (by decide) (by decide) (by decide)) (kJ_r J 20030 20032 (by decide) (by decide) (by decide)) (kJ_r J 20030 20037 (by decide) (by decide) (by decide)) (kJ_r J 20030 20033 (by decide) (by decide) (by decide)) (kJ_r J 20030 20038 (by decide) (by decide) (by decide)) he (nx _ (kJ_b (by decide) hJ) (kJ_c (by decide) hC)))
          · exact tr (kJ J 20030) (kJ_out J 20030) (pK5_2_k262 Z hn (kJ_b (by decide) hJ) (kJ_c (by decide) hC) hl hp hb ht ho (kJ_r J 20030 20030 (by decide) (by decide) (by decide)) (kJ_r J 20030 20035 (by decide) (by decide) (by decide)) (kJ_r J 20030 20031 (by decide) (by decide) (by decide)) (kJ_r J 20030 20036 (by decide) (by decide) (by decide)) (kJ_r J 20030 20032 (by decide) (by decide) (by decide)) (kJ_r J 20030 20037 (by decide) (by decide) (by decide)) (kJ_r J 20030 20033 (by decide) (by decide) (by decide)) (kJ_r J 20030 20038 (by decide) (by decide) (by decide)) he (nx _ (kJ_b (by decide) hJ) (kJ_c (by decide) hC)))
      · by_cases hp : lk_np xs L 2 = 1
        · exfalso
          have hq := lk_np_lt xs L 2
          have := tk_f0 hb ht; omega
        · by_cases he : lk_ns xs L 3 = lk_np xs L 3
          · exact tr (kJ J 20030) (kJ_out J 20030) (pK5_2_k265 Z hn (kJ_b (by decide) hJ) (kJ_c (by decide) hC) hl hp hb ht ho (kJ_r J 20030 20030 (by decide) (by decide) (by decide)) (kJ_r J 20030 20035 (by decide) (by decide) (by decide)) (kJ_r J 20030 20031 (by decide) (by decide) (by decide)) (kJ_r J 20030 20036 (by decide) (by decide) (by decide)) (kJ_r J 20030 20032 (by decide) (by decide) (by decide)) (kJ_r J 20030 20037 (by decide) (by decide) (by decide)) (kJ_r J 20030 20033 (by decide) (by decide) (by decide)) (kJ_r J 20030 20038 (by decide) (by decide) (by decide)) he (nx _ (kJ_b (by decide) hJ) (kJ_c (by decide) hC)))
          · exact tr (kJ J 20030) (kJ_out J 20030) (pK5_2_k264 Z hn (kJ_b (by decide) hJ) (kJ_c (by decide) hC) hl hp hb ht ho (kJ_r J 20030 20030 (by decide) (by decide) (by decide)) (kJ_r J 20030 20035 (by decide) (by decide) (by decide)) (kJ_r J 20030 20031 (by decide) (by decide) (by decide)) (kJ_r J 20030 20036 (by decide) (by decide) (by decide)) (kJ_r J 20030 20032 (by decide) (by decide) (by decide)) (kJ_r J 20030 20037 (by decide) (by decide) (by decide)) (kJ_r J 20030 20033 (by decide) (by decide) (by decide)) (kJ_r J 20030 20038 (by decide) (by decide) (by decide)) he (nx _ (kJ_b (by decide) hJ) (kJ_c (by decide) hC)))
theorem hK5_1 (Z : lw_W sv mt xs L lam dd) (hn : lx_nv xs L = 5) (hl : lc_l lam) (hL : (lam 0).toNatClampNeg ≤ 1000) (hcar : ∀ J, lb_ok xs L J → lc_ok xs L J → lk_tk xs L 1 = true → lk_x xs L 1 / 3 % 2 = 1 → ∃ J', (∀ i, i < 20020 ∨ 20020 + 10 ≤ i → J i = J' i) ∧ ∀ α, sg_ct sv mt 35 (lx_r xs L J', lam, α) kT5_1) (nx : ∀ J, lb_ok xs L J → lc_ok xs L J → lw_P sv mt xs L J lam dd n0 s0 Q 1326 l_K5_2 g_K5_2 435 3056) (J : Nat → Int32) (hJ : lb_ok xs L J) (hC : lc_ok xs L J) : lw_P sv mt xs L J lam dd n0 s0 Q 1326 l_K5_1 g_K5_1 430 3043 := by
  have tr : ∀ J' : Nat → Int32, (∀ i, i < 20020 ∨ 20020 + 10 ≤ i → J i = J' i) → lw_P sv mt xs L J' lam dd n0 s0 Q 1326 l_K5_1 g_K5_1 430 3043 → lw_P sv mt xs L J lam dd n0 s0 Q 1326 l_K5_1 g_K5_1 430 3043 := fun J' h P => lw_P_J (lo := 20020) (hi := 20020 + 10) h (by decide) hL (by decide +kernel) (by decide +kernel) P
  by_cases hb : lk_x xs L 1 % 3 = 0
  · by_cases ht : lk_tk xs L 1 = true
    · rcases (by omega : lk_x xs L 1 / 3 % 2 = 0 ∨ lk_x xs L 1 / 3 % 2 = 1) with ho | ho
      · by_cases hp : lk_np xs L 1 = 1
        · by_cases he : lk_ns xs L 2 = lk_np xs L 2
          · exact tr (kJ J 20020) (kJ_out J 20020) (pK5_1_k240 Z hn (kJ_b (by decide) hJ) (kJ_c (by decide) hC) hl hp hb ht ho (kJ_r J 20020 20020 (by decide) (by decide) (by decide)) (kJ_r J 20020 20025 (by decide) (by decide) (by decide)) (kJ_r J 20020 20021 (by decide) (by decide) (by decide)) (kJ_r J 20020 20026 (by decide) (by decide) (by decide)) (kJ_r J 20020 20022 (by decide) (by decide) (by decide)) (kJ_r J 20020 20027 (by decide) (by decide) (by decide)) (kJ_r J 20020 20023 (by decide) (by decide) (by decide)) (kJ_r J 20020 20028 (by decide) (by decide) (by decide)) he (nx _ (kJ_b (by decide) hJ) (kJ_c (by decide) hC)))
          · exact tr (kJ J 20020) (kJ_out J 20020) (pK5_1_k239 Z hn (kJ_b (by decide) hJ) (kJ_c (by decide) hC) hl hp hb ht ho (kJ_r J 20020 20020 (by decide) (by decide) (by decide)) (kJ_r J 20020 20025 (by decide) (by decide) (by decide)) (kJ_r J 20020 20021 (by decide) (by decide) (by decide)) (kJ_r J 20020 20026 (by decide) (by decide) (by decide)) (kJ_r J 20020 20022 (by decide) (by decide) (by decide)) (kJ_r J 20020 20027 (by decide) (by decide) (by decide)) (kJ_r J 20020 20023 (by decide) (by decide) (by decide)) (kJ_r J 20020 20028 (by decide) (by decide) (by decide)) he (nx _ (kJ_b (by decide) hJ) (kJ_c (by decide) hC)))
        · by_cases he : lk_ns xs L 2 = lk_np xs L 2
          · exact tr (kJ J 20020) (kJ_out J 20020) (pK5_1_k254 Z hn (kJ_b (by decide) hJ) (kJ_c (by decide) hC) hl hp hb ht ho (kJ_r J 20020 20020 (by decide) (by decide) (by decide)) (kJ_r J 20020 20025 (by decide) (by decide) (by decide)) (kJ_r J 20020 20021 (by decide) (by decide) (by decide)) (kJ_r J 20020 20026 (by decide) (by decide) (by decide)) (kJ_r J 20020 20022 (by decide) (by decide) (by decide)) (kJ_r J 20020 20027 (by decide) (by decide) (by decide)) (kJ_r J 20020 20023 (by decide) (by decide) (by decide)) (kJ_r J 20020 20028 (by decide) (by decide) (by decide)) he (nx _ (kJ_b (by decide) hJ) (kJ_c (by decide) hC)))
          · exact tr (kJ J 20020) (kJ_out J 20020) (pK5_1_k253 Z hn (kJ_b (by decide) hJ) (kJ_c (by decide) hC) hl hp hb ht ho (kJ_r J 20020 20020 (by decide) (by decide) (by decide)) (kJ_r J 20020 20025 (by decide) (by decide) (by decide)) (kJ_r J 20020 20021 (by decide) (by decide) (by decide)) (kJ_r J 20020 20026 (by decide) (by decide) (by decide)) (kJ_r J 20020 20022 (by decide) (by decide) (by decide)) (kJ_r J 20020 20027 (by decide) (by decide) (by decide)) (kJ_r J 20020 20023 (by decide) (by decide) (by decide)) (kJ_r J 20020 20028 (by decide) (by decide) (by decide)) he (nx _ (kJ_b (by decide) hJ) (kJ_c (by decide) hC)))
      · by_cases hp : lk_np xs L 1 = 1
        · obtain ⟨J', h1, h2⟩ := hcar J hJ hC ht ho
          have hJ' : lb_ok xs L J' := fun i a b => by rw [← h1 i (by omega)]; exact hJ i a b
          have hC' : lc_ok xs L J' := fun i a b => by rw [← h1 i (by omega)]; exact hC i a b
          exact tr J' h1 (pK5_1_k241 Z hn hJ' hC' hl hp hb ht ho h2 (nx J' hJ' hC'))
        · obtain ⟨J', h1, h2⟩ := hcar J hJ hC ht ho
          have hJ' : lb_ok xs L J' := fun i a b => by rw [← h1 i (by omega)]; exact hJ i a b
          have hC' : lc_ok xs L J' := fun i a b => by rw [← h1 i (by omega)]; exact hC i a b
          exact tr J' h1 (pK5_1_k255 Z hn hJ' hC' hl hp hb ht ho h2 (nx J' hJ' hC'))
    · rcases (by omega : lk_x xs L 1 / 3 % 2 = 0 ∨ lk_x xs L 1 / 3 % 2 = 1) with ho | ho
      · by_cases hp : lk_np xs L 1 = 1
        · exfalso
          have hq := lk_np_lt xs L 1
          have := tk_b0 hb ht; omega
        · by_cases he : lk_ns xs L 2 = lk_np xs L 2
          · exact tr (kJ J 20020) (kJ_out J 20020) (pK5_1_k250 Z hn (kJ_b (by decide) hJ) (kJ_c (by decide) hC) hl hp hb ht ho (kJ_r J 20020 20020 (by decide) (by decide) (by decide)) (kJ_r J 20020 20025 (by decide) (by decide) (by decide)) (kJ_r J 20020 20021 (by decide) (by decide) (by decide)) (kJ_r J 20020 20026 (by decide) (by decide) (by decide)) (kJ_r J 20020 20022 (by decide) (by decide) (by decide)) (kJ_r J 20020 20027 (by decide) (by decide) (by decide)) (kJ_r J 20020 20023 (by decide) (by decide) (by decide)) (kJ_r J 20020 20028 (by decide) (by decide) (by decide)) he (nx _ (kJ_b (by decide) hJ) (kJ_c (by decide) hC)))
          · exact tr (kJ J 20020) (kJ_out J 20020) (pK5_1_k249 Z hn (kJ_b (by decide) hJ) (kJ_c (by decide) hC) hl hp hb ht ho (kJ_r J 20020 20020 (by decide) (by decide) (by decide)) (kJ_r J 20020 20025 (by decide) (by decide) (by decide)) (kJ_r J 20020 20021 (by decide) (by decide) (by decide)) (kJ_r J 20020 20026 (by decide) (by decide) (by decide)) (kJ_r J 20020 20022 (by decide) (by decide) (by decide)) (kJ_r J 20020 20027 (by decide) (by decide) (by decide)) (kJ_r J 20020 20023 (by decide) (by decide) (by decide)) (kJ_r J 20020 20028 (by decide) (by decide) (by decide)) he (nx _ (kJ_b (by decide) hJ) (kJ_c (by decide) hC)))
      · by_cases hp : lk_np xs L 1 = 1
        · exfalso
          have hq := lk_np_lt xs L 1
          have := tk_b0 hb ht; omega
        · by_cases he : lk_ns xs L 2 = lk_np xs L 2
          · exact tr (kJ J 20020) (kJ_out J 20020) (pK5_1_k252 Z hn (kJ_b (by decide) hJ) (kJ_c (by decide) hC) hl hp hb ht ho (kJ_r J 20020 20020 (by decide) (by decide) (by decide)) (kJ_r J 20020 20025 (by decide) (by decide) (by decide)) (kJ_r J 20020 20021 (by decide) (by decide) (by decide)) (kJ_r J 20020 20026 (by decide) (by decide) (by decide)) (kJ_r J 20020 20022 (by decide) (by decide) (by decide)) (kJ_r J 20020 20027 (by decide) (by decide) (by decide)) (kJ_r J 20020 20023 (by decide) (by decide) (by decide)) (kJ_r J 20020 20028 (by decide) (by decide) (by decide)) he (nx _ (kJ_b (by decide) hJ) (kJ_c (by decide) hC)))
          · exact tr (kJ J 20020) (kJ_out J 20020) (pK5_1_k251 Z hn (kJ_b (by decide) hJ) (kJ_c (by decide) hC) hl hp hb ht ho (kJ_r J 20020 20020 (by decide) (by decide) (by decide)) (kJ_r J 20020 20025 (by decide) (by decide) (by decide)) (kJ_r J 20020 20021 (by decide) (by decide) (by decide)) (kJ_r J 20020 20026 (by decide) (by decide) (by decide)) (kJ_r J 20020 20022 (by decide) (by decide) (by decide)) (kJ_r J 20020 20027 (by decide) (by decide) (by decide)) (kJ_r J 20020 20023 (by decide) (by decide) (by decide)) (kJ_r J 20020 20028 (by decide) (by decide) (by decide)) he (nx _ (kJ_b (by decide) hJ) (kJ_c (by decide) hC)))
  · by_cases ht : lk_tk xs L 1 = true
    · rcases (by omega : lk_x xs L 1 / 3 % 2 = 0 ∨ lk_x xs L 1 / 3 % 2 = 1) with ho | ho
      · by_cases hp : lk_np xs L 1 = 1
        · by_cases he : lk_ns xs L 2 = lk_np xs L 2
          · exact tr (kJ J 20020) (kJ_out J 20020) (pK5_1_k237 Z hn (kJ_b (by decide) hJ) (kJ_c (by decide) hC) hl hp hb ht ho (kJ_r J 20020 20020 (by decide) (by decide) (by decide)) (kJ_r J 20020 20025 (by decide) (by decide) (by decide)) (kJ_r J 20020 20021 (by decide) (by decide) (by decide)) (kJ_r J 20020 20026 (by decide) (by decide) (by decide)) (kJ_r J 20020 20022 (by decide) (by decide) (by decide)) (kJ_r J 20020 20027 (by decide) (by decide) (by decide)) (kJ_r J 20020 20023 (by decide) (by decide) (by decide)) (kJ_r J 20020 20028 (by decide) (by decide) (by decide)) he (nx _ (kJ_b (by decide) hJ) (kJ_c (by decide) hC)))
          · exact tr (kJ J 20020) (kJ_out J 20020) (pK5_1_k236 Z hn (kJ_b (by decide) hJ) (kJ_c (by decide) hC) hl hp hb ht ho (kJ_r J 20020 20020 (by decide) (by decide) (by decide)) (kJ_r J 20020 20025 (by decide) (by decide) (by decide)) (kJ_r J 20020 20021 (by decide) (by decide) (by decide)) (kJ_r J 20020 20026 (by decide) (by decide) (by decide)) (kJ_r J 20020 20022 (by decide) (by decide) (by decide)) (kJ_r J 20020 20027 (by decide) (by decide) (by decide)) (kJ_r J 20020 20023 (by decide) (by decide) (by decide)) (kJ_r J 20020 20028 (by decide) (by decide) (by decide)) he (nx _ (kJ_b (by decide) hJ) (kJ_c (by decide) hC)))
        · by_cases he : lk_ns xs L 2 = lk_np xs L 2
          · exact tr (kJ J 20020) (kJ_out J 20020) (pK5_1_k247 Z hn (kJ_b (by decide) hJ) (kJ_c (by decide) hC) hl hp hb ht ho (kJ_r J 20020 20020 (by decide) (by decide) (by decide)) (kJ_r J 20020 20025 (by decide) (by decide) (by decide)) (kJ_r J 20020 20021 (by decide) (by decide) (by decide)) (kJ_r J 20020 20026 (by decide) (by decide) (by decide)) (kJ_r J 20020 20022 (by decide) (by decide) (by decide)) (kJ_r J 20020 20027 (by decide) (by decide) (by decide)) (kJ_r J 20020 20023 (by decide) (by decide) (by decide)) (kJ_r J 20020 20028 (by decide) (by decide) (by decide)) he (nx _ (kJ_b (by decide) hJ) (kJ_c (by decide) hC)))
          · exact tr (kJ J 20020) (kJ_out J 20020) (pK5_1_k246 Z hn (kJ_b (by decide) hJ) (kJ_c (by decide) hC) hl hp hb ht ho (kJ_r J 20020 20020 (by decide) (by decide) (by decide)) (kJ_r J 20020 20025 (by decide) (by decide) (by decide)) (kJ_r J 20020 20021 (by decide) (by decide) (by decide)) (kJ_r J 20020 20026 (by decide) (by decide) (by decide)) (kJ_r J 20020 20022 (by decide) (by decide) (by decide)) (kJ_r J 20020 20027 (by decide) (by decide) (by decide)) (kJ_r J 20020 20023 (by decide) (by decide) (by decide)) (kJ_r J 20020 20028 (by decide) (by decide) (by decide)) he (nx _ (kJ_b (by decide) hJ) (kJ_c (by decide) hC)))
      · by_cases hp : lk_np xs L 1 = 1
        · obtain ⟨J', h1, h2⟩ := hcar J hJ hC ht ho
          have hJ' : lb_ok xs L J' := fun i a b => by rw [← h1 i (by omega)]; exact hJ i a b
          have hC' : lc_ok xs L J' := fun i a b => by rw [← h1 i (by omega)]; exact hC i a b
          exact tr J' h1 (pK5_1_k238 Z hn hJ' hC' hl hp hb ht ho h2 (nx J' hJ' hC'))
        · obtain ⟨J', h1, h2⟩ := hcar J hJ hC ht ho
          have hJ' : lb_ok xs L J' := fun i a b => by rw [← h1 i (by omega)]; exact hJ i a b
          have hC' : lc_ok xs L J' := fun i a b => by rw [← h1 i (by omega)]; exact hC i a b
          exact tr J' h1 (pK5_1_k248 Z hn hJ' hC' hl hp hb ht ho h2 (nx J' hJ' hC'))
    · rcases (by omega : lk_x xs L 1 / 3 % 2 = 0 ∨ lk_x xs L 1 / 3 % 2 = 1) with ho | ho
      · by_cases hp : lk_np xs L 1 = 1
        · exfalso
          have hq := lk_np_lt xs L 1
          have := tk_f0 hb ht; omega
        · by_cases he : lk_ns xs L 2 = lk_np xs L 2
          · exact tr (kJ J 20020) (kJ_out J 20020) (pK5_1_k243 Z hn (kJ_b (by decide) hJ) (kJ_c (by decide) hC) hl hp hb ht ho (kJ_r J 20020 20020 (by decide) (by decide) (by decide)) (kJ_r J 20020 20025 (by decide) (by decide) (by decide)) (kJ_r J 20020 20021 (by decide) (by decide) (by decide)) (kJ_r J 20020 20026 (by decide) (by decide) (by decide)) (kJ_r J 20020 20022 (by decide) (by decide) (by decide)) (kJ_r J 20020 20027 (by decide) (by decide) (by decide)) (kJ_r J 20020 20023 (by decide) (by decide) (by decide)) (kJ_r J 20020 20028 (by decide) (by decide) (by decide)) he (nx _ (kJ_b (by decide) hJ) (kJ_c (by decide) hC)))
          · exact tr (kJ J 20020) (kJ_out J 20020) (pK5_1_k242 Z hn (kJ_b (by decide) hJ) (kJ_c (by decide) hC) hl hp hb ht ho (kJ_r J 20020 20020 (by decide) (by decide) (by decide)) (kJ_r J 20020 20025 (by decide) (by decide) (by decide)) (kJ_r J 20020 20021 (by decide) (by decide) (by decide)) (kJ_r J 20020 20026 (by decide) (by decide) (by decide)) (kJ_r J 20020 20022 (by decide) (by decide) (by decide)) (kJ_r J 20020 20027 (by decide) (by decide) (by decide)) (kJ_r J 20020 20023 (by decide) (by decide) (by decide)) (kJ_r J 20020 20028 (by decide) (by decide) (by decide)) he (nx _ (kJ_b (by decide) hJ) (kJ_c (by decide) hC)))
      · by_cases hp : lk_np xs L 1 = 1
        · exfalso
          have hq := lk_np_lt xs L 1
          have := tk_f0 hb ht; omega
        · by_cases he : lk_ns xs L 2 = lk_np xs L 2
          · exact tr (kJ J 20020) (kJ_out J 20020) (pK5_1_k245 Z hn (kJ_b (by decide) hJ) (kJ_c (by decide) hC) hl hp hb ht ho (kJ_r J 20020 20020 (by decide) (by decide) (by decide)) (kJ_r J 20020 20025 (by decide) (by decide) (by decide)) (kJ_r J 20020 20021 (by decide) (by decide) (by decide)) (kJ_r J 20020 20026 (by decide) (by decide) (by decide)) (kJ_r J 20020 20022 (by decide) (by decide) (by decide)) (kJ_r J 20020 20027 (by decide) (by decide) (by decide)) (kJ_r J 20020 20023 (by decide) (by decide) (by decide)) (kJ_r J 20020 20028 (by decide) (by decide) (by decide)) he (nx _ (kJ_b (by decide) hJ) (kJ_c (by decide) hC)))
          · exact tr (kJ J 20020) (kJ_out J 20020) (pK5_1_k244 Z hn (kJ_b (by decide) hJ) (kJ_c (by decide) hC) hl hp hb ht ho (kJ_r J 20020 20020 (by decide) (by decide) (by decide)) (kJ_r J 20020 20025 (by decide) (by decide) (by decide)) (kJ_r J 20020 20021 (by decide) (by decide) (by decide)) (kJ_r J 20020 20026 (by decide) (by decide) (by decide)) (kJ_r J 20020 20022 (by decide) (by decide) (by decide)) (kJ_r J 20020 20027 (by decide) (by decide) (by decide)) (kJ_r J 20020 20023 (by decide) (by decide) (by decide)) (kJ_r J 20020 20028 (by decide) (by decide) (by decide)) he (nx _ (kJ_b (by decide) hJ) (kJ_c (by decide) hC)))
theorem hK5_0 (Z : lw_W sv mt xs L lam dd) (hn : lx_nv xs L = 5) (hl : lc_l lam) (hL : (lam 0).toNatClampNeg ≤ 1000) (hcar : ∀ J, lb_ok xs L J → lc_ok xs L J → lk_tk xs L 0 = true → lk_x xs L 0 / 3 % 2 = 1 → ∃ J', (∀ i, i < 20010 ∨ 20010 + 10 ≤ i → J i = J' i) ∧ ∀ α, sg_ct sv mt 35 (lx_r xs L J', lam, α) kT5_0) (nx : ∀ J, lb_ok xs L J → lc_ok xs L J → lw_P sv mt xs L J lam dd n0 s0 Q 1326 l_K5_1 g_K5_1 430 3043) (J : Nat → Int32) (hJ : lb_ok xs L J) (hC : lc_ok xs L J) : lw_P sv mt xs L J lam dd n0 s0 Q 1326 l_K5_0 g_K5_0 425 3030 := by
  have tr : ∀ J' : Nat → Int32, (∀ i, i < 20010 ∨ 20010 + 10 ≤ i → J i = J' i) → lw_P sv mt xs L J' lam dd n0 s0 Q 1326 l_K5_0 g_K5_0 425 3030 → lw_P sv mt xs L J lam dd n0 s0 Q 1326 l_K5_0 g_K5_0 425 3030 := fun J' h P => lw_P_J (lo := 20010) (hi := 20010 + 10) h (by decide) hL (by decide +kernel) (by decide +kernel) P
  by_cases hb : lk_x xs L 0 % 3 = 0
  · by_cases ht : lk_tk xs L 0 = true
    · rcases (by omega : lk_x xs L 0 / 3 % 2 = 0 ∨ lk_x xs L 0 / 3 % 2 = 1) with ho | ho
      · exact tr (kJ J 20010) (kJ_out J 20010) (pK5_0_k234 Z hn (kJ_b (by decide) hJ) (kJ_c (by decide) hC) hl hb ht ho (kJ_r J 20010 20010 (by decide) (by decide) (by decide)) (kJ_r J 20010 20015 (by decide) (by decide) (by decide)) (kJ_r J 20010 20011 (by decide) (by decide) (by decide)) (kJ_r J 20010 20016 (by decide) (by decide) (by decide)) (kJ_r J 20010 20012 (by decide) (by decide) (by decide)) (kJ_r J 20010 20017 (by decide) (by decide) (by decide)) (kJ_r J 20010 20013 (by decide) (by decide) (by decide)) (kJ_r J 20010 20018 (by decide) (by decide) (by decide)) (nx _ (kJ_b (by decide) hJ) (kJ_c (by decide) hC)))
      · obtain ⟨J', h1, h2⟩ := hcar J hJ hC ht ho
        have hJ' : lb_ok xs L J' := fun i a b => by rw [← h1 i (by omega)]; exact hJ i a b
        have hC' : lc_ok xs L J' := fun i a b => by rw [← h1 i (by omega)]; exact hC i a b
        exact tr J' h1 (pK5_0_k235 Z hn hJ' hC' hl hb ht ho h2 (nx J' hJ' hC'))
    · rcases (by omega : lk_x xs L 0 / 3 % 2 = 0 ∨ lk_x xs L 0 / 3 % 2 = 1) with ho | ho
      · exfalso
        have e0 : lk_np xs L 0 = 1 := rfl
        have := tk_b0 hb ht; omega
      · exfalso
        have e0 : lk_np xs L 0 = 1 := rfl
        have := tk_b0 hb ht; omega
  · by_cases ht : lk_tk xs L 0 = true
    · rcases (by omega : lk_x xs L 0 / 3 % 2 = 0 ∨ lk_x xs L 0 / 3 % 2 = 1) with ho | ho
      · exact tr (kJ J 20010) (kJ_out J 20010) (pK5_0_k232 Z hn (kJ_b (by decide) hJ) (kJ_c (by decide) hC) hl hb ht ho (kJ_r J 20010 20010 (by decide) (by decide) (by decide)) (kJ_r J 20010 20015 (by decide) (by decide) (by decide)) (kJ_r J 20010 20011 (by decide) (by decide) (by decide)) (kJ_r J 20010 20016 (by decide) (by decide) (by decide)) (kJ_r J 20010 20012 (by decide) (by decide) (by decide)) (kJ_r J 20010 20017 (by decide) (by decide) (by decide)) (kJ_r J 20010 20013 (by decide) (by decide) (by decide)) (kJ_r J 20010 20018 (by decide) (by decide) (by decide)) (nx _ (kJ_b (by decide) hJ) (kJ_c (by decide) hC)))
      · obtain ⟨J', h1, h2⟩ := hcar J hJ hC ht ho
        have hJ' : lb_ok xs L J' := fun i a b => by rw [← h1 i (by omega)]; exact hJ i a b
        have hC' : lc_ok xs L J' := fun i a b => by rw [← h1 i (by omega)]; exact hC i a b
        exact tr J' h1 (pK5_0_k233 Z hn hJ' hC' hl hb ht ho h2 (nx J' hJ' hC'))
    · rcases (by omega : lk_x xs L 0 / 3 % 2 = 0 ∨ lk_x xs L 0 / 3 % 2 = 1) with ho | ho
      · exfalso
        have e0 : lk_np xs L 0 = 1 := rfl
        have := tk_f0 hb ht; omega
      · exfalso
        have e0 : lk_np xs L 0 = 1 := rfl
        have := tk_f0 hb ht; omega
theorem hK6_4 (Z : lw_W sv mt xs L lam dd) (hn : lx_nv xs L = 6) (hl : lc_l lam) (hL : (lam 0).toNatClampNeg ≤ 1000) (hcar : ∀ J, lb_ok xs L J → lc_ok xs L J → lk_tk xs L 4 = true → lk_x xs L 4 / 3 % 2 = 1 → ∃ J', (∀ i, i < 20050 ∨ 20050 + 10 ≤ i → J i = J' i) ∧ ∀ α, sg_ct sv mt 35 (lx_r xs L J', lam, α) kT6_4) (nx : ∀ J, lb_ok xs L J → lc_ok xs L J → lw_P sv mt xs L J lam dd n0 s0 Q 1326 l_K6_5 g_K6_5 504 3514) (J : Nat → Int32) (hJ : lb_ok xs L J) (hC : lc_ok xs L J) : lw_P sv mt xs L J lam dd n0 s0 Q 1326 l_K6_4 g_K6_4 499 3501 := by
  have tr : ∀ J' : Nat → Int32, (∀ i, i < 20050 ∨ 20050 + 10 ≤ i → J i = J' i) → lw_P sv mt xs L J' lam dd n0 s0 Q 1326 l_K6_4 g_K6_4 499 3501 → lw_P sv mt xs L J lam dd n0 s0 Q 1326 l_K6_4 g_K6_4 499 3501 := fun J' h P => lw_P_J (lo := 20050) (hi := 20050 + 10) h (by decide) hL (by decide +kernel) (by decide +kernel) P
  by_cases hb : lk_x xs L 4 % 3 = 0
  · by_cases ht : lk_tk xs L 4 = true
    · rcases (by omega : lk_x xs L 4 / 3 % 2 = 0 ∨ lk_x xs L 4 / 3 % 2 = 1) with ho | ho
      · by_cases hp : lk_np xs L 4 = 1
        · by_cases he : lk_ns xs L 5 = lk_np xs L 5
          · exact tr (kJ J 20050) (kJ_out J 20050) (pK6_4_k385 Z hn (kJ_b (by decide) hJ) (kJ_c (by decide) hC) hl hp hb ht ho (kJ_r J 20050 20050 (by decide) (by decide) (by decide)) (kJ_r J 20050 20055 (by decide) (by decide) (by decide)) (kJ_r J 20050 20051 (by decide) (by decide) (by decide)) (kJ_r J 20050 20056 (by decide) (by decide) (by decide)) (kJ_r J 20050 20052 (by decide) (by decide) (by decide)) (kJ_r J 20050 20057 (by decide) (by decide) (by decide)) (kJ_r J 20050 20053 (by decide) (by decide) (by decide)) (kJ_r J 20050 20058 (by decide) (by decide) (by decide)) he (nx _ (kJ_b (by decide) hJ) (kJ_c (by decide) hC)))
          · exact tr (kJ J 20050) (kJ_out J 20050) (pK6_4_k384 Z hn (kJ_b (by decide) hJ) (kJ_c (by decide) hC) hl hp hb ht ho (kJ_r J 20050 20050 (by decide) (by decide) (by decide)) (kJ_r J 20050 20055 (by decide) (by decide) (by decide)) (kJ_r J 20050 20051 (by decide) (by decide) (by decide)) (kJ_r J 20050 20056 (by decide) (by decide) (by decide)) (kJ_r J 20050 20052 (by decide) (by decide) (by decide)) (kJ_r J 20050 20057 (by decide) (by decide) (by decide)) (kJ_r J 20050 20053 (by decide) (by decide) (by decide)) (kJ_r J 20050 20058 (by decide) (by decide) (by decide)) he (nx _ (kJ_b (by decide) hJ) (kJ_c (by decide) hC)))
        · by_cases he : lk_ns xs L 5 = lk_np xs L 5
          · exact tr (kJ J 20050) (kJ_out J 20050) (pK6_4_k399 Z hn (kJ_b (by decide) hJ) (kJ_c (by decide) hC) hl hp hb ht ho (kJ_r J 20050 20050 (by decide) (by decide) (by decide)) (kJ_r J 20050 20055 (by decide) (by decide) (by decide)) (kJ_r J 20050 20051 (by decide) (by decide) (by decide)) (kJ_r J 20050 20056 (by decide) (by decide) (by decide)) (kJ_r J 20050 20052 (by decide) (by decide) (by decide)) (kJ_r J 20050 20057 (by decide) (by decide) (by decide)) (kJ_r J 20050 20053 (by decide) (by decide) (by decide)) (kJ_r J 20050 20058 (by decide) (by decide) (by decide)) he (nx _ (kJ_b (by decide) hJ) (kJ_c (by decide) hC)))
          · exact tr (kJ J 20050) (kJ_out J 20050) (pK6_4_k398 Z hn (kJ_b (by decide) hJ) (kJ_c (by decide) hC) hl hp hb ht ho (kJ_r J 20050 20050 (by decide) (by decide) (by decide)) (kJ_r J 20050 20055 (by decide) (by decide) (by decide)) (kJ_r J 20050 20051 (by decide) (by decide) (by decide)) (kJ_r J 20050 20056 (by decide) (by decide) (by decide)) (kJ_r J 20050 20052 (by decide) (by decide) (by decide)) (kJ_r J 20050 20057 (by decide) (by decide) (by decide)) (kJ_r J 20050 20053 (by decide) (by decide) (by decide)) (kJ_r J 20050 20058 (by decide) (by decide) (by decide)) he (nx _ (kJ_b (by decide) hJ) (kJ_c (by decide) hC)))
      · by_cases hp : lk_np xs L 4 = 1
        · obtain ⟨J', h1, h2⟩ := hcar J hJ hC ht ho
          have hJ' : lb_ok xs L J' := fun i a b => by rw [← h1 i (by omega)]; exact hJ i a b
          have hC' : lc_ok xs L J' := fun i a b => by rw [← h1 i (by omega)]; exact hC i a b
          exact tr J' h1 (pK6_4_k386 Z hn hJ' hC' hl hp hb ht ho h2 (nx J' hJ' hC'))
        · obtain ⟨J', h1, h2⟩ := hcar J hJ hC ht ho
          have hJ' : lb_ok xs L J' := fun i a b => by rw [← h1 i (by omega)]; exact hJ i a b
          have hC' : lc_ok xs L J' := fun i a b => by rw [← h1 i (by omega)]; exact hC i a b
          exact tr J' h1 (pK6_4_k400 Z hn hJ' hC' hl hp hb ht ho h2 (nx J' hJ' hC'))
    · rcases (by omega : lk_x xs L 4 / 3 % 2 = 0 ∨ lk_x xs L 4 / 3 % 2 = 1) with ho | ho
      · by_cases hp : lk_np xs L 4 = 1
        · exfalso
          have hq := lk_np_lt xs L 4
          have := tk_b0 hb ht; omega
        · by_cases he : lk_ns xs L 5 = lk_np xs L 5
          · exact tr (kJ J 20050) (kJ_out J 20050) (pK6_4_k395 Z hn (kJ_b (by decide) hJ) (kJ_c (by decide) hC) hl hp hb ht ho (kJ_r J 20050 20050 (by decide) (by decide) (by decide)) (kJ_r J 20050 20055 (by decide) (by decide) (by decide)) (kJ_r J 20050 20051 (by decide) (by decide) (by decide)) (kJ_r J 20050 20056 (by decide) (by decide) (by decide)) (kJ_r J 20050 20052 (by decide) (by decide) (by decide)) (kJ_r J 20050 20057 (by decide) (by decide) (by decide)) (kJ_r J 20050 20053 (by decide) (by decide) (by decide)) (kJ_r J 20050 20058 (by decide) (by decide) (by decide)) he (nx _ (kJ_b (by decide) hJ) (kJ_c (by decide) hC)))
          · exact tr (kJ J 20050) (kJ_out J 20050) (pK6_4_k394 Z hn (kJ_b (by decide) hJ) (kJ_c (by decide) hC) hl hp hb ht ho (kJ_r J 20050 20050 (by decide) (by decide) (by decide)) (kJ_r J 20050 20055 (by decide) (by decide) (by decide)) (kJ_r J 20050 20051 (by decide) (by decide) (by decide)) (kJ_r J 20050 20056 (by decide) (by decide) (by decide)) (kJ_r J 20050 20052 (by decide) (by decide) (by decide)) (kJ_r J 20050 20057 (by decide) (by decide) (by decide)) (kJ_r J 20050 20053 (by decide) (by decide) (by decide)) (kJ_r J 20050 20058 (by decide) (by decide) (by decide)) he (nx _ (kJ_b (by decide) hJ) (kJ_c (by decide) hC)))
      · by_cases hp : lk_np xs L 4 = 1
        · exfalso
          have hq := lk_np_lt xs L 4
          have := tk_b0 hb ht; omega
        · by_cases he : lk_ns xs L 5 = lk_np xs L 5
          · exact tr (kJ J 20050) (kJ_out J 20050) (pK6_4_k397 Z hn (kJ_b (by decide) hJ) (kJ_c (by decide) hC) hl hp hb ht ho (kJ_r J 20050 20050 (by decide) (by decide) (by decide)) (kJ_r J 20050 20055 (by decide) (by decide) (by decide)) (kJ_r J 20050 20051 (by decide) (by decide) (by decide)) (kJ_r J 20050 20056 (by decide) (by decide) (by decide)) (kJ_r J 20050 20052 (by decide) (by decide) (by decide)) (kJ_r J 20050 20057 (by decide) (by decide) (by decide)) (kJ_r J 20050 20053 (by decide) (by decide) (by decide)) (kJ_r J 20050 20058 (by decide) (by decide) (by decide)) he (nx _ (kJ_b (by decide) hJ) (kJ_c (by decide) hC)))
          · exact tr (kJ J 20050) (kJ_out J 20050) (pK6_4_k396 Z hn (kJ_b (by decide) hJ) (kJ_c (by decide) hC) hl hp hb ht ho (kJ_r J 20050 20050 (by decide) (by decide) (by decide)) (kJ_r J 20050 20055 (by decide) (by decide) (by decide)) (kJ_r J 20050 20051 (by decide) (by decide) (by decide)) (kJ_r J 20050 20056 (by decide) (by decide) (by decide)) (kJ_r J 20050 20052 (by decide) (by decide) (by decide)) (kJ_r J 20050 20057 (by decide) (by decide) (by decide)) (kJ_r J 20050 20053 (by decide) (by decide) (by decide)) (kJ_r J 20050 20058 (by decide) (by decide) (by decide)) he (nx _ (kJ_b (by decide) hJ) (kJ_c (by decide) hC)))
  · by_cases ht : lk_tk xs L 4 = true
    · rcases (by omega : lk_x xs L 4 / 3 % 2 = 0 ∨ lk_x xs L 4 / 3 % 2 = 1) with ho | ho
      · by_cases hp : lk_np xs L 4 = 1
        · by_cases he : lk_ns xs L 5 = lk_np xs L 5
          · exact tr (kJ J 20050) (kJ_out J 20050) (pK6_4_k382 Z hn (kJ_b (by decide) hJ) (kJ_c (by decide) hC) hl hp hb ht ho (kJ_r J 20050 20050 (by decide) (by decide) (by decide)) (kJ_r J 20050 20055 (by decide) (by decide) (by decide)) (kJ_r J 20050 20051 (by decide) (by decide) (by decide)) (kJ_r J 20050 20056 (by decide) (by decide) (by decide)) (kJ_r J 20050 20052 (by decide) (by decide) (by decide)) (kJ_r J 20050 20057 (by decide) (by decide) (by decide)) (kJ_r J 20050 20053 (by decide) (by decide) (by decide)) (kJ_r J 20050 20058 (by decide) (by decide) (by decide)) he (nx _ (kJ_b (by decide) hJ) (kJ_c (by decide) hC)))
          · exact tr (kJ J 20050) (kJ_out J 20050) (pK6_4_k381 Z hn (kJ_b (by decide) hJ) (kJ_c (by decide) hC) hl hp hb ht ho (kJ_r J 20050 20050 (by decide) (by decide) (by decide)) (kJ_r J 20050 20055 (by decide) (by decide) (by decide)) (kJ_r J 20050 20051 (by decide) (by decide) (by decide)) (kJ_r J 20050 20056 (by decide) (by decide) (by decide)) (kJ_r J 20050 20052 (by decide) (by decide) (by decide)) (kJ_r J 20050 20057 (by decide) (by decide) (by decide)) (kJ_r J 20050 20053 (by decide) (by decide) (by decide)) (kJ_r J 20050 20058 (by decide) (by decide) (by decide)) he (nx _ (kJ_b (by decide) hJ) (kJ_c (by decide) hC)))
        · by_cases he : lk_ns xs L 5 = lk_np xs L 5
          · exact tr (kJ J 20050) (kJ_out J 20050) (pK6_4_k392 Z hn (kJ_b (by decide) hJ) (kJ_c (by decide) hC) hl hp hb ht ho (kJ_r J 20050 20050 (by decide) (by decide) (by decide)) (kJ_r J 20050 20055 (by decide) (by decide) (by decide)) (kJ_r J 20050 20051 (by decide) (by decide) (by decide)) (kJ_r J 20050 20056 (by decide) (by decide) (by decide)) (kJ_r J 20050 20052 (by decide) (by decide) (by decide)) (kJ_r J 20050 20057 (by decide) (by decide) (by decide)) (kJ_r J 20050 20053 (by decide) (by decide) (by decide)) (kJ_r J 20050 20058 (by decide) (by decide) (by decide)) he (nx _ (kJ_b (by decide) hJ) (kJ_c (by decide) hC)))
          · exact tr (kJ J 20050) (kJ_out J 20050) (pK6_4_k391 Z hn (kJ_b (by decide) hJ) (kJ_c (by decide) hC) hl hp hb ht ho (kJ_r J 20050 20050 (by decide) (by decide) (by decide)) (kJ_r J 20050 20055 (by decide) (by decide) (by decide)) (kJ_r J 20050 20051 (by decide) (by decide) (by decide)) (kJ_r J 20050 20056 (by decide) (by decide) (by decide)) (kJ_r J 20050 20052 (by decide) (by decide) (by decide)) (kJ_r J 20050 20057 (by decide) (by decide) (by decide)) (kJ_r J 20050 20053 (by decide) (by decide) (by decide)) (kJ_r J 20050 20058 (by decide) (by decide) (by decide)) he (nx _ (kJ_b (by decide) hJ) (kJ_c (by decide) hC)))
      · by_cases hp : lk_np xs L 4 = 1
        · obtain ⟨J', h1, h2⟩ := hcar J hJ hC ht ho
          have hJ' : lb_ok xs L J' := fun i a b => by rw [← h1 i (by omega)]; exact hJ i a b
          have hC' : lc_ok xs L J' := fun i a b => by rw [← h1 i (by omega)]; exact hC i a b
          exact tr J' h1 (pK6_4_k383 Z hn hJ' hC' hl hp hb ht ho h2 (nx J' hJ' hC'))
        · obtain ⟨J', h1, h2⟩ := hcar J hJ hC ht ho
          have hJ' : lb_ok xs L J' := fun i a b => by rw [← h1 i (by omega)]; exact hJ i a b
          have hC' : lc_ok xs L J' := fun i a b => by rw [← h1 i (by omega)]; exact hC i a b
          exact tr J' h1 (pK6_4_k393 Z hn hJ' hC' hl hp hb ht ho h2 (nx J' hJ' hC'))
    · rcases (by omega : lk_x xs L 4 / 3 % 2 = 0 ∨ lk_x xs L 4 / 3 % 2 = 1) with ho | ho
      · by_cases hp : lk_np xs L 4 = 1
        · exfalso
          have hq := lk_np_lt xs L 4
          have := tk_f0 hb ht; omega
        · by_cases he : lk_ns xs L 5 = lk_np xs L 5
          · exact tr (kJ J 20050) (kJ_out J 20050) (pK6_4_k388 Z hn (kJ_b (by decide) hJ) (kJ_c (by decide) hC) hl hp hb ht ho (kJ_r J 20050 20050 (by decide) (by decide) (by decide)) (kJ_r J 20050 20055 (by decide) (by decide) (by decide)) (kJ_r J 20050 20051 (by decide) (by decide) (by decide)) (kJ_r J 20050 20056 (by decide) (by decide) (by decide)) (kJ_r J 20050 20052 (by decide) (by decide) (by decide)) (kJ_r J 20050 20057 (by decide) (by decide) (by decide)) (kJ_r J 20050 20053 (by decide) (by decide) (by decide)) (kJ_r J 20050 20058 (by decide) (by decide) (by decide)) he (nx _ (kJ_b (by decide) hJ) (kJ_c (by decide) hC)))
          · exact tr (kJ J 20050) (kJ_out J 20050) (pK6_4_k387 Z hn (kJ_b (by decide) hJ) (kJ_c (by decide) hC) hl hp hb ht ho (kJ_r J 20050 20050 (by decide) (by decide) (by decide)) (kJ_r J 20050 20055 (by decide) (by decide) (by decide)) (kJ_r J 20050 20051 (by decide) (by decide) (by decide)) (kJ_r J 20050 20056 (by decide) (by decide) (by decide)) (kJ_r J 20050 20052 (by decide) (by decide) (by decide)) (kJ_r J 20050 20057 (by decide) (by decide) (by decide)) (kJ_r J 20050 20053 (by decide) (by decide) (by decide)) (kJ_r J 20050 20058 (by decide) (by decide) (by decide)) he (nx _ (kJ_b (by decide) hJ) (kJ_c (by decide) hC)))
      · by_cases hp : lk_np xs L 4 = 1
        · exfalso
          have hq := lk_np_lt xs L 4
          have := tk_f0 hb ht; omega
        · by_cases he : lk_ns xs L 5 = lk_np xs L 5
          · exact tr (kJ J 20050) (kJ_out J 20050) (pK6_4_k390 Z hn (kJ_b (by decide) hJ) (kJ_c (by decide) hC) hl hp hb ht ho (kJ_r J 20050 20050 (by decide) (by decide) (by decide)) (kJ_r J 20050 20055 (by decide) (by decide) (by decide)) (kJ_r J 20050 20051 (by decide) (by decide) (by decide)) (kJ_r J 20050 20056 (by decide) (by decide) (by decide)) (kJ_r J 20050 20052 (by decide) (by decide) (by decide)) (kJ_r J 20050 20057 (by decide) (by decide) (by decide)) (kJ_r J 20050 20053 (by decide) (by decide) (by decide)) (kJ_r J 20050 20058 (by decide) (by decide) (by decide)) he (nx _ (kJ_b (by decide) hJ) (kJ_c (by decide) hC)))
          · exact tr (kJ J 20050) (kJ_out J 20050) (pK6_4_k389 Z hn (kJ_b (by decide) hJ) (kJ_c (by decide) hC) hl hp hb ht ho (kJ_r J 20050 20050 (by decide) (by decide) (by decide)) (kJ_r J 20050 20055 (by decide) (by decide) (by decide)) (kJ_r J 20050 20051 (by decide) (by decide) (by decide)) (kJ_r J 20050 20056 (by decide) (by decide) (by decide)) (kJ_r J 20050 20052 (by decide) (by decide) (by decide)) (kJ_r J 20050 20057 (by decide) (by decide) (by decide)) (kJ_r J 20050 20053 (by decide) (by decide) (by decide)) (kJ_r J 20050 20058 (by decide) (by decide) (by decide)) he (nx _ (kJ_b (by decide) hJ) (kJ_c (by decide) hC)))
theorem hK6_3 (Z : lw_W sv mt xs L lam dd) (hn : lx_nv xs L = 6) (hl : lc_l lam) (hL : (lam 0).toNatClampNeg ≤ 1000) (hcar : ∀ J, lb_ok xs L J → lc_ok xs L J → lk_tk xs L 3 = true → lk_x xs L 3 / 3 % 2 = 1 → ∃ J', (∀ i, i < 20040 ∨ 20040 + 10 ≤ i → J i = J' i) ∧ ∀ α, sg_ct sv mt 35 (lx_r xs L J', lam, α) kT6_3) (nx : ∀ J, lb_ok xs L J → lc_ok xs L J → lw_P sv mt xs L J lam dd n0 s0 Q 1326 l_K6_4 g_K6_4 499 3501) (J : Nat → Int32) (hJ : lb_ok xs L J) (hC : lc_ok xs L J) : lw_P sv mt xs L J lam dd n0 s0 Q 1326 l_K6_3 g_K6_3 494 3488 := by
  have tr : ∀ J' : Nat → Int32, (∀ i, i < 20040 ∨ 20040 + 10 ≤ i → J i = J' i) → lw_P sv mt xs L J' lam dd n0 s0 Q 1326 l_K6_3 g_K6_3 494 3488 → lw_P sv mt xs L J lam dd n0 s0 Q 1326 l_K6_3 g_K6_3 494 3488 := fun J' h P => lw_P_J (lo := 20040) (hi := 20040 + 10) h (by decide) hL (by decide +kernel) (by decide +kernel) P
  by_cases hb : lk_x xs L 3 % 3 = 0
  · by_cases ht : lk_tk xs L 3 = true
    · rcases (by omega : lk_x xs L 3 / 3 % 2 = 0 ∨ lk_x xs L 3 / 3 % 2 = 1) with ho | ho
      · by_cases hp : lk_np xs L 3 = 1
        · by_cases he : lk_ns xs L 4 = lk_np xs L 4
          · exact tr (kJ J 20040) (kJ_out J 20040) (pK6_3_k365 Z hn (kJ_b (by decide) hJ) (kJ_c (by decide) hC) hl hp hb ht ho (kJ_r J 20040 20040 (by decide) (by decide) (by decide)) (kJ_r J 20040 20045 (by decide) (by decide) (by decide)) (kJ_r J 20040 20041 (by decide) (by decide) (by decide)) (kJ_r J 20040 20046 (by decide) (by decide) (by decide)) (kJ_r J 20040 20042 (by decide) (by decide) (by decide)) (kJ_r J 20040 20047 (by decide) (by decide) (by decide)) (kJ_r J 20040 20043 (by decide) (by decide) (by decide)) (kJ_r J 20040 20048 (by decide) (by decide) (by decide)) he (nx _ (kJ_b (by decide) hJ) (kJ_c (by decide) hC)))
          · exact tr (kJ J 20040) (kJ_out J 20040) (pK6_3_k364 Z hn (kJ_b (by decide) hJ) (kJ_c (by decide) hC) hl hp hb ht ho (kJ_r J 20040 20040 (by decide) (by decide) (by decide)) (kJ_r J 20040 20045 (by decide) (by decide) (by decide)) (kJ_r J 20040 20041 (by decide) (by decide) (by decide)) (kJ_r J 20040 20046 (by decide) (by decide) (by decide)) (kJ_r J 20040 20042 (by decide) (by decide) (by decide)) (kJ_r J 20040 20047 (by decide) (by decide) (by decide)) (kJ_r J 20040 20043 (by decide) (by decide) (by decide)) (kJ_r J 20040 20048 (by decide) (by decide) (by decide)) he (nx _ (kJ_b (by decide) hJ) (kJ_c (by decide) hC)))
        · by_cases he : lk_ns xs L 4 = lk_np xs L 4
          · exact tr (kJ J 20040) (kJ_out J 20040) (pK6_3_k379 Z hn (kJ_b (by decide) hJ) (kJ_c (by decide) hC) hl hp hb ht ho (kJ_r J 20040 20040 (by decide) (by decide) (by decide)) (kJ_r J 20040 20045 (by decide) (by decide) (by decide)) (kJ_r J 20040 20041 (by decide) (by decide) (by decide)) (kJ_r J 20040 20046 (by decide) (by decide) (by decide)) (kJ_r J 20040 20042 (by decide) (by decide) (by decide)) (kJ_r J 20040 20047 (by decide) (by decide) (by decide)) (kJ_r J 20040 20043 (by decide) (by decide) (by decide)) (kJ_r J 20040 20048 (by decide) (by decide) (by decide)) he (nx _ (kJ_b (by decide) hJ) (kJ_c (by decide) hC)))
          · exact tr (kJ J 20040) (kJ_out J 20040) (pK6_3_k378 Z hn (kJ_b (by decide) hJ) (kJ_c (by decide) hC) hl hp hb ht ho (kJ_r J 20040 20040 (by decide) (by decide) (by decide)) (kJ_r J 20040 20045 (by decide) (by decide) (by decide)) (kJ_r J 20040 20041 (by decide) (by decide) (by decide)) (kJ_r J 20040 20046 (by decide) (by decide) (by decide)) (kJ_r J 20040 20042 (by decide) (by decide) (by decide)) (kJ_r J 20040 20047 (by decide) (by decide) (by decide)) (kJ_r J 20040 20043 (by decide) (by decide) (by decide)) (kJ_r J 20040 20048 (by decide) (by decide) (by decide)) he (nx _ (kJ_b (by decide) hJ) (kJ_c (by decide) hC)))
      · by_cases hp : lk_np xs L 3 = 1
        · obtain ⟨J', h1, h2⟩ := hcar J hJ hC ht ho
          have hJ' : lb_ok xs L J' := fun i a b => by rw [← h1 i (by omega)]; exact hJ i a b
          have hC' : lc_ok xs L J' := fun i a b => by rw [← h1 i (by omega)]; exact hC i a b
          exact tr J' h1 (pK6_3_k366 Z hn hJ' hC' hl hp hb ht ho h2 (nx J' hJ' hC'))
        · obtain ⟨J', h1, h2⟩ := hcar J hJ hC ht ho
          have hJ' : lb_ok xs L J' := fun i a b => by rw [← h1 i (by omega)]; exact hJ i a b
          have hC' : lc_ok xs L J' := fun i a b => by rw [← h1 i (by omega)]; exact hC i a b
          exact tr J' h1 (pK6_3_k380 Z hn hJ' hC' hl hp hb ht ho h2 (nx J' hJ' hC'))
    · rcases (by omega : lk_x xs L 3 / 3 % 2 = 0 ∨ lk_x xs L 3 / 3 % 2 = 1) with ho | ho
      · by_cases hp : lk_np xs L 3 = 1
        · exfalso
          have hq := lk_np_lt xs L 3
          have := tk_b0 hb ht; omega
        · by_cases he : lk_ns xs L 4 = lk_np xs L 4
          · exact tr (kJ J 20040) (kJ_out J 20040) (pK6_3_k375 Z hn (kJ_b (by decide) hJ) (kJ_c (by decide) hC) hl hp hb ht ho (kJ_r J 20040 20040 (by decide) (by decide) (by decide)) (kJ_r J 20040 20045 (by decide) (by decide) (by decide)) (kJ_r J 20040 20041 (by decide) (by decide) (by decide)) (kJ_r J 20040 20046 (by decide) (by decide) (by decide)) (kJ_r J 20040 20042 (by decide) (by decide) (by decide)) (kJ_r J 20040 20047 (by decide) (by decide) (by decide)) (kJ_r J 20040 20043 (by decide) (by decide) (by decide)) (kJ_r J 20040 20048 (by decide) (by decide) (by decide)) he (nx _ (kJ_b (by decide) hJ) (kJ_c (by decide) hC)))
          · exact tr (kJ J 20040) (kJ_out J 20040) (pK6_3_k374 Z hn (kJ_b (by decide) hJ) (kJ_c (by decide) hC) hl hp hb ht ho (kJ_r J 20040 20040 (by decide) (by decide) (by decide)) (kJ_r J 20040 20045 (by decide) (by decide) (by decide)) (kJ_r J 20040 20041 (by decide) (by decide) (by decide)) (kJ_r J 20040 20046 (by decide) (by decide) (by decide)) (kJ_r J 20040 20042 (by decide) (by decide) (by decide)) (kJ_r J 20040 20047 (by decide) (by decide) (by decide)) (kJ_r J 20040 20043 (by decide) (by decide) (by decide)) (kJ_r J 20040 20048 (by decide) (by decide) (by decide)) he (nx _ (kJ_b (by decide) hJ) (kJ_c (by decide) hC)))
      · by_cases hp : lk_np xs L 3 = 1
        · exfalso
          have hq := lk_np_lt xs L 3
          have := tk_b0 hb ht; omega
        · by_cases he : lk_ns xs L 4 = lk_np xs L 4
          · exact tr (kJ J 20040) (kJ_out J 20040) (pK6_3_k377 Z hn (kJ_b (by decide) hJ) (kJ_c (by decide) hC) hl hp hb ht ho (kJ_r J 20040 20040 (by decide) (by decide) (by decide)) (kJ_r J 20040 20045 (by decide) (by decide) (by decide)) (kJ_r J 20040 20041 (by decide) (by decide) (by decide)) (kJ_r J 20040 20046 (by decide) (by decide) (by decide)) (kJ_r J 20040 20042 (by decide) (by decide) (by decide)) (kJ_r J 20040 20047 (by decide) (by decide) (by decide)) (kJ_r J 20040 20043 (by decide) (by decide) (by decide)) (kJ_r J 20040 20048 (by decide) (by decide) (by decide)) he (nx _ (kJ_b (by decide) hJ) (kJ_c (by decide) hC)))
          · exact tr (kJ J 20040) (kJ_out J 20040) (pK6_3_k376 Z hn (kJ_b (by decide) hJ) (kJ_c (by decide) hC) hl hp hb ht ho (kJ_r J 20040 20040 (by decide) (by decide) (by decide)) (kJ_r J 20040 20045 (by decide) (by decide) (by decide)) (kJ_r J 20040 20041 (by decide) (by decide) (by decide)) (kJ_r J 20040 20046 (by decide) (by decide) (by decide)) (kJ_r J 20040 20042 (by decide) (by decide) (by decide)) (kJ_r J 20040 20047 (by decide) (by decide) (by decide)) (kJ_r J 20040 20043 (by decide) (by decide) (by decide)) (kJ_r J 20040 20048 (by decide) (by decide) (by decide)) he (nx _ (kJ_b (by decide) hJ) (kJ_c (by decide) hC)))
  · by_cases ht : lk_tk xs L 3 = true
    · rcases (by omega : lk_x xs L 3 / 3 % 2 = 0 ∨ lk_x xs L 3 / 3 % 2 = 1) with ho | ho
      · by_cases hp : lk_np xs L 3 = 1
        · by_cases he : lk_ns xs L 4 = lk_np xs L 4
          · exact tr (kJ J 20040) (kJ_out J 20040) (pK6_3_k362 Z hn (kJ_b (by decide) hJ) (kJ_c (by decide) hC) hl hp hb ht ho (kJ_r J 20040 20040 (by decide) (by decide) (by decide)) (kJ_r J 20040 20045 (by decide) (by decide) (by decide)) (kJ_r J 20040 20041 (by decide) (by decide) (by decide)) (kJ_r J 20040 20046 (by decide) (by decide) (by decide)) (kJ_r J 20040 20042 (by decide) (by decide) (by decide)) (kJ_r J 20040 20047 (by decide) (by decide) (by decide)) (kJ_r J 20040 20043 (by decide) (by decide) (by decide)) (kJ_r J 20040 20048 (by decide) (by decide) (by decide)) he (nx _ (kJ_b (by decide) hJ) (kJ_c (by decide) hC)))
          · exact tr (kJ J 20040) (kJ_out J 20040) (pK6_3_k361 Z hn (kJ_b (by decide) hJ) (kJ_c (by decide) hC) hl hp hb ht ho (kJ_r J 20040 20040 (by decide) (by decide) (by decide)) (kJ_r J 20040 20045 (by decide) (by decide) (by decide)) (kJ_r J 20040 20041 (by decide) (by decide) (by decide)) (kJ_r J 20040 20046 (by decide) (by decide) (by decide)) (kJ_r J 20040 20042 (by decide) (by decide) (by decide)) (kJ_r J 20040 20047 (by decide) (by decide) (by decide)) (kJ_r J 20040 20043 (by decide) (by decide) (by decide)) (kJ_r J 20040 20048 (by decide) (by decide) (by decide)) he (nx _ (kJ_b (by decide) hJ) (kJ_c (by decide) hC)))
        · by_cases he : lk_ns xs L 4 = lk_np xs L 4
          · exact tr (kJ J 20040) (kJ_out J 20040) (pK6_3_k372 Z hn (kJ_b (by decide) hJ) (kJ_c (by decide) hC) hl hp hb ht ho (kJ_r J 20040 20040 (by decide) (by decide) (by decide)) (kJ_r J 20040 20045 (by decide) (by decide) (by decide)) (kJ_r J 20040 20041 (by decide) (by decide) (by decide)) (kJ_r J 20040 20046 (by decide) (by decide) (by decide)) (kJ_r J 20040 20042 (by decide) (by decide) (by decide)) (kJ_r J 20040 20047 (by decide) (by decide) (by decide)) (kJ_r J 20040 20043 (by decide) (by decide) (by decide)) (kJ_r J 20040 20048 (by decide) (by decide) (by decide)) he (nx _ (kJ_b (by decide) hJ) (kJ_c (by decide) hC)))
          · exact tr (kJ J 20040) (kJ_out J 20040) (pK6_3_k371 Z hn (kJ_b (by decide) hJ) (kJ_c (by decide) hC) hl hp hb ht ho (kJ_r J 20040 20040 (by decide) (by decide) (by decide)) (kJ_r J 20040 20045 (by decide) (by decide) (by decide)) (kJ_r J 20040 20041 (by decide) (by decide) (by decide)) (kJ_r J 20040 20046 (by decide) (by decide) (by decide)) (kJ_r J 20040 20042 (by decide) (by decide) (by decide)) (kJ_r J 20040 20047 (by decide) (by decide) (by decide)) (kJ_r J 20040 20043 (by decide) (by decide) (by decide)) (kJ_r J 20040 20048 (by decide) (by decide) (by decide)) he (nx _ (kJ_b (by decide) hJ) (kJ_c (by decide) hC)))
      · by_cases hp : lk_np xs L 3 = 1
        · obtain ⟨J', h1, h2⟩ := hcar J hJ hC ht ho
          have hJ' : lb_ok xs L J' := fun i a b => by rw [← h1 i (by omega)]; exact hJ i a b
          have hC' : lc_ok xs L J' := fun i a b => by rw [← h1 i (by omega)]; exact hC i a b
          exact tr J' h1 (pK6_3_k363 Z hn hJ' hC' hl hp hb ht ho h2 (nx J' hJ' hC'))
        · obtain ⟨J', h1, h2⟩ := hcar J hJ hC ht ho
          have hJ' : lb_ok xs L J' := fun i a b => by rw [← h1 i (by omega)]; exact hJ i a b
          have hC' : lc_ok xs L J' := fun i a b => by rw [← h1 i (by omega)]; exact hC i a b
          exact tr J' h1 (pK6_3_k373 Z hn hJ' hC' hl hp hb ht ho h2 (nx J' hJ' hC'))
    · rcases (by omega : lk_x xs L 3 / 3 % 2 = 0 ∨ lk_x xs L 3 / 3 % 2 = 1) with ho | ho
      · by_cases hp : lk_np xs L 3 = 1
        · exfalso
          have hq := lk_np_lt xs L 3
          have := tk_f0 hb ht; omega
        · by_cases he : lk_ns xs L 4 = lk_np xs L 4
          · exact tr (kJ J 20040) (kJ_out J 20040) (pK6_3_k368 Z hn (kJ_b (by decide) hJ) (kJ_c (by decide) hC) hl hp hb ht ho (kJ_r J 20040 20040 (by decide) (by decide) (by decide)) (kJ_r J 20040 20045 (by decide) (by decide) (by decide)) (kJ_r J 20040 20041 (by decide) (by decide) (by decide)) (kJ_r J 20040 20046 (by decide) (by decide) (by decide)) (kJ_r J 20040 20042 (by decide) (by decide) (by decide)) (kJ_r J 20040 20047 (by decide) (by decide) (by decide)) (kJ_r J 20040 20043 (by decide) (by decide) (by decide)) (kJ_r J 20040 20048 (by decide) (by decide) (by decide)) he (nx _ (kJ_b (by decide) hJ) (kJ_c (by decide) hC)))
          · exact tr (kJ J 20040) (kJ_out J 20040) (pK6_3_k367 Z hn (kJ_b (by decide) hJ) (kJ_c (by decide) hC) hl hp hb ht ho (kJ_r J 20040 20040 (by decide) (by decide) (by decide)) (kJ_r J 20040 20045 (by decide) (by decide) (by decide)) (kJ_r J 20040 20041 (by decide) (by decide) (by decide)) (kJ_r J 20040 20046 (by decide) (by decide) (by decide)) (kJ_r J 20040 20042 (by decide) (by decide) (by decide)) (kJ_r J 20040 20047 (by decide) (by decide) (by decide)) (kJ_r J 20040 20043 (by decide) (by decide) (by decide)) (kJ_r J 20040 20048 (by decide) (by decide) (by decide)) he (nx _ (kJ_b (by decide) hJ) (kJ_c (by decide) hC)))
      · by_cases hp : lk_np xs L 3 = 1
        · exfalso
          have hq := lk_np_lt xs L 3
          have := tk_f0 hb ht; omega
        · by_cases he : lk_ns xs L 4 = lk_np xs L 4
          · exact tr (kJ J 20040) (kJ_out J 20040) (pK6_3_k370 Z hn (kJ_b (by decide) hJ) (kJ_c (by decide) hC) hl hp hb ht ho (kJ_r J 20040 20040 (by decide) (by decide) (by decide)) (kJ_r J 20040 20045 (by decide) (by decide) (by decide)) (kJ_r J 20040 20041 (by decide) (by decide) (by decide)) (kJ_r J 20040 20046 (by decide) (by decide) (by decide)) (kJ_r J 20040 20042 (by decide) (by decide) (by decide)) (kJ_r J 20040 20047 (by decide) (by decide) (by decide)) (kJ_r J 20040 20043 (by decide) (by decide) (by decide)) (kJ_r J 20040 20048 (by decide) (by decide) (by decide)) he (nx _ (kJ_b (by decide) hJ) (kJ_c (by decide) hC)))
          · exact tr (kJ J 20040) (kJ_out J 20040) (pK6_3_k369 Z hn (kJ_b (by decide) hJ) (kJ_c (by decide) hC) hl hp hb ht ho (kJ_r J 20040 20040 (by decide) (by decide) (by decide)) (kJ_r J 20040 20045 (by decide) (by decide) (by decide)) (kJ_r J 20040 20041 (by decide) (by decide) (by decide)) (kJ_r J 20040 20046 (by decide) (by decide) (by decide)) (kJ_r J 20040 20042 (by decide) (by decide) (by decide)) (kJ_r J 20040 20047 (by decide) (by decide) (by decide)) (kJ_r J 20040 20043 (by decide) (by decide) (by decide)) (kJ_r J 20040 20048 (by decide) (by decide) (by decide)) he (nx _ (kJ_b (by decide) hJ) (kJ_c (by decide) hC)))
theorem hK6_2 (Z : lw_W sv mt xs L lam dd) (hn : lx_nv xs L = 6) (hl : lc_l lam) (hL : (lam 0).toNatClampNeg ≤ 1000) (hcar : ∀ J, lb_ok xs L J → lc_ok xs L J → lk_tk xs L 2 = true → lk_x xs L 2 / 3 % 2 = 1 → ∃ J', (∀ i, i < 20030 ∨ 20030 + 10 ≤ i → J i = J' i) ∧ ∀ α, sg_ct sv mt 35 (lx_r xs L J', lam, α) kT6_2) (nx : ∀ J, lb_ok xs L J → lc_ok xs L J → lw_P sv mt xs L J lam dd n0 s0 Q 1326 l_K6_3 g_K6_3 494 3488) (J : Nat → Int32) (hJ : lb_ok xs L J) (hC : lc_ok xs L J) : lw_P sv mt xs L J lam dd n0 s0 Q 1326 l_K6_2 g_K6_2 489 3475 := by
  have tr : ∀ J' : Nat → Int32, (∀ i, i < 20030 ∨ 20030 + 10 ≤ i → J i = J' i) → lw_P sv mt xs L J' lam dd n0 s0 Q 1326 l_K6_2 g_K6_2 489 3475 → lw_P sv mt xs L J lam dd n0 s0 Q 1326 l_K6_2 g_K6_2 489 3475 := fun J' h P => lw_P_J (lo := 20030) (hi := 20030 + 10) h (by decide) hL (by decide +kernel) (by decide +kernel) P
  by_cases hb : lk_x xs L 2 % 3 = 0
  · by_cases ht : lk_tk xs L 2 = true
    · rcases (by omega : lk_x xs L 2 / 3 % 2 = 0 ∨ lk_x xs L 2 / 3 % 2 = 1) with ho | ho
      · by_cases hp : lk_np xs L 2 = 1
        · by_cases he : lk_ns xs L 3 = lk_np xs L 3
          · exact tr (kJ J 20030) (kJ_out J 20030) (pK6_2_k345 Z hn (kJ_b (by decide) hJ) (kJ_c (by decide) hC) hl hp hb ht ho (kJ_r J 20030 20030 (by decide) (by decide) (by decide)) (kJ_r J 20030 20035 (by decide) (by decide) (by decide)) (kJ_r J 20030 20031 (by decide) (by decide) (by decide)) (kJ_r J 20030 20036 (by decide) (by decide) (by decide)) (kJ_r J 20030 20032 (by decide) (by decide) (by decide)) (kJ_r J 20030 20037 (by decide) (by decide) (by decide)) (kJ_r J 20030 20033 (by decide) (by decide) (by decide)) (kJ_r J 20030 20038 (by decide) (by decide) (by decide)) he (nx _ (kJ_b (by decide) hJ) (kJ_c (by decide) hC)))
          · exact tr (kJ J 20030) (kJ_out J 20030) (pK6_2_k344 Z hn (kJ_b (by decide) hJ) (kJ_c (by decide) hC) hl hp hb ht ho (kJ_r J 20030 20030 (by decide) (by decide) (by decide)) (kJ_r J 20030 20035 (by decide) (by decide) (by decide)) (kJ_r J 20030 20031 (by decide) (by decide) (by decide)) (kJ_r J 20030 20036 (by decide) (by decide) (by decide)) (kJ_r J 20030 20032 (by decide) (by decide) (by decide)) (kJ_r J 20030 20037 (by decide) (by decide) (by decide)) (kJ_r J 20030 20033 (by decide) (by decide) (by decide)) (kJ_r J 20030 20038 (by decide) (by decide) (by decide)) he (nx _ (kJ_b (by decide) hJ) (kJ_c (by decide) hC)))
        · by_cases he : lk_ns xs L 3 = lk_np xs L 3
          · exact tr (kJ J 20030) (kJ_out J 20030) (pK6_2_k359 Z hn (kJ_b (by decide) hJ) (kJ_c (by decide) hC) hl hp hb ht ho (kJ_r J 20030 20030 (by decide) (by decide) (by decide)) (kJ_r J 20030 20035 (by decide) (by decide) (by decide)) (kJ_r J 20030 20031 (by decide) (by decide) (by decide)) (kJ_r J 20030 20036 (by decide) (by decide) (by decide)) (kJ_r J 20030 20032 (by decide) (by decide) (by decide)) (kJ_r J 20030 20037 (by decide) (by decide) (by decide)) (kJ_r J 20030 20033 (by decide) (by decide) (by decide)) (kJ_r J 20030 20038 (by decide) (by decide) (by decide)) he (nx _ (kJ_b (by decide) hJ) (kJ_c (by decide) hC)))
          · exact tr (kJ J 20030) (kJ_out J 20030) (pK6_2_k358 Z hn (kJ_b (by decide) hJ) (kJ_c (by decide) hC) hl hp hb ht ho (kJ_r J 20030 20030 (by decide) (by decide) (by decide)) (kJ_r J 20030 20035 (by decide) (by decide) (by decide)) (kJ_r J 20030 20031 (by decide) (by decide) (by decide)) (kJ_r J 20030 20036 (by decide) (by decide) (by decide)) (kJ_r J 20030 20032 (by decide) (by decide) (by decide)) (kJ_r J 20030 20037 (by decide) (by decide) (by decide)) (kJ_r J 20030 20033 (by decide) (by decide) (by decide)) (kJ_r J 20030 20038 (by decide) (by decide) (by decide)) he (nx _ (kJ_b (by decide) hJ) (kJ_c (by decide) hC)))
      · by_cases hp : lk_np xs L 2 = 1
        · obtain ⟨J', h1, h2⟩ := hcar J hJ hC ht ho
          have hJ' : lb_ok xs L J' := fun i a b => by rw [← h1 i (by omega)]; exact hJ i a b
          have hC' : lc_ok xs L J' := fun i a b => by rw [← h1 i (by omega)]; exact hC i a b
          exact tr J' h1 (pK6_2_k346 Z hn hJ' hC' hl hp hb ht ho h2 (nx J' hJ' hC'))
        · obtain ⟨J', h1, h2⟩ := hcar J hJ hC ht ho
          have hJ' : lb_ok xs L J' := fun i a b => by rw [← h1 i (by omega)]; exact hJ i a b
          have hC' : lc_ok xs L J' := fun i a b => by rw [← h1 i (by omega)]; exact hC i a b
          exact tr J' h1 (pK6_2_k360 Z hn hJ' hC' hl hp hb ht ho h2 (nx J' hJ' hC'))
    · rcases (by omega : lk_x xs L 2 / 3 % 2 = 0 ∨ lk_x xs L 2 / 3 % 2 = 1) with ho | ho
      · by_cases hp : lk_np xs L 2 = 1
        · exfalso
          have hq := lk_np_lt xs L 2
          have := tk_b0 hb ht; omega
        · by_cases he : lk_ns xs L 3 = lk_np xs L 3
          · exact tr (kJ J 20030) (kJ_out J 20030) (pK6_2_k355 Z hn (kJ_b (by decide) hJ) (kJ_c (by decide) hC) hl hp hb ht ho (kJ_r J 20030 20030 (by decide) (by decide) (by decide)) (kJ_r J 20030 20035 (by decide) (by decide) (by decide)) (kJ_r J 20030 20031 (by decide) (by decide) (by decide)) (kJ_r J 20030 20036 (by decide) (by decide) (by decide)) (kJ_r J 20030 20032 (by decide) (by decide) (by decide)) (kJ_r J 20030 20037 (by decide) (by decide) (by decide)) (kJ_r J 20030 20033 (by decide) (by decide) (by decide)) (kJ_r J 20030 20038 (by decide) (by decide) (by decide)) he (nx _ (kJ_b (by decide) hJ) (kJ_c (by decide) hC)))
          · exact tr (kJ J 20030) (kJ_out J 20030) (pK6_2_k354 Z hn (kJ_b (by decide) hJ) (kJ_c (by decide) hC) hl hp hb ht ho (kJ_r J 20030 20030 (by decide) (by decide) (by decide)) (kJ_r J 20030 20035 (by decide) (by decide) (by decide)) (kJ_r J 20030 20031 (by decide) (by decide) (by decide)) (kJ_r J 20030 20036 (by decide) (by decide) (by decide)) (kJ_r J 20030 20032 (by decide) (by decide) (by decide)) (kJ_r J 20030 20037 (by decide) (by decide) (by decide)) (kJ_r J 20030 20033 (by decide) (by decide) (by decide)) (kJ_r J 20030 20038 (by decide) (by decide) (by decide)) he (nx _ (kJ_b (by decide) hJ) (kJ_c (by decide) hC)))
      · by_cases hp : lk_np xs L 2 = 1
        · exfalso
          have hq := lk_np_lt xs L 2
          have := tk_b0 hb ht; omega
        · by_cases he : lk_ns xs L 3 = lk_np xs L 3
          · exact tr (kJ J 20030) (kJ_out J 20030) (pK6_2_k357 Z hn (kJ_b (by decide) hJ) (kJ_c (by decide) hC) hl hp hb ht ho (kJ_r J 20030 20030 (by decide) (by decide) (by decide)) (kJ_r J 20030 20035 (by decide) (by decide) (by decide)) (kJ_r J 20030 20031 (by decide) (by decide) (by decide)) (kJ_r J 20030 20036 (by decide) (by decide) (by decide)) (kJ_r J 20030 20032 (by decide) (by decide) (by decide)) (kJ_r J 20030 20037 (by decide) (by decide) (by decide)) (kJ_r J 20030 20033 (by decide) (by decide) (by decide)) (kJ_r J 20030 20038 (by decide) (by decide) (by decide)) he (nx _ (kJ_b (by decide) hJ) (kJ_c (by decide) hC)))
          · exact tr (kJ J 20030) (kJ_out J 20030) (pK6_2_k356 Z hn (kJ_b (by decide) hJ) (kJ_c (by decide) hC) hl hp hb ht ho (kJ_r J 20030 20030 (by decide) (by decide) (by decide)) (kJ_r J 20030 20035 (by decide) (by decide) (by decide)) (kJ_r J 20030 20031 (by decide) (by decide) (by decide)) (kJ_r J 20030 20036 (by decide) (by decide) (by decide)) (kJ_r J 20030 20032 (by decide) (by decide) (by decide)) (kJ_r J 20030 20037 (by decide) (by decide) (by decide)) (kJ_r J 20030 20033 (by decide) (by decide) (by decide)) (kJ_r J 20030 20038 (by decide) (by decide) (by decide)) he (nx _ (kJ_b (by decide) hJ) (kJ_c (by decide) hC)))
  · by_cases ht : lk_tk xs L 2 = true
    · rcases (by omega : lk_x xs L 2 / 3 % 2 = 0 ∨ lk_x xs L 2 / 3 % 2 = 1) with ho | ho
      · by_cases hp : lk_np xs L 2 = 1
        · by_cases he : lk_ns xs L 3 = lk_np xs L 3
          · exact tr (kJ J 20030) (kJ_out J 20030) (pK6_2_k342 Z hn (kJ_b (by decide) hJ) (kJ_c (by decide) hC) hl hp hb ht ho (kJ_r J 20030 20030 (by decide) (by decide) (by decide)) (kJ_r J 20030 20035 (by decide) (by decide) (by decide)) (kJ_r J 20030 20031 (by decide) (by decide) (by decide)) (kJ_r J 20030 20036 (by decide) (by decide) (by decide)) (kJ_r J 20030 20032 (by decide) (by decide) (by decide)) (kJ_r J 20030 20037 (by decide) (by decide) (by decide)) (kJ_r J 20030 20033 (by decide) (by decide) (by decide)) (kJ_r J 20030 20038 (by decide) (by decide) (by decide)) he (nx _ (kJ_b (by decide) hJ) (kJ_c (by decide) hC)))
          · exact tr (kJ J 20030) (kJ_out J 20030) (pK6_2_k341 Z hn (kJ_b (by decide) hJ) (kJ_c (by decide) hC) hl hp hb ht ho (kJ_r J 20030 20030 (by decide) (by decide) (by decide)) (kJ_r J 20030 20035 (by decide) (by decide) (by decide)) (kJ_r J 20030 20031 (by decide) (by decide) (by decide)) (kJ_r J 20030 20036 (by decide) (by decide) (by decide)) (kJ_r J 20030 20032 (by decide) (by decide) (by decide)) (kJ_r J 20030 20037 (by decide) (by decide) (by decide)) (kJ_r J 20030 20033 (by decide) (by decide) (by decide)) (kJ_r J 20030 20038 (by decide) (by decide) (by decide)) he (nx _ (kJ_b (by decide) hJ) (kJ_c (by decide) hC)))
        · by_cases he : lk_ns xs L 3 = lk_np xs L 3
          · exact tr (kJ J 20030) (kJ_out J 20030) (pK6_2_k352 Z hn (kJ_b (by decide) hJ) (kJ_c (by decide) hC) hl hp hb ht ho (kJ_r J 20030 20030 (by decide) (by decide) (by decide)) (kJ_r J 20030 20035 (by decide) (by decide) (by decide)) (kJ_r J 20030 20031 (by decide) (by decide) (by decide)) (kJ_r J 20030 20036 (by decide) (by decide) (by decide)) (kJ_r J 20030 20032 (by decide) (by decide) (by decide)) (kJ_r J 20030 20037 (by decide) (by decide) (by decide)) (kJ_r J 20030 20033 (by decide) (by decide) (by decide)) (kJ_r J 20030 20038 (by decide) (by decide) (by decide)) he (nx _ (kJ_b (by decide) hJ) (kJ_c (by decide) hC)))
          · exact tr (kJ J 20030) (kJ_out J 20030) (pK6_2_k351 Z hn (kJ_b (by decide) hJ) (kJ_c (by decide) hC) hl hp hb ht ho (kJ_r J 20030 20030 (by decide) (by decide) (by decide)) (kJ_r J 20030 20035 (by decide) (by decide) (by decide)) (kJ_r J 20030 20031 (by decide) (by decide) (by decide)) (kJ_r J 20030 20036 (by decide) (by decide) (by decide)) (kJ_r J 20030 20032 (by decide) (by decide) (by decide)) (kJ_r J 20030 20037 (by decide) (by decide) (by decide)) (kJ_r J 20030 20033 (by decide) (by decide) (by decide)) (kJ_r J 20030 20038 (by decide) (by decide) (by decide)) he (nx _ (kJ_b (by decide) hJ) (kJ_c (by decide) hC)))
      · by_cases hp : lk_np xs L 2 = 1
        · obtain ⟨J', h1, h2⟩ := hcar J hJ hC ht ho
          have hJ' : lb_ok xs L J' := fun i a b => by rw [← h1 i (by omega)]; exact hJ i a b
          have hC' : lc_ok xs L J' := fun i a b => by rw [← h1 i (by omega)]; exact hC i a b
          exact tr J' h1 (pK6_2_k343 Z hn hJ' hC' hl hp hb ht ho h2 (nx J' hJ' hC'))
        · obtain ⟨J', h1, h2⟩ := hcar J hJ hC ht ho
          have hJ' : lb_ok xs L J' := fun i a b => by rw [← h1 i (by omega)]; exact hJ i a b
          have hC' : lc_ok xs L J' := fun i a b => by rw [← h1 i (by omega)]; exact hC i a b
          exact tr J' h1 (pK6_2_k353 Z hn hJ' hC' hl hp hb ht ho h2 (nx J' hJ' hC'))
    · rcases (by omega : lk_x xs L 2 / 3 % 2 = 0 ∨ lk_x xs L 2 / 3 % 2 = 1) with ho | ho
      · by_cases hp : lk_np xs L 2 = 1
        · exfalso
          have hq := lk_np_lt xs L 2
          have := tk_f0 hb ht; omega
        · by_cases he : lk_ns xs L 3 = lk_np xs L 3
          · exact tr (kJ J 20030) (kJ_out J 20030) (pK6_2_k348 Z hn (kJ_b (by decide) hJ) (kJ_c (by decide) hC) hl hp hb ht ho (kJ_r J 20030 20030 (by decide) (by decide) (by decide)) (kJ_r J 20030 20035 (by decide) (by decide) (by decide)) (kJ_r J 20030 20031 (by decide) (by decide) (by decide)) (kJ_r J 20030 20036 (by decide) (by decide) (by decide)) (kJ_r J 20030 20032 (by decide) (by decide) (by decide)) (kJ_r J 20030 20037 (by decide) (by decide) (by decide)) (kJ_r J 20030 20033 (by decide) (by decide) (by decide)) (kJ_r J 20030 20038 (by decide) (by decide) (by decide)) he (nx _ (kJ_b (by decide) hJ) (kJ_c (by decide) hC)))
          · exact tr (kJ J 20030) (kJ_out J 20030) (pK6_2_k347 Z hn (kJ_b (by decide) hJ) (kJ_c (by decide) hC) hl hp hb ht ho (kJ_r J 20030 20030 (by decide) (by decide) (by decide)) (kJ_r J 20030 20035 (by decide) (by decide) (by decide)) (kJ_r J 20030 20031 (by decide) (by decide) (by decide)) (kJ_r J 20030 20036 (by decide) (by decide) (by decide)) (kJ_r J 20030 20032 (by decide) (by decide) (by decide)) (kJ_r J 20030 20037 (by decide) (by decide) (by decide)) (kJ_r J 20030 20033 (by decide) (by decide) (by decide)) (kJ_r J 20030 20038 (by decide) (by decide) (by decide)) he (nx _ (kJ_b (by decide) hJ) (kJ_c (by decide) hC)))
      · by_cases hp : lk_np xs L 2 = 1
        · exfalso
          have hq := lk_np_lt xs L 2
          have := tk_f0 hb ht; omega
        · by_cases he : lk_ns xs L 3 = lk_np xs L 3
          · exact tr (kJ J 20030) (kJ_out J 20030) (pK6_2_k350 Z hn (kJ_b (by decide) hJ) (kJ_c (by decide) hC) hl hp hb ht ho (kJ_r J 20030 20030 (by decide) (by decide) (by decide)) (kJ_r J 20030 20035 (by decide) (by decide) (by decide)) (kJ_r J 20030 20031 (by decide) (by decide) (by decide)) (kJ_r J 20030 20036 (by decide) (by decide) (by decide)) (kJ_r J 20030 20032 (by decide) (by decide) (by decide)) (kJ_r J 20030 20037 (by decide) (by decide) (by decide)) (kJ_r J 20030 20033 (by decide) (by decide) (by decide)) (kJ_r J 20030 20038 (by decide) (by decide) (by decide)) he (nx _ (kJ_b (by decide) hJ) (kJ_c (by decide) hC)))
          · exact tr (kJ J 20030) (kJ_out J 20030) (pK6_2_k349 Z hn (kJ_b (by decide) hJ) (kJ_c (by decide) hC) hl hp hb ht ho (kJ_r J 20030 20030 (by decide) (by decide) (by decide)) (kJ_r J 20030 20035 (by decide) (by decide) (by decide)) (kJ_r J 20030 20031 (by decide) (by decide) (by decide)) (kJ_r J 20030 20036 (by decide) (by decide) (by decide)) (kJ_r J 20030 20032 (by decide) (by decide) (by decide)) (kJ_r J 20030 20037 (by decide) (by decide) (by decide)) (kJ_r J 20030 20033 (by decide) (by decide) (by decide)) (kJ_r J 20030 20038 (by decide) (by decide) (by decide)) he (nx _ (kJ_b (by decide) hJ) (kJ_c (by decide) hC)))
theorem hK6_1 (Z : lw_W sv mt xs L lam dd) (hn : lx_nv xs L = 6) (hl : lc_l lam) (hL : (lam 0).toNatClampNeg ≤ 1000) (hcar : ∀ J, lb_ok xs L J → lc_ok xs L J → lk_tk xs L 1 = true → lk_x xs L 1 / 3 % 2 = 1 → ∃ J', (∀ i, i < 20020 ∨ 20020 + 10 ≤ i → J i = J' i) ∧ ∀ α, sg_ct sv mt 35 (lx_r xs L J', lam, α) kT6_1) (nx : ∀ J, lb_ok xs L J → lc_ok xs L J → lw_P sv mt xs L J lam dd n0 s0 Q 1326 l_K6_2 g_K6_2 489 3475) (J : Nat → Int32) (hJ : lb_ok xs L J) (hC : lc_ok xs L J) : lw_P sv mt xs L J lam dd n0 s0 Q 1326 l_K6_1 g_K6_1 484 3462 := by
  have tr : ∀ J' : Nat → Int32, (∀ i, i < 20020 ∨ 20020 + 10 ≤ i → J i = J' i) → lw_P sv mt xs L J' lam dd n0 s0 Q 1326 l_K6_1 g_K6_1 484 3462 → lw_P sv mt xs L J lam dd n0 s0 Q 1326 l_K6_1 g_K6_1 484 3462 := fun J' h P => lw_P_J (lo := 20020) (hi := 20020 + 10) h (by decide) hL (by decide +kernel) (by decide +kernel) P
  by_cases hb : lk_x xs L 1 % 3 = 0
  · by_cases ht : lk_tk xs L 1 = true
    · rcases (by omega : lk_x xs L 1 / 3 % 2 = 0 ∨ lk_x xs L 1 / 3 % 2 = 1) with ho | ho
      · by_cases hp : lk_np xs L 1 = 1
        · by_cases he : lk_ns xs L 2 = lk_np xs L 2
          · exact tr (kJ J 20020) (kJ_out J 20020) (pK6_1_k325 Z hn (kJ_b (by decide) hJ) (kJ_c (by decide) hC) hl hp hb ht ho (kJ_r J 20020 20020 (by decide) (by decide) (by decide)) (kJ_r J 20020 20025 (by decide) (by decide) (by decide)) (kJ_r J 20020 20021 (by decide) (by decide) (by decide)) (kJ_r J 20020 20026 (by decide) (by decide) (by decide)) (kJ_r J 20020 20022 (by decide) (by decide) (by decide)) (kJ_r J 20020 20027 (by decide) (by decide) (by decide)) (kJ_r J 20020 20023 (by decide) (by decide) (by decide)) (kJ_r J 20020 20028 (by decide) (by decide) (by decide)) he (nx _ (kJ_b (by decide) hJ) (kJ_c (by decide) hC)))
          · exact tr (kJ J 20020) (kJ_out J 20020) (pK6_1_k324 Z hn (kJ_b (by decide) hJ) (kJ_c (by decide) hC) hl hp hb ht ho (kJ_r J 20020 20020 (by decide) (by decide) (by decide)) (kJ_r J 20020 20025 (by decide) (by decide) (by decide)) (kJ_r J 20020 20021 (by decide) (by decide) (by decide)) (kJ_r J 20020 20026 (by decide) (by decide) (by decide)) (kJ_r J 20020 20022 (by decide) (by decide) (by decide)) (kJ_r J 20020 20027 (by decide) (by decide) (by decide)) (kJ_r J 20020 20023 (by decide) (by decide) (by decide)) (kJ_r J 20020 20028 (by decide) (by decide) (by decide)) he (nx _ (kJ_b (by decide) hJ) (kJ_c (by decide) hC)))
        · by_cases he : lk_ns xs L 2 = lk_np xs L 2
          · exact tr (kJ J 20020) (kJ_out J 20020) (pK6_1_k339 Z hn (kJ_b (by decide) hJ) (kJ_c (by decide) hC) hl hp hb ht ho (kJ_r J 20020 20020 (by decide) (by decide) (by decide)) (kJ_r J 20020 20025 (by decide) (by decide) (by decide)) (kJ_r J 20020 20021 (by decide) (by decide) (by decide)) (kJ_r J 20020 20026 (by decide) (by decide) (by decide)) (kJ_r J 20020 20022 (by decide) (by decide) (by decide)) (kJ_r J 20020 20027 (by decide) (by decide) (by decide)) (kJ_r J 20020 20023 (by decide) (by decide) (by decide)) (kJ_r J 20020 20028 (by decide) (by decide) (by decide)) he (nx _ (kJ_b (by decide) hJ) (kJ_c (by decide) hC)))
          · exact tr (kJ J 20020) (kJ_out J 20020) (pK6_1_k338 Z hn (kJ_b (by decide) hJ) (kJ_c (by decide) hC) hl hp hb ht ho (kJ_r J 20020 20020 (by decide) (by decide) (by decide)) (kJ_r J 20020 20025 (by decide) (by decide) (by decide)) (kJ_r J 20020 20021 (by decide) (by decide) (by decide)) (kJ_r J 20020 20026 (by decide) (by decide) (by decide)) (kJ_r J 20020 20022 (by decide) (by decide) (by decide)) (kJ_r J 20020 20027 (by decide) (by decide) (by decide)) (kJ_r J 20020 20023 (by decide) (by decide) (by decide)) (kJ_r J 20020 20028 (by decide) (by decide) (by decide)) he (nx _ (kJ_b (by decide) hJ) (kJ_c (by decide) hC)))
      · by_cases hp : lk_np xs L 1 = 1
        · obtain ⟨J', h1, h2⟩ := hcar J hJ hC ht ho
          have hJ' : lb_ok xs L J' := fun i a b => by rw [← h1 i (by omega)]; exact hJ i a b
          have hC' : lc_ok xs L J' := fun i a b => by rw [← h1 i (by omega)]; exact hC i a b
          exact tr J' h1 (pK6_1_k326 Z hn hJ' hC' hl hp hb ht ho h2 (nx J' hJ' hC'))
        · obtain ⟨J', h1, h2⟩ := hcar J hJ hC ht ho
          have hJ' : lb_ok xs L J' := fun i a b => by rw [← h1 i (by omega)]; exact hJ i a b
          have hC' : lc_ok xs L J' := fun i a b => by rw [← h1 i (by omega)]; exact hC i a b
          exact tr J' h1 (pK6_1_k340 Z hn hJ' hC' hl hp hb ht ho h2 (nx J' hJ' hC'))
    · rcases (by omega : lk_x xs L 1 / 3 % 2 = 0 ∨ lk_x xs L 1 / 3 % 2 = 1) with ho | ho
      · by_cases hp : lk_np xs L 1 = 1
        · exfalso
          have hq := lk_np_lt xs L 1
          have := tk_b0 hb ht; omega
        · by_cases he : lk_ns xs L 2 = lk_np xs L 2
          · exact tr (kJ J 20020) (kJ_out J 20020) (pK6_1_k335 Z hn (kJ_b (by decide) hJ) (kJ_c (by decide) hC) hl hp hb ht ho (kJ_r J 20020 20020 (by decide) (by decide) (by decide)) (kJ_r J 20020 20025 (by decide) (by decide) (by decide)) (kJ_r J 20020 20021 (by decide) (by decide) (by decide)) (kJ_r J 20020 20026 (by decide) (by decide) (by decide)) (kJ_r J 20020 20022 (by decide) (by decide) (by decide)) (kJ_r J 20020 20027 (by decide) (by decide) (by decide)) (kJ_r J 20020 20023 (by decide) (by decide) (by decide)) (kJ_r J 20020 20028 (by decide) (by decide) (by decide)) he (nx _ (kJ_b (by decide) hJ) (kJ_c (by decide) hC)))
          · exact tr (kJ J 20020) (kJ_out J 20020) (pK6_1_k334 Z hn (kJ_b (by decide) hJ) (kJ_c (by decide) hC) hl hp hb ht ho (kJ_r J 20020 20020 (by decide) (by decide) (by decide)) (kJ_r J 20020 20025 (by decide) (by decide) (by decide)) (kJ_r J 20020 20021 (by decide) (by decide) (by decide)) (kJ_r J 20020 20026 (by decide) (by decide) (by decide)) (kJ_r J 20020 20022 (by decide) (by decide) (by decide)) (kJ_r J 20020 20027 (by decide) (by decide) (by decide)) (kJ_r J 20020 20023 (by decide) (by decide) (by decide)) (kJ_r J 20020 20028 (by decide) (by decide) (by decide)) he (nx _ (kJ_b (by decide) hJ) (kJ_c (by decide) hC)))
      · by_cases hp : lk_np xs L 1 = 1
        · exfalso
          have hq := lk_np_lt xs L 1
          have := tk_b0 hb ht; omega
        · by_cases he : lk_ns xs L 2 = lk_np xs L 2
          · exact tr (kJ J 20020) (kJ_out J 20020) (pK6_1_k337 Z hn (kJ_b (by decide) hJ) (kJ_c (by decide) hC) hl hp hb ht ho (kJ_r J 20020 20020 (by decide) (by decide) (by decide)) (kJ_r J 20020 20025 (by decide) (by decide) (by decide)) (kJ_r J 20020 20021 (by decide) (by decide) (by decide)) (kJ_r J 20020 20026 (by decide) (by decide) (by decide)) (kJ_r J 20020 20022 (by decide) (by decide) (by decide)) (kJ_r J 20020 20027 (by decide) (by decide) (by decide)) (kJ_r J 20020 20023 (by decide) (by decide) (by decide)) (kJ_r J 20020 20028 (by decide) (by decide) (by decide)) he (nx _ (kJ_b (by decide) hJ) (kJ_c (by decide) hC)))
          · exact tr (kJ J 20020) (kJ_out J 20020) (pK6_1_k336 Z hn (kJ_b (by decide) hJ) (kJ_c (by decide) hC) hl hp hb ht ho (kJ_r J 20020 20020 (by decide) (by decide) (by decide)) (kJ_r J 20020 20025 (by decide) (by decide) (by decide)) (kJ_r J 20020 20021 (by decide) (by decide) (by decide)) (kJ_r J 20020 20026 (by decide) (by decide) (by decide)) (kJ_r J 20020 20022 (by decide) (by decide) (by decide)) (kJ_r J 20020 20027 (by decide) (by decide) (by decide)) (kJ_r J 20020 20023 (by decide) (by decide) (by decide)) (kJ_r J 20020 20028 (by decide) (by decide) (by decide)) he (nx _ (kJ_b (by decide) hJ) (kJ_c (by decide) hC)))
  · by_cases ht : lk_tk xs L 1 = true
    · rcases (by omega : lk_x xs L 1 / 3 % 2 = 0 ∨ lk_x xs L 1 / 3 % 2 = 1) with ho | ho
      · by_cases hp : lk_np xs L 1 = 1
        · by_cases he : lk_ns xs L 2 = lk_np xs L 2
          · exact tr (kJ J 20020) (kJ_out J 20020) (pK6_1_k322 Z hn (kJ_b (by decide) hJ) (kJ_c (by decide) hC) hl hp hb ht ho (kJ_r J 20020 20020 (by decide) (by decide) (by decide)) (kJ_r J 20020 20025 (by decide) (by decide) (by decide)) (kJ_r J 20020 20021 (by decide) (by decide) (by decide)) (kJ_r J 20020 20026 (by decide) (by decide) (by decide)) (kJ_r J 20020 20022 (by decide) (by decide) (by decide)) (kJ_r J 20020 20027 (by decide) (by decide) (by decide)) (kJ_r J 20020 20023 (by decide) (by decide) (by decide)) (kJ_r J 20020 20028 (by decide) (by decide) (by decide)) he (nx _ (kJ_b (by decide) hJ) (kJ_c (by decide) hC)))
          · exact tr (kJ J 20020) (kJ_out J 20020) (pK6_1_k321 Z hn (kJ_b (by decide) hJ) (kJ_c (by decide) hC) hl hp hb ht ho (kJ_r J 20020 20020 (by decide) (by decide) (by decide)) (kJ_r J 20020 20025 (by decide) (by decide) (by decide)) (kJ_r J 20020 20021 (by decide) (by decide) (by decide)) (kJ_r J 20020 20026 (by decide) (by decide) (by decide)) (kJ_r J 20020 20022 (by decide) (by decide) (by decide)) (kJ_r J 20020 20027 (by decide) (by decide) (by decide)) (kJ_r J 20020 20023 (by decide) (by decide) (by decide)) (kJ_r J 20020 20028 (by decide) (by decide) (by decide)) he (nx _ (kJ_b (by decide) hJ) (kJ_c (by decide) hC)))
        · by_cases he : lk_ns xs L 2 = lk_np xs L 2
          · exact tr (kJ J 20020) (kJ_out J 20020) (pK6_1_k332 Z hn (kJ_b (by decide) hJ) (kJ_c (by decide) hC) hl hp hb ht ho (kJ_r J 20020 20020 (by decide) (by decide) (by decide)) (kJ_r J 20020 20025 (by decide) (by decide) (by decide)) (kJ_r J 20020 20021 (by decide) (by decide) (by decide)) (kJ_r J 20020 20026 (by decide) (by decide) (by decide)) (kJ_r J 20020 20022 (by decide) (by decide) (by decide)) (kJ_r J 20020 20027 (by decide) (by decide) (by decide)) (kJ_r J 20020 20023 (by decide) (by decide) (by decide)) (kJ_r J 20020 20028 (by decide) (by decide) (by decide)) he (nx _ (kJ_b (by decide) hJ) (kJ_c (by decide) hC)))
          · exact tr (kJ J 20020) (kJ_out J 20020) (pK6_1_k331 Z hn (kJ_b (by decide) hJ) (kJ_c (by decide) hC) hl hp hb ht ho (kJ_r J 20020 20020 (by decide) (by decide) (by decide)) (kJ_r J 20020 20025 (by decide) (by decide) (by decide)) (kJ_r J 20020 20021 (by decide) (by decide) (by decide)) (kJ_r J 20020 20026 (by decide) (by decide) (by decide)) (kJ_r J 20020 20022 (by decide) (by decide) (by decide)) (kJ_r J 20020 20027 (by decide) (by decide) (by decide)) (kJ_r J 20020 20023 (by decide) (by decide) (by decide)) (kJ_r J 20020 20028 (by decide) (by decide) (by decide)) he (nx _ (kJ_b (by decide) hJ) (kJ_c (by decide) hC)))
      · by_cases hp : lk_np xs L 1 = 1
        · obtain ⟨J', h1, h2⟩ := hcar J hJ hC ht ho
          have hJ' : lb_ok xs L J' := fun i a b => by rw [← h1 i (by omega)]; exact hJ i a b
          have hC' : lc_ok xs L J' := fun i a b => by rw [← h1 i (by omega)]; exact hC i a b
          exact tr J' h1 (pK6_1_k323 Z hn hJ' hC' hl hp hb ht ho h2 (nx J' hJ' hC'))
        · obtain ⟨J', h1, h2⟩ := hcar J hJ hC ht ho
          have hJ' : lb_ok xs L J' := fun i a b => by rw [← h1 i (by omega)]; exact hJ i a b
          have hC' : lc_ok xs L J' := fun i a b => by rw [← h1 i (by omega)]; exact hC i a b
          exact tr J' h1 (pK6_1_k333 Z hn hJ' hC' hl hp hb ht ho h2 (nx J' hJ' hC'))
    · rcases (by omega : lk_x xs L 1 / 3 % 2 = 0 ∨ lk_x xs L 1 / 3 % 2 = 1) with ho | ho
      · by_cases hp : lk_np xs L 1 = 1
        · exfalso
          have hq := lk_np_lt xs L 1
          have := tk_f0 hb ht; omega
        · by_cases he : lk_ns xs L 2 = lk_np xs L 2
          · exact tr (kJ J 20020) (kJ_out J 20020) (pK6_1_k328 Z hn (kJ_b (by decide) hJ) (kJ_c (by decide) hC) hl hp hb ht ho (kJ_r J 20020 20020 (by decide) (by decide) (by decide)) (kJ_r J 20020 20025 (by decide) (by decide) (by decide)) (kJ_r J 20020 20021 (by decide) (by decide) (by decide)) (kJ_r J 20020 20026 (by decide) (by decide) (by decide)) (kJ_r J 20020 20022 (by decide) (by decide) (by decide)) (kJ_r J 20020 20027 (by decide) (by decide) (by decide)) (kJ_r J 20020 20023 (by decide) (by decide) (by decide)) (kJ_r J 20020 20028 (by decide) (by decide) (by decide)) he (nx _ (kJ_b (by decide) hJ) (kJ_c (by decide) hC)))
          · exact tr (kJ J 20020) (kJ_out J 20020) (pK6_1_k327 Z hn (kJ_b (by decide) hJ) (kJ_c (by decide) hC) hl hp hb ht ho (kJ_r J 20020 20020 (by decide) (by decide) (by decide)) (kJ_r J 20020 20025 (by decide) (by decide) (by decide)) (kJ_r J 20020 20021 (by decide) (by decide) (by decide)) (kJ_r J 20020 20026 (by decide) (by decide) (by decide)) (kJ_r J 20020 20022 (by decide) (by decide) (by decide)) (kJ_r J 20020 20027 (by decide) (by decide) (by decide)) (kJ_r J 20020 20023 (by decide) (by decide) (by decide)) (kJ_r J 20020 20028 (by decide) (by decide) (by decide)) he (nx _ (kJ_b (by decide) hJ) (kJ_c (by decide) hC)))
      · by_cases hp : lk_np xs L 1 = 1
        · exfalso
          have hq := lk_np_lt xs L 1
          have := tk_f0 hb ht; omega
        · by_cases he : lk_ns xs L 2 = lk_np xs L 2
          · exact tr (kJ J 20020) (kJ_out J 20020) (pK6_1_k330 Z hn (kJ_b (by decide) hJ) (kJ_c (by decide) hC) hl hp hb ht ho (kJ_r J 20020 20020 (by decide) (by decide) (by decide)) (kJ_r J 20020 20025 (by decide) (by decide) (by decide)) (kJ_r J 20020 20021 (by decide) (by decide) (by decide)) (kJ_r J 20020 20026 (by decide) (by decide) (by decide)) (kJ_r J 20020 20022 (by decide) (by decide) (by decide)) (kJ_r J 20020 20027 (by decide) (by decide) (by decide)) (kJ_r J 20020 20023 (by decide) (by decide) (by decide)) (kJ_r J 20020 20028 (by decide) (by decide) (by decide)) he (nx _ (kJ_b (by decide) hJ) (kJ_c (by decide) hC)))
          · exact tr (kJ J 20020) (kJ_out J 20020) (pK6_1_k329 Z hn (kJ_b (by decide) hJ) (kJ_c (by decide) hC) hl hp hb ht ho (kJ_r J 20020 20020 (by decide) (by decide) (by decide)) (kJ_r J 20020 20025 (by decide) (by decide) (by decide)) (kJ_r J 20020 20021 (by decide) (by decide) (by decide)) (kJ_r J 20020 20026 (by decide) (by decide) (by decide)) (kJ_r J 20020 20022 (by decide) (by decide) (by decide)) (kJ_r J 20020 20027 (by decide) (by decide) (by decide)) (kJ_r J 20020 20023 (by decide) (by decide) (by decide)) (kJ_r J 20020 20028 (by decide) (by decide) (by decide)) he (nx _ (kJ_b (by decide) hJ) (kJ_c (by decide) hC)))
theorem hK6_0 (Z : lw_W sv mt xs L lam dd) (hn : lx_nv xs L = 6) (hl : lc_l lam) (hL : (lam 0).toNatClampNeg ≤ 1000) (hcar : ∀ J, lb_ok xs L J → lc_ok xs L J → lk_tk xs L 0 = true → lk_x xs L 0 / 3 % 2 = 1 → ∃ J', (∀ i, i < 20010 ∨ 20010 + 10 ≤ i → J i = J' i) ∧ ∀ α, sg_ct sv mt 35 (lx_r xs L J', lam, α) kT6_0) (nx : ∀ J, lb_ok xs L J → lc_ok xs L J → lw_P sv mt xs L J lam dd n0 s0 Q 1326 l_K6_1 g_K6_1 484 3462) (J : Nat → Int32) (hJ : lb_ok xs L J) (hC : lc_ok xs L J) : lw_P sv mt xs L J lam dd n0 s0 Q 1326 l_K6_0 g_K6_0 479 3449 := by
  have tr : ∀ J' : Nat → Int32, (∀ i, i < 20010 ∨ 20010 + 10 ≤ i → J i = J' i) → lw_P sv mt xs L J' lam dd n0 s0 Q 1326 l_K6_0 g_K6_0 479 3449 → lw_P sv mt xs L J lam dd n0 s0 Q 1326 l_K6_0 g_K6_0 479 3449 := fun J' h P => lw_P_J (lo := 20010) (hi := 20010 + 10) h (by decide) hL (by decide +kernel) (by decide +kernel) P
  by_cases hb : lk_x xs L 0 % 3 = 0
  · by_cases ht : lk_tk xs L 0 = true
    · rcases (by omega : lk_x xs L 0 / 3 % 2 = 0 ∨ lk_x xs L 0 / 3 % 2 = 1) with ho | ho
      · exact tr (kJ J 20010) (kJ_out J 20010) (pK6_0_k319 Z hn (kJ_b (by decide) hJ) (kJ_c (by decide) hC) hl hb ht ho (kJ_r J 20010 20010 (by decide) (by decide) (by decide)) (kJ_r J 20010 20015 (by decide) (by decide) (by decide)) (kJ_r J 20010 20011 (by decide) (by decide) (by decide)) (kJ_r J 20010 20016 (by decide) (by decide) (by decide)) (kJ_r J 20010 20012 (by decide) (by decide) (by decide)) (kJ_r J 20010 20017 (by decide) (by decide) (by decide)) (kJ_r J 20010 20013 (by decide) (by decide) (by decide)) (kJ_r J 20010 20018 (by decide) (by decide) (by decide)) (nx _ (kJ_b (by decide) hJ) (kJ_c (by decide) hC)))
      · obtain ⟨J', h1, h2⟩ := hcar J hJ hC ht ho
        have hJ' : lb_ok xs L J' := fun i a b => by rw [← h1 i (by omega)]; exact hJ i a b
        have hC' : lc_ok xs L J' := fun i a b => by rw [← h1 i (by omega)]; exact hC i a b
        exact tr J' h1 (pK6_0_k320 Z hn hJ' hC' hl hb ht ho h2 (nx J' hJ' hC'))
    · rcases (by omega : lk_x xs L 0 / 3 % 2 = 0 ∨ lk_x xs L 0 / 3 % 2 = 1) with ho | ho
      · exfalso
        have e0 : lk_np xs L 0 = 1 := rfl
        have := tk_b0 hb ht; omega
      · exfalso
        have e0 : lk_np xs L 0 = 1 := rfl
        have := tk_b0 hb ht; omega
  · by_cases ht : lk_tk xs L 0 = true
    · rcases (by omega : lk_x xs L 0 / 3 % 2 = 0 ∨ lk_x xs L 0 / 3 % 2 = 1) with ho | ho
      · exact tr (kJ J 20010) (kJ_out J 20010) (pK6_0_k317 Z hn (kJ_b (by decide) hJ) (kJ_c (by decide) hC) hl hb ht ho (kJ_r J 20010 20010 (by decide) (by decide) (by decide)) (kJ_r J 20010 20015 (by decide) (by decide) (by decide)) (kJ_r J 20010 20011 (by decide) (by decide) (by decide)) (kJ_r J 20010 20016 (by decide) (by decide) (by decide)) (kJ_r J 20010 20012 (by decide) (by decide) (by decide)) (kJ_r J 20010 20017 (by decide) (by decide) (by decide)) (kJ_r J 20010 20013 (by decide) (by decide) (by decide)) (kJ_r J 20010 20018 (by decide) (by decide) (by decide)) (nx _ (kJ_b (by decide) hJ) (kJ_c (by decide) hC)))
      · obtain ⟨J', h1, h2⟩ := hcar J hJ hC ht ho
        have hJ' : lb_ok xs L J' := fun i a b => by rw [← h1 i (by omega)]; exact hJ i a b
        have hC' : lc_ok xs L J' := fun i a b => by rw [← h1 i (by omega)]; exact hC i a b
        exact tr J' h1 (pK6_0_k318 Z hn hJ' hC' hl hb ht ho h2 (nx J' hJ' hC'))
    · rcases (by omega : lk_x xs L 0 / 3 % 2 = 0 ∨ lk_x xs L 0 / 3 % 2 = 1) with ho | ho
      · exfalso
        have e0 : lk_np xs L 0 = 1 := rfl
        have := tk_f0 hb ht; omega
      · exfalso
        have e0 : lk_np xs L 0 = 1 := rfl
        have := tk_f0 hb ht; omega
end HDS
