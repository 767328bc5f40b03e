/-! THE ROWS BEHIND A CARRYING. -/
theorem pth_congr (xs : Nat → Int32) (L : Nat) {R0 R1 : Nat → Int32} (h : ∀ i, i < 4 → R0 i = R1 i) (s t : Nat) : ∀ (d i : Nat), i < 4 → lx_pth xs L R0 s t d i = lx_pth xs L R1 s t d i
  | 0, i, hi => h i hi
  | d + 1, i, hi => by
    have ih := pth_congr xs L h s t d
    have cr : ∀ (fr num : Int32), (fr = lx_m1 ∨ ∃ j, j < 4 ∧ fr = iN j) → lx_cr (lx_pth xs L R0 s t d) fr num = lx_cr (lx_pth xs L R1 s t d) fr num := by
      intro fr num hf
      unfold lx_cr
      rcases hf with e | ⟨j, hj, e⟩
      · rw [if_pos e, if_pos e]
      · have e2 : ¬ fr = lx_m1 := by
          rw [e]
          exact fun z => absurd ((iN_m1 (by omega)).mp z) id
        rw [if_neg e2, if_neg e2, e, iN_clamp (by omega), ih j hj]
    show (if s ≤ t then lx_cr (lx_pth xs L R0 s t d) (lx_row xs L 4 (s + d + 1) 3 i) (lx_row xs L 1 (s + d + 1) 3 i) else lx_cr (lx_pth xs L R0 s t d) (lx_row xs L 5 (s - d) 3 i) (lx_row xs L 3 (s - d) 3 i)) = (if s ≤ t then lx_cr (lx_pth xs L R1 s t d) (lx_row xs L 4 (s + d + 1) 3 i) (lx_row xs L 1 (s + d + 1) 3 i) else lx_cr (lx_pth xs L R1 s t d) (lx_row xs L 5 (s - d) 3 i) (lx_row xs L 3 (s - d) 3 i))
    rw [cr _ _ (lx_row_rng xs L 4 (s + d + 1) (by decide) 3 i hi), cr _ _ (lx_row_rng xs L 5 (s - d) (by decide) 3 i hi)]
def kJ2 (xs : Nat → Int32) (L : Nat) (J : Nat → Int32) (lo s t i : Nat) : Int32 := if lo ≤ i ∧ i < lo + 4 then lx_pth xs L (fun i => J (lo - 10 + i)) s t (if s ≤ t then t - s else s - t) (i - lo) else if lo + 5 ≤ i ∧ i < lo + 9 then (if s = t then J (i - 10) else lx_pth xs L (fun i => J (lo - 10 + i)) s t (if s ≤ t then t - s else s - t) (i - (lo + 5))) else J i
section KJT
variable {xs : Nat → Int32} {L lo rb s t : Nat} {J : Nat → Int32}
theorem kJ2_out : ∀ i, i < lo ∨ lo + 10 ≤ i → J i = kJ2 xs L J lo s t i := fun i hi => by
  unfold kJ2
  rw [if_neg (by omega), if_neg (by omega)]
theorem kJ2_a (hrb : lo = rb + 10) (i : Nat) (hi : i < 4) : kJ2 xs L J lo s t (lo + i) = lx_pth xs L (fun i => kJ2 xs L J lo s t (rb + i)) s t (if s ≤ t then t - s else s - t) i := by
  have e : kJ2 xs L J lo s t (lo + i) = lx_pth xs L (fun i => J (lo - 10 + i)) s t (if s ≤ t then t - s else s - t) (lo + i - lo) := if_pos (by omega)
  rw [e, Nat.add_sub_cancel_left]
  refine pth_congr xs L (fun j hj => ?_) s t _ i hi
  show J (lo - 10 + j) = kJ2 xs L J lo s t (rb + j)
  rw [← kJ2_out (rb + j) (by omega)]
  congr 1
  omega
theorem kJ2_b (hrb : lo = rb + 10) (i : Nat) (hi : i < 4) : kJ2 xs L J lo s t (lo + (5 + i)) = if s = t then kJ2 xs L J lo s t (rb + (5 + i)) else lx_pth xs L (fun i => kJ2 xs L J lo s t (rb + i)) s t (if s ≤ t then t - s else s - t) i := by
  have e : kJ2 xs L J lo s t (lo + (5 + i)) = if s = t then J (lo + (5 + i) - 10) else lx_pth xs L (fun i => J (lo - 10 + i)) s t (if s ≤ t then t - s else s - t) (lo + (5 + i) - (lo + 5)) := (if_neg (by omega)).trans (if_pos (by omega))
  rw [e]
  by_cases h : s = t
  · rw [if_pos h, if_pos h, ← kJ2_out (rb + (5 + i)) (by omega)]
    congr 1
    omega
  · rw [if_neg h, if_neg h, show lo + (5 + i) - (lo + 5) = i by omega]
    refine pth_congr xs L (fun j hj => ?_) s t _ i hi
    show J (lo - 10 + j) = kJ2 xs L J lo s t (rb + j)
    rw [← kJ2_out (rb + j) (by omega)]
    congr 1
    omega
end KJT
/-- the unknowns from 14000 on, at the beginning -/
def lz_J (xs : Nat → Int32) (L i : Nat) : Int32 := if i < 16000 then lb_v xs L i else if i < 16070 then lc_v xs L i else if i < 20005 then lx_x xs L 1 (i - 20000) else if lx_nv xs L = 2 then lx_x xs L 0 (i - 20005) else lx_x xs L (lx_nv xs L - 1) (i - 20005)
theorem lz_b (xs : Nat → Int32) (L : Nat) : lb_ok xs L (lz_J xs L) := fun i h1 h2 => if_pos (by omega)
theorem lz_c (xs : Nat → Int32) (L : Nat) : lc_ok xs L (lz_J xs L) := fun i h1 h2 => (if_neg (by omega)).trans (if_pos h2)
theorem lz_r (xs : Nat → Int32) (L i : Nat) (hi : i < 4) : lz_J xs L (20000 + i) = lz_J xs L (14010 + i) := by
  have e1 : lz_J xs L (20000 + i) = lx_x xs L 1 (20000 + i - 20000) := (if_neg (by omega)).trans ((if_neg (by omega)).trans (if_pos (by omega)))
  have e2 : lz_J xs L (14010 + i) = lb_v xs L (14010 + i) := if_pos (by omega)
  rw [e1, e2]
  unfold lb_v
  rw [if_pos (by omega), show (14010 + i - 14000) / 10 = 1 by omega, show (14010 + i - 14000) % 10 = i by omega, Nat.add_sub_cancel_left]
theorem lz_q (xs : Nat → Int32) (L v i : Nat) (hi : i < 4) (hv : v < 100) (h : (lx_nv xs L = 2 ∧ v = 0) ∨ (¬ lx_nv xs L = 2 ∧ v = lx_nv xs L - 1)) : lz_J xs L (20005 + i) = lz_J xs L (14000 + 10 * v + i) := by
  have e2 : lz_J xs L (14000 + 10 * v + i) = lx_x xs L v i := by
    have e2 : lz_J xs L (14000 + 10 * v + i) = lb_v xs L (14000 + 10 * v + i) := if_pos (by omega)
    rw [e2]
    unfold lb_v
    rw [if_pos (by omega), show (14000 + 10 * v + i - 14000) / 10 = v by omega, show (14000 + 10 * v + i - 14000) % 10 = i by omega]
  rw [e2]
  have e1 : lz_J xs L (20005 + i) = if lx_nv xs L = 2 then lx_x xs L 0 (20005 + i - 20005) else lx_x xs L (lx_nv xs L - 1) (20005 + i - 20005) := (if_neg (by omega)).trans ((if_neg (by omega)).trans (if_neg (by omega)))
  rw [e1, Nat.add_sub_cancel_left]
  rcases h with ⟨a, b⟩ | ⟨a, b⟩
  · rw [if_pos a, b]
  · rw [if_neg a, b]
section JSG
variable (xs : Nat → Int32) (L : Nat) (J : Nat → Int32) (rb : Nat)
theorem js0 (s t i : Nat) (hi : i < 4) : lx_r xs L (lx_js xs L J rb s t) (20000 + i) = J (rb + i) := by
  rw [js_r (by omega) (by omega), Nat.add_sub_cancel_left]
theorem js5 (s t i : Nat) (hi : i < 4) : lx_r xs L (lx_js xs L J rb s t) (20005 + i) = J (rb + (5 + i)) := by
  rw [js_r (by omega) (by omega), show 20005 + i - 20000 = 5 + i by omega]
theorem js9 (s t h i : Nat) (hi : i < 4) : lx_r xs L (lx_js xs L J rb s t) (20100 + 10 * h + i) = lx_pth xs L (fun i => J (rb + i)) s t h i := js_p h i (by omega)
end JSG
theorem pth_at {xs : Nat → Int32} {L : Nat} {R0 : Nat → Int32} {s t s' t' d i : Nat} (e : s = s') (f : t = t') (hd : (if s' ≤ t' then t' - s' else s' - t') = d) : lx_pth xs L R0 s t (if s ≤ t then t - s else s - t) i = lx_pth xs L R0 s' t' d i := by
  subst e
  subst f
  rw [hd]
theorem ne_at {s t s' t' : Nat} (e : s = s') (f : t = t') (h : s' ≠ t') : ¬ s = t := fun z => h (e.symm.trans (z.trans f))
