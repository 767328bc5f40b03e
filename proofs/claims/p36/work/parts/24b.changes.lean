/-! THE CHANGES AT THE END: which version is present, which shape the object has. -/
def lk_x (xs : Nat → Int32) (L k : Nat) : Nat := lx_s (lx_a xs L (45 + k)) 1000
def lk_np (xs : Nat → Int32) (L : Nat) : Nat → Nat
  | 0 => 1
  | k + 1 => if lk_x xs L k % 3 = 0 then (if lk_np xs L k = 0 then lk_np xs L k else lk_np xs L k - 1) else (if lk_np xs L k + 1 < lx_nv xs L then lk_np xs L k + 1 else lk_np xs L k)
/-- does the change take effect -/
def lk_tk (xs : Nat → Int32) (L k : Nat) : Bool := if lk_x xs L k % 3 = 0 then decide (0 < lk_np xs L k) else decide (lk_np xs L k + 1 < lx_nv xs L)
def lk_ns (xs : Nat → Int32) (L : Nat) : Nat → Nat
  | 0 => 1
  | k + 1 => if lk_tk xs L k = true ∧ lk_x xs L k / 3 % 2 = 1 then lk_np xs L (k + 1) else lk_ns xs L k
def lk_to (xs : Nat → Int32) (L k : Nat) : Int32 := if lk_x xs L k % 3 = 0 then iN (lk_np xs L k) - iN 1 else iN (lk_np xs L k + 1)
def lc_v (xs : Nat → Int32) (L i : Nat) : Int32 :=
  if i < 16010 then iN (lk_np xs L (i - 16000)) else if i < 16020 then iN (lk_ns xs L (i - 16010)) else if i < 16030 then lk_to xs L (i - 16020) else if i < 16040 then iN (lk_x xs L (i - 16030) % 3) else if i < 16050 then iN (lk_x xs L (i - 16040) / 3) else if i < 16060 then iN (lk_x xs L (i - 16050) / 3 % 2) else if i = 16060 then iN (1000 + (2 * lx_nf xs L 1 + 2)) else if i = 16061 then iN (2 * lx_nf xs L 1) else iN (1000 + 2 * lx_nf xs L 1)
def lc_ok (xs : Nat → Int32) (L : Nat) (J : Nat → Int32) : Prop := ∀ i, 16000 ≤ i → i < 16070 → J i = lc_v xs L i
def lc_l (lam : Nat → Int64) : Prop := lam 2 = lam 1 + Int64.ofNat 9 ∧ lam 3 = lam 1 + Int64.ofNat 1
theorem rcv {xs : Nat → Int32} {L : Nat} {J : Nat → Int32} (hC : lc_ok xs L J) (i : Nat) (h1 : 16000 ≤ i) (h2 : i < 16070) : lx_r xs L J i = lc_v xs L i := by
  unfold lx_r
  rw [if_neg (by omega), if_neg (by omega), if_neg (by omega), if_neg (by omega), if_neg (by omega), if_neg (by omega), if_neg (by omega), if_neg (by omega), if_neg (by omega), if_neg (by omega), if_neg (by omega), hC i h1 h2]
theorem rjk {xs : Nat → Int32} {L : Nat} {J : Nat → Int32} (i : Nat) (h1 : 14000 ≤ i) : lx_r xs L J i = J i := by
  unfold lx_r
  rw [if_neg (by omega), if_neg (by omega), if_neg (by omega), if_neg (by omega), if_neg (by omega), if_neg (by omega), if_neg (by omega), if_neg (by omega), if_neg (by omega), if_neg (by omega), if_neg (by omega)]
section KAY
variable {xs : Nat → Int32} {L k n p : Nat}
theorem lk_x_lt (xs : Nat → Int32) (L k : Nat) : lk_x xs L k < 1000 := lx_s_lt _ (by omega)
theorem lk_np_lt (xs : Nat → Int32) (L : Nat) : ∀ k, lk_np xs L k < lx_nv xs L
  | 0 => by
    have := lx_nv_26 xs L
    show 1 < lx_nv xs L
    omega
  | k + 1 => by
    have ih := lk_np_lt xs L k
    show (if lk_x xs L k % 3 = 0 then (if lk_np xs L k = 0 then lk_np xs L k else lk_np xs L k - 1) else (if lk_np xs L k + 1 < lx_nv xs L then lk_np xs L k + 1 else lk_np xs L k)) < lx_nv xs L
    split
    · split <;> omega
    · split <;> omega
theorem lk_ns_lt (xs : Nat → Int32) (L : Nat) : ∀ k, lk_ns xs L k < lx_nv xs L
  | 0 => lk_np_lt xs L 0
  | k + 1 => by
    have ih := lk_ns_lt xs L k
    have := lk_np_lt xs L (k + 1)
    show (if lk_tk xs L k = true ∧ lk_x xs L k / 3 % 2 = 1 then lk_np xs L (k + 1) else lk_ns xs L k) < lx_nv xs L
    split <;> omega
theorem lk_np_31 (xs : Nat → Int32) (L k : Nat) : lk_np xs L k < 2147483648 := by
  have h1 := lk_np_lt xs L k
  have h2 := lx_nv_26 xs L
  omega
theorem tk_b (hb : lk_x xs L k % 3 = 0) (ht : lk_tk xs L k = true) : 0 < lk_np xs L k := by
  unfold lk_tk at ht
  rw [if_pos hb] at ht
  exact of_decide_eq_true ht
theorem tk_b0 (hb : lk_x xs L k % 3 = 0) (ht : ¬ lk_tk xs L k = true) : lk_np xs L k = 0 := by
  unfold lk_tk at ht
  rw [if_pos hb] at ht
  have := mt decide_eq_true ht
  omega
theorem tk_f (hb : ¬ lk_x xs L k % 3 = 0) (ht : lk_tk xs L k = true) : lk_np xs L k + 1 < lx_nv xs L := by
  unfold lk_tk at ht
  rw [if_neg hb] at ht
  exact of_decide_eq_true ht
theorem tk_f0 (hb : ¬ lk_x xs L k % 3 = 0) (ht : ¬ lk_tk xs L k = true) : ¬ lk_np xs L k + 1 < lx_nv xs L := by
  unfold lk_tk at ht
  rw [if_neg hb] at ht
  exact mt decide_eq_true ht
theorem np_b (hb : lk_x xs L k % 3 = 0) (ht : lk_tk xs L k = true) : lk_np xs L (k + 1) = lk_np xs L k - 1 := by
  have h := tk_b hb ht
  show (if lk_x xs L k % 3 = 0 then (if lk_np xs L k = 0 then lk_np xs L k else lk_np xs L k - 1) else (if lk_np xs L k + 1 < lx_nv xs L then lk_np xs L k + 1 else lk_np xs L k)) = _
  rw [if_pos hb, if_neg (by omega)]
theorem np_f (hb : ¬ lk_x xs L k % 3 = 0) (ht : lk_tk xs L k = true) : lk_np xs L (k + 1) = lk_np xs L k + 1 := by
  have h := tk_f hb ht
  show (if lk_x xs L k % 3 = 0 then (if lk_np xs L k = 0 then lk_np xs L k else lk_np xs L k - 1) else (if lk_np xs L k + 1 < lx_nv xs L then lk_np xs L k + 1 else lk_np xs L k)) = _
  rw [if_neg hb, if_pos h]
theorem np_no (ht : ¬ lk_tk xs L k = true) : lk_np xs L (k + 1) = lk_np xs L k := by
  show (if lk_x xs L k % 3 = 0 then (if lk_np xs L k = 0 then lk_np xs L k else lk_np xs L k - 1) else (if lk_np xs L k + 1 < lx_nv xs L then lk_np xs L k + 1 else lk_np xs L k)) = _
  by_cases hb : lk_x xs L k % 3 = 0
  · rw [if_pos hb, if_pos (tk_b0 hb ht)]
  · rw [if_neg hb, if_neg (tk_f0 hb ht)]
theorem to_b (hb : lk_x xs L k % 3 = 0) : lk_to xs L k = iN (lk_np xs L k) - iN 1 := if_pos hb
theorem to_f (hb : ¬ lk_x xs L k % 3 = 0) : lk_to xs L k = iN (lk_np xs L k + 1) := if_neg hb
theorem to_np (ht : lk_tk xs L k = true) : iN (lk_np xs L (k + 1)) = lk_to xs L k := by
  by_cases hb : lk_x xs L k % 3 = 0
  · have := tk_b hb ht
    rw [to_b hb, np_b hb ht, iN_sub (by omega)]
  · rw [to_f hb, np_f hb ht]
theorem to_bm (hb : lk_x xs L k % 3 = 0) (ht : ¬ lk_tk xs L k = true) : lk_to xs L k = lx_m1 := by
  rw [to_b hb, tk_b0 hb ht]
  decide
theorem ns_c (ht : lk_tk xs L k = true) (ho : lk_x xs L k / 3 % 2 = 1) : lk_ns xs L (k + 1) = lk_np xs L (k + 1) := if_pos ⟨ht, ho⟩
theorem ns_n (h : ¬ (lk_tk xs L k = true ∧ lk_x xs L k / 3 % 2 = 1)) : lk_ns xs L (k + 1) = lk_ns xs L k := if_neg h
end KAY
theorem fa_mul {E : sx_E} {x y z : sx_V} {n m : Nat} (hx : sx_ev E x = .int (iN n)) (hy : sx_ev E y = .int (iN m)) (hz : sx_ev E z = .int (iN (n * m))) : lk E (2, x, y, z) := by
  show sx_sem 2 (sx_ev E x) (sx_ev E y) = some (sx_ev E z)
  rw [hx, hy, hz, ← iN_mul]
  rfl
theorem fa_ladd {E : sx_E} {i j n : Nat} (h : E.2.1 j = E.2.1 i + Int64.ofNat n) : lk E (12, (5, i), (4, n), (5, j)) := by
  show sx_sem 12 (.long (E.2.1 i)) (.long (Int64.ofNat n)) = some (.long (E.2.1 j))
  rw [h]
  rfl
theorem m1_ltS {n : Nat} (hn : n < 2147483648) : lx_m1 < iN n := by
  have h : (-1 : Int32) < iN n := by rw [m1_lt hn]; exact trivial
  exact h
theorem fa_lcmp {E : sx_E} {i : Nat} : lk E (14, (5, i), (5, i), (0, 0)) := by
  show some (Value.int (lg_cmp (E.2.1 i) (E.2.1 i))) = some (Value.int (iN 0))
  have e : lg_cmp (E.2.1 i) (E.2.1 i) = 0 := by
    unfold lg_cmp
    simp
  rw [e]
  rfl
theorem sg_ct_mono {sv : Nat → Value} {mt : Nat → (Nat → Option ab_I) × Nat} {d0 d1 : Nat} {E : sx_E} {t : sg_T} (h : sg_ct sv mt d0 E t) (hd : d0 ≤ d1) : sg_ct sv mt d1 E t := fun dd hdd => h dd (Nat.le_trans hd hdd)
/-! UNKNOWNS THAT A STATE DOESN'T NAME may change. -/
def sg_nn (lo hi : Nat) (v : sx_V) : Bool := match v.1 with
  | 3 => Nat.ble (v.2 + 1) lo || Nat.ble hi v.2
  | _ => true
def sg_nns (lo hi : Nat) : List sx_V → Bool
  | [] => true
  | v :: r => sg_nn lo hi v && sg_nns lo hi r
def sg_nc0 (lo hi : Nat) : List sx_C → Bool
  | [] => true
  | c :: r => (match c.1 with
    | 4 => Nat.ble (c.2.1 + 1) lo || Nat.ble hi c.2.1
    | _ => true) && (sg_nns lo hi c.2.2 && sg_nc0 lo hi r)
def sg_nG0 (lo hi : Nat) : List (List sx_C) → Bool
  | [] => true
  | p :: r => sg_nc0 lo hi p && sg_nG0 lo hi r
def sg_nl0 (lo hi : Nat) : sx_L → Bool
  | [] => true
  | none :: r => sg_nl0 lo hi r
  | some v :: r => sg_nn lo hi v && sg_nl0 lo hi r
section NON
variable {ρ ρ' : Nat → Int32} {lam : Nat → Int64} {α : Nat → Nat} {lo hi : Nat}
theorem sg_nn_ok (h : ∀ i, i < lo ∨ hi ≤ i → ρ i = ρ' i) {v : sx_V} (hv : sg_nn lo hi v = true) : sx_ev (ρ, lam, α) v = sx_ev (ρ', lam, α) v := by
  obtain ⟨t, k⟩ := v
  match t, hv with
  | 0, _ => rfl
  | 1, _ => rfl
  | 2, _ => rfl
  | 3, hv =>
    have hv : (Nat.ble (k + 1) lo || Nat.ble hi k) = true := hv
    rw [Bool.or_eq_true] at hv
    refine congrArg Value.int (h k ?_)
    rcases hv with e | e
    · exact Or.inl (Nat.le_of_ble_eq_true e)
    · exact Or.inr (Nat.le_of_ble_eq_true e)
  | 4, _ => rfl
  | 5, _ => rfl
  | 6, _ => rfl
  | t + 7, _ => rfl
theorem sg_nns_ok (h : ∀ i, i < lo ∨ hi ≤ i → ρ i = ρ' i) : ∀ {xs : List sx_V}, sg_nns lo hi xs = true → sx_eS (ρ, lam, α) xs = sx_eS (ρ', lam, α) xs
  | [], _ => rfl
  | v :: r, hv => by
    unfold sg_nns at hv
    rw [Bool.and_eq_true] at hv
    show sx_ev _ v :: sx_eS _ r = sx_ev _ v :: sx_eS _ r
    rw [sg_nn_ok h hv.1, sg_nns_ok h hv.2]
theorem sg_c3_ok (hk : ∀ i, i < (lam 0).toNatClampNeg → ρ (1000 + i) = ρ' (1000 + i)) : ((List.range (lam 0).toNatClampNeg).map fun i => Value.int (ρ (1000 + i))) = (List.range (lam 0).toNatClampNeg).map fun i => Value.int (ρ' (1000 + i)) := List.map_congr_left fun i hi => congrArg Value.int (hk i (List.mem_range.mp hi))
theorem sg_k3 (E : sx_E) (k : Nat) (xs : List sx_V) : sx_eC E (3, k, xs) = some (.inl (1000, (List.range (E.2.1 0).toNatClampNeg).map fun i => .int (E.1 (1000 + i)))) := rfl
theorem sg_k4 (E : sx_E) (k : Nat) (xs : List sx_V) : sx_eC E (4, k, xs) = some (.inl (0, (sx_eS E xs).take (E.1 k).toNatClampNeg)) := rfl
theorem sg_k0 (E : sx_E) (k : Nat) (xs : List sx_V) : sx_eC E (0, k, xs) = some (.inl (k, sx_eS E xs)) := rfl
theorem sg_k1 (E : sx_E) (k : Nat) (xs : List sx_V) : sx_eC E (1, k, xs) = some (.inr (k, sx_eS E xs)) := rfl
theorem sg_k2 (E : sx_E) (k : Nat) (xs : List sx_V) : sx_eC E (2, k, xs) = none := rfl
theorem sg_k5 (E : sx_E) (t k : Nat) (xs : List sx_V) : sx_eC E (t + 5, k, xs) = none := rfl
theorem sg_k3_ok (hk : ∀ i, i < (lam 0).toNatClampNeg → ρ (1000 + i) = ρ' (1000 + i)) (k : Nat) (xs : List sx_V) : sx_eC (ρ, lam, α) (3, k, xs) = sx_eC (ρ', lam, α) (3, k, xs) := by
  rw [sg_k3, sg_k3]
  exact congrArg (fun l : List Value => some (Sum.inl ((1000 : Nat), l))) (sg_c3_ok (lam := lam) hk)
theorem sg_k4_ok (h : ∀ i, i < lo ∨ hi ≤ i → ρ i = ρ' i) {k : Nat} {xs : List sx_V} (h1 : (Nat.ble (k + 1) lo || Nat.ble hi k) = true) (hs : sx_eS (ρ, lam, α) xs = sx_eS (ρ', lam, α) xs) : sx_eC (ρ, lam, α) (4, k, xs) = sx_eC (ρ', lam, α) (4, k, xs) := by
  rw [Bool.or_eq_true] at h1
  have e : ρ k = ρ' k := h k (h1.elim (fun e => Or.inl (Nat.le_of_ble_eq_true e)) fun e => Or.inr (Nat.le_of_ble_eq_true e))
  rw [sg_k4, sg_k4, hs]
  exact congrArg (fun n : Int32 => some (Sum.inl ((0 : Nat), (sx_eS (ρ', lam, α) xs).take n.toNatClampNeg))) e
theorem sg_c1_ok (h : ∀ i, i < lo ∨ hi ≤ i → ρ i = ρ' i) (hk : ∀ i, i < (lam 0).toNatClampNeg → ρ (1000 + i) = ρ' (1000 + i)) {c : sx_C} (hc : (match c.1 with
    | 4 => Nat.ble (c.2.1 + 1) lo || Nat.ble hi c.2.1
    | _ => true) = true) (hx : sg_nns lo hi c.2.2 = true) : sx_eC (ρ, lam, α) c = sx_eC (ρ', lam, α) c := by
  obtain ⟨t, k, xs⟩ := c
  have hs : sx_eS (ρ, lam, α) xs = sx_eS (ρ', lam, α) xs := sg_nns_ok (lam := lam) (α := α) h hx
  match t, hc with
  | 0, _ => rw [sg_k0, sg_k0, hs]
  | 1, _ => rw [sg_k1, sg_k1, hs]
  | 2, _ => rw [sg_k2, sg_k2]
  | 3, _ => exact sg_k3_ok hk k xs
  | 4, hp => exact sg_k4_ok h hp hs
  | t + 5, _ => rw [sg_k5, sg_k5]
theorem sg_nc0_ok (h : ∀ i, i < lo ∨ hi ≤ i → ρ i = ρ' i) (hk : ∀ i, i < (lam 0).toNatClampNeg → ρ (1000 + i) = ρ' (1000 + i)) {p : List sx_C} : sg_nc0 lo hi p = true → ∀ c ∈ p, sx_eC (ρ, lam, α) c = sx_eC (ρ', lam, α) c := by
  induction p with
  | nil => intro _ c hc; exact nomatch hc
  | cons c0 r ih =>
    intro hp c hc
    unfold sg_nc0 at hp
    rw [Bool.and_eq_true, Bool.and_eq_true] at hp
    rcases List.mem_cons.mp hc with e | e
    · rw [e]
      exact sg_c1_ok h hk hp.1 hp.2.1
    · exact ih hp.2.2 c e
theorem sg_nG0_ok (h : ∀ i, i < lo ∨ hi ≤ i → ρ i = ρ' i) (hk : ∀ i, i < (lam 0).toNatClampNeg → ρ (1000 + i) = ρ' (1000 + i)) {P : List (List sx_C)} : sg_nG0 lo hi P = true → ∀ p ∈ P, ∀ c ∈ p, sx_eC (ρ, lam, α) c = sx_eC (ρ', lam, α) c := by
  induction P with
  | nil => intro _ p hp; exact nomatch hp
  | cons p0 r ih =>
    intro hP p hp c hc
    unfold sg_nG0 at hP
    rw [Bool.and_eq_true] at hP
    rcases List.mem_cons.mp hp with e | e
    · rw [e] at hc
      exact sg_nc0_ok h hk hP.1 c hc
    · exact ih hP.2 p e c hc
theorem sg_nl0_ok (h : ∀ i, i < lo ∨ hi ≤ i → ρ i = ρ' i) : ∀ {l : sx_L}, sg_nl0 lo hi l = true → sx_eL (ρ, lam, α) l = sx_eL (ρ', lam, α) l
  | [], _ => rfl
  | none :: r, hl => by
    show none :: sx_eL _ r = none :: sx_eL _ r
    rw [sg_nl0_ok h (l := r) hl]
  | some v :: r, hl => by
    unfold sg_nl0 at hl
    rw [Bool.and_eq_true] at hl
    show some (sx_ev _ v) :: sx_eL _ r = some (sx_ev _ v) :: sx_eL _ r
    rw [sg_nn_ok h hl.1, sg_nl0_ok h hl.2]
theorem sg_P_J {nx : ab_N} {sv : Nat → Value} {n0 s0 pc A B : Nat} {l : sx_L} {G : sx_G} (h : ∀ i, i < lo ∨ hi ≤ i → ρ i = ρ' i) (hk9 : ∀ i, i < (lam 0).toNatClampNeg → ρ (1000 + i) = ρ' (1000 + i)) (hG : sg_nG0 lo hi G.2 = true) (hl : sg_nl0 lo hi l = true) (P : sg_P nx sv ρ' lam n0 s0 pc l G A B) : sg_P nx sv ρ lam n0 s0 pc l G A B := by
  intro α g H h0 hA hB
  rw [sg_nl0_ok h hl]
  refine P α g ⟨H.1, ⟨H.2.1, fun k c q hk hq => ?_, fun _ _ _ => rfl⟩⟩ h0 hA hB
  refine H.2.2.1 k c q hk ?_
  have hk0 := hk
  unfold sx_get at hk0
  simp only [sx_nth_get] at hk0
  split at hk0
  · rename_i p hp
    rw [sg_nG0_ok h hk9 hG p (List.mem_of_getElem? hp) c (List.mem_of_getElem? hk0)]
    exact hq
  · cases hk0
end NON
theorem lw_P_J {sv : Nat → Value} {mt : Nat → (Nat → Option ab_I) × Nat} {xs : Nat → Int32} {L : Nat} {J J' : Nat → Int32} {lam : Nat → Int64} {dd n0 s0 pc A B lo hi : Nat} {Q : ab_Q} {l : sx_L} {G : sx_G} (h : ∀ i, i < lo ∨ hi ≤ i → J i = J' i) (hlo : 14000 ≤ lo) (hL : (lam 0).toNatClampNeg ≤ 1000) (hG : sg_nG0 lo hi G.2 = true) (hl : sg_nl0 lo hi l = true) (P : lw_P sv mt xs L J' lam dd n0 s0 Q pc l G A B) : lw_P sv mt xs L J lam dd n0 s0 Q pc l G A B := by
  have low : ∀ i, i < 14000 → lx_r xs L J i = lx_r xs L J' i := by
    intro i e
    unfold lx_r
    by_cases e1 : i < 1000
    · rw [if_pos e1, if_pos e1]
    rw [if_neg e1, if_neg e1]
    by_cases e2 : i < 2000
    · rw [if_pos e2, if_pos e2]
    rw [if_neg e2, if_neg e2]
    by_cases e3 : i < 3000
    · rw [if_pos e3, if_pos e3]
    rw [if_neg e3, if_neg e3]
    by_cases e4 : i < 4000
    · rw [if_pos e4, if_pos e4]
    rw [if_neg e4, if_neg e4]
    by_cases e5 : i < 5000
    · rw [if_pos e5, if_pos e5]
    rw [if_neg e5, if_neg e5]
    by_cases e6 : i < 11000
    · rw [if_pos e6, if_pos e6]
    rw [if_neg e6, if_neg e6]
    by_cases e7 : i < 12000
    · rw [if_pos e7, if_pos e7]
    rw [if_neg e7, if_neg e7]
    by_cases e8 : i < 12100
    · rw [if_pos e8, if_pos e8]
    rw [if_neg e8, if_neg e8]
    by_cases e9 : i < 12200
    · rw [if_pos e9, if_pos e9]
    rw [if_neg e9, if_neg e9]
    by_cases e10 : i < 13000
    · rw [if_pos e10, if_pos e10]
    rw [if_neg e10, if_neg e10, if_pos e, if_pos e]
  refine sg_P_J (fun i hi => ?_) (fun i hi => low _ (by omega)) hG hl P
  by_cases e : i < 14000
  · exact low i e
  · rw [rjk i (by omega), rjk i (by omega)]
    exact h i hi
/-! CONTRACTS NORMALIZED. -/
def sg_nr (S : sg_S) : sx_R → sx_R
  | .inl (some v) => .inl (some (sg_nv S v))
  | r => r
def sg_np (S : sg_S) (P : List (Nat × sx_C)) : List (Nat × sx_C) := P.map fun p => (p.1, sg_nc S p.2)
def sg_nt (S : sg_S) (t : sg_T) : sg_T := (t.1, t.2.1.map (sg_nv S), sg_np S t.2.2.1, sg_np S t.2.2.2.1, sg_nr S t.2.2.2.2)
theorem sg_wr_np {E : sx_E} {S : sg_S} (hS : sg_So E S) : ∀ (P : List (Nat × sx_C)) (h : ab_H), sg_wr E h (sg_np S P) = sg_wr E h P
  | [], _ => rfl
  | p :: r, h => by
    show sg_wr E (match sx_eC E (sg_nc S p.2) with
      | some c => ab_set h (E.2.2 p.1) c
      | none => h) (sg_np S r) = sg_wr E (match sx_eC E p.2 with
      | some c => ab_set h (E.2.2 p.1) c
      | none => h) r
    rw [sg_nc_ok hS, sg_wr_np hS r]
theorem sg_nr_ok {E : sx_E} {S : sg_S} (hS : sg_So E S) (r : sx_R) : sx_eR E (sg_nr S r) = sx_eR E r := by
  unfold sg_nr
  split
  · rename_i v
    show Sum.inl (some (sx_ev E (sg_nv S v))) = Sum.inl (some (sx_ev E v))
    rw [sg_nv_ok hS]
  · rfl
theorem sg_nt_ok {sv : Nat → Value} {mt : Nat → (Nat → Option ab_I) × Nat} {d0 : Nat} {E : sx_E} {S : sg_S} (hS : sg_So E S) {t : sg_T} (ht : sg_ct sv mt d0 E t) : sg_ct sv mt d0 E (sg_nt S t) := by
  intro dd hdd h Q inj hpre hQ
  show ab_run sv mt dd t.1 (sx_eS E (t.2.1.map (sg_nv S))) h Q
  rw [sg_nvs_ok hS]
  refine ht dd hdd h Q inj (fun p hp => ?_) fun h' e1 e2 => ?_
  · have h1 := hpre (p.1, sg_nc S p.2) (List.mem_map.mpr ⟨p, hp, rfl⟩)
    exact ⟨h1.1, fun q hq => h1.2 q (by show sx_eC E (sg_nc S p.2) = some q; rw [sg_nc_ok hS]; exact hq)⟩
  · have h2 := hQ h' e1 (fun b hb => by
      show h'.1 b = (sg_wr E h (sg_np S t.2.2.2.1)).1 b
      rw [sg_wr_np hS]
      exact e2 b hb)
    have h3 : Q (sx_eR E (sg_nr S t.2.2.2.2)) h' := h2
    rw [sg_nr_ok hS] at h3
    exact h3
/-- the rows of one change are those of the one before -/
def kJ (J : Nat → Int32) (lo i : Nat) : Int32 := if lo ≤ i ∧ i < lo + 10 then J (i - 10) else J i
theorem kJ_out (J : Nat → Int32) (lo : Nat) : ∀ i, i < lo ∨ lo + 10 ≤ i → J i = kJ J lo i := fun i hi => (if_neg (by omega)).symm
theorem kJ_b {xs : Nat → Int32} {L lo : Nat} {J : Nat → Int32} (hlo : 20000 ≤ lo) (h : lb_ok xs L J) : lb_ok xs L (kJ J lo) := fun i h1 h2 => by
  rw [← kJ_out J lo i (by omega)]
  exact h i h1 h2
theorem kJ_c {xs : Nat → Int32} {L lo : Nat} {J : Nat → Int32} (hlo : 20000 ≤ lo) (h : lc_ok xs L J) : lc_ok xs L (kJ J lo) := fun i h1 h2 => by
  rw [← kJ_out J lo i (by omega)]
  exact h i h1 h2
theorem kJ_r (J : Nat → Int32) (lo i : Nat) (h1 : lo ≤ i) (h2 : i < lo + 10) (h3 : 10 ≤ lo) : kJ J lo i = kJ J lo (i - 10) := by
  have e : kJ J lo (i - 10) = J (i - 10) := if_neg (by omega)
  rw [e]
  exact if_pos ⟨h1, h2⟩
