/-! THE CARRYING OF THE OBJECT, from one version to any other. -/
def lx_pth (xs : Nat → Int32) (L : Nat) (R0 : Nat → Int32) (s t : Nat) : Nat → Nat → Int32
  | 0, i => R0 i
  | h + 1, i => if s ≤ t then lx_cr (lx_pth xs L R0 s t h) (lx_row xs L 4 (s + h + 1) 3 i) (lx_row xs L 1 (s + h + 1) 3 i) else lx_cr (lx_pth xs L R0 s t h) (lx_row xs L 5 (s - h) 3 i) (lx_row xs L 3 (s - h) 3 i)
/-- the unknowns of the run over few cells: 20000 the row, 20005 the spare one, 20100 + 10 h the row behind h steps -/
def lx_js (xs : Nat → Int32) (L : Nat) (J : Nat → Int32) (rb s t i : Nat) : Int32 := if i < 20000 then J i else if i < 20100 then J (rb + (i - 20000)) else lx_pth xs L (fun i => J (rb + i)) s t ((i - 20100) / 10) ((i - 20100) % 10)
section JS
variable {xs : Nat → Int32} {L : Nat} {J : Nat → Int32} {rb s t : Nat}
theorem js_lt {i : Nat} (h : i < 20000) : lx_r xs L (lx_js xs L J rb s t) i = lx_r xs L J i := by
  by_cases e : i < 14000
  · unfold lx_r
    by_cases e1 : i < 1000
    · rw [if_pos e1, if_pos e1]
    rw [if_neg e1, if_neg e1]
    by_cases e2 : i < 2000
    · rw [if_pos e2, if_pos e2]
    rw [if_neg e2, if_neg e2]
    by_cases e3 : i < 3000
    · rw [if_pos e3, if_pos e3]
    rw [if_neg e3, if_neg e3]
    by_cases e4 : i < 4000
    · rw [if_pos e4, if_pos e4]
    rw [if_neg e4, if_neg e4]
    by_cases e5 : i < 5000
    · rw [if_pos e5, if_pos e5]
    rw [if_neg e5, if_neg e5]
    by_cases e6 : i < 11000
    · rw [if_pos e6, if_pos e6]
    rw [if_neg e6, if_neg e6]
    by_cases e7 : i < 12000
    · rw [if_pos e7, if_pos e7]
    rw [if_neg e7, if_neg e7]
    by_cases e8 : i < 12100
    · rw [if_pos e8, if_pos e8]
    rw [if_neg e8, if_neg e8]
    by_cases e9 : i < 12200
    · rw [if_pos e9, if_pos e9]
    rw [if_neg e9, if_neg e9]
    by_cases e10 : i < 13000
    · rw [if_pos e10, if_pos e10]
    rw [if_neg e10, if_neg e10, if_pos e, if_pos e]
  · rw [rjk i (by omega), rjk i (by omega)]
    exact if_pos h
theorem js_r {i : Nat} (h1 : 20000 ≤ i) (h2 : i < 20100) : lx_r xs L (lx_js xs L J rb s t) i = J (rb + (i - 20000)) := by
  rw [rjk i (by omega)]
  show (if i < 20000 then _ else if i < 20100 then _ else _) = _
  rw [if_neg (by omega), if_pos h2]
theorem js_p (h i : Nat) (hi : i < 10) : lx_r xs L (lx_js xs L J rb s t) (20100 + 10 * h + i) = lx_pth xs L (fun i => J (rb + i)) s t h i := by
  rw [rjk _ (by omega)]
  show (if _ < 20000 then _ else if _ < 20100 then _ else lx_pth xs L (fun i => J (rb + i)) s t ((20100 + 10 * h + i - 20100) / 10) ((20100 + 10 * h + i - 20100) % 10)) = _
  rw [if_neg (by omega), if_neg (by omega), show (20100 + 10 * h + i - 20100) / 10 = h by omega, show (20100 + 10 * h + i - 20100) % 10 = i by omega]
end JS
/-- cells told alike by two namings: names by the list, unknowns below 20000 -/
def cq_v (s : List Nat) (v w : sx_V) : Bool := match v.1 with
  | 1 => Nat.beq w.1 1 && (match sx_nth s v.2 with
    | some a => Nat.beq a w.2
    | none => false)
  | 3 => sx_veq v w && Nat.ble v.2 19999
  | _ => sx_veq v w
def cq_l (s : List Nat) : List sx_V → List sx_V → Bool
  | [], [] => true
  | v :: a, w :: b => cq_v s v w && cq_l s a b
  | _, _ => false
def cq_c (s : List Nat) (c d : sx_C) : Bool := Nat.ble c.1 2 && (Nat.beq c.1 d.1 && (Nat.beq c.2.1 d.2.1 && cq_l s c.2.2 d.2.2))
def cq_cs (s : List Nat) : List sx_C → List sx_C → Bool
  | [], [] => true
  | c :: a, d :: b => cq_c s c d && cq_cs s a b
  | _, _ => false
section CQ
variable {ρs ρ : Nat → Int32} {lam : Nat → Int64} {αs α : Nat → Nat} {s : List Nat}
theorem cq_v_ok (hρ : ∀ i, i < 20000 → ρs i = ρ i) (hα : ∀ j a, s[j]? = some a → αs j = α a) {v w : sx_V} (h : cq_v s v w = true) : sx_ev (ρs, lam, αs) v = sx_ev (ρ, lam, α) w := by
  obtain ⟨t, n⟩ := v
  obtain ⟨u, m⟩ := w
  unfold cq_v at h
  split at h
  · rename_i e
    have e : t = 1 := e
    subst e
    rw [Bool.and_eq_true] at h
    have e2 : u = 1 := Nat.eq_of_beq_eq_true h.1
    subst e2
    have h2 := h.2
    split at h2
    · rename_i a ha
      rw [sx_nth_get] at ha
      have e3 : a = m := Nat.eq_of_beq_eq_true h2
      subst e3
      exact congrArg Value.ref (hα n a ha)
    · cases h2
  · rename_i e
    have e : t = 3 := e
    subst e
    rw [Bool.and_eq_true] at h
    have e2 := sx_veq_ok h.1
    cases e2
    have := Nat.le_of_ble_eq_true h.2
    exact congrArg Value.int (hρ n (by show n < 20000; have : n ≤ 19999 := this; omega))
  · rename_i e1 e3
    have e2 := sx_veq_ok h
    cases e2
    match t, e1, e3 with
    | 0, _, _ => rfl
    | 1, e1, _ => exact absurd rfl e1
    | 2, _, _ => rfl
    | 3, _, e3 => exact absurd rfl e3
    | 4, _, _ => rfl
    | 5, _, _ => rfl
    | 6, _, _ => rfl
    | t + 7, _, _ => rfl
theorem cq_l_ok (hρ : ∀ i, i < 20000 → ρs i = ρ i) (hα : ∀ j a, s[j]? = some a → αs j = α a) : ∀ {a b : List sx_V}, cq_l s a b = true → sx_eS (ρs, lam, αs) a = sx_eS (ρ, lam, α) b
  | [], [], _ => rfl
  | v :: a, w :: b, h => by
    unfold cq_l at h
    rw [Bool.and_eq_true] at h
    show sx_ev _ v :: sx_eS _ a = sx_ev _ w :: sx_eS _ b
    rw [cq_v_ok hρ hα h.1, cq_l_ok hρ hα h.2]
  | [], _ :: _, h => by cases h
  | _ :: _, [], h => by cases h
theorem cq_c_ok (hρ : ∀ i, i < 20000 → ρs i = ρ i) (hα : ∀ j a, s[j]? = some a → αs j = α a) {c d : sx_C} (h : cq_c s c d = true) : sx_eC (ρs, lam, αs) c = sx_eC (ρ, lam, α) d := by
  obtain ⟨t, k, xs⟩ := c
  obtain ⟨u, l, ys⟩ := d
  unfold cq_c at h
  rw [Bool.and_eq_true, Bool.and_eq_true, Bool.and_eq_true] at h
  obtain ⟨h0, h1, h2, h3⟩ := h
  have e1 : t = u := Nat.eq_of_beq_eq_true h1
  have e2 : k = l := Nat.eq_of_beq_eq_true h2
  subst e1
  subst e2
  have h0 : t ≤ 2 := Nat.le_of_ble_eq_true h0
  have hs := cq_l_ok (lam := lam) hρ hα h3
  match t, h0 with
  | 0, _ => rw [sg_k0, sg_k0, hs]
  | 1, _ => rw [sg_k1, sg_k1, hs]
  | 2, _ => rw [sg_k2, sg_k2]
theorem cq_cs_ok (hρ : ∀ i, i < 20000 → ρs i = ρ i) (hα : ∀ j a, s[j]? = some a → αs j = α a) : ∀ {a b : List sx_C}, cq_cs s a b = true → ∀ (j : Nat) g c, a[j]? = some g → b[j]? = some c → sx_eC (ρs, lam, αs) g = sx_eC (ρ, lam, α) c
  | [], [], _, j, g, c, h1, _ => by cases h1
  | x :: a, y :: b, h, j, g, c, h1, h2 => by
    unfold cq_cs at h
    rw [Bool.and_eq_true] at h
    cases j with
    | zero =>
      cases h1
      cases h2
      exact cq_c_ok hρ hα h.1
    | succ j => exact cq_cs_ok hρ hα h.2 j g c h1 h2
  | [], _ :: _, h, _, _, _, _, _ => by cases h
  | _ :: _, [], h, _, _, _, _, _ => by cases h
end CQ
def sm_ch : List (List sx_C) → List (List sx_C) → Bool
  | [], [] => true
  | p :: a, q :: b => sm_cs p q && sm_ch a b
  | _, _ => false
theorem sm_ch_ok : ∀ {a b : List (List sx_C)}, sm_ch a b = true → a = b
  | [], [], _ => rfl
  | p :: a, q :: b, h => by
    unfold sm_ch at h
    rw [Bool.and_eq_true] at h
    rw [sm_cs_ok h.1, sm_ch_ok h.2]
  | [], _ :: _, h => by cases h
  | _ :: _, [], h => by cases h
def sm_eqG (r : sx_R) (gs : List sx_C) : Option (sx_R × sx_G × Nat) → Bool
  | some (r', G, 0) => sm_r r' r && (Nat.beq G.1 (sx_of gs).1 && sm_ch G.2 (sx_of gs).2)
  | _ => false
theorem sm_eqG_ok {r : sx_R} {gs : List sx_C} {o : Option (sx_R × sx_G × Nat)} (h : sm_eqG r gs o = true) : o = some (r, sx_of gs, 0) := by
  unfold sm_eqG at h
  split at h
  · rename_i r' G
    rw [Bool.and_eq_true, Bool.and_eq_true] at h
    have e1 := Nat.eq_of_beq_eq_true h.2.1
    have e2 := sm_ch_ok h.2.2
    rw [sm_r_ok h.1, show G = sx_of gs from Prod.ext e1 e2]
  · cases h
def ck_k (c : sx_C) : Bool := Nat.ble c.1 2
theorem ck_k_ok {E : sx_E} {c : sx_C} (h : ck_k c = true) : c.1 = 2 ∨ ∃ q, sx_eC E c = some q := by
  obtain ⟨t, k, xs⟩ := c
  have h : t ≤ 2 := Nat.le_of_ble_eq_true h
  match t, h with
  | 0, _ => exact Or.inr ⟨_, rfl⟩
  | 1, _ => exact Or.inr ⟨_, rfl⟩
  | 2, _ => exact Or.inl rfl
