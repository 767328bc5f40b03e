/-! PIECES OF A WALK: from one place to the next, states told by cells. -/
abbrev sg_S : Type := List (Nat × sx_V)
abbrev sg_T : Type := Nat × List sx_V × List (Nat × sx_C) × List (Nat × sx_C) × sx_R
def sg_lk (k : Nat) : sg_S → Option sx_V
  | [] => none
  | q :: r => match Nat.beq q.1 k with
    | true => some q.2
    | false => sg_lk k r
/-- which unknown a key means: from 100000 on the longs -/
def sg_kv (k : Nat) : sx_V := match Nat.ble k 99999 with
  | true => (3, k)
  | false => (5, k - 100000)
def sg_nv (S : sg_S) (v : sx_V) : sx_V := match v.1 with
  | 3 => match Nat.ble v.2 99999 with
    | true => match sg_lk v.2 S with
      | some w => w
      | none => v
    | false => v
  | 5 => match sg_lk (100000 + v.2) S with
    | some w => w
    | none => v
  | _ => v
/-- an array whose length is an unknown, when that is told -/
def sg_n4 (S : sg_S) (c : sx_C) : sx_C := match c.1 with
  | 4 => match sg_lk c.2.1 S with
    | some (0, n) => match Nat.ble n 1000 && Nat.ble c.2.1 99999 with
      | true => (0, 0, c.2.2.take n)
      | false => c
    | _ => c
  | _ => c
def sg_nc1 (S : sg_S) (c : sx_C) : sx_C := (c.1, c.2.1, c.2.2.map (sg_nv S))
def sg_nc (S : sg_S) (c : sx_C) : sx_C := sg_nc1 S (sg_n4 S c)
def sg_nG (S : sg_S) (G : sx_G) : sx_G := (G.1, G.2.map fun p => p.map (sg_nc S))
def sg_nl (S : sg_S) (l : sx_L) : sx_L := l.map (Option.map (sg_nv S))
def sg_at : List (Nat × Nat) → Nat → Nat
  | [], _ => 0
  | r :: rs, j => match Nat.ble (j + 1) r.2 with
    | true => r.1 + j
    | false => sg_at rs (j - r.2)
/-- the pieces that are kept: rising, of so many names together, all below n -/
def sg_rs (n : Nat) : Nat → List (Nat × Nat) → Nat → Bool
  | lo, [], k => Nat.beq k 0 && Nat.ble lo n
  | lo, r :: rs, k => Nat.ble lo r.1 && (Nat.ble r.2 k && sg_rs n (r.1 + r.2) rs (k - r.2))
def sg_veq (S : sg_S) (rs : List (Nat × Nat)) (n : Nat) (v w : sx_V) : Bool := match v.1 with
  | 1 => Nat.beq w.1 1 && (Nat.ble (v.2 + 1) n && Nat.beq (sg_at rs v.2) w.2)
  | _ => sx_veq (sg_nv S v) (sg_nv S w)
def sg_leq (S : sg_S) (rs : List (Nat × Nat)) (n : Nat) : List sx_V → List sx_V → Bool
  | [], [] => true
  | v :: a, w :: b => sg_veq S rs n v w && sg_leq S rs n a b
  | _, _ => false
def sg_ceq (S : sg_S) (rs : List (Nat × Nat)) (n : Nat) (c d : sx_C) : Bool := Nat.beq c.1 d.1 && (Nat.beq c.2.1 d.2.1 && sg_leq S rs n c.2.2 d.2.2)
def sg_cells (S : sg_S) (rs : List (Nat × Nat)) (n : Nat) (G : sx_G) : Nat → List sx_C → Bool
  | _, [] => true
  | j, c :: r => (match c.1 with
    | 2 => true
    | _ => match sx_get G (sg_at rs j) with
      | some d => sg_ceq S rs n (sg_n4 S c) d
      | none => false) && sg_cells S rs n G (j + 1) r
def sg_chunks (S : sg_S) (rs : List (Nat × Nat)) (n : Nat) (G : sx_G) : Nat → List (List sx_C) → Bool
  | _, [] => true
  | j, p :: r => sg_cells S rs n G j p && sg_chunks S rs n G (j + 16) r
def sg_wf : Nat → List (List sx_C) → Bool
  | _, [] => true
  | n, p :: r => Nat.ble (sx_ln p) n && sg_wf (n - 16) r
def sg_lq (S : sg_S) (rs : List (Nat × Nat)) (n : Nat) : sx_L → sx_L → Bool
  | [], [] => true
  | none :: a, _ :: b => sg_lq S rs n a b
  | some v :: a, some w :: b => sg_veq S rs n v w && sg_lq S rs n a b
  | _, _ => false
/-- contracts of methods -/
def sg_aeq : List sx_V → List sx_V → Bool
  | [], [] => true
  | v :: a, w :: b => sx_veq v w && sg_aeq a b
  | _, _ => false
def sg_pre (G : sx_G) : List (Nat × sx_C) → Bool
  | [] => true
  | q :: r => (match sx_get G q.1 with
    | some d => (match q.2.1 with
      | 2 => true
      | _ => Nat.beq d.1 q.2.1 && (Nat.beq d.2.1 q.2.2.1 && sg_aeq d.2.2 q.2.2.2))
    | none => false) && sg_pre G r
def sg_puts (G : sx_G) : List (Nat × sx_C) → sx_G
  | [] => G
  | q :: r => sg_puts (sx_put G q.1 q.2) r
def sg_K : List sg_T → sx_K
  | [] => fun _ _ _ _ => none
  | t :: r => fun y as G sl => match Nat.beq t.1 y && (sg_aeq t.2.1 as && (sg_pre G t.2.2.1 && t.2.2.2.1.all fun q => Nat.ble q.2.1 1)) with
    | true => some (t.2.2.2.2, sg_puts G t.2.2.2.1, sl)
    | false => sg_K r y as G sl
def sg_wr (E : sx_E) (h : ab_H) : List (Nat × sx_C) → ab_H
  | [] => h
  | q :: r => sg_wr E (match sx_eC E q.2 with
    | some c => ab_set h (E.2.2 q.1) c
    | none => h) r
def sg_ct (sv : Nat → Value) (mt : Nat → (Nat → Option ab_I) × Nat) (d0 : Nat) (E : sx_E) (t : sg_T) : Prop := ∀ dd, d0 ≤ dd → ∀ (h : ab_H) (Q : ab_Q), (∀ j k, E.2.2 j = E.2.2 k → j = k) → (∀ p ∈ t.2.2.1, E.2.2 p.1 < h.2.1 ∧ ∀ q, sx_eC E p.2 = some q → h.1 (E.2.2 p.1) = some q) → (∀ h' : ab_H, h'.2 = h.2 → (∀ b, b < h.2.1 → h'.1 b = (sg_wr E h t.2.2.2.1).1 b) → Q (sx_eR E t.2.2.2.2) h') → ab_run sv mt dd t.1 (sx_eS E t.2.1) h Q
def sg_H (E : sx_E) (G : sx_G) (h : ab_H) : Prop := sx_A E h G.1 ∧ sx_Rl E h G.1 G 0 h
def sg_So (E : sx_E) (S : sg_S) : Prop := ∀ q ∈ S, sx_ev E (sg_kv q.1) = sx_ev E q.2
theorem sg_lk_ok {E : sx_E} {k : Nat} {w : sx_V} : ∀ {S : sg_S}, sg_lk k S = some w → sg_So E S → sx_ev E (sg_kv k) = sx_ev E w
  | [], h, _ => by cases h
  | q :: r, h, H => by
    unfold sg_lk at h
    split at h
    · rename_i hb
      cases h
      rw [← Nat.eq_of_beq_eq_true hb]
      exact H q List.mem_cons_self
    · exact sg_lk_ok h fun p hp => H p (List.mem_cons_of_mem _ hp)
theorem sg_nv_ok {E : sx_E} {S : sg_S} (H : sg_So E S) (v : sx_V) : sx_ev E (sg_nv S v) = sx_ev E v := by
  obtain ⟨t, n⟩ := v
  unfold sg_nv
  split
  · rename_i e
    cases e
    split
    · rename_i hb
      split
      · rename_i w hw
        have h1 := sg_lk_ok hw H
        unfold sg_kv at h1
        rw [show Nat.ble n 99999 = true from hb] at h1
        exact h1.symm
      · rfl
    · rfl
  · rename_i e
    cases e
    split
    · rename_i w hw
      have h1 := sg_lk_ok hw H
      unfold sg_kv at h1
      have hb : Nat.ble (100000 + n) 99999 = false := by
        cases hq : Nat.ble (100000 + n) 99999 with
        | true => have := Nat.le_of_ble_eq_true hq; omega
        | false => rfl
      rw [show Nat.ble (100000 + (5, n).2) 99999 = false from hb] at h1
      have h1 : sx_ev E (5, 100000 + n - 100000) = sx_ev E w := h1
      rw [Nat.add_sub_cancel_left] at h1
      exact h1.symm
    · rfl
  · rfl
theorem sg_nvs_ok {E : sx_E} {S : sg_S} (H : sg_So E S) (xs : List sx_V) : sx_eS E (xs.map (sg_nv S)) = sx_eS E xs := by
  unfold sx_eS
  rw [List.map_map]
  exact List.map_congr_left fun v _ => sg_nv_ok H v
theorem sg_n4_ok {E : sx_E} {S : sg_S} (H : sg_So E S) (c : sx_C) : sx_eC E (sg_n4 S c) = sx_eC E c := by
  obtain ⟨k, t, xs⟩ := c
  unfold sg_n4
  split
  · rename_i e
    have e : k = 4 := e
    subst e
    split
    · rename_i n hn
      split
      · rename_i hb
        rw [Bool.and_eq_true] at hb
        have h0 := sg_lk_ok hn H
        unfold sg_kv at h0
        rw [show Nat.ble (4, t, xs).2.1 99999 = true from hb.2] at h0
        have h1 : Value.int (E.1 t) = Value.int (iN n) := h0
        have h2 := Nat.le_of_ble_eq_true hb.1
        have h3 : E.1 t = iN n := Value.int.inj h1
        show some (Sum.inl (0, sx_eS E (xs.take n))) = some (Sum.inl (0, (sx_eS E xs).take (E.1 t).toNatClampNeg))
        rw [h3, iN_clamp (by omega)]
        simp [sx_eS]
      · rfl
    · rfl
  · rfl
theorem sg_nc_ok {E : sx_E} {S : sg_S} (H : sg_So E S) (c : sx_C) : sx_eC E (sg_nc S c) = sx_eC E c := by
  rw [← sg_n4_ok H c]
  unfold sg_nc
  generalize sg_n4 S c = c
  obtain ⟨k, t, xs⟩ := c
  unfold sx_eC sg_nc1
  dsimp only
  rw [sg_nvs_ok H]
theorem sg_nG_get {S : sg_S} {G : sx_G} {k : Nat} : sx_get (sg_nG S G) k = (sx_get G k).map (sg_nc S) := by
  unfold sx_get sg_nG
  simp only [sx_nth_get, List.getElem?_map]
  cases G.2[k / 16]? with
  | none => rfl
  | some p =>
    show (p.map (sg_nc S))[k % 16]? = Option.map (sg_nc S) p[k % 16]?
    rw [List.getElem?_map]
theorem sg_nl_ok {E : sx_E} {S : sg_S} (H : sg_So E S) (l : sx_L) : sx_eL E (sg_nl S l) = sx_eL E l := by
  unfold sx_eL sg_nl
  rw [List.map_map]
  refine List.map_congr_left fun o _ => ?_
  cases o with
  | none => rfl
  | some v => exact congrArg some (sg_nv_ok H v)
theorem sg_at_lo {n : Nat} : ∀ {rs : List (Nat × Nat)} {lo k : Nat}, sg_rs n lo rs k = true → ∀ j, j < k → lo ≤ sg_at rs j ∧ sg_at rs j < n
  | [], lo, k, h, j, hj => by
    unfold sg_rs at h
    rw [Bool.and_eq_true] at h
    have := Nat.eq_of_beq_eq_true h.1
    omega
  | r :: rs, lo, k, h, j, hj => by
    unfold sg_rs at h
    rw [Bool.and_eq_true, Bool.and_eq_true] at h
    have h1 := Nat.le_of_ble_eq_true h.1
    have h2 := Nat.le_of_ble_eq_true h.2.1
    have key : ∀ {rs : List (Nat × Nat)} {lo k : Nat}, sg_rs n lo rs k = true → lo ≤ n := by
      intro rs
      induction rs with
      | nil =>
        intro lo k h
        unfold sg_rs at h
        rw [Bool.and_eq_true] at h
        exact Nat.le_of_ble_eq_true h.2
      | cons r rs ih =>
        intro lo k h
        unfold sg_rs at h
        rw [Bool.and_eq_true, Bool.and_eq_true] at h
        have a1 := Nat.le_of_ble_eq_true h.1
        have a2 := ih h.2.2
        omega
    unfold sg_at
    split
    · rename_i hb
      have h3 := Nat.le_of_ble_eq_true hb
      have h4 := key h.2.2
      omega
    · rename_i hb
      have h3 : ¬ j + 1 ≤ r.2 := fun z => by
        rw [Nat.ble_eq_true_of_le z] at hb
        cases hb
      have h4 := sg_at_lo h.2.2 (j - r.2) (by omega)
      omega
theorem sg_at_mono {n : Nat} : ∀ {rs : List (Nat × Nat)} {lo k : Nat}, sg_rs n lo rs k = true → ∀ i j, i < j → j < k → sg_at rs i < sg_at rs j
  | [], lo, k, h, i, j, hij, hj => by
    unfold sg_rs at h
    rw [Bool.and_eq_true] at h
    have := Nat.eq_of_beq_eq_true h.1
    omega
  | r :: rs, lo, k, h, i, j, hij, hj => by
    unfold sg_rs at h
    rw [Bool.and_eq_true, Bool.and_eq_true] at h
    have h2 := Nat.le_of_ble_eq_true h.2.1
    have no : ∀ q, ¬ q + 1 ≤ r.2 → Nat.ble (q + 1) r.2 = false := fun q z => by
      cases hb : Nat.ble (q + 1) r.2 with
      | true => exact absurd (Nat.le_of_ble_eq_true hb) z
      | false => rfl
    unfold sg_at
    by_cases e1 : i + 1 ≤ r.2
    · rw [Nat.ble_eq_true_of_le e1]
      by_cases e2 : j + 1 ≤ r.2
      · rw [Nat.ble_eq_true_of_le e2]
        show r.1 + i < r.1 + j
        omega
      · rw [no j e2]
        show r.1 + i < sg_at rs (j - r.2)
        have := sg_at_lo h.2.2 (j - r.2) (by omega)
        omega
    · rw [no i e1, no j (by omega)]
      exact sg_at_mono h.2.2 (i - r.2) (j - r.2) (by omega) (by omega)
section SGX
variable {ρ : Nat → Int32} {lam : Nat → Int64} {a b : Nat → Nat} {S : sg_S} {rs : List (Nat × Nat)} {n : Nat}
theorem sg_ev_ab {v : sx_V} (hv : v.1 ≠ 1) : sx_ev (ρ, lam, a) v = sx_ev (ρ, lam, b) v := by
  obtain ⟨t, k⟩ := v
  match t, hv with
  | 0, _ => rfl
  | 1, hv => exact absurd rfl hv
  | 2, _ => rfl
  | 3, _ => rfl
  | 4, _ => rfl
  | 5, _ => rfl
  | 6, _ => rfl
  | t + 7, _ => rfl
theorem sg_veq_ok (hS : sg_So (ρ, lam, a) S) (hb : ∀ j, j < n → b j = a (sg_at rs j)) {v w : sx_V} (h : sg_veq S rs n v w = true) : sx_ev (ρ, lam, b) v = sx_ev (ρ, lam, a) w := by
  unfold sg_veq at h
  split at h
  · rename_i e
    rw [Bool.and_eq_true, Bool.and_eq_true] at h
    have h1 := Nat.eq_of_beq_eq_true h.1
    have h2 := Nat.le_of_ble_eq_true h.2.1
    have h3 := Nat.eq_of_beq_eq_true h.2.2
    obtain ⟨t, k⟩ := v
    obtain ⟨u, q⟩ := w
    cases e
    cases h1
    cases h3
    show Value.ref (b k) = Value.ref (a (sg_at rs k))
    rw [hb k (by omega)]
  · rename_i e
    rw [sg_ev_ab (b := a) e, ← sg_nv_ok hS v, sx_veq_ok h, sg_nv_ok hS w]
theorem sg_leq_ok (hS : sg_So (ρ, lam, a) S) (hb : ∀ j, j < n → b j = a (sg_at rs j)) : ∀ {xs ys : List sx_V}, sg_leq S rs n xs ys = true → sx_eS (ρ, lam, b) xs = sx_eS (ρ, lam, a) ys
  | [], [], _ => rfl
  | v :: xs, w :: ys, h => by
    unfold sg_leq at h
    rw [Bool.and_eq_true] at h
    show sx_ev _ v :: sx_eS _ xs = sx_ev _ w :: sx_eS _ ys
    rw [sg_veq_ok hS hb h.1, sg_leq_ok hS hb h.2]
  | [], _ :: _, h => by cases h
  | _ :: _, [], h => by cases h
theorem sg_ceq_ok (hS : sg_So (ρ, lam, a) S) (hb : ∀ j, j < n → b j = a (sg_at rs j)) {c d : sx_C} (h : sg_ceq S rs n c d = true) : sx_eC (ρ, lam, b) c = sx_eC (ρ, lam, a) d := by
  unfold sg_ceq at h
  rw [Bool.and_eq_true, Bool.and_eq_true] at h
  obtain ⟨k, t, xs⟩ := c
  obtain ⟨k', t', ys⟩ := d
  have h1 : k = k' := Nat.eq_of_beq_eq_true h.1
  have h2 : t = t' := Nat.eq_of_beq_eq_true h.2.1
  subst h1
  subst h2
  unfold sx_eC
  dsimp only
  rw [sg_leq_ok hS hb h.2.2]
theorem sg_cells_ok {G : sx_G} : ∀ {p : List sx_C} {j : Nat}, sg_cells S rs n G j p = true → ∀ i c, p[i]? = some c → c.1 ≠ 2 → ∃ d, sx_get G (sg_at rs (j + i)) = some d ∧ sg_ceq S rs n (sg_n4 S c) d = true
  | [], j, _, i, c, hi, _ => by cases hi
  | c0 :: r, j, h, i, c, hi, hc => by
    unfold sg_cells at h
    rw [Bool.and_eq_true] at h
    cases i with
    | zero =>
      cases hi
      have h1 := h.1
      split at h1
      · rename_i e
        exact absurd e hc
      · split at h1
        · rename_i d hd
          exact ⟨d, hd, h1⟩
        · cases h1
    | succ i =>
      obtain ⟨d, h1, h2⟩ := sg_cells_ok h.2 i c hi hc
      exact ⟨d, by rw [show j + (i + 1) = j + 1 + i by omega]; exact h1, h2⟩
theorem sg_chunks_ok {G : sx_G} : ∀ {P : List (List sx_C)} {j : Nat}, sg_chunks S rs n G j P = true → ∀ q p, P[q]? = some p → ∀ i c, p[i]? = some c → c.1 ≠ 2 → ∃ d, sx_get G (sg_at rs (j + 16 * q + i)) = some d ∧ sg_ceq S rs n (sg_n4 S c) d = true
  | [], j, _, q, p, hq, _, _, _, _ => by cases hq
  | p0 :: r, j, h, q, p, hq, i, c, hi, hc => by
    unfold sg_chunks at h
    rw [Bool.and_eq_true] at h
    cases q with
    | zero =>
      cases hq
      exact sg_cells_ok h.1 i c hi hc
    | succ q =>
      obtain ⟨d, h1, h2⟩ := sg_chunks_ok h.2 q p hq i c hi hc
      exact ⟨d, by rw [show j + 16 * (q + 1) + i = j + 16 + 16 * q + i by omega]; exact h1, h2⟩
theorem sg_wf_ok : ∀ {P : List (List sx_C)} {m : Nat}, sg_wf m P = true → ∀ q p, P[q]? = some p → p.length + 16 * q ≤ m ∨ p.length = 0
  | [], m, _, q, p, hq => by cases hq
  | p0 :: r, m, h, q, p, hq => by
    unfold sg_wf at h
    rw [Bool.and_eq_true] at h
    cases q with
    | zero =>
      cases hq
      have := Nat.le_of_ble_eq_true h.1
      rw [sx_len_eq] at this
      left
      omega
    | succ q =>
      rcases sg_wf_ok h.2 q p hq with e | e
      · by_cases z : p.length = 0
        · exact Or.inr z
        · left
          omega
      · exact Or.inr e
theorem sg_lq_ok (hS : sg_So (ρ, lam, a) S) (hb : ∀ j, j < n → b j = a (sg_at rs j)) : ∀ {l l' : sx_L}, sg_lq S rs n l l' = true → ab_lle (sx_eL (ρ, lam, b) l) (sx_eL (ρ, lam, a) l')
  | [], [], _ => ab_lle.rf _
  | none :: l, o :: l', h => by
    have ih := sg_lq_ok hS hb (l := l) (l' := l') h
    refine ⟨congrArg (· + 1) ih.1, fun i v q => ?_⟩
    cases i with
    | zero => cases q
    | succ i => exact ih.2 i v q
  | some v :: l, some w :: l', h => by
    unfold sg_lq at h
    rw [Bool.and_eq_true] at h
    have ih := sg_lq_ok hS hb (l := l) (l' := l') h.2
    refine ⟨congrArg (· + 1) ih.1, fun i u q => ?_⟩
    cases i with
    | zero =>
      have q : some (some (sx_ev (ρ, lam, b) v)) = some (some u) := q
      rw [sg_veq_ok hS hb h.1] at q
      exact q
    | succ i => exact ih.2 i u q
  | [], _ :: _, h => by cases h
  | some _ :: _, none :: _, h => by cases h
  | some _ :: _, [], h => by cases h
  | none :: _, [], h => by cases h
end SGX
theorem sg_aeq_ok : ∀ {a b : List sx_V}, sg_aeq a b = true → a = b
  | [], [], _ => rfl
  | v :: a, w :: b, h => by
    unfold sg_aeq at h
    rw [Bool.and_eq_true] at h
    rw [sx_veq_ok h.1, sg_aeq_ok h.2]
  | [], _ :: _, h => by cases h
  | _ :: _, [], h => by cases h
theorem sg_pre_ok {E : sx_E} {h0 h : ab_H} {m sl : Nat} {G : sx_G} (A : sx_A E h0 m) (R : sx_Rl E h0 m G sl h) : ∀ {P : List (Nat × sx_C)}, sg_pre G P = true → ∀ p ∈ P, E.2.2 p.1 < h.2.1 ∧ ∀ q, sx_eC E p.2 = some q → h.1 (E.2.2 p.1) = some q
  | [], _, p, hp => nomatch hp
  | p0 :: r, hP, p, hp => by
    unfold sg_pre at hP
    rw [Bool.and_eq_true] at hP
    rcases List.mem_cons.mp hp with e | e
    · subst e
      have h1 := hP.1
      split at h1
      · rename_i d hd
        refine ⟨R.old A (R.1.2.2.2 _ d hd), fun q hq => ?_⟩
        split at h1
        · rename_i e2
          unfold sx_eC at hq
          rw [e2] at hq
          cases hq
        · rw [Bool.and_eq_true, Bool.and_eq_true] at h1
          obtain ⟨k, c⟩ := p
          have e3 : d = c := Prod.ext (Nat.eq_of_beq_eq_true h1.1) (Prod.ext (Nat.eq_of_beq_eq_true h1.2.1) (sg_aeq_ok h1.2.2))
          subst e3
          exact R.2.1 k d q hd hq
      · cases h1
    · exact sg_pre_ok A R hP.2 p e
theorem sg_puts_ok {E : sx_E} {h0 : ab_H} {m sl : Nat} (A : sx_A E h0 m) : ∀ {P : List (Nat × sx_C)} {G : sx_G} {h : ab_H}, sx_Rl E h0 m G sl h → (P.all fun q => Nat.ble q.2.1 1) = true → sx_Rl E h0 m (sg_puts G P) sl (sg_wr E h P)
  | [], G, h, R, _ => R
  | q :: r, G, h, R, hP => by
    rw [List.all_cons, Bool.and_eq_true] at hP
    have h1 := Nat.le_of_ble_eq_true hP.1
    obtain ⟨k, t, ci, xs⟩ := q
    have h1 : t ≤ 1 := h1
    show sx_Rl E h0 m (sg_puts (sx_put G k (t, ci, xs)) r) sl (sg_wr E (match sx_eC E (t, ci, xs) with
      | some c => ab_set h (E.2.2 k) c
      | none => h) r)
    match t, h1 with
    | 0, _ => exact sg_puts_ok A (R.set A rfl) hP.2
    | 1, _ => exact sg_puts_ok A (R.set A rfl) hP.2
theorem sg_wr_2 {E : sx_E} : ∀ (P : List (Nat × sx_C)) (h : ab_H), (sg_wr E h P).2 = h.2
  | [], _ => rfl
  | q :: r, h => by
    show (sg_wr E (match sx_eC E q.2 with
      | some c => ab_set h (E.2.2 q.1) c
      | none => h) r).2 = h.2
    rw [sg_wr_2 r]
    split <;> rfl
theorem sg_Rl_ag {E : sx_E} {h0 h h' : ab_H} {m sl : Nat} {G : sx_G} (A : sx_A E h0 m) (R : sx_Rl E h0 m G sl h) (h2 : h'.2 = h.2) (h1 : ∀ b, b < h.2.1 → h'.1 b = h.1 b) : sx_Rl E h0 m G sl h' := by
  refine ⟨⟨R.1.1, by rw [h2]; exact R.1.2.1, by rw [h2]; exact R.1.2.2.1, R.1.2.2.2⟩, fun k c q hk hq => ?_, fun b hb hn => ?_⟩
  · rw [h1 _ (R.old A (R.1.2.2.2 k c hk))]
    exact R.2.1 k c q hk hq
  · have := R.1.2.1
    rw [h1 b (by omega)]
    exact R.2.2 b hb hn
theorem sg_K_ok {sv : Nat → Value} {mt : Nat → (Nat → Option ab_I) × Nat} {E : sx_E} {h0 : ab_H} {m d0 : Nat} (A : sx_A E h0 m) : ∀ {T : List sg_T}, (∀ t ∈ T, sg_ct sv mt d0 E t) → ∀ dd, d0 ≤ dd → sx_KS E h0 m (ab_run sv mt dd) (sg_K T)
  | [], _, dd, _ => fun y as G sl r G' sl' h Q hk _ _ => by cases hk
  | t :: T, hT, dd, hd => fun y as G sl r G' sl' h Q hk R hQ => by
    have hk : (match Nat.beq t.1 y && (sg_aeq t.2.1 as && (sg_pre G t.2.2.1 && t.2.2.2.1.all fun q => Nat.ble q.2.1 1)) with
      | true => some (t.2.2.2.2, sg_puts G t.2.2.2.1, sl)
      | false => sg_K T y as G sl) = some (r, G', sl') := hk
    split at hk
    · rename_i hb
      rw [Bool.and_eq_true, Bool.and_eq_true, Bool.and_eq_true] at hb
      cases hk
      rw [← Nat.eq_of_beq_eq_true hb.1, ← sg_aeq_ok hb.2.1]
      exact hT t List.mem_cons_self dd hd h Q (fun _ _ => A.inj) (sg_pre_ok A R hb.2.2.1) fun h' e1 e2 => hQ _ (sg_Rl_ag A (sg_puts_ok A R hb.2.2.2) (by rw [e1, sg_wr_2]) fun b hb => e2 b (by rw [sg_wr_2] at hb; exact hb))
    · exact sg_K_ok A (fun t' ht => hT t' (List.mem_cons_of_mem _ ht)) dd hd _ _ _ _ _ _ _ _ _ hk R hQ
/-- at this place, with such a state, the rest goes well; A, B: cells and slots used up to here -/
def sg_P (nx : ab_N) (sv : Nat → Value) (ρ : Nat → Int32) (lam : Nat → Int64) (n0 s0 pc : Nat) (l : sx_L) (G : sx_G) (A B : Nat) : Prop := ∀ (α : Nat → Nat) (h : ab_H), sg_H (ρ, lam, α) G h → sv 0 = .ref (α 0) → h.2.1 ≤ n0 + A → h.2.2 ≤ s0 + B → nx pc (sx_eL (ρ, lam, α) l) [] h
def sg_res (y : Nat) (F : sx_F) (T : List sg_T) (cd : Nat → Nat → Option sx_X) (ml : Nat → Nat) (stop : Nat → Bool) (fuel d : Nat) (S : sg_S) (pc : Nat) (l : sx_L) (G : sx_G) : Option sx_Z :=
  sx_one [(1, 0)] F (cd y) (sx_run [(1, 0)] F cd ml (sg_K T) fuel d) (sx_go [(1, 0)] F (cd y) (sx_run [(1, 0)] F cd ml (sg_K T) fuel d) stop fuel) pc (sg_nl S l) [] (sg_nG S G) 0
def sg_chk (S : sg_S) (rs : List (Nat × Nat)) (G : sx_G) (A B pc1 : Nat) (l1 : sx_L) (G1 : sx_G) (A1 B1 : Nat) : Option sx_Z → Bool
  | some (.inl (pc', l', [], G', sl')) => Nat.beq pc' pc1 && (sg_lq S rs G1.1 l1 l' && (sg_rs G'.1 0 rs G1.1 && (sg_wf G1.1 G1.2 && (Nat.beq (sg_at rs 0) 0 && (Nat.ble 1 G1.1 && (Nat.ble (A + (G'.1 - G.1)) A1 && (Nat.ble (B + sl') B1 && sg_chunks S rs G1.1 G' 0 G1.2)))))))
  | _ => false
def sg_fin (G : sx_G) (A B A1 B1 : Nat) : Option sx_Z → Bool
  | some (.inr (.inl (some (0, 1)), G', sl')) => Nat.ble (A + (G'.1 - G.1)) A1 && Nat.ble (B + sl') B1
  | _ => false
section SGZ
variable {sv : Nat → Value} {mt : Nat → (Nat → Option ab_I) × Nat} {ρ : Nat → Int32} {lam : Nat → Int64} {cd : Nat → Nat → Option sx_X} {ml : Nat → Nat} {dd y n0 s0 : Nat} {Q : ab_Q}
theorem sg_vs {α : Nat → Nat} (h : sv 0 = .ref (α 0)) : ∀ (i : Nat) (v : sx_V), [((1 : Nat), (0 : Nat))][i]? = some v → sx_ev (ρ, lam, α) v = sv i := by
  intro i v hi
  cases i with
  | zero => cases hi; exact h.symm
  | succ i => cases hi
theorem sg_H.nG {α : Nat → Nat} {S : sg_S} {G : sx_G} {h : ab_H} (hS : sg_So (ρ, lam, α) S) (H : sg_H (ρ, lam, α) G h) : sx_Rl (ρ, lam, α) h G.1 (sg_nG S G) 0 h := by
  obtain ⟨hA, hR⟩ := H
  refine ⟨⟨hR.1.1, hR.1.2.1, hR.1.2.2.1, fun k c hk => ?_⟩, fun k c q hk hq => ?_, fun _ _ _ => rfl⟩
  · rw [sg_nG_get] at hk
    cases hg : sx_get G k with
    | none => rw [hg] at hk; cases hk
    | some c0 => exact hR.1.2.2.2 k c0 hg
  · rw [sg_nG_get] at hk
    cases hg : sx_get G k with
    | none => rw [hg] at hk; cases hk
    | some c0 =>
      rw [hg] at hk
      cases hk
      rw [sg_nc_ok hS] at hq
      exact hR.2.1 k c0 q hg hq
theorem sg_gen (hcd : ∀ y pc X, cd y pc = some X → ∃ i, (mt y).1 pc = some i ∧ sx_tr pc i = some X) (hml : (fun y => (mt y).2) = ml) {F : sx_F} {T : List sg_T} {stop : Nat → Bool} {fuel d d0 : Nat} (hd : d0 + d ≤ dd) {S : sg_S} {pc : Nat} {l : sx_L} {G : sx_G} {α : Nat → Nat} {h : ab_H}
    (hS : sg_So (ρ, lam, α) S) (hF : sx_ok (ρ, lam, α) F) (hT : ∀ t ∈ T, sg_ct sv mt d0 (ρ, lam, α) t) (H : sg_H (ρ, lam, α) G h) (h0 : sv 0 = .ref (α 0)) {z : sx_Z} (hz : sg_res y F T cd ml stop fuel d S pc l G = some z)
    (hP : sx_P (ρ, lam, α) h G.1 (ab_WP sv (ab_run sv mt dd) (mt y).1 Q) Q z) : ab_WP sv (ab_run sv mt dd) (mt y).1 Q pc (sx_eL (ρ, lam, α) l) [] h := by
  subst hml
  have hR := sg_H.nG hS H
  rw [← sg_nl_ok hS l]
  have hK := sx_run_ok (fuel := fuel) (sg_vs h0) H.1 hF hcd (sg_K_ok H.1 hT) d dd hd
  exact sx_one_ok (st := []) (sg_vs h0) H.1 hF (ab_run_mon sv mt dd) (ab_run_det sv mt dd) (hcd y) hK (sx_go_ok (sg_vs h0) H.1 hF (ab_run_mon sv mt dd) (ab_run_det sv mt dd) (hcd y) hK fuel) hz hR hP
theorem sg_seg (hcd : ∀ y pc X, cd y pc = some X → ∃ i, (mt y).1 pc = some i ∧ sx_tr pc i = some X) (hml : (fun y => (mt y).2) = ml) {F : sx_F} {T : List sg_T} {stop : Nat → Bool} {fuel d d0 : Nat} (hd : d0 + d ≤ dd) {S : sg_S} {rs : List (Nat × Nat)} {pc A B pc1 A1 B1 : Nat} {l l1 : sx_L} {G G1 : sx_G}
    (hS : ∀ α, sg_So (ρ, lam, α) S) (hF : ∀ α, sx_ok (ρ, lam, α) F) (hT : ∀ α, ∀ t ∈ T, sg_ct sv mt d0 (ρ, lam, α) t)
    (chk : sg_chk S rs G A B pc1 l1 G1 A1 B1 (sg_res y F T cd ml stop fuel d S pc l G) = true)
    (next : sg_P (ab_WP sv (ab_run sv mt dd) (mt y).1 Q) sv ρ lam n0 s0 pc1 l1 G1 A1 B1) : sg_P (ab_WP sv (ab_run sv mt dd) (mt y).1 Q) sv ρ lam n0 s0 pc l G A B := by
  intro α h H h0 hA hB
  cases hz : sg_res y F T cd ml stop fuel d S pc l G with
  | none => rw [hz] at chk; cases chk
  | some z =>
    rw [hz] at chk
    refine sg_gen hcd hml hd (hS α) (hF α) (hT α) H h0 hz ?_
    unfold sg_chk at chk
    split at chk
    · rename_i pc' l' G' sl' e
      cases e
      simp only [Bool.and_eq_true] at chk
      obtain ⟨c1, c2, c3, c4, c5, c6, c7, c8, c9⟩ := chk
      have e1 := Nat.eq_of_beq_eq_true c1
      have e5 := Nat.eq_of_beq_eq_true c5
      have e6 := Nat.le_of_ble_eq_true c6
      have e7 := Nat.le_of_ble_eq_true c7
      have e8 := Nat.le_of_ble_eq_true c8
      subst e1
      intro h' R'
      have hb : ∀ j, j < G1.1 → (fun j => if j < G1.1 then α (sg_at rs j) else h'.2.1 + (j - G1.1)) j = α (sg_at rs j) := fun j hj => if_pos hj
      have hnx := next (fun j => if j < G1.1 then α (sg_at rs j) else h'.2.1 + (j - G1.1)) h' ⟨⟨fun k hk => ?_, fun j k hj hk hjk => ?_, fun k hk => ?_⟩, ⟨⟨Nat.le_refl _, by rw [Nat.sub_self]; rfl, rfl, fun k c hk => ?_⟩, fun k c q hk hq => ?_, fun _ _ _ => rfl⟩⟩ ?_ ?_ ?_
      · exact ab_WP_lle (ab_run_mon sv mt dd) (sg_lq_ok (hS α) hb c2) hnx
      · show (if k < G1.1 then α (sg_at rs k) else _) < h'.2.1
        rw [if_pos hk]
        exact R'.old H.1 (sg_at_lo c3 k hk).2
      · have hjk : (if j < G1.1 then α (sg_at rs j) else _) = (if k < G1.1 then α (sg_at rs k) else _) := hjk
        rw [if_pos hj, if_pos hk] at hjk
        have e9 : sg_at rs j = sg_at rs k := H.1.inj hjk
        rcases Nat.lt_trichotomy j k with z | z | z
        · have := sg_at_mono c3 j k z hk
          omega
        · exact z
        · have := sg_at_mono c3 k j z hj
          omega
      · show (if k < G1.1 then _ else _) = _
        rw [if_neg (Nat.not_lt.mpr hk)]
      · unfold sx_get at hk
        simp only [sx_nth_get] at hk
        split at hk
        · rename_i p hp
          have h2 := (List.getElem?_eq_some_iff.mp hk).1
          rcases sg_wf_ok c4 _ p hp with z | z <;> omega
        · cases hk
      · have hk0 := hk
        unfold sx_get at hk
        simp only [sx_nth_get] at hk
        split at hk
        · rename_i p hp
          have hc2 : c.1 ≠ 2 := by
            intro z
            unfold sx_eC at hq
            rw [z] at hq
            cases hq
          obtain ⟨dc, g1, g2⟩ := sg_chunks_ok c9 _ p hp _ c hk hc2
          rw [show 0 + 16 * (k / 16) + k % 16 = k by omega] at g1
          have h2 := (List.getElem?_eq_some_iff.mp hk).1
          have h3 : k < G1.1 := by
            rcases sg_wf_ok c4 _ p hp with z | z <;> omega
          rw [← sg_n4_ok (show sg_So (ρ, lam, fun j => if j < G1.1 then α (sg_at rs j) else h'.2.1 + (j - G1.1)) S from hS _), sg_ceq_ok (hS α) hb g2] at hq
          show h'.1 (if k < G1.1 then α (sg_at rs k) else _) = some q
          rw [if_pos h3]
          exact R'.2.1 _ dc q g1 hq
        · cases hk
      · rw [h0]
        show Value.ref (α 0) = Value.ref (if 0 < G1.1 then α (sg_at rs 0) else _)
        rw [if_pos (by omega), e5]
      · have := R'.1.2.1
        omega
      · have := R'.1.2.2.1
        omega
    · cases chk
theorem sg_end (hcd : ∀ y pc X, cd y pc = some X → ∃ i, (mt y).1 pc = some i ∧ sx_tr pc i = some X) (hml : (fun y => (mt y).2) = ml) {F : sx_F} {T : List sg_T} {stop : Nat → Bool} {fuel d d0 : Nat} (hd : d0 + d ≤ dd) {S : sg_S} {pc A B A1 B1 : Nat} {l : sx_L} {G : sx_G}
    (hS : ∀ α, sg_So (ρ, lam, α) S) (hF : ∀ α, sx_ok (ρ, lam, α) F) (hT : ∀ α, ∀ t ∈ T, sg_ct sv mt d0 (ρ, lam, α) t)
    (chk : sg_fin G A B A1 B1 (sg_res y F T cd ml stop fuel d S pc l G) = true)
    (hQ : ∀ h : ab_H, h.2.1 ≤ n0 + A1 → h.2.2 ≤ s0 + B1 → Q (.inl (some (.int 1))) h) : sg_P (ab_WP sv (ab_run sv mt dd) (mt y).1 Q) sv ρ lam n0 s0 pc l G A B := by
  intro α h H h0 hA hB
  cases hz : sg_res y F T cd ml stop fuel d S pc l G with
  | none => rw [hz] at chk; cases chk
  | some z =>
    rw [hz] at chk
    refine sg_gen hcd hml hd (hS α) (hF α) (hT α) H h0 hz ?_
    unfold sg_fin at chk
    split at chk
    · rename_i G' sl' e
      cases e
      rw [Bool.and_eq_true] at chk
      have e7 := Nat.le_of_ble_eq_true chk.1
      have e8 := Nat.le_of_ble_eq_true chk.2
      intro h' R'
      refine hQ h' ?_ ?_
      · have := R'.1.2.1
        omega
      · have := R'.1.2.2.1
        omega
    · cases chk
end SGZ
