/-! ONE STEP AS AN EQUATION, for rewriting: what a load, a field, an element gives. -/
def wl (k : Nat) (o : Option (Option Value)) (f : Value → Prop) : Prop := match o with
  | some (some v) => ab_fit k v = true ∧ f v
  | _ => False
def wg (o : Option ab_C) (ci k : Nat) (f : Value → Prop) : Prop := ∃ fs v, o = some (.inr (ci, fs)) ∧ fs[k]? = some v ∧ f v
def wq (o : Option ab_C) (ci k t : Nat) (v : Value) (f : ab_C → Prop) : Prop := ∃ fs, o = some (.inr (ci, fs)) ∧ k < fs.length ∧ ab_fit t v = true ∧ f (.inr (ci, fs.set k v))
def wa (o : Option ab_C) (k : Nat) (i : Int32) (f : Value → Prop) : Prop := ∃ t xs v, o = some (.inl (t, xs)) ∧ t % 8 = k ∧ ¬ i < 0 ∧ xs[i.toNatClampNeg]? = some v ∧ ab_fit k v = true ∧ f v
def wt (h : ab_H) (o : Option ab_C) (k : Nat) (i : Int32) (v : Value) (f : ab_C → Prop) : Prop := ∃ t xs, o = some (.inl (t, xs)) ∧ t % 8 = k ∧ t < 1000 ∧ ab_fit k v = true ∧ ¬ i < 0 ∧ i.toNatClampNeg < xs.length ∧ (k = 6 → ab_el h t v = true) ∧ f (.inl (t, xs.set i.toNatClampNeg v))
def wn (o : Option ab_C) (f : Nat → Prop) : Prop := ∃ t xs, o = some (.inl (t, xs)) ∧ f xs.length
/-- the receiver's class -/
def wr (o : Option ab_C) (ci : Nat) (f : Prop) : Prop := ∃ fs, o = some (.inr (ci, fs)) ∧ f
theorem wl_i {x : Int32} {f : Value → Prop} : wl 0 (some (some (.int x))) f = f (.int x) := by simp [wl, ab_fit]
theorem wl_j {x : Int64} {f : Value → Prop} : wl 3 (some (some (.long x))) f = f (.long x) := by simp [wl, ab_fit]
theorem wl_d {x : UInt64} {f : Value → Prop} : wl 4 (some (some (.double x))) f = f (.double x) := by simp [wl, ab_fit]
theorem wl_r {a : Nat} {f : Value → Prop} : wl 6 (some (some (.ref a))) f = f (.ref a) := by simp [wl, ab_fit]
theorem wl_n {f : Value → Prop} : wl 6 (some (some .null)) f = f .null := by simp [wl, ab_fit]
theorem wg_s {ci k : Nat} {fs : List Value} {v : Value} {f : Value → Prop} (h : fs[k]? = some v) : wg (some (.inr (ci, fs))) ci k f = f v := by
  refine propext ⟨fun ⟨fs', v', h1, h2, h3⟩ => ?_, fun h3 => ⟨fs, v, rfl, h, h3⟩⟩
  cases h1
  cases h.symm.trans h2
  exact h3
theorem wq_s {ci k t : Nat} {fs : List Value} {v : Value} {f : ab_C → Prop} (h : k < fs.length) (hv : ab_fit t v = true) : wq (some (.inr (ci, fs))) ci k t v f = f (.inr (ci, fs.set k v)) := by
  refine propext ⟨fun ⟨fs', h1, _, _, h3⟩ => ?_, fun h3 => ⟨fs, rfl, h, hv, h3⟩⟩
  cases h1
  exact h3
theorem wn_s {t : Nat} {xs : List Value} {f : Nat → Prop} : wn (some (.inl (t, xs))) f = f xs.length := by
  refine propext ⟨fun ⟨t', xs', h1, h3⟩ => ?_, fun h3 => ⟨t, xs, rfl, h3⟩⟩
  cases h1
  exact h3
theorem wr_s {ci : Nat} {fs : List Value} {f : Prop} : wr (some (.inr (ci, fs))) ci f = f := by
  refine propext ⟨fun ⟨fs', h1, h3⟩ => h3, fun h3 => ⟨fs, rfl, h3⟩⟩
def wy (C : ab_Y) (nx : ab_N) (Q : ab_Q) (h : ab_H) : Option ab_O → Prop
  | some (.inl (pc', l', st', h')) => nx pc' l' st' h'
  | some (.inr (.inl (r, h'))) => Q r h'
  | some (.inr (.inr (y, as, pc', l', st', hs))) => C y as h (ab_bk nx pc' l' st' hs)
  | none => False
section WEQ
variable {sv : Nat → Value} {C : ab_Y} {nx : ab_N} {Q : ab_Q} {pc n p2 : Nat} {l : ab_L} {st : List Value} {h : ab_H} {aux : List Nat}
theorem wy_x {i : ab_I} : ab_x sv C nx Q i pc l st h = wy C nx Q h (ab_f sv i pc l st h) := rfl
theorem wy_ld {k i : Nat} : wy C nx Q h (ab_ld k p2 l st h i) = wl k l[i]? (fun v => nx p2 l (v :: st) h) := by
  unfold ab_ld wl
  cases l[i]? with
  | none => rfl
  | some o =>
    cases o with
    | none => rfl
    | some v =>
      by_cases hv : ab_fit k v = true
      · simp [hv, ab_nx, wy]
      · simp [hv, wy]
theorem wy_sv1 {k i : Nat} {v : Value} (hv : ab_fit k v = true) (hc : v.category = 1) (hi : i < l.length) : wy C nx Q h (ab_sv k p2 l (v :: st) h i) = nx p2 (ab_sto l i v) st h := by
  unfold ab_sv
  simp [hv, hc, hi, ab_nx, wy]
theorem wy_sv2 {k i : Nat} {v : Value} (hv : ab_fit k v = true) (hc : v.category = 2) (hi : i + 1 < l.length) : wy C nx Q h (ab_sv k p2 l (v :: st) h i) = nx p2 (ab_sto l i v) st h := by
  unfold ab_sv
  simp [hv, hc, hi, ab_nx, wy]
theorem wy_br {b : Bool} {o : Int} {t : Nat} (h0 : 0 ≤ (pc : Int) + o) (ht : ab_tg pc o = t) : wy C nx Q h (ab_br b pc o l st h) = if b = true then nx t l st h else nx (pc + 3) l st h := by
  unfold ab_br
  rw [if_pos h0, ht]
  split <;> rfl
theorem wy_al {k : Nat} {i : Int32} {a : Nat} : wy C nx Q h (ab_al k pc l (.int i :: .ref a :: st) h) = wa (h.1 a) k i (fun v => nx (pc + 1) l (v :: st) h) := by
  unfold wa
  show wy C nx Q h (match h.1 a with
      | some (.inl (t, xs)) => if t % 8 = k ∧ ¬ (i < 0 ∨ xs.length ≤ i.toNatClampNeg) then (match xs[i.toNatClampNeg]? with
        | some v => if ab_fit k v = true then ab_nx (pc + 1) l (v :: st) h else none
        | none => none) else none
      | _ => none) = _
  refine propext ⟨fun x => ?_, fun ⟨t, xs, v, h1, h2, h3, h4, h5, h6⟩ => ?_⟩
  · split at x
    · rename_i t xs hc
      split at x
      · rename_i hq
        split at x
        · rename_i v hv
          split at x
          · rename_i hf
            exact ⟨t, xs, v, hc, hq.1, fun z => hq.2 (Or.inl z), hv, hf, x⟩
          · exact x.elim
        · exact x.elim
      · exact x.elim
    · exact x.elim
  · have hlt : i.toNatClampNeg < xs.length := (List.getElem?_eq_some_iff.mp h4).1
    have hc : t % 8 = k ∧ ¬ (i < 0 ∨ xs.length ≤ i.toNatClampNeg) := ⟨h2, fun z => z.elim h3 (fun z => by omega)⟩
    rw [h1]
    show wy C nx Q h (if t % 8 = k ∧ ¬ (i < 0 ∨ xs.length ≤ i.toNatClampNeg) then (match xs[i.toNatClampNeg]? with
        | some v => if ab_fit k v = true then ab_nx (pc + 1) l (v :: st) h else none
        | none => none) else none)
    rw [if_pos hc, h4]
    show wy C nx Q h (if ab_fit k v = true then ab_nx (pc + 1) l (v :: st) h else none)
    rw [if_pos h5]
    exact h6
theorem wy_as {k : Nat} {i : Int32} {a : Nat} {v : Value} : wy C nx Q h (ab_as k pc l (v :: .int i :: .ref a :: st) h) = wt h (h.1 a) k i v (fun c => nx (pc + 1) l st (ab_set h a c)) := by
  unfold wt
  show wy C nx Q h (match h.1 a with
      | some (.inl (t, xs)) => if t % 8 = k ∧ t < 1000 ∧ ab_fit k v = true ∧ ¬ (i < 0 ∨ xs.length ≤ i.toNatClampNeg) ∧ (k = 6 → ab_el h t v = true)
        then ab_nx (pc + 1) l st (ab_set h a (.inl (t, xs.set i.toNatClampNeg v))) else none
      | _ => none) = _
  refine propext ⟨fun x => ?_, fun ⟨t, xs, h1, h2, h3, h4, h5, h6, h7, h8⟩ => ?_⟩
  · split at x
    · rename_i t xs hc
      split at x
      · rename_i hq
        obtain ⟨q1, q2, q3, q4, q5⟩ := hq
        exact ⟨t, xs, hc, q1, q2, q3, fun z => q4 (Or.inl z), Nat.not_le.mp (fun z => q4 (Or.inr z)), q5, x⟩
      · exact x.elim
    · exact x.elim
  · rw [h1]
    show wy C nx Q h (if t % 8 = k ∧ t < 1000 ∧ ab_fit k v = true ∧ ¬ (i < 0 ∨ xs.length ≤ i.toNatClampNeg) ∧ (k = 6 → ab_el h t v = true)
        then ab_nx (pc + 1) l st (ab_set h a (.inl (t, xs.set i.toNatClampNeg v))) else none)
    rw [if_pos ⟨h2, h3, h4, fun z => z.elim h5 (fun z => by omega), h7⟩]
    exact h8
theorem wy_gf {idx ci k a : Nat} {tl : List Nat} : wy C nx Q h (ab_f sv (.getfield idx, n, ci :: k :: tl) pc l (.ref a :: st) h) = wg (h.1 a) ci k (fun v => nx (pc + 3) l (v :: st) h) := by
  unfold wg
  show wy C nx Q h (match h.1 a with
      | some (.inr (cj, fs)) => if cj = ci then (match fs[k]? with
          | some v => ab_nx (pc + 3) l (v :: st) h
          | none => none) else none
      | _ => none) = _
  refine propext ⟨fun x => ?_, fun ⟨fs, v, h1, h2, h3⟩ => ?_⟩
  · split at x
    · rename_i cj fs hc
      split at x
      · rename_i hq
        subst hq
        split at x
        · rename_i v hv
          exact ⟨fs, v, hc, hv, x⟩
        · exact x.elim
      · exact x.elim
    · exact x.elim
  · rw [h1]
    show wy C nx Q h (if ci = ci then (match fs[k]? with
          | some v => ab_nx (pc + 3) l (v :: st) h
          | none => none) else none)
    rw [if_pos rfl, h2]
    exact h3
theorem wy_pf {idx ci k t a : Nat} {v : Value} {tl : List Nat} : wy C nx Q h (ab_f sv (.putfield idx, n, ci :: k :: t :: tl) pc l (v :: .ref a :: st) h) = wq (h.1 a) ci k t v (fun c => nx (pc + 3) l st (ab_set h a c)) := by
  unfold wq
  show wy C nx Q h (match h.1 a with
      | some (.inr (cj, fs)) => if cj = ci ∧ k < fs.length ∧ ab_fit t v = true then ab_nx (pc + 3) l st (ab_set h a (.inr (cj, fs.set k v))) else none
      | _ => none) = _
  refine propext ⟨fun x => ?_, fun ⟨fs, h1, h2, h3, h4⟩ => ?_⟩
  · split at x
    · rename_i cj fs hc
      split at x
      · rename_i hq
        obtain ⟨rfl, q2, q3⟩ := hq
        exact ⟨fs, hc, q2, q3, x⟩
      · exact x.elim
    · exact x.elim
  · rw [h1]
    show wy C nx Q h (if ci = ci ∧ k < fs.length ∧ ab_fit t v = true then ab_nx (pc + 3) l st (ab_set h a (.inr (ci, fs.set k v))) else none)
    rw [if_pos ⟨rfl, h2, h3⟩]
    exact h4
theorem wy_len {a : Nat} : wy C nx Q h (ab_f sv (.arraylength, n, aux) pc l (.ref a :: st) h) = wn (h.1 a) (fun m => nx (pc + 1) l (.int (Int32.ofNat m) :: st) h) := by
  unfold wn
  show wy C nx Q h (match h.1 a with
      | some (.inl (_, xs)) => ab_nx (pc + 1) l (.int (Int32.ofNat xs.length) :: st) h
      | _ => none) = _
  refine propext ⟨fun x => ?_, fun ⟨t, xs, h1, h2⟩ => ?_⟩
  · split at x
    · rename_i t xs hc
      exact ⟨t, xs, hc, x⟩
    · exact x.elim
  · rw [h1]
    exact h2
theorem wy_cast {idx ci a : Nat} {tl : List Nat} : wy C nx Q h (ab_f sv (.checkcast idx, n, ci :: tl) pc l (.ref a :: st) h) = wr (h.1 a) ci (nx (pc + 3) l (.ref a :: st) h) := by
  unfold wr
  show wy C nx Q h (match h.1 a with
      | some (.inr (cj, _)) => if cj = ci then ab_nx (pc + 3) l (.ref a :: st) h else none
      | _ => none) = _
  refine propext ⟨fun x => ?_, fun ⟨fs, h1, h2⟩ => ?_⟩
  · split at x
    · rename_i cj fs hc
      split at x
      · rename_i hq
        subst hq
        exact ⟨fs, hc, x⟩
      · exact x.elim
    · exact x.elim
  · rw [h1]
    show wy C nx Q h (if ci = ci then ab_nx (pc + 3) l (.ref a :: st) h else none)
    rw [if_pos rfl]
    exact h2
theorem wy_new {m : Int32} {t k : Nat} (hn : ¬ m < 0) (hm : m.toNatClampNeg ≤ 50000000) {f : Nat → ab_H} : wy C nx Q h (if ¬ m < 0 ∧ m.toNatClampNeg ≤ 50000000 then ab_nx p2 l st (f t) else none) = nx p2 l st (f t) := by
  rw [if_pos ⟨hn, hm⟩]
  rfl
theorem wy_call {y na : Nat} {hd : List Nat} {as : List Value} (hl : as.length = na) (hs : (st.map Value.category).sum ≤ 8) : wy C nx Q h (ab_call y na p2 hd l (as.reverse ++ st) h) = C y as h (ab_bk nx p2 l st (ab_hs hd)) := by
  unfold ab_call
  have e1 : (as.reverse ++ st).take na = as.reverse := by rw [← hl, ← List.length_reverse]; exact List.take_left
  have e2 : (as.reverse ++ st).drop na = st := by rw [← hl, ← List.length_reverse]; exact List.drop_left
  rw [e1, e2, if_pos ⟨by simp [hl], hs⟩, List.reverse_reverse]
  rfl
end WEQ
def wi (v : Value) (f : Int32 → Prop) : Prop := match v with
  | .int x => f x
  | _ => False
theorem wi_s {x : Int32} {f : Int32 → Prop} : wi (.int x) f = f x := rfl
/-- arraycopy -/
def wc (h : ab_H) (o0 o1 : Option ab_C) (sp dp m : Int32) (f : ab_C → Prop) : Prop := ∃ t0 xs t1 ys, o0 = some (.inl (t0, xs)) ∧ o1 = some (.inl (t1, ys)) ∧ ((t1 = 0 ∧ t0 = 0) ∨ (t1 = 6 ∧ t0 = 6)) ∧ ¬ sp < 0 ∧ ¬ dp < 0 ∧ ¬ m < 0 ∧ sp.toNatClampNeg + m.toNatClampNeg ≤ xs.length ∧ dp.toNatClampNeg + m.toNatClampNeg ≤ ys.length ∧
  (((xs.drop sp.toNatClampNeg).take m.toNatClampNeg).all fun v => ab_fit t1 v && (t1 == 0 || ab_el h 6 v)) = true ∧ f (.inl (t1, ab_cpy xs ys sp.toNatClampNeg dp.toNatClampNeg m.toNatClampNeg))
section WEQ2
variable {sv : Nat → Value} {C : ab_Y} {nx : ab_N} {Q : ab_Q} {pc n p2 : Nat} {l : ab_L} {st : List Value} {h : ab_H} {aux : List Nat}
theorem wy_iinc {k : Nat} {m : Int} : wy C nx Q h (ab_f sv (.iinc k m, n, aux) pc l st h) = wl 0 l[k]? (fun v => wi v fun x => nx (pc + 3) (ab_sto l k (.int (x + Int32.ofInt m))) st h) := by
  show wy C nx Q h (match l[k]? with
    | some (some (.int x)) => ab_nx (pc + 3) (ab_sto l k (.int (x + Int32.ofInt m))) st h
    | _ => none) = _
  unfold wl
  cases l[k]? with
  | none => rfl
  | some o =>
    cases o with
    | none => rfl
    | some v => cases v <;> simp [ab_fit, wi, wy, ab_nx]
theorem wy_eq {x y : Int32} {o : Int} {t : Nat} (h0 : 0 ≤ (pc : Int) + o) (ht : ab_tg pc o = t) : wy C nx Q h (ab_br (ab_cc .eq x y) pc o l st h) = if x = y then nx t l st h else nx (pc + 3) l st h := by
  rw [wy_br h0 ht]; simp [ab_cc]
theorem wy_ne {x y : Int32} {o : Int} {t : Nat} (h0 : 0 ≤ (pc : Int) + o) (ht : ab_tg pc o = t) : wy C nx Q h (ab_br (ab_cc .ne x y) pc o l st h) = if x = y then nx (pc + 3) l st h else nx t l st h := by
  rw [wy_br h0 ht]; by_cases e : x = y <;> simp [ab_cc, e]
theorem wy_lt {x y : Int32} {o : Int} {t : Nat} (h0 : 0 ≤ (pc : Int) + o) (ht : ab_tg pc o = t) : wy C nx Q h (ab_br (ab_cc .lt x y) pc o l st h) = if x < y then nx t l st h else nx (pc + 3) l st h := by
  rw [wy_br h0 ht]; simp [ab_cc]
theorem wy_ge {x y : Int32} {o : Int} {t : Nat} (h0 : 0 ≤ (pc : Int) + o) (ht : ab_tg pc o = t) : wy C nx Q h (ab_br (ab_cc .ge x y) pc o l st h) = if y ≤ x then nx t l st h else nx (pc + 3) l st h := by
  rw [wy_br h0 ht]; simp [ab_cc]
theorem wy_gt {x y : Int32} {o : Int} {t : Nat} (h0 : 0 ≤ (pc : Int) + o) (ht : ab_tg pc o = t) : wy C nx Q h (ab_br (ab_cc .gt x y) pc o l st h) = if y < x then nx t l st h else nx (pc + 3) l st h := by
  rw [wy_br h0 ht]; simp [ab_cc]
theorem wy_le {x y : Int32} {o : Int} {t : Nat} (h0 : 0 ≤ (pc : Int) + o) (ht : ab_tg pc o = t) : wy C nx Q h (ab_br (ab_cc .le x y) pc o l st h) = if x ≤ y then nx t l st h else nx (pc + 3) l st h := by
  rw [wy_br h0 ht]; simp [ab_cc]
theorem wy_acmpE {a b : Nat} {o : Int} {t : Nat} (h0 : 0 ≤ (pc : Int) + o) (ht : ab_tg pc o = t) : wy C nx Q h (ab_f sv (.if_acmp .eq o, n, aux) pc l (.ref b :: .ref a :: st) h) = if a = b then nx t l st h else nx (pc + 3) l st h := by
  show wy C nx Q h (ab_br (decide (some a = some b)) pc o l st h) = _
  rw [wy_br h0 ht]; simp
theorem wy_acmpN {a b : Nat} {o : Int} {t : Nat} (h0 : 0 ≤ (pc : Int) + o) (ht : ab_tg pc o = t) : wy C nx Q h (ab_f sv (.if_acmp .ne o, n, aux) pc l (.ref b :: .ref a :: st) h) = if a = b then nx (pc + 3) l st h else nx t l st h := by
  show wy C nx Q h (ab_br (!decide (some a = some b)) pc o l st h) = _
  rw [wy_br h0 ht]; by_cases e : a = b <;> simp [e]
theorem wy_goto {o : Int} {t : Nat} (h0 : 0 ≤ (pc : Int) + o) (ht : ab_tg pc o = t) : wy C nx Q h (ab_f sv (.goto o, n, aux) pc l st h) = nx t l st h := by
  show wy C nx Q h (if 0 ≤ (pc : Int) + o then ab_nx (ab_tg pc o) l st h else none) = _
  rw [if_pos h0, ht]
  rfl
theorem wy_div {x y : Int32} (hy : y ≠ 0) : wy C nx Q h (ab_f sv (.idiv, n, aux) pc l (.int y :: .int x :: st) h) = nx (pc + 1) l (.int (x / y) :: st) h := by
  show wy C nx Q h (if y = 0 then none else ab_nx (pc + 1) l (.int (x / y) :: st) h) = _
  rw [if_neg hy]; rfl
theorem wy_rem {x y : Int32} (hy : y ≠ 0) : wy C nx Q h (ab_f sv (.irem, n, aux) pc l (.int y :: .int x :: st) h) = nx (pc + 1) l (.int (x - x / y * y) :: st) h := by
  show wy C nx Q h (if y = 0 then none else ab_nx (pc + 1) l (.int (x - x / y * y) :: st) h) = _
  rw [if_neg hy]; rfl
theorem wy_dup {v : Value} (hv : v.category = 1) : wy C nx Q h (ab_f sv (.dup, n, aux) pc l (v :: st) h) = nx (pc + 1) l (v :: v :: st) h := by
  show wy C nx Q h (if v.category = 1 then ab_nx (pc + 1) l (v :: v :: st) h else none) = _
  rw [if_pos hv]; rfl
theorem wy_pop {v : Value} (hv : v.category = 1) : wy C nx Q h (ab_f sv (.pop, n, aux) pc l (v :: st) h) = nx (pc + 1) l st h := by
  show wy C nx Q h (if v.category = 1 then ab_nx (pc + 1) l st h else none) = _
  rw [if_pos hv]; rfl
theorem wy_dupx {v w : Value} (hv : v.category = 1) (hw : w.category = 1) : wy C nx Q h (ab_f sv (.dup_x1, n, aux) pc l (v :: w :: st) h) = nx (pc + 1) l (v :: w :: v :: st) h := by
  show wy C nx Q h (if v.category = 1 ∧ w.category = 1 then ab_nx (pc + 1) l (v :: w :: v :: st) h else none) = _
  rw [if_pos ⟨hv, hw⟩]; rfl
theorem wy_dup2 {v w : Value} (hv : v.category = 1) (hw : w.category = 1) : wy C nx Q h (ab_f sv (.dup2, n, aux) pc l (v :: w :: st) h) = nx (pc + 1) l (v :: w :: v :: w :: st) h := by
  show wy C nx Q h (if v.category = 1 ∧ w.category = 1 then ab_nx (pc + 1) l (v :: w :: v :: w :: st) h else none) = _
  rw [if_pos ⟨hv, hw⟩]; rfl
theorem wy_ret {x : Int32} {t : Nat} {tl : List Nat} (hf : ab_fit t (.int x) = true) : wy C nx Q h (ab_f sv (.ireturn, n, t :: tl) pc l [.int x] h) = Q (.inl (some (.int x))) h := by
  show wy C nx Q h (if ab_fit t (.int x) = true then some (.inr (.inl (.inl (some (.int x)), h))) else none) = _
  rw [if_pos hf]; rfl
theorem wy_thr {idx e : Nat} {tl : List Nat} (hs : (st.map Value.category).sum ≤ 8) : wy C nx Q h (ab_f sv (.new idx, n, 1 :: e :: tl) pc l st h) = Q (.inr e) (h.1, h.2.1 + 1, h.2.2 + 6) := by
  show wy C nx Q h (if (st.map Value.category).sum ≤ 8 then some (.inr (.inl (.inr e, (h.1, h.2.1 + 1, h.2.2 + 6)))) else none) = _
  rw [if_pos hs]; rfl
theorem wy_obj {idx a : Nat} (hs : (st.map Value.category).sum ≤ 8) : wy C nx Q h (ab_f sv (.invokespecial idx, n, [0]) pc l (.ref a :: st) h) = nx (pc + 3) l st h := by
  show wy C nx Q h (if (st.map Value.category).sum ≤ 8 then ab_nx (pc + 3) l st h else none) = _
  rw [if_pos hs]; rfl
theorem wy_vc0 {idx y na ci a : Nat} {hd : List Nat} {S : List Value} (e : S[na - 1]? = some (.ref a)) : ab_f sv (.invokevirtual idx, n, y :: na :: ci :: hd) pc l S h = (match h.1 a with
        | some (.inr (cj, _)) => if cj = ci then ab_call y na (pc + 3) hd l S h else none
        | _ => none) := by
  unfold ab_f
  dsimp only
  rw [e]
  rfl
theorem wy_vc {idx y na ci a : Nat} {hd : List Nat} {as : List Value} (hl : (Value.ref a :: as).length = na) (hs : (st.map Value.category).sum ≤ 8) : wy C nx Q h (ab_f sv (.invokevirtual idx, n, y :: na :: ci :: hd) pc l ((Value.ref a :: as).reverse ++ st) h) = wr (h.1 a) ci (C y (.ref a :: as) h (ab_bk nx (pc + 3) l st (ab_hs hd))) := by
  have e : ((Value.ref a :: as).reverse ++ st)[na - 1]? = some (.ref a) := by
    rw [← hl]
    simp
  rw [wy_vc0 e]
  unfold wr
  refine propext ⟨fun x => ?_, fun ⟨fs, h1, h2⟩ => ?_⟩
  · split at x
    · rename_i cj fs hc
      split at x
      · rename_i hq
        subst hq
        rw [wy_call hl hs] at x
        exact ⟨fs, hc, x⟩
      · exact x.elim
    · exact x.elim
  · rw [h1]
    show wy C nx Q h (if ci = ci then ab_call y na (pc + 3) hd l ((Value.ref a :: as).reverse ++ st) h else none)
    rw [if_pos rfl, wy_call hl hs]
    exact h2
theorem wy_sc0 {idx y na a : Nat} {hd : List Nat} {S : List Value} (e : S[na - 1]? = some (.ref a)) : ab_f sv (.invokespecial idx, n, y :: na :: hd) pc l S h = ab_call y na (pc + 3) hd l S h := by
  unfold ab_f
  cases y <;> simp only [e]
theorem wy_sc {idx y na a : Nat} {hd : List Nat} {as : List Value} (hl : (Value.ref a :: as).length = na) (hs : (st.map Value.category).sum ≤ 8) : wy C nx Q h (ab_f sv (.invokespecial idx, n, y :: na :: hd) pc l ((Value.ref a :: as).reverse ++ st) h) = C y (.ref a :: as) h (ab_bk nx (pc + 3) l st (ab_hs hd)) := by
  have e : ((Value.ref a :: as).reverse ++ st)[na - 1]? = some (.ref a) := by
    rw [← hl]
    simp
  rw [wy_sc0 e]
  exact wy_call hl hs
theorem wy_cpy {idx a0 a1 : Nat} {sp dp m : Int32} (hs : (st.map Value.category).sum ≤ 8) : wy C nx Q h (ab_f sv (.invokestatic idx, n, [1]) pc l (.int m :: .int dp :: .ref a1 :: .int sp :: .ref a0 :: st) h) = wc h (h.1 a0) (h.1 a1) sp dp m (fun c => nx (pc + 3) l st (ab_set h a1 c)) := by
  unfold wc
  show wy C nx Q h (match h.1 a0, h.1 a1 with
        | some (.inl (t0, f)), some (.inl (t1, g)) => if ((t1 = 0 ∧ t0 = 0) ∨ (t1 = 6 ∧ t0 = 6)) ∧ ¬ sp < 0 ∧ ¬ dp < 0 ∧ ¬ m < 0 ∧ sp.toNatClampNeg + m.toNatClampNeg ≤ f.length ∧ dp.toNatClampNeg + m.toNatClampNeg ≤ g.length ∧ (st.map Value.category).sum ≤ 8 ∧
              (((f.drop sp.toNatClampNeg).take m.toNatClampNeg).all fun v => ab_fit t1 v && (t1 == 0 || ab_el h 6 v)) = true
            then ab_nx (pc + 3) l st (ab_set h a1 (.inl (t1, ab_cpy f g sp.toNatClampNeg dp.toNatClampNeg m.toNatClampNeg))) else none
        | _, _ => none) = _
  refine propext ⟨fun x => ?_, fun ⟨t0, f, t1, g, h1, h2, q1, q2, q3, q4, q5, q6, q8, hx⟩ => ?_⟩
  · split at x
    · rename_i t0 f t1 g hc hd
      split at x
      · rename_i hq
        obtain ⟨q1, q2, q3, q4, q5, q6, q7, q8⟩ := hq
        exact ⟨t0, f, t1, g, hc, hd, q1, q2, q3, q4, q5, q6, q8, x⟩
      · exact x.elim
    · exact x.elim
  · rw [h1, h2]
    show wy C nx Q h (if ((t1 = 0 ∧ t0 = 0) ∨ (t1 = 6 ∧ t0 = 6)) ∧ ¬ sp < 0 ∧ ¬ dp < 0 ∧ ¬ m < 0 ∧ sp.toNatClampNeg + m.toNatClampNeg ≤ f.length ∧ dp.toNatClampNeg + m.toNatClampNeg ≤ g.length ∧ (st.map Value.category).sum ≤ 8 ∧
              (((f.drop sp.toNatClampNeg).take m.toNatClampNeg).all fun v => ab_fit t1 v && (t1 == 0 || ab_el h 6 v)) = true
            then ab_nx (pc + 3) l st (ab_set h a1 (.inl (t1, ab_cpy f g sp.toNatClampNeg dp.toNatClampNeg m.toNatClampNeg))) else none)
    rw [if_pos ⟨q1, q2, q3, q4, q5, q6, hs, q8⟩]
    exact hx
theorem wy_narr {m : Int32} {t : ArrayType} {k : Nat} {tl : List Nat} (hn : ¬ m < 0) (hm : m.toNatClampNeg ≤ 50000000) : wy C nx Q h (ab_f sv (.newarray t, n, k :: tl) pc l (.int m :: st) h) = nx (pc + 2) l (.ref h.2.1 :: st) (ab_new h (.inl (k, List.replicate m.toNatClampNeg (ab_dv (k % 8)))) m.toNatClampNeg) := by
  show wy C nx Q h (if ¬ m < 0 ∧ m.toNatClampNeg ≤ 50000000 then ab_nx (pc + 2) l (.ref h.2.1 :: st) (ab_new h (.inl (k, List.replicate m.toNatClampNeg (ab_dv (k % 8)))) m.toNatClampNeg) else none) = _
  rw [if_pos ⟨hn, hm⟩]; rfl
theorem wy_nref {m : Int32} {idx k : Nat} {tl : List Nat} (hn : ¬ m < 0) (hm : m.toNatClampNeg ≤ 50000000) : wy C nx Q h (ab_f sv (.anewarray idx, n, k :: tl) pc l (.int m :: st) h) = nx (pc + 3) l (.ref h.2.1 :: st) (ab_new h (.inl (k, List.replicate m.toNatClampNeg .null)) m.toNatClampNeg) := by
  show wy C nx Q h (if ¬ m < 0 ∧ m.toNatClampNeg ≤ 50000000 then ab_nx (pc + 3) l (.ref h.2.1 :: st) (ab_new h (.inl (k, List.replicate m.toNatClampNeg .null)) m.toNatClampNeg) else none) = _
  rw [if_pos ⟨hn, hm⟩]; rfl
theorem wy_nmul {m k : Int32} {idx d : Nat} (hk : ¬ k < 0) (hm : ¬ m < 0) (h1 : k.toNatClampNeg ≤ 1000) (h2 : m.toNatClampNeg ≤ 1000) : wy C nx Q h (ab_f sv (.multianewarray idx d, n, aux) pc l (.int m :: .int k :: st) h) = nx (pc + 4) l (.ref h.2.1 :: st) (ab_mu h k.toNatClampNeg m.toNatClampNeg) := by
  show wy C nx Q h (if ¬ k < 0 ∧ ¬ m < 0 ∧ k.toNatClampNeg ≤ 1000 ∧ m.toNatClampNeg ≤ 1000 then ab_nx (pc + 4) l (.ref h.2.1 :: st) (ab_mu h k.toNatClampNeg m.toNatClampNeg) else none) = _
  rw [if_pos ⟨hk, hm, h1, h2⟩]; rfl
theorem wy_mmin {idx : Nat} {x y : Int32} (hs : (st.map Value.category).sum ≤ 8) : wy C nx Q h (ab_f sv (.invokestatic idx, n, [2]) pc l (.int y :: .int x :: st) h) = nx (pc + 3) l (.int (if y < x then y else x) :: st) h := by
  show wy C nx Q h (if (st.map Value.category).sum ≤ 8 then ab_nx (pc + 3) l (.int (if y < x then y else x) :: st) h else none) = _
  rw [if_pos hs]; rfl
theorem wy_mmax {idx : Nat} {x y : Int32} (hs : (st.map Value.category).sum ≤ 8) : wy C nx Q h (ab_f sv (.invokestatic idx, n, [3]) pc l (.int y :: .int x :: st) h) = nx (pc + 3) l (.int (if x < y then y else x) :: st) h := by
  show wy C nx Q h (if (st.map Value.category).sum ≤ 8 then ab_nx (pc + 3) l (.int (if x < y then y else x) :: st) h else none) = _
  rw [if_pos hs]; rfl
end WEQ2
/-- a method's frame over the tables -/
def tb_W (sv : Nat → Value) (d y : Nat) (Q : ab_Q) : ab_N := ab_WP sv (ab_run sv tb_mt d) (tb_mt y).1 Q
theorem tb_We {sv : Nat → Value} {d y pc : Nat} {Q : ab_Q} {i : ab_I} (hi : (tb_mt y).1 pc = some i) (l : ab_L) (st : List Value) (h : ab_H) : tb_W sv d y Q pc l st h = wy (ab_run sv tb_mt d) (tb_W sv d y Q) Q h (ab_f sv i pc l st h) := ab_WP_eq (ab_run_mon sv tb_mt d) (ab_run_det sv tb_mt d) hi l st h
theorem tb_run {sv : Nat → Value} {d y : Nat} {as : List Value} {h : ab_H} {Q : ab_Q} : ab_run sv tb_mt (d + 1) y as h Q = ((ab_in as).length ≤ (tb_mt y).2 ∧ tb_W sv d y Q 0 (ab_init as (tb_mt y).2) [] h) := rfl
