/-! ONE STEP AS AN EQUATION, for rewriting: what a load, a field, an element gives. -/
def wl (k : Nat) (o : Option (Option Value)) (f : Value → Prop) : Prop := match o with
  | some (some v) => ab_fit k v = true ∧ f v
  | _ => False
def wg (o : Option ab_C) (ci k : Nat) (f : Value → Prop) : Prop := ∃ fs v, o = some (.inr (ci, fs)) ∧ fs[k]? = some v ∧ f v
def wq (o : Option ab_C) (ci k t : Nat) (v : Value) (f : ab_C → Prop) : Prop := ∃ fs, o = some (.inr (ci, fs)) ∧ k < fs.length ∧ ab_fit t v = true ∧ f (.inr (ci, fs.set k v))
def wa (o : Option ab_C) (k : Nat) (i : Int32) (f : Value → Prop) : Prop := ∃ t xs v, o = some (.inl (t, xs)) ∧ t % 8 = k ∧ ¬ i < 0 ∧ xs[i.toNatClampNeg]? = some v ∧ ab_fit k v = true ∧ f v
def wt (h : ab_H) (o : Option ab_C) (k : Nat) (i : Int32) (v : Value) (f : ab_C → Prop) : Prop := ∃ t xs, o = some (.inl (t, xs)) ∧ t % 8 = k ∧ t < 1000 ∧ ab_fit k v = true ∧ ¬ i < 0 ∧ i.toNatClampNeg < xs.length ∧ (k = 6 → ab_el h t v = true) ∧ f (.inl (t, xs.set i.toNatClampNeg v))
def wn (o : Option ab_C) (f : Nat → Prop) : Prop := ∃ t xs, o = some (.inl (t, xs)) ∧ f xs.length
/-- the receiver's class -/
def wr (o : Option ab_C) (ci : Nat) (f : Prop) : Prop := ∃ fs, o = some (.inr (ci, fs)) ∧ f
theorem wl_i {x : Int32} {f : Value → Prop} : wl 0 (some (some (.int x))) f = f (.int x) := by simp [wl, ab_fit]
theorem wl_j {x : Int64} {f : Value → Prop} : wl 3 (some (some (.long x))) f = f (.long x) := by simp [wl, ab_fit]
theorem wl_d {x : UInt64} {f : Value → Prop} : wl 4 (some (some (.double x))) f = f (.double x) := by simp [wl, ab_fit]
theorem wl_r {a : Nat} {f : Value → Prop} : wl 6 (some (some (.ref a))) f = f (.ref a) := by simp [wl, ab_fit]
theorem wl_n {f : Value → Prop} : wl 6 (some (some .null)) f = f .null := by simp [wl, ab_fit]
theorem wg_s {ci k : Nat} {fs : List Value} {v : Value} {f : Value → Prop} (h : fs[k]? = some v) : wg (some (.inr (ci, fs))) ci k f = f v := by
  refine propext ⟨fun ⟨fs', v', h1, h2, h3⟩ => ?_, fun h3 => ⟨fs, v, rfl, h, h3⟩⟩
  cases h1
  cases h.symm.trans h2
  exact h3
theorem wq_s {ci k t : Nat} {fs : List Value} {v : Value} {f : ab_C → Prop} (h : k < fs.length) (hv : ab_fit t v = true) : wq (some (.inr (ci, fs))) ci k t v f = f (.inr (ci, fs.set k v)) := by
  refine propext ⟨fun ⟨fs', h1, _, _, h3⟩ => ?_, fun h3 => ⟨fs, rfl, h, hv, h3⟩⟩
  cases h1
  exact h3
theorem wn_s {t : Nat} {xs : List Value} {f : Nat → Prop} : wn (some (.inl (t, xs))) f = f xs.length := by
  refine propext ⟨fun ⟨t', xs', h1, h3⟩ => ?_, fun h3 => ⟨t, xs, rfl, h3⟩⟩
  cases h1
  exact h3
theorem wr_s {ci : Nat} {fs : List Value} {f : Prop} : wr (some (.inr (ci, fs))) ci f = f := by
  refine propext ⟨fun ⟨fs', h1, h3⟩ => h3, fun h3 => ⟨fs, rfl, h3⟩⟩
def wy (C : ab_Y) (nx : ab_N) (Q : ab_Q) (h : ab_H) : Option ab_O → Prop
  | some (.inl (pc', l', st', h')) => nx pc' l' st' h'
  | some (.inr (.inl (r, h'))) => Q r h'
  | some (.inr (.inr (y, as, pc', l', st', hs))) => C y as h (ab_bk nx pc' l' st' hs)
  | none => False
section WEQ
variable {sv : Nat → Value} {C : ab_Y} {nx : ab_N} {Q : ab_Q} {pc n p2 : Nat} {l : ab_L} {st : List Value} {h : ab_H} {aux : List Nat}
theorem wy_x {i : ab_I} : ab_x sv C nx Q i pc l st h = wy C nx Q h (ab_f sv i pc l st h) := rfl
theorem wy_ld {k i : Nat} : wy C nx Q h (ab_ld k p2 l st h i) = wl k l[i]? (fun v => nx p2 l (v :: st) h) := by
  unfold ab_ld wl
  cases l[i]? with
  | none => rfl
  | some o =>
    cases o with
    | none => rfl
    | some v =>
      by_cases hv : ab_fit k v = true
      · simp [hv, ab_nx, wy]
      · simp [hv, wy]
theorem wy_sv1 {k i : Nat} {v : Value} (hv : ab_fit k v = true) (hc : v.category = 1) (hi : i < l.length) : wy C nx Q h (ab_sv k p2 l (v :: st) h i) = nx p2 (ab_sto l i v) st h := by
  unfold ab_sv
  simp [hv, hc, hi, ab_nx, wy]
theorem wy_sv2 {k i : Nat} {v : Value} (hv : ab_fit k v = true) (hc : v.category = 2) (hi : i + 1 < l.length) : wy C nx Q h (ab_sv k p2 l (v :: st) h i) = nx p2 (ab_sto l i v) st h := by
  unfold ab_sv
  simp [hv, hc, hi, ab_nx, wy]
theorem wy_br {b : Bool} {o : Int} {t : Nat} (h0 : 0 ≤ (pc : Int) + o) (ht : ab_tg pc o = t) : wy C nx Q h (ab_br b pc o l st h) = if b = true then nx t l st h else nx (pc + 3) l st h := by
  unfold ab_br
  rw [if_pos h0, ht]
  split <;> rfl
theorem wy_al {k : Nat} {i : Int32} {a : Nat} : wy C nx Q h (ab_al k pc l (.int i :: .ref a :: st) h) = wa (h.1 a) k i (fun v => nx (pc + 1) l (v :: st) h) := by
  unfold ab_al wa
  refine propext ⟨fun x => ?_, fun ⟨t, xs, v, h1, h2, h3, h4, h5, h6⟩ => ?_⟩
  · split at x
    · rename_i i' a' st' heq
      obtain ⟨rfl, rfl, rfl⟩ : i = i' ∧ a = a' ∧ st = st' := by simpa using heq
      split at x
      · rename_i t xs hc
        split at x
        · rename_i hq
          split at x
          · rename_i v hv
            split at x
            · rename_i hf
              exact ⟨t, xs, v, hc, hq.1, fun z => hq.2 (Or.inl z), hv, hf, x⟩
            · exact x.elim
          · exact x.elim
        · exact x.elim
      · exact x.elim
    · exact x.elim
  · have hlt : i.toNatClampNeg < xs.length := (List.getElem?_eq_some_iff.mp h4).1
    have hc : t % 8 = k ∧ ¬ (i < 0 ∨ xs.length ≤ i.toNatClampNeg) := ⟨h2, fun z => z.elim h3 (fun z => by omega)⟩
    show wy C nx Q h (match h.1 a with
      | some (.inl (t, xs)) => if t % 8 = k ∧ ¬ (i < 0 ∨ xs.length ≤ i.toNatClampNeg) then (match xs[i.toNatClampNeg]? with
        | some v => if ab_fit k v = true then ab_nx (pc + 1) l (v :: st) h else none
        | none => none) else none
      | _ => none)
    rw [h1]
    show wy C nx Q h (if t % 8 = k ∧ ¬ (i < 0 ∨ xs.length ≤ i.toNatClampNeg) then (match xs[i.toNatClampNeg]? with
        | some v => if ab_fit k v = true then ab_nx (pc + 1) l (v :: st) h else none
        | none => none) else none)
    rw [if_pos hc, h4]
    show wy C nx Q h (if ab_fit k v = true then ab_nx (pc + 1) l (v :: st) h else none)
    rw [if_pos h5]
    exact h6
theorem wy_as {k : Nat} {i : Int32} {a : Nat} {v : Value} : wy C nx Q h (ab_as k pc l (v :: .int i :: .ref a :: st) h) = wt h (h.1 a) k i v (fun c => nx (pc + 1) l st (ab_set h a c)) := by
  unfold wt
  show wy C nx Q h (match h.1 a with
      | some (.inl (t, xs)) => if t % 8 = k ∧ t < 1000 ∧ ab_fit k v = true ∧ ¬ (i < 0 ∨ xs.length ≤ i.toNatClampNeg) ∧ (k = 6 → ab_el h t v = true)
        then ab_nx (pc + 1) l st (ab_set h a (.inl (t, xs.set i.toNatClampNeg v))) else none
      | _ => none) = _
  refine propext ⟨fun x => ?_, fun ⟨t, xs, h1, h2, h3, h4, h5, h6, h7, h8⟩ => ?_⟩
  · split at x
    · rename_i t xs hc
      split at x
      · rename_i hq
        obtain ⟨q1, q2, q3, q4, q5⟩ := hq
        exact ⟨t, xs, hc, q1, q2, q3, fun z => q4 (Or.inl z), Nat.not_le.mp (fun z => q4 (Or.inr z)), q5, x⟩
      · exact x.elim
    · exact x.elim
  · rw [h1]
    show wy C nx Q h (if t % 8 = k ∧ t < 1000 ∧ ab_fit k v = true ∧ ¬ (i < 0 ∨ xs.length ≤ i.toNatClampNeg) ∧ (k = 6 → ab_el h t v = true)
        then ab_nx (pc + 1) l st (ab_set h a (.inl (t, xs.set i.toNatClampNeg v))) else none)
    rw [if_pos ⟨h2, h3, h4, fun z => z.elim h5 (fun z => by omega), h7⟩]
    exact h8
theorem wy_gf {idx ci k a : Nat} {tl : List Nat} : wy C nx Q h (ab_f sv (.getfield idx, n, ci :: k :: tl) pc l (.ref a :: st) h) = wg (h.1 a) ci k (fun v => nx (pc + 3) l (v :: st) h) := by
  unfold wg
  show wy C nx Q h (match h.1 a with
      | some (.inr (cj, fs)) => if cj = ci then (match fs[k]? with
          | some v => ab_nx (pc + 3) l (v :: st) h
          | none => none) else none
      | _ => none) = _
  refine propext ⟨fun x => ?_, fun ⟨fs, v, h1, h2, h3⟩ => ?_⟩
  · split at x
    · rename_i cj fs hc
      split at x
      · rename_i hq
        subst hq
        split at x
        · rename_i v hv
          exact ⟨fs, v, hc, hv, x⟩
        · exact x.elim
      · exact x.elim
    · exact x.elim
  · rw [h1]
    show wy C nx Q h (if ci = ci then (match fs[k]? with
          | some v => ab_nx (pc + 3) l (v :: st) h
          | none => none) else none)
    rw [if_pos rfl, h2]
    exact h3
theorem wy_pf {idx ci k t a : Nat} {v : Value} {tl : List Nat} : wy C nx Q h (ab_f sv (.putfield idx, n, ci :: k :: t :: tl) pc l (v :: .ref a :: st) h) = wq (h.1 a) ci k t v (fun c => nx (pc + 3) l st (ab_set h a c)) := by
  unfold wq
  show wy C nx Q h (match h.1 a with
      | some (.inr (cj, fs)) => if cj = ci ∧ k < fs.length ∧ ab_fit t v = true then ab_nx (pc + 3) l st (ab_set h a (.inr (cj, fs.set k v))) else none
      | _ => none) = _
  refine propext ⟨fun x => ?_, fun ⟨fs, h1, h2, h3, h4⟩ => ?_⟩
  · split at x
    · rename_i cj fs hc
      split at x
      · rename_i hq
        obtain ⟨rfl, q2, q3⟩ := hq
        exact ⟨fs, hc, q2, q3, x⟩
      · exact x.elim
    · exact x.elim
  · rw [h1]
    show wy C nx Q h (if ci = ci ∧ k < fs.length ∧ ab_fit t v = true then ab_nx (pc + 3) l st (ab_set h a (.inr (ci, fs.set k v))) else none)
    rw [if_pos ⟨rfl, h2, h3⟩]
    exact h4
theorem wy_len {a : Nat} : wy C nx Q h (ab_f sv (.arraylength, n, aux) pc l (.ref a :: st) h) = wn (h.1 a) (fun m => nx (pc + 1) l (.int (Int32.ofNat m) :: st) h) := by
  unfold wn
  show wy C nx Q h (match h.1 a with
      | some (.inl (_, xs)) => ab_nx (pc + 1) l (.int (Int32.ofNat xs.length) :: st) h
      | _ => none) = _
  refine propext ⟨fun x => ?_, fun ⟨t, xs, h1, h2⟩ => ?_⟩
  · split at x
    · rename_i t xs hc
      exact ⟨t, xs, hc, x⟩
    · exact x.elim
  · rw [h1]
    exact h2
theorem wy_cast {idx ci a : Nat} {tl : List Nat} : wy C nx Q h (ab_f sv (.checkcast idx, n, ci :: tl) pc l (.ref a :: st) h) = wr (h.1 a) ci (nx (pc + 3) l (.ref a :: st) h) := by
  unfold wr
  show wy C nx Q h (match h.1 a with
      | some (.inr (cj, _)) => if cj = ci then ab_nx (pc + 3) l (.ref a :: st) h else none
      | _ => none) = _
  refine propext ⟨fun x => ?_, fun ⟨fs, h1, h2⟩ => ?_⟩
  · split at x
    · rename_i cj fs hc
      split at x
      · rename_i hq
        subst hq
        exact ⟨fs, hc, x⟩
      · exact x.elim
    · exact x.elim
  · rw [h1]
    show wy C nx Q h (if ci = ci then ab_nx (pc + 3) l (.ref a :: st) h else none)
    rw [if_pos rfl]
    exact h2
theorem wy_new {m : Int32} {t k : Nat} (hn : ¬ m < 0) (hm : m.toNatClampNeg ≤ 50000000) {f : Nat → ab_H} : wy C nx Q h (if ¬ m < 0 ∧ m.toNatClampNeg ≤ 50000000 then ab_nx p2 l st (f t) else none) = nx p2 l st (f t) := by
  rw [if_pos ⟨hn, hm⟩]
  rfl
theorem wy_call {y na : Nat} {hd : List Nat} {as : List Value} (hl : as.length = na) (hs : (st.map Value.category).sum ≤ 8) : wy C nx Q h (ab_call y na p2 hd l (as.reverse ++ st) h) = C y as h (ab_bk nx p2 l st (ab_hs hd)) := by
  unfold ab_call
  have e1 : (as.reverse ++ st).take na = as.reverse := by rw [← hl, ← List.length_reverse]; exact List.take_left
  have e2 : (as.reverse ++ st).drop na = st := by rw [← hl, ← List.length_reverse]; exact List.drop_left
  rw [e1, e2, if_pos ⟨by simp [hl], hs⟩, List.reverse_reverse]
  rfl
end WEQ
/-- a method's frame over the tables -/
def tb_W (sv : Nat → Value) (d y : Nat) (Q : ab_Q) : ab_N := ab_WP sv (ab_run sv tb_mt d) (tb_mt y).1 Q
theorem tb_We {sv : Nat → Value} {d y pc : Nat} {Q : ab_Q} {i : ab_I} (hi : (tb_mt y).1 pc = some i) (l : ab_L) (st : List Value) (h : ab_H) : tb_W sv d y Q pc l st h = wy (ab_run sv tb_mt d) (tb_W sv d y Q) Q h (ab_f sv i pc l st h) := ab_WP_eq (ab_run_mon sv tb_mt d) (ab_run_det sv tb_mt d) hi l st h
theorem tb_run {sv : Nat → Value} {d y : Nat} {as : List Value} {h : ab_H} {Q : ab_Q} : ab_run sv tb_mt (d + 1) y as h Q = ((ab_in as).length ≤ (tb_mt y).2 ∧ tb_W sv d y Q 0 (ab_init as (tb_mt y).2) [] h) := rfl
