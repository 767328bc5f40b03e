/-! THE ABSTRACT MACHINE OVER THE KIT'S JUDGEMENT, first half: locals, and the instructions that leave the heap as it is. -/
def ab_LR (ls : Array Slot) (nL : Nat) (l : ab_L) : Prop := l.length = nL ∧ ls.size = nL ∧ lv_wf ls ∧ ∀ (i : Nat) (v : Value), l[i]? = some (some v) → ls[i]? = some (.val v)
def ab_prs (l : ab_L) : List (Nat × Value) := l.zipIdx.filterMap fun q => q.1.map fun v => (q.2, v)
theorem ab_prs_in {l : ab_L} {i : Nat} {v : Value} : (i, v) ∈ ab_prs l ↔ l[i]? = some (some v) := by
  unfold ab_prs
  rw [List.mem_filterMap]
  constructor
  · rintro ⟨⟨o, j⟩, h1, h2⟩
    rw [List.mem_zipIdx_iff_getElem?] at h1
    cases o with
    | none => simp at h2
    | some w =>
      simp only [Option.map_some, Option.some.injEq, Prod.mk.injEq] at h2
      obtain ⟨rfl, rfl⟩ := h2
      exact h1
  · intro h
    exact ⟨(some v, i), by rw [List.mem_zipIdx_iff_getElem?]; exact h, rfl⟩
theorem ab_LR.has {ls : Array Slot} {nL : Nat} {l : ab_L} (h : ab_LR ls nL l) : lv_has ls nL (ab_prs l) := ⟨h.2.1, h.2.2.1, fun q hq => h.2.2.2 q.1 q.2 (ab_prs_in.mp hq)⟩
theorem ab_sto_len : ∀ (l : ab_L) (i : Nat) (v : Value), (ab_sto l i v).length = l.length
  | [], _, _ => by simp [ab_sto]
  | x :: l, 0, v => by
    unfold ab_sto
    split <;> simp
  | x :: l, 1, v => by simp [ab_sto, ab_sto_len l 0 v]
  | x :: l, i + 2, v => by simp [ab_sto, ab_sto_len l (i + 1) v]
theorem ab_cl2_in {x : Option Value} {w : Value} (h : ab_cl2 x = some w) : x = some w ∧ ¬ w.category = 2 := by
  cases x with
  | none => cases h
  | some x =>
    by_cases hc : x.category = 2
    · have h2 : ab_cl2 (some x) = none := if_pos hc
      rw [h2] at h; cases h
    · have h2 : ab_cl2 (some x) = some x := if_neg hc
      rw [h2] at h
      cases h
      exact ⟨rfl, hc⟩
theorem ab_sto_in : ∀ (l : ab_L) (i : Nat) (v : Value) (j : Nat) (w : Value), (ab_sto l i v)[j]? = some (some w) → (j = i ∧ w = v) ∨ (j ≠ i ∧ l[j]? = some (some w) ∧ ¬ (j + 1 = i ∧ w.category = 2) ∧ ¬ (v.category = 2 ∧ j = i + 1))
  | [], _, _, _, _, h => by simp [ab_sto] at h
  | x :: l, 0, v, j, w, h => by
    unfold ab_sto at h
    cases j with
    | zero =>
      simp at h
      exact Or.inl ⟨rfl, h.symm⟩
    | succ j =>
      rw [List.getElem?_cons_succ] at h
      refine Or.inr ⟨by omega, ?_, by omega, ?_⟩
      · rw [List.getElem?_cons_succ]
        split at h
        · rw [List.getElem?_set] at h
          split at h
          · split at h <;> simp at h
          · exact h
        · exact h
      · rintro ⟨hc, hj⟩
        rw [if_pos hc] at h
        have hj0 : j = 0 := by omega
        subst hj0
        rw [List.getElem?_set] at h
        simp at h
  | x :: l, 1, v, j, w, h => by
    unfold ab_sto at h
    cases j with
    | zero =>
      rw [List.getElem?_cons_zero] at h
      refine Or.inr ⟨by omega, ?_, ?_, by omega⟩
      · rw [List.getElem?_cons_zero]
        exact congrArg some (ab_cl2_in (Option.some.inj h)).1
      · rintro ⟨-, hc⟩
        exact (ab_cl2_in (Option.some.inj h)).2 hc
    | succ j =>
      rw [List.getElem?_cons_succ] at h
      rcases ab_sto_in l 0 v j w h with ⟨h1, h2⟩ | ⟨h1, h2, h3, h4⟩
      · exact Or.inl ⟨by omega, h2⟩
      · exact Or.inr ⟨by omega, by rw [List.getElem?_cons_succ]; exact h2, by rintro ⟨q, -⟩; omega, by rintro ⟨q1, q2⟩; exact h4 ⟨q1, by omega⟩⟩
  | x :: l, i + 2, v, j, w, h => by
    unfold ab_sto at h
    cases j with
    | zero =>
      rw [List.getElem?_cons_zero] at h
      exact Or.inr ⟨by omega, by rw [List.getElem?_cons_zero]; exact h, by rintro ⟨q, -⟩; omega, by rintro ⟨-, q⟩; omega⟩
    | succ j =>
      rw [List.getElem?_cons_succ] at h
      rcases ab_sto_in l (i + 1) v j w h with ⟨h1, h2⟩ | ⟨h1, h2, h3, h4⟩
      · exact Or.inl ⟨by omega, h2⟩
      · exact Or.inr ⟨by omega, by rw [List.getElem?_cons_succ]; exact h2, by rintro ⟨q, q2⟩; exact h3 ⟨by omega, q2⟩, by rintro ⟨q1, q2⟩; exact h4 ⟨q1, by omega⟩⟩
theorem ab_LR.st1 {ls' : Array Slot} {nL i : Nat} {l : ab_L} {v : Value} (hl : l.length = nL) (h : lv_has ls' nL ((i, v) :: (ab_prs l).filter (fun q => !(q.1 == i) && !(q.1 + 1 == i && q.2.category == 2)))) : ab_LR ls' nL (ab_sto l i v) := by
  refine ⟨(ab_sto_len l i v).trans hl, h.1, h.2.1, fun j w hj => ?_⟩
  rcases ab_sto_in l i v j w hj with ⟨rfl, rfl⟩ | ⟨h1, h2, h3, -⟩
  · exact h.2.2 _ List.mem_cons_self
  · refine h.2.2 (j, w) (List.mem_cons_of_mem _ (List.mem_filter.mpr ⟨ab_prs_in.mpr h2, ?_⟩))
    have e1 : (j == i) = false := by simpa using h1
    by_cases e2 : j + 1 = i
    · have e3 : (w.category == 2) = false := by
        have : ¬ w.category = 2 := fun q => h3 ⟨e2, q⟩
        simpa using this
      simp [e1, e3]
    · have e3 : (j + 1 == i) = false := by simpa using e2
      simp [e1, e3]
theorem ab_LR.st2 {ls' : Array Slot} {nL i : Nat} {l : ab_L} {v : Value} (hc : v.category = 2) (hl : l.length = nL) (h : lv_has ls' nL ((i, v) :: (ab_prs l).filter (fun q => !(q.1 == i) && (!(q.1 == i + 1) && !(q.1 + 1 == i && q.2.category == 2))))) : ab_LR ls' nL (ab_sto l i v) := by
  refine ⟨(ab_sto_len l i v).trans hl, h.1, h.2.1, fun j w hj => ?_⟩
  rcases ab_sto_in l i v j w hj with ⟨rfl, rfl⟩ | ⟨h1, h2, h3, h4⟩
  · exact h.2.2 _ List.mem_cons_self
  · refine h.2.2 (j, w) (List.mem_cons_of_mem _ (List.mem_filter.mpr ⟨ab_prs_in.mpr h2, ?_⟩))
    have e1 : (j == i) = false := by simpa using h1
    have e4 : (j == i + 1) = false := by
      have : ¬ j = i + 1 := fun q => h4 ⟨hc, q⟩
      simpa using this
    by_cases e2 : j + 1 = i
    · have e3 : (w.category == 2) = false := by
        have : ¬ w.category = 2 := fun q => h3 ⟨e2, q⟩
        simpa using this
      simp [e1, e3, e4]
    · have e3 : (j + 1 == i) = false := by simpa using e2
      simp [e1, e3, e4]
/-! the heap's picture -/
/-- the component's type by the kind -/
def ab_kt : Nat → FieldType → Bool
  | 0, .int => true
  | 1, .boolean => true
  | 2, .char => true
  | 3, .long => true
  | 4, .double => true
  | 5, .float => true
  | 6, .object _ => true
  | 6, .array _ => true
  | _, _ => false
/-- arrays that only are read: of the start -/
def ab_rk (t : Nat) : Bool := t == 1000 || t == 1006
def ab_at (cl : List vw_C) (D : va_G) (E : Nat → ClassId) (ks : Nat → Bool) (base a : Nat) (H : Heap) : ab_C → Prop
  | .inl q => (ks q.1 = true ∧ H[a]? = some { cls := E q.1, slots := q.2.toArray, vm := .none } ∧ base ≤ a) ∨ (ab_rk q.1 = true ∧ ∃ cell : Cell, H[a]? = some cell ∧ cell.cls = E q.1 ∧ cell.slots = q.2.toArray ∧ cell.vm ≠ .unknown ∧ ∀ k, cell.vm ≠ .statics k)
  | .inr q => (∃ r : vw_C, cl[q.1]? = some r ∧ q.2.length = r.2.2 ∧ t_OB a (D.1 q.1) r.2.2 (D.2 q.1) H (vp_V q.2)) ∧ base ≤ a
def ab_Rl (cl : List vw_C) (D : va_G) (E : Nat → ClassId) (ks : Nat → Bool) (base : Nat) (Hb : Heap) (h : ab_H) (H : Heap) : Prop :=
  base ≤ H.size ∧ h.2.1 = H.size ∧ (∀ q : Nat, q < base → H[q]? = Hb[q]?) ∧ ∀ (a : Nat) (c : ab_C), h.1 a = some c → ab_at cl D E ks base a H c
/-- the classes and the array classes, as the tables have them -/
def ab_Kn (cl : List vw_C) (D : va_G) (E : Nat → ClassId) (ks : Nat → Bool) (aty : Nat → FieldType) (U : State) : Prop :=
  (∀ (c : Nat) (q : vw_C), cl[c]? = some q → u_Kn U q.1 q.2.1 q.2.2 (D.1 c) (D.2 c)) ∧
  (∀ t : Nat, ks t = true → ab_kt (t % 8) (aty t) = true ∧ ArrOfT U (E t) (aty t) ∧ U.vm.findClass ("[" ++ (aty t).toString) = some (E t)) ∧
  (∀ t : Nat, ks t = true → t % 8 = 6 → t < 1000 → ∃ (kA kc : Class) (comp : ClassId), U.vm.classes[E t]? = some kA ∧ kA.kind = .array comp (aty t) ∧ U.vm.classes[comp]? = some kc ∧ (t ≠ 14 → ∃ C : String, aty t = .object C) ∧ (t = 14 → comp = E 0 ∧ ks 0 = true) ∧
    (∀ (ci : Nat) (q : vw_C), cl[ci]? = some q → t = 8 * (ci + 2) + 6 → comp = D.1 ci) ∧ (t = 6 → ∀ (ci : Nat) (q : vw_C), cl[ci]? = some q → U.vm.assignable (D.1 ci) comp = true)) ∧
  ∀ t : Nat, ab_rk t = true → ab_kt (t % 8) (aty t) = true ∧ ArrOfT U (E t) (aty t)
def ab_Wn (cl : List vw_C) (D : va_G) (E : Nat → ClassId) (ks : Nat → Bool) (base : Nat) (Hb : Heap) (nL : Nat) (p : Program) (l : Launch) (e : Env) (R : Room) (s : State) (m : MethodId) (args : Array Value) (below : List Frame) (meth : Method) (c : Code) (Q : State → Prop) (c0 s0 : Nat) (pc : Nat) (lo : ab_L) (st : List Value) (h : ab_H) : Prop :=
  ∀ (ls : Array Slot) (H : Heap) (locs : List Loc), ab_LR ls nL lo → ab_Rl cl D E ks base Hb h H → (∀ q ∈ locs, base ≤ q.base) → W p l e R s m args below meth c H locs (h.2.1 - c0) (h.2.2 - s0) Q (F0 m pc ls st)
section ABP
variable {cl : List vw_C} {D : va_G} {E : Nat → ClassId} {ks : Nat → Bool} {base : Nat} {Hb : Heap} {nL : Nat} {p : Program} {l : Launch} {e : Env} {R : Room} {s : State} {m : MethodId} {args : Array Value} {below : List Frame} {meth : Method} {c : Code} {Q : State → Prop} {c0 s0 : Nat} {sv : Nat → Value}
variable {cc : ByteArray} {pc pc' n' : Nat} {lo lo' : ab_L} {st st' : List Value} {h h' : ab_H} {aux : List Nat}
theorem ab_nx_inv {pc1 : Nat} {l1 : ab_L} {st1 : List Value} {h1 : ab_H} (hf : ab_nx pc1 l1 st1 h1 = some (.inl (pc', lo', st', h'))) : pc1 = pc' ∧ l1 = lo' ∧ st1 = st' ∧ h1 = h' := by
  simpa [ab_nx] using hf
theorem ab_ld_inv {k i pc1 : Nat} (hf : ab_ld k pc1 lo st h i = some (.inl (pc', lo', st', h'))) : ∃ v, lo[i]? = some (some v) ∧ ab_fit k v = true ∧ pc' = pc1 ∧ lo' = lo ∧ st' = v :: st ∧ h' = h := by
  unfold ab_ld at hf
  split at hf
  · rename_i v hv
    split at hf
    · rename_i hk
      obtain ⟨rfl, rfl, rfl, rfl⟩ := ab_nx_inv hf
      exact ⟨v, hv, hk, rfl, rfl, rfl, rfl⟩
    · cases hf
  · cases hf
theorem ab_sv_inv {k i pc1 : Nat} (hf : ab_sv k pc1 lo st h i = some (.inl (pc', lo', st', h'))) : ∃ v, st = v :: st' ∧ ab_fit k v = true ∧ i + (v.category - 1) < lo.length ∧ pc' = pc1 ∧ lo' = ab_sto lo i v ∧ h' = h := by
  unfold ab_sv at hf
  split at hf
  · rename_i v st1
    split at hf
    · rename_i hk
      obtain ⟨rfl, rfl, rfl, rfl⟩ := ab_nx_inv hf
      exact ⟨v, rfl, hk.1, hk.2, rfl, rfl, rfl⟩
    · cases hf
  · cases hf
theorem ab_i1_inv {f : Int32 → Value} {pc1 : Nat} (hf : ab_i1 f pc1 lo st h = some (.inl (pc', lo', st', h'))) : ∃ x r, st = .int x :: r ∧ pc' = pc1 ∧ lo' = lo ∧ st' = f x :: r ∧ h' = h := by
  unfold ab_i1 at hf
  split at hf
  · obtain ⟨rfl, rfl, rfl, rfl⟩ := ab_nx_inv hf
    exact ⟨_, _, rfl, rfl, rfl, rfl, rfl⟩
  · cases hf
theorem ab_i2_inv {f : Int32 → Int32 → Int32} {pc1 : Nat} (hf : ab_i2 f pc1 lo st h = some (.inl (pc', lo', st', h'))) : ∃ x y r, st = .int y :: .int x :: r ∧ pc' = pc1 ∧ lo' = lo ∧ st' = .int (f x y) :: r ∧ h' = h := by
  unfold ab_i2 at hf
  split at hf
  · obtain ⟨rfl, rfl, rfl, rfl⟩ := ab_nx_inv hf
    exact ⟨_, _, _, rfl, rfl, rfl, rfl, rfl⟩
  · cases hf
theorem ab_l2_inv {f : Int64 → Int64 → Value} {pc1 : Nat} (hf : ab_l2 f pc1 lo st h = some (.inl (pc', lo', st', h'))) : ∃ x y r, st = .long y :: .long x :: r ∧ pc' = pc1 ∧ lo' = lo ∧ st' = f x y :: r ∧ h' = h := by
  unfold ab_l2 at hf
  split at hf
  · obtain ⟨rfl, rfl, rfl, rfl⟩ := ab_nx_inv hf
    exact ⟨_, _, _, rfl, rfl, rfl, rfl, rfl⟩
  · cases hf
theorem ab_br_inv {b : Bool} {o : Int} (hf : ab_br b pc o lo st h = some (.inl (pc', lo', st', h'))) : (pc : Int) + o = (ab_tg pc o : Int) ∧ lo' = lo ∧ st' = st ∧ h' = h ∧ ((b = true ∧ pc' = ab_tg pc o) ∨ (b = false ∧ pc' = pc + 3)) := by
  unfold ab_br at hf
  split at hf
  · rename_i h0
    have e0 : (pc : Int) + o = (ab_tg pc o : Int) := by unfold ab_tg; omega
    split at hf
    · rename_i hb
      obtain ⟨rfl, rfl, rfl, rfl⟩ := ab_nx_inv hf
      exact ⟨e0, rfl, rfl, rfl, Or.inl ⟨hb, rfl⟩⟩
    · rename_i hb
      obtain ⟨rfl, rfl, rfl, rfl⟩ := ab_nx_inv hf
      exact ⟨e0, rfl, rfl, rfl, Or.inr ⟨by simpa using hb, rfl⟩⟩
  · cases hf
theorem ab_fit0 {v : Value} (hk : ab_fit 0 v = true) : ∃ x, v = .int x := by cases v <;> simp [ab_fit] at hk ⊢
theorem ab_fit1 {v : Value} (hk : ab_fit 1 v = true) : ∃ x, v = .int x ∧ (x = 0 ∨ x = 1) := by cases v <;> simp [ab_fit] at hk ⊢; exact hk
theorem ab_fit3 {v : Value} (hk : ab_fit 3 v = true) : ∃ x, v = .long x := by cases v <;> simp [ab_fit] at hk ⊢
theorem ab_fit4 {v : Value} (hk : ab_fit 4 v = true) : ∃ x, v = .double x := by cases v <;> simp [ab_fit] at hk ⊢
theorem ab_fit6 {v : Value} (hk : ab_fit 6 v = true) : v = .null ∨ ∃ a, v = .ref a := by cases v <;> simp [ab_fit] at hk ⊢

theorem ab_s_aconst_null (hx : p.tables.exec = Jvm.exec) (hb : c.code = cc) (hdg : decode cc pc = .ok (.aconst_null, 1)) (hf : ab_f sv (.aconst_null, 1, aux) pc lo st h = some (.inl (pc', lo', st', h'))) (kk : ab_Wn cl D E ks base Hb nL p l e R s m args below meth c Q c0 s0 pc' lo' st' h') : ab_Wn cl D E ks base Hb nL p l e R s m args below meth c Q c0 s0 pc lo st h := by
  intro ls H locs hl hR hlo
  obtain ⟨rfl, rfl, rfl, rfl⟩ := ab_nx_inv hf
  exact lv_null hx hb hdg (kk _ _ _ hl hR hlo)
theorem ab_s_iconst {n : Int} (hx : p.tables.exec = Jvm.exec) (hb : c.code = cc) (hdg : decode cc pc = .ok (.iconst n, 1)) (hf : ab_f sv (.iconst n, 1, aux) pc lo st h = some (.inl (pc', lo', st', h'))) (kk : ab_Wn cl D E ks base Hb nL p l e R s m args below meth c Q c0 s0 pc' lo' st' h') : ab_Wn cl D E ks base Hb nL p l e R s m args below meth c Q c0 s0 pc lo st h := by
  intro ls H locs hl hR hlo
  obtain ⟨rfl, rfl, rfl, rfl⟩ := ab_nx_inv hf
  exact lv_iconst hx hb hdg rfl (kk _ _ _ hl hR hlo)
theorem ab_s_bipush {n : Int} (hx : p.tables.exec = Jvm.exec) (hb : c.code = cc) (hdg : decode cc pc = .ok (.bipush n, 2)) (hf : ab_f sv (.bipush n, 2, aux) pc lo st h = some (.inl (pc', lo', st', h'))) (kk : ab_Wn cl D E ks base Hb nL p l e R s m args below meth c Q c0 s0 pc' lo' st' h') : ab_Wn cl D E ks base Hb nL p l e R s m args below meth c Q c0 s0 pc lo st h := by
  intro ls H locs hl hR hlo
  obtain ⟨rfl, rfl, rfl, rfl⟩ := ab_nx_inv hf
  exact lv_bipush hx hb hdg rfl (kk _ _ _ hl hR hlo)
theorem ab_s_sipush {n : Int} (hx : p.tables.exec = Jvm.exec) (hb : c.code = cc) (hdg : decode cc pc = .ok (.sipush n, 3)) (hf : ab_f sv (.sipush n, 3, aux) pc lo st h = some (.inl (pc', lo', st', h'))) (kk : ab_Wn cl D E ks base Hb nL p l e R s m args below meth c Q c0 s0 pc' lo' st' h') : ab_Wn cl D E ks base Hb nL p l e R s m args below meth c Q c0 s0 pc lo st h := by
  intro ls H locs hl hR hlo
  obtain ⟨rfl, rfl, rfl, rfl⟩ := ab_nx_inv hf
  exact lv_sipush hx hb hdg rfl (kk _ _ _ hl hR hlo)
theorem ab_s_lconst {n : Fin 2} (hx : p.tables.exec = Jvm.exec) (hb : c.code = cc) (hdg : decode cc pc = .ok (.lconst n, 1)) (hf : ab_f sv (.lconst n, 1, aux) pc lo st h = some (.inl (pc', lo', st', h'))) (kk : ab_Wn cl D E ks base Hb nL p l e R s m args below meth c Q c0 s0 pc' lo' st' h') : ab_Wn cl D E ks base Hb nL p l e R s m args below meth c Q c0 s0 pc lo st h := by
  intro ls H locs hl hR hlo
  obtain ⟨rfl, rfl, rfl, rfl⟩ := ab_nx_inv hf
  exact lv_lconst hx hb hdg rfl (kk _ _ _ hl hR hlo)
theorem ab_s_dconst {n : Fin 2} (hx : p.tables.exec = Jvm.exec) (hb : c.code = cc) (hdg : decode cc pc = .ok (.dconst n, 1)) (hf : ab_f sv (.dconst n, 1, aux) pc lo st h = some (.inl (pc', lo', st', h'))) (kk : ab_Wn cl D E ks base Hb nL p l e R s m args below meth c Q c0 s0 pc' lo' st' h') : ab_Wn cl D E ks base Hb nL p l e R s m args below meth c Q c0 s0 pc lo st h := by
  intro ls H locs hl hR hlo
  obtain ⟨rfl, rfl, rfl, rfl⟩ := ab_nx_inv hf
  match n, hdg, kk with
  | 0, hdg, kk => exact lv_dconst0 hx hb hdg (kk _ _ _ hl hR hlo)
  | 1, hdg, kk => exact lv_dconst1 hx hb hdg (kk _ _ _ hl hR hlo)
theorem ab_s_iload {i : Nat} (hx : p.tables.exec = Jvm.exec) (hb : c.code = cc) (hdg : decode cc pc = .ok (.iload i, 2)) (hf : ab_f sv (.iload i, 2, aux) pc lo st h = some (.inl (pc', lo', st', h'))) (kk : ab_Wn cl D E ks base Hb nL p l e R s m args below meth c Q c0 s0 pc' lo' st' h') : ab_Wn cl D E ks base Hb nL p l e R s m args below meth c Q c0 s0 pc lo st h := by
  intro ls H locs hl hR hlo
  obtain ⟨v, h1, h2, rfl, rfl, rfl, rfl⟩ := ab_ld_inv hf
  obtain ⟨x, rfl⟩ := ab_fit0 h2
  exact lv_iload hx hb hdg (hl.2.2.2 _ _ h1) (kk _ _ _ hl hR hlo)
theorem ab_s_iload_n {k : Fin 4} (hx : p.tables.exec = Jvm.exec) (hb : c.code = cc) (hdg : decode cc pc = .ok (.iload_n k, 1)) (hf : ab_f sv (.iload_n k, 1, aux) pc lo st h = some (.inl (pc', lo', st', h'))) (kk : ab_Wn cl D E ks base Hb nL p l e R s m args below meth c Q c0 s0 pc' lo' st' h') : ab_Wn cl D E ks base Hb nL p l e R s m args below meth c Q c0 s0 pc lo st h := by
  intro ls H locs hl hR hlo
  obtain ⟨v, h1, h2, rfl, rfl, rfl, rfl⟩ := ab_ld_inv hf
  obtain ⟨x, rfl⟩ := ab_fit0 h2
  exact lv_iload_n hx hb hdg rfl (hl.2.2.2 _ _ h1) (kk _ _ _ hl hR hlo)
theorem ab_s_lload {i : Nat} (hx : p.tables.exec = Jvm.exec) (hb : c.code = cc) (hdg : decode cc pc = .ok (.lload i, 2)) (hf : ab_f sv (.lload i, 2, aux) pc lo st h = some (.inl (pc', lo', st', h'))) (kk : ab_Wn cl D E ks base Hb nL p l e R s m args below meth c Q c0 s0 pc' lo' st' h') : ab_Wn cl D E ks base Hb nL p l e R s m args below meth c Q c0 s0 pc lo st h := by
  intro ls H locs hl hR hlo
  obtain ⟨v, h1, h2, rfl, rfl, rfl, rfl⟩ := ab_ld_inv hf
  obtain ⟨x, rfl⟩ := ab_fit3 h2
  exact lv_lload hx hb hdg (hl.2.2.2 _ _ h1) (kk _ _ _ hl hR hlo)
theorem ab_s_lload_n {k : Fin 4} (hx : p.tables.exec = Jvm.exec) (hb : c.code = cc) (hdg : decode cc pc = .ok (.lload_n k, 1)) (hf : ab_f sv (.lload_n k, 1, aux) pc lo st h = some (.inl (pc', lo', st', h'))) (kk : ab_Wn cl D E ks base Hb nL p l e R s m args below meth c Q c0 s0 pc' lo' st' h') : ab_Wn cl D E ks base Hb nL p l e R s m args below meth c Q c0 s0 pc lo st h := by
  intro ls H locs hl hR hlo
  obtain ⟨v, h1, h2, rfl, rfl, rfl, rfl⟩ := ab_ld_inv hf
  obtain ⟨x, rfl⟩ := ab_fit3 h2
  exact lv_lload_n hx hb hdg rfl (hl.2.2.2 _ _ h1) (kk _ _ _ hl hR hlo)
theorem ab_s_dload {i : Nat} (hx : p.tables.exec = Jvm.exec) (hb : c.code = cc) (hdg : decode cc pc = .ok (.dload i, 2)) (hf : ab_f sv (.dload i, 2, aux) pc lo st h = some (.inl (pc', lo', st', h'))) (kk : ab_Wn cl D E ks base Hb nL p l e R s m args below meth c Q c0 s0 pc' lo' st' h') : ab_Wn cl D E ks base Hb nL p l e R s m args below meth c Q c0 s0 pc lo st h := by
  intro ls H locs hl hR hlo
  obtain ⟨v, h1, h2, rfl, rfl, rfl, rfl⟩ := ab_ld_inv hf
  obtain ⟨x, rfl⟩ := ab_fit4 h2
  exact lv_dload hx hb hdg (hl.2.2.2 _ _ h1) (kk _ _ _ hl hR hlo)
theorem ab_s_dload_n {k : Fin 4} (hx : p.tables.exec = Jvm.exec) (hb : c.code = cc) (hdg : decode cc pc = .ok (.dload_n k, 1)) (hf : ab_f sv (.dload_n k, 1, aux) pc lo st h = some (.inl (pc', lo', st', h'))) (kk : ab_Wn cl D E ks base Hb nL p l e R s m args below meth c Q c0 s0 pc' lo' st' h') : ab_Wn cl D E ks base Hb nL p l e R s m args below meth c Q c0 s0 pc lo st h := by
  intro ls H locs hl hR hlo
  obtain ⟨v, h1, h2, rfl, rfl, rfl, rfl⟩ := ab_ld_inv hf
  obtain ⟨x, rfl⟩ := ab_fit4 h2
  exact lv_dload_n hx hb hdg rfl (hl.2.2.2 _ _ h1) (kk _ _ _ hl hR hlo)
theorem ab_s_aload {i : Nat} (hx : p.tables.exec = Jvm.exec) (hb : c.code = cc) (hdg : decode cc pc = .ok (.aload i, 2)) (hf : ab_f sv (.aload i, 2, aux) pc lo st h = some (.inl (pc', lo', st', h'))) (kk : ab_Wn cl D E ks base Hb nL p l e R s m args below meth c Q c0 s0 pc' lo' st' h') : ab_Wn cl D E ks base Hb nL p l e R s m args below meth c Q c0 s0 pc lo st h := by
  intro ls H locs hl hR hlo
  obtain ⟨v, h1, h2, rfl, rfl, rfl, rfl⟩ := ab_ld_inv hf
  rcases ab_fit6 h2 with rfl | ⟨x, rfl⟩
  · exact lv_aloadN hx hb hdg (hl.2.2.2 _ _ h1) (kk _ _ _ hl hR hlo)
  · exact lv_aload hx hb hdg (hl.2.2.2 _ _ h1) (kk _ _ _ hl hR hlo)
theorem ab_s_aload_n {k : Fin 4} (hx : p.tables.exec = Jvm.exec) (hb : c.code = cc) (hdg : decode cc pc = .ok (.aload_n k, 1)) (hf : ab_f sv (.aload_n k, 1, aux) pc lo st h = some (.inl (pc', lo', st', h'))) (kk : ab_Wn cl D E ks base Hb nL p l e R s m args below meth c Q c0 s0 pc' lo' st' h') : ab_Wn cl D E ks base Hb nL p l e R s m args below meth c Q c0 s0 pc lo st h := by
  intro ls H locs hl hR hlo
  obtain ⟨v, h1, h2, rfl, rfl, rfl, rfl⟩ := ab_ld_inv hf
  rcases ab_fit6 h2 with rfl | ⟨x, rfl⟩
  · exact lv_aload_nN hx hb hdg rfl (hl.2.2.2 _ _ h1) (kk _ _ _ hl hR hlo)
  · exact lv_aload_n hx hb hdg rfl (hl.2.2.2 _ _ h1) (kk _ _ _ hl hR hlo)
theorem ab_s_istore {i : Nat} (hx : p.tables.exec = Jvm.exec) (hb : c.code = cc) (hdg : decode cc pc = .ok (.istore i, 2)) (hf : ab_f sv (.istore i, 2, aux) pc lo st h = some (.inl (pc', lo', st', h'))) (kk : ab_Wn cl D E ks base Hb nL p l e R s m args below meth c Q c0 s0 pc' lo' st' h') : ab_Wn cl D E ks base Hb nL p l e R s m args below meth c Q c0 s0 pc lo st h := by
  intro ls H locs hl hR hlo
  obtain ⟨v, rfl, h2, h3, rfl, rfl, rfl⟩ := ab_sv_inv hf
  obtain ⟨x, rfl⟩ := ab_fit0 h2
  exact lv_istore hx hb hdg hl.has (by have := hl.1; simp [Value.category] at h3; omega) rfl (fun ls1 h9 => kk _ _ _ (ab_LR.st1 hl.1 h9) hR hlo)
theorem ab_s_istore_n {k : Fin 4} (hx : p.tables.exec = Jvm.exec) (hb : c.code = cc) (hdg : decode cc pc = .ok (.istore_n k, 1)) (hf : ab_f sv (.istore_n k, 1, aux) pc lo st h = some (.inl (pc', lo', st', h'))) (kk : ab_Wn cl D E ks base Hb nL p l e R s m args below meth c Q c0 s0 pc' lo' st' h') : ab_Wn cl D E ks base Hb nL p l e R s m args below meth c Q c0 s0 pc lo st h := by
  intro ls H locs hl hR hlo
  obtain ⟨v, rfl, h2, h3, rfl, rfl, rfl⟩ := ab_sv_inv hf
  obtain ⟨x, rfl⟩ := ab_fit0 h2
  exact lv_istore_n hx hb hdg rfl hl.has (by have := hl.1; simp [Value.category] at h3; omega) rfl (fun ls1 h9 => kk _ _ _ (ab_LR.st1 hl.1 h9) hR hlo)
theorem ab_s_lstore {i : Nat} (hx : p.tables.exec = Jvm.exec) (hb : c.code = cc) (hdg : decode cc pc = .ok (.lstore i, 2)) (hf : ab_f sv (.lstore i, 2, aux) pc lo st h = some (.inl (pc', lo', st', h'))) (kk : ab_Wn cl D E ks base Hb nL p l e R s m args below meth c Q c0 s0 pc' lo' st' h') : ab_Wn cl D E ks base Hb nL p l e R s m args below meth c Q c0 s0 pc lo st h := by
  intro ls H locs hl hR hlo
  obtain ⟨v, rfl, h2, h3, rfl, rfl, rfl⟩ := ab_sv_inv hf
  obtain ⟨x, rfl⟩ := ab_fit3 h2
  exact lv_lstore hx hb hdg hl.has (by have := hl.1; simp [Value.category] at h3; omega) rfl (fun ls1 h9 => kk _ _ _ (ab_LR.st2 rfl hl.1 h9) hR hlo)
theorem ab_s_lstore_n {k : Fin 4} (hx : p.tables.exec = Jvm.exec) (hb : c.code = cc) (hdg : decode cc pc = .ok (.lstore_n k, 1)) (hf : ab_f sv (.lstore_n k, 1, aux) pc lo st h = some (.inl (pc', lo', st', h'))) (kk : ab_Wn cl D E ks base Hb nL p l e R s m args below meth c Q c0 s0 pc' lo' st' h') : ab_Wn cl D E ks base Hb nL p l e R s m args below meth c Q c0 s0 pc lo st h := by
  intro ls H locs hl hR hlo
  obtain ⟨v, rfl, h2, h3, rfl, rfl, rfl⟩ := ab_sv_inv hf
  obtain ⟨x, rfl⟩ := ab_fit3 h2
  exact lv_lstore_n hx hb hdg rfl hl.has (by have := hl.1; simp [Value.category] at h3; omega) rfl (fun ls1 h9 => kk _ _ _ (ab_LR.st2 rfl hl.1 h9) hR hlo)
theorem ab_s_dstore {i : Nat} (hx : p.tables.exec = Jvm.exec) (hb : c.code = cc) (hdg : decode cc pc = .ok (.dstore i, 2)) (hf : ab_f sv (.dstore i, 2, aux) pc lo st h = some (.inl (pc', lo', st', h'))) (kk : ab_Wn cl D E ks base Hb nL p l e R s m args below meth c Q c0 s0 pc' lo' st' h') : ab_Wn cl D E ks base Hb nL p l e R s m args below meth c Q c0 s0 pc lo st h := by
  intro ls H locs hl hR hlo
  obtain ⟨v, rfl, h2, h3, rfl, rfl, rfl⟩ := ab_sv_inv hf
  obtain ⟨x, rfl⟩ := ab_fit4 h2
  exact lv_dstore hx hb hdg hl.has (by have := hl.1; simp [Value.category] at h3; omega) rfl (fun ls1 h9 => kk _ _ _ (ab_LR.st2 rfl hl.1 h9) hR hlo)
theorem ab_s_dstore_n {k : Fin 4} (hx : p.tables.exec = Jvm.exec) (hb : c.code = cc) (hdg : decode cc pc = .ok (.dstore_n k, 1)) (hf : ab_f sv (.dstore_n k, 1, aux) pc lo st h = some (.inl (pc', lo', st', h'))) (kk : ab_Wn cl D E ks base Hb nL p l e R s m args below meth c Q c0 s0 pc' lo' st' h') : ab_Wn cl D E ks base Hb nL p l e R s m args below meth c Q c0 s0 pc lo st h := by
  intro ls H locs hl hR hlo
  obtain ⟨v, rfl, h2, h3, rfl, rfl, rfl⟩ := ab_sv_inv hf
  obtain ⟨x, rfl⟩ := ab_fit4 h2
  exact lv_dstore_n hx hb hdg rfl hl.has (by have := hl.1; simp [Value.category] at h3; omega) rfl (fun ls1 h9 => kk _ _ _ (ab_LR.st2 rfl hl.1 h9) hR hlo)
theorem ab_s_astore {i : Nat} (hx : p.tables.exec = Jvm.exec) (hb : c.code = cc) (hdg : decode cc pc = .ok (.astore i, 2)) (hf : ab_f sv (.astore i, 2, aux) pc lo st h = some (.inl (pc', lo', st', h'))) (kk : ab_Wn cl D E ks base Hb nL p l e R s m args below meth c Q c0 s0 pc' lo' st' h') : ab_Wn cl D E ks base Hb nL p l e R s m args below meth c Q c0 s0 pc lo st h := by
  intro ls H locs hl hR hlo
  obtain ⟨v, rfl, h2, h3, rfl, rfl, rfl⟩ := ab_sv_inv hf
  rcases ab_fit6 h2 with rfl | ⟨x, rfl⟩
  · exact lv_astoreN hx hb hdg hl.has (by have := hl.1; simp [Value.category] at h3; omega) rfl (fun ls1 h9 => kk _ _ _ (ab_LR.st1 hl.1 h9) hR hlo)
  · exact lv_astore hx hb hdg hl.has (by have := hl.1; simp [Value.category] at h3; omega) rfl (fun ls1 h9 => kk _ _ _ (ab_LR.st1 hl.1 h9) hR hlo)
theorem ab_s_astore_n {k : Fin 4} (hx : p.tables.exec = Jvm.exec) (hb : c.code = cc) (hdg : decode cc pc = .ok (.astore_n k, 1)) (hf : ab_f sv (.astore_n k, 1, aux) pc lo st h = some (.inl (pc', lo', st', h'))) (kk : ab_Wn cl D E ks base Hb nL p l e R s m args below meth c Q c0 s0 pc' lo' st' h') : ab_Wn cl D E ks base Hb nL p l e R s m args below meth c Q c0 s0 pc lo st h := by
  intro ls H locs hl hR hlo
  obtain ⟨v, rfl, h2, h3, rfl, rfl, rfl⟩ := ab_sv_inv hf
  rcases ab_fit6 h2 with rfl | ⟨x, rfl⟩
  · exact lv_astore_nN hx hb hdg rfl hl.has (by have := hl.1; simp [Value.category] at h3; omega) rfl (fun ls1 h9 => kk _ _ _ (ab_LR.st1 hl.1 h9) hR hlo)
  · exact lv_astore_n hx hb hdg rfl hl.has (by have := hl.1; simp [Value.category] at h3; omega) rfl (fun ls1 h9 => kk _ _ _ (ab_LR.st1 hl.1 h9) hR hlo)
theorem ab_s_iinc {k : Nat} {n : Int} (hx : p.tables.exec = Jvm.exec) (hb : c.code = cc) (hdg : decode cc pc = .ok (.iinc k n, 3)) (hf : ab_f sv (.iinc k n, 3, aux) pc lo st h = some (.inl (pc', lo', st', h'))) (kk : ab_Wn cl D E ks base Hb nL p l e R s m args below meth c Q c0 s0 pc' lo' st' h') : ab_Wn cl D E ks base Hb nL p l e R s m args below meth c Q c0 s0 pc lo st h := by
  intro ls H locs hl hR hlo
  simp only [ab_f] at hf
  split at hf
  · rename_i x hk
    obtain ⟨rfl, rfl, rfl, rfl⟩ := ab_nx_inv hf
    obtain ⟨j, hj⟩ := List.getElem?_of_mem (ab_prs_in.mpr hk)
    exact lv_iinc hx hb hdg hl.has hj rfl (by have h9 := (List.getElem?_eq_some_iff.mp hk).1; have := hl.1; omega) rfl (fun ls1 h9 => kk _ _ _ (ab_LR.st1 hl.1 h9) hR hlo)
  · cases hf
theorem ab_s_iadd (hx : p.tables.exec = Jvm.exec) (hb : c.code = cc) (hdg : decode cc pc = .ok (.iadd, 1)) (hf : ab_f sv (.iadd, 1, aux) pc lo st h = some (.inl (pc', lo', st', h'))) (kk : ab_Wn cl D E ks base Hb nL p l e R s m args below meth c Q c0 s0 pc' lo' st' h') : ab_Wn cl D E ks base Hb nL p l e R s m args below meth c Q c0 s0 pc lo st h := by
  intro ls H locs hl hR hlo
  obtain ⟨x, y, r, rfl, rfl, rfl, rfl, rfl⟩ := ab_i2_inv hf
  exact lv_iadd hx hb hdg (kk _ _ _ hl hR hlo)
theorem ab_s_isub (hx : p.tables.exec = Jvm.exec) (hb : c.code = cc) (hdg : decode cc pc = .ok (.isub, 1)) (hf : ab_f sv (.isub, 1, aux) pc lo st h = some (.inl (pc', lo', st', h'))) (kk : ab_Wn cl D E ks base Hb nL p l e R s m args below meth c Q c0 s0 pc' lo' st' h') : ab_Wn cl D E ks base Hb nL p l e R s m args below meth c Q c0 s0 pc lo st h := by
  intro ls H locs hl hR hlo
  obtain ⟨x, y, r, rfl, rfl, rfl, rfl, rfl⟩ := ab_i2_inv hf
  exact lv_isub hx hb hdg (kk _ _ _ hl hR hlo)
theorem ab_s_imul (hx : p.tables.exec = Jvm.exec) (hb : c.code = cc) (hdg : decode cc pc = .ok (.imul, 1)) (hf : ab_f sv (.imul, 1, aux) pc lo st h = some (.inl (pc', lo', st', h'))) (kk : ab_Wn cl D E ks base Hb nL p l e R s m args below meth c Q c0 s0 pc' lo' st' h') : ab_Wn cl D E ks base Hb nL p l e R s m args below meth c Q c0 s0 pc lo st h := by
  intro ls H locs hl hR hlo
  obtain ⟨x, y, r, rfl, rfl, rfl, rfl, rfl⟩ := ab_i2_inv hf
  exact lv_imul hx hb hdg (kk _ _ _ hl hR hlo)
theorem ab_s_iand (hx : p.tables.exec = Jvm.exec) (hb : c.code = cc) (hdg : decode cc pc = .ok (.iand, 1)) (hf : ab_f sv (.iand, 1, aux) pc lo st h = some (.inl (pc', lo', st', h'))) (kk : ab_Wn cl D E ks base Hb nL p l e R s m args below meth c Q c0 s0 pc' lo' st' h') : ab_Wn cl D E ks base Hb nL p l e R s m args below meth c Q c0 s0 pc lo st h := by
  intro ls H locs hl hR hlo
  obtain ⟨x, y, r, rfl, rfl, rfl, rfl, rfl⟩ := ab_i2_inv hf
  exact lv_iand hx hb hdg (kk _ _ _ hl hR hlo)
theorem ab_s_ior (hx : p.tables.exec = Jvm.exec) (hb : c.code = cc) (hdg : decode cc pc = .ok (.ior, 1)) (hf : ab_f sv (.ior, 1, aux) pc lo st h = some (.inl (pc', lo', st', h'))) (kk : ab_Wn cl D E ks base Hb nL p l e R s m args below meth c Q c0 s0 pc' lo' st' h') : ab_Wn cl D E ks base Hb nL p l e R s m args below meth c Q c0 s0 pc lo st h := by
  intro ls H locs hl hR hlo
  obtain ⟨x, y, r, rfl, rfl, rfl, rfl, rfl⟩ := ab_i2_inv hf
  exact lv_ior hx hb hdg (kk _ _ _ hl hR hlo)
theorem ab_s_ixor (hx : p.tables.exec = Jvm.exec) (hb : c.code = cc) (hdg : decode cc pc = .ok (.ixor, 1)) (hf : ab_f sv (.ixor, 1, aux) pc lo st h = some (.inl (pc', lo', st', h'))) (kk : ab_Wn cl D E ks base Hb nL p l e R s m args below meth c Q c0 s0 pc' lo' st' h') : ab_Wn cl D E ks base Hb nL p l e R s m args below meth c Q c0 s0 pc lo st h := by
  intro ls H locs hl hR hlo
  obtain ⟨x, y, r, rfl, rfl, rfl, rfl, rfl⟩ := ab_i2_inv hf
  exact lv_ixor hx hb hdg (kk _ _ _ hl hR hlo)
theorem ab_s_ishl (hx : p.tables.exec = Jvm.exec) (hb : c.code = cc) (hdg : decode cc pc = .ok (.ishl, 1)) (hf : ab_f sv (.ishl, 1, aux) pc lo st h = some (.inl (pc', lo', st', h'))) (kk : ab_Wn cl D E ks base Hb nL p l e R s m args below meth c Q c0 s0 pc' lo' st' h') : ab_Wn cl D E ks base Hb nL p l e R s m args below meth c Q c0 s0 pc lo st h := by
  intro ls H locs hl hR hlo
  obtain ⟨x, y, r, rfl, rfl, rfl, rfl, rfl⟩ := ab_i2_inv hf
  exact lv_ishl hx hb hdg (kk _ _ _ hl hR hlo)
theorem ab_s_ishr (hx : p.tables.exec = Jvm.exec) (hb : c.code = cc) (hdg : decode cc pc = .ok (.ishr, 1)) (hf : ab_f sv (.ishr, 1, aux) pc lo st h = some (.inl (pc', lo', st', h'))) (kk : ab_Wn cl D E ks base Hb nL p l e R s m args below meth c Q c0 s0 pc' lo' st' h') : ab_Wn cl D E ks base Hb nL p l e R s m args below meth c Q c0 s0 pc lo st h := by
  intro ls H locs hl hR hlo
  obtain ⟨x, y, r, rfl, rfl, rfl, rfl, rfl⟩ := ab_i2_inv hf
  exact lv_ishr hx hb hdg (kk _ _ _ hl hR hlo)
theorem ab_s_idiv (hx : p.tables.exec = Jvm.exec) (hb : c.code = cc) (hdg : decode cc pc = .ok (.idiv, 1)) (hf : ab_f sv (.idiv, 1, aux) pc lo st h = some (.inl (pc', lo', st', h'))) (kk : ab_Wn cl D E ks base Hb nL p l e R s m args below meth c Q c0 s0 pc' lo' st' h') : ab_Wn cl D E ks base Hb nL p l e R s m args below meth c Q c0 s0 pc lo st h := by
  intro ls H locs hl hR hlo
  simp only [ab_f] at hf
  split at hf
  · split at hf
    · cases hf
    · rename_i hne
      obtain ⟨rfl, rfl, rfl, rfl⟩ := ab_nx_inv hf
      exact lv_idiv hx hb hdg hne (kk _ _ _ hl hR hlo)
  · cases hf
theorem ab_s_irem (hx : p.tables.exec = Jvm.exec) (hb : c.code = cc) (hdg : decode cc pc = .ok (.irem, 1)) (hf : ab_f sv (.irem, 1, aux) pc lo st h = some (.inl (pc', lo', st', h'))) (kk : ab_Wn cl D E ks base Hb nL p l e R s m args below meth c Q c0 s0 pc' lo' st' h') : ab_Wn cl D E ks base Hb nL p l e R s m args below meth c Q c0 s0 pc lo st h := by
  intro ls H locs hl hR hlo
  simp only [ab_f] at hf
  split at hf
  · split at hf
    · cases hf
    · rename_i hne
      obtain ⟨rfl, rfl, rfl, rfl⟩ := ab_nx_inv hf
      exact lv_irem hx hb hdg hne (kk _ _ _ hl hR hlo)
  · cases hf
theorem ab_s_ineg (hx : p.tables.exec = Jvm.exec) (hb : c.code = cc) (hdg : decode cc pc = .ok (.ineg, 1)) (hf : ab_f sv (.ineg, 1, aux) pc lo st h = some (.inl (pc', lo', st', h'))) (kk : ab_Wn cl D E ks base Hb nL p l e R s m args below meth c Q c0 s0 pc' lo' st' h') : ab_Wn cl D E ks base Hb nL p l e R s m args below meth c Q c0 s0 pc lo st h := by
  intro ls H locs hl hR hlo
  obtain ⟨x, r, rfl, rfl, rfl, rfl, rfl⟩ := ab_i1_inv hf
  exact lv_ineg hx hb hdg (kk _ _ _ hl hR hlo)
theorem ab_s_i2l (hx : p.tables.exec = Jvm.exec) (hb : c.code = cc) (hdg : decode cc pc = .ok (.i2l, 1)) (hf : ab_f sv (.i2l, 1, aux) pc lo st h = some (.inl (pc', lo', st', h'))) (kk : ab_Wn cl D E ks base Hb nL p l e R s m args below meth c Q c0 s0 pc' lo' st' h') : ab_Wn cl D E ks base Hb nL p l e R s m args below meth c Q c0 s0 pc lo st h := by
  intro ls H locs hl hR hlo
  obtain ⟨x, r, rfl, rfl, rfl, rfl, rfl⟩ := ab_i1_inv hf
  exact lv_i2l hx hb hdg rfl (kk _ _ _ hl hR hlo)
theorem ab_s_i2c (hx : p.tables.exec = Jvm.exec) (hb : c.code = cc) (hdg : decode cc pc = .ok (.i2c, 1)) (hf : ab_f sv (.i2c, 1, aux) pc lo st h = some (.inl (pc', lo', st', h'))) (kk : ab_Wn cl D E ks base Hb nL p l e R s m args below meth c Q c0 s0 pc' lo' st' h') : ab_Wn cl D E ks base Hb nL p l e R s m args below meth c Q c0 s0 pc lo st h := by
  intro ls H locs hl hR hlo
  obtain ⟨x, r, rfl, rfl, rfl, rfl, rfl⟩ := ab_i1_inv hf
  exact lv_i2c hx hb hdg rfl (kk _ _ _ hl hR hlo)
theorem ab_s_i2d (hx : p.tables.exec = Jvm.exec) (hb : c.code = cc) (hdg : decode cc pc = .ok (.i2d, 1)) (hf : ab_f sv (.i2d, 1, aux) pc lo st h = some (.inl (pc', lo', st', h'))) (kk : ab_Wn cl D E ks base Hb nL p l e R s m args below meth c Q c0 s0 pc' lo' st' h') : ab_Wn cl D E ks base Hb nL p l e R s m args below meth c Q c0 s0 pc lo st h := by
  intro ls H locs hl hR hlo
  obtain ⟨x, r, rfl, rfl, rfl, rfl, rfl⟩ := ab_i1_inv hf
  exact lv_i2d hx hb hdg (kk _ _ _ hl hR hlo)
theorem ab_s_i2f (hx : p.tables.exec = Jvm.exec) (hb : c.code = cc) (hdg : decode cc pc = .ok (.i2f, 1)) (hf : ab_f sv (.i2f, 1, aux) pc lo st h = some (.inl (pc', lo', st', h'))) (kk : ab_Wn cl D E ks base Hb nL p l e R s m args below meth c Q c0 s0 pc' lo' st' h') : ab_Wn cl D E ks base Hb nL p l e R s m args below meth c Q c0 s0 pc lo st h := by
  intro ls H locs hl hR hlo
  obtain ⟨x, r, rfl, rfl, rfl, rfl, rfl⟩ := ab_i1_inv hf
  exact lv_i2f hx hb hdg (kk _ _ _ hl hR hlo)
theorem ab_s_ladd (hx : p.tables.exec = Jvm.exec) (hb : c.code = cc) (hdg : decode cc pc = .ok (.ladd, 1)) (hf : ab_f sv (.ladd, 1, aux) pc lo st h = some (.inl (pc', lo', st', h'))) (kk : ab_Wn cl D E ks base Hb nL p l e R s m args below meth c Q c0 s0 pc' lo' st' h') : ab_Wn cl D E ks base Hb nL p l e R s m args below meth c Q c0 s0 pc lo st h := by
  intro ls H locs hl hR hlo
  obtain ⟨x, y, r, rfl, rfl, rfl, rfl, rfl⟩ := ab_l2_inv hf
  exact lv_ladd hx hb hdg (kk _ _ _ hl hR hlo)
theorem ab_s_lsub (hx : p.tables.exec = Jvm.exec) (hb : c.code = cc) (hdg : decode cc pc = .ok (.lsub, 1)) (hf : ab_f sv (.lsub, 1, aux) pc lo st h = some (.inl (pc', lo', st', h'))) (kk : ab_Wn cl D E ks base Hb nL p l e R s m args below meth c Q c0 s0 pc' lo' st' h') : ab_Wn cl D E ks base Hb nL p l e R s m args below meth c Q c0 s0 pc lo st h := by
  intro ls H locs hl hR hlo
  obtain ⟨x, y, r, rfl, rfl, rfl, rfl, rfl⟩ := ab_l2_inv hf
  exact lv_lsub hx hb hdg (kk _ _ _ hl hR hlo)
theorem ab_s_lcmp (hx : p.tables.exec = Jvm.exec) (hb : c.code = cc) (hdg : decode cc pc = .ok (.lcmp, 1)) (hf : ab_f sv (.lcmp, 1, aux) pc lo st h = some (.inl (pc', lo', st', h'))) (kk : ab_Wn cl D E ks base Hb nL p l e R s m args below meth c Q c0 s0 pc' lo' st' h') : ab_Wn cl D E ks base Hb nL p l e R s m args below meth c Q c0 s0 pc lo st h := by
  intro ls H locs hl hR hlo
  obtain ⟨x, y, r, rfl, rfl, rfl, rfl, rfl⟩ := ab_l2_inv hf
  exact W.lcmp hx hb hdg (kk _ _ _ hl hR hlo)
theorem ab_s_fdiv (hx : p.tables.exec = Jvm.exec) (hb : c.code = cc) (hdg : decode cc pc = .ok (.fdiv, 1)) (hf : ab_f sv (.fdiv, 1, aux) pc lo st h = some (.inl (pc', lo', st', h'))) (kk : ab_Wn cl D E ks base Hb nL p l e R s m args below meth c Q c0 s0 pc' lo' st' h') : ab_Wn cl D E ks base Hb nL p l e R s m args below meth c Q c0 s0 pc lo st h := by
  intro ls H locs hl hR hlo
  simp only [ab_f] at hf
  split at hf
  · split at hf
    · rename_i hne
      obtain ⟨rfl, rfl, rfl, rfl⟩ := ab_nx_inv hf
      exact lv_fdiv hx hb hdg hne (kk _ _ _ hl hR hlo)
    · cases hf
  · cases hf
theorem ab_s_ddiv (hx : p.tables.exec = Jvm.exec) (hb : c.code = cc) (hdg : decode cc pc = .ok (.ddiv, 1)) (hf : ab_f sv (.ddiv, 1, aux) pc lo st h = some (.inl (pc', lo', st', h'))) (kk : ab_Wn cl D E ks base Hb nL p l e R s m args below meth c Q c0 s0 pc' lo' st' h') : ab_Wn cl D E ks base Hb nL p l e R s m args below meth c Q c0 s0 pc lo st h := by
  intro ls H locs hl hR hlo
  simp only [ab_f] at hf
  split at hf
  · split at hf
    · rename_i hne
      obtain ⟨rfl, rfl, rfl, rfl⟩ := ab_nx_inv hf
      exact lv_ddiv hx hb hdg hne (kk _ _ _ hl hR hlo)
    · cases hf
  · cases hf
theorem ab_s_f2d (hx : p.tables.exec = Jvm.exec) (hb : c.code = cc) (hdg : decode cc pc = .ok (.f2d, 1)) (hf : ab_f sv (.f2d, 1, aux) pc lo st h = some (.inl (pc', lo', st', h'))) (kk : ab_Wn cl D E ks base Hb nL p l e R s m args below meth c Q c0 s0 pc' lo' st' h') : ab_Wn cl D E ks base Hb nL p l e R s m args below meth c Q c0 s0 pc lo st h := by
  intro ls H locs hl hR hlo
  simp only [ab_f] at hf
  split at hf
  · split at hf
    · rename_i hne
      obtain ⟨rfl, rfl, rfl, rfl⟩ := ab_nx_inv hf
      exact lv_f2d hx hb hdg hne (kk _ _ _ hl hR hlo)
    · cases hf
  · cases hf
theorem ab_s_dcmp {op : CmpOp} (hx : p.tables.exec = Jvm.exec) (hb : c.code = cc) (hdg : decode cc pc = .ok (.dcmp op, 1)) (hf : ab_f sv (.dcmp op, 1, aux) pc lo st h = some (.inl (pc', lo', st', h'))) (kk : ab_Wn cl D E ks base Hb nL p l e R s m args below meth c Q c0 s0 pc' lo' st' h') : ab_Wn cl D E ks base Hb nL p l e R s m args below meth c Q c0 s0 pc lo st h := by
  intro ls H locs hl hR hlo
  simp only [ab_f] at hf
  split at hf
  · obtain ⟨rfl, rfl, rfl, rfl⟩ := ab_nx_inv hf
    exact lv_dcmp hx hb hdg (kk _ _ _ hl hR hlo)
  · cases hf
theorem ab_s_dup (hx : p.tables.exec = Jvm.exec) (hb : c.code = cc) (hdg : decode cc pc = .ok (.dup, 1)) (hf : ab_f sv (.dup, 1, aux) pc lo st h = some (.inl (pc', lo', st', h'))) (kk : ab_Wn cl D E ks base Hb nL p l e R s m args below meth c Q c0 s0 pc' lo' st' h') : ab_Wn cl D E ks base Hb nL p l e R s m args below meth c Q c0 s0 pc lo st h := by
  intro ls H locs hl hR hlo
  simp only [ab_f] at hf
  split at hf
  · split at hf
    · rename_i hc
      obtain ⟨rfl, rfl, rfl, rfl⟩ := ab_nx_inv hf
      exact lv_dup hx hb hdg hc (kk _ _ _ hl hR hlo)
    · cases hf
  · cases hf
theorem ab_s_pop (hx : p.tables.exec = Jvm.exec) (hb : c.code = cc) (hdg : decode cc pc = .ok (.pop, 1)) (hf : ab_f sv (.pop, 1, aux) pc lo st h = some (.inl (pc', lo', st', h'))) (kk : ab_Wn cl D E ks base Hb nL p l e R s m args below meth c Q c0 s0 pc' lo' st' h') : ab_Wn cl D E ks base Hb nL p l e R s m args below meth c Q c0 s0 pc lo st h := by
  intro ls H locs hl hR hlo
  simp only [ab_f] at hf
  split at hf
  · split at hf
    · rename_i hc
      obtain ⟨rfl, rfl, rfl, rfl⟩ := ab_nx_inv hf
      exact lv_pop hx hb hdg hc (kk _ _ _ hl hR hlo)
    · cases hf
  · cases hf
theorem ab_s_dup_x1 (hx : p.tables.exec = Jvm.exec) (hb : c.code = cc) (hdg : decode cc pc = .ok (.dup_x1, 1)) (hf : ab_f sv (.dup_x1, 1, aux) pc lo st h = some (.inl (pc', lo', st', h'))) (kk : ab_Wn cl D E ks base Hb nL p l e R s m args below meth c Q c0 s0 pc' lo' st' h') : ab_Wn cl D E ks base Hb nL p l e R s m args below meth c Q c0 s0 pc lo st h := by
  intro ls H locs hl hR hlo
  simp only [ab_f] at hf
  split at hf
  · split at hf
    · rename_i hc
      obtain ⟨rfl, rfl, rfl, rfl⟩ := ab_nx_inv hf
      exact lv_dup_x1 hx hb hdg hc.1 hc.2 (kk _ _ _ hl hR hlo)
    · cases hf
  · cases hf
theorem ab_s_dup2 (hx : p.tables.exec = Jvm.exec) (hb : c.code = cc) (hdg : decode cc pc = .ok (.dup2, 1)) (hf : ab_f sv (.dup2, 1, aux) pc lo st h = some (.inl (pc', lo', st', h'))) (kk : ab_Wn cl D E ks base Hb nL p l e R s m args below meth c Q c0 s0 pc' lo' st' h') : ab_Wn cl D E ks base Hb nL p l e R s m args below meth c Q c0 s0 pc lo st h := by
  intro ls H locs hl hR hlo
  simp only [ab_f] at hf
  split at hf
  · split at hf
    · rename_i hc
      obtain ⟨rfl, rfl, rfl, rfl⟩ := ab_nx_inv hf
      exact lv_dup2_11 hx hb hdg hc.1 hc.2 (kk _ _ _ hl hR hlo)
    · cases hf
  · cases hf
theorem ab_s_if_eq {o : Int} (hx : p.tables.exec = Jvm.exec) (hb : c.code = cc) (hdg : decode cc pc = .ok (.ifCond .eq o, 3)) (hf : ab_f sv (.ifCond .eq o, 3, aux) pc lo st h = some (.inl (pc', lo', st', h'))) (kk : ab_Wn cl D E ks base Hb nL p l e R s m args below meth c Q c0 s0 pc' lo' st' h') : ab_Wn cl D E ks base Hb nL p l e R s m args below meth c Q c0 s0 pc lo st h := by
  intro ls H locs hl hR hlo
  simp only [ab_f, ab_cc] at hf
  split at hf
  · obtain ⟨ht, rfl, rfl, rfl, hp⟩ := ab_br_inv hf
    refine lv_if_eq hx hb hdg ht (fun q => ?_) (fun q => ?_)
    · rcases hp with ⟨hp, rfl⟩ | ⟨hp, rfl⟩
      · exact kk _ _ _ hl hR hlo
      · first | exact absurd q (by simpa using hp) | exact absurd (by simpa using hp) q
    · rcases hp with ⟨hp, rfl⟩ | ⟨hp, rfl⟩
      · first | exact absurd q (by simpa using hp) | exact absurd (by simpa using hp) q
      · exact kk _ _ _ hl hR hlo
  · cases hf
theorem ab_s_icmp_eq {o : Int} (hx : p.tables.exec = Jvm.exec) (hb : c.code = cc) (hdg : decode cc pc = .ok (.if_icmp .eq o, 3)) (hf : ab_f sv (.if_icmp .eq o, 3, aux) pc lo st h = some (.inl (pc', lo', st', h'))) (kk : ab_Wn cl D E ks base Hb nL p l e R s m args below meth c Q c0 s0 pc' lo' st' h') : ab_Wn cl D E ks base Hb nL p l e R s m args below meth c Q c0 s0 pc lo st h := by
  intro ls H locs hl hR hlo
  simp only [ab_f, ab_cc] at hf
  split at hf
  · obtain ⟨ht, rfl, rfl, rfl, hp⟩ := ab_br_inv hf
    refine lv_icmp_eq hx hb hdg ht (fun q => ?_) (fun q => ?_)
    · rcases hp with ⟨hp, rfl⟩ | ⟨hp, rfl⟩
      · exact kk _ _ _ hl hR hlo
      · first | exact absurd q (by simpa using hp) | exact absurd (by simpa using hp) q
    · rcases hp with ⟨hp, rfl⟩ | ⟨hp, rfl⟩
      · first | exact absurd q (by simpa using hp) | exact absurd (by simpa using hp) q
      · exact kk _ _ _ hl hR hlo
  · cases hf
theorem ab_s_if_ne {o : Int} (hx : p.tables.exec = Jvm.exec) (hb : c.code = cc) (hdg : decode cc pc = .ok (.ifCond .ne o, 3)) (hf : ab_f sv (.ifCond .ne o, 3, aux) pc lo st h = some (.inl (pc', lo', st', h'))) (kk : ab_Wn cl D E ks base Hb nL p l e R s m args below meth c Q c0 s0 pc' lo' st' h') : ab_Wn cl D E ks base Hb nL p l e R s m args below meth c Q c0 s0 pc lo st h := by
  intro ls H locs hl hR hlo
  simp only [ab_f, ab_cc] at hf
  split at hf
  · obtain ⟨ht, rfl, rfl, rfl, hp⟩ := ab_br_inv hf
    refine lv_if_ne hx hb hdg ht (fun q => ?_) (fun q => ?_)
    · rcases hp with ⟨hp, rfl⟩ | ⟨hp, rfl⟩
      · exact kk _ _ _ hl hR hlo
      · first | exact absurd q (by simpa using hp) | exact absurd (by simpa using hp) q
    · rcases hp with ⟨hp, rfl⟩ | ⟨hp, rfl⟩
      · first | exact absurd q (by simpa using hp) | exact absurd (by simpa using hp) q
      · exact kk _ _ _ hl hR hlo
  · cases hf
theorem ab_s_icmp_ne {o : Int} (hx : p.tables.exec = Jvm.exec) (hb : c.code = cc) (hdg : decode cc pc = .ok (.if_icmp .ne o, 3)) (hf : ab_f sv (.if_icmp .ne o, 3, aux) pc lo st h = some (.inl (pc', lo', st', h'))) (kk : ab_Wn cl D E ks base Hb nL p l e R s m args below meth c Q c0 s0 pc' lo' st' h') : ab_Wn cl D E ks base Hb nL p l e R s m args below meth c Q c0 s0 pc lo st h := by
  intro ls H locs hl hR hlo
  simp only [ab_f, ab_cc] at hf
  split at hf
  · obtain ⟨ht, rfl, rfl, rfl, hp⟩ := ab_br_inv hf
    refine lv_icmp_ne hx hb hdg ht (fun q => ?_) (fun q => ?_)
    · rcases hp with ⟨hp, rfl⟩ | ⟨hp, rfl⟩
      · exact kk _ _ _ hl hR hlo
      · first | exact absurd q (by simpa using hp) | exact absurd (by simpa using hp) q
    · rcases hp with ⟨hp, rfl⟩ | ⟨hp, rfl⟩
      · first | exact absurd q (by simpa using hp) | exact absurd (by simpa using hp) q
      · exact kk _ _ _ hl hR hlo
  · cases hf
theorem ab_s_if_lt {o : Int} (hx : p.tables.exec = Jvm.exec) (hb : c.code = cc) (hdg : decode cc pc = .ok (.ifCond .lt o, 3)) (hf : ab_f sv (.ifCond .lt o, 3, aux) pc lo st h = some (.inl (pc', lo', st', h'))) (kk : ab_Wn cl D E ks base Hb nL p l e R s m args below meth c Q c0 s0 pc' lo' st' h') : ab_Wn cl D E ks base Hb nL p l e R s m args below meth c Q c0 s0 pc lo st h := by
  intro ls H locs hl hR hlo
  simp only [ab_f, ab_cc] at hf
  split at hf
  · obtain ⟨ht, rfl, rfl, rfl, hp⟩ := ab_br_inv hf
    refine lv_if_lt hx hb hdg ht (fun q => ?_) (fun q => ?_)
    · rcases hp with ⟨hp, rfl⟩ | ⟨hp, rfl⟩
      · exact kk _ _ _ hl hR hlo
      · first | exact absurd q (by simpa using hp) | exact absurd (by simpa using hp) q
    · rcases hp with ⟨hp, rfl⟩ | ⟨hp, rfl⟩
      · first | exact absurd q (by simpa using hp) | exact absurd (by simpa using hp) q
      · exact kk _ _ _ hl hR hlo
  · cases hf
theorem ab_s_icmp_lt {o : Int} (hx : p.tables.exec = Jvm.exec) (hb : c.code = cc) (hdg : decode cc pc = .ok (.if_icmp .lt o, 3)) (hf : ab_f sv (.if_icmp .lt o, 3, aux) pc lo st h = some (.inl (pc', lo', st', h'))) (kk : ab_Wn cl D E ks base Hb nL p l e R s m args below meth c Q c0 s0 pc' lo' st' h') : ab_Wn cl D E ks base Hb nL p l e R s m args below meth c Q c0 s0 pc lo st h := by
  intro ls H locs hl hR hlo
  simp only [ab_f, ab_cc] at hf
  split at hf
  · obtain ⟨ht, rfl, rfl, rfl, hp⟩ := ab_br_inv hf
    refine lv_icmp_lt hx hb hdg ht (fun q => ?_) (fun q => ?_)
    · rcases hp with ⟨hp, rfl⟩ | ⟨hp, rfl⟩
      · exact kk _ _ _ hl hR hlo
      · first | exact absurd q (by simpa using hp) | exact absurd (by simpa using hp) q
    · rcases hp with ⟨hp, rfl⟩ | ⟨hp, rfl⟩
      · first | exact absurd q (by simpa using hp) | exact absurd (by simpa using hp) q
      · exact kk _ _ _ hl hR hlo
  · cases hf
theorem ab_s_if_ge {o : Int} (hx : p.tables.exec = Jvm.exec) (hb : c.code = cc) (hdg : decode cc pc = .ok (.ifCond .ge o, 3)) (hf : ab_f sv (.ifCond .ge o, 3, aux) pc lo st h = some (.inl (pc', lo', st', h'))) (kk : ab_Wn cl D E ks base Hb nL p l e R s m args below meth c Q c0 s0 pc' lo' st' h') : ab_Wn cl D E ks base Hb nL p l e R s m args below meth c Q c0 s0 pc lo st h := by
  intro ls H locs hl hR hlo
  simp only [ab_f, ab_cc] at hf
  split at hf
  · obtain ⟨ht, rfl, rfl, rfl, hp⟩ := ab_br_inv hf
    refine lv_if_ge hx hb hdg ht (fun q => ?_) (fun q => ?_)
    · rcases hp with ⟨hp, rfl⟩ | ⟨hp, rfl⟩
      · exact kk _ _ _ hl hR hlo
      · first | exact absurd q (by simpa using hp) | exact absurd (by simpa using hp) q
    · rcases hp with ⟨hp, rfl⟩ | ⟨hp, rfl⟩
      · first | exact absurd q (by simpa using hp) | exact absurd (by simpa using hp) q
      · exact kk _ _ _ hl hR hlo
  · cases hf
theorem ab_s_icmp_ge {o : Int} (hx : p.tables.exec = Jvm.exec) (hb : c.code = cc) (hdg : decode cc pc = .ok (.if_icmp .ge o, 3)) (hf : ab_f sv (.if_icmp .ge o, 3, aux) pc lo st h = some (.inl (pc', lo', st', h'))) (kk : ab_Wn cl D E ks base Hb nL p l e R s m args below meth c Q c0 s0 pc' lo' st' h') : ab_Wn cl D E ks base Hb nL p l e R s m args below meth c Q c0 s0 pc lo st h := by
  intro ls H locs hl hR hlo
  simp only [ab_f, ab_cc] at hf
  split at hf
  · obtain ⟨ht, rfl, rfl, rfl, hp⟩ := ab_br_inv hf
    refine lv_icmp_ge hx hb hdg ht (fun q => ?_) (fun q => ?_)
    · rcases hp with ⟨hp, rfl⟩ | ⟨hp, rfl⟩
      · exact kk _ _ _ hl hR hlo
      · first | exact absurd q (by simpa using hp) | exact absurd (by simpa using hp) q
    · rcases hp with ⟨hp, rfl⟩ | ⟨hp, rfl⟩
      · first | exact absurd q (by simpa using hp) | exact absurd (by simpa using hp) q
      · exact kk _ _ _ hl hR hlo
  · cases hf
theorem ab_s_if_gt {o : Int} (hx : p.tables.exec = Jvm.exec) (hb : c.code = cc) (hdg : decode cc pc = .ok (.ifCond .gt o, 3)) (hf : ab_f sv (.ifCond .gt o, 3, aux) pc lo st h = some (.inl (pc', lo', st', h'))) (kk : ab_Wn cl D E ks base Hb nL p l e R s m args below meth c Q c0 s0 pc' lo' st' h') : ab_Wn cl D E ks base Hb nL p l e R s m args below meth c Q c0 s0 pc lo st h := by
  intro ls H locs hl hR hlo
  simp only [ab_f, ab_cc] at hf
  split at hf
  · obtain ⟨ht, rfl, rfl, rfl, hp⟩ := ab_br_inv hf
    refine lv_if_gt hx hb hdg ht (fun q => ?_) (fun q => ?_)
    · rcases hp with ⟨hp, rfl⟩ | ⟨hp, rfl⟩
      · exact kk _ _ _ hl hR hlo
      · first | exact absurd q (by simpa using hp) | exact absurd (by simpa using hp) q
    · rcases hp with ⟨hp, rfl⟩ | ⟨hp, rfl⟩
      · first | exact absurd q (by simpa using hp) | exact absurd (by simpa using hp) q
      · exact kk _ _ _ hl hR hlo
  · cases hf
theorem ab_s_icmp_gt {o : Int} (hx : p.tables.exec = Jvm.exec) (hb : c.code = cc) (hdg : decode cc pc = .ok (.if_icmp .gt o, 3)) (hf : ab_f sv (.if_icmp .gt o, 3, aux) pc lo st h = some (.inl (pc', lo', st', h'))) (kk : ab_Wn cl D E ks base Hb nL p l e R s m args below meth c Q c0 s0 pc' lo' st' h') : ab_Wn cl D E ks base Hb nL p l e R s m args below meth c Q c0 s0 pc lo st h := by
  intro ls H locs hl hR hlo
  simp only [ab_f, ab_cc] at hf
  split at hf
  · obtain ⟨ht, rfl, rfl, rfl, hp⟩ := ab_br_inv hf
    refine lv_icmp_gt hx hb hdg ht (fun q => ?_) (fun q => ?_)
    · rcases hp with ⟨hp, rfl⟩ | ⟨hp, rfl⟩
      · exact kk _ _ _ hl hR hlo
      · first | exact absurd q (by simpa using hp) | exact absurd (by simpa using hp) q
    · rcases hp with ⟨hp, rfl⟩ | ⟨hp, rfl⟩
      · first | exact absurd q (by simpa using hp) | exact absurd (by simpa using hp) q
      · exact kk _ _ _ hl hR hlo
  · cases hf
theorem ab_s_if_le {o : Int} (hx : p.tables.exec = Jvm.exec) (hb : c.code = cc) (hdg : decode cc pc = .ok (.ifCond .le o, 3)) (hf : ab_f sv (.ifCond .le o, 3, aux) pc lo st h = some (.inl (pc', lo', st', h'))) (kk : ab_Wn cl D E ks base Hb nL p l e R s m args below meth c Q c0 s0 pc' lo' st' h') : ab_Wn cl D E ks base Hb nL p l e R s m args below meth c Q c0 s0 pc lo st h := by
  intro ls H locs hl hR hlo
  simp only [ab_f, ab_cc] at hf
  split at hf
  · obtain ⟨ht, rfl, rfl, rfl, hp⟩ := ab_br_inv hf
    refine lv_if_le hx hb hdg ht (fun q => ?_) (fun q => ?_)
    · rcases hp with ⟨hp, rfl⟩ | ⟨hp, rfl⟩
      · exact kk _ _ _ hl hR hlo
      · first | exact absurd q (by simpa using hp) | exact absurd (by simpa using hp) q
    · rcases hp with ⟨hp, rfl⟩ | ⟨hp, rfl⟩
      · first | exact absurd q (by simpa using hp) | exact absurd (by simpa using hp) q
      · exact kk _ _ _ hl hR hlo
  · cases hf
theorem ab_s_icmp_le {o : Int} (hx : p.tables.exec = Jvm.exec) (hb : c.code = cc) (hdg : decode cc pc = .ok (.if_icmp .le o, 3)) (hf : ab_f sv (.if_icmp .le o, 3, aux) pc lo st h = some (.inl (pc', lo', st', h'))) (kk : ab_Wn cl D E ks base Hb nL p l e R s m args below meth c Q c0 s0 pc' lo' st' h') : ab_Wn cl D E ks base Hb nL p l e R s m args below meth c Q c0 s0 pc lo st h := by
  intro ls H locs hl hR hlo
  simp only [ab_f, ab_cc] at hf
  split at hf
  · obtain ⟨ht, rfl, rfl, rfl, hp⟩ := ab_br_inv hf
    refine lv_icmp_le hx hb hdg ht (fun q => ?_) (fun q => ?_)
    · rcases hp with ⟨hp, rfl⟩ | ⟨hp, rfl⟩
      · exact kk _ _ _ hl hR hlo
      · first | exact absurd q (by simpa using hp) | exact absurd (by simpa using hp) q
    · rcases hp with ⟨hp, rfl⟩ | ⟨hp, rfl⟩
      · first | exact absurd q (by simpa using hp) | exact absurd (by simpa using hp) q
      · exact kk _ _ _ hl hR hlo
  · cases hf
theorem ab_rf_inv {v : Value} {r : Option Nat} (hr : ab_rf v = some r) : v = va_rf r := by
  cases v <;> simp [ab_rf] at hr <;> subst hr <;> rfl
theorem ab_s_ifnull {o : Int} (hx : p.tables.exec = Jvm.exec) (hb : c.code = cc) (hdg : decode cc pc = .ok (.ifnull o, 3)) (hf : ab_f sv (.ifnull o, 3, aux) pc lo st h = some (.inl (pc', lo', st', h'))) (kk : ab_Wn cl D E ks base Hb nL p l e R s m args below meth c Q c0 s0 pc' lo' st' h') : ab_Wn cl D E ks base Hb nL p l e R s m args below meth c Q c0 s0 pc lo st h := by
  intro ls H locs hl hR hlo
  simp only [ab_f] at hf
  split at hf
  · split at hf
    · rename_i r hr
      obtain ⟨ht, rfl, rfl, rfl, hp⟩ := ab_br_inv hf
      rw [ab_rf_inv hr]
      cases r with
      | none =>
        rcases hp with ⟨hp, rfl⟩ | ⟨hp, rfl⟩
        · first | exact lv_ifnullN hx hb hdg ht (kk _ _ _ hl hR hlo) | (simp at hp; done)
        · first | exact lv_ifnullN hx hb hdg ht (kk _ _ _ hl hR hlo) | (simp at hp; done)
      | some r =>
        rcases hp with ⟨hp, rfl⟩ | ⟨hp, rfl⟩
        · first | exact lv_ifnull hx hb hdg (kk _ _ _ hl hR hlo) | (simp at hp; done)
        · first | exact lv_ifnull hx hb hdg (kk _ _ _ hl hR hlo) | (simp at hp; done)
    · cases hf
  · cases hf
theorem ab_s_ifnonnull {o : Int} (hx : p.tables.exec = Jvm.exec) (hb : c.code = cc) (hdg : decode cc pc = .ok (.ifnonnull o, 3)) (hf : ab_f sv (.ifnonnull o, 3, aux) pc lo st h = some (.inl (pc', lo', st', h'))) (kk : ab_Wn cl D E ks base Hb nL p l e R s m args below meth c Q c0 s0 pc' lo' st' h') : ab_Wn cl D E ks base Hb nL p l e R s m args below meth c Q c0 s0 pc lo st h := by
  intro ls H locs hl hR hlo
  simp only [ab_f] at hf
  split at hf
  · split at hf
    · rename_i r hr
      obtain ⟨ht, rfl, rfl, rfl, hp⟩ := ab_br_inv hf
      rw [ab_rf_inv hr]
      cases r with
      | none =>
        rcases hp with ⟨hp, rfl⟩ | ⟨hp, rfl⟩
        · first | exact lv_ifnonnullN hx hb hdg (kk _ _ _ hl hR hlo) | (simp at hp; done)
        · first | exact lv_ifnonnullN hx hb hdg (kk _ _ _ hl hR hlo) | (simp at hp; done)
      | some r =>
        rcases hp with ⟨hp, rfl⟩ | ⟨hp, rfl⟩
        · first | exact lv_ifnonnull hx hb hdg ht (kk _ _ _ hl hR hlo) | (simp at hp; done)
        · first | exact lv_ifnonnull hx hb hdg ht (kk _ _ _ hl hR hlo) | (simp at hp; done)
    · cases hf
  · cases hf
theorem ab_s_acmp_eq {o : Int} (hx : p.tables.exec = Jvm.exec) (hb : c.code = cc) (hdg : decode cc pc = .ok (.if_acmp .eq o, 3)) (hf : ab_f sv (.if_acmp .eq o, 3, aux) pc lo st h = some (.inl (pc', lo', st', h'))) (kk : ab_Wn cl D E ks base Hb nL p l e R s m args below meth c Q c0 s0 pc' lo' st' h') : ab_Wn cl D E ks base Hb nL p l e R s m args below meth c Q c0 s0 pc lo st h := by
  intro ls H locs hl hR hlo
  simp only [ab_f] at hf
  split at hf
  · split at hf
    · rename_i x y hx1 hy1
      obtain ⟨ht, rfl, rfl, rfl, hp⟩ := ab_br_inv hf
      rw [ab_rf_inv hx1, ab_rf_inv hy1]
      refine lv_acmp_eq hx hb hdg ht (fun q => ?_) (fun q => ?_)
      · rcases hp with ⟨hp, rfl⟩ | ⟨hp, rfl⟩
        · exact kk _ _ _ hl hR hlo
        · first | exact absurd q (by simpa using hp) | exact absurd (by simpa using hp) q
      · rcases hp with ⟨hp, rfl⟩ | ⟨hp, rfl⟩
        · first | exact absurd q (by simpa using hp) | exact absurd (by simpa using hp) q
        · exact kk _ _ _ hl hR hlo
    · cases hf
  · cases hf
theorem ab_s_acmp_ne {o : Int} (hx : p.tables.exec = Jvm.exec) (hb : c.code = cc) (hdg : decode cc pc = .ok (.if_acmp .ne o, 3)) (hf : ab_f sv (.if_acmp .ne o, 3, aux) pc lo st h = some (.inl (pc', lo', st', h'))) (kk : ab_Wn cl D E ks base Hb nL p l e R s m args below meth c Q c0 s0 pc' lo' st' h') : ab_Wn cl D E ks base Hb nL p l e R s m args below meth c Q c0 s0 pc lo st h := by
  intro ls H locs hl hR hlo
  simp only [ab_f] at hf
  split at hf
  · split at hf
    · rename_i x y hx1 hy1
      obtain ⟨ht, rfl, rfl, rfl, hp⟩ := ab_br_inv hf
      rw [ab_rf_inv hx1, ab_rf_inv hy1]
      refine lv_acmp_ne hx hb hdg ht (fun q => ?_) (fun q => ?_)
      · rcases hp with ⟨hp, rfl⟩ | ⟨hp, rfl⟩
        · exact kk _ _ _ hl hR hlo
        · first | exact absurd q (by simpa using hp) | exact absurd (by simpa using hp) q
      · rcases hp with ⟨hp, rfl⟩ | ⟨hp, rfl⟩
        · first | exact absurd q (by simpa using hp) | exact absurd (by simpa using hp) q
        · exact kk _ _ _ hl hR hlo
    · cases hf
  · cases hf
theorem ab_s_goto {o : Int} (hx : p.tables.exec = Jvm.exec) (hb : c.code = cc) (hdg : decode cc pc = .ok (.goto o, 3)) (hf : ab_f sv (.goto o, 3, aux) pc lo st h = some (.inl (pc', lo', st', h'))) (kk : ab_Wn cl D E ks base Hb nL p l e R s m args below meth c Q c0 s0 pc' lo' st' h') : ab_Wn cl D E ks base Hb nL p l e R s m args below meth c Q c0 s0 pc lo st h := by
  intro ls H locs hl hR hlo
  simp only [ab_f] at hf
  split at hf
  · rename_i h0
    obtain ⟨rfl, rfl, rfl, rfl⟩ := ab_nx_inv hf
    exact lv_goto hx hb hdg (by unfold ab_tg; omega) (kk _ _ _ hl hR hlo)
  · cases hf
theorem ab_s_tableswitch {len : Nat} {d lw hg : Int} {os : Array Int} (hx : p.tables.exec = Jvm.exec) (hb : c.code = cc) (hdg : decode cc pc = .ok (.tableswitch d lw hg os, len)) (hf : ab_f sv (.tableswitch d lw hg os, len, aux) pc lo st h = some (.inl (pc', lo', st', h'))) (kk : ab_Wn cl D E ks base Hb nL p l e R s m args below meth c Q c0 s0 pc' lo' st' h') : ab_Wn cl D E ks base Hb nL p l e R s m args below meth c Q c0 s0 pc lo st h := by
  intro ls H locs hl hR hlo
  simp only [ab_f] at hf
  split at hf
  · split at hf
    · rename_i hout
      split at hf
      · rename_i h0
        obtain ⟨rfl, rfl, rfl, rfl⟩ := ab_nx_inv hf
        exact lv_tableOut hx hb hdg hout (by unfold ab_tg; omega) (kk _ _ _ hl hR hlo)
      · cases hf
    · rename_i hin
      split at hf
      · rename_i o ho
        split at hf
        · rename_i h0
          obtain ⟨rfl, rfl, rfl, rfl⟩ := ab_nx_inv hf
          exact lv_tableIn hx hb hdg (fun q => hin (Or.inl q)) (fun q => hin (Or.inr q)) ho (by unfold ab_tg; omega) (kk _ _ _ hl hR hlo)
        · cases hf
      · cases hf
  · cases hf
theorem ab_s_lookupswitch {len : Nat} {d : Int} {ps : Array (Int × Int)} (hx : p.tables.exec = Jvm.exec) (hb : c.code = cc) (hso : (ps.toList.zip (ps.toList.drop 1)).all (fun (a, next) => a.1 < next.1) = true) (hdg : decode cc pc = .ok (.lookupswitch d ps, len)) (hf : ab_f sv (.lookupswitch d ps, len, aux) pc lo st h = some (.inl (pc', lo', st', h'))) (kk : ab_Wn cl D E ks base Hb nL p l e R s m args below meth c Q c0 s0 pc' lo' st' h') : ab_Wn cl D E ks base Hb nL p l e R s m args below meth c Q c0 s0 pc lo st h := by
  intro ls H locs hl hR hlo
  simp only [ab_f] at hf
  split at hf
  · split at hf
    · rename_i h0
      obtain ⟨rfl, rfl, rfl, rfl⟩ := ab_nx_inv hf
      exact lv_lookup hx hb hdg hso rfl (by unfold ab_tg; omega) (kk _ _ _ hl hR hlo)
    · cases hf
  · cases hf
end ABP
