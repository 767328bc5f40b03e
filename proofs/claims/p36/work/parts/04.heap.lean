/-! THE ABSTRACT MACHINE OVER THE KIT'S JUDGEMENT, second half: objects and arrays. -/
theorem ab_at.kept {cl : List vw_C} {D : va_G} {E : Nat → ClassId} {ks : Nat → Bool} {base a : Nat} {H H1 : Heap} {c : ab_C} (h : ab_at cl D E ks base a H c) (hq : H1[a]? = H[a]?) : ab_at cl D E ks base a H1 c := by
  cases c with
  | inl q =>
    rcases h with ⟨h1, h2, h3⟩ | ⟨h1, cell, h2, h3⟩
    · exact Or.inl ⟨h1, hq.trans h2, h3⟩
    · exact Or.inr ⟨h1, cell, hq.trans h2, h3⟩
  | inr q =>
    obtain ⟨⟨r, h1, h2, h3⟩, h4⟩ := h
    exact ⟨⟨r, h1, h2, h3.kept hq⟩, h4⟩
theorem ab_at.lt {cl : List vw_C} {D : va_G} {E : Nat → ClassId} {ks : Nat → Bool} {base a : Nat} {H : Heap} {c : ab_C} (h : ab_at cl D E ks base a H c) : a < H.size := by
  cases c with
  | inl q =>
    rcases h with ⟨h1, h2, h3⟩ | ⟨h1, cell, h2, h3⟩
    · exact (Array.getElem?_eq_some_iff.mp h2).1
    · exact (Array.getElem?_eq_some_iff.mp h2).1
  | inr q =>
    obtain ⟨⟨r, h1, h2, cell, h3, -⟩, h4⟩ := h
    exact (Array.getElem?_eq_some_iff.mp h3).1
theorem ab_Rl.set {cl : List vw_C} {D : va_G} {E : Nat → ClassId} {ks : Nat → Bool} {base : Nat} {Hb H H1 : Heap} {h : ab_H} (hR : ab_Rl cl D E ks base Hb h H) {a : Nat} {c : ab_C} (hba : base ≤ a) (he : ab_at cl D E ks base a H1 c) (hz : H1.size = H.size) (ho : ∀ q : Nat, q ≠ a → H1[q]? = H[q]?) : ab_Rl cl D E ks base Hb (ab_set h a c) H1 := by
  obtain ⟨r1, r2, r3, r4⟩ := hR
  refine ⟨by omega, by rw [hz]; exact r2, fun q hq => (ho q (by omega)).trans (r3 q hq), fun b d hd => ?_⟩
  by_cases hb : b = a
  · subst hb
    have e : d = c := by
      have h9 : (if b = b then some c else h.1 b) = some d := hd
      rw [if_pos rfl] at h9
      exact (Option.some.inj h9).symm
    rw [e]; exact he
  · have h9 : (if b = a then some c else h.1 b) = some d := hd
    rw [if_neg hb] at h9
    exact (r4 b d h9).kept (ho b hb)
theorem ab_Rl.new {cl : List vw_C} {D : va_G} {E : Nat → ClassId} {ks : Nat → Bool} {base : Nat} {Hb H H1 : Heap} {h : ab_H} (hR : ab_Rl cl D E ks base Hb h H) {c : ab_C} {n : Nat} (he : ab_at cl D E ks base H.size H1 c) (hz : H1.size = H.size + 1) (ho : ∀ q : Nat, q < H.size → H1[q]? = H[q]?) : ab_Rl cl D E ks base Hb (ab_new h c n) H1 := by
  obtain ⟨r1, r2, r3, r4⟩ := hR
  refine ⟨by omega, by show h.2.1 + 1 = _; omega, fun q hq => (ho q (by omega)).trans (r3 q hq), fun b d hd => ?_⟩
  have h9 : (if b = h.2.1 then some c else h.1 b) = some d := hd
  by_cases hb : b = h.2.1
  · rw [if_pos hb] at h9
    rw [← Option.some.inj h9, hb, r2]
    exact he
  · rw [if_neg hb] at h9
    have h8 := r4 b d h9
    exact h8.kept (ho b h8.lt)
/-- a link to a field, its own or a nest mate's -/
def ab_fl (own : String) (s : State) (args : Array Value) (idx : Nat) (ref n d : String) : Prop := (Jvm.Cond.fieldLink own idx ref n d).before args s = true ∨ ∃ host : String, (Jvm.Cond.fieldLinkNest own idx ref n d host).before args s = true
def ab_fw (cl : List vw_C) (own : String) (s : State) (args : Array Value) (ci k idx : Nat) : Prop := ∃ (C : String) (T : u_T) (N : Nat) (ref : String), cl[ci]? = some (C, T, N) ∧ k < N ∧ (∀ w ∈ u_ws C T N, w.before args s = true) ∧ (∀ x, s.fieldFound? (T k).1 (T k).2.1 (T k).2.2.1 = some x → s.fieldFound? ref (T k).2.1 (T k).2.2.1 = some x) ∧ ab_fl own s args idx ref (T k).2.1 (T k).2.2.1
def ab_pw (cl : List vw_C) (own : String) (s : State) (args : Array Value) (meth : Method) (ci k code idx : Nat) : Prop := ∃ (C : String) (T : u_T) (N : Nat) (ref : String) (ty : Nat → FieldType), cl[ci]? = some (C, T, N) ∧ k < N ∧ (∀ w ∈ u_ws C T N, w.before args s = true) ∧ (∀ x, s.fieldFound? (T k).1 (T k).2.1 (T k).2.2.1 = some x → s.fieldFound? ref (T k).2.1 (T k).2.2.1 = some x) ∧
  (∀ j, j < N → parseFieldDescriptor (T j).2.2.1 = some (ty j)) ∧ (∀ a, a < N → ∀ b, b < N → a ≠ b → (T a).2.1 ≠ (T b).2.1) ∧ ab_kt code (ty k) = true ∧
  (((T k).2.2.2 = false ∧ ab_fl own s args idx ref (T k).2.1 (T k).2.2.1) ∨ ((T k).2.2.2 = true ∧ (Jvm.Cond.fieldLink own idx ref (T k).2.1 (T k).2.2.1).before args s = true ∧ meth.name = "<init>" ∧ (T k).1 = own))
theorem ab_kt_fits {k : Nat} {ty : FieldType} {v : Value} (h : ab_kt k ty = true) (hv : ab_fit k v = true) : narrow ty v = v ∧ fits ty v = true := by
  match k, ty, v, h, hv with
  | 0, .int, .int x, _, _ => exact ⟨rfl, rfl⟩
  | 1, .boolean, .int x, _, hv =>
    have h1 : (x == 0 || x == 1) = true := hv
    refine ⟨?_, h1⟩
    rcases (by simpa using h1 : x = 0 ∨ x = 1) with rfl | rfl <;> rfl
  | 2, .char, .int x, _, hv =>
    have h1 : (0 ≤ x && x ≤ 65535) = true := hv
    refine ⟨?_, h1⟩
    have h2 : 0 ≤ x ∧ x ≤ 65535 := by simpa using h1
    obtain ⟨j, hj, rfl⟩ := nI_of2 (M := 65535) (n := 65535) (by decide) (Int32.not_lt.mpr h2.1) h2.2
    exact (pk_charN (by omega)).1
  | 3, .long, .long x, _, _ => exact ⟨rfl, rfl⟩
  | 4, .double, .double x, _, _ => exact ⟨rfl, rfl⟩
  | 5, .float, .float x, _, _ => exact ⟨rfl, rfl⟩
  | 6, .object _, .null, _, _ => exact ⟨rfl, rfl⟩
  | 6, .object _, .ref _, _, _ => exact ⟨rfl, rfl⟩
  | 6, .array _, .null, _, _ => exact ⟨rfl, rfl⟩
  | 6, .array _, .ref _, _, _ => exact ⟨rfl, rfl⟩
theorem ab_set_list (t : ClassId) (xs : List Value) (i : Nat) (v : Value) : ({ cls := t, slots := xs.toArray, vm := .none } : Cell).setSlot i v = { cls := t, slots := (xs.set i v).toArray, vm := .none } := by
  simp [Cell.setSlot]
section ABH
variable {cl : List vw_C} {D : va_G} {E : Nat → ClassId} {ks : Nat → Bool} {aty : Nat → FieldType} {base : Nat} {Hb : Heap} {nL : Nat} {p : Program} {l : Launch} {e : Env} {R : Room} {s : State} {m : MethodId} {args : Array Value} {below : List Frame} {meth : Method} {c : Code} {Q : State → Prop} {c0 s0 : Nat} {sv : Nat → Value}
variable {cc : ByteArray} {pc pc' n' : Nat} {lo lo' : ab_L} {st st' : List Value} {h h' : ab_H} {aux : List Nat} {own : String}
theorem ab_arr {t : Nat} (hK : ab_Kn cl D E ks aty s) (ht : ks t = true) (xs : List Value) : s.isArrayOf { cls := E t, slots := xs.toArray, vm := .none } (aty t) := ⟨fun k h => (by cases h), ((hK.2.1 t ht).2.1 0 (fun _ => .null)).2⟩
theorem ab_ar (hK : ab_Kn cl D E ks aty s) {H : Heap} {a t : Nat} {xs : List Value} (h : ab_at cl D E ks base a H (.inl (t, xs))) : ∃ cell : Cell, H[a]? = some cell ∧ s.isArrayOf cell (aty t) ∧ cell.vm ≠ .unknown ∧ cell.slots = xs.toArray ∧ ab_kt (t % 8) (aty t) = true ∧ (t < 1000 → cell = { cls := E t, slots := xs.toArray, vm := .none } ∧ ks t = true ∧ base ≤ a) := by
  rcases h with ⟨h1, h2, h3⟩ | ⟨h1, cell, h2, h3, h4, h5, h6⟩
  · have h1 : ks t = true := h1
    exact ⟨_, h2, ab_arr hK h1 xs, (fun q => by cases q), rfl, (hK.2.1 t h1).1, fun _ => ⟨rfl, h1, h3⟩⟩
  · have h1 : ab_rk t = true := h1
    have h3 : cell.cls = E t := h3
    obtain ⟨q1, q2⟩ := hK.2.2.2 t h1
    refine ⟨cell, h2, ⟨h6, ?_⟩, h5, h4, q1, fun q => ?_⟩
    · rw [h3]
      exact (q2 0 (fun _ => .null)).2
    · exfalso
      rcases (by simpa [ab_rk] using h1 : t = 1000 ∨ t = 1006) with e | e <;> omega
theorem ab_al_inv {k : Nat} (hf : ab_al k pc lo st h = some (.inl (pc', lo', st', h'))) : ∃ i a t xs v r, st = .int i :: .ref a :: r ∧ h.1 a = some (.inl (t, xs)) ∧ t % 8 = k ∧ ¬ (i < 0 ∨ xs.length ≤ i.toNatClampNeg) ∧ xs[i.toNatClampNeg]? = some v ∧ ab_fit k v = true ∧ pc' = pc + 1 ∧ lo' = lo ∧ st' = v :: r ∧ h' = h := by
  unfold ab_al at hf
  split at hf
  · rename_i i a r
    split at hf
    · rename_i t xs hc
      split at hf
      · rename_i h1
        split at hf
        · rename_i v hv
          split at hf
          · rename_i hk
            obtain ⟨rfl, rfl, rfl, rfl⟩ := ab_nx_inv hf
            exact ⟨i, a, t, xs, v, r, rfl, hc, h1.1, h1.2, hv, hk, rfl, rfl, rfl, rfl⟩
          · cases hf
        · cases hf
      · cases hf
    · cases hf
  · cases hf
theorem ab_as_inv {k : Nat} (hf : ab_as k pc lo st h = some (.inl (pc', lo', st', h'))) : ∃ v i a t xs, st = v :: .int i :: .ref a :: st' ∧ h.1 a = some (.inl (t, xs)) ∧ t % 8 = k ∧ t < 1000 ∧ ab_fit k v = true ∧ ¬ (i < 0 ∨ xs.length ≤ i.toNatClampNeg) ∧ (k = 6 → ab_el h t v = true) ∧ pc' = pc + 1 ∧ lo' = lo ∧ h' = ab_set h a (.inl (t, xs.set i.toNatClampNeg v)) := by
  unfold ab_as at hf
  split at hf
  · rename_i v i a r
    split at hf
    · rename_i t xs hc
      split at hf
      · rename_i h1
        obtain ⟨rfl, rfl, rfl, rfl⟩ := ab_nx_inv hf
        exact ⟨v, i, a, t, xs, rfl, hc, h1.1, h1.2.1, h1.2.2.1, h1.2.2.2.1, h1.2.2.2.2, rfl, rfl, rfl⟩
      · cases hf
    · cases hf
  · cases hf
theorem ab_kt0 {ty : FieldType} (h : ab_kt 0 ty = true) : ty = .int := by cases ty <;> simp [ab_kt] at h ⊢
theorem ab_kt1 {ty : FieldType} (h : ab_kt 1 ty = true) : ty = .boolean := by cases ty <;> simp [ab_kt] at h ⊢
theorem ab_kt3 {ty : FieldType} (h : ab_kt 3 ty = true) : ty = .long := by cases ty <;> simp [ab_kt] at h ⊢
theorem ab_kt4 {ty : FieldType} (h : ab_kt 4 ty = true) : ty = .double := by cases ty <;> simp [ab_kt] at h ⊢
theorem ab_kt6 {ty : FieldType} (h : ab_kt 6 ty = true) : ty.isReference = true := by cases ty <;> simp [ab_kt] at h ⊢ <;> rfl
theorem ab_s_iaload (hx : p.tables.exec = Jvm.exec) (hb : c.code = cc) (hK : ab_Kn cl D E ks aty s) (hdg : decode cc pc = .ok (.iaload, 1)) (hf : ab_f sv (.iaload, 1, aux) pc lo st h = some (.inl (pc', lo', st', h'))) (kk : ab_Wn cl D E ks base Hb nL p l e R s m args below meth c Q c0 s0 pc' lo' st' h') : ab_Wn cl D E ks base Hb nL p l e R s m args below meth c Q c0 s0 pc lo st h := by
  intro ls H locs hl hR hlo
  obtain ⟨i, a, t, xs, v, r, rfl, hc, hk, hin, hv, hfit, rfl, rfl, rfl, rfl⟩ := ab_al_inv hf
  obtain ⟨cell, g1, harr, hun, hsl, hkt, -⟩ := ab_ar hK (hR.2.2.2 _ _ hc)
  have hty := ab_kt0 (by rw [← hk]; exact hkt : ab_kt 0 (aty t) = true)
  rw [hty] at harr
  exact W.iald hx hb g1 harr hun (by rw [hsl]; simpa using hin) (by rw [hsl]; simpa using hv) rfl rfl hdg (kk _ _ _ hl hR hlo)
theorem ab_s_baload (hx : p.tables.exec = Jvm.exec) (hb : c.code = cc) (hK : ab_Kn cl D E ks aty s) (hdg : decode cc pc = .ok (.baload, 1)) (hf : ab_f sv (.baload, 1, aux) pc lo st h = some (.inl (pc', lo', st', h'))) (kk : ab_Wn cl D E ks base Hb nL p l e R s m args below meth c Q c0 s0 pc' lo' st' h') : ab_Wn cl D E ks base Hb nL p l e R s m args below meth c Q c0 s0 pc lo st h := by
  intro ls H locs hl hR hlo
  obtain ⟨i, a, t, xs, v, r, rfl, hc, hk, hin, hv, hfit, rfl, rfl, rfl, rfl⟩ := ab_al_inv hf
  obtain ⟨cell, g1, harr, hun, hsl, hkt, -⟩ := ab_ar hK (hR.2.2.2 _ _ hc)
  have hty := ab_kt1 (by rw [← hk]; exact hkt : ab_kt 1 (aty t) = true)
  rw [hty] at harr
  exact W.zald hx hb g1 harr hun (by rw [hsl]; simpa using hin) (by rw [hsl]; simpa using hv) rfl rfl hdg (kk _ _ _ hl hR hlo)
theorem ab_s_laload (hx : p.tables.exec = Jvm.exec) (hb : c.code = cc) (hK : ab_Kn cl D E ks aty s) (hdg : decode cc pc = .ok (.laload, 1)) (hf : ab_f sv (.laload, 1, aux) pc lo st h = some (.inl (pc', lo', st', h'))) (kk : ab_Wn cl D E ks base Hb nL p l e R s m args below meth c Q c0 s0 pc' lo' st' h') : ab_Wn cl D E ks base Hb nL p l e R s m args below meth c Q c0 s0 pc lo st h := by
  intro ls H locs hl hR hlo
  obtain ⟨i, a, t, xs, v, r, rfl, hc, hk, hin, hv, hfit, rfl, rfl, rfl, rfl⟩ := ab_al_inv hf
  obtain ⟨cell, g1, harr, hun, hsl, hkt, -⟩ := ab_ar hK (hR.2.2.2 _ _ hc)
  have hty := ab_kt3 (by rw [← hk]; exact hkt : ab_kt 3 (aty t) = true)
  rw [hty] at harr
  exact W.lald hx hb g1 harr hun (by rw [hsl]; simpa using hin) (by rw [hsl]; simpa using hv) rfl rfl hdg (kk _ _ _ hl hR hlo)
theorem ab_s_daload (hx : p.tables.exec = Jvm.exec) (hb : c.code = cc) (hK : ab_Kn cl D E ks aty s) (hdg : decode cc pc = .ok (.daload, 1)) (hf : ab_f sv (.daload, 1, aux) pc lo st h = some (.inl (pc', lo', st', h'))) (kk : ab_Wn cl D E ks base Hb nL p l e R s m args below meth c Q c0 s0 pc' lo' st' h') : ab_Wn cl D E ks base Hb nL p l e R s m args below meth c Q c0 s0 pc lo st h := by
  intro ls H locs hl hR hlo
  obtain ⟨i, a, t, xs, v, r, rfl, hc, hk, hin, hv, hfit, rfl, rfl, rfl, rfl⟩ := ab_al_inv hf
  obtain ⟨cell, g1, harr, hun, hsl, hkt, -⟩ := ab_ar hK (hR.2.2.2 _ _ hc)
  have hty := ab_kt4 (by rw [← hk]; exact hkt : ab_kt 4 (aty t) = true)
  rw [hty] at harr
  exact W.dald hx hb g1 harr hun (by rw [hsl]; simpa using hin) (by rw [hsl]; simpa using hv) rfl rfl hdg (kk _ _ _ hl hR hlo)
theorem ab_s_aaload (hx : p.tables.exec = Jvm.exec) (hb : c.code = cc) (hK : ab_Kn cl D E ks aty s) (hdg : decode cc pc = .ok (.aaload, 1)) (hf : ab_f sv (.aaload, 1, aux) pc lo st h = some (.inl (pc', lo', st', h'))) (kk : ab_Wn cl D E ks base Hb nL p l e R s m args below meth c Q c0 s0 pc' lo' st' h') : ab_Wn cl D E ks base Hb nL p l e R s m args below meth c Q c0 s0 pc lo st h := by
  intro ls H locs hl hR hlo
  obtain ⟨i, a, t, xs, v, r, rfl, hc, hk, hin, hv, hfit, rfl, rfl, rfl, rfl⟩ := ab_al_inv hf
  obtain ⟨cell, g1, harr, hun, hsl, hkt, -⟩ := ab_ar hK (hR.2.2.2 _ _ hc)
  exact W.aald hx hb g1 harr (ab_kt6 (by rw [← hk]; exact hkt : ab_kt 6 (aty t) = true)) hun (by rw [hsl]; simpa using hin) (by rw [hsl]; simpa using hv) rfl rfl hdg (kk _ _ _ hl hR hlo)
theorem ab_s_iastore (hx : p.tables.exec = Jvm.exec) (hb : c.code = cc) (hK : ab_Kn cl D E ks aty s) (hdg : decode cc pc = .ok (.iastore, 1)) (hf : ab_f sv (.iastore, 1, aux) pc lo st h = some (.inl (pc', lo', st', h'))) (kk : ab_Wn cl D E ks base Hb nL p l e R s m args below meth c Q c0 s0 pc' lo' st' h') : ab_Wn cl D E ks base Hb nL p l e R s m args below meth c Q c0 s0 pc lo st h := by
  intro ls H locs hl hR hlo
  obtain ⟨v, i, a, t, xs, rfl, hc, hk, h1k, hfit, hin, -, rfl, rfl, rfl⟩ := ab_as_inv hf
  obtain ⟨x, rfl⟩ := ab_fit0 hfit
  obtain ⟨cell, g1, -, -, -, -, h9⟩ := ab_ar hK (hR.2.2.2 _ _ hc)
  obtain ⟨rfl, g2, g3⟩ := h9 h1k
  have harr := ab_arr hK g2 xs
  have g2 : ks t = true := g2
  have harr : s.isArrayOf _ (aty t) := harr
  have hty := ab_kt0 (by rw [← hk]; exact (hK.2.1 t g2).1 : ab_kt 0 (aty t) = true)
  rw [hty] at harr
  refine W.iast hx hb g1 harr (fun q => by cases q) (by simpa using hin) rfl rfl hdg fun H1 e1 z1 o1 => ?_
  rw [ab_set_list] at e1
  exact kk _ _ _ hl (hR.set g3 (Or.inl ⟨g2, e1, g3⟩) z1 o1) (t_lc hlo g3)
theorem ab_s_lastore (hx : p.tables.exec = Jvm.exec) (hb : c.code = cc) (hK : ab_Kn cl D E ks aty s) (hdg : decode cc pc = .ok (.lastore, 1)) (hf : ab_f sv (.lastore, 1, aux) pc lo st h = some (.inl (pc', lo', st', h'))) (kk : ab_Wn cl D E ks base Hb nL p l e R s m args below meth c Q c0 s0 pc' lo' st' h') : ab_Wn cl D E ks base Hb nL p l e R s m args below meth c Q c0 s0 pc lo st h := by
  intro ls H locs hl hR hlo
  obtain ⟨v, i, a, t, xs, rfl, hc, hk, h1k, hfit, hin, -, rfl, rfl, rfl⟩ := ab_as_inv hf
  obtain ⟨x, rfl⟩ := ab_fit3 hfit
  obtain ⟨cell, g1, -, -, -, -, h9⟩ := ab_ar hK (hR.2.2.2 _ _ hc)
  obtain ⟨rfl, g2, g3⟩ := h9 h1k
  have harr := ab_arr hK g2 xs
  have g2 : ks t = true := g2
  have harr : s.isArrayOf _ (aty t) := harr
  have hty := ab_kt3 (by rw [← hk]; exact (hK.2.1 t g2).1 : ab_kt 3 (aty t) = true)
  rw [hty] at harr
  refine W.last hx hb g1 harr (fun q => by cases q) (by simpa using hin) rfl rfl hdg fun H1 e1 z1 o1 => ?_
  rw [ab_set_list] at e1
  exact kk _ _ _ hl (hR.set g3 (Or.inl ⟨g2, e1, g3⟩) z1 o1) (t_lc hlo g3)
theorem ab_s_dastore (hx : p.tables.exec = Jvm.exec) (hb : c.code = cc) (hK : ab_Kn cl D E ks aty s) (hdg : decode cc pc = .ok (.dastore, 1)) (hf : ab_f sv (.dastore, 1, aux) pc lo st h = some (.inl (pc', lo', st', h'))) (kk : ab_Wn cl D E ks base Hb nL p l e R s m args below meth c Q c0 s0 pc' lo' st' h') : ab_Wn cl D E ks base Hb nL p l e R s m args below meth c Q c0 s0 pc lo st h := by
  intro ls H locs hl hR hlo
  obtain ⟨v, i, a, t, xs, rfl, hc, hk, h1k, hfit, hin, -, rfl, rfl, rfl⟩ := ab_as_inv hf
  obtain ⟨x, rfl⟩ := ab_fit4 hfit
  obtain ⟨cell, g1, -, -, -, -, h9⟩ := ab_ar hK (hR.2.2.2 _ _ hc)
  obtain ⟨rfl, g2, g3⟩ := h9 h1k
  have harr := ab_arr hK g2 xs
  have g2 : ks t = true := g2
  have harr : s.isArrayOf _ (aty t) := harr
  have hty := ab_kt4 (by rw [← hk]; exact (hK.2.1 t g2).1 : ab_kt 4 (aty t) = true)
  rw [hty] at harr
  refine W.dast hx hb g1 harr (fun q => by cases q) (by simpa using hin) rfl rfl hdg fun H1 e1 z1 o1 => ?_
  rw [ab_set_list] at e1
  exact kk _ _ _ hl (hR.set g3 (Or.inl ⟨g2, e1, g3⟩) z1 o1) (t_lc hlo g3)
theorem ab_s_bastore (hx : p.tables.exec = Jvm.exec) (hb : c.code = cc) (hK : ab_Kn cl D E ks aty s) (hdg : decode cc pc = .ok (.bastore, 1)) (hf : ab_f sv (.bastore, 1, aux) pc lo st h = some (.inl (pc', lo', st', h'))) (kk : ab_Wn cl D E ks base Hb nL p l e R s m args below meth c Q c0 s0 pc' lo' st' h') : ab_Wn cl D E ks base Hb nL p l e R s m args below meth c Q c0 s0 pc lo st h := by
  intro ls H locs hl hR hlo
  obtain ⟨v, i, a, t, xs, rfl, hc, hk, h1k, hfit, hin, -, rfl, rfl, rfl⟩ := ab_as_inv hf
  obtain ⟨x, rfl, h01⟩ := ab_fit1 hfit
  obtain ⟨cell, g1, -, -, -, -, h9⟩ := ab_ar hK (hR.2.2.2 _ _ hc)
  obtain ⟨rfl, g2, g3⟩ := h9 h1k
  have harr := ab_arr hK g2 xs
  have g2 : ks t = true := g2
  have harr : s.isArrayOf _ (aty t) := harr
  have hty := ab_kt1 (by rw [← hk]; exact (hK.2.1 t g2).1 : ab_kt 1 (aty t) = true)
  rw [hty] at harr
  refine W.zast hx hb g1 harr (fun q => by cases q) (by simpa using hin) rfl rfl hdg fun H1 e1 z1 o1 => ?_
  rw [(show narrow .boolean (.int x) = .int x by rcases h01 with rfl | rfl <;> rfl), ab_set_list] at e1
  exact kk _ _ _ hl (hR.set g3 (Or.inl ⟨g2, e1, g3⟩) z1 o1) (t_lc hlo g3)
theorem ab_s_aastore (hx : p.tables.exec = Jvm.exec) (hb : c.code = cc) (hK : ab_Kn cl D E ks aty s) (hdg : decode cc pc = .ok (.aastore, 1)) (hf : ab_f sv (.aastore, 1, aux) pc lo st h = some (.inl (pc', lo', st', h'))) (kk : ab_Wn cl D E ks base Hb nL p l e R s m args below meth c Q c0 s0 pc' lo' st' h') : ab_Wn cl D E ks base Hb nL p l e R s m args below meth c Q c0 s0 pc lo st h := by
  intro ls H locs hl hR hlo
  obtain ⟨v, i, a, t, xs, rfl, hc, hk, h1k, hfit, hin, hel, rfl, rfl, rfl⟩ := ab_as_inv hf
  obtain ⟨cell, g1, -, -, -, -, h9⟩ := ab_ar hK (hR.2.2.2 _ _ hc)
  obtain ⟨rfl, g2, g3⟩ := h9 h1k
  have hel := hel rfl
  obtain ⟨kA, kc, comp, w1, w2, w3, w4, w5, w6, w7⟩ := hK.2.2.1 t g2 hk h1k
  have hin' : ¬ i < 0 ∧ i.toNatClampNeg < xs.toArray.size := ⟨fun q => hin (Or.inl q), by rw [List.size_toArray]; exact Nat.not_le.mp fun q => hin (Or.inr q)⟩
  rcases ab_fit6 hfit with rfl | ⟨b, rfl⟩
  · have ht : t ≠ 14 := by
      intro q
      subst q
      simp [ab_el] at hel
    obtain ⟨C, hC⟩ := w4 ht
    refine va_WaastN (C := C) hx hb g1 (by rw [← hC]; exact ab_arr hK g2 xs) (fun q => by cases q) (by simpa using hin) rfl rfl hdg fun H1 e1 z1 o1 => ?_
    rw [ab_set_list] at e1
    exact kk _ _ _ hl (hR.set g3 (Or.inl ⟨g2, e1, g3⟩) z1 o1) (t_lc hlo g3)
  · have hel : ab_el2 t (h.1 b) = true := hel
    have href := ab_kt6 (by rw [← hk]; exact (hK.2.1 t g2).1 : ab_kt 6 (aty t) = true)
    cases hcb : h.1 b with
    | none => rw [hcb] at hel; cases hel
    | some d =>
      rw [hcb] at hel
      cases d with
      | inr q =>
        obtain ⟨ci, fs⟩ := q
        obtain ⟨⟨r, q1, q2, cell, q3, q4, q5, q6⟩, q7⟩ := hR.2.2.2 _ _ hcb
        obtain ⟨-, hfc, kC, hkC, -⟩ := hK.1 ci r q1
        have hasg : s.vm.assignable cell.cls comp = true := by
          rw [q4]
          rcases (by simpa [ab_el2] using hel : t = 6 ∨ t = 8 * (ci + 2) + 6) with ht | ht
          · exact w7 ht ci r q1
          · rw [w6 ci r q1 ht]; exact va_asg _ _
        refine W.aast hx hb g1 (fun q h => by cases h) (fun h => by cases h) w1 w2 href w3 hin' q3 (fun q h => by rw [q5] at h; cases h) (by rw [q4]; exact hkC) hasg rfl rfl hdg fun H1 e1 z1 o1 => ?_
        rw [ab_set_list] at e1
        exact kk _ _ _ hl (hR.set g3 (Or.inl ⟨g2, e1, g3⟩) z1 o1) (t_lc hlo g3)
      | inl q =>
        obtain ⟨u, ys⟩ := q
        have hel : t = 14 ∧ u = 0 := by simpa [ab_el2] using hel
        obtain ⟨cv, q1, -, -, -, -, q9⟩ := ab_ar hK (hR.2.2.2 _ _ hcb)
        obtain ⟨rfl, q2, q3⟩ := q9 (by omega)
        obtain ⟨-, kv, hkv, -⟩ := ab_arr hK q2 ys
        refine W.aast hx hb g1 (fun q h => by cases h) (fun h => by cases h) w1 w2 href w3 hin' q1 (fun q h => by cases h) hkv (by show s.vm.assignable (E u) comp = true; rw [(w5 hel.1).1, hel.2]; exact va_asg _ _) rfl rfl hdg fun H1 e1 z1 o1 => ?_
        rw [ab_set_list] at e1
        exact kk _ _ _ hl (hR.set g3 (Or.inl ⟨g2, e1, g3⟩) z1 o1) (t_lc hlo g3)
theorem ab_s_arraylength (hx : p.tables.exec = Jvm.exec) (hb : c.code = cc) (hK : ab_Kn cl D E ks aty s) (hdg : decode cc pc = .ok (.arraylength, 1)) (hf : ab_f sv (.arraylength, 1, aux) pc lo st h = some (.inl (pc', lo', st', h'))) (kk : ab_Wn cl D E ks base Hb nL p l e R s m args below meth c Q c0 s0 pc' lo' st' h') : ab_Wn cl D E ks base Hb nL p l e R s m args below meth c Q c0 s0 pc lo st h := by
  intro ls H locs hl hR hlo
  simp only [ab_f] at hf
  split at hf
  · split at hf
    · rename_i t xs hc
      obtain ⟨rfl, rfl, rfl, rfl⟩ := ab_nx_inv hf
      obtain ⟨cell, g1, harr, hun, hsl, -, -⟩ := ab_ar hK (hR.2.2.2 _ _ hc)
      exact W.alen (n := Int32.ofNat xs.length) hx hb g1 harr (by rw [hsl]; simp) rfl rfl hdg (kk _ _ _ hl hR hlo)
    · cases hf
  · cases hf
theorem ab_s_getfield {idx : Nat} (hx : p.tables.exec = Jvm.exec) (hb : c.code = cc) (hK : ab_Kn cl D E ks aty s) (hown : s.vm.findClass own = some m.cls) (hw : ab_fw cl own s args (ab_ax aux 0) (ab_ax aux 1) idx) (hdg : decode cc pc = .ok (.getfield idx, 3)) (hf : ab_f sv (.getfield idx, 3, aux) pc lo st h = some (.inl (pc', lo', st', h'))) (kk : ab_Wn cl D E ks base Hb nL p l e R s m args below meth c Q c0 s0 pc' lo' st' h') : ab_Wn cl D E ks base Hb nL p l e R s m args below meth c Q c0 s0 pc lo st h := by
  intro ls H locs hl hR hlo
  simp only [ab_f] at hf
  split at hf
  · rename_i a r
    split at hf
    · rename_i ci fs hc
      split at hf
      · rename_i hci
        split at hf
        · rename_i v hv
          obtain ⟨rfl, rfl, rfl, rfl⟩ := ab_nx_inv hf
          subst hci
          obtain ⟨C, T, N, ref, f1, f2, f3, f4, f5⟩ := hw
          obtain ⟨⟨r0, q1, q2, cell, q3, q4, q5, q6⟩, q7⟩ := hR.2.2.2 _ _ hc
          have hr : r0 = (C, T, N) := Option.some.inj (q1.symm.trans f1)
          subst hr
          obtain ⟨hS, hfc, kC, hkC, hkind⟩ := hK.1 _ _ f1
          obtain ⟨cf, kf, fi, f, hi, hsl⟩ := hS _ f2
          have hst := (u_facts hfc hkC (u_lays f3 (fun w h => h) f2) hi).1
          have hslot : cell.slots[f.slot]? = some v := by
            rw [hsl, q6 _ f2]
            simp [vp_V, hv]
          rcases f5 with f5 | ⟨host, f5⟩
          · exact W.getf hx hb hown f5 (f4 _ hi) hst q3 (by rw [q5]; exact fun h => by cases h) hslot rfl rfl hdg (kk _ _ _ hl hR hlo)
          · exact va_Wgetf hx hb hown f5 (f4 _ hi) hst q3 (by rw [q5]; exact fun h => by cases h) hslot rfl rfl hdg (kk _ _ _ hl hR hlo)
        · cases hf
      · cases hf
    · cases hf
  · cases hf
theorem ab_s_putfield {idx : Nat} (hx : p.tables.exec = Jvm.exec) (hb : c.code = cc) (hK : ab_Kn cl D E ks aty s) (hown : s.vm.findClass own = some m.cls) (hw : ab_pw cl own s args meth (ab_ax aux 0) (ab_ax aux 1) (ab_ax aux 2) idx) (hdg : decode cc pc = .ok (.putfield idx, 3)) (hf : ab_f sv (.putfield idx, 3, aux) pc lo st h = some (.inl (pc', lo', st', h'))) (kk : ab_Wn cl D E ks base Hb nL p l e R s m args below meth c Q c0 s0 pc' lo' st' h') : ab_Wn cl D E ks base Hb nL p l e R s m args below meth c Q c0 s0 pc lo st h := by
  intro ls H locs hl hR hlo
  simp only [ab_f] at hf
  split at hf
  · rename_i v a r
    split at hf
    · rename_i ci fs hc
      split at hf
      · rename_i hci
        obtain ⟨rfl, rfl, rfl, rfl⟩ := ab_nx_inv hf
        obtain ⟨rfl, hlen, hfit⟩ := hci
        obtain ⟨C, T, N, ref, ty, f1, f2, f3, f4, f5, f6, f7, f8⟩ := hw
        obtain ⟨⟨r0, q1, q2, cell, q3, q4, q5, q6⟩, q7⟩ := hR.2.2.2 _ _ hc
        have hr : r0 = (C, T, N) := Option.some.inj (q1.symm.trans f1)
        subst hr
        obtain ⟨hS, hfc, kC, hkC, hkind⟩ := hK.1 _ _ f1
        obtain ⟨cf, kf, fi, f, hi, hsl⟩ := hS _ f2
        have hlays := u_lays f3 (fun w h => h) f2
        have hst := (u_facts hfc hkC hlays hi).1
        obtain ⟨hn, hv⟩ := ab_kt_fits f7 hfit
        have hap : ∀ x y, x < N → y < N → x ≠ y → (D.2 (ab_ax aux 0)) x ≠ (D.2 (ab_ax aux 0)) y := by
          intro x y hx1 hy1 hne
          obtain ⟨_, _, _, fa, hia, ea⟩ := hS x hx1
          obtain ⟨_, _, _, fb, hib, eb⟩ := hS y hy1
          rw [← ea, ← eb]
          refine u_apart (u_lays f3 (fun w h => h) hx1) (u_lays f3 (fun w h => h) hy1) hia hib ?_
          rw [(State.fieldFound?_type hia (f5 x hx1)).1, (State.fieldFound?_type hib (f5 y hy1)).1]
          exact f6 x hx1 y hy1 hne
        have fin : ∀ (H1 : Heap), H1[a]? = some (cell.setSlot f.slot v) → H1.size = H.size → (∀ q, q ≠ a → H1[q]? = H[q]?) → W p l e R s m args below meth c H1 (locs ++ [⟨a, f.slot⟩]) (h.2.1 - c0) (h.2.2 - s0) Q (F0 m (pc + 3) ls r) := by
          intro H1 e1 z1 o1
          rw [hsl] at e1
          refine kk _ _ _ hl (hR.set q7 ⟨⟨_, f1, ?_, ?_⟩, q7⟩ z1 o1) (t_lc hlo q7)
          · show (fs.set _ v).length = _
            rw [List.length_set]; exact q2
          · exact t_OB.to (V := updV (vp_V fs) (ab_ax aux 1) v) ⟨_, e1, q4, q5, t_set q6 hap f2 v⟩ (fun j _ => vp_updV_set hlen v j)
        have hlay := f3 _ (u_in_lay f2)
        have hlt : f.slot < cell.slots.size := by rw [hsl]; exact k2_hasslot (q6 _ f2)
        rcases f8 with ⟨g1, g2⟩ | ⟨g1, g2, g3, g4⟩
        · unfold u_lay at hlay
          rw [if_neg (by rw [g1]; decide)] at hlay
          have h6 := u_store hfc hkC hkind hlay hi (f5 _ f2) hn hv
          rcases g2 with g2 | ⟨host, g2⟩
          · exact W.putK hx hb (f := f) ⟨hown, g2, ⟨_, _, _, f4 _ hi⟩, hst⟩ (by rw [q4]; exact h6) q3 q5 hlt rfl rfl hdg fin
          · exact va_WputK hx hb hown g2 (f4 _ hi) hst (by rw [q4]; exact h6) q3 q5 hlt rfl rfl hdg fin
        · unfold u_lay at hlay
          rw [if_pos g1] at hlay
          have hcf : m.cls = cf := by
            obtain ⟨_, _, c', _, _, _, -, -, hf', -, -, -, hown2, -⟩ := Cond.laysFinal_spec hlay
            have e1 : c' = cf := by have := hi.symm.trans hf'; simp at this; exact this.1.symm
            rw [g4] at hown2
            rw [← e1]; exact Option.some.inj (hown.symm.trans hown2)
          have h6 := u_fits hfc hkC hkind (Or.inr hlay) hi (f5 _ f2) hn hv
          exact W.putFinK hx hb hown g2 (f4 _ hi) hst hcf g3 (by rw [q4]; exact h6) q3 q5 hlt rfl rfl hdg fin
      · cases hf
    · cases hf
  · cases hf
theorem ab_dvt {t : Nat} {ty : FieldType} (h : ab_kt (t % 8) ty = true) : defaultValue ty = ab_dv (t % 8) := by
  generalize t % 8 = k at h ⊢
  match k, ty, h with
  | 0, .int, _ => rfl
  | 1, .boolean, _ => rfl
  | 2, .char, _ => rfl
  | 3, .long, _ => rfl
  | 4, .double, _ => rfl
  | 5, .float, _ => rfl
  | 6, .object _, _ => rfl
  | 6, .array _, _ => rfl
theorem ab_s_newarray {atype : ArrayType} (hx : p.tables.exec = Jvm.exec) (hb : c.code = cc) (hK : ab_Kn cl D E ks aty s) (ha : (Jvm.Cond.arrayClass (newarray.typeOf atype)).before args s = true ∧ ks (ab_ax aux 0) = true ∧ aty (ab_ax aux 0) = newarray.typeOf atype) (hc0 : c0 ≤ h.2.1) (hs0 : s0 ≤ h.2.2) (hRc : h'.2.1 - c0 ≤ R.cells) (hRs : h'.2.2 - s0 ≤ R.slots) (hdg : decode cc pc = .ok (.newarray atype, 2)) (hf : ab_f sv (.newarray atype, 2, aux) pc lo st h = some (.inl (pc', lo', st', h'))) (kk : ab_Wn cl D E ks base Hb nL p l e R s m args below meth c Q c0 s0 pc' lo' st' h') : ab_Wn cl D E ks base Hb nL p l e R s m args below meth c Q c0 s0 pc lo st h := by
  intro ls H locs hl hR hlo
  simp only [ab_f] at hf
  split at hf
  · rename_i n r
    split at hf
    · rename_i hn
      obtain ⟨rfl, rfl, rfl, rfl⟩ := ab_nx_inv hf
      obtain ⟨a1, a2, a3⟩ := ha
      have hRc : h.2.1 + 1 - c0 ≤ R.cells := hRc
      have hRs : h.2.2 + n.toNatClampNeg - s0 ≤ R.slots := hRs
      refine W.newa hx hb a1 rfl hdg rfl hn.1 ?_ (by omega) (by omega) fun cA kA comp k1 k2 k3 => ?_
      · have hcb : componentBytes (newarray.typeOf atype) ≤ 8 := by cases atype <;> decide
        have := Nat.mul_le_mul hn.2 hcb
        omega
      · have hE : cA = E (ab_ax aux 0) := Option.some.inj (k1.symm.trans (a3 ▸ (hK.2.1 _ a2).2.2))
        subst hE
        refine W.cs (show h.2.1 - c0 + 1 = h.2.1 + 1 - c0 by omega) (show h.2.2 - s0 + n.toNatClampNeg = h.2.2 + n.toNatClampNeg - s0 by omega) ?_
        rw [← hR.2.1]
        refine kk _ _ _ hl (hR.new (Or.inl ⟨a2, ?_, hR.1⟩) (by simp) (fun q hq => ?_)) hlo
        · have hd := ab_dvt (hK.2.1 _ a2).1
          rw [a3] at hd
          simp [← hd]
        · rw [Array.getElem?_push, if_neg (Nat.ne_of_lt hq)]
    · cases hf
  · cases hf
end ABH
