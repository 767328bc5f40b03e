/-! CONTRACTS OUT OF RUNS OF THE ABSTRACT MACHINE: words that last, the world, calls, ends, throws, and the theorem that ties a run of a method to its contract. -/
def ab_AOA (t : FieldType) (U : State) : Prop := (Jvm.Cond.arrayOver (.array t)).before #[] U = true
theorem ab_AOA.moved {t : FieldType} {u U : State} (hvm : u.vm.Alike U.vm) (h : ab_AOA t u) : ab_AOA t U := by
  obtain ⟨comp, c, k, h1, h2, h3, h4, h5⟩ := arrayOverA_spec h
  obtain ⟨k', hk', he⟩ := hvm.2.2 _ _ h3
  have hi : (U.vm.classes.findIdx? fun (x : Class) => match x.kind with | .array component _ => component == comp | _ => false) = some c := by
    rw [hvm.findIdx?_eq _ (fun _ => rfl)]
    exact h2
  have hkind : k'.kind = .array comp (.array t) := by rw [he]; exact h4
  have f1 : U.vm.findClass (FieldType.array t).toString = some comp := by rw [hvm.findClass]; exact h1
  have f2 : U.vm.findClass ("[" ++ (FieldType.array t).toString) = some c := by rw [hvm.findClass]; exact h5
  unfold ab_AOA Cond.before Cond.holds
  simp only [Cond.value]
  rw [f1, Option.bind_some]
  refine (congrArg (fun o : Option Nat => (o.bind (fun c => (U.vm.classes[c]?).map fun (k : Class) => match k.kind with | .array _ ty => decide (ty = FieldType.array t) && decide (U.vm.findClass ("[" ++ (FieldType.array t).toString) = some c) | _ => false) == some true)) hi).trans ?_
  simp [hk', hkind, f2]
/-- words that last from a state to any warmer one -/
def ab_kp : Jvm.Cond → Bool
  | .fieldLinkNest .. => true
  | .methodLinkNest .. => true
  | .castable .. => true
  | .declares _ => true
  | .arrayOver (.object _) => true
  | .arrayOver (.array _) => true
  | w => goodWord w
theorem ab_kept {w : Jvm.Cond} (hk : ab_kp w = true) {args a' : Array Value} {s U : State} (hW : s.WarmedH U.vm) (h : w.before args s = true) : w.before a' U = true := by
  have good : goodWord w = true → w.before a' U = true := fun hg => word_at hW (good_of_word hg) h
  cases w with
  | fieldLinkNest a b c d f g => exact va_tabs rfl rfl (va_Nw.warmF hW (va_tabs rfl rfl h))
  | methodLinkNest a b c d => exact va_tabs rfl rfl (va_Nw.warmM hW (va_tabs rfl rfl h))
  | castable a b => exact va_tabs rfl rfl (va_Nw.warmC hW (va_tabs rfl rfl h))
  | declares a => exact va_tabs rfl rfl (va_Nw.warmD hW (va_tabs rfl rfl h))
  | arrayOver t =>
    cases t with
    | object C => exact va_AO.use (va_AO.moved hW.alike (va_AO.of h))
    | array t => exact ab_AOA.moved hW.alike h
    | _ => exact good hk
  | _ => exact good hk
abbrev ab_D : Type := MethodName × ByteArray × Nat × Option FieldType × List (Nat × Nat × Nat × Nat)
def ab_cd (q : ab_D) : Jvm.Cond := match q.2.2.2.2 with
  | [] => .code q.1 q.2.1 q.2.2.1 q.2.2.2.1
  | t :: r => .codeWith q.1 q.2.1 q.2.2.1 q.2.2.2.1 (t :: r)
theorem ab_cd_good (q : ab_D) : goodWord (ab_cd q) = true := by
  unfold ab_cd
  split <;> rfl
/-- the world: classes, arrays, what can't be cast, texts, statics -/
def ab_World (cl : List vw_C) (D : va_G) (E : Nat → ClassId) (ks : Nat → Bool) (aty : Nat → FieldType) (base : Nat) (ncs : List (String × String)) (srs : List (String × Nat × String)) (sts : List (String × String × String × Value)) (U : State) (H : Heap) : Prop :=
  ab_Kn cl D E ks aty U ∧ (∀ q ∈ ncs, va_Nc q.1 q.2 U) ∧ (∀ q ∈ srs, ∃ a : Nat, vk_R q.1 q.2.1 q.2.2 a U) ∧
  vx_Zq Bundle.tN "UNASSIGNED_STACK" Bundle.steD (fun q => base ≤ q) U H ∧ vx_Zq Bundle.tN "SUPPRESSED_SENTINEL" Bundle.listD (fun q => base ≤ q) U H ∧
  ∀ q ∈ sts, va_Z q.1 q.2.1 q.2.2.1 q.2.2.2 (fun q => base ≤ q) U H
theorem ab_Kn.moved {cl : List vw_C} {D : va_G} {E : Nat → ClassId} {ks : Nat → Bool} {aty : Nat → FieldType} {u U : State} (hvm : u.vm.Alike U.vm) (h : ab_Kn cl D E ks aty u) : ab_Kn cl D E ks aty U := by
  obtain ⟨h1, h2, h3, h4⟩ := h
  refine ⟨fun c q hq => u_Kn_moved hvm (h1 c q hq), fun t ht => ⟨(h2 t ht).1, arrOfT_moved hvm (h2 t ht).2.1, by rw [hvm.findClass]; exact (h2 t ht).2.2⟩, fun t ht h6 hk => ?_, fun t ht => ⟨(h4 t ht).1, arrOfT_moved hvm (h4 t ht).2⟩⟩
  obtain ⟨kA, kc, comp, w1, w2, w3, w4, w5, w6, w7⟩ := h3 t ht h6 hk
  obtain ⟨kA', a1, a2⟩ := hvm.2.2 _ _ w1
  obtain ⟨kc', b1, -⟩ := hvm.2.2 _ _ w3
  exact ⟨kA', kc', comp, a1, by rw [a2]; exact w2, b1, w4, w5, w6, fun e ci q hq => by rw [hvm.assignable]; exact w7 e ci q hq⟩
theorem ab_World.moved {cl : List vw_C} {D : va_G} {E : Nat → ClassId} {ks : Nat → Bool} {aty : Nat → FieldType} {base : Nat} {ncs : List (String × String)} {srs : List (String × Nat × String)} {sts : List (String × String × String × Value)} {u U : State} {H H1 : Heap} (hW : u.WarmedH U.vm) (hq : ∀ a : Nat, a < H.size → ¬ base ≤ a → H1[a]? = H[a]?) (h : ab_World cl D E ks aty base ncs srs sts u H) : ab_World cl D E ks aty base ncs srs sts U H1 := by
  obtain ⟨h1, h2, h3, h4, h5, h6⟩ := h
  refine ⟨h1.moved hW.alike, fun q h => (h2 q h).moved hW.alike, fun q h => ?_, vx_Zq.moved hW.alike (h4.kept hq), vx_Zq.moved hW.alike (h5.kept hq), fun q h => va_Z.moved hW.alike (va_Z.kept (h6 q h) hq)⟩
  obtain ⟨a, ha⟩ := h3 q h
  exact ⟨a, vk_R.warm hW ha⟩
def ab_rm (d mc ms : Nat) : Room := { frames := d + 10, cells := mc, slots := ms, locals := 100 * d + 200 }
def ab_Pc (cl : List vw_C) (D : va_G) (E : Nat → ClassId) (ks : Nat → Bool) (aty : Nat → FieldType) (base : Nat) (Hb : Heap) (ncs : List (String × String)) (srs : List (String × Nat × String)) (sts : List (String × String × String × Value)) (as : List Value) (h : ab_H) : Array Value → State → Prop := fun v U =>
  v = as.toArray ∧ ab_Rl cl D E ks base Hb h U.heap ∧ ab_World cl D E ks aty base ncs srs sts U U.heap
def ab_Qc (cl : List vw_C) (D : va_G) (E : Nat → ClassId) (ks : Nat → Bool) (base : Nat) (Hb : Heap) (r : ab_R) (h' : ab_H) : Array Value → State → Outcome → State → Prop := fun _ _ o t => ∃ v, r = .inl v ∧ o = .returned v ∧ ab_Rl cl D E ks base Hb h' t.heap
def ab_XC (cl : List vw_C) (D : va_G) (E : Nat → ClassId) (ks : Nat → Bool) (base : Nat) (Hb : Heap) (en : Nat → String) (r : ab_R) (h' : ab_H) : String → State → State → Prop := fun X _ t => ∃ e, r = .inr e ∧ X = en e ∧ ab_Rl cl D E ks base Hb h' t.heap
/-- the contract of a run -/
def ab_Ct (l : Launch) (MD : Nat → ab_D) (Wl : List Jvm.Cond) (en : Nat → String) (cl : List vw_C) (D : va_G) (E : Nat → ClassId) (ks : Nat → Bool) (aty : Nat → FieldType) (base : Nat) (Hb : Heap) (ncs : List (String × String)) (srs : List (String × Nat × String)) (sts : List (String × String × String × Value)) (d y : Nat) (as : List Value) (h : ab_H) (r : ab_R) (h' : ab_H) : Prop :=
  vx_Met l (MD y).1 (ab_cd (MD y) :: Wl) (ab_rm d (h'.2.1 - h.2.1) (h'.2.2 - h.2.2)) (ab_Pc cl D E ks aty base Hb ncs srs sts as h) (ab_Qc cl D E ks base Hb r h') (ab_XC cl D E ks base Hb en r h') (h'.2.1 - h.2.1) (h'.2.2 - h.2.2) (fun q => base ≤ q)
theorem ab_Pc_blind {cl : List vw_C} {D : va_G} {E : Nat → ClassId} {ks : Nat → Bool} {aty : Nat → FieldType} {base : Nat} {Hb : Heap} {ncs : List (String × String)} {srs : List (String × Nat × String)} {sts : List (String × String × String × Value)} {as : List Value} {h : ab_H} : FrameBlind (ab_Pc cl D E ks aty base Hb ncs srs sts as h) := by
  intro a U g mk hp
  exact ⟨hp.1, hp.2.1, hp.2.2.moved (u := U) (U := U.calling g mk a) (State.WarmedH.refl U) (fun _ _ _ => rfl)⟩
/-- a handler: the row of the table that takes the exception, and the store that it begins with -/
def ab_hw (ncs : List (String × String)) (en : Nat → String) (own : String) (s : State) (args : Array Value) (c : Code) (cc : ByteArray) (nL pc e p k : Nat) : Prop := ∃ (pre suf : List ExceptionTableEntry) (x : ExceptionTableEntry) (name : String), c.exceptionTable.toList = pre ++ x :: suf ∧
  (∀ z ∈ pre, covers z pc = false ∨ (z.catchType ≠ 0 ∧ ∃ nm : String, (Jvm.Cond.classLink own z.catchType nm).before args s = true ∧ (en e, nm) ∈ ncs)) ∧ covers x pc = true ∧ x.catchType ≠ 0 ∧ (Jvm.Cond.classLink own x.catchType name).before args s = true ∧ (Jvm.Cond.castable (en e) name).before args s = true ∧ k < nL ∧
  ((decode cc x.handlerPc = .ok (.astore k, 2) ∧ p = x.handlerPc + 2) ∨ (∃ f : Fin 4, f.val = k ∧ decode cc x.handlerPc = .ok (.astore_n f, 1) ∧ p = x.handlerPc + 1))
def ab_lk (own : String) (s : State) (args : Array Value) (idx : Nat) (y : MethodName) : Prop := (Jvm.Cond.methodLink own idx y).before args s = true ∨ ∃ host : String, (Jvm.Cond.methodLinkNest own idx y host).before args s = true
/-- what a call needs of the words -/
def ab_okC (MD : Nat → ab_D) (vm : Nat → Bool) (cl : List vw_C) (ncs : List (String × String)) (en : Nat → String) (own : String) (s : State) (args : Array Value) (c : Code) (cc : ByteArray) (nL pc : Nat) (i : ab_I) : Prop := match i.1 with
  | .invokestatic idx => ∀ (y na : Nat) (hd : List Nat), i.2.2 = y :: na :: hd → vm y = true ∧ (parseMethodDescriptor (MD y).1.desc).map (fun q => q.parameters.length) = some na ∧ (Jvm.Cond.static (MD y).1).before args s = true ∧
      (((MD y).2.2.2.2 = [] ∧ ab_lk own s args idx (MD y).1) ∨ ((MD y).2.2.2.2 ≠ [] ∧ (Jvm.Cond.methodLink own idx (MD y).1).before args s = true)) ∧ ∀ e p k, (ab_hs hd).lookup e = some (p, k) → ab_hw ncs en own s args c cc nL pc e p k
  | .invokevirtual idx => ∀ (y na ci : Nat) (hd : List Nat), i.2.2 = y :: na :: ci :: hd → vm y = true ∧ 1 ≤ na ∧ (parseMethodDescriptor (MD y).1.desc).map (fun q => q.parameters.length) = some (na - 1) ∧ (Jvm.Cond.instanceMethod (MD y).1).before args s = true ∧ (MD y).2.2.2.2 = [] ∧ ab_lk own s args idx (MD y).1 ∧
      (∃ q : vw_C, cl[ci]? = some q ∧ (Jvm.Cond.selects q.1 (MD y).1 (MD y).1).before args s = true) ∧ ∀ e p k, (ab_hs hd).lookup e = some (p, k) → ab_hw ncs en own s args c cc nL pc e p k
  | .invokespecial idx => ∀ (y na : Nat) (hd : List Nat), i.2.2 = y :: na :: hd → vm y = true ∧ 1 ≤ na ∧ (parseMethodDescriptor (MD y).1.desc).map (fun q => q.parameters.length) = some (na - 1) ∧ (Jvm.Cond.instanceMethod (MD y).1).before args s = true ∧ (MD y).2.2.2.2 = [] ∧ (MD y).1.name = "<init>" ∧ (MD y).2.2.2.1 = none ∧ ab_lk own s args idx (MD y).1 ∧
      ∀ e p k, (ab_hs hd).lookup e = some (p, k) → ab_hw ncs en own s args c cc nL pc e p k
  | _ => True
/-- what is asked of a callee once -/
def ab_okD (MD : Nat → ab_D) (Wl : List Jvm.Cond) (vm : Nat → Bool) : Prop := ∀ y, vm y = true → (MD y).2.2.1 ≤ 60 ∧ plainName (MD y).1.cls = true ∧ ((MD y).1.cls ≠ "java/lang/invoke/MethodHandle" ∧ (MD y).1.cls ≠ "java/lang/invoke/VarHandle") ∧ ab_cd (MD y) ∈ Wl ∧ Jvm.Cond.initialized (MD y).1.cls ∈ Wl
section ABC
variable {cl : List vw_C} {D : va_G} {E : Nat → ClassId} {ks : Nat → Bool} {aty : Nat → FieldType} {base : Nat} {Hb : Heap} {ncs : List (String × String)} {srs : List (String × Nat × String)} {sts : List (String × String × String × Value)} {MD : Nat → ab_D} {Wl : List Jvm.Cond} {en : Nat → String} {vm : Nat → Bool}
variable {nL : Nat} {p : Program} {l : Launch} {e : Env} {R : Room} {s : State} {m : MethodId} {args : Array Value} {below : List Frame} {meth : Method} {c : Code} {Q : State → Prop} {c0 s0 d y : Nat}
theorem ab_back (hD : ab_okD MD Wl vm) (hy : vm y = true) (hWk : ∀ w ∈ Wl, ab_kp w = true) (hws : ∀ w ∈ Wl, w.before args s = true) {as : List Value} {h h1 : ab_H} {r : ab_R} (hC : ab_Ct l MD Wl en cl D E ks aty base Hb ncs srs sts d y as h r h1) (hRf : d + 11 ≤ R.frames) (hRl : 100 * d + 300 ≤ R.locals) :
    vx_Back l R p e below s args (MD y).1 3 8 (PreOf R (h1.2.1 - h.2.1) (h1.2.2 - h.2.2) (ab_Pc cl D E ks aty base Hb ncs srs sts as h)) (PostOf (ab_Qc cl D E ks base Hb r h1) (h1.2.1 - h.2.1) (h1.2.2 - h.2.2) (fun q => base ≤ q)) (vx_Post (ab_XC cl D E ks base Hb en r h1) (h1.2.1 - h.2.1) (h1.2.2 - h.2.2) (fun q => base ≤ q)) := by
  obtain ⟨h60, -, -, hcd, hin⟩ := hD y hy
  have hw2 : ∀ w ∈ ab_cd (MD y) :: Wl, ∀ (a' : Array Value) (U : State), s.WarmedH U.vm → w.before a' U = true := by
    intro w hw a' U hW
    rcases List.mem_cons.mp hw with rfl | hw
    · exact ab_kept (hWk _ hcd) hW (hws _ hcd)
    · exact ab_kept (hWk _ hw) hW (hws _ hw)
  have hini : ∀ (a' : Array Value) (U : State), s.WarmedH U.vm → (Jvm.Cond.initialized (MD y).1.cls).before a' U = true := fun a' U hW => ab_kept (hWk _ hin) hW (hws _ hin)
  cases ht : (MD y).2.2.2.2 with
  | nil =>
    refine vx_back (bytes := (MD y).2.1) (maxL := (MD y).2.2.1) (ret := (MD y).2.2.2.1) hC ab_Pc_blind rfl rfl hRf (by show 8 + ((MD y).2.2.1 + 11) + (100 * d + 200) ≤ R.locals; omega) hw2 ?_ hini
    have : ab_cd (MD y) = .code (MD y).1 (MD y).2.1 (MD y).2.2.1 (MD y).2.2.2.1 := by unfold ab_cd; rw [ht]
    rw [← this]
    exact List.mem_cons_self
  | cons t q =>
    refine vx_backW (bytes := (MD y).2.1) (maxL := (MD y).2.2.1) (ret := (MD y).2.2.2.1) (hh := t :: q) hC ab_Pc_blind rfl rfl hRf (by show 8 + ((MD y).2.2.1 + 11) + (100 * d + 200) ≤ R.locals; omega) hw2 ?_ hini
    have : ab_cd (MD y) = .codeWith (MD y).1 (MD y).2.1 (MD y).2.2.1 (MD y).2.2.2.1 (t :: q) := by unfold ab_cd; rw [ht]
    rw [← this]
    exact List.mem_cons_self
/-- what a call's row gives -/
def ab_CR (p : Program) (l : Launch) (e : Env) (R : Room) (s : State) (m : MethodId) (args : Array Value) (below : List Frame) (meth : Method) (c : Code) (T : State) (locs : List Loc) (cells slots : Nat) (g : JFrame) (rest : List Value) (a : Array Value) (Post : Pt → Array Value → Option Value → Pt → Prop) (PostX : Pt → Array Value → Addr → Pt → Prop) : Prop :=
  (∃ (v : Option Value) (vm₁ : Vm) (B : Pt), s.WarmedH vm₁ ∧ Stand p l e R s m args below meth c B.U B.locs B.cells B.slots ∧ Post ⟨T.setVm vm₁, locs, cells, slots⟩ a v B ∧
      ∀ target, Steps p.tables e below (B.U.setTop { g with pc := g.pc + 3, stack := v.toList ++ rest }) target → Steps p.tables e below (T.setTop g) target) ∨
  (∃ (q : Addr) (vm₁ : Vm) (B : Pt), s.WarmedH vm₁ ∧ Stand p l e R s m args below meth c B.U B.locs B.cells B.slots ∧ PostX ⟨T.setVm vm₁, locs, cells, slots⟩ a q B ∧
      Steps p.tables e below (T.setTop g) ((B.U.setTop { g with stack := rest }).pushFrame (.throwing q)))
theorem ab_clr {ls' : Array Slot} {k : Nat} {lo : ab_L} {q : Nat} (hl : lo.length = nL) (h9 : lv_has ls' nL ((k, Value.ref q) :: (ab_prs lo).filter (fun q => !(q.1 == k) && !(q.1 + 1 == k && q.2.category == 2)))) : ab_LR ls' nL ((ab_sto lo k .null).set k none) := by
  obtain ⟨a1, a2, a3, a4⟩ := ab_LR.st1 hl h9
  refine ⟨by rw [List.length_set, ab_sto_len]; exact hl, a2, a3, fun i v hi => ?_⟩
  rw [List.getElem?_set] at hi
  split at hi
  · split at hi
    · cases hi
    · cases hi
  · rename_i hne
    rcases ab_sto_in lo k .null i v hi with ⟨e, -⟩ | ⟨e1, e2, e3, e4⟩
    · exact absurd e.symm hne
    · refine h9.2.2 (i, v) (List.mem_cons_of_mem _ (List.mem_filter.mpr ⟨ab_prs_in.mpr e2, ?_⟩))
      have f1 : (i == k) = false := by simpa using e1
      by_cases g2 : i + 1 = k
      · have f3 : (v.category == 2) = false := by
          have : ¬ v.category = 2 := fun q => e3 ⟨g2, q⟩
          simpa using this
        simp [f1, f3]
      · have f3 : (i + 1 == k) = false := by simpa using g2
        simp [f1, f3]
theorem ab_after {cc : ByteArray} {own : String} (hx : p.tables.exec = Jvm.exec) (hb : c.code = cc) (hown : s.vm.findClass own = some m.cls) (hnc : ∀ q ∈ ncs, va_Nc q.1 q.2 s) {ls : Array Slot} {locs : List Loc} {lo : ab_L} {h h1 : ab_H} {r : ab_R} {pc : Nat} {st rest : List Value} {hs : List (Nat × Nat × Nat)} {a : Array Value} (hl : ab_LR ls nL lo) (hlo : ∀ q ∈ locs, base ≤ q.base)
    (hc0 : c0 ≤ h.2.1) (hs0 : s0 ≤ h.2.2) (hle : ab_le h h1) (hh : ∀ e p k, hs.lookup e = some (p, k) → ab_hw ncs en own s args c cc nL pc e p k)
    (kk : ab_bk (ab_Wn cl D E ks base Hb nL p l e R s m args below meth c Q c0 s0) (pc + 3) lo rest hs r h1) {T : State}
    (hCR : ab_CR p l e R s m args below meth c T locs (h.2.1 - c0) (h.2.2 - s0) (F0 m pc ls st) rest a (PostOf (ab_Qc cl D E ks base Hb r h1) (h1.2.1 - h.2.1) (h1.2.2 - h.2.2) (fun q => base ≤ q)) (vx_Post (ab_XC cl D E ks base Hb en r h1) (h1.2.1 - h.2.1) (h1.2.2 - h.2.2) (fun q => base ≤ q))) : ∃ t, Steps p.tables e below (T.setTop (F0 m pc ls st)) t ∧ Q t := by
  have e1 : h.2.1 - c0 + (h1.2.1 - h.2.1) = h1.2.1 - c0 := by have := hle.1; omega
  have e2 : h.2.2 - s0 + (h1.2.2 - h.2.2) = h1.2.2 - s0 := by have := hle.2; omega
  rcases hCR with ⟨v, vm₁, ⟨U', l2, c2, s2⟩, hW₁, X', ⟨g', mk, t, L, w1, w2, ⟨v', hr, ho, hRl⟩, q1, hL, q2, q3⟩, st9⟩ | ⟨q, vm₁, ⟨U', l2, c2, s2⟩, hW₁, X', ⟨g', mk, t, L, Ex, ce, w1, w2, ⟨ex, hr, hE, hRl⟩, hce, hcv, hcl, q1, hL, q2, q3⟩, st9⟩
  · dsimp only [Pt.U, Pt.locs, Pt.cells, Pt.slots] at X' w1 w2 q1 q2 q3 st9
    subst q1; subst q2; subst q3
    cases ho
    subst hr
    rw [e1, e2] at X'
    rw [← w1] at hRl
    have k2 : ab_Wn cl D E ks base Hb nL p l e R s m args below meth c Q c0 s0 (pc + 3) lo (v.toList ++ rest) h1 := kk
    obtain ⟨t2, b1, b2⟩ := k2 ls U'.heap (locs ++ L) hl hRl (fun q hq => (List.mem_append.mp hq).elim (hlo q) (hL q)) U' rfl X'
    exact ⟨t2, st9 t2 b1, b2⟩
  · dsimp only [Pt.U, Pt.locs, Pt.cells, Pt.slots] at X' w1 w2 q1 q2 q3 st9 hcl
    subst q1; subst q2; subst q3
    subst hr; subst hE
    rw [e1, e2] at X'
    rw [← w1] at hRl hce
    have k2 : ab_hd (ab_Wn cl D E ks base Hb nL p l e R s m args below meth c Q c0 s0) lo h1 (hs.lookup ex) := kk
    cases hlk : hs.lookup ex with
    | none => rw [hlk] at k2; exact k2.elim
    | some pk =>
      rw [hlk] at k2
      obtain ⟨p9, k9⟩ := pk
      obtain ⟨pre, suf, x, name, g1, g2, g3, g4, g5, g6, g7, g8⟩ := hh _ _ _ hlk
      have hloc : ∀ q ∈ locs ++ L, base ≤ q.base := fun q hq => (List.mem_append.mp hq).elim (hlo q) (hL q)
      have kW : W p l e R s m args below meth c U'.heap (locs ++ L) (h1.2.1 - c0) (h1.2.2 - s0) Q (F0 m x.handlerPc ls [.ref q]) := by
        rcases g8 with ⟨d1, d2⟩ | ⟨f, d0, d1, d2⟩
        · refine lv_astore hx hb d1 hl.has g7 rfl (fun ls1 h9 => ?_)
          have := k2 ls1 U'.heap (locs ++ L) (ab_clr hl.1 h9) hRl hloc
          rw [d2] at this
          exact this
        · refine lv_astore_n hx hb d1 d0 hl.has g7 rfl (fun ls1 h9 => ?_)
          have := k2 ls1 U'.heap (locs ++ L) (ab_clr hl.1 h9) hRl hloc
          rw [d2] at this
          exact this
      obtain ⟨t2, b1, b2⟩ := vx_catch (E := en ex) (pc := pc) (rest := rest) hown pre x suf g1 (fun z hz => (g2 z hz).imp id fun ⟨z1, nm, z2, z3⟩ => ⟨z1, nm, z2, hnc _ z3⟩) g3 g4 g5 g6 hce hcv (vx_cls hW₁ hcl) kW U' rfl X'
      exact ⟨t2, st9.trans b1, b2⟩
end ABC
