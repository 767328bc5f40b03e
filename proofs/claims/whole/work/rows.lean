section
/-! ===== BEGIN words of one list among another's, by their places ===== -/
theorem goodIn_r {big : List Cond} (ws : List Cond) (ps : List Nat) (hp : ws = ps.filterMap (fun i => big[i]?)) (h : ws.all goodWord = true) : GoodIn big ws := by
  intro w hw
  have h1 := List.all_eq_true.mp h w hw
  rw [hp] at hw
  obtain ⟨i, -, hi⟩ := List.mem_filterMap.mp hw
  have hm : w ∈ big := by first | exact List.mem_of_getElem? hi | exact List.getElem?_mem hi
  exact ⟨hm, good_of_word h1⟩
theorem goodIn_app {big a b : List Cond} (ha : GoodIn big a) (hb : GoodIn big b) : GoodIn big (a ++ b) := fun w h => (List.mem_append.mp h).elim (ha w) (hb w)
theorem goodIn_ca {big a b : List Cond} {c : Cond} (ha : GoodIn big (c :: a)) (hb : GoodIn big b) : GoodIn big (c :: (a ++ b)) := fun w h => (List.mem_cons.mp h).elim (fun e => ha w (List.mem_cons.mpr (Or.inl e))) (fun h => (List.mem_append.mp h).elim (fun h => ha w (List.mem_cons.mpr (Or.inr h))) (hb w))
theorem goodIn_sub {big ws : List Cond} (hm : ∀ w ∈ ws, w ∈ big) (h : ws.all goodWord = true) : GoodIn big ws := fun w hw => ⟨hm w hw, good_of_word (List.all_eq_true.mp h w hw)⟩
/-! ===== END ===== -/
/-! ===== BEGIN exceptions that leave a method, and their catching by the caller (launches without stack traces) ===== -/
section VXA
/-! The laws vx_back, vx_callV, vx_callS, vx_callSW, vx_throw0, vx_throwS follow proofs of the library, with one case more: JvmDerived/Free/Laws.lean (Back.of_free), Shelf42/LK1.lean (callV, callS), Shelf/KitTraced.lean (throwNew0V, throwNewS). -/
/-- where a method has thrown q: the class by its name, the cell, what was written, the world -/
def vx_T (XC : String → State → State → Prop) (st : State) (q : Addr) (t : State) (mc ms : Nat) (free : Addr → Prop) : Prop :=
  ∃ (E : String) (ce : Cell) (L : List Loc), XC E st t ∧ t.heap[q]? = some ce ∧ ce.vm = .none ∧ st.vm.findClass E = some ce.cls ∧ st.WarmedH t.vm ∧ st.sameButNew ({ t with vm := st.vm } : State) L mc ms ∧ ∀ z ∈ L, free z.base
def vx_Q (Qc : Array Value → State → Outcome → State → Prop) (XC : String → State → State → Prop) (mc ms : Nat) (free : Addr → Prop) : Array Value → State → Outcome → State → Prop := fun a st o t =>
  (Qc a st o t ∧ ∃ L, FrameEnd st o t L mc ms ∧ ∀ q ∈ L, free q.base) ∨ ∃ q, o = .threw q ∧ vx_T XC st q t mc ms free
/-- a callee that returns or throws -/
def vx_Met (l : Launch) (y : MethodName) (ws : List Cond) (rm : Room) (Pc : Array Value → State → Prop) (Qc : Array Value → State → Outcome → State → Prop) (XC : String → State → State → Prop) (mc ms : Nat) (free : Addr → Prop) : Prop :=
  MetFree l y (headSpec ws rm) Pc (fun _ _ _ _ _ => True) (vx_Q Qc XC mc ms free)
def vx_Post (XC : String → State → State → Prop) (mc ms : Nat) (free : Addr → Prop) : Pt → Array Value → Addr → Pt → Prop := fun A a q B =>
  ∃ (g : JFrame) (mk : MethodId) (t : State) (L : List Loc) (E : String) (ce : Cell), B.U.heap = t.heap ∧ B.U.vm = t.vm ∧ XC E (A.U.calling g mk a) t ∧ t.heap[q]? = some ce ∧ ce.vm = .none ∧ A.U.vm.findClass E = some ce.cls ∧ B.locs = A.locs ++ L ∧ (∀ z ∈ L, free z.base) ∧ B.cells = A.cells + mc ∧ B.slots = A.slots + ms
def vx_Back (l : Launch) (R : Room) (p : Program) (e : Env) (below : List Frame) (s : State) (sargs : Array Value) (y : MethodName) (len W9 : Nat)
    (Pre : Pt → Array Value → Prop) (Post : Pt → Array Value → Option Value → Pt → Prop) (PostX : Pt → Array Value → Addr → Pt → Prop) : Prop :=
  ∀ (m : MethodId) (meth : Method) (c : Code) (A : Pt) (g : JFrame) (ig : Instr) (mk : MethodId) (a : Array Value),
    Stand p l e R s m sargs below meth c A.U A.locs A.cells A.slots → g.method = m → g.locals.size = c.maxLocals → decode c.code g.pc = .ok (ig, len) →
    2 * g.monitorRoom + (g.stack.map fun v => v.category).sum ≤ W9 → A.U.methodNamed? y = some mk → Pre A a →
    (∃ (v : Option Value) (B : Pt), Stand p l e R s m sargs below meth c B.U B.locs B.cells B.slots ∧ Post A a v B ∧
      Steps p.tables e below (doInvoke e (A.U.setTop g) [] mk a).1 (B.U.setTop { g with pc := g.pc + len, stack := v.toList ++ g.stack })) ∨
    (∃ (q : Addr) (B : Pt), Stand p l e R s m sargs below meth c B.U B.locs B.cells B.slots ∧ PostX A a q B ∧
      Steps p.tables e below (doInvoke e (A.U.setTop g) [] mk a).1 ((B.U.setTop g).pushFrame (.throwing q)))
section Payer
variable {l : Launch} {R : Room} {p : Program} {e : Env} {below : List Frame} {s : State} {sargs : Array Value} {y : MethodName} {len W9 : Nat}
theorem vx_back {ws : List Cond} {rm : Room} {Pc : Array Value → State → Prop} {Qc : Array Value → State → Outcome → State → Prop} {XC : String → State → State → Prop} {mc ms : Nat} {free : Addr → Prop} {bytes : ByteArray} {maxL : Nat} {ret : Option FieldType}
    (hM : vx_Met l y ws rm Pc Qc XC mc ms free) (hblind : FrameBlind Pc) (hrc : rm.cells = mc) (hrs : rm.slots = ms)
    (hframes : rm.frames + 1 ≤ R.frames) (hlocals : W9 + (maxL + 11) + rm.locals ≤ R.locals)
    (hws : ∀ w ∈ ws, ∀ a' U, s.WarmedH U.vm → w.before a' U = true) (hcode : Cond.code y bytes maxL ret ∈ ws) (hinit : ∀ a' U, s.WarmedH U.vm → (Cond.initialized y.cls).before a' U = true) :
    vx_Back l R p e below s sargs y len W9 (PreOf R mc ms Pc) (PostOf Qc mc ms free) (vx_Post XC mc ms free) := by
  intro m meth c A g ig mk a X hg hsize hdg hW hn hp
  have h1 : (headSpec ws rm).pre.before a A.U = true := atoms_intro fun w hw => hws w hw _ _ X.warmed
  have h2 : (Cond.code y bytes maxL ret).before a A.U = true := hws _ hcode _ _ X.warmed
  have h3 : (Cond.initialized y.cls).before a A.U = true := hinit _ _ X.warmed
  have h4 : A.cells + (headSpec ws rm).room.cells ≤ R.cells := by rw [show (headSpec ws rm).room.cells = mc from hrc]; exact hp.1
  have h5 : A.slots + (headSpec ws rm).room.slots ≤ R.slots := by rw [show (headSpec ws rm).room.slots = ms from hrs]; exact hp.2.1
  have hPc : Pc a (A.U.calling g mk a) := hblind _ _ _ _ hp.2.2
  obtain ⟨U, Ls, c0, s0⟩ := A
  dsimp only [Pt.U, Pt.locs, Pt.cells, Pt.slots] at h1 h2 h3 h4 h5 X hn hPc ⊢
  obtain ⟨methY, cY, hmY, hcY, -, hlY, -, -, -, -⟩ := Cond.code_spec hn h2
  obtain ⟨kY, hkY, -⟩ := className_of_methodNamed hn
  have hinitY : kY.init = .initialized := Cond.initialized_spec (findClass_of_methodNamed hn) hkY h3
  have h : At U g.method c below := by rw [hg]; exact X.here
  have hlocals9 : W9 + (maxL + 11) + (headSpec ws rm).room.locals ≤ R.locals := hlocals
  have happ : (headSpec ws rm).appliesLoose y e.platform (U.calling g mk a) = true :=
    Spec.appliesLoose_calling (g := g) h hdg hn hkY hinitY
      (X.room_calling (g := g) (R' := (headSpec ws rm).room) hsize hmY hcY hframes (by rw [hlY]; omega) h4 h5) h1
  obtain ⟨mid, hmid⟩ := h.above
  have hfr : (U.setTop g).frames = (.java g :: mid) ++ below := by rw [State.frames_setTop' g h.top, hmid]; rfl
  obtain ⟨o, s₂, hsteps, -, hend, hq⟩ := Steps.callFree hM p X.admits X.cas X.clock (acts := []) hfr happ hPc trivial
  have hq' : vx_Q Qc XC mc ms free a (U.calling g mk a) o s₂ := hq
  rw [State.frames_setTop' g h.top] at hend
  obtain ⟨g₀, hg0⟩ := Option.isSome_iff_exists.mp h.top
  obtain ⟨r, hr⟩ := State.topJava?_eq_some.mp hg0
  have hr' : (({ U with heap := s₂.heap, slotsUsed := s₂.slotsUsed } : State).setVm s₂.vm).frames = .java g₀ :: r := hr
  rcases hq' with ⟨hqc, L, hfe, hL⟩ | ⟨q, rfl, E, ce, L, hx, hce, hcv, hcl, hW₂, hsm, hL⟩
  · obtain ⟨⟨v, rfl⟩, hW₂, e2, q2, q3, q4, q5, q6⟩ := id hfe
    have e3 : s₂ = ({ (U.calling g mk a).setFrames s₂.frames with heap := s₂.heap, slotsUsed := s₂.slotsUsed } : State).setVm s₂.vm := by
      have : s₂ = ({ s₂ with vm := (U.calling g mk a).vm } : State).setVm s₂.vm := rfl
      rw [e2] at this
      exact this
    obtain ⟨c₂, i₂, len₂, hc₂, hd₂, hf₂⟩ := hend
    have hW' : U.WarmedH s₂.vm := hW₂
    have hcc : c₂ = c := by
      have h1 : s₂.code? g.method = U.code? g.method := by
        rw [State.code?_eq, State.code?_eq, hW'.alike.method?]
      exact Option.some.inj (hc₂.symm.trans (h1.trans h.code))
    subst hcc
    have hlen : len₂ = len := by rw [hdg] at hd₂; cases hd₂; rfl
    subst hlen
    have hs₂ : s₂ = (({ U with heap := s₂.heap, slotsUsed := s₂.slotsUsed } : State).setVm s₂.vm).setTop { g with pc := g.pc + len₂, stack := v.toList ++ g.stack } := by
      refine e3.trans ?_
      rw [hf₂, State.calling_eq h.top, State.setFrames_setFrames, State.setTop_of_frames _ hr', hr]
      rfl
    have hsame : U.sameButNew ({ U with heap := s₂.heap, slotsUsed := s₂.slotsUsed } : State) L mc ms := by
      refine ⟨?_, q2, q3, q4, q5, q6⟩
      obtain ⟨t, ht, -⟩ := State.frames_cons hr
      show ({ U with heap := s₂.heap, slotsUsed := s₂.slotsUsed } : State) = { U.setFrames U.frames with heap := s₂.heap, slotsUsed := s₂.slotsUsed }
      rw [State.setFrames_self ht]
    subst hg
    refine Or.inl ⟨v, ⟨(({ U with heap := s₂.heap, slotsUsed := s₂.slotsUsed } : State).setVm s₂.vm), Ls ++ L, c0 + mc, s0 + ms⟩,
      ⟨X.admits, X.cas, X.clock, X.frames, X.room, X.hears, X.method, X.code, (X.here.setHeapUsed s₂.heap s₂.slotsUsed).setVm hW'.alike, X.tail, State.WarmedH.trans X.warmed hW', X.limits, X.bytes, X.same.trans (hsame.setVm s.vm)⟩,
      ⟨g, mk, s₂, L, rfl, rfl, hqc, rfl, hL, rfl, rfl⟩, ?_⟩
    show Steps p.tables e below _ ((({ U with heap := s₂.heap, slotsUsed := s₂.slotsUsed } : State).setVm s₂.vm).setTop { g with pc := g.pc + len₂, stack := v.toList ++ g.stack })
    rw [← hs₂]
    exact hsteps
  · obtain ⟨e2, q2, q3, q4, q5, q6⟩ := id hsm
    have e3 : s₂ = ({ (U.calling g mk a).setFrames s₂.frames with heap := s₂.heap, slotsUsed := s₂.slotsUsed } : State).setVm s₂.vm := by
      have : s₂ = ({ s₂ with vm := (U.calling g mk a).vm } : State).setVm s₂.vm := rfl
      rw [e2] at this
      exact this
    have hf₂ : s₂.frames = .throwing q :: .java g :: U.frames.tail := hend
    have hW' : U.WarmedH s₂.vm := hW₂
    have hs₂ : s₂ = ((({ U with heap := s₂.heap, slotsUsed := s₂.slotsUsed } : State).setVm s₂.vm).setTop g).pushFrame (.throwing q) := by
      refine e3.trans ?_
      rw [hf₂, State.calling_eq h.top, State.setFrames_setFrames, State.pushFrame, State.frames_setTop _ hr', State.setTop_of_frames _ hr', State.setFrames_setFrames, hr]
      rfl
    have hsame : U.sameButNew ({ U with heap := s₂.heap, slotsUsed := s₂.slotsUsed } : State) L mc ms := by
      refine ⟨?_, q2, q3, q4, q5, q6⟩
      obtain ⟨t, ht, -⟩ := State.frames_cons hr
      show ({ U with heap := s₂.heap, slotsUsed := s₂.slotsUsed } : State) = { U.setFrames U.frames with heap := s₂.heap, slotsUsed := s₂.slotsUsed }
      rw [State.setFrames_self ht]
    subst hg
    refine Or.inr ⟨q, ⟨(({ U with heap := s₂.heap, slotsUsed := s₂.slotsUsed } : State).setVm s₂.vm), Ls ++ L, c0 + mc, s0 + ms⟩,
      ⟨X.admits, X.cas, X.clock, X.frames, X.room, X.hears, X.method, X.code, (X.here.setHeapUsed s₂.heap s₂.slotsUsed).setVm hW'.alike, X.tail, State.WarmedH.trans X.warmed hW', X.limits, X.bytes, X.same.trans (hsame.setVm s.vm)⟩,
      ⟨g, mk, s₂, L, E, ce, rfl, rfl, hx, hce, hcv, hcl, rfl, hL, rfl, rfl⟩, ?_⟩
    show Steps p.tables e below _ (((({ U with heap := s₂.heap, slotsUsed := s₂.slotsUsed } : State).setVm s₂.vm).setTop g).pushFrame (.throwing q))
    rw [← hs₂]
    exact hsteps
end Payer
section Calls
variable {p : Program} {l : Launch} {e : Env} {R : Room} {s : State} {m : MethodId} {args : Array Value} {below : List Frame} {meth : Method} {c : Code} {T : State} {locs : List Loc} {cells slots : Nat}
theorem vx_callV (X : Stand p l e R s m args below meth c T locs cells slots) (hexec : p.tables.exec = Jvm.exec) {own C : String} {index : Nat} {y : MethodName} {bytes : ByteArray} {maxL : Nat} {ret : Option FieldType}
    (hown : s.vm.findClass own = some m.cls) (hlink : (Cond.methodLink own index y).before args s = true) (hinst : (Cond.instanceMethod y).before args s = true) (hsel : (Cond.selects C y y).before args s = true)
    (hcode : (Cond.code y bytes maxL ret).before args s = true) (hy : y.cls ≠ "java/lang/invoke/MethodHandle" ∧ y.cls ≠ "java/lang/invoke/VarHandle")
    {W9 : Nat} {Pre : Pt → Array Value → Prop} {Post : Pt → Array Value → Option Value → Pt → Prop} {PostX : Pt → Array Value → Addr → Pt → Prop} (hK : vx_Back l R p e below s args y 3 W9 Pre Post PostX)
    {b : Addr} {cellB : Cell} (hcell : T.heap[b]? = some cellB) (hobj : cellB.vm.isStatics = false) (hcls : s.vm.findClass C = some cellB.cls)
    {g : JFrame} (hg : g.method = m) (hsize : g.locals.size = c.maxLocals) {argsL rest : List Value} (hlen : ∀ sig, parseMethodDescriptor y.desc = some sig → argsL.length = sig.parameters.length)
    (hstack : g.stack = argsL.reverse ++ .ref b :: rest) (hW : 2 * g.monitorRoom + (rest.map fun v => v.category).sum ≤ W9) (hdg : decode c.code g.pc = .ok (.invokevirtual index, 3))
    (hpre : ∀ vm₁, s.WarmedH vm₁ → Pre ⟨T.setVm vm₁, locs, cells, slots⟩ (Value.ref b :: argsL).toArray) :
    (∃ (v : Option Value) (vm₁ : Vm) (B : Pt), s.WarmedH vm₁ ∧ Stand p l e R s m args below meth c B.U B.locs B.cells B.slots ∧ Post ⟨T.setVm vm₁, locs, cells, slots⟩ (Value.ref b :: argsL).toArray v B ∧
      ∀ target, Steps p.tables e below (B.U.setTop { g with pc := g.pc + 3, stack := v.toList ++ rest }) target → Steps p.tables e below (T.setTop g) target) ∨
    (∃ (q : Addr) (vm₁ : Vm) (B : Pt), s.WarmedH vm₁ ∧ Stand p l e R s m args below meth c B.U B.locs B.cells B.slots ∧ PostX ⟨T.setVm vm₁, locs, cells, slots⟩ (Value.ref b :: argsL).toArray q B ∧
      Steps p.tables e below (T.setTop g) ((B.U.setTop { g with stack := rest }).pushFrame (.throwing q))) := by
  obtain ⟨mk, methM, hnamed, hmethM, hstM, habM⟩ := Cond.instanceMethod_spec hinst
  obtain ⟨methM', cM, hmethM', -, -, -, -, -, -, hsigM⟩ := Cond.code_spec hnamed hcode
  cases hmethM.symm.trans hmethM'
  obtain ⟨c2, r2, m2, q1, q2, q3, q4, kP, hkP, hkPi⟩ := Cond.selects_spec hsel
  cases hcls.symm.trans q1
  cases (State.methodFound?_of_named hnamed hy).symm.trans q2
  cases hnamed.symm.trans q3
  have hselP : selectMethod e.platform s.vm cellB.cls mk = .method mk := by rw [Launch.admits_selectMethod X.admits]; exact q4
  obtain ⟨vm₁, X₁, hstep₁⟩ := X.invokevirtual hexec hown hlink hnamed hmethM hstM hkP hkPi hy (a := b) (cell := cellB) hcell
    (fun z h => by rw [h] at hobj; cases hobj) hselP hmethM habM hkP hkPi (g := g) hg (argsL := argsL) (rest := rest) (hlen _ hsigM) hstack hdg
  rcases hK m meth c ⟨T.setVm vm₁, locs, cells, slots⟩ { g with stack := rest } (.invokevirtual index) mk (Value.ref b :: argsL).toArray X₁ hg hsize hdg hW (X₁.named hnamed) (hpre vm₁ X₁.warmed) with ⟨v, B, X', hpost, hsteps⟩ | ⟨q, B, X', hpost, hsteps⟩
  · exact Or.inl ⟨v, vm₁, B, X₁.warmed, X', hpost, fun target h => hstep₁ _ fun acts => by rw [doInvoke_state]; exact hsteps.trans h⟩
  · exact Or.inr ⟨q, vm₁, B, X₁.warmed, X', hpost, hstep₁ _ fun acts => by rw [doInvoke_state]; exact hsteps⟩
theorem vx_callS (X : Stand p l e R s m args below meth c T locs cells slots) (hexec : p.tables.exec = Jvm.exec) {own : String} {index : Nat} {y : MethodName} {bytes : ByteArray} {maxL : Nat} {ret : Option FieldType}
    (hown : s.vm.findClass own = some m.cls) (hlink : (Cond.methodLink own index y).before args s = true) (hstat : (Cond.static y).before args s = true) (hinit : (Cond.initialized y.cls).before args s = true)
    (hcode : (Cond.code y bytes maxL ret).before args s = true) (hy : y.cls ≠ "java/lang/invoke/MethodHandle" ∧ y.cls ≠ "java/lang/invoke/VarHandle")
    {W9 : Nat} {Pre : Pt → Array Value → Prop} {Post : Pt → Array Value → Option Value → Pt → Prop} {PostX : Pt → Array Value → Addr → Pt → Prop} (hK : vx_Back l R p e below s args y 3 W9 Pre Post PostX)
    {g : JFrame} (hg : g.method = m) (hsize : g.locals.size = c.maxLocals) {argsL rest : List Value} (hlen : ∀ sig, parseMethodDescriptor y.desc = some sig → argsL.length = sig.parameters.length)
    (hstack : g.stack = argsL.reverse ++ rest) (hW : 2 * g.monitorRoom + (rest.map fun v => v.category).sum ≤ W9) (hdg : decode c.code g.pc = .ok (.invokestatic index, 3))
    (hpre : ∀ vm₁, s.WarmedH vm₁ → Pre ⟨T.setVm vm₁, locs, cells, slots⟩ argsL.toArray) :
    (∃ (v : Option Value) (vm₁ : Vm) (B : Pt), s.WarmedH vm₁ ∧ Stand p l e R s m args below meth c B.U B.locs B.cells B.slots ∧ Post ⟨T.setVm vm₁, locs, cells, slots⟩ argsL.toArray v B ∧
      ∀ target, Steps p.tables e below (B.U.setTop { g with pc := g.pc + 3, stack := v.toList ++ rest }) target → Steps p.tables e below (T.setTop g) target) ∨
    (∃ (q : Addr) (vm₁ : Vm) (B : Pt), s.WarmedH vm₁ ∧ Stand p l e R s m args below meth c B.U B.locs B.cells B.slots ∧ PostX ⟨T.setVm vm₁, locs, cells, slots⟩ argsL.toArray q B ∧
      Steps p.tables e below (T.setTop g) ((B.U.setTop { g with stack := rest }).pushFrame (.throwing q))) := by
  obtain ⟨mk, hnamed⟩ := Cond.code_named hcode
  obtain ⟨methM, cM, hmethM, -, -, -, -, -, -, hsigM⟩ := Cond.code_spec hnamed hcode
  have hstatic : methM.isStatic = true := Cond.static_spec hnamed hmethM hstat
  obtain ⟨kP, hkP, -⟩ := className_of_methodNamed hnamed
  have hinitP : kP.init = .initialized := Cond.initialized_spec (findClass_of_methodNamed hnamed) hkP hinit
  obtain ⟨vm₁, X₁, hstep₁⟩ := X.invokestatic hexec hown hlink hnamed hmethM hstatic hkP hinitP hy (g := g) hg (argsL := argsL) (rest := rest) (hlen _ hsigM) hstack hdg
  rcases hK m meth c ⟨T.setVm vm₁, locs, cells, slots⟩ { g with stack := rest } (.invokestatic index) mk argsL.toArray X₁ hg hsize hdg hW (X₁.named hnamed) (hpre vm₁ X₁.warmed) with ⟨v, B, X', hpost, hsteps⟩ | ⟨q, B, X', hpost, hsteps⟩
  · exact Or.inl ⟨v, vm₁, B, X₁.warmed, X', hpost, fun target h => hstep₁ _ fun acts => by rw [doInvoke_state]; exact hsteps.trans h⟩
  · exact Or.inr ⟨q, vm₁, B, X₁.warmed, X', hpost, hstep₁ _ fun acts => by rw [doInvoke_state]; exact hsteps⟩
end Calls
theorem vx_cls {s : State} {T : State} {vm₁ : Vm} {E : String} {k : ClassId} (hW : s.WarmedH vm₁) (h : (T.setVm vm₁).vm.findClass E = some k) : s.vm.findClass E = some k := by
  have h1 : vm₁.findClass E = some k := h
  rw [hW.alike.findClass] at h1
  exact h1
/-- the method's frame g, with q thrown over it -/
def vx_W (p : Program) (l : Launch) (e : Env) (R : Room) (s : State) (m : MethodId) (args : Array Value) (below : List Frame) (meth : Method) (c : Code) (H : Heap) (locs : List Loc) (cells slots : Nat) (Q : State → Prop) (g : JFrame) (q : Addr) : Prop :=
  ∀ T : State, T.heap = H → Stand p l e R s m args below meth c T locs cells slots → ∃ t, Steps p.tables e below ((T.setTop g).pushFrame (.throwing q)) t ∧ Q t
def vx_Run (p : Program) (l : Launch) (e : Env) (R : Room) (s : State) (m : MethodId) (args : Array Value) (below : List Frame) (meth : Method) (c : Code) (H : Heap) (locs : List Loc) (cells slots mc ms : Nat) (g : JFrame) (rest : List Value) (Qa : State → Outcome → State → Prop) (XC : String → State → State → Prop) (free : Addr → Prop) : Prop :=
  ∀ T : State, T.heap = H → Stand p l e R s m args below meth c T locs cells slots →
    (∃ (v : Option Value) (st₀ t T' : State) (L : List Loc), st₀.heap = H ∧ Stand p l e R s m args below meth c T' (locs ++ L) (cells + mc) (slots + ms) ∧ (∀ q ∈ L, free q.base) ∧ T'.heap = t.heap ∧ T'.vm = t.vm ∧ Qa st₀ (.returned v) t ∧
      Goes p e below T g T' { g with pc := g.pc + 3, stack := v.toList ++ rest }) ∨
    (∃ (q : Addr) (st₀ t T' : State) (L : List Loc) (E : String) (ce : Cell), st₀.heap = H ∧ Stand p l e R s m args below meth c T' (locs ++ L) (cells + mc) (slots + ms) ∧ (∀ z ∈ L, free z.base) ∧ T'.heap = t.heap ∧ T'.vm = t.vm ∧ XC E st₀ t ∧ t.heap[q]? = some ce ∧ ce.vm = .none ∧ s.vm.findClass E = some ce.cls ∧
      Steps p.tables e below (T.setTop g) ((T'.setTop { g with stack := rest }).pushFrame (.throwing q)))
def vx_X {S : Type} (px : S → Prop) (B : String → S → State → Prop) (A : Nat → Prop) : String → State → State → Prop := fun E st t => ∃ u : S, px u ∧ B E u t ∧ va_F A st t
section Runs
variable {p : Program} {l : Launch} {e : Env} {R : Room} {s : State} {m : MethodId} {args : Array Value} {below : List Frame} {meth : Method} {c : Code} {H : Heap} {locs : List Loc} {cells slots : Nat}
variable {y : MethodName} {bytes cc : ByteArray} {maxL nL mc ms n index : Nat} {ret : Option FieldType} {ws : List Cond} {rm : Room} {Pc : Array Value → State → Prop} {Qc : Array Value → State → Outcome → State → Prop} {XC : String → State → State → Prop} {free : Addr → Prop} {Ts : List Cond} {own C : String} {b : Addr} {As rest : List Value} {g : JFrame}
theorem vx_callBack (cb : CallB R s args own index y bytes maxL ret ws rm mc ms n) (hM : vx_Met l y ws rm Pc Qc XC mc ms free) (hbl : FrameBlind Pc) : vx_Back l R p e below s args y 3 8 (PreOf R mc ms Pc) (PostOf Qc mc ms free) (vx_Post XC mc ms free) := by
  obtain ⟨hrc, hrs, hfr, hlo, hws, hcw, -, hini, -⟩ := cb
  exact vx_back (bytes := bytes) (maxL := maxL) (ret := ret) hM hbl hrc hrs hfr hlo hws hcw (fun a' U hW => word_at hW (Or.inl (by first | rfl | simp [Cond.onTables, Cond.keeps, Cond.steady])) hini)
theorem vx_runV (S : CallFix p m c cc nL s args Ts own) (hM : vx_Met l y ws rm Pc Qc XC mc ms free) (cw : CallW R s args own C index y bytes maxL ret ws rm mc ms n) (hp : PreV s H C b Pc As)
    (hg : g.method = m) (hn : As.length = n) (hsize : g.locals.size = nL) (hstack : g.stack = As.reverse ++ .ref b :: rest) (hW : 2 * g.monitorRoom + (rest.map fun v => v.category).sum ≤ 8) (hdg : decode cc g.pc = .ok (.invokevirtual index, 3)) (hf : cells + mc ≤ R.cells ∧ slots + ms ≤ R.slots) :
    vx_Run p l e R s m args below meth c H locs cells slots mc ms g rest (Qc (Value.ref b :: As).toArray) XC free := by
  have hK : vx_Back l R p e below s args y 3 8 (PreOf R mc ms Pc) (PostOf Qc mc ms free) (vx_Post XC mc ms free) := vx_callBack cw.1 hM hp.1
  obtain ⟨⟨-, -, -, -, -, -, hcode, -, hy, hlen, hl⟩, hin, hse⟩ := cw
  obtain ⟨hx, hb, hml, ho, -⟩ := S
  obtain ⟨-, ⟨cellB, hcB, hoB, hclB⟩, hPc⟩ := hp
  intro T hT X
  rcases vx_callV X hx (C := C) (bytes := bytes) (maxL := maxL) (ret := ret) ho hl hin hse hcode hy hK (by rw [hT]; exact hcB) hoB hclB hg (hsize.trans hml.symm) (argsL := As) (rest := rest) (fun sig h => hn.trans (hlen sig h)) hstack hW (by rw [hb]; exact hdg)
    (fun vm₁ hW₁ => ⟨hf.1, hf.2, hPc (T.setVm vm₁) hT hW₁⟩) with ⟨v, vm₁, ⟨U', l2, c2, s2⟩, hW₁, X', ⟨g', mk, t, L, e1, e2, hq, h1, hL, h2, h3⟩, st⟩ | ⟨q, vm₁, ⟨U', l2, c2, s2⟩, hW₁, X', ⟨g', mk, t, L, E, ce, e1, e2, hq, hce, hcv, hcl, h1, hL, h2, h3⟩, st⟩
  · dsimp only [Pt.U, Pt.locs, Pt.cells, Pt.slots] at X' e1 e2 h1 h2 h3 st
    subst h1; subst h2; subst h3
    exact Or.inl ⟨v, (T.setVm vm₁).calling g' mk (Value.ref b :: As).toArray, t, U', L, hT, X', hL, e1, e2, hq, st⟩
  · dsimp only [Pt.U, Pt.locs, Pt.cells, Pt.slots] at X' e1 e2 h1 h2 h3 st hcl
    subst h1; subst h2; subst h3
    exact Or.inr ⟨q, (T.setVm vm₁).calling g' mk (Value.ref b :: As).toArray, t, U', L, E, ce, hT, X', hL, e1, e2, hq, hce, hcv, vx_cls hW₁ hcl, st⟩
theorem vx_runS (S : CallFix p m c cc nL s args Ts own) (hM : vx_Met l y ws rm Pc Qc XC mc ms free) (cw : CallB R s args own index y bytes maxL ret ws rm mc ms n ∧ (Cond.static y).before args s = true) (hp : PreS s H Pc As)
    (hg : g.method = m) (hn : As.length = n) (hsize : g.locals.size = nL) (hstack : g.stack = As.reverse ++ rest) (hW : 2 * g.monitorRoom + (rest.map fun v => v.category).sum ≤ 8) (hdg : decode cc g.pc = .ok (.invokestatic index, 3)) (hf : cells + mc ≤ R.cells ∧ slots + ms ≤ R.slots) :
    vx_Run p l e R s m args below meth c H locs cells slots mc ms g rest (Qc As.toArray) XC free := by
  have hK : vx_Back l R p e below s args y 3 8 (PreOf R mc ms Pc) (PostOf Qc mc ms free) (vx_Post XC mc ms free) := vx_callBack cw.1 hM hp.1
  obtain ⟨⟨-, -, -, -, -, -, hcode, hini, hy, hlen, hl⟩, hstt⟩ := cw
  obtain ⟨hx, hb, hml, ho, -⟩ := S
  intro T hT X
  rcases vx_callS X hx (bytes := bytes) (maxL := maxL) (ret := ret) ho hl hstt hini hcode hy hK hg (hsize.trans hml.symm) (argsL := As) (rest := rest) (fun sig h => hn.trans (hlen sig h)) hstack hW (by rw [hb]; exact hdg)
    (fun vm₁ hW₁ => ⟨hf.1, hf.2, hp.2 (T.setVm vm₁) hT hW₁⟩) with ⟨v, vm₁, ⟨U', l2, c2, s2⟩, hW₁, X', ⟨g', mk, t, L, e1, e2, hq, h1, hL, h2, h3⟩, st⟩ | ⟨q, vm₁, ⟨U', l2, c2, s2⟩, hW₁, X', ⟨g', mk, t, L, E, ce, e1, e2, hq, hce, hcv, hcl, h1, hL, h2, h3⟩, st⟩
  · dsimp only [Pt.U, Pt.locs, Pt.cells, Pt.slots] at X' e1 e2 h1 h2 h3 st
    subst h1; subst h2; subst h3
    exact Or.inl ⟨v, (T.setVm vm₁).calling g' mk As.toArray, t, U', L, hT, X', hL, e1, e2, hq, st⟩
  · dsimp only [Pt.U, Pt.locs, Pt.cells, Pt.slots] at X' e1 e2 h1 h2 h3 st hcl
    subst h1; subst h2; subst h3
    exact Or.inr ⟨q, (T.setVm vm₁).calling g' mk As.toArray, t, U', L, E, ce, hT, X', hL, e1, e2, hq, hce, hcv, vx_cls hW₁ hcl, st⟩
end Runs
section Rows
variable {p : Program} {l : Launch} {e : Env} {R : Room} {s : State} {m : MethodId} {args : Array Value} {below : List Frame} {meth : Method} {c : Code} {H : Heap} {locs : List Loc} {cells slots : Nat} {Q : State → Prop}
variable {mc ms : Nat} {free : Addr → Prop} {A0 A1 : Nat → Prop} {H0 : Heap} {a : Array Value} {pc : Nat} {ls : Array Slot} {st0 rest : List Value}
theorem vx_keep {st₀ t T' : State} {L : List Loc} (h0 : st₀.heap = H) (e1 : T'.heap = t.heap) (hS : va_S A0 H0 H locs) (hA : ∀ q, q < H.size → A1 q → A0 q) (hf : ∀ q, free q → A0 q) (hL : ∀ q ∈ L, free q.base) (hF : va_F A1 st₀ t) :
    H.size ≤ T'.heap.size ∧ (∀ q : Nat, q < H.size → ¬ A1 q → T'.heap[q]? = H[q]?) ∧ va_S A0 H0 T'.heap (locs ++ L) := by
  obtain ⟨hz, hk⟩ := hF
  rw [h0] at hz hk
  exact ⟨by rw [e1]; exact hz, fun q h1 h2 => by rw [e1]; exact hk q h1 h2,
    ⟨Nat.le_trans hS.1 (by rw [e1]; exact hz), fun q h1 h2 => by rw [e1, hk q (Nat.lt_of_lt_of_le h1 hS.1) (fun z => h2 (hA q (Nat.lt_of_lt_of_le h1 hS.1) z))]; exact hS.2.1 q h1 h2, fun q hq => by
      rcases List.mem_append.mp hq with h | h
      · exact hS.2.2 q h
      · exact hf _ (hL q h)⟩⟩
theorem vx_calli {S SX : Type} {post : Int32 → S → Prop} {px : SX → Prop} {B : S → State → Prop} {BX : String → SX → State → Prop} {AX : Nat → Prop} (hr : vx_Run p l e R s m args below meth c H locs cells slots mc ms (F0 m pc ls st0) rest (va_Qi post B A1 a) (vx_X px BX AX) free) (hS : va_S A0 H0 H locs) (hA : ∀ q, q < H.size → A1 q → A0 q) (hf : ∀ q, free q → A0 q) (hAX : ∀ q, q < H.size → AX q → A0 q)
    (kx : ∀ (E : String) (ce : Cell) (q9 : Addr) (u : SX) (t : State) (H1 : Heap) (locs1 : List Loc), t.heap = H1 → s.vm.Alike t.vm → px u → BX E u t → H.size ≤ H1.size → (∀ q : Nat, q < H.size → ¬ AX q → H1[q]? = H[q]?) → va_S A0 H0 H1 locs1 → H1[q9]? = some ce → ce.vm = .none → s.vm.findClass E = some ce.cls → vx_W p l e R s m args below meth c H1 locs1 (cells + mc) (slots + ms) Q (F0 m pc ls rest) q9)
    (kk : ∀ (r : Int32) (u : S) (t : State) (H1 : Heap) (locs1 : List Loc), t.heap = H1 → s.vm.Alike t.vm → post r u → B u t → H.size ≤ H1.size → (∀ q : Nat, q < H.size → ¬ A1 q → H1[q]? = H[q]?) → va_S A0 H0 H1 locs1 → W p l e R s m args below meth c H1 locs1 (cells + mc) (slots + ms) Q (F0 m (pc + 3) ls (.int r :: rest))) : W p l e R s m args below meth c H locs cells slots Q (F0 m pc ls st0) := by
  intro T hT X
  rcases hr T hT X with ⟨v, st₀, t, T', L, h0, X', hL, e1, e2, ⟨⟨r, u, hv, hp, hb⟩, hF⟩, st⟩ | ⟨q, st₀, t, T', L, E, ce, h0, X', hL, e1, e2, ⟨u, hp, hb, hF⟩, hce, hcv, hcl, st⟩
  · cases hv
    obtain ⟨k1, k2, k3⟩ := vx_keep h0 e1 hS hA hf hL hF
    obtain ⟨t2, a1, b1⟩ := kk r u t T'.heap (locs ++ L) e1.symm (by rw [← e2]; exact X'.warmed.alike) hp hb k1 k2 k3 T' rfl X'
    exact ⟨t2, st t2 a1, b1⟩
  · obtain ⟨k1, k2, k3⟩ := vx_keep h0 e1 hS hAX hf hL hF
    obtain ⟨t2, a1, b1⟩ := kx E ce q u t T'.heap (locs ++ L) e1.symm (by rw [← e2]; exact X'.warmed.alike) hp hb k1 k2 k3 (by rw [e1]; exact hce) hcv hcl T' rfl X'
    exact ⟨t2, st.trans a1, b1⟩
theorem vx_calll {S SX : Type} {post : Int64 → S → Prop} {px : SX → Prop} {B : S → State → Prop} {BX : String → SX → State → Prop} {AX : Nat → Prop} (hr : vx_Run p l e R s m args below meth c H locs cells slots mc ms (F0 m pc ls st0) rest (va_Ql post B A1 a) (vx_X px BX AX) free) (hS : va_S A0 H0 H locs) (hA : ∀ q, q < H.size → A1 q → A0 q) (hf : ∀ q, free q → A0 q) (hAX : ∀ q, q < H.size → AX q → A0 q)
    (kx : ∀ (E : String) (ce : Cell) (q9 : Addr) (u : SX) (t : State) (H1 : Heap) (locs1 : List Loc), t.heap = H1 → s.vm.Alike t.vm → px u → BX E u t → H.size ≤ H1.size → (∀ q : Nat, q < H.size → ¬ AX q → H1[q]? = H[q]?) → va_S A0 H0 H1 locs1 → H1[q9]? = some ce → ce.vm = .none → s.vm.findClass E = some ce.cls → vx_W p l e R s m args below meth c H1 locs1 (cells + mc) (slots + ms) Q (F0 m pc ls rest) q9)
    (kk : ∀ (r : Int64) (u : S) (t : State) (H1 : Heap) (locs1 : List Loc), t.heap = H1 → s.vm.Alike t.vm → post r u → B u t → H.size ≤ H1.size → (∀ q : Nat, q < H.size → ¬ A1 q → H1[q]? = H[q]?) → va_S A0 H0 H1 locs1 → W p l e R s m args below meth c H1 locs1 (cells + mc) (slots + ms) Q (F0 m (pc + 3) ls (.long r :: rest))) : W p l e R s m args below meth c H locs cells slots Q (F0 m pc ls st0) := by
  intro T hT X
  rcases hr T hT X with ⟨v, st₀, t, T', L, h0, X', hL, e1, e2, ⟨⟨r, u, hv, hp, hb⟩, hF⟩, st⟩ | ⟨q, st₀, t, T', L, E, ce, h0, X', hL, e1, e2, ⟨u, hp, hb, hF⟩, hce, hcv, hcl, st⟩
  · cases hv
    obtain ⟨k1, k2, k3⟩ := vx_keep h0 e1 hS hA hf hL hF
    obtain ⟨t2, a1, b1⟩ := kk r u t T'.heap (locs ++ L) e1.symm (by rw [← e2]; exact X'.warmed.alike) hp hb k1 k2 k3 T' rfl X'
    exact ⟨t2, st t2 a1, b1⟩
  · obtain ⟨k1, k2, k3⟩ := vx_keep h0 e1 hS hAX hf hL hF
    obtain ⟨t2, a1, b1⟩ := kx E ce q u t T'.heap (locs ++ L) e1.symm (by rw [← e2]; exact X'.warmed.alike) hp hb k1 k2 k3 (by rw [e1]; exact hce) hcv hcl T' rfl X'
    exact ⟨t2, st.trans a1, b1⟩
theorem vx_callf {S SX : Type} {post : UInt32 → S → Prop} {px : SX → Prop} {B : S → State → Prop} {BX : String → SX → State → Prop} {AX : Nat → Prop} (hr : vx_Run p l e R s m args below meth c H locs cells slots mc ms (F0 m pc ls st0) rest (va_Qf post B A1 a) (vx_X px BX AX) free) (hS : va_S A0 H0 H locs) (hA : ∀ q, q < H.size → A1 q → A0 q) (hf : ∀ q, free q → A0 q) (hAX : ∀ q, q < H.size → AX q → A0 q)
    (kx : ∀ (E : String) (ce : Cell) (q9 : Addr) (u : SX) (t : State) (H1 : Heap) (locs1 : List Loc), t.heap = H1 → s.vm.Alike t.vm → px u → BX E u t → H.size ≤ H1.size → (∀ q : Nat, q < H.size → ¬ AX q → H1[q]? = H[q]?) → va_S A0 H0 H1 locs1 → H1[q9]? = some ce → ce.vm = .none → s.vm.findClass E = some ce.cls → vx_W p l e R s m args below meth c H1 locs1 (cells + mc) (slots + ms) Q (F0 m pc ls rest) q9)
    (kk : ∀ (r : UInt32) (u : S) (t : State) (H1 : Heap) (locs1 : List Loc), t.heap = H1 → s.vm.Alike t.vm → post r u → B u t → H.size ≤ H1.size → (∀ q : Nat, q < H.size → ¬ A1 q → H1[q]? = H[q]?) → va_S A0 H0 H1 locs1 → W p l e R s m args below meth c H1 locs1 (cells + mc) (slots + ms) Q (F0 m (pc + 3) ls (.float r :: rest))) : W p l e R s m args below meth c H locs cells slots Q (F0 m pc ls st0) := by
  intro T hT X
  rcases hr T hT X with ⟨v, st₀, t, T', L, h0, X', hL, e1, e2, ⟨⟨r, u, hv, hp, hb⟩, hF⟩, st⟩ | ⟨q, st₀, t, T', L, E, ce, h0, X', hL, e1, e2, ⟨u, hp, hb, hF⟩, hce, hcv, hcl, st⟩
  · cases hv
    obtain ⟨k1, k2, k3⟩ := vx_keep h0 e1 hS hA hf hL hF
    obtain ⟨t2, a1, b1⟩ := kk r u t T'.heap (locs ++ L) e1.symm (by rw [← e2]; exact X'.warmed.alike) hp hb k1 k2 k3 T' rfl X'
    exact ⟨t2, st t2 a1, b1⟩
  · obtain ⟨k1, k2, k3⟩ := vx_keep h0 e1 hS hAX hf hL hF
    obtain ⟨t2, a1, b1⟩ := kx E ce q u t T'.heap (locs ++ L) e1.symm (by rw [← e2]; exact X'.warmed.alike) hp hb k1 k2 k3 (by rw [e1]; exact hce) hcv hcl T' rfl X'
    exact ⟨t2, st.trans a1, b1⟩
theorem vx_calld {S SX : Type} {post : UInt64 → S → Prop} {px : SX → Prop} {B : S → State → Prop} {BX : String → SX → State → Prop} {AX : Nat → Prop} (hr : vx_Run p l e R s m args below meth c H locs cells slots mc ms (F0 m pc ls st0) rest (va_Qd post B A1 a) (vx_X px BX AX) free) (hS : va_S A0 H0 H locs) (hA : ∀ q, q < H.size → A1 q → A0 q) (hf : ∀ q, free q → A0 q) (hAX : ∀ q, q < H.size → AX q → A0 q)
    (kx : ∀ (E : String) (ce : Cell) (q9 : Addr) (u : SX) (t : State) (H1 : Heap) (locs1 : List Loc), t.heap = H1 → s.vm.Alike t.vm → px u → BX E u t → H.size ≤ H1.size → (∀ q : Nat, q < H.size → ¬ AX q → H1[q]? = H[q]?) → va_S A0 H0 H1 locs1 → H1[q9]? = some ce → ce.vm = .none → s.vm.findClass E = some ce.cls → vx_W p l e R s m args below meth c H1 locs1 (cells + mc) (slots + ms) Q (F0 m pc ls rest) q9)
    (kk : ∀ (r : UInt64) (u : S) (t : State) (H1 : Heap) (locs1 : List Loc), t.heap = H1 → s.vm.Alike t.vm → post r u → B u t → H.size ≤ H1.size → (∀ q : Nat, q < H.size → ¬ A1 q → H1[q]? = H[q]?) → va_S A0 H0 H1 locs1 → W p l e R s m args below meth c H1 locs1 (cells + mc) (slots + ms) Q (F0 m (pc + 3) ls (.double r :: rest))) : W p l e R s m args below meth c H locs cells slots Q (F0 m pc ls st0) := by
  intro T hT X
  rcases hr T hT X with ⟨v, st₀, t, T', L, h0, X', hL, e1, e2, ⟨⟨r, u, hv, hp, hb⟩, hF⟩, st⟩ | ⟨q, st₀, t, T', L, E, ce, h0, X', hL, e1, e2, ⟨u, hp, hb, hF⟩, hce, hcv, hcl, st⟩
  · cases hv
    obtain ⟨k1, k2, k3⟩ := vx_keep h0 e1 hS hA hf hL hF
    obtain ⟨t2, a1, b1⟩ := kk r u t T'.heap (locs ++ L) e1.symm (by rw [← e2]; exact X'.warmed.alike) hp hb k1 k2 k3 T' rfl X'
    exact ⟨t2, st t2 a1, b1⟩
  · obtain ⟨k1, k2, k3⟩ := vx_keep h0 e1 hS hAX hf hL hF
    obtain ⟨t2, a1, b1⟩ := kx E ce q u t T'.heap (locs ++ L) e1.symm (by rw [← e2]; exact X'.warmed.alike) hp hb k1 k2 k3 (by rw [e1]; exact hce) hcv hcl T' rfl X'
    exact ⟨t2, st.trans a1, b1⟩
theorem vx_callv {S SX : Type} {post : S → Prop} {px : SX → Prop} {B : S → State → Prop} {BX : String → SX → State → Prop} {AX : Nat → Prop} (hr : vx_Run p l e R s m args below meth c H locs cells slots mc ms (F0 m pc ls st0) rest (va_Qv post B A1 a) (vx_X px BX AX) free) (hS : va_S A0 H0 H locs) (hA : ∀ q, q < H.size → A1 q → A0 q) (hf : ∀ q, free q → A0 q) (hAX : ∀ q, q < H.size → AX q → A0 q)
    (kx : ∀ (E : String) (ce : Cell) (q9 : Addr) (u : SX) (t : State) (H1 : Heap) (locs1 : List Loc), t.heap = H1 → s.vm.Alike t.vm → px u → BX E u t → H.size ≤ H1.size → (∀ q : Nat, q < H.size → ¬ AX q → H1[q]? = H[q]?) → va_S A0 H0 H1 locs1 → H1[q9]? = some ce → ce.vm = .none → s.vm.findClass E = some ce.cls → vx_W p l e R s m args below meth c H1 locs1 (cells + mc) (slots + ms) Q (F0 m pc ls rest) q9)
    (kk : ∀ (u : S) (t : State) (H1 : Heap) (locs1 : List Loc), t.heap = H1 → s.vm.Alike t.vm → post u → B u t → H.size ≤ H1.size → (∀ q : Nat, q < H.size → ¬ A1 q → H1[q]? = H[q]?) → va_S A0 H0 H1 locs1 → W p l e R s m args below meth c H1 locs1 (cells + mc) (slots + ms) Q (F0 m (pc + 3) ls (rest))) : W p l e R s m args below meth c H locs cells slots Q (F0 m pc ls st0) := by
  intro T hT X
  rcases hr T hT X with ⟨v, st₀, t, T', L, h0, X', hL, e1, e2, ⟨⟨u, hv, hp, hb⟩, hF⟩, st⟩ | ⟨q, st₀, t, T', L, E, ce, h0, X', hL, e1, e2, ⟨u, hp, hb, hF⟩, hce, hcv, hcl, st⟩
  · cases hv
    obtain ⟨k1, k2, k3⟩ := vx_keep h0 e1 hS hA hf hL hF
    obtain ⟨t2, a1, b1⟩ := kk u t T'.heap (locs ++ L) e1.symm (by rw [← e2]; exact X'.warmed.alike) hp hb k1 k2 k3 T' rfl X'
    exact ⟨t2, st t2 a1, b1⟩
  · obtain ⟨k1, k2, k3⟩ := vx_keep h0 e1 hS hAX hf hL hF
    obtain ⟨t2, a1, b1⟩ := kx E ce q u t T'.heap (locs ++ L) e1.symm (by rw [← e2]; exact X'.warmed.alike) hp hb k1 k2 k3 (by rw [e1]; exact hce) hcv hcl T' rfl X'
    exact ⟨t2, st.trans a1, b1⟩
/-- caught by the row x of this method's table; the rows ahead don't take it -/
theorem vx_catch {own name : String} {E : String} {ce : Cell} {q : Addr} (hown : s.vm.findClass own = some m.cls) (pre : List ExceptionTableEntry) (x : ExceptionTableEntry) (suf : List ExceptionTableEntry) (hsplit : c.exceptionTable.toList = pre ++ x :: suf)
    (hpass : ∀ z ∈ pre, covers z pc = false ∨ (z.catchType ≠ 0 ∧ ∃ nm : String, (Cond.classLink own z.catchType nm).before args s = true ∧ va_Nc E nm s)) (hx : covers x pc = true) (h0 : x.catchType ≠ 0)
    (hlink : (Cond.classLink own x.catchType name).before args s = true) (hcast : (Cond.castable E name).before args s = true) (hcell : H[q]? = some ce) (hv : ce.vm = .none) (hcl : s.vm.findClass E = some ce.cls)
    (kk : W p l e R s m args below meth c H locs cells slots Q (F0 m x.handlerPc ls [.ref q])) : vx_W p l e R s m args below meth c H locs cells slots Q (F0 m pc ls rest) q := by
  intro T hT X
  have hpl : e.platform.magicAccessors = ({} : Platform).magicAccessors := by rw [X.admits.platform]
  obtain ⟨c3, c4, hc3, hc4, hasg⟩ := Cond.castable_spec hcast
  cases Option.some.inj (hc3.symm.trans hcl)
  obtain ⟨c5, hc5, hcl5⟩ := Cond.classLink_spec hown hlink e.platform hpl
  cases Option.some.inj (hc4.symm.trans hc5)
  obtain ⟨vm', X', st⟩ := X.thenCaughtThrough q (g := F0 m pc ls rest) rfl (Steps.refl _) (by rw [hT]; exact hcell) (by rw [hv]; rfl) (by obtain ⟨k9, h9, -⟩ := Vm.findClass_spec hcl; exact ⟨k9, h9⟩) pre x suf hsplit
    (fun z hz => by
      rcases hpass z hz with h | ⟨hz0, nm, hl1, hn1⟩
      · exact Or.inl h
      · obtain ⟨c6, hc6, hcl6⟩ := Cond.classLink_spec hown hl1 e.platform hpl
        obtain ⟨a8, b8, h1, h2, h3⟩ := hn1
        cases Option.some.inj (h1.symm.trans hcl)
        cases Option.some.inj (h2.symm.trans hc6)
        exact Or.inr ⟨hz0, _, hcl6, h3⟩) hx (Or.inr ⟨h0, c4, hcl5, hasg⟩)
  obtain ⟨t, a1, b1⟩ := kk (T.setVm vm') hT X'
  exact ⟨t, st.trans a1, b1⟩
end Rows
section Ends
variable {p : Program} {l : Launch} {e : Env} {R : Room} {s : State} {m : MethodId} {args : Array Value} {below : List Frame} {meth : Method} {c : Code} {H : Heap} {locs : List Loc} {cells slots : Nat} {Q : State → Prop}
variable {mc ms : Nat} {free : Addr → Prop} {A0 A1 : Nat → Prop} {H0 : Heap} {a : Array Value} {ls : Array Slot} {st0 rest : List Value}
variable {Qc : Array Value → State → Outcome → State → Prop} {XC : String → State → State → Prop}
/-- what a body that may throw owes at its end -/
def vx_MQ (below : List Frame) (Qc : Array Value → State → Outcome → State → Prop) (XC : String → State → State → Prop) (a : Array Value) (s : State) (mc ms : Nat) (free : Addr → Prop) : State → Prop := fun t =>
  ∃ o, t.status = .running ∧ Ended t below o ∧ vx_Q Qc XC mc ms free a s o t
theorem vx_ret {g : JFrame} {mc ms : Nat} (k : W p l e R s m args below meth c H locs cells slots (MQ below Qc args s mc ms free) g) : W p l e R s m args below meth c H locs cells slots (vx_MQ below Qc XC args s mc ms free) g := by
  intro T hT X
  obtain ⟨t, a1, o, b1, b2, b3, b4⟩ := k T hT X
  exact ⟨t, a1, o, b1, b2, Or.inl ⟨b3, b4⟩⟩
/-- not caught here: it goes on to the caller -/
theorem vx_widen {g : JFrame} {q : Addr} {k n : Nat} (h1 : cells ≤ k) (h2 : slots ≤ n) (kk : vx_W p l e R s m args below meth c H locs k n Q g q) : vx_W p l e R s m args below meth c H locs cells slots Q g q := fun T hT X => kk T hT (stand_widen X h1 h2)
theorem vx_out {pc : Nat} {E : String} {ce : Cell} {q : Addr} {mc ms : Nat} (hout : ∀ x ∈ c.exceptionTable.toList, covers x pc = false) (hlocks : meth.locks = false) (hcell : H[q]? = some ce) (hv : ce.vm = .none) (hcl : s.vm.findClass E = some ce.cls)
    (hx : ∀ t : State, t.heap = H → s.vm.Alike t.vm → XC E s t) (hf : ∀ z ∈ locs, free z.base) (hc : cells ≤ mc) (hs : slots ≤ ms) :
    vx_W p l e R s m args below meth c H locs cells slots (vx_MQ below Qc XC args s mc ms free) (F0 m pc ls rest) q := by
  intro T hT X
  obtain ⟨st1, hrun, hend, hW, hsm⟩ := X.leaveThrown q (g := F0 m pc ls rest) rfl rfl rfl hout hlocks
  have hcell9 : (T.setFrames (.throwing q :: below)).heap[q]? = some ce := by
    show T.heap[q]? = some ce
    rw [hT]; exact hcell
  exact ⟨_, st1, .threw q, hrun, hend, Or.inr ⟨q, rfl, E, ce, locs, hx _ hT hW.alike, hcell9, hv, hcl, hW, hsm.mono hc hs, hf⟩⟩
theorem vx_frame {U : State} {k n : Nat} (h : s.sameButNew ({ U with vm := s.vm } : State) locs k n) : s.heap.size ≤ U.heap.size ∧ ∀ q : Nat, q < s.heap.size → (∀ z ∈ locs, z.base ≠ q) → U.heap[q]? = s.heap[q]? := by
  obtain ⟨-, h2, -, -, -, h6⟩ := h
  refine ⟨h2, fun q hq hz => ?_⟩
  obtain ⟨c9, e1, e2, e3, e4⟩ := h6 q _ (Array.getElem?_eq_getElem hq)
  have hs : c9.slots = (s.heap[q]).slots := Array.ext_getElem? fun i => e4 i fun hm => hz _ hm rfl
  have h9 : c9 = s.heap[q] := by
    rw [hs] at e2
    exact e2
  have e5 : U.heap[q]? = some c9 := e1
  rw [e5, h9, Array.getElem?_eq_getElem hq]
/-- the words of a throw but the four that speak of the heap -/
def vx_no (w : Cond) : Bool := decide (w ≠ .isRef (.static Bundle.tN "UNASSIGNED_STACK" Bundle.steD)) && decide (w ≠ .isRef (.static Bundle.tN "SUPPRESSED_SENTINEL" Bundle.listD)) && decide (w ≠ .laysStatic Bundle.tN "UNASSIGNED_STACK" Bundle.steD) && decide (w ≠ .laysStatic Bundle.tN "SUPPRESSED_SENTINEL" Bundle.listD)
def vx_at0 (own : String) (ic : Nat) (X : String) (names : List String) : List Cond := (Bundle.ownAtoms0 own ic X names).filter vx_no
def vx_atS (own : String) (ic : Nat) (X : String) (names : List String) : List Cond := (Bundle.ownAtoms own ic X names).filter vx_no
/-- a word that the tables alone decide, or a good one -/
def vx_ot (w : Cond) : Bool := w.onTables || goodWord w
theorem vx_ot_at {args a' : Array Value} {s U : State} {w : Cond} (hW : s.WarmedH U.vm) (hvm : s.vm = U.vm) (hg : vx_ot w = true) (h : w.before args s = true) : w.before a' U = true := by
  simp only [vx_ot, Bool.or_eq_true] at hg
  rcases hg with hg | hg
  · exact va_tabs hg hvm h
  · exact word_at hW (good_of_word hg) h
/-- a list's words: the good ones out of the method's own list, the others by premises of their own -/
theorem vx_hat {args : Array Value} {s : State} {L B : List Cond} (h1 : ∀ w ∈ L.filter goodWord, w.before args s = true) (h2 : ∀ w ∈ L.filter (fun w => !goodWord w), w ∈ B) (h3 : ∀ w ∈ B, w.before args s = true) : ∀ w ∈ L, w.before args s = true := by
  intro w hw
  by_cases g : goodWord w = true
  · exact h1 w (List.mem_filter.mpr ⟨hw, g⟩)
  · refine h3 w (h2 w (List.mem_filter.mpr ⟨hw, ?_⟩))
    show (!goodWord w) = true
    cases hgw : goodWord w
    · rfl
    · exact absurd hgw g
theorem vx_c {args : Array Value} {s : State} {w : Cond} {B : List Cond} (h : w.before args s = true) (t : ∀ w ∈ B, w.before args s = true) : ∀ w' ∈ w :: B, w'.before args s = true := fun w' h' => (List.mem_cons.mp h').elim (fun e => by rw [e]; exact h) (t w')
theorem vx_n {args : Array Value} {s : State} : ∀ w ∈ ([] : List Cond), w.before args s = true := fun _ h => nomatch h
theorem vx_own {args : Array Value} {s : State} {L : List Cond} (h1 : ∀ w ∈ L.filter vx_no, w.before args s = true)
    (hU : (Cond.isRef (.static Bundle.tN "UNASSIGNED_STACK" Bundle.steD)).before args s = true) (hN : (Cond.isRef (.static Bundle.tN "SUPPRESSED_SENTINEL" Bundle.listD)).before args s = true)
    (lU : (Cond.laysStatic Bundle.tN "UNASSIGNED_STACK" Bundle.steD).before args s = true) (lN : (Cond.laysStatic Bundle.tN "SUPPRESSED_SENTINEL" Bundle.listD).before args s = true) : ∀ w ∈ L, w.before args s = true := by
  intro w hw
  by_cases e1 : w = .isRef (.static Bundle.tN "UNASSIGNED_STACK" Bundle.steD)
  · rw [e1]; exact hU
  · by_cases e2 : w = .isRef (.static Bundle.tN "SUPPRESSED_SENTINEL" Bundle.listD)
    · rw [e2]; exact hN
    · by_cases e3 : w = .laysStatic Bundle.tN "UNASSIGNED_STACK" Bundle.steD
      · rw [e3]; exact lU
      · by_cases e4 : w = .laysStatic Bundle.tN "SUPPRESSED_SENTINEL" Bundle.listD
        · rw [e4]; exact lN
        · exact h1 w (List.mem_filter.mpr ⟨hw, by unfold vx_no; rw [decide_eq_true e1, decide_eq_true e2, decide_eq_true e3, decide_eq_true e4]; rfl⟩)
/-- where a static field lies, its class's statics cell in H -/
def vx_L (C n d : String) (A : Nat → Prop) (U : State) (H : Heap) : Prop := ∃ (c : ClassId) (k : Class) (i : Nat) (f : Field) (a : Nat) (cell : Cell), U.vm.findClass C = some c ∧ U.fieldFound? C n d = some (c, k, i, f) ∧ f.isStatic = true ∧ k.statics = some a ∧ H[a]? = some cell ∧ cell.vm.isStatics = true ∧ cell.cls = c ∧ f.slot < cell.slots.size ∧ k.staticTypes[f.slot]? = some f.type ∧ ¬ A a
theorem vx_L.moved {C n d : String} {A : Nat → Prop} {u U : State} {H : Heap} (hvm : u.vm.Alike U.vm) (h : vx_L C n d A u H) : vx_L C n d A U H := by
  obtain ⟨c, k, i, f, a, cell, h1, h2, h3, h4, h5, h6, h7, h8, h9, h10⟩ := h
  obtain ⟨k', hi', he⟩ := State.fieldFound?_setVm hvm h2
  exact ⟨c, k', i, f, a, cell, by rw [hvm.findClass]; exact h1, hi', h3, by rw [he]; exact h4, h5, h6, h7, h8, by rw [he]; exact h9, h10⟩
theorem vx_L.kept {C n d : String} {A : Nat → Prop} {U : State} {H H1 : Heap} (h : vx_L C n d A U H) (hq : ∀ a : Nat, a < H.size → ¬ A a → H1[a]? = H[a]?) : vx_L C n d A U H1 := by
  obtain ⟨c, k, i, f, a, cell, h1, h2, h3, h4, h5, h6, h7, h8, h9, h10⟩ := h
  exact ⟨c, k, i, f, a, cell, h1, h2, h3, h4, by rw [hq a (Array.getElem?_eq_some_iff.mp h5).1 h10]; exact h5, h6, h7, h8, h9, h10⟩
theorem vx_L.narrow {C n d : String} {A B : Nat → Prop} {U : State} {H : Heap} (h : vx_L C n d A U H) (hAB : ∀ q, B q → A q) : vx_L C n d B U H := by
  obtain ⟨c, k, i, f, a, cell, h1, h2, h3, h4, h5, h6, h7, h8, h9, h10⟩ := h
  exact ⟨c, k, i, f, a, cell, h1, h2, h3, h4, h5, h6, h7, h8, h9, fun z => h10 (hAB _ z)⟩
theorem vx_L.word {C n d : String} {A : Nat → Prop} {s : State} {args : Array Value} (h : vx_L C n d A s s.heap) : (Cond.laysStatic C n d).before args s = true := by
  obtain ⟨c, k, i, f, a, cell, h1, h2, h3, h4, h5, h6, h7, h8, h9, -⟩ := h
  show (Cond.laysStatic C n d).holds args s none s [] = true
  exact Cond.laysStatic_of h1 h2 h3 h4 h5 h6 h7 h8 h9
/-- .. and what it holds: null or some reference -/
def vx_Zq (C n d : String) (A : Nat → Prop) (U : State) (H : Heap) : Prop := va_Zq C n d A U H ∧ vx_L C n d A U H
theorem vx_Zq.moved {C n d : String} {A : Nat → Prop} {u U : State} {H : Heap} (hvm : u.vm.Alike U.vm) (h : vx_Zq C n d A u H) : vx_Zq C n d A U H := ⟨va_Zq.moved hvm h.1, vx_L.moved hvm h.2⟩
theorem vx_Zq.kept {C n d : String} {A : Nat → Prop} {U : State} {H H1 : Heap} (h : vx_Zq C n d A U H) (hq : ∀ a : Nat, a < H.size → ¬ A a → H1[a]? = H[a]?) : vx_Zq C n d A U H1 := ⟨va_Zq.kept h.1 hq, vx_L.kept h.2 hq⟩
theorem vx_Zq.narrow {C n d : String} {A B : Nat → Prop} {U : State} {H : Heap} (h : vx_Zq C n d A U H) (hAB : ∀ q, B q → A q) : vx_Zq C n d B U H := ⟨va_Zq.narrow h.1 hAB, vx_L.narrow h.2 hAB⟩
theorem vx_Zqof {args : Array Value} {s : State} {C n d : String} {A : Nat → Prop} (hl : (Cond.laysStatic C n d).before args s = true) (hini : (Cond.initialized C).before args s = true) (h : (Cond.isRef (.static C n d)).before args s = true) (hA : ∀ a : Nat, a < s.heap.size → ¬ A a) : vx_Zq C n d A s s.heap := by
  refine ⟨va_Zqof hl hini h hA, ?_⟩
  obtain ⟨c, k, i, f, a, cell, h1, h2, h3, h4, h5, h6, h7, h8, h9⟩ := Cond.laysStatic_spec hl
  exact ⟨c, k, i, f, a, cell, h1, h2, h3, h4, h5, h6, h7, h8, h9, hA a (Array.getElem?_eq_some_iff.mp h5).1⟩
theorem vx_isRef {C n d : String} {v : Value} {A : Nat → Prop} {s : State} {args : Array Value} (h : va_Z C n d v A s s.heap) (hv : v.isRef = true) : (Cond.isRef (.static C n d)).before args s = true := by
  obtain ⟨cf, kf, fi, f, a, cell, h1, h2, h3, h4, h5, h6, h7, -⟩ := h
  have he : (Term.static C n d).eval args s none [] s = some v := by
    simp [Term.eval, State.fieldNamed?, h1, h2, h4, h5, h6, h7]
  simp only [Cond.before, Cond.holds, Cond.value, he]
  cases v <;> simp_all [Value.isRef]
theorem vx_isRefq {C n d : String} {A : Nat → Prop} {s : State} {args : Array Value} (h : va_Zq C n d A s s.heap) : (Cond.isRef (.static C n d)).before args s = true := by
  rcases h with h | ⟨t, h⟩
  · exact vx_isRef h rfl
  · exact vx_isRef h rfl
/-- the same frame, seen from here: as if the method were called anew in this heap -/
theorem vx_rebase {T : State} (X : Stand p l e R s m args below meth c T locs cells slots) {R' : Room} (hf : R'.frames ≤ R.frames) (hl : R'.locals ≤ R.locals) (hc : cells + R'.cells ≤ R.cells) (hs : slots + R'.slots ≤ R.slots) :
    Stand p l e R' ((T.setVm s.vm).setFrames (.invoking m args :: below)) m args below meth c T [] 0 0 := by
  have htop : (T.setVm s.vm).topJava?.isSome := X.here.top
  have hF : ((T.setVm s.vm).setFrames (.invoking m args :: below)).frames = .invoking m args :: below := State.frames_setFrames _ (State.cur_lt_of_top htop)
  obtain ⟨g₀, hg0⟩ := Option.isSome_iff_exists.mp htop
  obtain ⟨r, hr⟩ := State.topJava?_eq_some.mp hg0
  have hl9 : e.platform.stackLimits (T.setVm s.vm).me = e.platform.stackLimits s.me := X.limits
  have hb9 : (T.setVm s.vm).me.stackBytes = s.me.stackBytes := X.bytes
  refine ⟨X.admits, X.cas, X.clock, hF, ?_, X.hears, X.method, X.code, X.here, X.tail, X.warmed, ?_, ?_, ?_⟩
  · have h := X.room
    have hU : ((T.setVm s.vm).setFrames (.invoking m args :: below)).localsInUse = s.localsInUse := by
      rw [State.localsInUse_invoking hF (meth := meth) (c := c) X.method X.code, State.localsInUse_invoking X.frames X.method X.code]
    simp only [State.hasRoom, Bool.and_eq_true, decide_eq_true_eq] at h ⊢
    obtain ⟨⟨⟨⟨h1, h2, h3, h4, h5, h6⟩, h7⟩, h8⟩, h9⟩ := h
    rw [X.frames, List.length_cons] at h2 h3
    have q1 := X.heapSize
    have q2 := X.used
    simp only [hF, hU, List.length_cons, State.stackLimits_setFrames, State.stackBytes_setFrames, hl9, hb9]
    refine ⟨⟨⟨⟨by omega, by omega, by omega, by omega, by omega, h6⟩, ?_⟩, ?_⟩, X.book⟩
    · show T.heap.size + R'.cells ≤ e.platform.maxCells
      omega
    · show T.slotsUsed + R'.slots ≤ e.platform.maxSlots
      omega
  · rw [State.stackLimits_setFrames]; rfl
  · rw [State.stackBytes_setFrames]; rfl
  · refine ⟨?_, Nat.le_refl _, Nat.le_refl _, ?_, ?_, fun a c9 h9 => ⟨c9, h9, rfl, rfl, fun _ _ => rfl⟩⟩
    · obtain ⟨t, ht, -⟩ := State.frames_cons hr
      show T.setVm s.vm = { ((T.setVm s.vm).setFrames (.invoking m args :: below)).setFrames (T.setVm s.vm).frames with heap := T.heap, slotsUsed := T.slotsUsed }
      rw [State.setFrames_setFrames, State.setFrames_self ht]
      rfl
    · show T.slotsUsed = T.slotsUsed + ((T.heap.toList.drop T.heap.size).map (·.slots.size)).sum
      rw [List.drop_eq_nil_of_le (Nat.le_of_eq Array.length_toList)]
      rfl
    · show ((T.heap.toList.drop T.heap.size).map (·.slots.size)).sum ≤ 0
      rw [List.drop_eq_nil_of_le (Nat.le_of_eq Array.length_toList)]
      exact Nat.le_refl _
/-- 'throw new E()': new; dup; invokespecial; athrow -/
theorem vx_throw0 {cc : ByteArray} {pc : Nat} (hexec : p.tables.exec = Jvm.exec) (hb : c.code = cc) (hl : l.stackTraces = false) {own cls : String} {names : List String} {ik ic mc ms : Nat} {A : Nat → Prop}
    (hown : s.vm.findClass own = some m.cls) (hcls : Bundle.fit cls = true) (hnames : ∀ n ∈ names, Bundle.fit n = true)
    (hk : (Cond.classLink own ik cls).before args s = true) (hini : (Cond.initialized cls).before args s = true) (hat : ∀ w ∈ vx_at0 own ic cls names, w.before args s = true)
    (hgood : ∀ w ∈ Cond.classLink own ik cls :: Cond.initialized cls :: vx_at0 own ic cls names, vx_ot w = true)
    (hU : vx_Zq Bundle.tN "UNASSIGNED_STACK" Bundle.steD A s s.heap) (hN : vx_Zq Bundle.tN "SUPPRESSED_SENTINEL" Bundle.listD A s s.heap) (hS : va_S A s.heap H locs) (hsize : ls.size = c.maxLocals)
    (d0 : decode cc pc = .ok (.new ik, 3)) (d3 : decode cc (pc + 3) = .ok (.dup, 1)) (d4 : decode cc (pc + 4) = .ok (.invokespecial ic, 3)) (d7 : decode cc (pc + 7) = .ok (.athrow, 1))
    (hout : ∀ x ∈ c.exceptionTable.toList, covers x (pc + 7) = false)
    (hRframes : names.length + 3 < R.frames) (hRlocals : (rest.map fun v => v.category).sum + (13 * (names.length + 1) + 42) ≤ R.locals) (hRcells : cells + 1 ≤ R.cells) (hRslots : slots + 6 ≤ R.slots) (hlocks : meth.locks = false)
    (hx : ∀ t : State, s.vm.Alike t.vm → H.size ≤ t.heap.size → (∀ q : Nat, q < H.size → t.heap[q]? = H[q]?) → XC cls s t)
    (hf : ∀ z ∈ locs, free z.base) (hc : cells + 1 ≤ mc) (hs : slots + 6 ≤ ms) :
    W p l e R s m args below meth c H locs cells slots (vx_MQ below Qc XC args s mc ms free) (F0 m pc ls rest) := by
  intro T hT X
  have htr : e.platform.stackTraces = false := (show e.platform.stackTraces = l.stackTraces by rw [X.admits.platform]).trans hl
  have Y := vx_rebase X (R' := { frames := R.frames, locals := R.locals, cells := 1, slots := 6 }) (Nat.le_refl _) (Nat.le_refl _) hRcells hRslots
  obtain ⟨s', hA⟩ : ∃ z, z = (T.setVm s.vm).setFrames (.invoking m args :: below) := ⟨_, rfl⟩
  rw [← hA] at Y
  have hvm : s'.vm = s.vm := by rw [hA]; rfl
  have hhp : s'.heap = H := by rw [hA]; exact hT
  have hW0 : s.WarmedH s'.vm := by rw [hvm]; exact State.WarmedH.refl s
  have hat' : ∀ w ∈ vx_at0 own ic cls names, w.before args s' = true := fun w hw => vx_ot_at hW0 hvm.symm (hgood w (List.mem_cons_of_mem _ (List.mem_cons_of_mem _ hw))) (hat w hw)
  have hk' : (Cond.classLink own ik cls).before args s' = true := vx_ot_at hW0 hvm.symm (hgood _ List.mem_cons_self) hk
  have hini' : (Cond.initialized cls).before args s' = true := vx_ot_at hW0 hvm.symm (hgood _ (List.mem_cons_of_mem _ List.mem_cons_self)) hini
  have hU' : vx_Zq Bundle.tN "UNASSIGNED_STACK" Bundle.steD A s' s'.heap := by rw [hhp]; exact vx_Zq.moved hW0.alike (hU.kept hS.2.1)
  have hN' : vx_Zq Bundle.tN "SUPPRESSED_SENTINEL" Bundle.listD A s' s'.heap := by rw [hhp]; exact vx_Zq.moved hW0.alike (hN.kept hS.2.1)
  have h : ∀ w ∈ Bundle.ownAtoms0 own ic cls names, w.before args s' = true := vx_own hat' (vx_isRefq hU'.1) (vx_isRefq hN'.1) hU'.2.word hN'.2.word
  have hown' : s'.vm.findClass own = some m.cls := by rw [hvm]; exact hown
  have hins : (Cond.instantiable cls 6).before args s' = true := h _ (by simp [Bundle.ownAtoms0])
  obtain ⟨vm₁, cX, kX, hfX, hkX, -, -, X₁, st1⟩ := Y.newCold hexec (own := own) (C := cls) (index := ik) (n := 6) hown' hk' hins hini'
    (g := F0 m pc ls rest) rfl (by rw [hb]; exact d0) (Nat.le_refl _) (Nat.le_refl _)
  generalize hT1 : (T.setVm vm₁).pushCell { cls := cX, slots := kX.instanceTypes.map defaultValue, vm := .none } = T1 at X₁ st1
  have hcat : (Value.ref T.heap.size).category = 1 := rfl
  have hcellA : T1.heap[T.heap.size]? = some (freshCell cX kX) := by rw [← hT1]; exact State.heap_pushCell_size _ _
  have d3' : decode c.code (pc + 3) = .ok (.dup, 1) := by rw [hb]; exact d3
  obtain ⟨U, hsteps, hrun, hend, hW, hsame, ce, hce, hO⟩ := X₁.ctorThrow0 hexec htr (own := own) (cls := cls) (names := names) (ic := ic) hown' hcls hnames h (fun x hx => nomatch hx) hfX hkX hcellA (by rw [hhp, hT]; exact Nat.le_refl _)
    (g := { method := m, pc := pc + 4, locals := ls, stack := .ref T.heap.size :: .ref T.heap.size :: rest, locked := none }) rfl hsize rfl rfl (rest := rest) rfl
    (by rw [hb]; exact d4) (by rw [hb]; exact d7) hout hRframes (by simp only [List.map_cons, List.sum_cons, hcat]; omega) hlocks
  obtain ⟨f1, f2⟩ := vx_frame hsame
  rw [hhp] at f1 f2
  have hWs : s.WarmedH U.vm := State.WarmedH.trans hW0 hW
  have hcl : s.vm.findClass cls = some ce.cls := by
    have h9 := hO.cls
    rw [hvm] at h9
    exact h9
  have hall : s.sameButNew ({ U with vm := s.vm } : State) locs mc ms := by
    subst hA
    obtain ⟨e1, e2⟩ := hsame
    rw [State.setFrames_setFrames] at e1
    have h2 : (T.setVm s.vm).sameButNew ({ U with vm := s.vm } : State) [] (0 + 1) (0 + 6) := ⟨e1, e2⟩
    have h3 := X.same.trans h2
    rw [List.append_nil] at h3
    exact h3.mono hc hs
  refine ⟨U, ?_, .threw T.heap.size, hrun, hend, Or.inr ⟨T.heap.size, rfl, cls, ce, locs, hx U hWs.alike f1 (fun q hq => f2 q hq (fun z hz => nomatch hz)), hce, hO.vm, hcl, hWs, hall, hf⟩⟩
  refine st1 _ ?_
  show Steps p.tables e below (T1.setTop { method := m, pc := pc + 3, locals := ls, stack := .ref T.heap.size :: rest, locked := none }) _
  jvm_step X₁.here [X₁.here.top, hexec, d3', Value.category]
  exact hsteps
/-- 'throw new E("text")': new; dup; ldc; invokespecial; athrow -/
theorem vx_throwS {cc : ByteArray} {pc : Nat} (hexec : p.tables.exec = Jvm.exec) (hb : c.code = cc) (hl : l.stackTraces = false) {own cls text : String} {names : List String} {ik is ic mc ms sa : Nat} {A : Nat → Prop}
    (hown : s.vm.findClass own = some m.cls) (hcls : Bundle.fit cls = true) (hnames : ∀ n ∈ names, Bundle.fit n = true)
    (hk : (Cond.classLink own ik cls).before args s = true) (hini : (Cond.initialized cls).before args s = true) (hstr : vk_R own is text sa s) (hat : ∀ w ∈ vx_atS own ic cls names, w.before args s = true)
    (hgood : ∀ w ∈ Cond.classLink own ik cls :: Cond.initialized cls :: vx_atS own ic cls names, vx_ot w = true)
    (hU : vx_Zq Bundle.tN "UNASSIGNED_STACK" Bundle.steD A s s.heap) (hN : vx_Zq Bundle.tN "SUPPRESSED_SENTINEL" Bundle.listD A s s.heap) (hS : va_S A s.heap H locs) (hsize : ls.size = c.maxLocals)
    (d0 : decode cc pc = .ok (.new ik, 3)) (d3 : decode cc (pc + 3) = .ok (.dup, 1)) (d4 : decode cc (pc + 4) = .ok (.ldc is, 2)) (d6 : decode cc (pc + 6) = .ok (.invokespecial ic, 3)) (d9 : decode cc (pc + 9) = .ok (.athrow, 1))
    (hout : ∀ x ∈ c.exceptionTable.toList, covers x (pc + 9) = false)
    (hRframes : names.length + 3 < R.frames) (hRlocals : (rest.map fun v => v.category).sum + (13 * (names.length + 1) + 43) ≤ R.locals) (hRcells : cells + 1 ≤ R.cells) (hRslots : slots + 6 ≤ R.slots) (hlocks : meth.locks = false)
    (hx : ∀ t : State, s.vm.Alike t.vm → H.size ≤ t.heap.size → (∀ q : Nat, q < H.size → t.heap[q]? = H[q]?) → XC cls s t)
    (hf : ∀ z ∈ locs, free z.base) (hc : cells + 1 ≤ mc) (hs : slots + 6 ≤ ms) :
    W p l e R s m args below meth c H locs cells slots (vx_MQ below Qc XC args s mc ms free) (F0 m pc ls rest) := by
  intro T hT X
  have htr : e.platform.stackTraces = false := (show e.platform.stackTraces = l.stackTraces by rw [X.admits.platform]).trans hl
  have Y := vx_rebase X (R' := { frames := R.frames, locals := R.locals, cells := 1, slots := 6 }) (Nat.le_refl _) (Nat.le_refl _) hRcells hRslots
  obtain ⟨s', hA⟩ : ∃ z, z = (T.setVm s.vm).setFrames (.invoking m args :: below) := ⟨_, rfl⟩
  rw [← hA] at Y
  have hvm : s'.vm = s.vm := by rw [hA]; rfl
  have hhp : s'.heap = H := by rw [hA]; exact hT
  have hW0 : s.WarmedH s'.vm := by rw [hvm]; exact State.WarmedH.refl s
  have hat' : ∀ w ∈ vx_atS own ic cls names, w.before args s' = true := fun w hw => vx_ot_at hW0 hvm.symm (hgood w (List.mem_cons_of_mem _ (List.mem_cons_of_mem _ hw))) (hat w hw)
  have hk' : (Cond.classLink own ik cls).before args s' = true := vx_ot_at hW0 hvm.symm (hgood _ List.mem_cons_self) hk
  have hini' : (Cond.initialized cls).before args s' = true := vx_ot_at hW0 hvm.symm (hgood _ (List.mem_cons_of_mem _ List.mem_cons_self)) hini
  have hU' : vx_Zq Bundle.tN "UNASSIGNED_STACK" Bundle.steD A s' s'.heap := by rw [hhp]; exact vx_Zq.moved hW0.alike (hU.kept hS.2.1)
  have hN' : vx_Zq Bundle.tN "SUPPRESSED_SENTINEL" Bundle.listD A s' s'.heap := by rw [hhp]; exact vx_Zq.moved hW0.alike (hN.kept hS.2.1)
  have h : ∀ w ∈ Bundle.ownAtoms own ic cls names, w.before args s' = true := vx_own hat' (vx_isRefq hU'.1) (vx_isRefq hN'.1) hU'.2.word hN'.2.word
  have hown' : s'.vm.findClass own = some m.cls := by rw [hvm]; exact hown
  have hins : (Cond.instantiable cls 6).before args s' = true := h _ (by simp [Bundle.ownAtoms])
  obtain ⟨vm₁, cX, kX, hfX, hkX, -, -, X₁, st1⟩ := Y.newCold hexec (own := own) (C := cls) (index := ik) (n := 6) hown' hk' hins hini'
    (g := F0 m pc ls rest) rfl (by rw [hb]; exact d0) (Nat.le_refl _) (Nat.le_refl _)
  generalize hT1 : (T.setVm vm₁).pushCell { cls := cX, slots := kX.instanceTypes.map defaultValue, vm := .none } = T1 at X₁ st1
  have hcat : (Value.ref T.heap.size).category = 1 := rfl
  have hcellA : T1.heap[T.heap.size]? = some (freshCell cX kX) := by rw [← hT1]; exact State.heap_pushCell_size _ _
  have d3' : decode c.code (pc + 3) = .ok (.dup, 1) := by rw [hb]; exact d3
  have d4' : decode c.code (pc + 4) = .ok (.ldc is, 2) := by rw [hb]; exact d4
  have hstr' : vk_R own is text sa s' := vk_R.warm hW0 hstr
  obtain ⟨U, hsteps, hrun, hend, hW, hsame, ce, hce, hO⟩ := X₁.ctorThrowS hexec htr (own := own) (cls := cls) (names := names) (ic := ic) hown' hcls hnames h (fun x hx => nomatch hx) hfX hkX hcellA (by rw [hhp, hT]; exact Nat.le_refl _) (msg := .ref sa) rfl
    (g := { method := m, pc := pc + 6, locals := ls, stack := .ref sa :: .ref T.heap.size :: .ref T.heap.size :: rest, locked := none }) rfl hsize rfl rfl (rest := rest) rfl
    (by rw [hb]; exact d6) (by rw [hb]; exact d9) hout hRframes (by simp only [List.map_cons, List.sum_cons, hcat]; omega) hlocks
  obtain ⟨f1, f2⟩ := vx_frame hsame
  rw [hhp] at f1 f2
  have hWs : s.WarmedH U.vm := State.WarmedH.trans hW0 hW
  have hcl : s.vm.findClass cls = some ce.cls := by
    have h9 := hO.cls
    rw [hvm] at h9
    exact h9
  have hall : s.sameButNew ({ U with vm := s.vm } : State) locs mc ms := by
    subst hA
    obtain ⟨e1, e2⟩ := hsame
    rw [State.setFrames_setFrames] at e1
    have h2 : (T.setVm s.vm).sameButNew ({ U with vm := s.vm } : State) [] (0 + 1) (0 + 6) := ⟨e1, e2⟩
    have h3 := X.same.trans h2
    rw [List.append_nil] at h3
    exact h3.mono hc hs
  refine ⟨U, ?_, .threw T.heap.size, hrun, hend, Or.inr ⟨T.heap.size, rfl, cls, ce, locs, hx U hWs.alike f1 (fun q hq => f2 q hq (fun z hz => nomatch hz)), hce, hO.vm, hcl, hWs, hall, hf⟩⟩
  refine st1 _ ?_
  show Steps p.tables e below (T1.setTop { method := m, pc := pc + 3, locals := ls, stack := .ref T.heap.size :: rest, locked := none }) _
  jvm_step X₁.here [X₁.here.top, hexec, d3', Value.category]
  exact X₁.ldcString hexec (own := own) (text := text) (index := is) (a := sa) hown' hstr'.1 hstr'.2
    (g := { method := m, pc := pc + 4, locals := ls, stack := .ref T.heap.size :: .ref T.heap.size :: rest, locked := none }) rfl d4' _ hsteps
/-- 'throw new E("text")', the text by a wide index -/
theorem vx_throwSW {cc : ByteArray} {pc : Nat} (hexec : p.tables.exec = Jvm.exec) (hb : c.code = cc) (hl : l.stackTraces = false) {own cls text : String} {names : List String} {ik is ic mc ms sa : Nat} {A : Nat → Prop}
    (hown : s.vm.findClass own = some m.cls) (hcls : Bundle.fit cls = true) (hnames : ∀ n ∈ names, Bundle.fit n = true)
    (hk : (Cond.classLink own ik cls).before args s = true) (hini : (Cond.initialized cls).before args s = true) (hstr : vk_R own is text sa s) (hat : ∀ w ∈ vx_atS own ic cls names, w.before args s = true)
    (hgood : ∀ w ∈ Cond.classLink own ik cls :: Cond.initialized cls :: vx_atS own ic cls names, vx_ot w = true)
    (hU : vx_Zq Bundle.tN "UNASSIGNED_STACK" Bundle.steD A s s.heap) (hN : vx_Zq Bundle.tN "SUPPRESSED_SENTINEL" Bundle.listD A s s.heap) (hS : va_S A s.heap H locs) (hsize : ls.size = c.maxLocals)
    (d0 : decode cc pc = .ok (.new ik, 3)) (d3 : decode cc (pc + 3) = .ok (.dup, 1)) (d4 : decode cc (pc + 4) = .ok (.ldc_w is, 3)) (d7 : decode cc (pc + 7) = .ok (.invokespecial ic, 3)) (d10 : decode cc (pc + 10) = .ok (.athrow, 1))
    (hout : ∀ x ∈ c.exceptionTable.toList, covers x (pc + 10) = false)
    (hRframes : names.length + 3 < R.frames) (hRlocals : (rest.map fun v => v.category).sum + (13 * (names.length + 1) + 43) ≤ R.locals) (hRcells : cells + 1 ≤ R.cells) (hRslots : slots + 6 ≤ R.slots) (hlocks : meth.locks = false)
    (hx : ∀ t : State, s.vm.Alike t.vm → H.size ≤ t.heap.size → (∀ q : Nat, q < H.size → t.heap[q]? = H[q]?) → XC cls s t)
    (hf : ∀ z ∈ locs, free z.base) (hc : cells + 1 ≤ mc) (hs : slots + 6 ≤ ms) :
    W p l e R s m args below meth c H locs cells slots (vx_MQ below Qc XC args s mc ms free) (F0 m pc ls rest) := by
  intro T hT X
  have htr : e.platform.stackTraces = false := (show e.platform.stackTraces = l.stackTraces by rw [X.admits.platform]).trans hl
  have Y := vx_rebase X (R' := { frames := R.frames, locals := R.locals, cells := 1, slots := 6 }) (Nat.le_refl _) (Nat.le_refl _) hRcells hRslots
  obtain ⟨s', hA⟩ : ∃ z, z = (T.setVm s.vm).setFrames (.invoking m args :: below) := ⟨_, rfl⟩
  rw [← hA] at Y
  have hvm : s'.vm = s.vm := by rw [hA]; rfl
  have hhp : s'.heap = H := by rw [hA]; exact hT
  have hW0 : s.WarmedH s'.vm := by rw [hvm]; exact State.WarmedH.refl s
  have hat' : ∀ w ∈ vx_atS own ic cls names, w.before args s' = true := fun w hw => vx_ot_at hW0 hvm.symm (hgood w (List.mem_cons_of_mem _ (List.mem_cons_of_mem _ hw))) (hat w hw)
  have hk' : (Cond.classLink own ik cls).before args s' = true := vx_ot_at hW0 hvm.symm (hgood _ List.mem_cons_self) hk
  have hini' : (Cond.initialized cls).before args s' = true := vx_ot_at hW0 hvm.symm (hgood _ (List.mem_cons_of_mem _ List.mem_cons_self)) hini
  have hU' : vx_Zq Bundle.tN "UNASSIGNED_STACK" Bundle.steD A s' s'.heap := by rw [hhp]; exact vx_Zq.moved hW0.alike (hU.kept hS.2.1)
  have hN' : vx_Zq Bundle.tN "SUPPRESSED_SENTINEL" Bundle.listD A s' s'.heap := by rw [hhp]; exact vx_Zq.moved hW0.alike (hN.kept hS.2.1)
  have h : ∀ w ∈ Bundle.ownAtoms own ic cls names, w.before args s' = true := vx_own hat' (vx_isRefq hU'.1) (vx_isRefq hN'.1) hU'.2.word hN'.2.word
  have hown' : s'.vm.findClass own = some m.cls := by rw [hvm]; exact hown
  have hins : (Cond.instantiable cls 6).before args s' = true := h _ (by simp [Bundle.ownAtoms])
  obtain ⟨vm₁, cX, kX, hfX, hkX, -, -, X₁, st1⟩ := Y.newCold hexec (own := own) (C := cls) (index := ik) (n := 6) hown' hk' hins hini'
    (g := F0 m pc ls rest) rfl (by rw [hb]; exact d0) (Nat.le_refl _) (Nat.le_refl _)
  generalize hT1 : (T.setVm vm₁).pushCell { cls := cX, slots := kX.instanceTypes.map defaultValue, vm := .none } = T1 at X₁ st1
  have hcat : (Value.ref T.heap.size).category = 1 := rfl
  have hcellA : T1.heap[T.heap.size]? = some (freshCell cX kX) := by rw [← hT1]; exact State.heap_pushCell_size _ _
  have d3' : decode c.code (pc + 3) = .ok (.dup, 1) := by rw [hb]; exact d3
  have d4' : decode c.code (pc + 4) = .ok (.ldc_w is, 3) := by rw [hb]; exact d4
  have hstr' : vk_R own is text sa s' := vk_R.warm hW0 hstr
  obtain ⟨U, hsteps, hrun, hend, hW, hsame, ce, hce, hO⟩ := X₁.ctorThrowS hexec htr (own := own) (cls := cls) (names := names) (ic := ic) hown' hcls hnames h (fun x hx => nomatch hx) hfX hkX hcellA (by rw [hhp, hT]; exact Nat.le_refl _) (msg := .ref sa) rfl
    (g := { method := m, pc := pc + 7, locals := ls, stack := .ref sa :: .ref T.heap.size :: .ref T.heap.size :: rest, locked := none }) rfl hsize rfl rfl (rest := rest) rfl
    (by rw [hb]; exact d7) (by rw [hb]; exact d10) hout hRframes (by simp only [List.map_cons, List.sum_cons, hcat]; omega) hlocks
  obtain ⟨f1, f2⟩ := vx_frame hsame
  rw [hhp] at f1 f2
  have hWs : s.WarmedH U.vm := State.WarmedH.trans hW0 hW
  have hcl : s.vm.findClass cls = some ce.cls := by
    have h9 := hO.cls
    rw [hvm] at h9
    exact h9
  have hall : s.sameButNew ({ U with vm := s.vm } : State) locs mc ms := by
    subst hA
    obtain ⟨e1, e2⟩ := hsame
    rw [State.setFrames_setFrames] at e1
    have h2 : (T.setVm s.vm).sameButNew ({ U with vm := s.vm } : State) [] (0 + 1) (0 + 6) := ⟨e1, e2⟩
    have h3 := X.same.trans h2
    rw [List.append_nil] at h3
    exact h3.mono hc hs
  refine ⟨U, ?_, .threw T.heap.size, hrun, hend, Or.inr ⟨T.heap.size, rfl, cls, ce, locs, hx U hWs.alike f1 (fun q hq => f2 q hq (fun z hz => nomatch hz)), hce, hO.vm, hcl, hWs, hall, hf⟩⟩
  refine st1 _ ?_
  show Steps p.tables e below (T1.setTop { method := m, pc := pc + 3, locals := ls, stack := .ref T.heap.size :: rest, locked := none }) _
  jvm_step X₁.here [X₁.here.top, hexec, d3', Value.category]
  exact X₁.ldcStringW hexec (own := own) (text := text) (index := is) (a := sa) hown' hstr'.1 hstr'.2
    (g := { method := m, pc := pc + 4, locals := ls, stack := .ref T.heap.size :: .ref T.heap.size :: rest, locked := none }) rfl d4' _ hsteps
end Ends
section Bodies
variable {l : Launch}
theorem vx_ofW {y : MethodName} {ws ws' : List Cond} {rm : Room} {Pc : Array Value → State → Prop} {Qc : Array Value → State → Outcome → State → Prop} {XC : String → State → State → Prop} {mc ms : Nat} {free : Addr → Prop} {cc : ByteArray} {maxL : Nat} {ret : Option FieldType}
    (hy : plainName y.cls = true) (hw : ws = Cond.code y cc maxL ret :: ws')
    (body : ∀ p e s m args below meth c s₁, BodyLoose p l y (headSpec ws rm) cc maxL ret e s m args below meth c s₁ → c.maxLocals = maxL → (∀ x ∈ c.exceptionTable.toList, False) → Pc args s →
      W p l e (headSpec ws rm).room s m args below meth c s.heap [] 0 0 (vx_MQ below Qc XC args s mc ms free) (entryFrame m args maxL)) : vx_Met l y ws rm Pc Qc XC mc ms free := by
  refine MetFree.of_bodyS (code := cc) (maxLocals := maxL) (ret := ret) hy ?_ ?_
  · intro args s m h hn
    obtain ⟨meth, c, h1, h2, h3, h4, h5, h6, -, -⟩ := Cond.code_spec hn (atoms_spec (ws := ws) h _ (by rw [hw]; exact List.mem_cons_self))
    exact ⟨meth, c, h1, h2, h3, h4, h5, h6⟩
  · intro p e s m args below meth c s₁ B hml hP _
    have hh0 : s₁.heap = s.heap := by rw [B.state]; rfl
    have ht : ∀ x ∈ c.exceptionTable.toList, False := by
      obtain ⟨meth9, c9, h1, h2, -, -, -, -, h7, -⟩ := Cond.code_spec B.named (atoms_spec (ws := ws) B.pre _ (by rw [hw]; exact List.mem_cons_self))
      cases Option.some.inj (h1.symm.trans B.method)
      cases Option.some.inj (h2.symm.trans (Stand.of_body B).code)
      intro x hx
      rw [Array.isEmpty_iff.mp h7] at hx
      cases hx
    obtain ⟨t, a1, o, b1, b2, b3⟩ := body p e s m args below meth c s₁ B hml ht hP s₁ hh0 (Stand.of_body B)
    exact ⟨t, o, a1, b1, b2, b3⟩
/-- the table of a body with handlers -/
theorem vx_table {p : Program} {x y : MethodName} {S : Spec} {cc bytes : ByteArray} {maxL maxL' : Nat} {ret ret' : Option FieldType} {e : Env} {s s₁ : State} {m : MethodId} {args : Array Value} {below : List Frame} {meth : Method} {c : Code} {hh : List (Nat × Nat × Nat × Nat)}
    (B : BodyLoose p l y S cc maxL ret e s m args below meth c s₁) (h : (Cond.codeWith y bytes maxL' ret' hh).before args s = true) : c.exceptionTable.toList = tableOf hh := by
  obtain ⟨m9, meth9, c9, hn9, h1, h2, -, -, h6, -⟩ := Cond.codeWith_spec h
  cases Option.some.inj (hn9.symm.trans B.named)
  cases Option.some.inj (h1.symm.trans B.method)
  cases Option.some.inj (h2.symm.trans (Stand.of_body B).code)
  rw [← h6, table_eq]
end Bodies
end VXA
/-! ===== END ===== -/
/-! ===== BEGIN a static call of a method with an exception table ===== -/
section VXS
variable {p : Program} {l : Launch} {e : Env} {R : Room} {s : State} {m : MethodId} {args : Array Value} {below : List Frame} {meth : Method} {c : Code} {T : State} {H : Heap} {locs : List Loc} {cells slots : Nat}
abbrev vx_CSW (R : Room) (s : State) (args : Array Value) (own : String) (index : Nat) (y : MethodName) (bytes : ByteArray) (maxL : Nat) (ret : Option FieldType) (hh : List (Nat × Nat × Nat × Nat)) (ws : List Cond) (rm : Room) (mc ms n : Nat) : Prop :=
  (rm.cells = mc ∧ rm.slots = ms ∧ rm.frames + 1 ≤ R.frames ∧ 8 + (maxL + 11) + rm.locals ≤ R.locals ∧ (∀ w ∈ ws, ∀ (a' : Array Value) (U : State), s.WarmedH U.vm → w.before a' U = true) ∧ Cond.codeWith y bytes maxL ret hh ∈ ws) ∧
  (Cond.codeWith y bytes maxL ret hh).before args s = true ∧ (Cond.initialized y.cls).before args s = true ∧ (y.cls ≠ "java/lang/invoke/MethodHandle" ∧ y.cls ≠ "java/lang/invoke/VarHandle") ∧
  (∀ sig, parseMethodDescriptor y.desc = some sig → n = sig.parameters.length) ∧ (Cond.methodLink own index y).before args s = true ∧ (Cond.static y).before args s = true
theorem vx_cwSW {own : String} {index maxL mc ms : Nat} {y : MethodName} {bytes : ByteArray} {ret : Option FieldType} {hh : List (Nat × Nat × Nat × Nat)} {Ts ws ws' : List Cond} {rm : Room} (n : Nat) (ht : ∀ w ∈ Ts, w.before args s = true) (hT : GoodIn Ts (va_wsS own index y ws)) (hw : ws = Cond.codeWith y bytes maxL ret hh :: ws') (hrc : rm.cells = mc) (hrs : rm.slots = ms)
    (hd : y.cls ≠ "java/lang/invoke/MethodHandle" ∧ y.cls ≠ "java/lang/invoke/VarHandle" ∧ (parseMethodDescriptor y.desc).map (fun d => d.parameters.length) = some n) (hR : rm.frames + 1 ≤ R.frames ∧ 8 + (maxL + 11) + rm.locals ≤ R.locals) :
    vx_CSW R s args own index y bytes maxL ret hh ws rm mc ms n := by
  have ok : ∀ w ∈ va_wsS own index y ws, w.before args s = true := fun w h => ht w (hT w h).1
  have hG : GoodIn Ts ws := fun w h => hT w (by unfold va_wsS; exact List.mem_append_right _ h)
  have hc : Cond.codeWith y bytes maxL ret hh ∈ ws := by rw [hw]; exact List.mem_cons_self
  refine ⟨⟨hrc, hrs, hR.1, hR.2, pay_in ht hG, hc⟩, ht _ (hG _ hc).1, ok _ (by simp [va_wsS]), ⟨hd.1, hd.2.1⟩, fun sig h => ?_, ok _ (by simp [va_wsS]), ok _ (by simp [va_wsS])⟩
  have h2 := hd.2.2
  rw [h] at h2
  exact (Option.some.inj h2).symm
theorem vx_callSW (X : Stand p l e R s m args below meth c T locs cells slots) (hexec : p.tables.exec = Jvm.exec) {own : String} {index : Nat} {y : MethodName} {bytes : ByteArray} {maxL : Nat} {ret : Option FieldType} {hh : List (Nat × Nat × Nat × Nat)}
    (hown : s.vm.findClass own = some m.cls) (hlink : (Cond.methodLink own index y).before args s = true) (hstat : (Cond.static y).before args s = true) (hinit : (Cond.initialized y.cls).before args s = true)
    (hcode : (Cond.codeWith y bytes maxL ret hh).before args s = true) (hy : y.cls ≠ "java/lang/invoke/MethodHandle" ∧ y.cls ≠ "java/lang/invoke/VarHandle")
    {W9 : Nat} {Pre : Pt → Array Value → Prop} {Post : Pt → Array Value → Option Value → Pt → Prop} (hK : Back l R p e below s args y 3 W9 Pre Post)
    {g : JFrame} (hg : g.method = m) (hsize : g.locals.size = c.maxLocals) {argsL rest : List Value} (hlen : ∀ sig, parseMethodDescriptor y.desc = some sig → argsL.length = sig.parameters.length)
    (hstack : g.stack = argsL.reverse ++ rest) (hW : 2 * g.monitorRoom + (rest.map fun v => v.category).sum ≤ W9) (hdg : decode c.code g.pc = .ok (.invokestatic index, 3))
    (hpre : ∀ vm₁, s.WarmedH vm₁ → Pre ⟨T.setVm vm₁, locs, cells, slots⟩ argsL.toArray) :
    ∃ (v : Option Value) (vm₁ : Vm) (B : Pt), s.WarmedH vm₁ ∧ Stand p l e R s m args below meth c B.U B.locs B.cells B.slots ∧ Post ⟨T.setVm vm₁, locs, cells, slots⟩ argsL.toArray v B ∧
      ∀ target, Steps p.tables e below (B.U.setTop { g with pc := g.pc + 3, stack := v.toList ++ rest }) target → Steps p.tables e below (T.setTop g) target := by
  obtain ⟨mk, methM, cM, hnamed, hmethM, -, -, -, -, -, -, hsigM⟩ := Cond.codeWith_spec hcode
  have hstatic : methM.isStatic = true := Cond.static_spec hnamed hmethM hstat
  obtain ⟨kP, hkP, -⟩ := className_of_methodNamed hnamed
  have hinitP : kP.init = .initialized := Cond.initialized_spec (findClass_of_methodNamed hnamed) hkP hinit
  obtain ⟨vm₁, X₁, hstep₁⟩ := X.invokestatic hexec hown hlink hnamed hmethM hstatic hkP hinitP hy (g := g) hg (argsL := argsL) (rest := rest) (hlen _ hsigM) hstack hdg
  obtain ⟨v, B, X', hpost, hsteps⟩ := hK m meth c ⟨T.setVm vm₁, locs, cells, slots⟩ { g with stack := rest } (.invokestatic index) mk argsL.toArray X₁ hg hsize hdg hW (X₁.named hnamed) (hpre vm₁ X₁.warmed)
  exact ⟨v, vm₁, B, X₁.warmed, X', hpost, fun target h => hstep₁ _ fun acts => by rw [doInvoke_state]; exact hsteps.trans h⟩
theorem vx_runSW {y : MethodName} {bytes cc : ByteArray} {maxL nL mc ms n index : Nat} {ret : Option FieldType} {hh : List (Nat × Nat × Nat × Nat)} {ws : List Cond} {rm : Room} {Pc : Array Value → State → Prop} {Qc : Array Value → State → Outcome → State → Prop} {free : Addr → Prop} {Ts : List Cond} {own : String} {As rest : List Value} {g : JFrame}
    (S : CallFix p m c cc nL s args Ts own) (hM : Met l y ws rm Pc Qc mc ms free) (cw : vx_CSW R s args own index y bytes maxL ret hh ws rm mc ms n) (hp : PreS s H Pc As)
    (hg : g.method = m) (hn : As.length = n) (hsize : g.locals.size = nL) (hstack : g.stack = As.reverse ++ rest) (hW : 2 * g.monitorRoom + (rest.map fun v => v.category).sum ≤ 8) (hdg : decode cc g.pc = .ok (.invokestatic index, 3)) (hf : cells + mc ≤ R.cells ∧ slots + ms ≤ R.slots) :
    va_Run p l e R s m args below meth c H locs cells slots mc ms g rest (Qc As.toArray) (free) := by
  obtain ⟨⟨hrc, hrs, hfr, hlo, hws, hcw⟩, hcode, hini, hy, hlen, hl, hstt⟩ := cw
  have hK : Back l R p e below s args y 3 8 (PreOf R mc ms Pc) (PostOf Qc mc ms free) := va_backW (hh := hh) (bytes := bytes) (maxL := maxL) (ret := ret) hM hp.1 hrc hrs hfr hlo hws hcw (fun a' U hW => word_at hW (Or.inl (by first | rfl | simp [Cond.onTables, Cond.keeps, Cond.steady])) hini)
  obtain ⟨hx, hb, hml, ho, -⟩ := S
  intro T hT X
  obtain ⟨v, vm₁, ⟨U', l2, c2, s2⟩, hW₁, X', ⟨g', mk, t, L, e1, e2, hq, h1, hL, h2, h3⟩, st⟩ := vx_callSW X hx (hh := hh) (bytes := bytes) (maxL := maxL) (ret := ret) ho hl hstt hini hcode hy hK hg (hsize.trans hml.symm) (argsL := As) (rest := rest) (fun sig h => hn.trans (hlen sig h)) hstack hW (by rw [hb]; exact hdg)
    (fun vm₁ hW₁ => ⟨hf.1, hf.2, hp.2 (T.setVm vm₁) hT hW₁⟩)
  dsimp only [Pt.U, Pt.locs, Pt.cells, Pt.slots] at X' e1 e2 h1 h2 h3 st
  subst h1; subst h2; subst h3
  exact ⟨v, (T.setVm vm₁).calling g' mk As.toArray, t, U', L, hT, X', hL, e1, e2, hq, st⟩
/-- not caught here, past rows that name other classes: it goes on to the caller -/
theorem vx_outP {p : Program} {l : Launch} {e : Env} {R : Room} {s : State} {m : MethodId} {args : Array Value} {below : List Frame} {meth : Method} {c : Code} {H : Heap} {locs : List Loc} {cells slots : Nat} {free : Addr → Prop} {ls : Array Slot} {rest : List Value} {Qc : Array Value → State → Outcome → State → Prop} {XC : String → State → State → Prop}
    {pc : Nat} {own E : String} {ce : Cell} {q : Addr} {mc ms : Nat} (hown : s.vm.findClass own = some m.cls) (hlocks : meth.locks = false)
    (hpass : ∀ z ∈ c.exceptionTable.toList, covers z pc = false ∨ (z.catchType ≠ 0 ∧ ∃ nm : String, (Cond.classLink own z.catchType nm).before args s = true ∧ va_Nc E nm s)) (hcell : H[q]? = some ce) (hv : ce.vm = .none) (hcl : s.vm.findClass E = some ce.cls)
    (hx : ∀ t : State, t.heap = H → s.vm.Alike t.vm → XC E s t) (hf : ∀ z ∈ locs, free z.base) (hc : cells ≤ mc) (hs : slots ≤ ms) :
    vx_W p l e R s m args below meth c H locs cells slots (vx_MQ below Qc XC args s mc ms free) (F0 m pc ls rest) q := by
  intro T hT X
  have hpl : e.platform.magicAccessors = ({} : Platform).magicAccessors := by rw [X.admits.platform]
  obtain ⟨vm', hW', X', st⟩ := X.outThrough hlocks q (g := F0 m pc ls rest) rfl rfl rfl (cell := ce) (by rw [hT]; exact hcell) (by rw [hv]; rfl)
    (by obtain ⟨k9, h9, -⟩ := Vm.findClass_spec hcl; exact ⟨k9, h9⟩) (fun z hz => by
      rcases hpass z hz with h | ⟨hz0, nm, hl1, hn1⟩
      · exact Or.inl h
      · obtain ⟨c6, hc6, hcl6⟩ := Cond.classLink_spec hown hl1 e.platform hpl
        obtain ⟨a8, b8, h1, h2, h3⟩ := hn1
        cases Option.some.inj (h1.symm.trans hcl)
        cases Option.some.inj (h2.symm.trans hc6)
        exact Or.inr ⟨hz0, _, hcl6, h3⟩)
  obtain ⟨g₀, hfr⟩ := X'.frames_eq
  have hcell9 : ((T.setVm vm').setFrames (.throwing q :: below)).heap[q]? = some ce := by
    show T.heap[q]? = some ce
    rw [hT]; exact hcell
  have hend : Ended ((T.setVm vm').setFrames (.throwing q :: below)) below (.threw q) := State.frames_setFrames _ (State.cur_lt_of_frames hfr)
  refine ⟨(T.setVm vm').setFrames (.throwing q :: below), ?_, .threw q, X'.here.running, hend, Or.inr ⟨q, rfl, E, ce, locs, hx _ hT (X'.ends _).1.alike, hcell9, hv, hcl, (X'.ends _).1, (X'.ends _).2.mono hc hs, hf⟩⟩
  rw [X.pushThrowing_eq]
  exact st
/-- a thing of a world lies in the heap -/
theorem vx_lt {D : va_G} {cl : List vw_C} {ws : va_W} {H1 : Heap} (h : va_P D cl ws H1) {k : Nat} {q : Nat × va_E} (hk : ws[k]? = some q) : q.1 < H1.size := (h k q hk).lt
end VXS
/-! ===== END ===== -/
/-! ===== BEGIN methods with a table of their own: called by a name, returning or throwing ===== -/
section VXH
/-! vx_backW, vx_callVX, vx_callSX, vx_callVW, vx_runVW, vx_runVX, vx_runSX, vx_ofWH follow the same proofs as their sisters above (Free/Laws.lean, Shelf42/LK1.lean); vx_outP calls Shelf42/NT130.lean (outThrough). -/
section
variable {l : Launch} {R : Room} {p : Program} {e : Env} {below : List Frame} {s : State} {sargs : Array Value} {y : MethodName} {len W9 : Nat}
theorem vx_backW {ws : List Cond} {rm : Room} {Pc : Array Value → State → Prop} {Qc : Array Value → State → Outcome → State → Prop} {XC : String → State → State → Prop} {mc ms : Nat} {free : Addr → Prop} {bytes : ByteArray} {maxL : Nat} {ret : Option FieldType} {hh : List (Nat × Nat × Nat × Nat)}
    (hM : vx_Met l y ws rm Pc Qc XC mc ms free) (hblind : FrameBlind Pc) (hrc : rm.cells = mc) (hrs : rm.slots = ms)
    (hframes : rm.frames + 1 ≤ R.frames) (hlocals : W9 + (maxL + 11) + rm.locals ≤ R.locals)
    (hws : ∀ w ∈ ws, ∀ a' U, s.WarmedH U.vm → w.before a' U = true) (hcode : Cond.codeWith y bytes maxL ret hh ∈ ws) (hinit : ∀ a' U, s.WarmedH U.vm → (Cond.initialized y.cls).before a' U = true) :
    vx_Back l R p e below s sargs y len W9 (PreOf R mc ms Pc) (PostOf Qc mc ms free) (vx_Post XC mc ms free) := by
  intro m meth c A g ig mk a X hg hsize hdg hW hn hp
  have h1 : (headSpec ws rm).pre.before a A.U = true := atoms_intro fun w hw => hws w hw _ _ X.warmed
  have h2 : (Cond.codeWith y bytes maxL ret hh).before a A.U = true := hws _ hcode _ _ X.warmed
  have h3 : (Cond.initialized y.cls).before a A.U = true := hinit _ _ X.warmed
  have h4 : A.cells + (headSpec ws rm).room.cells ≤ R.cells := by rw [show (headSpec ws rm).room.cells = mc from hrc]; exact hp.1
  have h5 : A.slots + (headSpec ws rm).room.slots ≤ R.slots := by rw [show (headSpec ws rm).room.slots = ms from hrs]; exact hp.2.1
  have hPc : Pc a (A.U.calling g mk a) := hblind _ _ _ _ hp.2.2
  obtain ⟨U, Ls, c0, s0⟩ := A
  dsimp only [Pt.U, Pt.locs, Pt.cells, Pt.slots] at h1 h2 h3 h4 h5 X hn hPc ⊢
  obtain ⟨m9, methY, cY, hn9, hmY, hcY, -, hlY, -⟩ := Cond.codeWith_spec h2
  cases Option.some.inj (hn9.symm.trans hn)
  obtain ⟨kY, hkY, -⟩ := className_of_methodNamed hn
  have hinitY : kY.init = .initialized := Cond.initialized_spec (findClass_of_methodNamed hn) hkY h3
  have h : At U g.method c below := by rw [hg]; exact X.here
  have hlocals9 : W9 + (maxL + 11) + (headSpec ws rm).room.locals ≤ R.locals := hlocals
  have happ : (headSpec ws rm).appliesLoose y e.platform (U.calling g mk a) = true :=
    Spec.appliesLoose_calling (g := g) h hdg hn hkY hinitY
      (X.room_calling (g := g) (R' := (headSpec ws rm).room) hsize hmY hcY hframes (by rw [hlY]; omega) h4 h5) h1
  obtain ⟨mid, hmid⟩ := h.above
  have hfr : (U.setTop g).frames = (.java g :: mid) ++ below := by rw [State.frames_setTop' g h.top, hmid]; rfl
  obtain ⟨o, s₂, hsteps, -, hend, hq⟩ := Steps.callFree hM p X.admits X.cas X.clock (acts := []) hfr happ hPc trivial
  have hq' : vx_Q Qc XC mc ms free a (U.calling g mk a) o s₂ := hq
  rw [State.frames_setTop' g h.top] at hend
  obtain ⟨g₀, hg0⟩ := Option.isSome_iff_exists.mp h.top
  obtain ⟨r, hr⟩ := State.topJava?_eq_some.mp hg0
  have hr' : (({ U with heap := s₂.heap, slotsUsed := s₂.slotsUsed } : State).setVm s₂.vm).frames = .java g₀ :: r := hr
  rcases hq' with ⟨hqc, L, hfe, hL⟩ | ⟨q, rfl, E, ce, L, hx, hce, hcv, hcl, hW₂, hsm, hL⟩
  · obtain ⟨⟨v, rfl⟩, hW₂, e2, q2, q3, q4, q5, q6⟩ := id hfe
    have e3 : s₂ = ({ (U.calling g mk a).setFrames s₂.frames with heap := s₂.heap, slotsUsed := s₂.slotsUsed } : State).setVm s₂.vm := by
      have : s₂ = ({ s₂ with vm := (U.calling g mk a).vm } : State).setVm s₂.vm := rfl
      rw [e2] at this
      exact this
    obtain ⟨c₂, i₂, len₂, hc₂, hd₂, hf₂⟩ := hend
    have hW' : U.WarmedH s₂.vm := hW₂
    have hcc : c₂ = c := by
      have h1 : s₂.code? g.method = U.code? g.method := by
        rw [State.code?_eq, State.code?_eq, hW'.alike.method?]
      exact Option.some.inj (hc₂.symm.trans (h1.trans h.code))
    subst hcc
    have hlen : len₂ = len := by rw [hdg] at hd₂; cases hd₂; rfl
    subst hlen
    have hs₂ : s₂ = (({ U with heap := s₂.heap, slotsUsed := s₂.slotsUsed } : State).setVm s₂.vm).setTop { g with pc := g.pc + len₂, stack := v.toList ++ g.stack } := by
      refine e3.trans ?_
      rw [hf₂, State.calling_eq h.top, State.setFrames_setFrames, State.setTop_of_frames _ hr', hr]
      rfl
    have hsame : U.sameButNew ({ U with heap := s₂.heap, slotsUsed := s₂.slotsUsed } : State) L mc ms := by
      refine ⟨?_, q2, q3, q4, q5, q6⟩
      obtain ⟨t, ht, -⟩ := State.frames_cons hr
      show ({ U with heap := s₂.heap, slotsUsed := s₂.slotsUsed } : State) = { U.setFrames U.frames with heap := s₂.heap, slotsUsed := s₂.slotsUsed }
      rw [State.setFrames_self ht]
    subst hg
    refine Or.inl ⟨v, ⟨(({ U with heap := s₂.heap, slotsUsed := s₂.slotsUsed } : State).setVm s₂.vm), Ls ++ L, c0 + mc, s0 + ms⟩,
      ⟨X.admits, X.cas, X.clock, X.frames, X.room, X.hears, X.method, X.code, (X.here.setHeapUsed s₂.heap s₂.slotsUsed).setVm hW'.alike, X.tail, State.WarmedH.trans X.warmed hW', X.limits, X.bytes, X.same.trans (hsame.setVm s.vm)⟩,
      ⟨g, mk, s₂, L, rfl, rfl, hqc, rfl, hL, rfl, rfl⟩, ?_⟩
    show Steps p.tables e below _ ((({ U with heap := s₂.heap, slotsUsed := s₂.slotsUsed } : State).setVm s₂.vm).setTop { g with pc := g.pc + len₂, stack := v.toList ++ g.stack })
    rw [← hs₂]
    exact hsteps
  · obtain ⟨e2, q2, q3, q4, q5, q6⟩ := id hsm
    have e3 : s₂ = ({ (U.calling g mk a).setFrames s₂.frames with heap := s₂.heap, slotsUsed := s₂.slotsUsed } : State).setVm s₂.vm := by
      have : s₂ = ({ s₂ with vm := (U.calling g mk a).vm } : State).setVm s₂.vm := rfl
      rw [e2] at this
      exact this
    have hf₂ : s₂.frames = .throwing q :: .java g :: U.frames.tail := hend
    have hW' : U.WarmedH s₂.vm := hW₂
    have hs₂ : s₂ = ((({ U with heap := s₂.heap, slotsUsed := s₂.slotsUsed } : State).setVm s₂.vm).setTop g).pushFrame (.throwing q) := by
      refine e3.trans ?_
      rw [hf₂, State.calling_eq h.top, State.setFrames_setFrames, State.pushFrame, State.frames_setTop _ hr', State.setTop_of_frames _ hr', State.setFrames_setFrames, hr]
      rfl
    have hsame : U.sameButNew ({ U with heap := s₂.heap, slotsUsed := s₂.slotsUsed } : State) L mc ms := by
      refine ⟨?_, q2, q3, q4, q5, q6⟩
      obtain ⟨t, ht, -⟩ := State.frames_cons hr
      show ({ U with heap := s₂.heap, slotsUsed := s₂.slotsUsed } : State) = { U.setFrames U.frames with heap := s₂.heap, slotsUsed := s₂.slotsUsed }
      rw [State.setFrames_self ht]
    subst hg
    refine Or.inr ⟨q, ⟨(({ U with heap := s₂.heap, slotsUsed := s₂.slotsUsed } : State).setVm s₂.vm), Ls ++ L, c0 + mc, s0 + ms⟩,
      ⟨X.admits, X.cas, X.clock, X.frames, X.room, X.hears, X.method, X.code, (X.here.setHeapUsed s₂.heap s₂.slotsUsed).setVm hW'.alike, X.tail, State.WarmedH.trans X.warmed hW', X.limits, X.bytes, X.same.trans (hsame.setVm s.vm)⟩,
      ⟨g, mk, s₂, L, E, ce, rfl, rfl, hx, hce, hcv, hcl, rfl, hL, rfl, rfl⟩, ?_⟩
    show Steps p.tables e below _ (((({ U with heap := s₂.heap, slotsUsed := s₂.slotsUsed } : State).setVm s₂.vm).setTop g).pushFrame (.throwing q))
    rw [← hs₂]
    exact hsteps
end
variable {p : Program} {l : Launch} {e : Env} {R : Room} {s : State} {m : MethodId} {args : Array Value} {below : List Frame} {meth : Method} {c : Code} {T : State} {H : Heap} {locs : List Loc} {cells slots : Nat}
theorem vx_callVX (X : Stand p l e R s m args below meth c T locs cells slots) (hexec : p.tables.exec = Jvm.exec) {own C : String} {index : Nat} {y : MethodName} {bytes : ByteArray} {maxL : Nat} {ret : Option FieldType} {hh : List (Nat × Nat × Nat × Nat)}
    (hown : s.vm.findClass own = some m.cls) (hlink : (Cond.methodLink own index y).before args s = true) (hinst : (Cond.instanceMethod y).before args s = true) (hsel : (Cond.selects C y y).before args s = true)
    (hcode : (Cond.codeWith y bytes maxL ret hh).before args s = true) (hy : y.cls ≠ "java/lang/invoke/MethodHandle" ∧ y.cls ≠ "java/lang/invoke/VarHandle")
    {W9 : Nat} {Pre : Pt → Array Value → Prop} {Post : Pt → Array Value → Option Value → Pt → Prop} {PostX : Pt → Array Value → Addr → Pt → Prop} (hK : vx_Back l R p e below s args y 3 W9 Pre Post PostX)
    {b : Addr} {cellB : Cell} (hcell : T.heap[b]? = some cellB) (hobj : cellB.vm.isStatics = false) (hcls : s.vm.findClass C = some cellB.cls)
    {g : JFrame} (hg : g.method = m) (hsize : g.locals.size = c.maxLocals) {argsL rest : List Value} (hlen : ∀ sig, parseMethodDescriptor y.desc = some sig → argsL.length = sig.parameters.length)
    (hstack : g.stack = argsL.reverse ++ .ref b :: rest) (hW : 2 * g.monitorRoom + (rest.map fun v => v.category).sum ≤ W9) (hdg : decode c.code g.pc = .ok (.invokevirtual index, 3))
    (hpre : ∀ vm₁, s.WarmedH vm₁ → Pre ⟨T.setVm vm₁, locs, cells, slots⟩ (Value.ref b :: argsL).toArray) :
    (∃ (v : Option Value) (vm₁ : Vm) (B : Pt), s.WarmedH vm₁ ∧ Stand p l e R s m args below meth c B.U B.locs B.cells B.slots ∧ Post ⟨T.setVm vm₁, locs, cells, slots⟩ (Value.ref b :: argsL).toArray v B ∧
      ∀ target, Steps p.tables e below (B.U.setTop { g with pc := g.pc + 3, stack := v.toList ++ rest }) target → Steps p.tables e below (T.setTop g) target) ∨
    (∃ (q : Addr) (vm₁ : Vm) (B : Pt), s.WarmedH vm₁ ∧ Stand p l e R s m args below meth c B.U B.locs B.cells B.slots ∧ PostX ⟨T.setVm vm₁, locs, cells, slots⟩ (Value.ref b :: argsL).toArray q B ∧
      Steps p.tables e below (T.setTop g) ((B.U.setTop { g with stack := rest }).pushFrame (.throwing q))) := by
  obtain ⟨mk, methM, hnamed, hmethM, hstM, habM⟩ := Cond.instanceMethod_spec hinst
  obtain ⟨m8, methM', cM, hn8, hmethM', -, -, -, -, -, -, hsigM⟩ := Cond.codeWith_spec hcode
  cases Option.some.inj (hn8.symm.trans hnamed)
  cases hmethM.symm.trans hmethM'
  obtain ⟨c2, r2, m2, q1, q2, q3, q4, kP, hkP, hkPi⟩ := Cond.selects_spec hsel
  cases hcls.symm.trans q1
  cases (State.methodFound?_of_named hnamed hy).symm.trans q2
  cases hnamed.symm.trans q3
  have hselP : selectMethod e.platform s.vm cellB.cls mk = .method mk := by rw [Launch.admits_selectMethod X.admits]; exact q4
  obtain ⟨vm₁, X₁, hstep₁⟩ := X.invokevirtual hexec hown hlink hnamed hmethM hstM hkP hkPi hy (a := b) (cell := cellB) hcell
    (fun z h => by rw [h] at hobj; cases hobj) hselP hmethM habM hkP hkPi (g := g) hg (argsL := argsL) (rest := rest) (hlen _ hsigM) hstack hdg
  rcases hK m meth c ⟨T.setVm vm₁, locs, cells, slots⟩ { g with stack := rest } (.invokevirtual index) mk (Value.ref b :: argsL).toArray X₁ hg hsize hdg hW (X₁.named hnamed) (hpre vm₁ X₁.warmed) with ⟨v, B, X', hpost, hsteps⟩ | ⟨q, B, X', hpost, hsteps⟩
  · exact Or.inl ⟨v, vm₁, B, X₁.warmed, X', hpost, fun target h => hstep₁ _ fun acts => by rw [doInvoke_state]; exact hsteps.trans h⟩
  · exact Or.inr ⟨q, vm₁, B, X₁.warmed, X', hpost, hstep₁ _ fun acts => by rw [doInvoke_state]; exact hsteps⟩
theorem vx_callSX (X : Stand p l e R s m args below meth c T locs cells slots) (hexec : p.tables.exec = Jvm.exec) {own : String} {index : Nat} {y : MethodName} {bytes : ByteArray} {maxL : Nat} {ret : Option FieldType} {hh : List (Nat × Nat × Nat × Nat)}
    (hown : s.vm.findClass own = some m.cls) (hlink : (Cond.methodLink own index y).before args s = true) (hstat : (Cond.static y).before args s = true) (hinit : (Cond.initialized y.cls).before args s = true)
    (hcode : (Cond.codeWith y bytes maxL ret hh).before args s = true) (hy : y.cls ≠ "java/lang/invoke/MethodHandle" ∧ y.cls ≠ "java/lang/invoke/VarHandle")
    {W9 : Nat} {Pre : Pt → Array Value → Prop} {Post : Pt → Array Value → Option Value → Pt → Prop} {PostX : Pt → Array Value → Addr → Pt → Prop} (hK : vx_Back l R p e below s args y 3 W9 Pre Post PostX)
    {g : JFrame} (hg : g.method = m) (hsize : g.locals.size = c.maxLocals) {argsL rest : List Value} (hlen : ∀ sig, parseMethodDescriptor y.desc = some sig → argsL.length = sig.parameters.length)
    (hstack : g.stack = argsL.reverse ++ rest) (hW : 2 * g.monitorRoom + (rest.map fun v => v.category).sum ≤ W9) (hdg : decode c.code g.pc = .ok (.invokestatic index, 3))
    (hpre : ∀ vm₁, s.WarmedH vm₁ → Pre ⟨T.setVm vm₁, locs, cells, slots⟩ argsL.toArray) :
    (∃ (v : Option Value) (vm₁ : Vm) (B : Pt), s.WarmedH vm₁ ∧ Stand p l e R s m args below meth c B.U B.locs B.cells B.slots ∧ Post ⟨T.setVm vm₁, locs, cells, slots⟩ argsL.toArray v B ∧
      ∀ target, Steps p.tables e below (B.U.setTop { g with pc := g.pc + 3, stack := v.toList ++ rest }) target → Steps p.tables e below (T.setTop g) target) ∨
    (∃ (q : Addr) (vm₁ : Vm) (B : Pt), s.WarmedH vm₁ ∧ Stand p l e R s m args below meth c B.U B.locs B.cells B.slots ∧ PostX ⟨T.setVm vm₁, locs, cells, slots⟩ argsL.toArray q B ∧
      Steps p.tables e below (T.setTop g) ((B.U.setTop { g with stack := rest }).pushFrame (.throwing q))) := by
  obtain ⟨mk, methM, cM, hnamed, hmethM, -, -, -, -, -, -, hsigM⟩ := Cond.codeWith_spec hcode
  have hstatic : methM.isStatic = true := Cond.static_spec hnamed hmethM hstat
  obtain ⟨kP, hkP, -⟩ := className_of_methodNamed hnamed
  have hinitP : kP.init = .initialized := Cond.initialized_spec (findClass_of_methodNamed hnamed) hkP hinit
  obtain ⟨vm₁, X₁, hstep₁⟩ := X.invokestatic hexec hown hlink hnamed hmethM hstatic hkP hinitP hy (g := g) hg (argsL := argsL) (rest := rest) (hlen _ hsigM) hstack hdg
  rcases hK m meth c ⟨T.setVm vm₁, locs, cells, slots⟩ { g with stack := rest } (.invokestatic index) mk argsL.toArray X₁ hg hsize hdg hW (X₁.named hnamed) (hpre vm₁ X₁.warmed) with ⟨v, B, X', hpost, hsteps⟩ | ⟨q, B, X', hpost, hsteps⟩
  · exact Or.inl ⟨v, vm₁, B, X₁.warmed, X', hpost, fun target h => hstep₁ _ fun acts => by rw [doInvoke_state]; exact hsteps.trans h⟩
  · exact Or.inr ⟨q, vm₁, B, X₁.warmed, X', hpost, hstep₁ _ fun acts => by rw [doInvoke_state]; exact hsteps⟩
theorem vx_callVW (X : Stand p l e R s m args below meth c T locs cells slots) (hexec : p.tables.exec = Jvm.exec) {own C : String} {index : Nat} {y : MethodName} {bytes : ByteArray} {maxL : Nat} {ret : Option FieldType} {hh : List (Nat × Nat × Nat × Nat)}
    (hown : s.vm.findClass own = some m.cls) (hlink : (Cond.methodLink own index y).before args s = true) (hinst : (Cond.instanceMethod y).before args s = true) (hsel : (Cond.selects C y y).before args s = true)
    (hcode : (Cond.codeWith y bytes maxL ret hh).before args s = true) (hy : y.cls ≠ "java/lang/invoke/MethodHandle" ∧ y.cls ≠ "java/lang/invoke/VarHandle")
    {W9 : Nat} {Pre : Pt → Array Value → Prop} {Post : Pt → Array Value → Option Value → Pt → Prop} (hK : Back l R p e below s args y 3 W9 Pre Post)
    {b : Addr} {cellB : Cell} (hcell : T.heap[b]? = some cellB) (hobj : cellB.vm.isStatics = false) (hcls : s.vm.findClass C = some cellB.cls)
    {g : JFrame} (hg : g.method = m) (hsize : g.locals.size = c.maxLocals) {argsL rest : List Value} (hlen : ∀ sig, parseMethodDescriptor y.desc = some sig → argsL.length = sig.parameters.length)
    (hstack : g.stack = argsL.reverse ++ .ref b :: rest) (hW : 2 * g.monitorRoom + (rest.map fun v => v.category).sum ≤ W9) (hdg : decode c.code g.pc = .ok (.invokevirtual index, 3))
    (hpre : ∀ vm₁, s.WarmedH vm₁ → Pre ⟨T.setVm vm₁, locs, cells, slots⟩ (Value.ref b :: argsL).toArray) :
    ∃ (v : Option Value) (vm₁ : Vm) (B : Pt), s.WarmedH vm₁ ∧ Stand p l e R s m args below meth c B.U B.locs B.cells B.slots ∧ Post ⟨T.setVm vm₁, locs, cells, slots⟩ (Value.ref b :: argsL).toArray v B ∧
      ∀ target, Steps p.tables e below (B.U.setTop { g with pc := g.pc + 3, stack := v.toList ++ rest }) target → Steps p.tables e below (T.setTop g) target := by
  obtain ⟨mk, methM, hnamed, hmethM, hstM, habM⟩ := Cond.instanceMethod_spec hinst
  obtain ⟨m8, methM', cM, hn8, hmethM', -, -, -, -, -, -, hsigM⟩ := Cond.codeWith_spec hcode
  cases Option.some.inj (hn8.symm.trans hnamed)
  cases hmethM.symm.trans hmethM'
  obtain ⟨c2, r2, m2, q1, q2, q3, q4, kP, hkP, hkPi⟩ := Cond.selects_spec hsel
  cases hcls.symm.trans q1
  cases (State.methodFound?_of_named hnamed hy).symm.trans q2
  cases hnamed.symm.trans q3
  have hselP : selectMethod e.platform s.vm cellB.cls mk = .method mk := by rw [Launch.admits_selectMethod X.admits]; exact q4
  obtain ⟨vm₁, X₁, hstep₁⟩ := X.invokevirtual hexec hown hlink hnamed hmethM hstM hkP hkPi hy (a := b) (cell := cellB) hcell
    (fun z h => by rw [h] at hobj; cases hobj) hselP hmethM habM hkP hkPi (g := g) hg (argsL := argsL) (rest := rest) (hlen _ hsigM) hstack hdg
  obtain ⟨v, B, X', hpost, hsteps⟩ := hK m meth c ⟨T.setVm vm₁, locs, cells, slots⟩ { g with stack := rest } (.invokevirtual index) mk (Value.ref b :: argsL).toArray X₁ hg hsize hdg hW (X₁.named hnamed) (hpre vm₁ X₁.warmed)
  exact ⟨v, vm₁, B, X₁.warmed, X', hpost, fun target h => hstep₁ _ fun acts => by rw [doInvoke_state]; exact hsteps.trans h⟩
abbrev vx_CVW (R : Room) (s : State) (args : Array Value) (own C : String) (index : Nat) (y : MethodName) (bytes : ByteArray) (maxL : Nat) (ret : Option FieldType) (hh : List (Nat × Nat × Nat × Nat)) (ws : List Cond) (rm : Room) (mc ms n : Nat) : Prop :=
  (rm.cells = mc ∧ rm.slots = ms ∧ rm.frames + 1 ≤ R.frames ∧ 8 + (maxL + 11) + rm.locals ≤ R.locals ∧ (∀ w ∈ ws, ∀ (a' : Array Value) (U : State), s.WarmedH U.vm → w.before a' U = true) ∧ Cond.codeWith y bytes maxL ret hh ∈ ws) ∧
  (Cond.codeWith y bytes maxL ret hh).before args s = true ∧ (Cond.initialized y.cls).before args s = true ∧ (y.cls ≠ "java/lang/invoke/MethodHandle" ∧ y.cls ≠ "java/lang/invoke/VarHandle") ∧
  (∀ sig, parseMethodDescriptor y.desc = some sig → n = sig.parameters.length) ∧ (Cond.methodLink own index y).before args s = true ∧ (Cond.instanceMethod y).before args s = true ∧ (Cond.selects C y y).before args s = true
theorem vx_cwVW {own C : String} {index maxL mc ms : Nat} {y : MethodName} {bytes : ByteArray} {ret : Option FieldType} {hh : List (Nat × Nat × Nat × Nat)} {Ts ws ws' : List Cond} {rm : Room} (n : Nat) (ht : ∀ w ∈ Ts, w.before args s = true) (hT : GoodIn Ts (wsV own index C y ws)) (hw : ws = Cond.codeWith y bytes maxL ret hh :: ws') (hrc : rm.cells = mc) (hrs : rm.slots = ms)
    (hd : y.cls = C ∧ y.cls ≠ "java/lang/invoke/MethodHandle" ∧ y.cls ≠ "java/lang/invoke/VarHandle" ∧ (parseMethodDescriptor y.desc).map (fun d => d.parameters.length) = some n) (hR : rm.frames + 1 ≤ R.frames ∧ 8 + (maxL + 11) + rm.locals ≤ R.locals) :
    vx_CVW R s args own C index y bytes maxL ret hh ws rm mc ms n := by
  obtain ⟨hC, hd⟩ := hd
  subst hC
  have ok : ∀ w ∈ wsV own index y.cls y ws, w.before args s = true := fun w h => ht w (hT w h).1
  have hG : GoodIn Ts ws := fun w h => hT w (by unfold wsV; exact List.mem_append_right _ h)
  have hc : Cond.codeWith y bytes maxL ret hh ∈ ws := by rw [hw]; exact List.mem_cons_self
  refine ⟨⟨hrc, hrs, hR.1, hR.2, pay_in ht hG, hc⟩, ht _ (hG _ hc).1, ok _ (by simp [wsV]), ⟨hd.1, hd.2.1⟩, fun sig h => ?_, ok _ (by simp [wsV]), ok _ (by simp [wsV]), ok _ (by simp [wsV])⟩
  have h2 := hd.2.2
  rw [h] at h2
  exact (Option.some.inj h2).symm
theorem vx_runVW {y : MethodName} {bytes cc : ByteArray} {maxL nL mc ms n index : Nat} {ret : Option FieldType} {hh : List (Nat × Nat × Nat × Nat)} {ws : List Cond} {rm : Room} {Pc : Array Value → State → Prop} {Qc : Array Value → State → Outcome → State → Prop} {free : Addr → Prop} {Ts : List Cond} {own C : String} {b : Addr} {As rest : List Value} {g : JFrame}
    (S : CallFix p m c cc nL s args Ts own) (hM : Met l y ws rm Pc Qc mc ms free) (cw : vx_CVW R s args own C index y bytes maxL ret hh ws rm mc ms n) (hp : PreV s H C b Pc As)
    (hg : g.method = m) (hn : As.length = n) (hsize : g.locals.size = nL) (hstack : g.stack = As.reverse ++ .ref b :: rest) (hW : 2 * g.monitorRoom + (rest.map fun v => v.category).sum ≤ 8) (hdg : decode cc g.pc = .ok (.invokevirtual index, 3)) (hf : cells + mc ≤ R.cells ∧ slots + ms ≤ R.slots) :
    va_Run p l e R s m args below meth c H locs cells slots mc ms g rest (Qc (Value.ref b :: As).toArray) free := by
  obtain ⟨⟨hrc, hrs, hfr, hlo, hws, hcw⟩, hcode, hini, hy, hlen, hl, hin, hse⟩ := cw
  have hK : Back l R p e below s args y 3 8 (PreOf R mc ms Pc) (PostOf Qc mc ms free) := va_backW (hh := hh) (bytes := bytes) (maxL := maxL) (ret := ret) hM hp.1 hrc hrs hfr hlo hws hcw (fun a' U hW => word_at hW (Or.inl (by first | rfl | simp [Cond.onTables, Cond.keeps, Cond.steady])) hini)
  obtain ⟨hx, hb, hml, ho, -⟩ := S
  obtain ⟨-, ⟨cellB, hcB, hoB, hclB⟩, hPc⟩ := hp
  intro T hT X
  obtain ⟨v, vm₁, ⟨U', l2, c2, s2⟩, hW₁, X', ⟨g', mk, t, L, e1, e2, hq, h1, hL, h2, h3⟩, st⟩ := vx_callVW X hx (C := C) (hh := hh) (bytes := bytes) (maxL := maxL) (ret := ret) ho hl hin hse hcode hy hK (by rw [hT]; exact hcB) hoB hclB hg (hsize.trans hml.symm) (argsL := As) (rest := rest) (fun sig h => hn.trans (hlen sig h)) hstack hW (by rw [hb]; exact hdg)
    (fun vm₁ hW₁ => ⟨hf.1, hf.2, hPc (T.setVm vm₁) hT hW₁⟩)
  dsimp only [Pt.U, Pt.locs, Pt.cells, Pt.slots] at X' e1 e2 h1 h2 h3 st
  subst h1; subst h2; subst h3
  exact ⟨v, (T.setVm vm₁).calling g' mk (Value.ref b :: As).toArray, t, U', L, hT, X', hL, e1, e2, hq, st⟩
section
variable {y : MethodName} {bytes cc : ByteArray} {maxL nL mc ms n index : Nat} {ret : Option FieldType} {ws : List Cond} {rm : Room} {Pc : Array Value → State → Prop} {Qc : Array Value → State → Outcome → State → Prop} {XC : String → State → State → Prop} {free : Addr → Prop} {Ts : List Cond} {own C : String} {b : Addr} {As rest : List Value} {g : JFrame}
theorem vx_runVX {hh : List (Nat × Nat × Nat × Nat)} (S : CallFix p m c cc nL s args Ts own) (hM : vx_Met l y ws rm Pc Qc XC mc ms free) (cw : vx_CVW R s args own C index y bytes maxL ret hh ws rm mc ms n) (hp : PreV s H C b Pc As)
    (hg : g.method = m) (hn : As.length = n) (hsize : g.locals.size = nL) (hstack : g.stack = As.reverse ++ .ref b :: rest) (hW : 2 * g.monitorRoom + (rest.map fun v => v.category).sum ≤ 8) (hdg : decode cc g.pc = .ok (.invokevirtual index, 3)) (hf : cells + mc ≤ R.cells ∧ slots + ms ≤ R.slots) :
    vx_Run p l e R s m args below meth c H locs cells slots mc ms g rest (Qc (Value.ref b :: As).toArray) XC free := by
  obtain ⟨⟨hrc, hrs, hfr, hlo, hws, hcw⟩, hcode, hini, hy, hlen, hl, hin, hse⟩ := cw
  have hK : vx_Back l R p e below s args y 3 8 (PreOf R mc ms Pc) (PostOf Qc mc ms free) (vx_Post XC mc ms free) := vx_backW (hh := hh) (bytes := bytes) (maxL := maxL) (ret := ret) hM hp.1 hrc hrs hfr hlo hws hcw (fun a' U hW => word_at hW (Or.inl (by first | rfl | simp [Cond.onTables, Cond.keeps, Cond.steady])) hini)
  obtain ⟨hx, hb, hml, ho, -⟩ := S
  obtain ⟨-, ⟨cellB, hcB, hoB, hclB⟩, hPc⟩ := hp
  intro T hT X
  rcases vx_callVX X hx (C := C) (hh := hh) (bytes := bytes) (maxL := maxL) (ret := ret) ho hl hin hse hcode hy hK (by rw [hT]; exact hcB) hoB hclB hg (hsize.trans hml.symm) (argsL := As) (rest := rest) (fun sig h => hn.trans (hlen sig h)) hstack hW (by rw [hb]; exact hdg)
    (fun vm₁ hW₁ => ⟨hf.1, hf.2, hPc (T.setVm vm₁) hT hW₁⟩) with ⟨v, vm₁, ⟨U', l2, c2, s2⟩, hW₁, X', ⟨g', mk, t, L, e1, e2, hq, h1, hL, h2, h3⟩, st⟩ | ⟨q, vm₁, ⟨U', l2, c2, s2⟩, hW₁, X', ⟨g', mk, t, L, E, ce, e1, e2, hq, hce, hcv, hcl, h1, hL, h2, h3⟩, st⟩
  · dsimp only [Pt.U, Pt.locs, Pt.cells, Pt.slots] at X' e1 e2 h1 h2 h3 st
    subst h1; subst h2; subst h3
    exact Or.inl ⟨v, (T.setVm vm₁).calling g' mk (Value.ref b :: As).toArray, t, U', L, hT, X', hL, e1, e2, hq, st⟩
  · dsimp only [Pt.U, Pt.locs, Pt.cells, Pt.slots] at X' e1 e2 h1 h2 h3 st hcl
    subst h1; subst h2; subst h3
    exact Or.inr ⟨q, (T.setVm vm₁).calling g' mk (Value.ref b :: As).toArray, t, U', L, E, ce, hT, X', hL, e1, e2, hq, hce, hcv, vx_cls hW₁ hcl, st⟩
theorem vx_runSX {hh : List (Nat × Nat × Nat × Nat)} (S : CallFix p m c cc nL s args Ts own) (hM : vx_Met l y ws rm Pc Qc XC mc ms free) (cw : vx_CSW R s args own index y bytes maxL ret hh ws rm mc ms n) (hp : PreS s H Pc As)
    (hg : g.method = m) (hn : As.length = n) (hsize : g.locals.size = nL) (hstack : g.stack = As.reverse ++ rest) (hW : 2 * g.monitorRoom + (rest.map fun v => v.category).sum ≤ 8) (hdg : decode cc g.pc = .ok (.invokestatic index, 3)) (hf : cells + mc ≤ R.cells ∧ slots + ms ≤ R.slots) :
    vx_Run p l e R s m args below meth c H locs cells slots mc ms g rest (Qc As.toArray) XC free := by
  obtain ⟨⟨hrc, hrs, hfr, hlo, hws, hcw⟩, hcode, hini, hy, hlen, hl, hstt⟩ := cw
  have hK : vx_Back l R p e below s args y 3 8 (PreOf R mc ms Pc) (PostOf Qc mc ms free) (vx_Post XC mc ms free) := vx_backW (hh := hh) (bytes := bytes) (maxL := maxL) (ret := ret) hM hp.1 hrc hrs hfr hlo hws hcw (fun a' U hW => word_at hW (Or.inl (by first | rfl | simp [Cond.onTables, Cond.keeps, Cond.steady])) hini)
  obtain ⟨hx, hb, hml, ho, -⟩ := S
  intro T hT X
  rcases vx_callSX X hx (hh := hh) (bytes := bytes) (maxL := maxL) (ret := ret) ho hl hstt hini hcode hy hK hg (hsize.trans hml.symm) (argsL := As) (rest := rest) (fun sig h => hn.trans (hlen sig h)) hstack hW (by rw [hb]; exact hdg)
    (fun vm₁ hW₁ => ⟨hf.1, hf.2, hp.2 (T.setVm vm₁) hT hW₁⟩) with ⟨v, vm₁, ⟨U', l2, c2, s2⟩, hW₁, X', ⟨g', mk, t, L, e1, e2, hq, h1, hL, h2, h3⟩, st⟩ | ⟨q, vm₁, ⟨U', l2, c2, s2⟩, hW₁, X', ⟨g', mk, t, L, E, ce, e1, e2, hq, hce, hcv, hcl, h1, hL, h2, h3⟩, st⟩
  · dsimp only [Pt.U, Pt.locs, Pt.cells, Pt.slots] at X' e1 e2 h1 h2 h3 st
    subst h1; subst h2; subst h3
    exact Or.inl ⟨v, (T.setVm vm₁).calling g' mk As.toArray, t, U', L, hT, X', hL, e1, e2, hq, st⟩
  · dsimp only [Pt.U, Pt.locs, Pt.cells, Pt.slots] at X' e1 e2 h1 h2 h3 st hcl
    subst h1; subst h2; subst h3
    exact Or.inr ⟨q, (T.setVm vm₁).calling g' mk As.toArray, t, U', L, E, ce, hT, X', hL, e1, e2, hq, hce, hcv, vx_cls hW₁ hcl, st⟩
end
end VXH
theorem vx_ofWH {l : Launch} {y : MethodName} {ws ws' : List Cond} {rm : Room} {Pc : Array Value → State → Prop} {Qc : Array Value → State → Outcome → State → Prop} {XC : String → State → State → Prop} {mc ms : Nat} {free : Addr → Prop} {cc : ByteArray} {maxL : Nat} {ret : Option FieldType} {hh : List (Nat × Nat × Nat × Nat)}
    (hy : plainName y.cls = true) (hw : ws = Cond.codeWith y cc maxL ret hh :: ws')
    (body : ∀ p e s m args below meth c s₁, BodyLoose p l y (headSpec ws rm) cc maxL ret e s m args below meth c s₁ → c.maxLocals = maxL → Pc args s →
      W p l e (headSpec ws rm).room s m args below meth c s.heap [] 0 0 (vx_MQ below Qc XC args s mc ms free) (entryFrame m args maxL)) : vx_Met l y ws rm Pc Qc XC mc ms free := by
  refine MetFree.of_bodyS (code := cc) (maxLocals := maxL) (ret := ret) hy ?_ ?_
  · intro args s m h hn
    obtain ⟨m9, meth, c, hn9, h1, h2, h3, h4, -, h5, h6, -⟩ := Cond.codeWith_spec (atoms_spec (ws := ws) h _ (by rw [hw]; exact List.mem_cons_self))
    cases hn.symm.trans hn9
    exact ⟨meth, c, h1, h2, h3, h4, h5, h6⟩
  · intro p e s m args below meth c s₁ B hml hP _
    have hh0 : s₁.heap = s.heap := by rw [B.state]; rfl
    obtain ⟨t, a1, o, b1, b2, b3⟩ := body p e s m args below meth c s₁ B hml hP s₁ hh0 (Stand.of_body B)
    exact ⟨t, o, a1, b1, b2, b3⟩
/-! ===== END ===== -/

section VXIA
variable {p : Program} {l : Launch} {e : Env} {R : Room} {s : State} {m : MethodId} {args : Array Value} {below : List Frame} {meth : Method} {c : Code} {T : State} {locs : List Loc} {cells slots : Nat}
theorem vx_callI (X : Stand p l e R s m args below meth c T locs cells slots) (hexec : p.tables.exec = Jvm.exec) {own : String} {index : Nat} {y : MethodName} {bytes : ByteArray} {maxL : Nat}
    (hown : s.vm.findClass own = some m.cls) (hy1 : y.name = "<init>") (hlink : (Cond.methodLink own index y).before args s = true) (hinst : (Cond.instanceMethod y).before args s = true)
    (hcode : (Cond.code y bytes maxL none).before args s = true) (hy : y.cls ≠ "java/lang/invoke/MethodHandle" ∧ y.cls ≠ "java/lang/invoke/VarHandle")
    {W9 : Nat} {Pre : Pt → Array Value → Prop} {Post : Pt → Array Value → Option Value → Pt → Prop} {PostX : Pt → Array Value → Addr → Pt → Prop} (hK : vx_Back l R p e below s args y 3 W9 Pre Post PostX)
    {g : JFrame} (hg : g.method = m) (hsize : g.locals.size = c.maxLocals) {a : Addr} {argsL rest : List Value} (hlen : ∀ sig, parseMethodDescriptor y.desc = some sig → argsL.length = sig.parameters.length)
    (hstack : g.stack = argsL.reverse ++ .ref a :: rest) (hW : 2 * g.monitorRoom + (rest.map fun v => v.category).sum ≤ W9) (hdg : decode c.code g.pc = .ok (.invokespecial index, 3))
    (hpre : ∀ vm₁, s.WarmedH vm₁ → Pre ⟨T.setVm vm₁, locs, cells, slots⟩ (Value.ref a :: argsL).toArray) :
    (∃ (v : Option Value) (vm₁ : Vm) (B : Pt), s.WarmedH vm₁ ∧ Stand p l e R s m args below meth c B.U B.locs B.cells B.slots ∧ Post ⟨T.setVm vm₁, locs, cells, slots⟩ (Value.ref a :: argsL).toArray v B ∧
      ∀ target, Steps p.tables e below (B.U.setTop { g with pc := g.pc + 3, stack := v.toList ++ rest }) target → Steps p.tables e below (T.setTop g) target) ∨
    (∃ (q : Addr) (vm₁ : Vm) (B : Pt), s.WarmedH vm₁ ∧ Stand p l e R s m args below meth c B.U B.locs B.cells B.slots ∧ PostX ⟨T.setVm vm₁, locs, cells, slots⟩ (Value.ref a :: argsL).toArray q B ∧
      Steps p.tables e below (T.setTop g) ((B.U.setTop { g with stack := rest }).pushFrame (.throwing q))) := by
  subst hg
  have hpl : e.platform.magicAccessors = ({} : Platform).magicAccessors := by rw [X.admits.platform]
  obtain ⟨mk, methM, cM, kP, vm₁, hnamed, hmethM, hcodeM, -, hlocalsM, -, hkP, -, hW₁, hstep₁⟩ := Steps.initColdArgs (e := e) X.here hexec X.warmed hpl hown hy1 hy hlink hinst hcode (f := g) rfl hlen hstack hdg
  have X₁ := X.noted hW₁
  rcases hK g.method meth c ⟨T.setVm vm₁, locs, cells, slots⟩ { g with stack := rest } (.invokespecial index) mk (Value.ref a :: argsL).toArray X₁ rfl hsize hdg hW (X₁.named hnamed) (hpre vm₁ X₁.warmed) with ⟨v, B, X', hpost, hsteps⟩ | ⟨q, B, X', hpost, hsteps⟩
  · exact Or.inl ⟨v, vm₁, B, X₁.warmed, X', hpost, fun target h => hstep₁ _ fun acts => by rw [doInvoke_state]; exact hsteps.trans h⟩
  · exact Or.inr ⟨q, vm₁, B, X₁.warmed, X', hpost, hstep₁ _ fun acts => by rw [doInvoke_state]; exact hsteps⟩
theorem vx_callIN (X : Stand p l e R s m args below meth c T locs cells slots) (hexec : p.tables.exec = Jvm.exec) {own : String} {index : Nat} {host : String} {y : MethodName} {bytes : ByteArray} {maxL : Nat}
    (hown : s.vm.findClass own = some m.cls) (hy1 : y.name = "<init>") (hlink : (Cond.methodLinkNest own index y host).before args s = true) (hinst : (Cond.instanceMethod y).before args s = true)
    (hcode : (Cond.code y bytes maxL none).before args s = true) (hy : y.cls ≠ "java/lang/invoke/MethodHandle" ∧ y.cls ≠ "java/lang/invoke/VarHandle")
    {W9 : Nat} {Pre : Pt → Array Value → Prop} {Post : Pt → Array Value → Option Value → Pt → Prop} {PostX : Pt → Array Value → Addr → Pt → Prop} (hK : vx_Back l R p e below s args y 3 W9 Pre Post PostX)
    {g : JFrame} (hg : g.method = m) (hsize : g.locals.size = c.maxLocals) {a : Addr} {argsL rest : List Value} (hlen : ∀ sig, parseMethodDescriptor y.desc = some sig → argsL.length = sig.parameters.length)
    (hstack : g.stack = argsL.reverse ++ .ref a :: rest) (hW : 2 * g.monitorRoom + (rest.map fun v => v.category).sum ≤ W9) (hdg : decode c.code g.pc = .ok (.invokespecial index, 3))
    (hpre : ∀ vm₁, s.WarmedH vm₁ → Pre ⟨T.setVm vm₁, locs, cells, slots⟩ (Value.ref a :: argsL).toArray) :
    (∃ (v : Option Value) (vm₁ : Vm) (B : Pt), s.WarmedH vm₁ ∧ Stand p l e R s m args below meth c B.U B.locs B.cells B.slots ∧ Post ⟨T.setVm vm₁, locs, cells, slots⟩ (Value.ref a :: argsL).toArray v B ∧
      ∀ target, Steps p.tables e below (B.U.setTop { g with pc := g.pc + 3, stack := v.toList ++ rest }) target → Steps p.tables e below (T.setTop g) target) ∨
    (∃ (q : Addr) (vm₁ : Vm) (B : Pt), s.WarmedH vm₁ ∧ Stand p l e R s m args below meth c B.U B.locs B.cells B.slots ∧ PostX ⟨T.setVm vm₁, locs, cells, slots⟩ (Value.ref a :: argsL).toArray q B ∧
      Steps p.tables e below (T.setTop g) ((B.U.setTop { g with stack := rest }).pushFrame (.throwing q))) := by
  subst hg
  have hpl : e.platform.magicAccessors = ({} : Platform).magicAccessors := by rw [X.admits.platform]
  obtain ⟨mk, methM, cM, kP, vm₁, hnamed, hmethM, hcodeM, -, hlocalsM, -, hkP, -, hW₁, hstep₁⟩ := Steps.initColdArgsNest (e := e) X.here hexec X.warmed hpl hown hy1 hy hlink hinst hcode (f := g) rfl hlen hstack hdg
  have X₁ := X.noted hW₁
  rcases hK g.method meth c ⟨T.setVm vm₁, locs, cells, slots⟩ { g with stack := rest } (.invokespecial index) mk (Value.ref a :: argsL).toArray X₁ rfl hsize hdg hW (X₁.named hnamed) (hpre vm₁ X₁.warmed) with ⟨v, B, X', hpost, hsteps⟩ | ⟨q, B, X', hpost, hsteps⟩
  · exact Or.inl ⟨v, vm₁, B, X₁.warmed, X', hpost, fun target h => hstep₁ _ fun acts => by rw [doInvoke_state]; exact hsteps.trans h⟩
  · exact Or.inr ⟨q, vm₁, B, X₁.warmed, X', hpost, hstep₁ _ fun acts => by rw [doInvoke_state]; exact hsteps⟩
theorem vx_callVN (X : Stand p l e R s m args below meth c T locs cells slots) (hexec : p.tables.exec = Jvm.exec) {own C : String} {index : Nat} {host : String} {y : MethodName} {bytes : ByteArray} {maxL : Nat} {ret : Option FieldType}
    (hown : s.vm.findClass own = some m.cls) (hlink : (Cond.methodLinkNest own index y host).before args s = true) (hinst : (Cond.instanceMethod y).before args s = true) (hsel : (Cond.selects C y y).before args s = true)
    (hcode : (Cond.code y bytes maxL ret).before args s = true) (hy : y.cls ≠ "java/lang/invoke/MethodHandle" ∧ y.cls ≠ "java/lang/invoke/VarHandle")
    {W : Nat} {Pre : Pt → Array Value → Prop} {Post : Pt → Array Value → Option Value → Pt → Prop} {PostX : Pt → Array Value → Addr → Pt → Prop} (hK : vx_Back l R p e below s args y 3 W Pre Post PostX)
    {b : Addr} {cellB : Cell} (hcell : T.heap[b]? = some cellB) (hobj : cellB.vm.isStatics = false) (hcls : s.vm.findClass C = some cellB.cls)
    {g : JFrame} (hg : g.method = m) (hsize : g.locals.size = c.maxLocals) {argsL rest : List Value} (hlen : ∀ sig, parseMethodDescriptor y.desc = some sig → argsL.length = sig.parameters.length)
    (hstack : g.stack = argsL.reverse ++ .ref b :: rest) (hW : 2 * g.monitorRoom + (rest.map fun v => v.category).sum ≤ W) (hdg : decode c.code g.pc = .ok (.invokevirtual index, 3))
    (hpre : ∀ vm₁, s.WarmedH vm₁ → Pre ⟨T.setVm vm₁, locs, cells, slots⟩ (Value.ref b :: argsL).toArray) :
    (∃ (v : Option Value) (vm₁ : Vm) (B : Pt), s.WarmedH vm₁ ∧ Stand p l e R s m args below meth c B.U B.locs B.cells B.slots ∧ Post ⟨T.setVm vm₁, locs, cells, slots⟩ (Value.ref b :: argsL).toArray v B ∧
      ∀ target, Steps p.tables e below (B.U.setTop { g with pc := g.pc + 3, stack := v.toList ++ rest }) target → Steps p.tables e below (T.setTop g) target) ∨
    (∃ (q : Addr) (vm₁ : Vm) (B : Pt), s.WarmedH vm₁ ∧ Stand p l e R s m args below meth c B.U B.locs B.cells B.slots ∧ PostX ⟨T.setVm vm₁, locs, cells, slots⟩ (Value.ref b :: argsL).toArray q B ∧
      Steps p.tables e below (T.setTop g) ((B.U.setTop { g with stack := rest }).pushFrame (.throwing q))) := by
  obtain ⟨mk, methM, hnamed, hmethM, hstM, habM⟩ := Cond.instanceMethod_spec hinst
  obtain ⟨methM', cM, hmethM', -, -, -, -, -, -, hsigM⟩ := Cond.code_spec hnamed hcode
  cases hmethM.symm.trans hmethM'
  obtain ⟨c2, r2, m2, q1, q2, q3, q4, kP, hkP, hkPi⟩ := Cond.selects_spec hsel
  cases hcls.symm.trans q1
  cases (State.methodFound?_of_named hnamed hy).symm.trans q2
  cases hnamed.symm.trans q3
  have hselP : selectMethod e.platform s.vm cellB.cls mk = .method mk := by rw [Launch.admits_selectMethod X.admits]; exact q4
  obtain ⟨vm₁, X₁, hstep₁⟩ := X.invokevirtualNest hexec hown hlink hnamed hmethM hstM hkP hkPi hy (a := b) (cell := cellB) hcell
    (fun z h => by rw [h] at hobj; cases hobj) hselP hmethM habM hkP hkPi (g := g) hg (argsL := argsL) (rest := rest) (hlen _ hsigM) hstack hdg
  rcases hK m meth c ⟨T.setVm vm₁, locs, cells, slots⟩ { g with stack := rest } (.invokevirtual index) mk (Value.ref b :: argsL).toArray X₁ hg hsize hdg hW (X₁.named hnamed) (hpre vm₁ X₁.warmed) with ⟨v, B, X', hpost, hsteps⟩ | ⟨q, B, X', hpost, hsteps⟩
  · exact Or.inl ⟨v, vm₁, B, X₁.warmed, X', hpost, fun target h => hstep₁ _ fun acts => by rw [doInvoke_state]; exact hsteps.trans h⟩
  · exact Or.inr ⟨q, vm₁, B, X₁.warmed, X', hpost, hstep₁ _ fun acts => by rw [doInvoke_state]; exact hsteps⟩
theorem vx_callSN (X : Stand p l e R s m args below meth c T locs cells slots) (hexec : p.tables.exec = Jvm.exec) {own : String} {index : Nat} {host : String} {y : MethodName} {bytes : ByteArray} {maxL : Nat} {ret : Option FieldType}
    (hown : s.vm.findClass own = some m.cls) (hlink : (Cond.methodLinkNest own index y host).before args s = true) (hstat : (Cond.static y).before args s = true) (hinit : (Cond.initialized y.cls).before args s = true)
    (hcode : (Cond.code y bytes maxL ret).before args s = true) (hy : y.cls ≠ "java/lang/invoke/MethodHandle" ∧ y.cls ≠ "java/lang/invoke/VarHandle")
    {W : Nat} {Pre : Pt → Array Value → Prop} {Post : Pt → Array Value → Option Value → Pt → Prop} {PostX : Pt → Array Value → Addr → Pt → Prop} (hK : vx_Back l R p e below s args y 3 W Pre Post PostX)
    {g : JFrame} (hg : g.method = m) (hsize : g.locals.size = c.maxLocals) {argsL rest : List Value} (hlen : ∀ sig, parseMethodDescriptor y.desc = some sig → argsL.length = sig.parameters.length)
    (hstack : g.stack = argsL.reverse ++ rest) (hW : 2 * g.monitorRoom + (rest.map fun v => v.category).sum ≤ W) (hdg : decode c.code g.pc = .ok (.invokestatic index, 3))
    (hpre : ∀ vm₁, s.WarmedH vm₁ → Pre ⟨T.setVm vm₁, locs, cells, slots⟩ argsL.toArray) :
    (∃ (v : Option Value) (vm₁ : Vm) (B : Pt), s.WarmedH vm₁ ∧ Stand p l e R s m args below meth c B.U B.locs B.cells B.slots ∧ Post ⟨T.setVm vm₁, locs, cells, slots⟩ argsL.toArray v B ∧
      ∀ target, Steps p.tables e below (B.U.setTop { g with pc := g.pc + 3, stack := v.toList ++ rest }) target → Steps p.tables e below (T.setTop g) target) ∨
    (∃ (q : Addr) (vm₁ : Vm) (B : Pt), s.WarmedH vm₁ ∧ Stand p l e R s m args below meth c B.U B.locs B.cells B.slots ∧ PostX ⟨T.setVm vm₁, locs, cells, slots⟩ argsL.toArray q B ∧
      Steps p.tables e below (T.setTop g) ((B.U.setTop { g with stack := rest }).pushFrame (.throwing q))) := by
  obtain ⟨mk, hnamed⟩ := Cond.code_named hcode
  obtain ⟨methM, cM, hmethM, -, -, -, -, -, -, hsigM⟩ := Cond.code_spec hnamed hcode
  have hstatic : methM.isStatic = true := Cond.static_spec hnamed hmethM hstat
  obtain ⟨kP, hkP, -⟩ := className_of_methodNamed hnamed
  have hinitP : kP.init = .initialized := Cond.initialized_spec (findClass_of_methodNamed hnamed) hkP hinit
  obtain ⟨vm₁, X₁, hstep₁⟩ := X.invokestaticNest hexec hown hlink hnamed hmethM hstatic hkP hinitP hy (g := g) hg (argsL := argsL) (rest := rest) (hlen _ hsigM) hstack hdg
  rcases hK m meth c ⟨T.setVm vm₁, locs, cells, slots⟩ { g with stack := rest } (.invokestatic index) mk argsL.toArray X₁ hg hsize hdg hW (X₁.named hnamed) (hpre vm₁ X₁.warmed) with ⟨v, B, X', hpost, hsteps⟩ | ⟨q, B, X', hpost, hsteps⟩
  · exact Or.inl ⟨v, vm₁, B, X₁.warmed, X', hpost, fun target h => hstep₁ _ fun acts => by rw [doInvoke_state]; exact hsteps.trans h⟩
  · exact Or.inr ⟨q, vm₁, B, X₁.warmed, X', hpost, hstep₁ _ fun acts => by rw [doInvoke_state]; exact hsteps⟩
end VXIA
/-! the throws once more, with the size of the heap behind them -/
end
section
/-! THROWS OF A CLASS WHOSE OWN CONSTRUCTOR LINKS ITS SUPERCLASS'S BY ANOTHER ENTRY THAN 7 (java.util.NoSuchElementException: 13): the entry is a parameter. -/
section ABTHROW
def ab_sixb (jx : Nat) : ByteArray := ⟨#[0x2a, 0x2b, 0xb7, 0x00, UInt8.ofNat jx, 0xb1]⟩
def ab_sixB (jx : Nat) : Bool := decide (decode (ab_sixb jx) 0 = .ok (.aload_n 0, 1)) && decide (decode (ab_sixb jx) 1 = .ok (.aload_n 1, 1)) && decide (decode (ab_sixb jx) 2 = .ok (.invokespecial jx, 3)) && decide (decode (ab_sixb jx) 5 = .ok (.return_, 1))
def ab_sixok (jx : Nat) : Prop := ab_sixB jx = true
def ab_ch (X : String) (jx : Nat) (Y0 : String) (r0 : List String) : List Cond := Bundle.passSAtoms X Y0 jx (ab_sixb jx) ++ Bundle.chainSAtoms Y0 r0
def ab_ownA (own : String) (ic : Nat) (X : String) (jx : Nat) (Y0 : String) (r0 : List String) : List Cond :=
  Bundle.throwableAtoms ++ Bundle.throwableSAtoms ++ ab_ch X jx Y0 r0 ++
  [.methodLink own ic (Bundle.initS X), .instantiable X 6, .castable X X, .selects X Bundle.tFill0 Bundle.tFill0, .selects X Bundle.tFill Bundle.tFill,
   .lays X Bundle.tN "cause" "Ljava/lang/Throwable;", .lays X Bundle.tN "stackTrace" Bundle.steD, .lays X Bundle.tN "suppressedExceptions" Bundle.listD, .lays X Bundle.tN "detailMessage" "Ljava/lang/String;",
   .isRef (.static Bundle.tN "UNASSIGNED_STACK" Bundle.steD), .isRef (.static Bundle.tN "SUPPRESSED_SENTINEL" Bundle.listD),
   .fieldLink Bundle.tN 198 Bundle.tN "backtrace" "Ljava/lang/Object;", .lays Bundle.tN Bundle.tN "backtrace" "Ljava/lang/Object;", .lays X Bundle.tN "backtrace" "Ljava/lang/Object;"]
def ab_atS (own : String) (ic : Nat) (X : String) (jx : Nat) (Y0 : String) (r0 : List String) : List Cond := (ab_ownA own ic X jx Y0 r0).filter vx_no
theorem ab_chainS {args : Array Value} {s : State} {pl : Platform} (hpl : pl.magicAccessors = ({} : Platform).magicAccessors) {top : MethodId} (htop : s.methodNamed? (Bundle.initS Bundle.tN) = some top) {jx : Nat} (hj : ab_sixok jx) {X Y0 : String} {r0 : List String}
    (hX : Bundle.fit X = true) (hn : ∀ n ∈ Y0 :: r0, Bundle.fit n = true) (h : ∀ c ∈ ab_ch X jx Y0 r0, c.before args s = true) :
      ∃ (P1 : PassC) (Ps : List PassC), Ps.length = (Y0 :: r0).length ∧ P1.LinksS pl s ∧ (∀ P, P ∈ Ps → P.LinksS pl s) ∧ s.methodNamed? (Bundle.initS X) = some P1.m ∧
        P1.sup = firstOf top (Ps.map (·.toPassT)) ∧ PassesOn top (Ps.map (·.toPassT)) := by
  unfold ab_sixok ab_sixB at hj
  simp only [Bool.and_eq_true, decide_eq_true_eq] at hj
  obtain ⟨⟨⟨j0, j1⟩, j2⟩, j5⟩ := hj
  obtain ⟨P, L, hm, hs⟩ := PassC.ofS_atoms (args := args) (s := s) hpl (X := X) (Y := Y0) (Bundle.fit_spec hX).1 (Bundle.fit_spec (hn Y0 List.mem_cons_self)).2 j0 j1 j2 j5 (fun c hc => h c (List.mem_append.mpr (Or.inl hc)))
  obtain ⟨P2, Ps, hlen, L2, hL, hm2, hsup, hpass⟩ := Bundle.chainS hpl htop r0 Y0 (hn Y0 List.mem_cons_self) (fun n hq => hn n (List.mem_cons_of_mem _ hq)) (fun c hc => h c (List.mem_append.mpr (Or.inr hc)))
  refine ⟨P, P2 :: Ps, by simp [hlen], L, fun Q hQ => ?_, hm, Option.some.inj (hs.symm.trans hm2), hsup, hpass⟩
  rcases List.mem_cons.mp hQ with rfl | hQ
  · exact L2
  · exact hL Q hQ
end ABTHROW
section ABTHROW2
variable {p : Program} {l : Launch} {e : Env} {R : Room} {s : State} {m₀ : MethodId} {args : Array Value} {below : List Frame} {meth : Method} {c : Code} {W : State} {locs : List Loc} {cells slots : Nat}
set_option maxHeartbeats 1000000 in
theorem ab_ctorThrowS (X : Stand p l e R s m₀ args below meth c W locs cells slots) (hexec : p.tables.exec = Jvm.exec) (htr : e.platform.stackTraces = false) {own cls Y0 : String} {r0 : List String} {ic jx : Nat} (hj : ab_sixok jx)
    (hown : s.vm.findClass own = some m₀.cls) (hcls : Bundle.fit cls = true) (hnames : ∀ n ∈ Y0 :: r0, Bundle.fit n = true)
    (h : ∀ a ∈ ab_ownA own ic cls jx Y0 r0, a.before args s = true)
    (hlocs : ∀ x ∈ locs, ∀ cell, s.heap[x.base]? = some cell → cell.vm.isStatics = false)
    {a : Addr} {cX : ClassId} {kX : Class} (hfoundX : s.vm.findClass cls = some cX) (hkX : s.vm.classes[cX]? = some kX) (hcell : W.heap[a]? = some (freshCell cX kX)) (hnew : s.heap.size ≤ a)
    {msg : Value} (hmsg : msg.isRef = true)
    {g : JFrame} (hg : g.method = m₀) (hsize : g.locals.size = c.maxLocals) (hlocked : g.locked = none) (hentered : g.entered = []) {rest : List Value} (hstack : g.stack = msg :: .ref a :: .ref a :: rest)
    (hd6 : decode c.code g.pc = .ok (.invokespecial ic, 3)) (hd9 : decode c.code (g.pc + 3) = .ok (.athrow, 1)) (hout : ∀ x ∈ c.exceptionTable.toList, covers x (g.pc + 3) = false)
    (hRframes : (Y0 :: r0).length + 3 < R.frames) (hRlocals : 2 * g.monitorRoom + ((Value.ref a :: rest).map fun v => v.category).sum + (13 * ((Y0 :: r0).length + 1) + 42) ≤ R.locals) (hlocks : meth.locks = false := by first | assumption | exact BodyLoose.notSynchronized (by assumption) | exact Body.notSynchronized (by assumption)) :
    ∃ U : State, Steps p.tables e below (W.setTop g) U ∧ U.status = .running ∧ Ended U below (.threw a) ∧ s.WarmedH U.vm ∧ s.sameButNew ({ U with vm := s.vm } : State) locs cells slots ∧
      ∃ ce, U.heap[a]? = some ce ∧ Bundle.OwnCell args s cls a msg ce := by
  have howns : e.platform.frameOwnsMonitors = true := by rw [X.admits.platform]
  have hfin : e.platform.finalization = false := by rw [X.admits.platform]
  have hpl : e.platform.magicAccessors = ({} : Platform).magicAccessors := by rw [X.admits.platform]
  have a' : ∀ x, x ∈ ab_ownA own ic cls jx Y0 r0 → x.holds args s none s [] = true := fun x hx => h x hx
  obtain ⟨T, Z0, L, -, Y⟩ := ThrowableC.of_atoms (args := args) howns hfin hpl (fun x hx => h x (by simp [ab_ownA, hx]))
  obtain ⟨Z, M, LZ, LM, hnZ⟩ := Init0T.ofS_atoms (args := args) hpl L Y (fun x hx => h x (by simp [ab_ownA, hx]))
  obtain ⟨P1, Ps, hlen, L1, hL, hP1m, hlink1, hlink⟩ := ab_chainS (args := args) hpl hnZ hj hcls hnames (fun x hx => h x (by rw [ab_ownA, List.mem_append, List.mem_append]; exact Or.inl (Or.inr hx)))
  have hfound : s.vm.findClass cls = some P1.m.cls := findClass_of_methodNamed hP1m
  cases Option.some.inj (hfoundX.symm.trans hfound)
  obtain ⟨c1, kX', hc1, hk, hord, -, -, hn6⟩ := Cond.instantiable_spec (a' (.instantiable cls 6) (by simp [ab_ownA]))
  cases Option.some.inj (hc1.symm.trans hfound)
  cases Option.some.inj (hkX.symm.trans hk)
  have hsel0 : selectMethod e.platform s.vm P1.m.cls T.fill0 = .method T.fill0 := by
    obtain ⟨c2, r2, m2, q1, q2, q3, q4, -⟩ := Cond.selects_spec (a' (.selects cls Bundle.tFill0 Bundle.tFill0) (by simp [ab_ownA]))
    cases Option.some.inj (q1.symm.trans hfound)
    cases Option.some.inj (q2.symm.trans (State.methodFound?_of_named Y.fill0 (by decide)))
    cases Option.some.inj (q3.symm.trans Y.fill0)
    rw [Launch.admits_selectMethod X.admits]; exact q4
  have hselF : selectMethod e.platform s.vm P1.m.cls T.fill = .method T.fill := by
    obtain ⟨c2, r2, m2, q1, q2, q3, q4, -⟩ := Cond.selects_spec (a' (.selects cls Bundle.tFill Bundle.tFill) (by simp [ab_ownA]))
    cases Option.some.inj (q1.symm.trans hfound)
    cases Option.some.inj (q2.symm.trans (State.methodFound?_of_named Y.fill (by decide)))
    cases Option.some.inj (q3.symm.trans Y.fill)
    rw [Launch.admits_selectMethod X.admits]; exact q4
  obtain ⟨cellS0, hcS0, hiss⟩ := Y.statics
  obtain ⟨u0, hu0⟩ := Cond.staticRefV Y.unassigned L.unassignedStatic L.statics hcS0 hiss (a' (.isRef (.static Bundle.tN "UNASSIGNED_STACK" Bundle.steD)) (by simp [ab_ownA]))
  obtain ⟨sen, hsen⟩ := Cond.staticRefV Y.sentinel L.sentinelStatic L.statics hcS0 hiss (a' (.isRef (.static Bundle.tN "SUPPRESSED_SENTINEL" Bundle.listD)) (by simp [ab_ownA]))
  obtain ⟨ci198, i198, fB, hk198, hg198, ha198, hsB, -, hnB, htB, hffB⟩ := Cond.ownField (t := .object "java/lang/Object") Y.found L.cls (by decide +kernel) (a' (.fieldLink Bundle.tN 198 Bundle.tN "backtrace" "Ljava/lang/Object;") (by simp [ab_ownA])) (a' (.lays Bundle.tN Bundle.tN "backtrace" "Ljava/lang/Object;") (by simp [ab_ownA])) e.platform hpl
  obtain ⟨cellS, hcS', heS, -, hkeep⟩ := X.same.2.2.2.2.2 T.aS cellS0 hcS0
  have hcellS : W.heap[T.aS]? = some cellS := hcS'
  have hout' : ∀ i, (⟨T.aS, i⟩ : Loc) ∉ locs := fun i hmem => by
    have := hlocs _ hmem cellS0 hcS0
    rw [hiss] at this; cases this
  have hknownS : cellS.vm ≠ .unknown := by
    rw [heS]; intro hu
    rw [show cellS0.vm = .unknown from hu] at hiss
    cases hiss
  have hneS : T.aS ≠ a := Nat.ne_of_lt (Nat.lt_of_lt_of_le (Array.getElem?_eq_some_iff.mp hcS0).1 hnew)
  obtain ⟨iM, hffM⟩ := Y.msg
  obtain ⟨tyC, dC, hdC, hdnC⟩ := Cond.laysAt hfound hk Y.cause (a' (.lays cls Bundle.tN "cause" "Ljava/lang/Throwable;") (by simp [ab_ownA]))
  obtain ⟨tyS, dS, hdS, hdnS⟩ := Cond.laysAt hfound hk Y.stack (a' (.lays cls Bundle.tN "stackTrace" Bundle.steD) (by simp [ab_ownA]))
  obtain ⟨tyP, dP, hdP, hdnP⟩ := Cond.laysAt hfound hk Y.supp (a' (.lays cls Bundle.tN "suppressedExceptions" Bundle.listD) (by simp [ab_ownA]))
  obtain ⟨tyM, dM, hdM, hdnM⟩ := Cond.laysAt hfound hk hffM (a' (.lays cls Bundle.tN "detailMessage" "Ljava/lang/String;") (by simp [ab_ownA]))
  obtain ⟨tyB, dB, hdB, hdnB⟩ := Cond.laysAt hfound hk hffB (a' (.lays cls Bundle.tN "backtrace" "Ljava/lang/Object;") (by simp [ab_ownA]))
  have bC := Cond.laysApart hdB hdC hdnB hdnC (by rw [hnB, Y.causeName]; decide)
  have bS := Cond.laysApart hdB hdS hdnB hdnS (by rw [hnB, Y.stackName]; decide)
  have bP := Cond.laysApart hdB hdP hdnB hdnP (by rw [hnB, Y.suppName]; decide)
  have hskip : SkipFacts T e.platform s (fun u => u) u0 ((preparedCellV T.toThrowableT (freshCell P1.m.cls kX) a u0 sen).withEntry W.cur) :=
    ⟨{ ci198 := ci198, i198 := i198, fBack := fB }, ⟨hk198, hg198, ha198, hsB⟩, by
      have := fresh_default (c := P1.m.cls) tyB
      rw [htB] at this
      simpa [preparedCellV, Cell.setSlot, Cell.withEntry, Array.getElem?_setIfInBounds, bC, bS, bP, bC.symm, bS.symm, bP.symm, defaultValue] using this, fun _ _ => rfl⟩
  obtain ⟨tm, methC, cdC, kC, vm₁, hnC, -, -, -, -, -, -, -, hW₁, st1⟩ := Steps.initColdS (tb := p.tables) (e := e) (below := below) (s := s) (U := W) X.here hexec X.warmed hpl hown (t := Bundle.initS cls) rfl rfl (Bundle.fit_spec hcls).2
    (a' (.methodLink own ic (Bundle.initS cls)) (by simp [ab_ownA])) (h (.instanceMethod (Bundle.initS cls)) (by simp [ab_ownA, ab_ch, Bundle.passSAtoms])) (bytes := ab_sixb jx) (maxL := 2) (h (.code (Bundle.initS cls) (ab_sixb jx) 2 none) (by simp [ab_ownA, ab_ch, Bundle.passSAtoms]))
    (f := g) hg (a := a) (msg := msg) (rest := .ref a :: rest) hstack hd6
  cases Option.some.inj (hnC.symm.trans hP1m)
  have X₁ := X.noted hW₁
  obtain ⟨vm₂, X₂, st2⟩ := X₁.ctorMessageOffV hexec (g := { g with stack := .ref a :: rest }) hg hsize T L Z LZ M LM (P1 :: Ps)
    (fun P hP => by rcases List.mem_cons.mp hP with rfl | hP; exact L1; exact hL P hP) ⟨hlink1, hlink⟩ (u0 := u0) (sen := sen) (self := a) hmsg (cell := freshCell P1.m.cls kX) (cellS := cellS)
    hcell (fun _ => by simp) (by simp) rfl rfl hsel0 hselF hcellS hneS hknownS (by rw [hkeep _ (hout' _)]; exact hu0) (by rw [hkeep _ (hout' _)]; exact hsen)
    (Takes.of_laid hk hord tyC (by rw [Y.causeType]; rfl)) (Takes.of_laid hk hord tyS (by rw [Y.stackType]; exact fits_refV_array _ u0)) (Takes.of_laid hk hord tyP (by rw [Y.suppType]; exact fits_refV_object _ sen))
    (Takes.of_laid hk hord tyM (by rw [Y.msgType]; exact fits_refV_object _ ⟨msg, hmsg⟩)) Y.objLocals hskip htr [] hd6
    (by simp only [List.length_cons, hlen]; omega) (by simp only [List.length_cons, hlen]; exact hRlocals)
  obtain ⟨hwalk, hrun, hended, hWU, hsame⟩ := X₂.athrowLeaves hexec (g := { g with stack := .ref a :: rest, pc := g.pc + 3 }) hg hlocked hentered hout (a := a) (rest := rest) rfl hd9
  obtain ⟨c3, c4, hc3, hc4, hasg⟩ := Cond.castable_spec (a' (.castable cls cls) (by simp [ab_ownA]))
  cases Option.some.inj (hc3.symm.trans hfound)
  cases Option.some.inj (hc4.symm.trans hfound)
  have hlt : a < ((W.setVm vm₁).setVm vm₂).heap.size := (Array.getElem?_eq_some_iff.mp hcell).1
  have hU := heapAt_setCell_self (s := (W.setVm vm₁).setVm vm₂) (plainBareV T.toThrowableT (freshCell P1.m.cls kX) a u0 sen msg) hlt
  have hnM : T.fMsg.name = "detailMessage" := (State.fieldFound?_type hffM (t := .object "java/lang/String") (by decide +kernel)).1
  have nCS := Cond.laysApart hdC hdS hdnC hdnS (by rw [Y.causeName, Y.stackName]; decide)
  have nCP := Cond.laysApart hdC hdP hdnC hdnP (by rw [Y.causeName, Y.suppName]; decide)
  have nCM := Cond.laysApart hdC hdM hdnC hdnM (by rw [Y.causeName, hnM]; decide)
  have nSP := Cond.laysApart hdS hdP hdnS hdnP (by rw [Y.stackName, Y.suppName]; decide)
  have nSM := Cond.laysApart hdS hdM hdnS hdnM (by rw [Y.stackName, hnM]; decide)
  have nPM := Cond.laysApart hdP hdM hdnP hdnM (by rw [Y.suppName, hnM]; decide)
  have lC : T.fCause.slot < kX.instanceTypes.size := (Array.getElem?_eq_some_iff.mp tyC).1
  have lS : T.fStack.slot < kX.instanceTypes.size := (Array.getElem?_eq_some_iff.mp tyS).1
  have lP : T.fSupp.slot < kX.instanceTypes.size := (Array.getElem?_eq_some_iff.mp tyP).1
  have lM : T.fMsg.slot < kX.instanceTypes.size := (Array.getElem?_eq_some_iff.mp tyM).1
  have evU : ∀ o, (Term.static Bundle.tN "UNASSIGNED_STACK" Bundle.steD).eval args s o [] s = some u0.v := by
    intro o
    simp [Term.eval, State.fieldNamed?, Y.unassigned, L.unassignedStatic, L.statics, hcS0, hiss, hu0]
  have evS : ∀ o, (Term.static Bundle.tN "SUPPRESSED_SENTINEL" Bundle.listD).eval args s o [] s = some sen.v := by
    intro o
    simp [Term.eval, State.fieldNamed?, Y.sentinel, L.sentinelStatic, L.statics, hcS0, hiss, hsen]
  refine ⟨_, st1 _ (fun acts => ?_), hrun, hended, hWU, hsame.weaken (fun y hy hlt' => ?_) (Nat.le_refl _) (Nat.le_refl _), _, hU, ?_⟩
  · rw [doInvoke_state]
    exact st2 _ hwalk
  · rcases List.mem_append.mp hy with h1 | h1
    · exact h1
    · exfalso
      have hb : y.base = a := by
        simp only [List.mem_cons, List.not_mem_nil, or_false] at h1
        rcases h1 with rfl | rfl | rfl | rfl | rfl <;> rfl
      rw [hb] at hlt'
      exact Nat.not_lt.mpr hnew hlt'
  · exact { cls := hfound, self := hasg, monitor := rfl, hash := rfl, vm := rfl, size := by simp [plainBareV, preparedCellV, Cell.setSlot, hn6]
            cause := ⟨_, _, _, _, Y.cause, by simp [plainBareV, preparedCellV, Cell.setSlot, nCS.symm, nCP.symm, nCM.symm, lC]⟩
            stack := ⟨_, _, _, _, u0, Y.stack, by simp [plainBareV, preparedCellV, Cell.setSlot, nSM.symm, lS], evU⟩
            supp := ⟨_, _, _, _, sen, Y.supp, by simp [plainBareV, preparedCellV, Cell.setSlot, nSP, nPM.symm, lP], evS⟩
            msg := ⟨_, _, _, _, hffM, by simp [plainBareV, preparedCellV, Cell.setSlot, lM]⟩
            other := fun O f d c k i fd hf hy n1 n2 n3 n4 => by
              obtain ⟨ty, dd, hdd, hddn⟩ := Cond.laysAt hfound hk hf hy
              have m1 := Cond.laysApart hdd hdC hddn hdnC (by rw [Y.causeName]; exact n1)
              have m2 := Cond.laysApart hdd hdS hddn hdnS (by rw [Y.stackName]; exact n2)
              have m3 := Cond.laysApart hdd hdP hddn hdnP (by rw [Y.suppName]; exact n3)
              have m4 := Cond.laysApart hdd hdM hddn hdnM (by rw [hnM]; exact n4)
              have := fresh_default (c := P1.m.cls) ty
              simpa [plainBareV, preparedCellV, Cell.setSlot, Array.getElem?_setIfInBounds, m1, m2, m3, m4, m1.symm, m2.symm, m3.symm, m4.symm] using this }
end ABTHROW2
section ABT
variable {p : Program} {l : Launch} {e : Env} {R : Room} {s : State} {m : MethodId} {args : Array Value} {below : List Frame} {meth : Method} {c : Code} {H : Heap} {locs : List Loc} {cells slots : Nat} {Q : State → Prop}
variable {mc ms : Nat} {free : Addr → Prop} {A0 A1 : Nat → Prop} {H0 : Heap} {a : Array Value} {ls : Array Slot} {st0 rest : List Value}
variable {Qc : Array Value → State → Outcome → State → Prop} {XC : String → State → State → Prop}
theorem ab_throwS {cc : ByteArray} {pc : Nat} (hexec : p.tables.exec = Jvm.exec) (hb : c.code = cc) (hl : l.stackTraces = false) {own cls text Y0 : String} {r0 : List String} {ik is ic jx mc ms sa : Nat} (hj : ab_sixok jx) {A : Nat → Prop}
    (hown : s.vm.findClass own = some m.cls) (hcls : Bundle.fit cls = true) (hnames : ∀ n ∈ Y0 :: r0, Bundle.fit n = true)
    (hk : (Cond.classLink own ik cls).before args s = true) (hini : (Cond.initialized cls).before args s = true) (hstr : vk_R own is text sa s) (hat : ∀ w ∈ ab_atS own ic cls jx Y0 r0, w.before args s = true)
    (hgood : ∀ w ∈ Cond.classLink own ik cls :: Cond.initialized cls :: ab_atS own ic cls jx Y0 r0, vx_ot w = true)
    (hU : vx_Zq Bundle.tN "UNASSIGNED_STACK" Bundle.steD A s s.heap) (hN : vx_Zq Bundle.tN "SUPPRESSED_SENTINEL" Bundle.listD A s s.heap) (hS : va_S A s.heap H locs) (hsize : ls.size = c.maxLocals)
    (d0 : decode cc pc = .ok (.new ik, 3)) (d3 : decode cc (pc + 3) = .ok (.dup, 1)) (d4 : decode cc (pc + 4) = .ok (.ldc is, 2)) (d6 : decode cc (pc + 6) = .ok (.invokespecial ic, 3)) (d9 : decode cc (pc + 9) = .ok (.athrow, 1))
    (hout : ∀ x ∈ c.exceptionTable.toList, covers x (pc + 9) = false)
    (hRframes : (Y0 :: r0).length + 3 < R.frames) (hRlocals : (rest.map fun v => v.category).sum + (13 * ((Y0 :: r0).length + 1) + 43) ≤ R.locals) (hRcells : cells + 1 ≤ R.cells) (hRslots : slots + 6 ≤ R.slots) (hlocks : meth.locks = false)
    (hx : ∀ t : State, s.vm.Alike t.vm → t.heap.size = H.size + 1 → (∀ q : Nat, q < H.size → t.heap[q]? = H[q]?) → XC cls s t)
    (hf : ∀ z ∈ locs, free z.base) (hc : cells + 1 ≤ mc) (hs : slots + 6 ≤ ms) :
    W p l e R s m args below meth c H locs cells slots (vx_MQ below Qc XC args s mc ms free) (F0 m pc ls rest) := by
  intro T hT X
  have htr : e.platform.stackTraces = false := (show e.platform.stackTraces = l.stackTraces by rw [X.admits.platform]).trans hl
  have Y := vx_rebase X (R' := { frames := R.frames, locals := R.locals, cells := 1, slots := 6 }) (Nat.le_refl _) (Nat.le_refl _) hRcells hRslots
  obtain ⟨s', hA⟩ : ∃ z, z = (T.setVm s.vm).setFrames (.invoking m args :: below) := ⟨_, rfl⟩
  rw [← hA] at Y
  have hvm : s'.vm = s.vm := by rw [hA]; rfl
  have hhp : s'.heap = H := by rw [hA]; exact hT
  have hW0 : s.WarmedH s'.vm := by rw [hvm]; exact State.WarmedH.refl s
  have hat' : ∀ w ∈ ab_atS own ic cls jx Y0 r0, w.before args s' = true := fun w hw => vx_ot_at hW0 hvm.symm (hgood w (List.mem_cons_of_mem _ (List.mem_cons_of_mem _ hw))) (hat w hw)
  have hk' : (Cond.classLink own ik cls).before args s' = true := vx_ot_at hW0 hvm.symm (hgood _ List.mem_cons_self) hk
  have hini' : (Cond.initialized cls).before args s' = true := vx_ot_at hW0 hvm.symm (hgood _ (List.mem_cons_of_mem _ List.mem_cons_self)) hini
  have hU' : vx_Zq Bundle.tN "UNASSIGNED_STACK" Bundle.steD A s' s'.heap := by rw [hhp]; exact vx_Zq.moved hW0.alike (hU.kept hS.2.1)
  have hN' : vx_Zq Bundle.tN "SUPPRESSED_SENTINEL" Bundle.listD A s' s'.heap := by rw [hhp]; exact vx_Zq.moved hW0.alike (hN.kept hS.2.1)
  have h : ∀ w ∈ ab_ownA own ic cls jx Y0 r0, w.before args s' = true := vx_own hat' (vx_isRefq hU'.1) (vx_isRefq hN'.1) hU'.2.word hN'.2.word
  have hown' : s'.vm.findClass own = some m.cls := by rw [hvm]; exact hown
  have hins : (Cond.instantiable cls 6).before args s' = true := h _ (by simp [ab_ownA])
  obtain ⟨vm₁, cX, kX, hfX, hkX, -, -, X₁, st1⟩ := Y.newCold hexec (own := own) (C := cls) (index := ik) (n := 6) hown' hk' hins hini'
    (g := F0 m pc ls rest) rfl (by rw [hb]; exact d0) (Nat.le_refl _) (Nat.le_refl _)
  generalize hT1 : (T.setVm vm₁).pushCell { cls := cX, slots := kX.instanceTypes.map defaultValue, vm := .none } = T1 at X₁ st1
  have hcat : (Value.ref T.heap.size).category = 1 := rfl
  have hcellA : T1.heap[T.heap.size]? = some (freshCell cX kX) := by rw [← hT1]; exact State.heap_pushCell_size _ _
  have d3' : decode c.code (pc + 3) = .ok (.dup, 1) := by rw [hb]; exact d3
  have d4' : decode c.code (pc + 4) = .ok (.ldc is, 2) := by rw [hb]; exact d4
  have hstr' : vk_R own is text sa s' := vk_R.warm hW0 hstr
  obtain ⟨U, hsteps, hrun, hend, hW, hsame, ce, hce, hO⟩ := ab_ctorThrowS X₁ hexec htr (own := own) (cls := cls) (Y0 := Y0) (r0 := r0) (ic := ic) (jx := jx) hj hown' hcls hnames h (fun x hx => nomatch hx) hfX hkX hcellA (by rw [hhp, hT]; exact Nat.le_refl _) (msg := .ref sa) rfl
    (g := { method := m, pc := pc + 6, locals := ls, stack := .ref sa :: .ref T.heap.size :: .ref T.heap.size :: rest, locked := none }) rfl hsize rfl rfl (rest := rest) rfl
    (by rw [hb]; exact d6) (by rw [hb]; exact d9) hout hRframes (by simp only [List.map_cons, List.sum_cons, hcat]; omega) hlocks
  obtain ⟨f1, f2⟩ := vx_frame hsame
  rw [hhp] at f1 f2
  have hWs : s.WarmedH U.vm := State.WarmedH.trans hW0 hW
  have hcl : s.vm.findClass cls = some ce.cls := by
    have h9 := hO.cls
    rw [hvm] at h9
    exact h9
  have hall : s.sameButNew ({ U with vm := s.vm } : State) locs mc ms := by
    subst hA
    obtain ⟨e1, e2⟩ := hsame
    rw [State.setFrames_setFrames] at e1
    have h2 : (T.setVm s.vm).sameButNew ({ U with vm := s.vm } : State) [] (0 + 1) (0 + 6) := ⟨e1, e2⟩
    have h3 := X.same.trans h2
    rw [List.append_nil] at h3
    exact h3.mono hc hs
  refine ⟨U, ?_, .threw T.heap.size, hrun, hend, Or.inr ⟨T.heap.size, rfl, cls, ce, locs, hx U hWs.alike (by have h8 := (Array.getElem?_eq_some_iff.mp hce).1; have h9 : U.heap.size ≤ s'.heap.size + 1 := hsame.2.2.1; rw [hhp] at h9; rw [hT] at h8; omega) (fun q hq => f2 q hq (fun z hz => nomatch hz)), hce, hO.vm, hcl, hWs, hall, hf⟩⟩
  refine st1 _ ?_
  show Steps p.tables e below (T1.setTop { method := m, pc := pc + 3, locals := ls, stack := .ref T.heap.size :: rest, locked := none }) _
  jvm_step X₁.here [X₁.here.top, hexec, d3', Value.category]
  exact X₁.ldcString hexec (own := own) (text := text) (index := is) (a := sa) hown' hstr'.1 hstr'.2
    (g := { method := m, pc := pc + 4, locals := ls, stack := .ref T.heap.size :: .ref T.heap.size :: rest, locked := none }) rfl d4' _ hsteps
theorem ab_throwSW {cc : ByteArray} {pc : Nat} (hexec : p.tables.exec = Jvm.exec) (hb : c.code = cc) (hl : l.stackTraces = false) {own cls text Y0 : String} {r0 : List String} {ik is ic jx mc ms sa : Nat} (hj : ab_sixok jx) {A : Nat → Prop}
    (hown : s.vm.findClass own = some m.cls) (hcls : Bundle.fit cls = true) (hnames : ∀ n ∈ Y0 :: r0, Bundle.fit n = true)
    (hk : (Cond.classLink own ik cls).before args s = true) (hini : (Cond.initialized cls).before args s = true) (hstr : vk_R own is text sa s) (hat : ∀ w ∈ ab_atS own ic cls jx Y0 r0, w.before args s = true)
    (hgood : ∀ w ∈ Cond.classLink own ik cls :: Cond.initialized cls :: ab_atS own ic cls jx Y0 r0, vx_ot w = true)
    (hU : vx_Zq Bundle.tN "UNASSIGNED_STACK" Bundle.steD A s s.heap) (hN : vx_Zq Bundle.tN "SUPPRESSED_SENTINEL" Bundle.listD A s s.heap) (hS : va_S A s.heap H locs) (hsize : ls.size = c.maxLocals)
    (d0 : decode cc pc = .ok (.new ik, 3)) (d3 : decode cc (pc + 3) = .ok (.dup, 1)) (d4 : decode cc (pc + 4) = .ok (.ldc_w is, 3)) (d7 : decode cc (pc + 7) = .ok (.invokespecial ic, 3)) (d10 : decode cc (pc + 10) = .ok (.athrow, 1))
    (hout : ∀ x ∈ c.exceptionTable.toList, covers x (pc + 10) = false)
    (hRframes : (Y0 :: r0).length + 3 < R.frames) (hRlocals : (rest.map fun v => v.category).sum + (13 * ((Y0 :: r0).length + 1) + 43) ≤ R.locals) (hRcells : cells + 1 ≤ R.cells) (hRslots : slots + 6 ≤ R.slots) (hlocks : meth.locks = false)
    (hx : ∀ t : State, s.vm.Alike t.vm → t.heap.size = H.size + 1 → (∀ q : Nat, q < H.size → t.heap[q]? = H[q]?) → XC cls s t)
    (hf : ∀ z ∈ locs, free z.base) (hc : cells + 1 ≤ mc) (hs : slots + 6 ≤ ms) :
    W p l e R s m args below meth c H locs cells slots (vx_MQ below Qc XC args s mc ms free) (F0 m pc ls rest) := by
  intro T hT X
  have htr : e.platform.stackTraces = false := (show e.platform.stackTraces = l.stackTraces by rw [X.admits.platform]).trans hl
  have Y := vx_rebase X (R' := { frames := R.frames, locals := R.locals, cells := 1, slots := 6 }) (Nat.le_refl _) (Nat.le_refl _) hRcells hRslots
  obtain ⟨s', hA⟩ : ∃ z, z = (T.setVm s.vm).setFrames (.invoking m args :: below) := ⟨_, rfl⟩
  rw [← hA] at Y
  have hvm : s'.vm = s.vm := by rw [hA]; rfl
  have hhp : s'.heap = H := by rw [hA]; exact hT
  have hW0 : s.WarmedH s'.vm := by rw [hvm]; exact State.WarmedH.refl s
  have hat' : ∀ w ∈ ab_atS own ic cls jx Y0 r0, w.before args s' = true := fun w hw => vx_ot_at hW0 hvm.symm (hgood w (List.mem_cons_of_mem _ (List.mem_cons_of_mem _ hw))) (hat w hw)
  have hk' : (Cond.classLink own ik cls).before args s' = true := vx_ot_at hW0 hvm.symm (hgood _ List.mem_cons_self) hk
  have hini' : (Cond.initialized cls).before args s' = true := vx_ot_at hW0 hvm.symm (hgood _ (List.mem_cons_of_mem _ List.mem_cons_self)) hini
  have hU' : vx_Zq Bundle.tN "UNASSIGNED_STACK" Bundle.steD A s' s'.heap := by rw [hhp]; exact vx_Zq.moved hW0.alike (hU.kept hS.2.1)
  have hN' : vx_Zq Bundle.tN "SUPPRESSED_SENTINEL" Bundle.listD A s' s'.heap := by rw [hhp]; exact vx_Zq.moved hW0.alike (hN.kept hS.2.1)
  have h : ∀ w ∈ ab_ownA own ic cls jx Y0 r0, w.before args s' = true := vx_own hat' (vx_isRefq hU'.1) (vx_isRefq hN'.1) hU'.2.word hN'.2.word
  have hown' : s'.vm.findClass own = some m.cls := by rw [hvm]; exact hown
  have hins : (Cond.instantiable cls 6).before args s' = true := h _ (by simp [ab_ownA])
  obtain ⟨vm₁, cX, kX, hfX, hkX, -, -, X₁, st1⟩ := Y.newCold hexec (own := own) (C := cls) (index := ik) (n := 6) hown' hk' hins hini'
    (g := F0 m pc ls rest) rfl (by rw [hb]; exact d0) (Nat.le_refl _) (Nat.le_refl _)
  generalize hT1 : (T.setVm vm₁).pushCell { cls := cX, slots := kX.instanceTypes.map defaultValue, vm := .none } = T1 at X₁ st1
  have hcat : (Value.ref T.heap.size).category = 1 := rfl
  have hcellA : T1.heap[T.heap.size]? = some (freshCell cX kX) := by rw [← hT1]; exact State.heap_pushCell_size _ _
  have d3' : decode c.code (pc + 3) = .ok (.dup, 1) := by rw [hb]; exact d3
  have d4' : decode c.code (pc + 4) = .ok (.ldc_w is, 3) := by rw [hb]; exact d4
  have hstr' : vk_R own is text sa s' := vk_R.warm hW0 hstr
  obtain ⟨U, hsteps, hrun, hend, hW, hsame, ce, hce, hO⟩ := ab_ctorThrowS X₁ hexec htr (own := own) (cls := cls) (Y0 := Y0) (r0 := r0) (ic := ic) (jx := jx) hj hown' hcls hnames h (fun x hx => nomatch hx) hfX hkX hcellA (by rw [hhp, hT]; exact Nat.le_refl _) (msg := .ref sa) rfl
    (g := { method := m, pc := pc + 7, locals := ls, stack := .ref sa :: .ref T.heap.size :: .ref T.heap.size :: rest, locked := none }) rfl hsize rfl rfl (rest := rest) rfl
    (by rw [hb]; exact d7) (by rw [hb]; exact d10) hout hRframes (by simp only [List.map_cons, List.sum_cons, hcat]; omega) hlocks
  obtain ⟨f1, f2⟩ := vx_frame hsame
  rw [hhp] at f1 f2
  have hWs : s.WarmedH U.vm := State.WarmedH.trans hW0 hW
  have hcl : s.vm.findClass cls = some ce.cls := by
    have h9 := hO.cls
    rw [hvm] at h9
    exact h9
  have hall : s.sameButNew ({ U with vm := s.vm } : State) locs mc ms := by
    subst hA
    obtain ⟨e1, e2⟩ := hsame
    rw [State.setFrames_setFrames] at e1
    have h2 : (T.setVm s.vm).sameButNew ({ U with vm := s.vm } : State) [] (0 + 1) (0 + 6) := ⟨e1, e2⟩
    have h3 := X.same.trans h2
    rw [List.append_nil] at h3
    exact h3.mono hc hs
  refine ⟨U, ?_, .threw T.heap.size, hrun, hend, Or.inr ⟨T.heap.size, rfl, cls, ce, locs, hx U hWs.alike (by have h8 := (Array.getElem?_eq_some_iff.mp hce).1; have h9 : U.heap.size ≤ s'.heap.size + 1 := hsame.2.2.1; rw [hhp] at h9; rw [hT] at h8; omega) (fun q hq => f2 q hq (fun z hz => nomatch hz)), hce, hO.vm, hcl, hWs, hall, hf⟩⟩
  refine st1 _ ?_
  show Steps p.tables e below (T1.setTop { method := m, pc := pc + 3, locals := ls, stack := .ref T.heap.size :: rest, locked := none }) _
  jvm_step X₁.here [X₁.here.top, hexec, d3', Value.category]
  exact X₁.ldcStringW hexec (own := own) (text := text) (index := is) (a := sa) hown' hstr'.1 hstr'.2
    (g := { method := m, pc := pc + 4, locals := ls, stack := .ref T.heap.size :: .ref T.heap.size :: rest, locked := none }) rfl d4' _ hsteps
end ABT
end
section
/-! THE ABSTRACT MACHINE: cells by address (an array: its kind and elements; an object: its class's number and fields), the next address, the slots used; one step of it; runs of a method. No judgement of the kit stands here: part 03 ties it to W. -/
abbrev ab_C : Type := (Nat × List Value) ⊕ (Nat × List Value)
abbrev ab_H : Type := (Nat → Option ab_C) × Nat × Nat
abbrev ab_L : Type := List (Option Value)
/-- returned; thrown: the number of the class -/
abbrev ab_R : Type := Option Value ⊕ Nat
abbrev ab_I : Type := ClassFile.Instr × Nat × List Nat
abbrev ab_O : Type := (Nat × ab_L × List Value × ab_H) ⊕ ((ab_R × ab_H) ⊕ (Nat × List Value × Nat × ab_L × List Value × List (Nat × Nat × Nat)))
abbrev ab_Q : Type := ab_R → ab_H → Prop
abbrev ab_N : Type := Nat → ab_L → List Value → ab_H → Prop
abbrev ab_Y : Type := Nat → List Value → ab_H → ab_Q → Prop
def ab_set (h : ab_H) (a : Nat) (c : ab_C) : ab_H := (fun b => if b = a then some c else h.1 b, h.2.1, h.2.2)
def ab_new (h : ab_H) (c : ab_C) (n : Nat) : ab_H := (fun b => if b = h.2.1 then some c else h.1 b, h.2.1 + 1, h.2.2 + n)
/-- kinds of values: 0 int, 1 boolean, 2 char, 3 long, 4 double, 5 float, else a reference -/
def ab_fit : Nat → Value → Bool
  | 0, .int _ => true
  | 1, .int x => x == 0 || x == 1
  | 2, .int x => 0 ≤ x && x ≤ 65535
  | 3, .long _ => true
  | 4, .double _ => true
  | 5, .float _ => true
  | 6, .null => true
  | 6, .ref _ => true
  | _, _ => false
def ab_dv : Nat → Value
  | 0 => .int 0
  | 1 => .int 0
  | 2 => .int 0
  | 3 => .long 0
  | 4 => .double 0
  | 5 => .float 0
  | _ => .null
/-- a store into the locals -/
def ab_cl2 : Option Value → Option Value
  | some v => if v.category = 2 then none else some v
  | none => none
def ab_sto : ab_L → Nat → Value → ab_L
  | [], _, _ => []
  | _ :: l, 0, v => some v :: (if v.category = 2 then l.set 0 none else l)
  | x :: l, 1, v => ab_cl2 x :: ab_sto l 0 v
  | x :: l, i + 2, v => x :: ab_sto l (i + 1) v
def ab_in : List Value → ab_L
  | [] => []
  | v :: vs => some v :: (if v.category = 2 then none :: ab_in vs else ab_in vs)
def ab_init (vs : List Value) (n : Nat) : ab_L := ab_in vs ++ List.replicate (n - (ab_in vs).length) none
def ab_nx (pc : Nat) (l : ab_L) (st : List Value) (h : ab_H) : Option ab_O := some (.inl (pc, l, st, h))
def ab_ld (k pc : Nat) (l : ab_L) (st : List Value) (h : ab_H) (i : Nat) : Option ab_O := match l[i]? with
  | some (some v) => if ab_fit k v = true then ab_nx pc l (v :: st) h else none
  | _ => none
def ab_sv (k pc : Nat) (l : ab_L) (st : List Value) (h : ab_H) (i : Nat) : Option ab_O := match st with
  | v :: st => if ab_fit k v = true ∧ i + (v.category - 1) < l.length then ab_nx pc (ab_sto l i v) st h else none
  | [] => none
def ab_tg (pc : Nat) (o : Int) : Nat := ((pc : Int) + o).toNat
/-- a branch: the target must not lie ahead of the method -/
def ab_br (b : Bool) (pc : Nat) (o : Int) (l : ab_L) (st : List Value) (h : ab_H) : Option ab_O :=
  if 0 ≤ (pc : Int) + o then (if b = true then ab_nx (ab_tg pc o) l st h else ab_nx (pc + 3) l st h) else none
def ab_cc : ClassFile.Cond → Int32 → Int32 → Bool
  | .eq, x, y => decide (x = y)
  | .ne, x, y => !decide (x = y)
  | .lt, x, y => decide (x < y)
  | .ge, x, y => decide (y ≤ x)
  | .gt, x, y => decide (y < x)
  | .le, x, y => decide (x ≤ y)
def ab_rf : Value → Option (Option Nat)
  | .null => some none
  | .ref a => some (some a)
  | _ => none
/-- handlers: the class caught, the place behind the store of the exception, the local that it goes to -/
def ab_hs : List Nat → List (Nat × Nat × Nat)
  | e :: p :: k :: r => (e, p, k) :: ab_hs r
  | _ => []
/-- what may stand in an array of that kind: 6: any reference; 14: rows of ints; 8 * (ci + 2) + 6: objects of the class ci -/
def ab_el2 (t : Nat) : Option ab_C → Bool
  | some (.inr q) => t == 6 || t == 8 * (q.1 + 2) + 6
  | some (.inl q) => t == 14 && q.1 == 0
  | none => false
def ab_el (h : ab_H) (t : Nat) : Value → Bool
  | .null => t % 8 == 6 && t != 14
  | .ref a => ab_el2 t (h.1 a)
  | _ => false
/-- the rows of new int[n][m], at the addresses from the next one on, behind the outer array -/
def ab_mu (h : ab_H) (n m : Nat) : ab_H :=
  (fun b => if b = h.2.1 then some (.inl (14, (List.range n).map fun i => .ref (h.2.1 + 1 + i)))
    else if h.2.1 < b ∧ b < h.2.1 + 1 + n then some (.inl (0, List.replicate m (.int 0))) else h.1 b, h.2.1 + (1 + n), h.2.2 + (n + n * m))
def ab_cpy (f g : List Value) (sp dp n : Nat) : List Value := g.take dp ++ ((f.drop sp).take n ++ g.drop (dp + n))
def ab_call (y na pc : Nat) (hd : List Nat) (l : ab_L) (st : List Value) (h : ab_H) : Option ab_O :=
  if na ≤ st.length ∧ ((st.drop na).map Value.category).sum ≤ 8 then some (.inr (.inr (y, (st.take na).reverse, pc, l, st.drop na, ab_hs hd))) else none
def ab_i1 (f : Int32 → Value) (pc : Nat) (l : ab_L) (st : List Value) (h : ab_H) : Option ab_O := match st with
  | .int x :: st => ab_nx pc l (f x :: st) h
  | _ => none
def ab_i2 (f : Int32 → Int32 → Int32) (pc : Nat) (l : ab_L) (st : List Value) (h : ab_H) : Option ab_O := match st with
  | .int y :: .int x :: st => ab_nx pc l (.int (f x y) :: st) h
  | _ => none
def ab_l2 (f : Int64 → Int64 → Value) (pc : Nat) (l : ab_L) (st : List Value) (h : ab_H) : Option ab_O := match st with
  | .long y :: .long x :: st => ab_nx pc l (f x y :: st) h
  | _ => none
/-- a load from an array of the kind k -/
def ab_al (k pc : Nat) (l : ab_L) (st : List Value) (h : ab_H) : Option ab_O := match st with
  | .int i :: .ref a :: st => match h.1 a with
    | some (.inl (t, xs)) => if t % 8 = k ∧ ¬ (i < 0 ∨ xs.length ≤ i.toNatClampNeg) then (match xs[i.toNatClampNeg]? with
        | some v => if ab_fit k v = true then ab_nx (pc + 1) l (v :: st) h else none
        | none => none) else none
    | _ => none
  | _ => none
/-- a store into an array of the kind k -/
def ab_as (k pc : Nat) (l : ab_L) (st : List Value) (h : ab_H) : Option ab_O := match st with
  | v :: .int i :: .ref a :: st => match h.1 a with
    | some (.inl (t, xs)) => if t % 8 = k ∧ t < 1000 ∧ ab_fit k v = true ∧ ¬ (i < 0 ∨ xs.length ≤ i.toNatClampNeg) ∧ (k = 6 → ab_el h t v = true)
        then ab_nx (pc + 1) l st (ab_set h a (.inl (t, xs.set i.toNatClampNeg v))) else none
    | _ => none
  | _ => none
def ab_ax (aux : List Nat) (i : Nat) : Nat := aux.getD i 0
def ab_f (sv : Nat → Value) (i : ab_I) (pc : Nat) (l : ab_L) (st : List Value) (h : ab_H) : Option ab_O :=
  let aux := i.2.2
  match i.1 with
  | .aconst_null => ab_nx (pc + 1) l (.null :: st) h
  | .iconst n => ab_nx (pc + 1) l (.int (Int32.ofInt n) :: st) h
  | .bipush n => ab_nx (pc + 2) l (.int (Int8.ofInt n).toInt32 :: st) h
  | .sipush n => ab_nx (pc + 3) l (.int (Int16.ofInt n).toInt32 :: st) h
  | .lconst n => ab_nx (pc + 1) l (.long (Int64.ofNat (n : Nat)) :: st) h
  | .ldc _ => ab_nx (pc + 2) l (.int (Int32.ofNat (ab_ax aux 0)) :: st) h
  | .ldc_w _ => ab_nx (pc + 3) l (.int (Int32.ofNat (ab_ax aux 0)) :: st) h
  | .dconst n => ab_nx (pc + 1) l (.double (if n.val = 0 then FP.dconst0 else FP.dconst1) :: st) h
  | .ldc2_w _ => ab_nx (pc + 3) l ((if ab_ax aux 1 = 1 then .long (Int64.ofNat (ab_ax aux 0)) else .double (UInt64.ofNat (ab_ax aux 0))) :: st) h
  | .iload k => ab_ld 0 (pc + 2) l st h k
  | .iload_n k => ab_ld 0 (pc + 1) l st h k
  | .lload k => ab_ld 3 (pc + 2) l st h k
  | .lload_n k => ab_ld 3 (pc + 1) l st h k
  | .dload k => ab_ld 4 (pc + 2) l st h k
  | .dload_n k => ab_ld 4 (pc + 1) l st h k
  | .aload k => ab_ld 6 (pc + 2) l st h k
  | .aload_n k => ab_ld 6 (pc + 1) l st h k
  | .istore k => ab_sv 0 (pc + 2) l st h k
  | .istore_n k => ab_sv 0 (pc + 1) l st h k
  | .lstore k => ab_sv 3 (pc + 2) l st h k
  | .lstore_n k => ab_sv 3 (pc + 1) l st h k
  | .dstore k => ab_sv 4 (pc + 2) l st h k
  | .dstore_n k => ab_sv 4 (pc + 1) l st h k
  | .astore k => ab_sv 6 (pc + 2) l st h k
  | .astore_n k => ab_sv 6 (pc + 1) l st h k
  | .iinc k n => match l[k]? with
    | some (some (.int x)) => ab_nx (pc + 3) (ab_sto l k (.int (x + Int32.ofInt n))) st h
    | _ => none
  | .iadd => ab_i2 (fun x y => x + y) (pc + 1) l st h
  | .isub => ab_i2 (fun x y => x - y) (pc + 1) l st h
  | .imul => ab_i2 (fun x y => x * y) (pc + 1) l st h
  | .iand => ab_i2 (fun x y => x &&& y) (pc + 1) l st h
  | .ior => ab_i2 (fun x y => x ||| y) (pc + 1) l st h
  | .ixor => ab_i2 (fun x y => x ^^^ y) (pc + 1) l st h
  | .ishl => ab_i2 (fun x y => x <<< (y &&& 31)) (pc + 1) l st h
  | .ishr => ab_i2 (fun x y => x >>> (y &&& 31)) (pc + 1) l st h
  | .idiv => match st with
    | .int y :: .int x :: st => if y = 0 then none else ab_nx (pc + 1) l (.int (x / y) :: st) h
    | _ => none
  | .irem => match st with
    | .int y :: .int x :: st => if y = 0 then none else ab_nx (pc + 1) l (.int (x - x / y * y) :: st) h
    | _ => none
  | .ineg => ab_i1 (fun x => .int (-x)) (pc + 1) l st h
  | .i2l => ab_i1 (fun x => .long x.toInt64) (pc + 1) l st h
  | .i2c => ab_i1 (fun x => .int (x.toUInt32 % 65536).toInt32) (pc + 1) l st h
  | .i2d => ab_i1 (fun x => .double (FP.i2d x)) (pc + 1) l st h
  | .i2f => ab_i1 (fun x => .float (FP.i2f x)) (pc + 1) l st h
  | .ladd => ab_l2 (fun x y => .long (x + y)) (pc + 1) l st h
  | .lsub => ab_l2 (fun x y => .long (x - y)) (pc + 1) l st h
  | .lcmp => ab_l2 (fun x y => .int (lg_cmp x y)) (pc + 1) l st h
  | .fdiv => match st with
    | .float y :: .float x :: st => if FP.fdiv x y &&& 0x7fffffff ≤ 0x7f800000 then ab_nx (pc + 1) l (.float (FP.fdiv x y) :: st) h else none
    | _ => none
  | .ddiv => match st with
    | .double y :: .double x :: st => if FP.ddiv x y &&& 0x7fffffffffffffff ≤ 0x7ff0000000000000 then ab_nx (pc + 1) l (.double (FP.ddiv x y) :: st) h else none
    | _ => none
  | .f2d => match st with
    | .float x :: st => if FP.f2d x &&& 0x7fffffffffffffff ≤ 0x7ff0000000000000 then ab_nx (pc + 1) l (.double (FP.f2d x) :: st) h else none
    | _ => none
  | .dcmp op => match st with
    | .double y :: .double x :: st => ab_nx (pc + 1) l (.int (Op.cmpValue (FP.dcmp x y) op) :: st) h
    | _ => none
  | .dup => match st with
    | v :: st => if v.category = 1 then ab_nx (pc + 1) l (v :: v :: st) h else none
    | _ => none
  | .pop => match st with
    | v :: st => if v.category = 1 then ab_nx (pc + 1) l st h else none
    | _ => none
  | .dup_x1 => match st with
    | v :: w :: st => if v.category = 1 ∧ w.category = 1 then ab_nx (pc + 1) l (v :: w :: v :: st) h else none
    | _ => none
  | .dup2 => match st with
    | v :: w :: st => if v.category = 1 ∧ w.category = 1 then ab_nx (pc + 1) l (v :: w :: v :: w :: st) h else none
    | _ => none
  | .ifCond c o => match st with
    | .int x :: st => ab_br (ab_cc c x 0) pc o l st h
    | _ => none
  | .if_icmp c o => match st with
    | .int y :: .int x :: st => ab_br (ab_cc c x y) pc o l st h
    | _ => none
  | .ifnull o => match st with
    | v :: st => match ab_rf v with
      | some r => ab_br (decide (r = none)) pc o l st h
      | none => none
    | _ => none
  | .ifnonnull o => match st with
    | v :: st => match ab_rf v with
      | some r => ab_br (decide (r ≠ none)) pc o l st h
      | none => none
    | _ => none
  | .if_acmp c o => match st with
    | w :: v :: st => match ab_rf v, ab_rf w with
      | some x, some y => ab_br (match c with | .eq => decide (x = y) | .ne => !decide (x = y)) pc o l st h
      | _, _ => none
    | _ => none
  | .goto o => if 0 ≤ (pc : Int) + o then ab_nx (ab_tg pc o) l st h else none
  | .tableswitch d lo hi os => match st with
    | .int x :: st => if x.toInt < lo ∨ hi < x.toInt then (if 0 ≤ (pc : Int) + d then ab_nx (ab_tg pc d) l st h else none)
        else (match os[(x.toInt - lo).toNat]? with
          | some o => if 0 ≤ (pc : Int) + o then ab_nx (ab_tg pc o) l st h else none
          | none => none)
    | _ => none
  | .lookupswitch d ps => match st with
    | .int x :: st => if 0 ≤ (pc : Int) + Op.lookupswitch.offset ps.toList d x.toInt then ab_nx (ab_tg pc (Op.lookupswitch.offset ps.toList d x.toInt)) l st h else none
    | _ => none
  | .getfield _ => match st with
    | .ref a :: st => match h.1 a with
      | some (.inr (ci, fs)) => if ci = ab_ax aux 0 then (match fs[ab_ax aux 1]? with
          | some v => ab_nx (pc + 3) l (v :: st) h
          | none => none) else none
      | _ => none
    | _ => none
  | .putfield _ => match st with
    | v :: .ref a :: st => match h.1 a with
      | some (.inr (ci, fs)) => if ci = ab_ax aux 0 ∧ ab_ax aux 1 < fs.length ∧ ab_fit (ab_ax aux 2) v = true then ab_nx (pc + 3) l st (ab_set h a (.inr (ci, fs.set (ab_ax aux 1) v))) else none
      | _ => none
    | _ => none
  | .getstatic _ => ab_nx (pc + 3) l (sv (ab_ax aux 0) :: st) h
  | .iaload => ab_al 0 pc l st h
  | .baload => ab_al 1 pc l st h
  | .laload => ab_al 3 pc l st h
  | .daload => ab_al 4 pc l st h
  | .aaload => ab_al 6 pc l st h
  | .iastore => ab_as 0 pc l st h
  | .bastore => ab_as 1 pc l st h
  | .lastore => ab_as 3 pc l st h
  | .dastore => ab_as 4 pc l st h
  | .aastore => ab_as 6 pc l st h
  | .arraylength => match st with
    | .ref a :: st => match h.1 a with
      | some (.inl (_, xs)) => ab_nx (pc + 1) l (.int (Int32.ofNat xs.length) :: st) h
      | _ => none
    | _ => none
  | .newarray _ => match st with
    | .int n :: st => if ¬ n < 0 ∧ n.toNatClampNeg ≤ 50000000 then ab_nx (pc + 2) l (.ref h.2.1 :: st) (ab_new h (.inl (ab_ax aux 0, List.replicate n.toNatClampNeg (ab_dv (ab_ax aux 0 % 8)))) n.toNatClampNeg) else none
    | _ => none
  | .anewarray _ => match st with
    | .int n :: st => if ¬ n < 0 ∧ n.toNatClampNeg ≤ 50000000 then ab_nx (pc + 3) l (.ref h.2.1 :: st) (ab_new h (.inl (ab_ax aux 0, List.replicate n.toNatClampNeg .null)) n.toNatClampNeg) else none
    | _ => none
  | .multianewarray _ _ => match st with
    | .int m :: .int n :: st => if ¬ n < 0 ∧ ¬ m < 0 ∧ n.toNatClampNeg ≤ 1000 ∧ m.toNatClampNeg ≤ 1000 then ab_nx (pc + 4) l (.ref h.2.1 :: st) (ab_mu h n.toNatClampNeg m.toNatClampNeg) else none
    | _ => none
  | .new _ => match aux with
    | 0 :: ci :: ts => ab_nx (pc + 3) l (.ref h.2.1 :: st) (ab_new h (.inr (ci, ts.map ab_dv)) ts.length)
    | 1 :: e :: _ => if (st.map Value.category).sum ≤ 8 then some (.inr (.inl (.inr e, (h.1, h.2.1 + 1, h.2.2 + 6)))) else none
    | _ => none
  | .checkcast _ => match st with
    | .ref a :: st => match h.1 a with
      | some (.inr (ci, _)) => if ci = ab_ax aux 0 then ab_nx (pc + 3) l (.ref a :: st) h else none
      | _ => none
    | _ => none
  | .invokespecial _ => match aux with
    | [0] => match st with
      | .ref _ :: st => if (st.map Value.category).sum ≤ 8 then ab_nx (pc + 3) l st h else none
      | _ => none
    | y :: na :: hd => match st[na - 1]? with
      | some (.ref _) => ab_call y na (pc + 3) hd l st h
      | _ => none
    | _ => none
  | .invokevirtual _ => match aux with
    | y :: na :: ci :: hd => match st[na - 1]? with
      | some (.ref a) => match h.1 a with
        | some (.inr (cj, _)) => if cj = ci then ab_call y na (pc + 3) hd l st h else none
        | _ => none
      | _ => none
    | _ => none
  | .invokestatic _ => match aux with
    | [1] => match st with
      | .int n :: .int dp :: .ref a1 :: .int sp :: .ref a0 :: st => match h.1 a0, h.1 a1 with
        | some (.inl (t0, f)), some (.inl (t1, g)) => if ((t1 = 0 ∧ t0 = 0) ∨ (t1 = 6 ∧ t0 = 6)) ∧ ¬ sp < 0 ∧ ¬ dp < 0 ∧ ¬ n < 0 ∧ sp.toNatClampNeg + n.toNatClampNeg ≤ f.length ∧ dp.toNatClampNeg + n.toNatClampNeg ≤ g.length ∧ (st.map Value.category).sum ≤ 8 ∧
              (((f.drop sp.toNatClampNeg).take n.toNatClampNeg).all fun v => ab_fit t1 v && (t1 == 0 || ab_el h 6 v)) = true
            then ab_nx (pc + 3) l st (ab_set h a1 (.inl (t1, ab_cpy f g sp.toNatClampNeg dp.toNatClampNeg n.toNatClampNeg))) else none
        | _, _ => none
      | _ => none
    | [2] => match st with
      | .int y :: .int x :: st => if (st.map Value.category).sum ≤ 8 then ab_nx (pc + 3) l (.int (if y < x then y else x) :: st) h else none
      | _ => none
    | [3] => match st with
      | .int y :: .int x :: st => if (st.map Value.category).sum ≤ 8 then ab_nx (pc + 3) l (.int (if x < y then y else x) :: st) h else none
      | _ => none
    | y :: na :: hd => ab_call y na (pc + 3) hd l st h
    | _ => none
  | .ireturn => match st with
    | [.int x] => if ab_fit (ab_ax aux 0) (.int x) = true then some (.inr (.inl (.inl (some (.int x)), h))) else none
    | _ => none
  | .lreturn => match st with
    | [.long x] => some (.inr (.inl (.inl (some (.long x)), h)))
    | _ => none
  | .freturn => match st with
    | [.float x] => some (.inr (.inl (.inl (some (.float x)), h)))
    | _ => none
  | .dreturn => match st with
    | [.double x] => some (.inr (.inl (.inl (some (.double x)), h)))
    | _ => none
  | .areturn => match st with
    | [v] => if ab_fit 6 v = true then some (.inr (.inl (.inl (some v), h))) else none
    | _ => none
  | .return_ => match st with
    | [] => some (.inr (.inl (.inl none, h)))
    | _ => none
  | _ => none
/-- behind a call: the answer goes on the stack; what is thrown goes to a handler -/
def ab_hd (nx : ab_N) (l : ab_L) (h : ab_H) : Option (Nat × Nat) → Prop
  | some pk => nx pk.1 ((ab_sto l pk.2 .null).set pk.2 none) [] h
  | none => False
def ab_bk (nx : ab_N) (pc : Nat) (l : ab_L) (st : List Value) (hs : List (Nat × Nat × Nat)) : ab_R → ab_H → Prop
  | .inl v, h => nx pc l (v.toList ++ st) h
  | .inr e, h => ab_hd nx l h (hs.lookup e)
def ab_x (sv : Nat → Value) (C : ab_Y) (nx : ab_N) (Q : ab_Q) (i : ab_I) (pc : Nat) (l : ab_L) (st : List Value) (h : ab_H) : Prop :=
  match ab_f sv i pc l st h with
  | some (.inl (pc', l', st', h')) => nx pc' l' st' h'
  | some (.inr (.inl (r, h'))) => Q r h'
  | some (.inr (.inr (y, as, pc', l', st', hs))) => C y as h (ab_bk nx pc' l' st' hs)
  | none => False
/-- n steps at most, in a method's code k -/
def ab_go (sv : Nat → Value) (C : ab_Y) (k : Nat → Option ab_I) (Q : ab_Q) : Nat → ab_N
  | 0 => fun _ _ _ _ => False
  | n + 1 => fun pc l st h => match k pc with
    | some i => ab_x sv C (ab_go sv C k Q n) Q i pc l st h
    | none => False
/-- the methods: code and locals by number; calls nested d deep at most -/
def ab_run (sv : Nat → Value) (mt : Nat → (Nat → Option ab_I) × Nat) : Nat → ab_Y
  | 0 => fun _ _ _ _ => False
  | d + 1 => fun y as h Q => (ab_in as).length ≤ (mt y).2 ∧ ∃ n, ab_go sv (ab_run sv mt d) (mt y).1 Q n 0 (ab_init as (mt y).2) [] h
def ab_WP (sv : Nat → Value) (C : ab_Y) (k : Nat → Option ab_I) (Q : ab_Q) : ab_N := fun pc l st h => ∃ n, ab_go sv C k Q n pc l st h
end
section
/-! LAWS OF THE ABSTRACT MACHINE: monotone, determinate, the heap grows; WP unfolds by one step. -/
def ab_is (r : ab_R) (h : ab_H) : ab_Q := fun r1 h1 => r1 = r ∧ h1 = h
def ab_le (h h' : ab_H) : Prop := h.2.1 ≤ h'.2.1 ∧ h.2.2 ≤ h'.2.2
theorem ab_le.rf (h : ab_H) : ab_le h h := ⟨Nat.le_refl _, Nat.le_refl _⟩
theorem ab_le.tr {a b c : ab_H} (x : ab_le a b) (y : ab_le b c) : ab_le a c := ⟨Nat.le_trans x.1 y.1, Nat.le_trans x.2 y.2⟩
def ab_mon (C : ab_Y) : Prop := ∀ (y : Nat) (as : List Value) (h : ab_H) (P P' : ab_Q), (∀ r h, P r h → P' r h) → C y as h P → C y as h P'
def ab_det (C : ab_Y) : Prop := ∀ (y : Nat) (as : List Value) (h : ab_H) (P : ab_Q), C y as h P → ∃ r h', P r h' ∧ ab_le h h' ∧ C y as h (ab_is r h')
def ab_ge (h : ab_H) : Option ab_O → Prop
  | some (.inl c) => ab_le h c.2.2.2
  | some (.inr (.inl q)) => ab_le h q.2
  | _ => True
theorem ab_ge_none (h : ab_H) : ab_ge h none := trivial
theorem ab_ge_nx {h h' : ab_H} (x : ab_le h h') (pc : Nat) (l : ab_L) (st : List Value) : ab_ge h (ab_nx pc l st h') := x
theorem ab_ge_ld (k pc : Nat) (l : ab_L) (st : List Value) (h : ab_H) (i : Nat) : ab_ge h (ab_ld k pc l st h i) := by
  unfold ab_ld; repeat' split
  all_goals first | exact ab_ge_nx (ab_le.rf h) _ _ _ | exact ab_ge_none h
theorem ab_ge_sv (k pc : Nat) (l : ab_L) (st : List Value) (h : ab_H) (i : Nat) : ab_ge h (ab_sv k pc l st h i) := by
  unfold ab_sv; repeat' split
  all_goals first | exact ab_ge_nx (ab_le.rf h) _ _ _ | exact ab_ge_none h
theorem ab_ge_i1 (f : Int32 → Value) (pc : Nat) (l : ab_L) (st : List Value) (h : ab_H) : ab_ge h (ab_i1 f pc l st h) := by
  unfold ab_i1; repeat' split
  all_goals first | exact ab_ge_nx (ab_le.rf h) _ _ _ | exact ab_ge_none h
theorem ab_ge_i2 (f : Int32 → Int32 → Int32) (pc : Nat) (l : ab_L) (st : List Value) (h : ab_H) : ab_ge h (ab_i2 f pc l st h) := by
  unfold ab_i2; repeat' split
  all_goals first | exact ab_ge_nx (ab_le.rf h) _ _ _ | exact ab_ge_none h
theorem ab_ge_l2 (f : Int64 → Int64 → Value) (pc : Nat) (l : ab_L) (st : List Value) (h : ab_H) : ab_ge h (ab_l2 f pc l st h) := by
  unfold ab_l2; repeat' split
  all_goals first | exact ab_ge_nx (ab_le.rf h) _ _ _ | exact ab_ge_none h
theorem ab_ge_al (k pc : Nat) (l : ab_L) (st : List Value) (h : ab_H) : ab_ge h (ab_al k pc l st h) := by
  unfold ab_al; repeat' split
  all_goals first | exact ab_ge_nx (ab_le.rf h) _ _ _ | exact ab_ge_none h
theorem ab_le_set (h : ab_H) (a : Nat) (c : ab_C) : ab_le h (ab_set h a c) := ⟨Nat.le_refl _, Nat.le_refl _⟩
theorem ab_ge_as (k pc : Nat) (l : ab_L) (st : List Value) (h : ab_H) : ab_ge h (ab_as k pc l st h) := by
  unfold ab_as; repeat' split
  all_goals first | exact ab_ge_nx (ab_le_set h _ _) _ _ _ | exact ab_ge_none h
theorem ab_ge_br (b : Bool) (pc : Nat) (o : Int) (l : ab_L) (st : List Value) (h : ab_H) : ab_ge h (ab_br b pc o l st h) := by
  unfold ab_br; repeat' split
  all_goals first | exact ab_ge_nx (ab_le.rf h) _ _ _ | exact ab_ge_none h
theorem ab_ge_call (y na pc : Nat) (hd : List Nat) (l : ab_L) (st : List Value) (h h2 : ab_H) : ab_ge h2 (ab_call y na pc hd l st h) := by
  unfold ab_call; split <;> exact trivial
theorem ab_le_new (h : ab_H) (c : ab_C) (n : Nat) : ab_le h (ab_new h c n) := ⟨Nat.le_succ _, Nat.le_add_right _ _⟩
theorem ab_le_mu (h : ab_H) (n m : Nat) : ab_le h (ab_mu h n m) := ⟨Nat.le_add_right _ _, Nat.le_add_right _ _⟩
set_option maxHeartbeats 4000000 in
theorem ab_f_ge (sv : Nat → Value) (i : ab_I) (pc : Nat) (l : ab_L) (st : List Value) (h : ab_H) : ab_ge h (ab_f sv i pc l st h) := by
  unfold ab_f
  dsimp only
  split
  all_goals first
    | exact ab_ge_none h
    | exact ab_ge_nx (ab_le.rf h) _ _ _
    | exact ab_ge_ld _ _ _ _ _ _
    | exact ab_ge_sv _ _ _ _ _ _
    | exact ab_ge_i1 _ _ _ _ _
    | exact ab_ge_i2 _ _ _ _ _
    | exact ab_ge_l2 _ _ _ _ _
    | exact ab_ge_al _ _ _ _ _
    | exact ab_ge_as _ _ _ _ _
    | ((repeat' split) <;> first
      | exact ab_ge_none h
      | exact ab_ge_nx (ab_le.rf h) _ _ _
      | exact ab_ge_nx (ab_le_new h _ _) _ _ _
      | exact ab_ge_nx (ab_le_set h _ _) _ _ _
      | exact ab_ge_nx (ab_le_mu h _ _) _ _ _
      | exact ab_ge_br _ _ _ _ _ _
      | exact ab_ge_call _ _ _ _ _ _ _ _
      | exact ab_le.rf h
      | exact ⟨Nat.le_succ _, Nat.le_add_right _ _⟩)
theorem ab_bk_mono {nx nx' : ab_N} (hn : ∀ pc l st h, nx pc l st h → nx' pc l st h) (pc : Nat) (l : ab_L) (st : List Value) (hs : List (Nat × Nat × Nat)) (r : ab_R) (h : ab_H) (x : ab_bk nx pc l st hs r h) : ab_bk nx' pc l st hs r h := by
  cases r with
  | inl v => exact hn _ _ _ _ x
  | inr e =>
    have x : ab_hd nx l h (hs.lookup e) := x
    show ab_hd nx' l h (hs.lookup e)
    cases hl : hs.lookup e with
    | some pk => rw [hl] at x; exact hn _ _ _ _ x
    | none => rw [hl] at x; exact x.elim
theorem ab_x_mono {sv : Nat → Value} {C C' : ab_Y} {nx nx' : ab_N} {Q Q' : ab_Q} (hC : ∀ (y : Nat) (as : List Value) (h : ab_H) (P P' : ab_Q), (∀ r h, P r h → P' r h) → C y as h P → C' y as h P') (hn : ∀ pc l st h, nx pc l st h → nx' pc l st h) (hQ : ∀ r h, Q r h → Q' r h) {i : ab_I} {pc : Nat} {l : ab_L} {st : List Value} {h : ab_H} (x : ab_x sv C nx Q i pc l st h) : ab_x sv C' nx' Q' i pc l st h := by
  unfold ab_x at x ⊢
  split at x
  · exact hn _ _ _ _ x
  · exact hQ _ _ x
  · exact hC _ _ _ _ _ (fun r h2 q => ab_bk_mono hn _ _ _ _ r h2 q) x
  · exact x.elim
theorem ab_go_mono {sv : Nat → Value} {C C' : ab_Y} {k : Nat → Option ab_I} {Q Q' : ab_Q} (hC : ∀ (y : Nat) (as : List Value) (h : ab_H) (P P' : ab_Q), (∀ r h, P r h → P' r h) → C y as h P → C' y as h P') (hQ : ∀ r h, Q r h → Q' r h) : ∀ (n : Nat) (pc : Nat) (l : ab_L) (st : List Value) (h : ab_H), ab_go sv C k Q n pc l st h → ab_go sv C' k Q' n pc l st h
  | 0, _, _, _, _, x => x.elim
  | n + 1, pc, l, st, h, x => by
    unfold ab_go at x ⊢
    split at x
    · exact ab_x_mono hC (ab_go_mono hC hQ n) hQ x
    · exact x.elim
theorem ab_go_more {sv : Nat → Value} {C : ab_Y} (hC : ab_mon C) {k : Nat → Option ab_I} {Q : ab_Q} : ∀ (n : Nat) (pc : Nat) (l : ab_L) (st : List Value) (h : ab_H), ab_go sv C k Q n pc l st h → ab_go sv C k Q (n + 1) pc l st h
  | 0, _, _, _, _, x => x.elim
  | n + 1, pc, l, st, h, x => by
    unfold ab_go at x ⊢
    split at x
    · exact ab_x_mono hC (ab_go_more hC n) (fun _ _ q => q) x
    · exact x.elim
theorem ab_run_mon (sv : Nat → Value) (mt : Nat → (Nat → Option ab_I) × Nat) : ∀ d, ab_mon (ab_run sv mt d)
  | 0 => fun _ _ _ _ _ _ x => x.elim
  | d + 1 => fun y as h P P' hP x => by
    obtain ⟨h9, n, x⟩ := x
    exact ⟨h9, n, ab_go_mono (ab_run_mon sv mt d) hP n _ _ _ _ x⟩
theorem ab_go_det {sv : Nat → Value} {C : ab_Y} (hm : ab_mon C) (hd : ab_det C) {k : Nat → Option ab_I} {Q : ab_Q} : ∀ (n : Nat) (pc : Nat) (l : ab_L) (st : List Value) (h : ab_H), ab_go sv C k Q n pc l st h → ∃ r h', Q r h' ∧ ab_le h h' ∧ ab_go sv C k (ab_is r h') n pc l st h
  | 0, _, _, _, _, x => x.elim
  | n + 1, pc, l, st, h, x => by
    unfold ab_go at x
    split at x
    · rename_i i hi
      have hg := ab_f_ge sv i pc l st h
      unfold ab_x at x
      split at x
      · rename_i pc' l' st' h' hf
        rw [hf] at hg
        obtain ⟨r, h2, q1, q2, q3⟩ := ab_go_det hm hd n _ _ _ _ x
        refine ⟨r, h2, q1, ab_le.tr hg q2, ?_⟩
        unfold ab_go; rw [hi]; dsimp only; unfold ab_x; rw [hf]
        exact q3
      · rename_i r h' hf
        rw [hf] at hg
        refine ⟨r, h', x, hg, ?_⟩
        unfold ab_go; rw [hi]; dsimp only; unfold ab_x; rw [hf]
        exact ⟨rfl, rfl⟩
      · rename_i y as pc' l' st' hs hf
        obtain ⟨r, h1, q1, q2, q3⟩ := hd _ _ _ _ x
        cases r with
        | inl v =>
          obtain ⟨r2, h2, p1, p2, p3⟩ := ab_go_det hm hd n _ _ _ _ q1
          refine ⟨r2, h2, p1, ab_le.tr q2 p2, ?_⟩
          unfold ab_go; rw [hi]; dsimp only; unfold ab_x; rw [hf]
          refine hm _ _ _ _ _ (fun r3 h3 q => ?_) q3
          obtain ⟨rfl, rfl⟩ := q
          exact p3
        | inr e =>
          have q1 : ab_hd (ab_go sv C k Q n) l' h1 (hs.lookup e) := q1
          cases hl : hs.lookup e with
          | some pk =>
            rw [hl] at q1
            obtain ⟨r2, h2, p1, p2, p3⟩ := ab_go_det hm hd n _ _ _ _ q1
            refine ⟨r2, h2, p1, ab_le.tr q2 p2, ?_⟩
            unfold ab_go; rw [hi]; dsimp only; unfold ab_x; rw [hf]
            refine hm _ _ _ _ _ (fun r3 h3 q => ?_) q3
            obtain ⟨rfl, rfl⟩ := q
            show ab_hd _ _ _ (hs.lookup e)
            rw [hl]
            exact p3
          | none => rw [hl] at q1; exact q1.elim
      · exact x.elim
    · exact x.elim
theorem ab_run_det (sv : Nat → Value) (mt : Nat → (Nat → Option ab_I) × Nat) : ∀ d, ab_det (ab_run sv mt d)
  | 0 => fun _ _ _ _ x => x.elim
  | d + 1 => fun y as h P x => by
    obtain ⟨h9, n, x⟩ := x
    obtain ⟨r, h', q1, q2, q3⟩ := ab_go_det (ab_run_mon sv mt d) (ab_run_det sv mt d) n _ _ _ _ x
    exact ⟨r, h', q1, q2, h9, n, q3⟩
theorem ab_go_up {sv : Nat → Value} {C : ab_Y} (hC : ab_mon C) {k : Nat → Option ab_I} {Q : ab_Q} {n m : Nat} (hnm : n ≤ m) {pc : Nat} {l : ab_L} {st : List Value} {h : ab_H} (x : ab_go sv C k Q n pc l st h) : ab_go sv C k Q m pc l st h := by
  induction hnm with
  | refl => exact x
  | step _ ih => exact ab_go_more hC _ _ _ _ _ ih
/-- one step of WP, both ways -/
theorem ab_WP_eq {sv : Nat → Value} {C : ab_Y} (hm : ab_mon C) (hd : ab_det C) {k : Nat → Option ab_I} {Q : ab_Q} {pc : Nat} {i : ab_I} (hi : k pc = some i) (l : ab_L) (st : List Value) (h : ab_H) : ab_WP sv C k Q pc l st h = ab_x sv C (ab_WP sv C k Q) Q i pc l st h := by
  refine propext ⟨fun x => ?_, fun x => ?_⟩
  · obtain ⟨n, x⟩ := x
    cases n with
    | zero => exact x.elim
    | succ n =>
      unfold ab_go at x
      rw [hi] at x
      exact ab_x_mono hm (fun pc l st h q => ⟨n, q⟩) (fun _ _ q => q) x
  · unfold ab_x at x
    split at x
    · rename_i pc' l' st' h' hf
      obtain ⟨n, q⟩ := x
      refine ⟨n + 1, ?_⟩
      unfold ab_go; rw [hi]; dsimp only; unfold ab_x; rw [hf]
      exact q
    · rename_i r h' hf
      refine ⟨1, ?_⟩
      unfold ab_go; rw [hi]; dsimp only; unfold ab_x; rw [hf]
      exact x
    · rename_i y as pc' l' st' hs hf
      obtain ⟨r, h1, q1, q2, q3⟩ := hd _ _ _ _ x
      cases r with
      | inl v =>
        obtain ⟨n, q1⟩ := q1
        refine ⟨n + 1, ?_⟩
        unfold ab_go; rw [hi]; dsimp only; unfold ab_x; rw [hf]
        refine hm _ _ _ _ _ (fun r3 h3 q => ?_) q3
        obtain ⟨rfl, rfl⟩ := q
        exact q1
      | inr e =>
        have q1 : ab_hd (ab_WP sv C k Q) l' h1 (hs.lookup e) := q1
        cases hl : hs.lookup e with
        | some pk =>
          rw [hl] at q1
          obtain ⟨n, q1⟩ := q1
          refine ⟨n + 1, ?_⟩
          unfold ab_go; rw [hi]; dsimp only; unfold ab_x; rw [hf]
          refine hm _ _ _ _ _ (fun r3 h3 q => ?_) q3
          obtain ⟨rfl, rfl⟩ := q
          show ab_hd _ _ _ (hs.lookup e)
          rw [hl]
          exact q1
        | none => rw [hl] at q1; exact q1.elim
    · exact x.elim
end
section
/-! THE ABSTRACT MACHINE OVER THE KIT'S JUDGEMENT, first half: locals, and the instructions that leave the heap as it is. -/
def ab_LR (ls : Array Slot) (nL : Nat) (l : ab_L) : Prop := l.length = nL ∧ ls.size = nL ∧ lv_wf ls ∧ ∀ (i : Nat) (v : Value), l[i]? = some (some v) → ls[i]? = some (.val v)
def ab_prs (l : ab_L) : List (Nat × Value) := l.zipIdx.filterMap fun q => q.1.map fun v => (q.2, v)
theorem ab_prs_in {l : ab_L} {i : Nat} {v : Value} : (i, v) ∈ ab_prs l ↔ l[i]? = some (some v) := by
  unfold ab_prs
  rw [List.mem_filterMap]
  constructor
  · rintro ⟨⟨o, j⟩, h1, h2⟩
    rw [List.mem_zipIdx_iff_getElem?] at h1
    cases o with
    | none => simp at h2
    | some w =>
      simp only [Option.map_some, Option.some.injEq, Prod.mk.injEq] at h2
      obtain ⟨rfl, rfl⟩ := h2
      exact h1
  · intro h
    exact ⟨(some v, i), by rw [List.mem_zipIdx_iff_getElem?]; exact h, rfl⟩
theorem ab_LR.has {ls : Array Slot} {nL : Nat} {l : ab_L} (h : ab_LR ls nL l) : lv_has ls nL (ab_prs l) := ⟨h.2.1, h.2.2.1, fun q hq => h.2.2.2 q.1 q.2 (ab_prs_in.mp hq)⟩
theorem ab_sto_len : ∀ (l : ab_L) (i : Nat) (v : Value), (ab_sto l i v).length = l.length
  | [], _, _ => by simp [ab_sto]
  | x :: l, 0, v => by
    unfold ab_sto
    split <;> simp
  | x :: l, 1, v => by simp [ab_sto, ab_sto_len l 0 v]
  | x :: l, i + 2, v => by simp [ab_sto, ab_sto_len l (i + 1) v]
theorem ab_cl2_in {x : Option Value} {w : Value} (h : ab_cl2 x = some w) : x = some w ∧ ¬ w.category = 2 := by
  cases x with
  | none => cases h
  | some x =>
    by_cases hc : x.category = 2
    · have h2 : ab_cl2 (some x) = none := if_pos hc
      rw [h2] at h; cases h
    · have h2 : ab_cl2 (some x) = some x := if_neg hc
      rw [h2] at h
      cases h
      exact ⟨rfl, hc⟩
theorem ab_sto_in : ∀ (l : ab_L) (i : Nat) (v : Value) (j : Nat) (w : Value), (ab_sto l i v)[j]? = some (some w) → (j = i ∧ w = v) ∨ (j ≠ i ∧ l[j]? = some (some w) ∧ ¬ (j + 1 = i ∧ w.category = 2) ∧ ¬ (v.category = 2 ∧ j = i + 1))
  | [], _, _, _, _, h => by simp [ab_sto] at h
  | x :: l, 0, v, j, w, h => by
    unfold ab_sto at h
    cases j with
    | zero =>
      simp at h
      exact Or.inl ⟨rfl, h.symm⟩
    | succ j =>
      rw [List.getElem?_cons_succ] at h
      refine Or.inr ⟨by omega, ?_, by omega, ?_⟩
      · rw [List.getElem?_cons_succ]
        split at h
        · rw [List.getElem?_set] at h
          split at h
          · split at h <;> simp at h
          · exact h
        · exact h
      · rintro ⟨hc, hj⟩
        rw [if_pos hc] at h
        have hj0 : j = 0 := by omega
        subst hj0
        rw [List.getElem?_set] at h
        simp at h
  | x :: l, 1, v, j, w, h => by
    unfold ab_sto at h
    cases j with
    | zero =>
      rw [List.getElem?_cons_zero] at h
      refine Or.inr ⟨by omega, ?_, ?_, by omega⟩
      · rw [List.getElem?_cons_zero]
        exact congrArg some (ab_cl2_in (Option.some.inj h)).1
      · rintro ⟨-, hc⟩
        exact (ab_cl2_in (Option.some.inj h)).2 hc
    | succ j =>
      rw [List.getElem?_cons_succ] at h
      rcases ab_sto_in l 0 v j w h with ⟨h1, h2⟩ | ⟨h1, h2, h3, h4⟩
      · exact Or.inl ⟨by omega, h2⟩
      · exact Or.inr ⟨by omega, by rw [List.getElem?_cons_succ]; exact h2, by rintro ⟨q, -⟩; omega, by rintro ⟨q1, q2⟩; exact h4 ⟨q1, by omega⟩⟩
  | x :: l, i + 2, v, j, w, h => by
    unfold ab_sto at h
    cases j with
    | zero =>
      rw [List.getElem?_cons_zero] at h
      exact Or.inr ⟨by omega, by rw [List.getElem?_cons_zero]; exact h, by rintro ⟨q, -⟩; omega, by rintro ⟨-, q⟩; omega⟩
    | succ j =>
      rw [List.getElem?_cons_succ] at h
      rcases ab_sto_in l (i + 1) v j w h with ⟨h1, h2⟩ | ⟨h1, h2, h3, h4⟩
      · exact Or.inl ⟨by omega, h2⟩
      · exact Or.inr ⟨by omega, by rw [List.getElem?_cons_succ]; exact h2, by rintro ⟨q, q2⟩; exact h3 ⟨by omega, q2⟩, by rintro ⟨q1, q2⟩; exact h4 ⟨q1, by omega⟩⟩
theorem ab_LR.st1 {ls' : Array Slot} {nL i : Nat} {l : ab_L} {v : Value} (hl : l.length = nL) (h : lv_has ls' nL ((i, v) :: (ab_prs l).filter (fun q => !(q.1 == i) && !(q.1 + 1 == i && q.2.category == 2)))) : ab_LR ls' nL (ab_sto l i v) := by
  refine ⟨(ab_sto_len l i v).trans hl, h.1, h.2.1, fun j w hj => ?_⟩
  rcases ab_sto_in l i v j w hj with ⟨rfl, rfl⟩ | ⟨h1, h2, h3, -⟩
  · exact h.2.2 _ List.mem_cons_self
  · refine h.2.2 (j, w) (List.mem_cons_of_mem _ (List.mem_filter.mpr ⟨ab_prs_in.mpr h2, ?_⟩))
    have e1 : (j == i) = false := by simpa using h1
    by_cases e2 : j + 1 = i
    · have e3 : (w.category == 2) = false := by
        have : ¬ w.category = 2 := fun q => h3 ⟨e2, q⟩
        simpa using this
      simp [e1, e3]
    · have e3 : (j + 1 == i) = false := by simpa using e2
      simp [e1, e3]
theorem ab_LR.st2 {ls' : Array Slot} {nL i : Nat} {l : ab_L} {v : Value} (hc : v.category = 2) (hl : l.length = nL) (h : lv_has ls' nL ((i, v) :: (ab_prs l).filter (fun q => !(q.1 == i) && (!(q.1 == i + 1) && !(q.1 + 1 == i && q.2.category == 2))))) : ab_LR ls' nL (ab_sto l i v) := by
  refine ⟨(ab_sto_len l i v).trans hl, h.1, h.2.1, fun j w hj => ?_⟩
  rcases ab_sto_in l i v j w hj with ⟨rfl, rfl⟩ | ⟨h1, h2, h3, h4⟩
  · exact h.2.2 _ List.mem_cons_self
  · refine h.2.2 (j, w) (List.mem_cons_of_mem _ (List.mem_filter.mpr ⟨ab_prs_in.mpr h2, ?_⟩))
    have e1 : (j == i) = false := by simpa using h1
    have e4 : (j == i + 1) = false := by
      have : ¬ j = i + 1 := fun q => h4 ⟨hc, q⟩
      simpa using this
    by_cases e2 : j + 1 = i
    · have e3 : (w.category == 2) = false := by
        have : ¬ w.category = 2 := fun q => h3 ⟨e2, q⟩
        simpa using this
      simp [e1, e3, e4]
    · have e3 : (j + 1 == i) = false := by simpa using e2
      simp [e1, e3, e4]
/-! the heap's picture -/
/-- the component's type by the kind -/
def ab_kt : Nat → FieldType → Bool
  | 0, .int => true
  | 1, .boolean => true
  | 2, .char => true
  | 3, .long => true
  | 4, .double => true
  | 5, .float => true
  | 6, .object _ => true
  | 6, .array _ => true
  | _, _ => false
/-- arrays that only are read: of the start -/
def ab_rk (t : Nat) : Bool := t == 1000 || t == 1006
def ab_at (cl : List vw_C) (D : va_G) (E : Nat → ClassId) (ks : Nat → Bool) (base a : Nat) (H : Heap) : ab_C → Prop
  | .inl q => (ks q.1 = true ∧ H[a]? = some { cls := E q.1, slots := q.2.toArray, vm := .none } ∧ base ≤ a) ∨ (ab_rk q.1 = true ∧ ∃ cell : Cell, H[a]? = some cell ∧ cell.cls = E q.1 ∧ cell.slots = q.2.toArray ∧ cell.vm ≠ .unknown ∧ ∀ k, cell.vm ≠ .statics k)
  | .inr q => (∃ r : vw_C, cl[q.1]? = some r ∧ q.2.length = r.2.2 ∧ t_OB a (D.1 q.1) r.2.2 (D.2 q.1) H (vp_V q.2)) ∧ base ≤ a
def ab_Rl (cl : List vw_C) (D : va_G) (E : Nat → ClassId) (ks : Nat → Bool) (base : Nat) (Hb : Heap) (h : ab_H) (H : Heap) : Prop :=
  base ≤ H.size ∧ h.2.1 = H.size ∧ (∀ q : Nat, q < base → H[q]? = Hb[q]?) ∧ ∀ (a : Nat) (c : ab_C), h.1 a = some c → ab_at cl D E ks base a H c
/-- the classes and the array classes, as the tables have them -/
def ab_Kn (cl : List vw_C) (D : va_G) (E : Nat → ClassId) (ks : Nat → Bool) (aty : Nat → FieldType) (U : State) : Prop :=
  (∀ (c : Nat) (q : vw_C), cl[c]? = some q → u_Kn U q.1 q.2.1 q.2.2 (D.1 c) (D.2 c)) ∧
  (∀ t : Nat, ks t = true → ab_kt (t % 8) (aty t) = true ∧ ArrOfT U (E t) (aty t) ∧ U.vm.findClass ("[" ++ (aty t).toString) = some (E t)) ∧
  (∀ t : Nat, ks t = true → t % 8 = 6 → t < 1000 → ∃ (kA kc : Class) (comp : ClassId), U.vm.classes[E t]? = some kA ∧ kA.kind = .array comp (aty t) ∧ U.vm.classes[comp]? = some kc ∧ (t ≠ 14 → ∃ C : String, aty t = .object C) ∧ (t = 14 → comp = E 0 ∧ ks 0 = true) ∧
    (∀ (ci : Nat) (q : vw_C), cl[ci]? = some q → t = 8 * (ci + 2) + 6 → comp = D.1 ci) ∧ (t = 6 → ∀ (ci : Nat) (q : vw_C), cl[ci]? = some q → U.vm.assignable (D.1 ci) comp = true)) ∧
  ∀ t : Nat, ab_rk t = true → ab_kt (t % 8) (aty t) = true ∧ ArrOfT U (E t) (aty t)
def ab_Wn (cl : List vw_C) (D : va_G) (E : Nat → ClassId) (ks : Nat → Bool) (base : Nat) (Hb : Heap) (nL : Nat) (p : Program) (l : Launch) (e : Env) (R : Room) (s : State) (m : MethodId) (args : Array Value) (below : List Frame) (meth : Method) (c : Code) (Q : State → Prop) (c0 s0 : Nat) (pc : Nat) (lo : ab_L) (st : List Value) (h : ab_H) : Prop :=
  ∀ (ls : Array Slot) (H : Heap) (locs : List Loc), ab_LR ls nL lo → ab_Rl cl D E ks base Hb h H → (∀ q ∈ locs, base ≤ q.base) → W p l e R s m args below meth c H locs (h.2.1 - c0) (h.2.2 - s0) Q (F0 m pc ls st)
section ABP
variable {cl : List vw_C} {D : va_G} {E : Nat → ClassId} {ks : Nat → Bool} {base : Nat} {Hb : Heap} {nL : Nat} {p : Program} {l : Launch} {e : Env} {R : Room} {s : State} {m : MethodId} {args : Array Value} {below : List Frame} {meth : Method} {c : Code} {Q : State → Prop} {c0 s0 : Nat} {sv : Nat → Value}
variable {cc : ByteArray} {pc pc' n' : Nat} {lo lo' : ab_L} {st st' : List Value} {h h' : ab_H} {aux : List Nat}
theorem ab_nx_inv {pc1 : Nat} {l1 : ab_L} {st1 : List Value} {h1 : ab_H} (hf : ab_nx pc1 l1 st1 h1 = some (.inl (pc', lo', st', h'))) : pc1 = pc' ∧ l1 = lo' ∧ st1 = st' ∧ h1 = h' := by
  simpa [ab_nx] using hf
theorem ab_ld_inv {k i pc1 : Nat} (hf : ab_ld k pc1 lo st h i = some (.inl (pc', lo', st', h'))) : ∃ v, lo[i]? = some (some v) ∧ ab_fit k v = true ∧ pc' = pc1 ∧ lo' = lo ∧ st' = v :: st ∧ h' = h := by
  unfold ab_ld at hf
  split at hf
  · rename_i v hv
    split at hf
    · rename_i hk
      obtain ⟨rfl, rfl, rfl, rfl⟩ := ab_nx_inv hf
      exact ⟨v, hv, hk, rfl, rfl, rfl, rfl⟩
    · cases hf
  · cases hf
theorem ab_sv_inv {k i pc1 : Nat} (hf : ab_sv k pc1 lo st h i = some (.inl (pc', lo', st', h'))) : ∃ v, st = v :: st' ∧ ab_fit k v = true ∧ i + (v.category - 1) < lo.length ∧ pc' = pc1 ∧ lo' = ab_sto lo i v ∧ h' = h := by
  unfold ab_sv at hf
  split at hf
  · rename_i v st1
    split at hf
    · rename_i hk
      obtain ⟨rfl, rfl, rfl, rfl⟩ := ab_nx_inv hf
      exact ⟨v, rfl, hk.1, hk.2, rfl, rfl, rfl⟩
    · cases hf
  · cases hf
theorem ab_i1_inv {f : Int32 → Value} {pc1 : Nat} (hf : ab_i1 f pc1 lo st h = some (.inl (pc', lo', st', h'))) : ∃ x r, st = .int x :: r ∧ pc' = pc1 ∧ lo' = lo ∧ st' = f x :: r ∧ h' = h := by
  unfold ab_i1 at hf
  split at hf
  · obtain ⟨rfl, rfl, rfl, rfl⟩ := ab_nx_inv hf
    exact ⟨_, _, rfl, rfl, rfl, rfl, rfl⟩
  · cases hf
theorem ab_i2_inv {f : Int32 → Int32 → Int32} {pc1 : Nat} (hf : ab_i2 f pc1 lo st h = some (.inl (pc', lo', st', h'))) : ∃ x y r, st = .int y :: .int x :: r ∧ pc' = pc1 ∧ lo' = lo ∧ st' = .int (f x y) :: r ∧ h' = h := by
  unfold ab_i2 at hf
  split at hf
  · obtain ⟨rfl, rfl, rfl, rfl⟩ := ab_nx_inv hf
    exact ⟨_, _, _, rfl, rfl, rfl, rfl, rfl⟩
  · cases hf
theorem ab_l2_inv {f : Int64 → Int64 → Value} {pc1 : Nat} (hf : ab_l2 f pc1 lo st h = some (.inl (pc', lo', st', h'))) : ∃ x y r, st = .long y :: .long x :: r ∧ pc' = pc1 ∧ lo' = lo ∧ st' = f x y :: r ∧ h' = h := by
  unfold ab_l2 at hf
  split at hf
  · obtain ⟨rfl, rfl, rfl, rfl⟩ := ab_nx_inv hf
    exact ⟨_, _, _, rfl, rfl, rfl, rfl, rfl⟩
  · cases hf
theorem ab_br_inv {b : Bool} {o : Int} (hf : ab_br b pc o lo st h = some (.inl (pc', lo', st', h'))) : (pc : Int) + o = (ab_tg pc o : Int) ∧ lo' = lo ∧ st' = st ∧ h' = h ∧ ((b = true ∧ pc' = ab_tg pc o) ∨ (b = false ∧ pc' = pc + 3)) := by
  unfold ab_br at hf
  split at hf
  · rename_i h0
    have e0 : (pc : Int) + o = (ab_tg pc o : Int) := by unfold ab_tg; omega
    split at hf
    · rename_i hb
      obtain ⟨rfl, rfl, rfl, rfl⟩ := ab_nx_inv hf
      exact ⟨e0, rfl, rfl, rfl, Or.inl ⟨hb, rfl⟩⟩
    · rename_i hb
      obtain ⟨rfl, rfl, rfl, rfl⟩ := ab_nx_inv hf
      exact ⟨e0, rfl, rfl, rfl, Or.inr ⟨by simpa using hb, rfl⟩⟩
  · cases hf
theorem ab_fit0 {v : Value} (hk : ab_fit 0 v = true) : ∃ x, v = .int x := by cases v <;> simp [ab_fit] at hk ⊢
theorem ab_fit1 {v : Value} (hk : ab_fit 1 v = true) : ∃ x, v = .int x ∧ (x = 0 ∨ x = 1) := by cases v <;> simp [ab_fit] at hk ⊢; exact hk
theorem ab_fit3 {v : Value} (hk : ab_fit 3 v = true) : ∃ x, v = .long x := by cases v <;> simp [ab_fit] at hk ⊢
theorem ab_fit4 {v : Value} (hk : ab_fit 4 v = true) : ∃ x, v = .double x := by cases v <;> simp [ab_fit] at hk ⊢
theorem ab_fit6 {v : Value} (hk : ab_fit 6 v = true) : v = .null ∨ ∃ a, v = .ref a := by cases v <;> simp [ab_fit] at hk ⊢

theorem ab_s_aconst_null (hx : p.tables.exec = Jvm.exec) (hb : c.code = cc) (hdg : decode cc pc = .ok (.aconst_null, 1)) (hf : ab_f sv (.aconst_null, 1, aux) pc lo st h = some (.inl (pc', lo', st', h'))) (kk : ab_Wn cl D E ks base Hb nL p l e R s m args below meth c Q c0 s0 pc' lo' st' h') : ab_Wn cl D E ks base Hb nL p l e R s m args below meth c Q c0 s0 pc lo st h := by
  intro ls H locs hl hR hlo
  obtain ⟨rfl, rfl, rfl, rfl⟩ := ab_nx_inv hf
  exact lv_null hx hb hdg (kk _ _ _ hl hR hlo)
theorem ab_s_iconst {n : Int} (hx : p.tables.exec = Jvm.exec) (hb : c.code = cc) (hdg : decode cc pc = .ok (.iconst n, 1)) (hf : ab_f sv (.iconst n, 1, aux) pc lo st h = some (.inl (pc', lo', st', h'))) (kk : ab_Wn cl D E ks base Hb nL p l e R s m args below meth c Q c0 s0 pc' lo' st' h') : ab_Wn cl D E ks base Hb nL p l e R s m args below meth c Q c0 s0 pc lo st h := by
  intro ls H locs hl hR hlo
  obtain ⟨rfl, rfl, rfl, rfl⟩ := ab_nx_inv hf
  exact lv_iconst hx hb hdg rfl (kk _ _ _ hl hR hlo)
theorem ab_s_bipush {n : Int} (hx : p.tables.exec = Jvm.exec) (hb : c.code = cc) (hdg : decode cc pc = .ok (.bipush n, 2)) (hf : ab_f sv (.bipush n, 2, aux) pc lo st h = some (.inl (pc', lo', st', h'))) (kk : ab_Wn cl D E ks base Hb nL p l e R s m args below meth c Q c0 s0 pc' lo' st' h') : ab_Wn cl D E ks base Hb nL p l e R s m args below meth c Q c0 s0 pc lo st h := by
  intro ls H locs hl hR hlo
  obtain ⟨rfl, rfl, rfl, rfl⟩ := ab_nx_inv hf
  exact lv_bipush hx hb hdg rfl (kk _ _ _ hl hR hlo)
theorem ab_s_sipush {n : Int} (hx : p.tables.exec = Jvm.exec) (hb : c.code = cc) (hdg : decode cc pc = .ok (.sipush n, 3)) (hf : ab_f sv (.sipush n, 3, aux) pc lo st h = some (.inl (pc', lo', st', h'))) (kk : ab_Wn cl D E ks base Hb nL p l e R s m args below meth c Q c0 s0 pc' lo' st' h') : ab_Wn cl D E ks base Hb nL p l e R s m args below meth c Q c0 s0 pc lo st h := by
  intro ls H locs hl hR hlo
  obtain ⟨rfl, rfl, rfl, rfl⟩ := ab_nx_inv hf
  exact lv_sipush hx hb hdg rfl (kk _ _ _ hl hR hlo)
theorem ab_s_lconst {n : Fin 2} (hx : p.tables.exec = Jvm.exec) (hb : c.code = cc) (hdg : decode cc pc = .ok (.lconst n, 1)) (hf : ab_f sv (.lconst n, 1, aux) pc lo st h = some (.inl (pc', lo', st', h'))) (kk : ab_Wn cl D E ks base Hb nL p l e R s m args below meth c Q c0 s0 pc' lo' st' h') : ab_Wn cl D E ks base Hb nL p l e R s m args below meth c Q c0 s0 pc lo st h := by
  intro ls H locs hl hR hlo
  obtain ⟨rfl, rfl, rfl, rfl⟩ := ab_nx_inv hf
  exact lv_lconst hx hb hdg rfl (kk _ _ _ hl hR hlo)
theorem ab_s_dconst {n : Fin 2} (hx : p.tables.exec = Jvm.exec) (hb : c.code = cc) (hdg : decode cc pc = .ok (.dconst n, 1)) (hf : ab_f sv (.dconst n, 1, aux) pc lo st h = some (.inl (pc', lo', st', h'))) (kk : ab_Wn cl D E ks base Hb nL p l e R s m args below meth c Q c0 s0 pc' lo' st' h') : ab_Wn cl D E ks base Hb nL p l e R s m args below meth c Q c0 s0 pc lo st h := by
  intro ls H locs hl hR hlo
  obtain ⟨rfl, rfl, rfl, rfl⟩ := ab_nx_inv hf
  match n, hdg, kk with
  | 0, hdg, kk => exact lv_dconst0 hx hb hdg (kk _ _ _ hl hR hlo)
  | 1, hdg, kk => exact lv_dconst1 hx hb hdg (kk _ _ _ hl hR hlo)
theorem ab_s_iload {i : Nat} (hx : p.tables.exec = Jvm.exec) (hb : c.code = cc) (hdg : decode cc pc = .ok (.iload i, 2)) (hf : ab_f sv (.iload i, 2, aux) pc lo st h = some (.inl (pc', lo', st', h'))) (kk : ab_Wn cl D E ks base Hb nL p l e R s m args below meth c Q c0 s0 pc' lo' st' h') : ab_Wn cl D E ks base Hb nL p l e R s m args below meth c Q c0 s0 pc lo st h := by
  intro ls H locs hl hR hlo
  obtain ⟨v, h1, h2, rfl, rfl, rfl, rfl⟩ := ab_ld_inv hf
  obtain ⟨x, rfl⟩ := ab_fit0 h2
  exact lv_iload hx hb hdg (hl.2.2.2 _ _ h1) (kk _ _ _ hl hR hlo)
theorem ab_s_iload_n {k : Fin 4} (hx : p.tables.exec = Jvm.exec) (hb : c.code = cc) (hdg : decode cc pc = .ok (.iload_n k, 1)) (hf : ab_f sv (.iload_n k, 1, aux) pc lo st h = some (.inl (pc', lo', st', h'))) (kk : ab_Wn cl D E ks base Hb nL p l e R s m args below meth c Q c0 s0 pc' lo' st' h') : ab_Wn cl D E ks base Hb nL p l e R s m args below meth c Q c0 s0 pc lo st h := by
  intro ls H locs hl hR hlo
  obtain ⟨v, h1, h2, rfl, rfl, rfl, rfl⟩ := ab_ld_inv hf
  obtain ⟨x, rfl⟩ := ab_fit0 h2
  exact lv_iload_n hx hb hdg rfl (hl.2.2.2 _ _ h1) (kk _ _ _ hl hR hlo)
theorem ab_s_lload {i : Nat} (hx : p.tables.exec = Jvm.exec) (hb : c.code = cc) (hdg : decode cc pc = .ok (.lload i, 2)) (hf : ab_f sv (.lload i, 2, aux) pc lo st h = some (.inl (pc', lo', st', h'))) (kk : ab_Wn cl D E ks base Hb nL p l e R s m args below meth c Q c0 s0 pc' lo' st' h') : ab_Wn cl D E ks base Hb nL p l e R s m args below meth c Q c0 s0 pc lo st h := by
  intro ls H locs hl hR hlo
  obtain ⟨v, h1, h2, rfl, rfl, rfl, rfl⟩ := ab_ld_inv hf
  obtain ⟨x, rfl⟩ := ab_fit3 h2
  exact lv_lload hx hb hdg (hl.2.2.2 _ _ h1) (kk _ _ _ hl hR hlo)
theorem ab_s_lload_n {k : Fin 4} (hx : p.tables.exec = Jvm.exec) (hb : c.code = cc) (hdg : decode cc pc = .ok (.lload_n k, 1)) (hf : ab_f sv (.lload_n k, 1, aux) pc lo st h = some (.inl (pc', lo', st', h'))) (kk : ab_Wn cl D E ks base Hb nL p l e R s m args below meth c Q c0 s0 pc' lo' st' h') : ab_Wn cl D E ks base Hb nL p l e R s m args below meth c Q c0 s0 pc lo st h := by
  intro ls H locs hl hR hlo
  obtain ⟨v, h1, h2, rfl, rfl, rfl, rfl⟩ := ab_ld_inv hf
  obtain ⟨x, rfl⟩ := ab_fit3 h2
  exact lv_lload_n hx hb hdg rfl (hl.2.2.2 _ _ h1) (kk _ _ _ hl hR hlo)
theorem ab_s_dload {i : Nat} (hx : p.tables.exec = Jvm.exec) (hb : c.code = cc) (hdg : decode cc pc = .ok (.dload i, 2)) (hf : ab_f sv (.dload i, 2, aux) pc lo st h = some (.inl (pc', lo', st', h'))) (kk : ab_Wn cl D E ks base Hb nL p l e R s m args below meth c Q c0 s0 pc' lo' st' h') : ab_Wn cl D E ks base Hb nL p l e R s m args below meth c Q c0 s0 pc lo st h := by
  intro ls H locs hl hR hlo
  obtain ⟨v, h1, h2, rfl, rfl, rfl, rfl⟩ := ab_ld_inv hf
  obtain ⟨x, rfl⟩ := ab_fit4 h2
  exact lv_dload hx hb hdg (hl.2.2.2 _ _ h1) (kk _ _ _ hl hR hlo)
theorem ab_s_dload_n {k : Fin 4} (hx : p.tables.exec = Jvm.exec) (hb : c.code = cc) (hdg : decode cc pc = .ok (.dload_n k, 1)) (hf : ab_f sv (.dload_n k, 1, aux) pc lo st h = some (.inl (pc', lo', st', h'))) (kk : ab_Wn cl D E ks base Hb nL p l e R s m args below meth c Q c0 s0 pc' lo' st' h') : ab_Wn cl D E ks base Hb nL p l e R s m args below meth c Q c0 s0 pc lo st h := by
  intro ls H locs hl hR hlo
  obtain ⟨v, h1, h2, rfl, rfl, rfl, rfl⟩ := ab_ld_inv hf
  obtain ⟨x, rfl⟩ := ab_fit4 h2
  exact lv_dload_n hx hb hdg rfl (hl.2.2.2 _ _ h1) (kk _ _ _ hl hR hlo)
theorem ab_s_aload {i : Nat} (hx : p.tables.exec = Jvm.exec) (hb : c.code = cc) (hdg : decode cc pc = .ok (.aload i, 2)) (hf : ab_f sv (.aload i, 2, aux) pc lo st h = some (.inl (pc', lo', st', h'))) (kk : ab_Wn cl D E ks base Hb nL p l e R s m args below meth c Q c0 s0 pc' lo' st' h') : ab_Wn cl D E ks base Hb nL p l e R s m args below meth c Q c0 s0 pc lo st h := by
  intro ls H locs hl hR hlo
  obtain ⟨v, h1, h2, rfl, rfl, rfl, rfl⟩ := ab_ld_inv hf
  rcases ab_fit6 h2 with rfl | ⟨x, rfl⟩
  · exact lv_aloadN hx hb hdg (hl.2.2.2 _ _ h1) (kk _ _ _ hl hR hlo)
  · exact lv_aload hx hb hdg (hl.2.2.2 _ _ h1) (kk _ _ _ hl hR hlo)
theorem ab_s_aload_n {k : Fin 4} (hx : p.tables.exec = Jvm.exec) (hb : c.code = cc) (hdg : decode cc pc = .ok (.aload_n k, 1)) (hf : ab_f sv (.aload_n k, 1, aux) pc lo st h = some (.inl (pc', lo', st', h'))) (kk : ab_Wn cl D E ks base Hb nL p l e R s m args below meth c Q c0 s0 pc' lo' st' h') : ab_Wn cl D E ks base Hb nL p l e R s m args below meth c Q c0 s0 pc lo st h := by
  intro ls H locs hl hR hlo
  obtain ⟨v, h1, h2, rfl, rfl, rfl, rfl⟩ := ab_ld_inv hf
  rcases ab_fit6 h2 with rfl | ⟨x, rfl⟩
  · exact lv_aload_nN hx hb hdg rfl (hl.2.2.2 _ _ h1) (kk _ _ _ hl hR hlo)
  · exact lv_aload_n hx hb hdg rfl (hl.2.2.2 _ _ h1) (kk _ _ _ hl hR hlo)
theorem ab_s_istore {i : Nat} (hx : p.tables.exec = Jvm.exec) (hb : c.code = cc) (hdg : decode cc pc = .ok (.istore i, 2)) (hf : ab_f sv (.istore i, 2, aux) pc lo st h = some (.inl (pc', lo', st', h'))) (kk : ab_Wn cl D E ks base Hb nL p l e R s m args below meth c Q c0 s0 pc' lo' st' h') : ab_Wn cl D E ks base Hb nL p l e R s m args below meth c Q c0 s0 pc lo st h := by
  intro ls H locs hl hR hlo
  obtain ⟨v, rfl, h2, h3, rfl, rfl, rfl⟩ := ab_sv_inv hf
  obtain ⟨x, rfl⟩ := ab_fit0 h2
  exact lv_istore hx hb hdg hl.has (by have := hl.1; simp [Value.category] at h3; omega) rfl (fun ls1 h9 => kk _ _ _ (ab_LR.st1 hl.1 h9) hR hlo)
theorem ab_s_istore_n {k : Fin 4} (hx : p.tables.exec = Jvm.exec) (hb : c.code = cc) (hdg : decode cc pc = .ok (.istore_n k, 1)) (hf : ab_f sv (.istore_n k, 1, aux) pc lo st h = some (.inl (pc', lo', st', h'))) (kk : ab_Wn cl D E ks base Hb nL p l e R s m args below meth c Q c0 s0 pc' lo' st' h') : ab_Wn cl D E ks base Hb nL p l e R s m args below meth c Q c0 s0 pc lo st h := by
  intro ls H locs hl hR hlo
  obtain ⟨v, rfl, h2, h3, rfl, rfl, rfl⟩ := ab_sv_inv hf
  obtain ⟨x, rfl⟩ := ab_fit0 h2
  exact lv_istore_n hx hb hdg rfl hl.has (by have := hl.1; simp [Value.category] at h3; omega) rfl (fun ls1 h9 => kk _ _ _ (ab_LR.st1 hl.1 h9) hR hlo)
theorem ab_s_lstore {i : Nat} (hx : p.tables.exec = Jvm.exec) (hb : c.code = cc) (hdg : decode cc pc = .ok (.lstore i, 2)) (hf : ab_f sv (.lstore i, 2, aux) pc lo st h = some (.inl (pc', lo', st', h'))) (kk : ab_Wn cl D E ks base Hb nL p l e R s m args below meth c Q c0 s0 pc' lo' st' h') : ab_Wn cl D E ks base Hb nL p l e R s m args below meth c Q c0 s0 pc lo st h := by
  intro ls H locs hl hR hlo
  obtain ⟨v, rfl, h2, h3, rfl, rfl, rfl⟩ := ab_sv_inv hf
  obtain ⟨x, rfl⟩ := ab_fit3 h2
  exact lv_lstore hx hb hdg hl.has (by have := hl.1; simp [Value.category] at h3; omega) rfl (fun ls1 h9 => kk _ _ _ (ab_LR.st2 rfl hl.1 h9) hR hlo)
theorem ab_s_lstore_n {k : Fin 4} (hx : p.tables.exec = Jvm.exec) (hb : c.code = cc) (hdg : decode cc pc = .ok (.lstore_n k, 1)) (hf : ab_f sv (.lstore_n k, 1, aux) pc lo st h = some (.inl (pc', lo', st', h'))) (kk : ab_Wn cl D E ks base Hb nL p l e R s m args below meth c Q c0 s0 pc' lo' st' h') : ab_Wn cl D E ks base Hb nL p l e R s m args below meth c Q c0 s0 pc lo st h := by
  intro ls H locs hl hR hlo
  obtain ⟨v, rfl, h2, h3, rfl, rfl, rfl⟩ := ab_sv_inv hf
  obtain ⟨x, rfl⟩ := ab_fit3 h2
  exact lv_lstore_n hx hb hdg rfl hl.has (by have := hl.1; simp [Value.category] at h3; omega) rfl (fun ls1 h9 => kk _ _ _ (ab_LR.st2 rfl hl.1 h9) hR hlo)
theorem ab_s_dstore {i : Nat} (hx : p.tables.exec = Jvm.exec) (hb : c.code = cc) (hdg : decode cc pc = .ok (.dstore i, 2)) (hf : ab_f sv (.dstore i, 2, aux) pc lo st h = some (.inl (pc', lo', st', h'))) (kk : ab_Wn cl D E ks base Hb nL p l e R s m args below meth c Q c0 s0 pc' lo' st' h') : ab_Wn cl D E ks base Hb nL p l e R s m args below meth c Q c0 s0 pc lo st h := by
  intro ls H locs hl hR hlo
  obtain ⟨v, rfl, h2, h3, rfl, rfl, rfl⟩ := ab_sv_inv hf
  obtain ⟨x, rfl⟩ := ab_fit4 h2
  exact lv_dstore hx hb hdg hl.has (by have := hl.1; simp [Value.category] at h3; omega) rfl (fun ls1 h9 => kk _ _ _ (ab_LR.st2 rfl hl.1 h9) hR hlo)
theorem ab_s_dstore_n {k : Fin 4} (hx : p.tables.exec = Jvm.exec) (hb : c.code = cc) (hdg : decode cc pc = .ok (.dstore_n k, 1)) (hf : ab_f sv (.dstore_n k, 1, aux) pc lo st h = some (.inl (pc', lo', st', h'))) (kk : ab_Wn cl D E ks base Hb nL p l e R s m args below meth c Q c0 s0 pc' lo' st' h') : ab_Wn cl D E ks base Hb nL p l e R s m args below meth c Q c0 s0 pc lo st h := by
  intro ls H locs hl hR hlo
  obtain ⟨v, rfl, h2, h3, rfl, rfl, rfl⟩ := ab_sv_inv hf
  obtain ⟨x, rfl⟩ := ab_fit4 h2
  exact lv_dstore_n hx hb hdg rfl hl.has (by have := hl.1; simp [Value.category] at h3; omega) rfl (fun ls1 h9 => kk _ _ _ (ab_LR.st2 rfl hl.1 h9) hR hlo)
theorem ab_s_astore {i : Nat} (hx : p.tables.exec = Jvm.exec) (hb : c.code = cc) (hdg : decode cc pc = .ok (.astore i, 2)) (hf : ab_f sv (.astore i, 2, aux) pc lo st h = some (.inl (pc', lo', st', h'))) (kk : ab_Wn cl D E ks base Hb nL p l e R s m args below meth c Q c0 s0 pc' lo' st' h') : ab_Wn cl D E ks base Hb nL p l e R s m args below meth c Q c0 s0 pc lo st h := by
  intro ls H locs hl hR hlo
  obtain ⟨v, rfl, h2, h3, rfl, rfl, rfl⟩ := ab_sv_inv hf
  rcases ab_fit6 h2 with rfl | ⟨x, rfl⟩
  · exact lv_astoreN hx hb hdg hl.has (by have := hl.1; simp [Value.category] at h3; omega) rfl (fun ls1 h9 => kk _ _ _ (ab_LR.st1 hl.1 h9) hR hlo)
  · exact lv_astore hx hb hdg hl.has (by have := hl.1; simp [Value.category] at h3; omega) rfl (fun ls1 h9 => kk _ _ _ (ab_LR.st1 hl.1 h9) hR hlo)
theorem ab_s_astore_n {k : Fin 4} (hx : p.tables.exec = Jvm.exec) (hb : c.code = cc) (hdg : decode cc pc = .ok (.astore_n k, 1)) (hf : ab_f sv (.astore_n k, 1, aux) pc lo st h = some (.inl (pc', lo', st', h'))) (kk : ab_Wn cl D E ks base Hb nL p l e R s m args below meth c Q c0 s0 pc' lo' st' h') : ab_Wn cl D E ks base Hb nL p l e R s m args below meth c Q c0 s0 pc lo st h := by
  intro ls H locs hl hR hlo
  obtain ⟨v, rfl, h2, h3, rfl, rfl, rfl⟩ := ab_sv_inv hf
  rcases ab_fit6 h2 with rfl | ⟨x, rfl⟩
  · exact lv_astore_nN hx hb hdg rfl hl.has (by have := hl.1; simp [Value.category] at h3; omega) rfl (fun ls1 h9 => kk _ _ _ (ab_LR.st1 hl.1 h9) hR hlo)
  · exact lv_astore_n hx hb hdg rfl hl.has (by have := hl.1; simp [Value.category] at h3; omega) rfl (fun ls1 h9 => kk _ _ _ (ab_LR.st1 hl.1 h9) hR hlo)
theorem ab_s_iinc {k : Nat} {n : Int} (hx : p.tables.exec = Jvm.exec) (hb : c.code = cc) (hdg : decode cc pc = .ok (.iinc k n, 3)) (hf : ab_f sv (.iinc k n, 3, aux) pc lo st h = some (.inl (pc', lo', st', h'))) (kk : ab_Wn cl D E ks base Hb nL p l e R s m args below meth c Q c0 s0 pc' lo' st' h') : ab_Wn cl D E ks base Hb nL p l e R s m args below meth c Q c0 s0 pc lo st h := by
  intro ls H locs hl hR hlo
  simp only [ab_f] at hf
  split at hf
  · rename_i x hk
    obtain ⟨rfl, rfl, rfl, rfl⟩ := ab_nx_inv hf
    obtain ⟨j, hj⟩ := List.getElem?_of_mem (ab_prs_in.mpr hk)
    exact lv_iinc hx hb hdg hl.has hj rfl (by have h9 := (List.getElem?_eq_some_iff.mp hk).1; have := hl.1; omega) rfl (fun ls1 h9 => kk _ _ _ (ab_LR.st1 hl.1 h9) hR hlo)
  · cases hf
theorem ab_s_iadd (hx : p.tables.exec = Jvm.exec) (hb : c.code = cc) (hdg : decode cc pc = .ok (.iadd, 1)) (hf : ab_f sv (.iadd, 1, aux) pc lo st h = some (.inl (pc', lo', st', h'))) (kk : ab_Wn cl D E ks base Hb nL p l e R s m args below meth c Q c0 s0 pc' lo' st' h') : ab_Wn cl D E ks base Hb nL p l e R s m args below meth c Q c0 s0 pc lo st h := by
  intro ls H locs hl hR hlo
  obtain ⟨x, y, r, rfl, rfl, rfl, rfl, rfl⟩ := ab_i2_inv hf
  exact lv_iadd hx hb hdg (kk _ _ _ hl hR hlo)
theorem ab_s_isub (hx : p.tables.exec = Jvm.exec) (hb : c.code = cc) (hdg : decode cc pc = .ok (.isub, 1)) (hf : ab_f sv (.isub, 1, aux) pc lo st h = some (.inl (pc', lo', st', h'))) (kk : ab_Wn cl D E ks base Hb nL p l e R s m args below meth c Q c0 s0 pc' lo' st' h') : ab_Wn cl D E ks base Hb nL p l e R s m args below meth c Q c0 s0 pc lo st h := by
  intro ls H locs hl hR hlo
  obtain ⟨x, y, r, rfl, rfl, rfl, rfl, rfl⟩ := ab_i2_inv hf
  exact lv_isub hx hb hdg (kk _ _ _ hl hR hlo)
theorem ab_s_imul (hx : p.tables.exec = Jvm.exec) (hb : c.code = cc) (hdg : decode cc pc = .ok (.imul, 1)) (hf : ab_f sv (.imul, 1, aux) pc lo st h = some (.inl (pc', lo', st', h'))) (kk : ab_Wn cl D E ks base Hb nL p l e R s m args below meth c Q c0 s0 pc' lo' st' h') : ab_Wn cl D E ks base Hb nL p l e R s m args below meth c Q c0 s0 pc lo st h := by
  intro ls H locs hl hR hlo
  obtain ⟨x, y, r, rfl, rfl, rfl, rfl, rfl⟩ := ab_i2_inv hf
  exact lv_imul hx hb hdg (kk _ _ _ hl hR hlo)
theorem ab_s_iand (hx : p.tables.exec = Jvm.exec) (hb : c.code = cc) (hdg : decode cc pc = .ok (.iand, 1)) (hf : ab_f sv (.iand, 1, aux) pc lo st h = some (.inl (pc', lo', st', h'))) (kk : ab_Wn cl D E ks base Hb nL p l e R s m args below meth c Q c0 s0 pc' lo' st' h') : ab_Wn cl D E ks base Hb nL p l e R s m args below meth c Q c0 s0 pc lo st h := by
  intro ls H locs hl hR hlo
  obtain ⟨x, y, r, rfl, rfl, rfl, rfl, rfl⟩ := ab_i2_inv hf
  exact lv_iand hx hb hdg (kk _ _ _ hl hR hlo)
theorem ab_s_ior (hx : p.tables.exec = Jvm.exec) (hb : c.code = cc) (hdg : decode cc pc = .ok (.ior, 1)) (hf : ab_f sv (.ior, 1, aux) pc lo st h = some (.inl (pc', lo', st', h'))) (kk : ab_Wn cl D E ks base Hb nL p l e R s m args below meth c Q c0 s0 pc' lo' st' h') : ab_Wn cl D E ks base Hb nL p l e R s m args below meth c Q c0 s0 pc lo st h := by
  intro ls H locs hl hR hlo
  obtain ⟨x, y, r, rfl, rfl, rfl, rfl, rfl⟩ := ab_i2_inv hf
  exact lv_ior hx hb hdg (kk _ _ _ hl hR hlo)
theorem ab_s_ixor (hx : p.tables.exec = Jvm.exec) (hb : c.code = cc) (hdg : decode cc pc = .ok (.ixor, 1)) (hf : ab_f sv (.ixor, 1, aux) pc lo st h = some (.inl (pc', lo', st', h'))) (kk : ab_Wn cl D E ks base Hb nL p l e R s m args below meth c Q c0 s0 pc' lo' st' h') : ab_Wn cl D E ks base Hb nL p l e R s m args below meth c Q c0 s0 pc lo st h := by
  intro ls H locs hl hR hlo
  obtain ⟨x, y, r, rfl, rfl, rfl, rfl, rfl⟩ := ab_i2_inv hf
  exact lv_ixor hx hb hdg (kk _ _ _ hl hR hlo)
theorem ab_s_ishl (hx : p.tables.exec = Jvm.exec) (hb : c.code = cc) (hdg : decode cc pc = .ok (.ishl, 1)) (hf : ab_f sv (.ishl, 1, aux) pc lo st h = some (.inl (pc', lo', st', h'))) (kk : ab_Wn cl D E ks base Hb nL p l e R s m args below meth c Q c0 s0 pc' lo' st' h') : ab_Wn cl D E ks base Hb nL p l e R s m args below meth c Q c0 s0 pc lo st h := by
  intro ls H locs hl hR hlo
  obtain ⟨x, y, r, rfl, rfl, rfl, rfl, rfl⟩ := ab_i2_inv hf
  exact lv_ishl hx hb hdg (kk _ _ _ hl hR hlo)
theorem ab_s_ishr (hx : p.tables.exec = Jvm.exec) (hb : c.code = cc) (hdg : decode cc pc = .ok (.ishr, 1)) (hf : ab_f sv (.ishr, 1, aux) pc lo st h = some (.inl (pc', lo', st', h'))) (kk : ab_Wn cl D E ks base Hb nL p l e R s m args below meth c Q c0 s0 pc' lo' st' h') : ab_Wn cl D E ks base Hb nL p l e R s m args below meth c Q c0 s0 pc lo st h := by
  intro ls H locs hl hR hlo
  obtain ⟨x, y, r, rfl, rfl, rfl, rfl, rfl⟩ := ab_i2_inv hf
  exact lv_ishr hx hb hdg (kk _ _ _ hl hR hlo)
theorem ab_s_idiv (hx : p.tables.exec = Jvm.exec) (hb : c.code = cc) (hdg : decode cc pc = .ok (.idiv, 1)) (hf : ab_f sv (.idiv, 1, aux) pc lo st h = some (.inl (pc', lo', st', h'))) (kk : ab_Wn cl D E ks base Hb nL p l e R s m args below meth c Q c0 s0 pc' lo' st' h') : ab_Wn cl D E ks base Hb nL p l e R s m args below meth c Q c0 s0 pc lo st h := by
  intro ls H locs hl hR hlo
  simp only [ab_f] at hf
  split at hf
  · split at hf
    · cases hf
    · rename_i hne
      obtain ⟨rfl, rfl, rfl, rfl⟩ := ab_nx_inv hf
      exact lv_idiv hx hb hdg hne (kk _ _ _ hl hR hlo)
  · cases hf
theorem ab_s_irem (hx : p.tables.exec = Jvm.exec) (hb : c.code = cc) (hdg : decode cc pc = .ok (.irem, 1)) (hf : ab_f sv (.irem, 1, aux) pc lo st h = some (.inl (pc', lo', st', h'))) (kk : ab_Wn cl D E ks base Hb nL p l e R s m args below meth c Q c0 s0 pc' lo' st' h') : ab_Wn cl D E ks base Hb nL p l e R s m args below meth c Q c0 s0 pc lo st h := by
  intro ls H locs hl hR hlo
  simp only [ab_f] at hf
  split at hf
  · split at hf
    · cases hf
    · rename_i hne
      obtain ⟨rfl, rfl, rfl, rfl⟩ := ab_nx_inv hf
      exact lv_irem hx hb hdg hne (kk _ _ _ hl hR hlo)
  · cases hf
theorem ab_s_ineg (hx : p.tables.exec = Jvm.exec) (hb : c.code = cc) (hdg : decode cc pc = .ok (.ineg, 1)) (hf : ab_f sv (.ineg, 1, aux) pc lo st h = some (.inl (pc', lo', st', h'))) (kk : ab_Wn cl D E ks base Hb nL p l e R s m args below meth c Q c0 s0 pc' lo' st' h') : ab_Wn cl D E ks base Hb nL p l e R s m args below meth c Q c0 s0 pc lo st h := by
  intro ls H locs hl hR hlo
  obtain ⟨x, r, rfl, rfl, rfl, rfl, rfl⟩ := ab_i1_inv hf
  exact lv_ineg hx hb hdg (kk _ _ _ hl hR hlo)
theorem ab_s_i2l (hx : p.tables.exec = Jvm.exec) (hb : c.code = cc) (hdg : decode cc pc = .ok (.i2l, 1)) (hf : ab_f sv (.i2l, 1, aux) pc lo st h = some (.inl (pc', lo', st', h'))) (kk : ab_Wn cl D E ks base Hb nL p l e R s m args below meth c Q c0 s0 pc' lo' st' h') : ab_Wn cl D E ks base Hb nL p l e R s m args below meth c Q c0 s0 pc lo st h := by
  intro ls H locs hl hR hlo
  obtain ⟨x, r, rfl, rfl, rfl, rfl, rfl⟩ := ab_i1_inv hf
  exact lv_i2l hx hb hdg rfl (kk _ _ _ hl hR hlo)
theorem ab_s_i2c (hx : p.tables.exec = Jvm.exec) (hb : c.code = cc) (hdg : decode cc pc = .ok (.i2c, 1)) (hf : ab_f sv (.i2c, 1, aux) pc lo st h = some (.inl (pc', lo', st', h'))) (kk : ab_Wn cl D E ks base Hb nL p l e R s m args below meth c Q c0 s0 pc' lo' st' h') : ab_Wn cl D E ks base Hb nL p l e R s m args below meth c Q c0 s0 pc lo st h := by
  intro ls H locs hl hR hlo
  obtain ⟨x, r, rfl, rfl, rfl, rfl, rfl⟩ := ab_i1_inv hf
  exact lv_i2c hx hb hdg rfl (kk _ _ _ hl hR hlo)
theorem ab_s_i2d (hx : p.tables.exec = Jvm.exec) (hb : c.code = cc) (hdg : decode cc pc = .ok (.i2d, 1)) (hf : ab_f sv (.i2d, 1, aux) pc lo st h = some (.inl (pc', lo', st', h'))) (kk : ab_Wn cl D E ks base Hb nL p l e R s m args below meth c Q c0 s0 pc' lo' st' h') : ab_Wn cl D E ks base Hb nL p l e R s m args below meth c Q c0 s0 pc lo st h := by
  intro ls H locs hl hR hlo
  obtain ⟨x, r, rfl, rfl, rfl, rfl, rfl⟩ := ab_i1_inv hf
  exact lv_i2d hx hb hdg (kk _ _ _ hl hR hlo)
theorem ab_s_i2f (hx : p.tables.exec = Jvm.exec) (hb : c.code = cc) (hdg : decode cc pc = .ok (.i2f, 1)) (hf : ab_f sv (.i2f, 1, aux) pc lo st h = some (.inl (pc', lo', st', h'))) (kk : ab_Wn cl D E ks base Hb nL p l e R s m args below meth c Q c0 s0 pc' lo' st' h') : ab_Wn cl D E ks base Hb nL p l e R s m args below meth c Q c0 s0 pc lo st h := by
  intro ls H locs hl hR hlo
  obtain ⟨x, r, rfl, rfl, rfl, rfl, rfl⟩ := ab_i1_inv hf
  exact lv_i2f hx hb hdg (kk _ _ _ hl hR hlo)
theorem ab_s_ladd (hx : p.tables.exec = Jvm.exec) (hb : c.code = cc) (hdg : decode cc pc = .ok (.ladd, 1)) (hf : ab_f sv (.ladd, 1, aux) pc lo st h = some (.inl (pc', lo', st', h'))) (kk : ab_Wn cl D E ks base Hb nL p l e R s m args below meth c Q c0 s0 pc' lo' st' h') : ab_Wn cl D E ks base Hb nL p l e R s m args below meth c Q c0 s0 pc lo st h := by
  intro ls H locs hl hR hlo
  obtain ⟨x, y, r, rfl, rfl, rfl, rfl, rfl⟩ := ab_l2_inv hf
  exact lv_ladd hx hb hdg (kk _ _ _ hl hR hlo)
theorem ab_s_lsub (hx : p.tables.exec = Jvm.exec) (hb : c.code = cc) (hdg : decode cc pc = .ok (.lsub, 1)) (hf : ab_f sv (.lsub, 1, aux) pc lo st h = some (.inl (pc', lo', st', h'))) (kk : ab_Wn cl D E ks base Hb nL p l e R s m args below meth c Q c0 s0 pc' lo' st' h') : ab_Wn cl D E ks base Hb nL p l e R s m args below meth c Q c0 s0 pc lo st h := by
  intro ls H locs hl hR hlo
  obtain ⟨x, y, r, rfl, rfl, rfl, rfl, rfl⟩ := ab_l2_inv hf
  exact lv_lsub hx hb hdg (kk _ _ _ hl hR hlo)
theorem ab_s_lcmp (hx : p.tables.exec = Jvm.exec) (hb : c.code = cc) (hdg : decode cc pc = .ok (.lcmp, 1)) (hf : ab_f sv (.lcmp, 1, aux) pc lo st h = some (.inl (pc', lo', st', h'))) (kk : ab_Wn cl D E ks base Hb nL p l e R s m args below meth c Q c0 s0 pc' lo' st' h') : ab_Wn cl D E ks base Hb nL p l e R s m args below meth c Q c0 s0 pc lo st h := by
  intro ls H locs hl hR hlo
  obtain ⟨x, y, r, rfl, rfl, rfl, rfl, rfl⟩ := ab_l2_inv hf
  exact W.lcmp hx hb hdg (kk _ _ _ hl hR hlo)
theorem ab_s_fdiv (hx : p.tables.exec = Jvm.exec) (hb : c.code = cc) (hdg : decode cc pc = .ok (.fdiv, 1)) (hf : ab_f sv (.fdiv, 1, aux) pc lo st h = some (.inl (pc', lo', st', h'))) (kk : ab_Wn cl D E ks base Hb nL p l e R s m args below meth c Q c0 s0 pc' lo' st' h') : ab_Wn cl D E ks base Hb nL p l e R s m args below meth c Q c0 s0 pc lo st h := by
  intro ls H locs hl hR hlo
  simp only [ab_f] at hf
  split at hf
  · split at hf
    · rename_i hne
      obtain ⟨rfl, rfl, rfl, rfl⟩ := ab_nx_inv hf
      exact lv_fdiv hx hb hdg hne (kk _ _ _ hl hR hlo)
    · cases hf
  · cases hf
theorem ab_s_ddiv (hx : p.tables.exec = Jvm.exec) (hb : c.code = cc) (hdg : decode cc pc = .ok (.ddiv, 1)) (hf : ab_f sv (.ddiv, 1, aux) pc lo st h = some (.inl (pc', lo', st', h'))) (kk : ab_Wn cl D E ks base Hb nL p l e R s m args below meth c Q c0 s0 pc' lo' st' h') : ab_Wn cl D E ks base Hb nL p l e R s m args below meth c Q c0 s0 pc lo st h := by
  intro ls H locs hl hR hlo
  simp only [ab_f] at hf
  split at hf
  · split at hf
    · rename_i hne
      obtain ⟨rfl, rfl, rfl, rfl⟩ := ab_nx_inv hf
      exact lv_ddiv hx hb hdg hne (kk _ _ _ hl hR hlo)
    · cases hf
  · cases hf
theorem ab_s_f2d (hx : p.tables.exec = Jvm.exec) (hb : c.code = cc) (hdg : decode cc pc = .ok (.f2d, 1)) (hf : ab_f sv (.f2d, 1, aux) pc lo st h = some (.inl (pc', lo', st', h'))) (kk : ab_Wn cl D E ks base Hb nL p l e R s m args below meth c Q c0 s0 pc' lo' st' h') : ab_Wn cl D E ks base Hb nL p l e R s m args below meth c Q c0 s0 pc lo st h := by
  intro ls H locs hl hR hlo
  simp only [ab_f] at hf
  split at hf
  · split at hf
    · rename_i hne
      obtain ⟨rfl, rfl, rfl, rfl⟩ := ab_nx_inv hf
      exact lv_f2d hx hb hdg hne (kk _ _ _ hl hR hlo)
    · cases hf
  · cases hf
theorem ab_s_dcmp {op : CmpOp} (hx : p.tables.exec = Jvm.exec) (hb : c.code = cc) (hdg : decode cc pc = .ok (.dcmp op, 1)) (hf : ab_f sv (.dcmp op, 1, aux) pc lo st h = some (.inl (pc', lo', st', h'))) (kk : ab_Wn cl D E ks base Hb nL p l e R s m args below meth c Q c0 s0 pc' lo' st' h') : ab_Wn cl D E ks base Hb nL p l e R s m args below meth c Q c0 s0 pc lo st h := by
  intro ls H locs hl hR hlo
  simp only [ab_f] at hf
  split at hf
  · obtain ⟨rfl, rfl, rfl, rfl⟩ := ab_nx_inv hf
    exact lv_dcmp hx hb hdg (kk _ _ _ hl hR hlo)
  · cases hf
theorem ab_s_dup (hx : p.tables.exec = Jvm.exec) (hb : c.code = cc) (hdg : decode cc pc = .ok (.dup, 1)) (hf : ab_f sv (.dup, 1, aux) pc lo st h = some (.inl (pc', lo', st', h'))) (kk : ab_Wn cl D E ks base Hb nL p l e R s m args below meth c Q c0 s0 pc' lo' st' h') : ab_Wn cl D E ks base Hb nL p l e R s m args below meth c Q c0 s0 pc lo st h := by
  intro ls H locs hl hR hlo
  simp only [ab_f] at hf
  split at hf
  · split at hf
    · rename_i hc
      obtain ⟨rfl, rfl, rfl, rfl⟩ := ab_nx_inv hf
      exact lv_dup hx hb hdg hc (kk _ _ _ hl hR hlo)
    · cases hf
  · cases hf
theorem ab_s_pop (hx : p.tables.exec = Jvm.exec) (hb : c.code = cc) (hdg : decode cc pc = .ok (.pop, 1)) (hf : ab_f sv (.pop, 1, aux) pc lo st h = some (.inl (pc', lo', st', h'))) (kk : ab_Wn cl D E ks base Hb nL p l e R s m args below meth c Q c0 s0 pc' lo' st' h') : ab_Wn cl D E ks base Hb nL p l e R s m args below meth c Q c0 s0 pc lo st h := by
  intro ls H locs hl hR hlo
  simp only [ab_f] at hf
  split at hf
  · split at hf
    · rename_i hc
      obtain ⟨rfl, rfl, rfl, rfl⟩ := ab_nx_inv hf
      exact lv_pop hx hb hdg hc (kk _ _ _ hl hR hlo)
    · cases hf
  · cases hf
theorem ab_s_dup_x1 (hx : p.tables.exec = Jvm.exec) (hb : c.code = cc) (hdg : decode cc pc = .ok (.dup_x1, 1)) (hf : ab_f sv (.dup_x1, 1, aux) pc lo st h = some (.inl (pc', lo', st', h'))) (kk : ab_Wn cl D E ks base Hb nL p l e R s m args below meth c Q c0 s0 pc' lo' st' h') : ab_Wn cl D E ks base Hb nL p l e R s m args below meth c Q c0 s0 pc lo st h := by
  intro ls H locs hl hR hlo
  simp only [ab_f] at hf
  split at hf
  · split at hf
    · rename_i hc
      obtain ⟨rfl, rfl, rfl, rfl⟩ := ab_nx_inv hf
      exact lv_dup_x1 hx hb hdg hc.1 hc.2 (kk _ _ _ hl hR hlo)
    · cases hf
  · cases hf
theorem ab_s_dup2 (hx : p.tables.exec = Jvm.exec) (hb : c.code = cc) (hdg : decode cc pc = .ok (.dup2, 1)) (hf : ab_f sv (.dup2, 1, aux) pc lo st h = some (.inl (pc', lo', st', h'))) (kk : ab_Wn cl D E ks base Hb nL p l e R s m args below meth c Q c0 s0 pc' lo' st' h') : ab_Wn cl D E ks base Hb nL p l e R s m args below meth c Q c0 s0 pc lo st h := by
  intro ls H locs hl hR hlo
  simp only [ab_f] at hf
  split at hf
  · split at hf
    · rename_i hc
      obtain ⟨rfl, rfl, rfl, rfl⟩ := ab_nx_inv hf
      exact lv_dup2_11 hx hb hdg hc.1 hc.2 (kk _ _ _ hl hR hlo)
    · cases hf
  · cases hf
theorem ab_s_if_eq {o : Int} (hx : p.tables.exec = Jvm.exec) (hb : c.code = cc) (hdg : decode cc pc = .ok (.ifCond .eq o, 3)) (hf : ab_f sv (.ifCond .eq o, 3, aux) pc lo st h = some (.inl (pc', lo', st', h'))) (kk : ab_Wn cl D E ks base Hb nL p l e R s m args below meth c Q c0 s0 pc' lo' st' h') : ab_Wn cl D E ks base Hb nL p l e R s m args below meth c Q c0 s0 pc lo st h := by
  intro ls H locs hl hR hlo
  simp only [ab_f, ab_cc] at hf
  split at hf
  · obtain ⟨ht, rfl, rfl, rfl, hp⟩ := ab_br_inv hf
    refine lv_if_eq hx hb hdg ht (fun q => ?_) (fun q => ?_)
    · rcases hp with ⟨hp, rfl⟩ | ⟨hp, rfl⟩
      · exact kk _ _ _ hl hR hlo
      · first | exact absurd q (by simpa using hp) | exact absurd (by simpa using hp) q
    · rcases hp with ⟨hp, rfl⟩ | ⟨hp, rfl⟩
      · first | exact absurd q (by simpa using hp) | exact absurd (by simpa using hp) q
      · exact kk _ _ _ hl hR hlo
  · cases hf
theorem ab_s_icmp_eq {o : Int} (hx : p.tables.exec = Jvm.exec) (hb : c.code = cc) (hdg : decode cc pc = .ok (.if_icmp .eq o, 3)) (hf : ab_f sv (.if_icmp .eq o, 3, aux) pc lo st h = some (.inl (pc', lo', st', h'))) (kk : ab_Wn cl D E ks base Hb nL p l e R s m args below meth c Q c0 s0 pc' lo' st' h') : ab_Wn cl D E ks base Hb nL p l e R s m args below meth c Q c0 s0 pc lo st h := by
  intro ls H locs hl hR hlo
  simp only [ab_f, ab_cc] at hf
  split at hf
  · obtain ⟨ht, rfl, rfl, rfl, hp⟩ := ab_br_inv hf
    refine lv_icmp_eq hx hb hdg ht (fun q => ?_) (fun q => ?_)
    · rcases hp with ⟨hp, rfl⟩ | ⟨hp, rfl⟩
      · exact kk _ _ _ hl hR hlo
      · first | exact absurd q (by simpa using hp) | exact absurd (by simpa using hp) q
    · rcases hp with ⟨hp, rfl⟩ | ⟨hp, rfl⟩
      · first | exact absurd q (by simpa using hp) | exact absurd (by simpa using hp) q
      · exact kk _ _ _ hl hR hlo
  · cases hf
theorem ab_s_if_ne {o : Int} (hx : p.tables.exec = Jvm.exec) (hb : c.code = cc) (hdg : decode cc pc = .ok (.ifCond .ne o, 3)) (hf : ab_f sv (.ifCond .ne o, 3, aux) pc lo st h = some (.inl (pc', lo', st', h'))) (kk : ab_Wn cl D E ks base Hb nL p l e R s m args below meth c Q c0 s0 pc' lo' st' h') : ab_Wn cl D E ks base Hb nL p l e R s m args below meth c Q c0 s0 pc lo st h := by
  intro ls H locs hl hR hlo
  simp only [ab_f, ab_cc] at hf
  split at hf
  · obtain ⟨ht, rfl, rfl, rfl, hp⟩ := ab_br_inv hf
    refine lv_if_ne hx hb hdg ht (fun q => ?_) (fun q => ?_)
    · rcases hp with ⟨hp, rfl⟩ | ⟨hp, rfl⟩
      · exact kk _ _ _ hl hR hlo
      · first | exact absurd q (by simpa using hp) | exact absurd (by simpa using hp) q
    · rcases hp with ⟨hp, rfl⟩ | ⟨hp, rfl⟩
      · first | exact absurd q (by simpa using hp) | exact absurd (by simpa using hp) q
      · exact kk _ _ _ hl hR hlo
  · cases hf
theorem ab_s_icmp_ne {o : Int} (hx : p.tables.exec = Jvm.exec) (hb : c.code = cc) (hdg : decode cc pc = .ok (.if_icmp .ne o, 3)) (hf : ab_f sv (.if_icmp .ne o, 3, aux) pc lo st h = some (.inl (pc', lo', st', h'))) (kk : ab_Wn cl D E ks base Hb nL p l e R s m args below meth c Q c0 s0 pc' lo' st' h') : ab_Wn cl D E ks base Hb nL p l e R s m args below meth c Q c0 s0 pc lo st h := by
  intro ls H locs hl hR hlo
  simp only [ab_f, ab_cc] at hf
  split at hf
  · obtain ⟨ht, rfl, rfl, rfl, hp⟩ := ab_br_inv hf
    refine lv_icmp_ne hx hb hdg ht (fun q => ?_) (fun q => ?_)
    · rcases hp with ⟨hp, rfl⟩ | ⟨hp, rfl⟩
      · exact kk _ _ _ hl hR hlo
      · first | exact absurd q (by simpa using hp) | exact absurd (by simpa using hp) q
    · rcases hp with ⟨hp, rfl⟩ | ⟨hp, rfl⟩
      · first | exact absurd q (by simpa using hp) | exact absurd (by simpa using hp) q
      · exact kk _ _ _ hl hR hlo
  · cases hf
theorem ab_s_if_lt {o : Int} (hx : p.tables.exec = Jvm.exec) (hb : c.code = cc) (hdg : decode cc pc = .ok (.ifCond .lt o, 3)) (hf : ab_f sv (.ifCond .lt o, 3, aux) pc lo st h = some (.inl (pc', lo', st', h'))) (kk : ab_Wn cl D E ks base Hb nL p l e R s m args below meth c Q c0 s0 pc' lo' st' h') : ab_Wn cl D E ks base Hb nL p l e R s m args below meth c Q c0 s0 pc lo st h := by
  intro ls H locs hl hR hlo
  simp only [ab_f, ab_cc] at hf
  split at hf
  · obtain ⟨ht, rfl, rfl, rfl, hp⟩ := ab_br_inv hf
    refine lv_if_lt hx hb hdg ht (fun q => ?_) (fun q => ?_)
    · rcases hp with ⟨hp, rfl⟩ | ⟨hp, rfl⟩
      · exact kk _ _ _ hl hR hlo
      · first | exact absurd q (by simpa using hp) | exact absurd (by simpa using hp) q
    · rcases hp with ⟨hp, rfl⟩ | ⟨hp, rfl⟩
      · first | exact absurd q (by simpa using hp) | exact absurd (by simpa using hp) q
      · exact kk _ _ _ hl hR hlo
  · cases hf
theorem ab_s_icmp_lt {o : Int} (hx : p.tables.exec = Jvm.exec) (hb : c.code = cc) (hdg : decode cc pc = .ok (.if_icmp .lt o, 3)) (hf : ab_f sv (.if_icmp .lt o, 3, aux) pc lo st h = some (.inl (pc', lo', st', h'))) (kk : ab_Wn cl D E ks base Hb nL p l e R s m args below meth c Q c0 s0 pc' lo' st' h') : ab_Wn cl D E ks base Hb nL p l e R s m args below meth c Q c0 s0 pc lo st h := by
  intro ls H locs hl hR hlo
  simp only [ab_f, ab_cc] at hf
  split at hf
  · obtain ⟨ht, rfl, rfl, rfl, hp⟩ := ab_br_inv hf
    refine lv_icmp_lt hx hb hdg ht (fun q => ?_) (fun q => ?_)
    · rcases hp with ⟨hp, rfl⟩ | ⟨hp, rfl⟩
      · exact kk _ _ _ hl hR hlo
      · first | exact absurd q (by simpa using hp) | exact absurd (by simpa using hp) q
    · rcases hp with ⟨hp, rfl⟩ | ⟨hp, rfl⟩
      · first | exact absurd q (by simpa using hp) | exact absurd (by simpa using hp) q
      · exact kk _ _ _ hl hR hlo
  · cases hf
theorem ab_s_if_ge {o : Int} (hx : p.tables.exec = Jvm.exec) (hb : c.code = cc) (hdg : decode cc pc = .ok (.ifCond .ge o, 3)) (hf : ab_f sv (.ifCond .ge o, 3, aux) pc lo st h = some (.inl (pc', lo', st', h'))) (kk : ab_Wn cl D E ks base Hb nL p l e R s m args below meth c Q c0 s0 pc' lo' st' h') : ab_Wn cl D E ks base Hb nL p l e R s m args below meth c Q c0 s0 pc lo st h := by
  intro ls H locs hl hR hlo
  simp only [ab_f, ab_cc] at hf
  split at hf
  · obtain ⟨ht, rfl, rfl, rfl, hp⟩ := ab_br_inv hf
    refine lv_if_ge hx hb hdg ht (fun q => ?_) (fun q => ?_)
    · rcases hp with ⟨hp, rfl⟩ | ⟨hp, rfl⟩
      · exact kk _ _ _ hl hR hlo
      · first | exact absurd q (by simpa using hp) | exact absurd (by simpa using hp) q
    · rcases hp with ⟨hp, rfl⟩ | ⟨hp, rfl⟩
      · first | exact absurd q (by simpa using hp) | exact absurd (by simpa using hp) q
      · exact kk _ _ _ hl hR hlo
  · cases hf
theorem ab_s_icmp_ge {o : Int} (hx : p.tables.exec = Jvm.exec) (hb : c.code = cc) (hdg : decode cc pc = .ok (.if_icmp .ge o, 3)) (hf : ab_f sv (.if_icmp .ge o, 3, aux) pc lo st h = some (.inl (pc', lo', st', h'))) (kk : ab_Wn cl D E ks base Hb nL p l e R s m args below meth c Q c0 s0 pc' lo' st' h') : ab_Wn cl D E ks base Hb nL p l e R s m args below meth c Q c0 s0 pc lo st h := by
  intro ls H locs hl hR hlo
  simp only [ab_f, ab_cc] at hf
  split at hf
  · obtain ⟨ht, rfl, rfl, rfl, hp⟩ := ab_br_inv hf
    refine lv_icmp_ge hx hb hdg ht (fun q => ?_) (fun q => ?_)
    · rcases hp with ⟨hp, rfl⟩ | ⟨hp, rfl⟩
      · exact kk _ _ _ hl hR hlo
      · first | exact absurd q (by simpa using hp) | exact absurd (by simpa using hp) q
    · rcases hp with ⟨hp, rfl⟩ | ⟨hp, rfl⟩
      · first | exact absurd q (by simpa using hp) | exact absurd (by simpa using hp) q
      · exact kk _ _ _ hl hR hlo
  · cases hf
theorem ab_s_if_gt {o : Int} (hx : p.tables.exec = Jvm.exec) (hb : c.code = cc) (hdg : decode cc pc = .ok (.ifCond .gt o, 3)) (hf : ab_f sv (.ifCond .gt o, 3, aux) pc lo st h = some (.inl (pc', lo', st', h'))) (kk : ab_Wn cl D E ks base Hb nL p l e R s m args below meth c Q c0 s0 pc' lo' st' h') : ab_Wn cl D E ks base Hb nL p l e R s m args below meth c Q c0 s0 pc lo st h := by
  intro ls H locs hl hR hlo
  simp only [ab_f, ab_cc] at hf
  split at hf
  · obtain ⟨ht, rfl, rfl, rfl, hp⟩ := ab_br_inv hf
    refine lv_if_gt hx hb hdg ht (fun q => ?_) (fun q => ?_)
    · rcases hp with ⟨hp, rfl⟩ | ⟨hp, rfl⟩
      · exact kk _ _ _ hl hR hlo
      · first | exact absurd q (by simpa using hp) | exact absurd (by simpa using hp) q
    · rcases hp with ⟨hp, rfl⟩ | ⟨hp, rfl⟩
      · first | exact absurd q (by simpa using hp) | exact absurd (by simpa using hp) q
      · exact kk _ _ _ hl hR hlo
  · cases hf
theorem ab_s_icmp_gt {o : Int} (hx : p.tables.exec = Jvm.exec) (hb : c.code = cc) (hdg : decode cc pc = .ok (.if_icmp .gt o, 3)) (hf : ab_f sv (.if_icmp .gt o, 3, aux) pc lo st h = some (.inl (pc', lo', st', h'))) (kk : ab_Wn cl D E ks base Hb nL p l e R s m args below meth c Q c0 s0 pc' lo' st' h') : ab_Wn cl D E ks base Hb nL p l e R s m args below meth c Q c0 s0 pc lo st h := by
  intro ls H locs hl hR hlo
  simp only [ab_f, ab_cc] at hf
  split at hf
  · obtain ⟨ht, rfl, rfl, rfl, hp⟩ := ab_br_inv hf
    refine lv_icmp_gt hx hb hdg ht (fun q => ?_) (fun q => ?_)
    · rcases hp with ⟨hp, rfl⟩ | ⟨hp, rfl⟩
      · exact kk _ _ _ hl hR hlo
      · first | exact absurd q (by simpa using hp) | exact absurd (by simpa using hp) q
    · rcases hp with ⟨hp, rfl⟩ | ⟨hp, rfl⟩
      · first | exact absurd q (by simpa using hp) | exact absurd (by simpa using hp) q
      · exact kk _ _ _ hl hR hlo
  · cases hf
theorem ab_s_if_le {o : Int} (hx : p.tables.exec = Jvm.exec) (hb : c.code = cc) (hdg : decode cc pc = .ok (.ifCond .le o, 3)) (hf : ab_f sv (.ifCond .le o, 3, aux) pc lo st h = some (.inl (pc', lo', st', h'))) (kk : ab_Wn cl D E ks base Hb nL p l e R s m args below meth c Q c0 s0 pc' lo' st' h') : ab_Wn cl D E ks base Hb nL p l e R s m args below meth c Q c0 s0 pc lo st h := by
  intro ls H locs hl hR hlo
  simp only [ab_f, ab_cc] at hf
  split at hf
  · obtain ⟨ht, rfl, rfl, rfl, hp⟩ := ab_br_inv hf
    refine lv_if_le hx hb hdg ht (fun q => ?_) (fun q => ?_)
    · rcases hp with ⟨hp, rfl⟩ | ⟨hp, rfl⟩
      · exact kk _ _ _ hl hR hlo
      · first | exact absurd q (by simpa using hp) | exact absurd (by simpa using hp) q
    · rcases hp with ⟨hp, rfl⟩ | ⟨hp, rfl⟩
      · first | exact absurd q (by simpa using hp) | exact absurd (by simpa using hp) q
      · exact kk _ _ _ hl hR hlo
  · cases hf
theorem ab_s_icmp_le {o : Int} (hx : p.tables.exec = Jvm.exec) (hb : c.code = cc) (hdg : decode cc pc = .ok (.if_icmp .le o, 3)) (hf : ab_f sv (.if_icmp .le o, 3, aux) pc lo st h = some (.inl (pc', lo', st', h'))) (kk : ab_Wn cl D E ks base Hb nL p l e R s m args below meth c Q c0 s0 pc' lo' st' h') : ab_Wn cl D E ks base Hb nL p l e R s m args below meth c Q c0 s0 pc lo st h := by
  intro ls H locs hl hR hlo
  simp only [ab_f, ab_cc] at hf
  split at hf
  · obtain ⟨ht, rfl, rfl, rfl, hp⟩ := ab_br_inv hf
    refine lv_icmp_le hx hb hdg ht (fun q => ?_) (fun q => ?_)
    · rcases hp with ⟨hp, rfl⟩ | ⟨hp, rfl⟩
      · exact kk _ _ _ hl hR hlo
      · first | exact absurd q (by simpa using hp) | exact absurd (by simpa using hp) q
    · rcases hp with ⟨hp, rfl⟩ | ⟨hp, rfl⟩
      · first | exact absurd q (by simpa using hp) | exact absurd (by simpa using hp) q
      · exact kk _ _ _ hl hR hlo
  · cases hf
theorem ab_rf_inv {v : Value} {r : Option Nat} (hr : ab_rf v = some r) : v = va_rf r := by
  cases v <;> simp [ab_rf] at hr <;> subst hr <;> rfl
theorem ab_s_ifnull {o : Int} (hx : p.tables.exec = Jvm.exec) (hb : c.code = cc) (hdg : decode cc pc = .ok (.ifnull o, 3)) (hf : ab_f sv (.ifnull o, 3, aux) pc lo st h = some (.inl (pc', lo', st', h'))) (kk : ab_Wn cl D E ks base Hb nL p l e R s m args below meth c Q c0 s0 pc' lo' st' h') : ab_Wn cl D E ks base Hb nL p l e R s m args below meth c Q c0 s0 pc lo st h := by
  intro ls H locs hl hR hlo
  simp only [ab_f] at hf
  split at hf
  · split at hf
    · rename_i r hr
      obtain ⟨ht, rfl, rfl, rfl, hp⟩ := ab_br_inv hf
      rw [ab_rf_inv hr]
      cases r with
      | none =>
        rcases hp with ⟨hp, rfl⟩ | ⟨hp, rfl⟩
        · first | exact lv_ifnullN hx hb hdg ht (kk _ _ _ hl hR hlo) | (simp at hp; done)
        · first | exact lv_ifnullN hx hb hdg ht (kk _ _ _ hl hR hlo) | (simp at hp; done)
      | some r =>
        rcases hp with ⟨hp, rfl⟩ | ⟨hp, rfl⟩
        · first | exact lv_ifnull hx hb hdg (kk _ _ _ hl hR hlo) | (simp at hp; done)
        · first | exact lv_ifnull hx hb hdg (kk _ _ _ hl hR hlo) | (simp at hp; done)
    · cases hf
  · cases hf
theorem ab_s_ifnonnull {o : Int} (hx : p.tables.exec = Jvm.exec) (hb : c.code = cc) (hdg : decode cc pc = .ok (.ifnonnull o, 3)) (hf : ab_f sv (.ifnonnull o, 3, aux) pc lo st h = some (.inl (pc', lo', st', h'))) (kk : ab_Wn cl D E ks base Hb nL p l e R s m args below meth c Q c0 s0 pc' lo' st' h') : ab_Wn cl D E ks base Hb nL p l e R s m args below meth c Q c0 s0 pc lo st h := by
  intro ls H locs hl hR hlo
  simp only [ab_f] at hf
  split at hf
  · split at hf
    · rename_i r hr
      obtain ⟨ht, rfl, rfl, rfl, hp⟩ := ab_br_inv hf
      rw [ab_rf_inv hr]
      cases r with
      | none =>
        rcases hp with ⟨hp, rfl⟩ | ⟨hp, rfl⟩
        · first | exact lv_ifnonnullN hx hb hdg (kk _ _ _ hl hR hlo) | (simp at hp; done)
        · first | exact lv_ifnonnullN hx hb hdg (kk _ _ _ hl hR hlo) | (simp at hp; done)
      | some r =>
        rcases hp with ⟨hp, rfl⟩ | ⟨hp, rfl⟩
        · first | exact lv_ifnonnull hx hb hdg ht (kk _ _ _ hl hR hlo) | (simp at hp; done)
        · first | exact lv_ifnonnull hx hb hdg ht (kk _ _ _ hl hR hlo) | (simp at hp; done)
    · cases hf
  · cases hf
theorem ab_s_acmp_eq {o : Int} (hx : p.tables.exec = Jvm.exec) (hb : c.code = cc) (hdg : decode cc pc = .ok (.if_acmp .eq o, 3)) (hf : ab_f sv (.if_acmp .eq o, 3, aux) pc lo st h = some (.inl (pc', lo', st', h'))) (kk : ab_Wn cl D E ks base Hb nL p l e R s m args below meth c Q c0 s0 pc' lo' st' h') : ab_Wn cl D E ks base Hb nL p l e R s m args below meth c Q c0 s0 pc lo st h := by
  intro ls H locs hl hR hlo
  simp only [ab_f] at hf
  split at hf
  · split at hf
    · rename_i x y hx1 hy1
      obtain ⟨ht, rfl, rfl, rfl, hp⟩ := ab_br_inv hf
      rw [ab_rf_inv hx1, ab_rf_inv hy1]
      refine lv_acmp_eq hx hb hdg ht (fun q => ?_) (fun q => ?_)
      · rcases hp with ⟨hp, rfl⟩ | ⟨hp, rfl⟩
        · exact kk _ _ _ hl hR hlo
        · first | exact absurd q (by simpa using hp) | exact absurd (by simpa using hp) q
      · rcases hp with ⟨hp, rfl⟩ | ⟨hp, rfl⟩
        · first | exact absurd q (by simpa using hp) | exact absurd (by simpa using hp) q
        · exact kk _ _ _ hl hR hlo
    · cases hf
  · cases hf
theorem ab_s_acmp_ne {o : Int} (hx : p.tables.exec = Jvm.exec) (hb : c.code = cc) (hdg : decode cc pc = .ok (.if_acmp .ne o, 3)) (hf : ab_f sv (.if_acmp .ne o, 3, aux) pc lo st h = some (.inl (pc', lo', st', h'))) (kk : ab_Wn cl D E ks base Hb nL p l e R s m args below meth c Q c0 s0 pc' lo' st' h') : ab_Wn cl D E ks base Hb nL p l e R s m args below meth c Q c0 s0 pc lo st h := by
  intro ls H locs hl hR hlo
  simp only [ab_f] at hf
  split at hf
  · split at hf
    · rename_i x y hx1 hy1
      obtain ⟨ht, rfl, rfl, rfl, hp⟩ := ab_br_inv hf
      rw [ab_rf_inv hx1, ab_rf_inv hy1]
      refine lv_acmp_ne hx hb hdg ht (fun q => ?_) (fun q => ?_)
      · rcases hp with ⟨hp, rfl⟩ | ⟨hp, rfl⟩
        · exact kk _ _ _ hl hR hlo
        · first | exact absurd q (by simpa using hp) | exact absurd (by simpa using hp) q
      · rcases hp with ⟨hp, rfl⟩ | ⟨hp, rfl⟩
        · first | exact absurd q (by simpa using hp) | exact absurd (by simpa using hp) q
        · exact kk _ _ _ hl hR hlo
    · cases hf
  · cases hf
theorem ab_s_goto {o : Int} (hx : p.tables.exec = Jvm.exec) (hb : c.code = cc) (hdg : decode cc pc = .ok (.goto o, 3)) (hf : ab_f sv (.goto o, 3, aux) pc lo st h = some (.inl (pc', lo', st', h'))) (kk : ab_Wn cl D E ks base Hb nL p l e R s m args below meth c Q c0 s0 pc' lo' st' h') : ab_Wn cl D E ks base Hb nL p l e R s m args below meth c Q c0 s0 pc lo st h := by
  intro ls H locs hl hR hlo
  simp only [ab_f] at hf
  split at hf
  · rename_i h0
    obtain ⟨rfl, rfl, rfl, rfl⟩ := ab_nx_inv hf
    exact lv_goto hx hb hdg (by unfold ab_tg; omega) (kk _ _ _ hl hR hlo)
  · cases hf
theorem ab_s_tableswitch {len : Nat} {d lw hg : Int} {os : Array Int} (hx : p.tables.exec = Jvm.exec) (hb : c.code = cc) (hdg : decode cc pc = .ok (.tableswitch d lw hg os, len)) (hf : ab_f sv (.tableswitch d lw hg os, len, aux) pc lo st h = some (.inl (pc', lo', st', h'))) (kk : ab_Wn cl D E ks base Hb nL p l e R s m args below meth c Q c0 s0 pc' lo' st' h') : ab_Wn cl D E ks base Hb nL p l e R s m args below meth c Q c0 s0 pc lo st h := by
  intro ls H locs hl hR hlo
  simp only [ab_f] at hf
  split at hf
  · split at hf
    · rename_i hout
      split at hf
      · rename_i h0
        obtain ⟨rfl, rfl, rfl, rfl⟩ := ab_nx_inv hf
        exact lv_tableOut hx hb hdg hout (by unfold ab_tg; omega) (kk _ _ _ hl hR hlo)
      · cases hf
    · rename_i hin
      split at hf
      · rename_i o ho
        split at hf
        · rename_i h0
          obtain ⟨rfl, rfl, rfl, rfl⟩ := ab_nx_inv hf
          exact lv_tableIn hx hb hdg (fun q => hin (Or.inl q)) (fun q => hin (Or.inr q)) ho (by unfold ab_tg; omega) (kk _ _ _ hl hR hlo)
        · cases hf
      · cases hf
  · cases hf
theorem ab_s_lookupswitch {len : Nat} {d : Int} {ps : Array (Int × Int)} (hx : p.tables.exec = Jvm.exec) (hb : c.code = cc) (hso : (ps.toList.zip (ps.toList.drop 1)).all (fun (a, next) => a.1 < next.1) = true) (hdg : decode cc pc = .ok (.lookupswitch d ps, len)) (hf : ab_f sv (.lookupswitch d ps, len, aux) pc lo st h = some (.inl (pc', lo', st', h'))) (kk : ab_Wn cl D E ks base Hb nL p l e R s m args below meth c Q c0 s0 pc' lo' st' h') : ab_Wn cl D E ks base Hb nL p l e R s m args below meth c Q c0 s0 pc lo st h := by
  intro ls H locs hl hR hlo
  simp only [ab_f] at hf
  split at hf
  · split at hf
    · rename_i h0
      obtain ⟨rfl, rfl, rfl, rfl⟩ := ab_nx_inv hf
      exact lv_lookup hx hb hdg hso rfl (by unfold ab_tg; omega) (kk _ _ _ hl hR hlo)
    · cases hf
  · cases hf
end ABP
end
section
/-! THE ABSTRACT MACHINE OVER THE KIT'S JUDGEMENT, second half: objects and arrays. -/
theorem ab_at.kept {cl : List vw_C} {D : va_G} {E : Nat → ClassId} {ks : Nat → Bool} {base a : Nat} {H H1 : Heap} {c : ab_C} (h : ab_at cl D E ks base a H c) (hq : H1[a]? = H[a]?) : ab_at cl D E ks base a H1 c := by
  cases c with
  | inl q =>
    rcases h with ⟨h1, h2, h3⟩ | ⟨h1, cell, h2, h3⟩
    · exact Or.inl ⟨h1, hq.trans h2, h3⟩
    · exact Or.inr ⟨h1, cell, hq.trans h2, h3⟩
  | inr q =>
    obtain ⟨⟨r, h1, h2, h3⟩, h4⟩ := h
    exact ⟨⟨r, h1, h2, h3.kept hq⟩, h4⟩
theorem ab_at.lt {cl : List vw_C} {D : va_G} {E : Nat → ClassId} {ks : Nat → Bool} {base a : Nat} {H : Heap} {c : ab_C} (h : ab_at cl D E ks base a H c) : a < H.size := by
  cases c with
  | inl q =>
    rcases h with ⟨h1, h2, h3⟩ | ⟨h1, cell, h2, h3⟩
    · exact (Array.getElem?_eq_some_iff.mp h2).1
    · exact (Array.getElem?_eq_some_iff.mp h2).1
  | inr q =>
    obtain ⟨⟨r, h1, h2, cell, h3, -⟩, h4⟩ := h
    exact (Array.getElem?_eq_some_iff.mp h3).1
theorem ab_Rl.set {cl : List vw_C} {D : va_G} {E : Nat → ClassId} {ks : Nat → Bool} {base : Nat} {Hb H H1 : Heap} {h : ab_H} (hR : ab_Rl cl D E ks base Hb h H) {a : Nat} {c : ab_C} (hba : base ≤ a) (he : ab_at cl D E ks base a H1 c) (hz : H1.size = H.size) (ho : ∀ q : Nat, q ≠ a → H1[q]? = H[q]?) : ab_Rl cl D E ks base Hb (ab_set h a c) H1 := by
  obtain ⟨r1, r2, r3, r4⟩ := hR
  refine ⟨by omega, by rw [hz]; exact r2, fun q hq => (ho q (by omega)).trans (r3 q hq), fun b d hd => ?_⟩
  by_cases hb : b = a
  · subst hb
    have e : d = c := by
      have h9 : (if b = b then some c else h.1 b) = some d := hd
      rw [if_pos rfl] at h9
      exact (Option.some.inj h9).symm
    rw [e]; exact he
  · have h9 : (if b = a then some c else h.1 b) = some d := hd
    rw [if_neg hb] at h9
    exact (r4 b d h9).kept (ho b hb)
theorem ab_Rl.new {cl : List vw_C} {D : va_G} {E : Nat → ClassId} {ks : Nat → Bool} {base : Nat} {Hb H H1 : Heap} {h : ab_H} (hR : ab_Rl cl D E ks base Hb h H) {c : ab_C} {n : Nat} (he : ab_at cl D E ks base H.size H1 c) (hz : H1.size = H.size + 1) (ho : ∀ q : Nat, q < H.size → H1[q]? = H[q]?) : ab_Rl cl D E ks base Hb (ab_new h c n) H1 := by
  obtain ⟨r1, r2, r3, r4⟩ := hR
  refine ⟨by omega, by show h.2.1 + 1 = _; omega, fun q hq => (ho q (by omega)).trans (r3 q hq), fun b d hd => ?_⟩
  have h9 : (if b = h.2.1 then some c else h.1 b) = some d := hd
  by_cases hb : b = h.2.1
  · rw [if_pos hb] at h9
    rw [← Option.some.inj h9, hb, r2]
    exact he
  · rw [if_neg hb] at h9
    have h8 := r4 b d h9
    exact h8.kept (ho b h8.lt)
/-- a link to a field, its own or a nest mate's -/
def ab_fl (own : String) (s : State) (args : Array Value) (idx : Nat) (ref n d : String) : Prop := (Jvm.Cond.fieldLink own idx ref n d).before args s = true ∨ ∃ host : String, (Jvm.Cond.fieldLinkNest own idx ref n d host).before args s = true
def ab_fw (cl : List vw_C) (own : String) (s : State) (args : Array Value) (ci k idx : Nat) : Prop := ∃ (C : String) (T : u_T) (N : Nat) (ref : String), cl[ci]? = some (C, T, N) ∧ k < N ∧ (∀ w ∈ u_ws C T N, w.before args s = true) ∧ (∀ x, s.fieldFound? (T k).1 (T k).2.1 (T k).2.2.1 = some x → s.fieldFound? ref (T k).2.1 (T k).2.2.1 = some x) ∧ ab_fl own s args idx ref (T k).2.1 (T k).2.2.1
def ab_pw (cl : List vw_C) (own : String) (s : State) (args : Array Value) (meth : Method) (ci k code idx : Nat) : Prop := ∃ (C : String) (T : u_T) (N : Nat) (ref : String) (ty : Nat → FieldType), cl[ci]? = some (C, T, N) ∧ k < N ∧ (∀ w ∈ u_ws C T N, w.before args s = true) ∧ (∀ x, s.fieldFound? (T k).1 (T k).2.1 (T k).2.2.1 = some x → s.fieldFound? ref (T k).2.1 (T k).2.2.1 = some x) ∧
  (∀ j, j < N → parseFieldDescriptor (T j).2.2.1 = some (ty j)) ∧ (∀ a, a < N → ∀ b, b < N → a ≠ b → (T a).2.1 ≠ (T b).2.1) ∧ ab_kt code (ty k) = true ∧
  (((T k).2.2.2 = false ∧ ab_fl own s args idx ref (T k).2.1 (T k).2.2.1) ∨ ((T k).2.2.2 = true ∧ (Jvm.Cond.fieldLink own idx ref (T k).2.1 (T k).2.2.1).before args s = true ∧ meth.name = "<init>" ∧ (T k).1 = own))
theorem ab_kt_fits {k : Nat} {ty : FieldType} {v : Value} (h : ab_kt k ty = true) (hv : ab_fit k v = true) : narrow ty v = v ∧ fits ty v = true := by
  match k, ty, v, h, hv with
  | 0, .int, .int x, _, _ => exact ⟨rfl, rfl⟩
  | 1, .boolean, .int x, _, hv =>
    have h1 : (x == 0 || x == 1) = true := hv
    refine ⟨?_, h1⟩
    rcases (by simpa using h1 : x = 0 ∨ x = 1) with rfl | rfl <;> rfl
  | 2, .char, .int x, _, hv =>
    have h1 : (0 ≤ x && x ≤ 65535) = true := hv
    refine ⟨?_, h1⟩
    have h2 : 0 ≤ x ∧ x ≤ 65535 := by simpa using h1
    obtain ⟨j, hj, rfl⟩ := nI_of2 (M := 65535) (n := 65535) (by decide) (Int32.not_lt.mpr h2.1) h2.2
    exact (pk_charN (by omega)).1
  | 3, .long, .long x, _, _ => exact ⟨rfl, rfl⟩
  | 4, .double, .double x, _, _ => exact ⟨rfl, rfl⟩
  | 5, .float, .float x, _, _ => exact ⟨rfl, rfl⟩
  | 6, .object _, .null, _, _ => exact ⟨rfl, rfl⟩
  | 6, .object _, .ref _, _, _ => exact ⟨rfl, rfl⟩
  | 6, .array _, .null, _, _ => exact ⟨rfl, rfl⟩
  | 6, .array _, .ref _, _, _ => exact ⟨rfl, rfl⟩
theorem ab_set_list (t : ClassId) (xs : List Value) (i : Nat) (v : Value) : ({ cls := t, slots := xs.toArray, vm := .none } : Cell).setSlot i v = { cls := t, slots := (xs.set i v).toArray, vm := .none } := by
  simp [Cell.setSlot]
section ABH
variable {cl : List vw_C} {D : va_G} {E : Nat → ClassId} {ks : Nat → Bool} {aty : Nat → FieldType} {base : Nat} {Hb : Heap} {nL : Nat} {p : Program} {l : Launch} {e : Env} {R : Room} {s : State} {m : MethodId} {args : Array Value} {below : List Frame} {meth : Method} {c : Code} {Q : State → Prop} {c0 s0 : Nat} {sv : Nat → Value}
variable {cc : ByteArray} {pc pc' n' : Nat} {lo lo' : ab_L} {st st' : List Value} {h h' : ab_H} {aux : List Nat} {own : String}
theorem ab_arr {t : Nat} (hK : ab_Kn cl D E ks aty s) (ht : ks t = true) (xs : List Value) : s.isArrayOf { cls := E t, slots := xs.toArray, vm := .none } (aty t) := ⟨fun k h => (by cases h), ((hK.2.1 t ht).2.1 0 (fun _ => .null)).2⟩
theorem ab_ar (hK : ab_Kn cl D E ks aty s) {H : Heap} {a t : Nat} {xs : List Value} (h : ab_at cl D E ks base a H (.inl (t, xs))) : ∃ cell : Cell, H[a]? = some cell ∧ s.isArrayOf cell (aty t) ∧ cell.vm ≠ .unknown ∧ cell.slots = xs.toArray ∧ ab_kt (t % 8) (aty t) = true ∧ (t < 1000 → cell = { cls := E t, slots := xs.toArray, vm := .none } ∧ ks t = true ∧ base ≤ a) := by
  rcases h with ⟨h1, h2, h3⟩ | ⟨h1, cell, h2, h3, h4, h5, h6⟩
  · have h1 : ks t = true := h1
    exact ⟨_, h2, ab_arr hK h1 xs, (fun q => by cases q), rfl, (hK.2.1 t h1).1, fun _ => ⟨rfl, h1, h3⟩⟩
  · have h1 : ab_rk t = true := h1
    have h3 : cell.cls = E t := h3
    obtain ⟨q1, q2⟩ := hK.2.2.2 t h1
    refine ⟨cell, h2, ⟨h6, ?_⟩, h5, h4, q1, fun q => ?_⟩
    · rw [h3]
      exact (q2 0 (fun _ => .null)).2
    · exfalso
      rcases (by simpa [ab_rk] using h1 : t = 1000 ∨ t = 1006) with e | e <;> omega
theorem ab_al_inv {k : Nat} (hf : ab_al k pc lo st h = some (.inl (pc', lo', st', h'))) : ∃ i a t xs v r, st = .int i :: .ref a :: r ∧ h.1 a = some (.inl (t, xs)) ∧ t % 8 = k ∧ ¬ (i < 0 ∨ xs.length ≤ i.toNatClampNeg) ∧ xs[i.toNatClampNeg]? = some v ∧ ab_fit k v = true ∧ pc' = pc + 1 ∧ lo' = lo ∧ st' = v :: r ∧ h' = h := by
  unfold ab_al at hf
  split at hf
  · rename_i i a r
    split at hf
    · rename_i t xs hc
      split at hf
      · rename_i h1
        split at hf
        · rename_i v hv
          split at hf
          · rename_i hk
            obtain ⟨rfl, rfl, rfl, rfl⟩ := ab_nx_inv hf
            exact ⟨i, a, t, xs, v, r, rfl, hc, h1.1, h1.2, hv, hk, rfl, rfl, rfl, rfl⟩
          · cases hf
        · cases hf
      · cases hf
    · cases hf
  · cases hf
theorem ab_as_inv {k : Nat} (hf : ab_as k pc lo st h = some (.inl (pc', lo', st', h'))) : ∃ v i a t xs, st = v :: .int i :: .ref a :: st' ∧ h.1 a = some (.inl (t, xs)) ∧ t % 8 = k ∧ t < 1000 ∧ ab_fit k v = true ∧ ¬ (i < 0 ∨ xs.length ≤ i.toNatClampNeg) ∧ (k = 6 → ab_el h t v = true) ∧ pc' = pc + 1 ∧ lo' = lo ∧ h' = ab_set h a (.inl (t, xs.set i.toNatClampNeg v)) := by
  unfold ab_as at hf
  split at hf
  · rename_i v i a r
    split at hf
    · rename_i t xs hc
      split at hf
      · rename_i h1
        obtain ⟨rfl, rfl, rfl, rfl⟩ := ab_nx_inv hf
        exact ⟨v, i, a, t, xs, rfl, hc, h1.1, h1.2.1, h1.2.2.1, h1.2.2.2.1, h1.2.2.2.2, rfl, rfl, rfl⟩
      · cases hf
    · cases hf
  · cases hf
theorem ab_kt0 {ty : FieldType} (h : ab_kt 0 ty = true) : ty = .int := by cases ty <;> simp [ab_kt] at h ⊢
theorem ab_kt1 {ty : FieldType} (h : ab_kt 1 ty = true) : ty = .boolean := by cases ty <;> simp [ab_kt] at h ⊢
theorem ab_kt3 {ty : FieldType} (h : ab_kt 3 ty = true) : ty = .long := by cases ty <;> simp [ab_kt] at h ⊢
theorem ab_kt4 {ty : FieldType} (h : ab_kt 4 ty = true) : ty = .double := by cases ty <;> simp [ab_kt] at h ⊢
theorem ab_kt6 {ty : FieldType} (h : ab_kt 6 ty = true) : ty.isReference = true := by cases ty <;> simp [ab_kt] at h ⊢ <;> rfl
theorem ab_s_iaload (hx : p.tables.exec = Jvm.exec) (hb : c.code = cc) (hK : ab_Kn cl D E ks aty s) (hdg : decode cc pc = .ok (.iaload, 1)) (hf : ab_f sv (.iaload, 1, aux) pc lo st h = some (.inl (pc', lo', st', h'))) (kk : ab_Wn cl D E ks base Hb nL p l e R s m args below meth c Q c0 s0 pc' lo' st' h') : ab_Wn cl D E ks base Hb nL p l e R s m args below meth c Q c0 s0 pc lo st h := by
  intro ls H locs hl hR hlo
  obtain ⟨i, a, t, xs, v, r, rfl, hc, hk, hin, hv, hfit, rfl, rfl, rfl, rfl⟩ := ab_al_inv hf
  obtain ⟨cell, g1, harr, hun, hsl, hkt, -⟩ := ab_ar hK (hR.2.2.2 _ _ hc)
  have hty := ab_kt0 (by rw [← hk]; exact hkt : ab_kt 0 (aty t) = true)
  rw [hty] at harr
  exact W.iald hx hb g1 harr hun (by rw [hsl]; simpa using hin) (by rw [hsl]; simpa using hv) rfl rfl hdg (kk _ _ _ hl hR hlo)
theorem ab_s_baload (hx : p.tables.exec = Jvm.exec) (hb : c.code = cc) (hK : ab_Kn cl D E ks aty s) (hdg : decode cc pc = .ok (.baload, 1)) (hf : ab_f sv (.baload, 1, aux) pc lo st h = some (.inl (pc', lo', st', h'))) (kk : ab_Wn cl D E ks base Hb nL p l e R s m args below meth c Q c0 s0 pc' lo' st' h') : ab_Wn cl D E ks base Hb nL p l e R s m args below meth c Q c0 s0 pc lo st h := by
  intro ls H locs hl hR hlo
  obtain ⟨i, a, t, xs, v, r, rfl, hc, hk, hin, hv, hfit, rfl, rfl, rfl, rfl⟩ := ab_al_inv hf
  obtain ⟨cell, g1, harr, hun, hsl, hkt, -⟩ := ab_ar hK (hR.2.2.2 _ _ hc)
  have hty := ab_kt1 (by rw [← hk]; exact hkt : ab_kt 1 (aty t) = true)
  rw [hty] at harr
  exact W.zald hx hb g1 harr hun (by rw [hsl]; simpa using hin) (by rw [hsl]; simpa using hv) rfl rfl hdg (kk _ _ _ hl hR hlo)
theorem ab_s_laload (hx : p.tables.exec = Jvm.exec) (hb : c.code = cc) (hK : ab_Kn cl D E ks aty s) (hdg : decode cc pc = .ok (.laload, 1)) (hf : ab_f sv (.laload, 1, aux) pc lo st h = some (.inl (pc', lo', st', h'))) (kk : ab_Wn cl D E ks base Hb nL p l e R s m args below meth c Q c0 s0 pc' lo' st' h') : ab_Wn cl D E ks base Hb nL p l e R s m args below meth c Q c0 s0 pc lo st h := by
  intro ls H locs hl hR hlo
  obtain ⟨i, a, t, xs, v, r, rfl, hc, hk, hin, hv, hfit, rfl, rfl, rfl, rfl⟩ := ab_al_inv hf
  obtain ⟨cell, g1, harr, hun, hsl, hkt, -⟩ := ab_ar hK (hR.2.2.2 _ _ hc)
  have hty := ab_kt3 (by rw [← hk]; exact hkt : ab_kt 3 (aty t) = true)
  rw [hty] at harr
  exact W.lald hx hb g1 harr hun (by rw [hsl]; simpa using hin) (by rw [hsl]; simpa using hv) rfl rfl hdg (kk _ _ _ hl hR hlo)
theorem ab_s_daload (hx : p.tables.exec = Jvm.exec) (hb : c.code = cc) (hK : ab_Kn cl D E ks aty s) (hdg : decode cc pc = .ok (.daload, 1)) (hf : ab_f sv (.daload, 1, aux) pc lo st h = some (.inl (pc', lo', st', h'))) (kk : ab_Wn cl D E ks base Hb nL p l e R s m args below meth c Q c0 s0 pc' lo' st' h') : ab_Wn cl D E ks base Hb nL p l e R s m args below meth c Q c0 s0 pc lo st h := by
  intro ls H locs hl hR hlo
  obtain ⟨i, a, t, xs, v, r, rfl, hc, hk, hin, hv, hfit, rfl, rfl, rfl, rfl⟩ := ab_al_inv hf
  obtain ⟨cell, g1, harr, hun, hsl, hkt, -⟩ := ab_ar hK (hR.2.2.2 _ _ hc)
  have hty := ab_kt4 (by rw [← hk]; exact hkt : ab_kt 4 (aty t) = true)
  rw [hty] at harr
  exact W.dald hx hb g1 harr hun (by rw [hsl]; simpa using hin) (by rw [hsl]; simpa using hv) rfl rfl hdg (kk _ _ _ hl hR hlo)
theorem ab_s_aaload (hx : p.tables.exec = Jvm.exec) (hb : c.code = cc) (hK : ab_Kn cl D E ks aty s) (hdg : decode cc pc = .ok (.aaload, 1)) (hf : ab_f sv (.aaload, 1, aux) pc lo st h = some (.inl (pc', lo', st', h'))) (kk : ab_Wn cl D E ks base Hb nL p l e R s m args below meth c Q c0 s0 pc' lo' st' h') : ab_Wn cl D E ks base Hb nL p l e R s m args below meth c Q c0 s0 pc lo st h := by
  intro ls H locs hl hR hlo
  obtain ⟨i, a, t, xs, v, r, rfl, hc, hk, hin, hv, hfit, rfl, rfl, rfl, rfl⟩ := ab_al_inv hf
  obtain ⟨cell, g1, harr, hun, hsl, hkt, -⟩ := ab_ar hK (hR.2.2.2 _ _ hc)
  exact W.aald hx hb g1 harr (ab_kt6 (by rw [← hk]; exact hkt : ab_kt 6 (aty t) = true)) hun (by rw [hsl]; simpa using hin) (by rw [hsl]; simpa using hv) rfl rfl hdg (kk _ _ _ hl hR hlo)
theorem ab_s_iastore (hx : p.tables.exec = Jvm.exec) (hb : c.code = cc) (hK : ab_Kn cl D E ks aty s) (hdg : decode cc pc = .ok (.iastore, 1)) (hf : ab_f sv (.iastore, 1, aux) pc lo st h = some (.inl (pc', lo', st', h'))) (kk : ab_Wn cl D E ks base Hb nL p l e R s m args below meth c Q c0 s0 pc' lo' st' h') : ab_Wn cl D E ks base Hb nL p l e R s m args below meth c Q c0 s0 pc lo st h := by
  intro ls H locs hl hR hlo
  obtain ⟨v, i, a, t, xs, rfl, hc, hk, h1k, hfit, hin, -, rfl, rfl, rfl⟩ := ab_as_inv hf
  obtain ⟨x, rfl⟩ := ab_fit0 hfit
  obtain ⟨cell, g1, -, -, -, -, h9⟩ := ab_ar hK (hR.2.2.2 _ _ hc)
  obtain ⟨rfl, g2, g3⟩ := h9 h1k
  have harr := ab_arr hK g2 xs
  have g2 : ks t = true := g2
  have harr : s.isArrayOf _ (aty t) := harr
  have hty := ab_kt0 (by rw [← hk]; exact (hK.2.1 t g2).1 : ab_kt 0 (aty t) = true)
  rw [hty] at harr
  refine W.iast hx hb g1 harr (fun q => by cases q) (by simpa using hin) rfl rfl hdg fun H1 e1 z1 o1 => ?_
  rw [ab_set_list] at e1
  exact kk _ _ _ hl (hR.set g3 (Or.inl ⟨g2, e1, g3⟩) z1 o1) (t_lc hlo g3)
theorem ab_s_lastore (hx : p.tables.exec = Jvm.exec) (hb : c.code = cc) (hK : ab_Kn cl D E ks aty s) (hdg : decode cc pc = .ok (.lastore, 1)) (hf : ab_f sv (.lastore, 1, aux) pc lo st h = some (.inl (pc', lo', st', h'))) (kk : ab_Wn cl D E ks base Hb nL p l e R s m args below meth c Q c0 s0 pc' lo' st' h') : ab_Wn cl D E ks base Hb nL p l e R s m args below meth c Q c0 s0 pc lo st h := by
  intro ls H locs hl hR hlo
  obtain ⟨v, i, a, t, xs, rfl, hc, hk, h1k, hfit, hin, -, rfl, rfl, rfl⟩ := ab_as_inv hf
  obtain ⟨x, rfl⟩ := ab_fit3 hfit
  obtain ⟨cell, g1, -, -, -, -, h9⟩ := ab_ar hK (hR.2.2.2 _ _ hc)
  obtain ⟨rfl, g2, g3⟩ := h9 h1k
  have harr := ab_arr hK g2 xs
  have g2 : ks t = true := g2
  have harr : s.isArrayOf _ (aty t) := harr
  have hty := ab_kt3 (by rw [← hk]; exact (hK.2.1 t g2).1 : ab_kt 3 (aty t) = true)
  rw [hty] at harr
  refine W.last hx hb g1 harr (fun q => by cases q) (by simpa using hin) rfl rfl hdg fun H1 e1 z1 o1 => ?_
  rw [ab_set_list] at e1
  exact kk _ _ _ hl (hR.set g3 (Or.inl ⟨g2, e1, g3⟩) z1 o1) (t_lc hlo g3)
theorem ab_s_dastore (hx : p.tables.exec = Jvm.exec) (hb : c.code = cc) (hK : ab_Kn cl D E ks aty s) (hdg : decode cc pc = .ok (.dastore, 1)) (hf : ab_f sv (.dastore, 1, aux) pc lo st h = some (.inl (pc', lo', st', h'))) (kk : ab_Wn cl D E ks base Hb nL p l e R s m args below meth c Q c0 s0 pc' lo' st' h') : ab_Wn cl D E ks base Hb nL p l e R s m args below meth c Q c0 s0 pc lo st h := by
  intro ls H locs hl hR hlo
  obtain ⟨v, i, a, t, xs, rfl, hc, hk, h1k, hfit, hin, -, rfl, rfl, rfl⟩ := ab_as_inv hf
  obtain ⟨x, rfl⟩ := ab_fit4 hfit
  obtain ⟨cell, g1, -, -, -, -, h9⟩ := ab_ar hK (hR.2.2.2 _ _ hc)
  obtain ⟨rfl, g2, g3⟩ := h9 h1k
  have harr := ab_arr hK g2 xs
  have g2 : ks t = true := g2
  have harr : s.isArrayOf _ (aty t) := harr
  have hty := ab_kt4 (by rw [← hk]; exact (hK.2.1 t g2).1 : ab_kt 4 (aty t) = true)
  rw [hty] at harr
  refine W.dast hx hb g1 harr (fun q => by cases q) (by simpa using hin) rfl rfl hdg fun H1 e1 z1 o1 => ?_
  rw [ab_set_list] at e1
  exact kk _ _ _ hl (hR.set g3 (Or.inl ⟨g2, e1, g3⟩) z1 o1) (t_lc hlo g3)
theorem ab_s_bastore (hx : p.tables.exec = Jvm.exec) (hb : c.code = cc) (hK : ab_Kn cl D E ks aty s) (hdg : decode cc pc = .ok (.bastore, 1)) (hf : ab_f sv (.bastore, 1, aux) pc lo st h = some (.inl (pc', lo', st', h'))) (kk : ab_Wn cl D E ks base Hb nL p l e R s m args below meth c Q c0 s0 pc' lo' st' h') : ab_Wn cl D E ks base Hb nL p l e R s m args below meth c Q c0 s0 pc lo st h := by
  intro ls H locs hl hR hlo
  obtain ⟨v, i, a, t, xs, rfl, hc, hk, h1k, hfit, hin, -, rfl, rfl, rfl⟩ := ab_as_inv hf
  obtain ⟨x, rfl, h01⟩ := ab_fit1 hfit
  obtain ⟨cell, g1, -, -, -, -, h9⟩ := ab_ar hK (hR.2.2.2 _ _ hc)
  obtain ⟨rfl, g2, g3⟩ := h9 h1k
  have harr := ab_arr hK g2 xs
  have g2 : ks t = true := g2
  have harr : s.isArrayOf _ (aty t) := harr
  have hty := ab_kt1 (by rw [← hk]; exact (hK.2.1 t g2).1 : ab_kt 1 (aty t) = true)
  rw [hty] at harr
  refine W.zast hx hb g1 harr (fun q => by cases q) (by simpa using hin) rfl rfl hdg fun H1 e1 z1 o1 => ?_
  rw [(show narrow .boolean (.int x) = .int x by rcases h01 with rfl | rfl <;> rfl), ab_set_list] at e1
  exact kk _ _ _ hl (hR.set g3 (Or.inl ⟨g2, e1, g3⟩) z1 o1) (t_lc hlo g3)
theorem ab_s_aastore (hx : p.tables.exec = Jvm.exec) (hb : c.code = cc) (hK : ab_Kn cl D E ks aty s) (hdg : decode cc pc = .ok (.aastore, 1)) (hf : ab_f sv (.aastore, 1, aux) pc lo st h = some (.inl (pc', lo', st', h'))) (kk : ab_Wn cl D E ks base Hb nL p l e R s m args below meth c Q c0 s0 pc' lo' st' h') : ab_Wn cl D E ks base Hb nL p l e R s m args below meth c Q c0 s0 pc lo st h := by
  intro ls H locs hl hR hlo
  obtain ⟨v, i, a, t, xs, rfl, hc, hk, h1k, hfit, hin, hel, rfl, rfl, rfl⟩ := ab_as_inv hf
  obtain ⟨cell, g1, -, -, -, -, h9⟩ := ab_ar hK (hR.2.2.2 _ _ hc)
  obtain ⟨rfl, g2, g3⟩ := h9 h1k
  have hel := hel rfl
  obtain ⟨kA, kc, comp, w1, w2, w3, w4, w5, w6, w7⟩ := hK.2.2.1 t g2 hk h1k
  have hin' : ¬ i < 0 ∧ i.toNatClampNeg < xs.toArray.size := ⟨fun q => hin (Or.inl q), by rw [List.size_toArray]; exact Nat.not_le.mp fun q => hin (Or.inr q)⟩
  rcases ab_fit6 hfit with rfl | ⟨b, rfl⟩
  · have ht : t ≠ 14 := by
      intro q
      subst q
      simp [ab_el] at hel
    obtain ⟨C, hC⟩ := w4 ht
    refine va_WaastN (C := C) hx hb g1 (by rw [← hC]; exact ab_arr hK g2 xs) (fun q => by cases q) (by simpa using hin) rfl rfl hdg fun H1 e1 z1 o1 => ?_
    rw [ab_set_list] at e1
    exact kk _ _ _ hl (hR.set g3 (Or.inl ⟨g2, e1, g3⟩) z1 o1) (t_lc hlo g3)
  · have hel : ab_el2 t (h.1 b) = true := hel
    have href := ab_kt6 (by rw [← hk]; exact (hK.2.1 t g2).1 : ab_kt 6 (aty t) = true)
    cases hcb : h.1 b with
    | none => rw [hcb] at hel; cases hel
    | some d =>
      rw [hcb] at hel
      cases d with
      | inr q =>
        obtain ⟨ci, fs⟩ := q
        obtain ⟨⟨r, q1, q2, cell, q3, q4, q5, q6⟩, q7⟩ := hR.2.2.2 _ _ hcb
        obtain ⟨-, hfc, kC, hkC, -⟩ := hK.1 ci r q1
        have hasg : s.vm.assignable cell.cls comp = true := by
          rw [q4]
          rcases (by simpa [ab_el2] using hel : t = 6 ∨ t = 8 * (ci + 2) + 6) with ht | ht
          · exact w7 ht ci r q1
          · rw [w6 ci r q1 ht]; exact va_asg _ _
        refine W.aast hx hb g1 (fun q h => by cases h) (fun h => by cases h) w1 w2 href w3 hin' q3 (fun q h => by rw [q5] at h; cases h) (by rw [q4]; exact hkC) hasg rfl rfl hdg fun H1 e1 z1 o1 => ?_
        rw [ab_set_list] at e1
        exact kk _ _ _ hl (hR.set g3 (Or.inl ⟨g2, e1, g3⟩) z1 o1) (t_lc hlo g3)
      | inl q =>
        obtain ⟨u, ys⟩ := q
        have hel : t = 14 ∧ u = 0 := by simpa [ab_el2] using hel
        obtain ⟨cv, q1, -, -, -, -, q9⟩ := ab_ar hK (hR.2.2.2 _ _ hcb)
        obtain ⟨rfl, q2, q3⟩ := q9 (by omega)
        obtain ⟨-, kv, hkv, -⟩ := ab_arr hK q2 ys
        refine W.aast hx hb g1 (fun q h => by cases h) (fun h => by cases h) w1 w2 href w3 hin' q1 (fun q h => by cases h) hkv (by show s.vm.assignable (E u) comp = true; rw [(w5 hel.1).1, hel.2]; exact va_asg _ _) rfl rfl hdg fun H1 e1 z1 o1 => ?_
        rw [ab_set_list] at e1
        exact kk _ _ _ hl (hR.set g3 (Or.inl ⟨g2, e1, g3⟩) z1 o1) (t_lc hlo g3)
theorem ab_s_arraylength (hx : p.tables.exec = Jvm.exec) (hb : c.code = cc) (hK : ab_Kn cl D E ks aty s) (hdg : decode cc pc = .ok (.arraylength, 1)) (hf : ab_f sv (.arraylength, 1, aux) pc lo st h = some (.inl (pc', lo', st', h'))) (kk : ab_Wn cl D E ks base Hb nL p l e R s m args below meth c Q c0 s0 pc' lo' st' h') : ab_Wn cl D E ks base Hb nL p l e R s m args below meth c Q c0 s0 pc lo st h := by
  intro ls H locs hl hR hlo
  simp only [ab_f] at hf
  split at hf
  · split at hf
    · rename_i t xs hc
      obtain ⟨rfl, rfl, rfl, rfl⟩ := ab_nx_inv hf
      obtain ⟨cell, g1, harr, hun, hsl, -, -⟩ := ab_ar hK (hR.2.2.2 _ _ hc)
      exact W.alen (n := Int32.ofNat xs.length) hx hb g1 harr (by rw [hsl]; simp) rfl rfl hdg (kk _ _ _ hl hR hlo)
    · cases hf
  · cases hf
theorem ab_s_getfield {idx : Nat} (hx : p.tables.exec = Jvm.exec) (hb : c.code = cc) (hK : ab_Kn cl D E ks aty s) (hown : s.vm.findClass own = some m.cls) (hw : ab_fw cl own s args (ab_ax aux 0) (ab_ax aux 1) idx) (hdg : decode cc pc = .ok (.getfield idx, 3)) (hf : ab_f sv (.getfield idx, 3, aux) pc lo st h = some (.inl (pc', lo', st', h'))) (kk : ab_Wn cl D E ks base Hb nL p l e R s m args below meth c Q c0 s0 pc' lo' st' h') : ab_Wn cl D E ks base Hb nL p l e R s m args below meth c Q c0 s0 pc lo st h := by
  intro ls H locs hl hR hlo
  simp only [ab_f] at hf
  split at hf
  · rename_i a r
    split at hf
    · rename_i ci fs hc
      split at hf
      · rename_i hci
        split at hf
        · rename_i v hv
          obtain ⟨rfl, rfl, rfl, rfl⟩ := ab_nx_inv hf
          subst hci
          obtain ⟨C, T, N, ref, f1, f2, f3, f4, f5⟩ := hw
          obtain ⟨⟨r0, q1, q2, cell, q3, q4, q5, q6⟩, q7⟩ := hR.2.2.2 _ _ hc
          have hr : r0 = (C, T, N) := Option.some.inj (q1.symm.trans f1)
          subst hr
          obtain ⟨hS, hfc, kC, hkC, hkind⟩ := hK.1 _ _ f1
          obtain ⟨cf, kf, fi, f, hi, hsl⟩ := hS _ f2
          have hst := (u_facts hfc hkC (u_lays f3 (fun w h => h) f2) hi).1
          have hslot : cell.slots[f.slot]? = some v := by
            rw [hsl, q6 _ f2]
            simp [vp_V, hv]
          rcases f5 with f5 | ⟨host, f5⟩
          · exact W.getf hx hb hown f5 (f4 _ hi) hst q3 (by rw [q5]; exact fun h => by cases h) hslot rfl rfl hdg (kk _ _ _ hl hR hlo)
          · exact va_Wgetf hx hb hown f5 (f4 _ hi) hst q3 (by rw [q5]; exact fun h => by cases h) hslot rfl rfl hdg (kk _ _ _ hl hR hlo)
        · cases hf
      · cases hf
    · cases hf
  · cases hf
theorem ab_s_putfield {idx : Nat} (hx : p.tables.exec = Jvm.exec) (hb : c.code = cc) (hK : ab_Kn cl D E ks aty s) (hown : s.vm.findClass own = some m.cls) (hw : ab_pw cl own s args meth (ab_ax aux 0) (ab_ax aux 1) (ab_ax aux 2) idx) (hdg : decode cc pc = .ok (.putfield idx, 3)) (hf : ab_f sv (.putfield idx, 3, aux) pc lo st h = some (.inl (pc', lo', st', h'))) (kk : ab_Wn cl D E ks base Hb nL p l e R s m args below meth c Q c0 s0 pc' lo' st' h') : ab_Wn cl D E ks base Hb nL p l e R s m args below meth c Q c0 s0 pc lo st h := by
  intro ls H locs hl hR hlo
  simp only [ab_f] at hf
  split at hf
  · rename_i v a r
    split at hf
    · rename_i ci fs hc
      split at hf
      · rename_i hci
        obtain ⟨rfl, rfl, rfl, rfl⟩ := ab_nx_inv hf
        obtain ⟨rfl, hlen, hfit⟩ := hci
        obtain ⟨C, T, N, ref, ty, f1, f2, f3, f4, f5, f6, f7, f8⟩ := hw
        obtain ⟨⟨r0, q1, q2, cell, q3, q4, q5, q6⟩, q7⟩ := hR.2.2.2 _ _ hc
        have hr : r0 = (C, T, N) := Option.some.inj (q1.symm.trans f1)
        subst hr
        obtain ⟨hS, hfc, kC, hkC, hkind⟩ := hK.1 _ _ f1
        obtain ⟨cf, kf, fi, f, hi, hsl⟩ := hS _ f2
        have hlays := u_lays f3 (fun w h => h) f2
        have hst := (u_facts hfc hkC hlays hi).1
        obtain ⟨hn, hv⟩ := ab_kt_fits f7 hfit
        have hap : ∀ x y, x < N → y < N → x ≠ y → (D.2 (ab_ax aux 0)) x ≠ (D.2 (ab_ax aux 0)) y := by
          intro x y hx1 hy1 hne
          obtain ⟨_, _, _, fa, hia, ea⟩ := hS x hx1
          obtain ⟨_, _, _, fb, hib, eb⟩ := hS y hy1
          rw [← ea, ← eb]
          refine u_apart (u_lays f3 (fun w h => h) hx1) (u_lays f3 (fun w h => h) hy1) hia hib ?_
          rw [(State.fieldFound?_type hia (f5 x hx1)).1, (State.fieldFound?_type hib (f5 y hy1)).1]
          exact f6 x hx1 y hy1 hne
        have fin : ∀ (H1 : Heap), H1[a]? = some (cell.setSlot f.slot v) → H1.size = H.size → (∀ q, q ≠ a → H1[q]? = H[q]?) → W p l e R s m args below meth c H1 (locs ++ [⟨a, f.slot⟩]) (h.2.1 - c0) (h.2.2 - s0) Q (F0 m (pc + 3) ls r) := by
          intro H1 e1 z1 o1
          rw [hsl] at e1
          refine kk _ _ _ hl (hR.set q7 ⟨⟨_, f1, ?_, ?_⟩, q7⟩ z1 o1) (t_lc hlo q7)
          · show (fs.set _ v).length = _
            rw [List.length_set]; exact q2
          · exact t_OB.to (V := updV (vp_V fs) (ab_ax aux 1) v) ⟨_, e1, q4, q5, t_set q6 hap f2 v⟩ (fun j _ => vp_updV_set hlen v j)
        have hlay := f3 _ (u_in_lay f2)
        have hlt : f.slot < cell.slots.size := by rw [hsl]; exact k2_hasslot (q6 _ f2)
        rcases f8 with ⟨g1, g2⟩ | ⟨g1, g2, g3, g4⟩
        · unfold u_lay at hlay
          rw [if_neg (by rw [g1]; decide)] at hlay
          have h6 := u_store hfc hkC hkind hlay hi (f5 _ f2) hn hv
          rcases g2 with g2 | ⟨host, g2⟩
          · exact W.putK hx hb (f := f) ⟨hown, g2, ⟨_, _, _, f4 _ hi⟩, hst⟩ (by rw [q4]; exact h6) q3 q5 hlt rfl rfl hdg fin
          · exact va_WputK hx hb hown g2 (f4 _ hi) hst (by rw [q4]; exact h6) q3 q5 hlt rfl rfl hdg fin
        · unfold u_lay at hlay
          rw [if_pos g1] at hlay
          have hcf : m.cls = cf := by
            obtain ⟨_, _, c', _, _, _, -, -, hf', -, -, -, hown2, -⟩ := Cond.laysFinal_spec hlay
            have e1 : c' = cf := by have := hi.symm.trans hf'; simp at this; exact this.1.symm
            rw [g4] at hown2
            rw [← e1]; exact Option.some.inj (hown.symm.trans hown2)
          have h6 := u_fits hfc hkC hkind (Or.inr hlay) hi (f5 _ f2) hn hv
          exact W.putFinK hx hb hown g2 (f4 _ hi) hst hcf g3 (by rw [q4]; exact h6) q3 q5 hlt rfl rfl hdg fin
      · cases hf
    · cases hf
  · cases hf
theorem ab_dvt {t : Nat} {ty : FieldType} (h : ab_kt (t % 8) ty = true) : defaultValue ty = ab_dv (t % 8) := by
  generalize t % 8 = k at h ⊢
  match k, ty, h with
  | 0, .int, _ => rfl
  | 1, .boolean, _ => rfl
  | 2, .char, _ => rfl
  | 3, .long, _ => rfl
  | 4, .double, _ => rfl
  | 5, .float, _ => rfl
  | 6, .object _, _ => rfl
  | 6, .array _, _ => rfl
theorem ab_s_newarray {atype : ArrayType} (hx : p.tables.exec = Jvm.exec) (hb : c.code = cc) (hK : ab_Kn cl D E ks aty s) (ha : (Jvm.Cond.arrayClass (newarray.typeOf atype)).before args s = true ∧ ks (ab_ax aux 0) = true ∧ aty (ab_ax aux 0) = newarray.typeOf atype) (hc0 : c0 ≤ h.2.1) (hs0 : s0 ≤ h.2.2) (hRc : h'.2.1 - c0 ≤ R.cells) (hRs : h'.2.2 - s0 ≤ R.slots) (hdg : decode cc pc = .ok (.newarray atype, 2)) (hf : ab_f sv (.newarray atype, 2, aux) pc lo st h = some (.inl (pc', lo', st', h'))) (kk : ab_Wn cl D E ks base Hb nL p l e R s m args below meth c Q c0 s0 pc' lo' st' h') : ab_Wn cl D E ks base Hb nL p l e R s m args below meth c Q c0 s0 pc lo st h := by
  intro ls H locs hl hR hlo
  simp only [ab_f] at hf
  split at hf
  · rename_i n r
    split at hf
    · rename_i hn
      obtain ⟨rfl, rfl, rfl, rfl⟩ := ab_nx_inv hf
      obtain ⟨a1, a2, a3⟩ := ha
      have hRc : h.2.1 + 1 - c0 ≤ R.cells := hRc
      have hRs : h.2.2 + n.toNatClampNeg - s0 ≤ R.slots := hRs
      refine W.newa hx hb a1 rfl hdg rfl hn.1 ?_ (by omega) (by omega) fun cA kA comp k1 k2 k3 => ?_
      · have hcb : componentBytes (newarray.typeOf atype) ≤ 8 := by cases atype <;> decide
        have := Nat.mul_le_mul hn.2 hcb
        omega
      · have hE : cA = E (ab_ax aux 0) := Option.some.inj (k1.symm.trans (a3 ▸ (hK.2.1 _ a2).2.2))
        subst hE
        refine W.cs (show h.2.1 - c0 + 1 = h.2.1 + 1 - c0 by omega) (show h.2.2 - s0 + n.toNatClampNeg = h.2.2 + n.toNatClampNeg - s0 by omega) ?_
        rw [← hR.2.1]
        refine kk _ _ _ hl (hR.new (Or.inl ⟨a2, ?_, hR.1⟩) (by simp) (fun q hq => ?_)) hlo
        · have hd := ab_dvt (hK.2.1 _ a2).1
          rw [a3] at hd
          simp [← hd]
        · rw [Array.getElem?_push, if_neg (Nat.ne_of_lt hq)]
    · cases hf
  · cases hf
end ABH
end
section
/-! THE ABSTRACT MACHINE OVER THE KIT'S JUDGEMENT: what is made, casts, constants, statics, arraycopy, Object's constructor. -/
theorem ab_arrV (cI : ClassId) (xs : List Value) : ({ cls := cI, slots := xs.toArray, vm := .none } : Cell) = arrV cI xs.length (fun j => xs.getD j .null) := by
  show _ = ({ cls := cI, slots := Array.ofFn (n := xs.length) fun j => xs.getD j.val .null, vm := .none } : Cell)
  have h : xs.toArray = Array.ofFn (n := xs.length) fun j => xs.getD j.val .null := by
    apply Array.ext
    · simp
    · intro i h1 h2
      simp at h1
      simp [List.getD_eq_getElem?_getD, h1]
  rw [h]
theorem ab_cpy_len {f g : List Value} {sp dp n : Nat} (h1 : sp + n ≤ f.length) (h2 : dp + n ≤ g.length) : (ab_cpy f g sp dp n).length = g.length := by
  unfold ab_cpy
  simp
  omega
theorem ab_cpy_get {f g : List Value} {sp dp n : Nat} (h1 : sp + n ≤ f.length) (h2 : dp + n ≤ g.length) (k : Nat) : (ab_cpy f g sp dp n).getD k .null = va_cpy (fun j => f.getD j .null) (fun j => g.getD j .null) sp dp n k := by
  unfold ab_cpy va_cpy
  simp only [List.getD_eq_getElem?_getD]
  by_cases ha : k < dp
  · rw [List.getElem?_append_left (by simp; omega), if_neg (by omega), List.getElem?_take_of_lt ha]
  · rw [List.getElem?_append_right (by simp; omega)]
    have e1 : (List.take dp g).length = dp := by simp; omega
    rw [e1]
    by_cases hb : k < dp + n
    · rw [List.getElem?_append_left (by simp; omega), if_pos (by omega), List.getElem?_take_of_lt (by omega), List.getElem?_drop]
    · rw [List.getElem?_append_right (by simp; omega), if_neg (by omega), List.getElem?_drop]
      have e2 : (List.take n (List.drop sp f)).length = n := by simp; omega
      rw [e2]
      congr 2
      omega
theorem ab_copied (c0 c1 : ClassId) {f g : List Value} {sp dp n : Nat} (h1 : sp + n ≤ f.length) (h2 : dp + n ≤ g.length) : ({ cls := c1, slots := g.toArray, vm := .none } : Cell).storeRun dp (({ cls := c0, slots := f.toArray, vm := .none } : Cell).stretch sp n) = { cls := c1, slots := (ab_cpy f g sp dp n).toArray, vm := .none } := by
  rw [ab_arrV c0 f, ab_arrV c1 g, ab_arrV c1 (ab_cpy f g sp dp n), va_copied (fun z => z) c0 c1 (fun j => f.getD j .null) (fun j => g.getD j .null) h1, ab_cpy_len h1 h2]
  congr 1
  funext k
  exact (ab_cpy_get h1 h2 k).symm
theorem ab_nn (z : Int32) (hz : ¬ z < 0) : z.toInt = (z.toNatClampNeg : Int) := by
  have hz0 : (0 : Int) ≤ z.toInt := by
    have := Int32.not_lt.mp hz
    simpa using Int32.le_iff_toInt_le.mp this
  show z.toInt = ((z.toInt.toNat : Nat) : Int)
  omega
section ABM
variable {cl : List vw_C} {D : va_G} {E : Nat → ClassId} {ks : Nat → Bool} {aty : Nat → FieldType} {base : Nat} {Hb : Heap} {nL : Nat} {p : Program} {l : Launch} {e : Env} {R : Room} {s : State} {m : MethodId} {args : Array Value} {below : List Frame} {meth : Method} {c : Code} {Q : State → Prop} {c0 s0 : Nat} {sv : Nat → Value}
variable {cc : ByteArray} {pc pc' n' : Nat} {lo lo' : ab_L} {st st' : List Value} {h h' : ab_H} {aux : List Nat} {own : String}
theorem ab_s_ldc {idx : Nat} (hx : p.tables.exec = Jvm.exec) (hb : c.code = cc) (hK : ab_Kn cl D E ks aty s) (hown : s.vm.findClass own = some m.cls) (hw : (Jvm.Cond.constant own idx (Int32.ofNat (ab_ax aux 0))).before args s = true) (hdg : decode cc pc = .ok (.ldc idx, 2)) (hf : ab_f sv (.ldc idx, 2, aux) pc lo st h = some (.inl (pc', lo', st', h'))) (kk : ab_Wn cl D E ks base Hb nL p l e R s m args below meth c Q c0 s0 pc' lo' st' h') : ab_Wn cl D E ks base Hb nL p l e R s m args below meth c Q c0 s0 pc lo st h := by
  intro ls H locs hl hR hlo
  obtain ⟨rfl, rfl, rfl, rfl⟩ := ab_nx_inv hf
  exact lv_ldc hx hb hown hw hdg (kk _ _ _ hl hR hlo)
theorem ab_s_ldc_w {idx : Nat} (hx : p.tables.exec = Jvm.exec) (hb : c.code = cc) (hK : ab_Kn cl D E ks aty s) (hown : s.vm.findClass own = some m.cls) (hw : (Jvm.Cond.constant own idx (Int32.ofNat (ab_ax aux 0))).before args s = true) (hdg : decode cc pc = .ok (.ldc_w idx, 3)) (hf : ab_f sv (.ldc_w idx, 3, aux) pc lo st h = some (.inl (pc', lo', st', h'))) (kk : ab_Wn cl D E ks base Hb nL p l e R s m args below meth c Q c0 s0 pc' lo' st' h') : ab_Wn cl D E ks base Hb nL p l e R s m args below meth c Q c0 s0 pc lo st h := by
  intro ls H locs hl hR hlo
  obtain ⟨rfl, rfl, rfl, rfl⟩ := ab_nx_inv hf
  exact lv_ldcw hx hb hown hw hdg (kk _ _ _ hl hR hlo)
theorem ab_s_ldc2_w {idx : Nat} (hx : p.tables.exec = Jvm.exec) (hb : c.code = cc) (hK : ab_Kn cl D E ks aty s) (hown : s.vm.findClass own = some m.cls) (hw : if ab_ax aux 1 = 1 then (Jvm.Cond.constantLong own idx (Int64.ofNat (ab_ax aux 0))).before args s = true else (Jvm.Cond.constantDouble own idx (UInt64.ofNat (ab_ax aux 0))).before args s = true) (hdg : decode cc pc = .ok (.ldc2_w idx, 3)) (hf : ab_f sv (.ldc2_w idx, 3, aux) pc lo st h = some (.inl (pc', lo', st', h'))) (kk : ab_Wn cl D E ks base Hb nL p l e R s m args below meth c Q c0 s0 pc' lo' st' h') : ab_Wn cl D E ks base Hb nL p l e R s m args below meth c Q c0 s0 pc lo st h := by
  intro ls H locs hl hR hlo
  obtain ⟨rfl, rfl, rfl, rfl⟩ := ab_nx_inv hf
  have kk := kk _ _ _ hl hR hlo
  split at hw
  · rename_i e
    rw [if_pos e] at kk
    exact lv_ldc2 hx hb hown hw hdg kk
  · rename_i e
    rw [if_neg e] at kk
    exact lv_ldc2d hx hb hown hw hdg kk
/-- a static field that the code reads: what it held at the start, in a cell that nobody writes -/
def ab_gw (Hb : Heap) (base : Nat) (own : String) (s : State) (args : Array Value) (idx : Nat) (v : Value) : Prop := ∃ (ref n d : String) (cf i : Nat) (k : Class) (f : Field) (a : Nat) (cell : Cell), (Jvm.Cond.fieldLink own idx ref n d).before args s = true ∧ s.fieldFound? ref n d = some (cf, k, i, f) ∧ f.isStatic = true ∧ k.init = .initialized ∧ k.statics = some a ∧ a < base ∧ Hb[a]? = some cell ∧ cell.vm ≠ .unknown ∧ cell.slots[f.slot]? = some v
theorem ab_s_getstatic {idx : Nat} (hx : p.tables.exec = Jvm.exec) (hb : c.code = cc) (hK : ab_Kn cl D E ks aty s) (hown : s.vm.findClass own = some m.cls) (hw : ab_gw Hb base own s args idx (sv (ab_ax aux 0))) (hdg : decode cc pc = .ok (.getstatic idx, 3)) (hf : ab_f sv (.getstatic idx, 3, aux) pc lo st h = some (.inl (pc', lo', st', h'))) (kk : ab_Wn cl D E ks base Hb nL p l e R s m args below meth c Q c0 s0 pc' lo' st' h') : ab_Wn cl D E ks base Hb nL p l e R s m args below meth c Q c0 s0 pc lo st h := by
  intro ls H locs hl hR hlo
  obtain ⟨rfl, rfl, rfl, rfl⟩ := ab_nx_inv hf
  obtain ⟨ref, n, d, cf, i, k, f, a, cell, g1, g2, g3, g4, g5, g6, g7, g8, g9⟩ := hw
  exact W.gets hx hb hown g1 g2 g3 g4 g5 (by rw [hR.2.2.1 a g6]; exact g7) g8 g9 rfl hdg (kk _ _ _ hl hR hlo)
def ab_aw (own : String) (s : State) (args : Array Value) (aty : Nat → FieldType) (ks : Nat → Bool) (t idx : Nat) : Prop := ks t = true ∧ t % 8 = 6 ∧ ((∃ C : String, aty t = .object C ∧ (Jvm.Cond.classLink own idx C).before args s = true ∧ (Jvm.Cond.arrayOver (.object C)).before args s = true) ∨ (∃ u : FieldType, aty t = .array u ∧ (Jvm.Cond.classLink own idx (FieldType.array u).toString).before args s = true ∧ (Jvm.Cond.arrayOver (.array u)).before args s = true))
theorem ab_s_anewarray {idx : Nat} (hx : p.tables.exec = Jvm.exec) (hb : c.code = cc) (hK : ab_Kn cl D E ks aty s) (hown : s.vm.findClass own = some m.cls) (ha : ab_aw own s args aty ks (ab_ax aux 0) idx) (hc0 : c0 ≤ h.2.1) (hs0 : s0 ≤ h.2.2) (hRc : h'.2.1 - c0 ≤ R.cells) (hRs : h'.2.2 - s0 ≤ R.slots) (hdg : decode cc pc = .ok (.anewarray idx, 3)) (hf : ab_f sv (.anewarray idx, 3, aux) pc lo st h = some (.inl (pc', lo', st', h'))) (kk : ab_Wn cl D E ks base Hb nL p l e R s m args below meth c Q c0 s0 pc' lo' st' h') : ab_Wn cl D E ks base Hb nL p l e R s m args below meth c Q c0 s0 pc lo st h := by
  intro ls H locs hl hR hlo
  simp only [ab_f] at hf
  split at hf
  · rename_i n r
    split at hf
    · rename_i hn
      obtain ⟨rfl, rfl, rfl, rfl⟩ := ab_nx_inv hf
      obtain ⟨a1, a2, a3⟩ := ha
      have hRc : h.2.1 + 1 - c0 ≤ R.cells := hRc
      have hRs : h.2.2 + n.toNatClampNeg - s0 ≤ R.slots := hRs
      have fin : ∀ cA : ClassId, s.vm.findClass ("[" ++ (aty (ab_ax aux 0)).toString) = some cA → W p l e R s m args below meth c (H.push { cls := cA, slots := Array.replicate n.toNatClampNeg .null, vm := .none }) locs (h.2.1 - c0 + 1) (h.2.2 - s0 + n.toNatClampNeg) Q (F0 m (pc + 3) ls (.ref H.size :: r)) := by
        intro cA k1
        have hE : cA = E (ab_ax aux 0) := Option.some.inj (k1.symm.trans (hK.2.1 _ a1).2.2)
        subst hE
        refine W.cs (show h.2.1 - c0 + 1 = h.2.1 + 1 - c0 by omega) (show h.2.2 - s0 + n.toNatClampNeg = h.2.2 + n.toNatClampNeg - s0 by omega) ?_
        rw [← hR.2.1]
        refine kk _ _ _ hl (hR.new (Or.inl ⟨a1, ?_, hR.1⟩) (by simp) (fun q hq => ?_)) hlo
        · simp
        · rw [Array.getElem?_push, if_neg (Nat.ne_of_lt hq)]
      rcases a3 with ⟨C, b1, b2, b3⟩ | ⟨u, b1, b2, b3⟩
      · exact W.anew hx hb hown b2 b3 rfl hdg rfl hn.1 (by omega) (by omega) (by omega) fun cA kA comp k1 k2 k3 k4 => fin cA (by rw [b1]; exact k1)
      · exact W.anewA hx hb hown b2 b3 rfl hdg rfl hn.1 (by omega) (by omega) (by omega) fun cA kA comp k1 k2 k3 k4 => fin cA (by rw [b1]; exact k1)
    · cases hf
  · cases hf
/-- the words of 'new C' -/
def ab_nw (cl : List vw_C) (own : String) (s : State) (args : Array Value) (ci idx : Nat) (ts : List Nat) : Prop := ∃ (C : String) (T : u_T) (ty : Nat → FieldType), cl[ci]? = some (C, T, ts.length) ∧ (∀ w ∈ u_ws C T ts.length, w.before args s = true) ∧ (∀ j, j < ts.length → parseFieldDescriptor (T j).2.2.1 = some (ty j)) ∧ (∀ j k, ts[j]? = some k → defaultValue (ty j) = ab_dv k) ∧
  (Jvm.Cond.classLink own idx C).before args s = true ∧ (Jvm.Cond.instantiable C ts.length).before args s = true ∧ (Jvm.Cond.initialized C).before args s = true
theorem ab_s_new {idx ci : Nat} {ts : List Nat} (hx : p.tables.exec = Jvm.exec) (hb : c.code = cc) (hK : ab_Kn cl D E ks aty s) (hown : s.vm.findClass own = some m.cls) (hw : ab_nw cl own s args ci idx ts) (hc0 : c0 ≤ h.2.1) (hs0 : s0 ≤ h.2.2) (hRc : h'.2.1 - c0 ≤ R.cells) (hRs : h'.2.2 - s0 ≤ R.slots) (hdg : decode cc pc = .ok (.new idx, 3)) (hf : ab_f sv (.new idx, 3, 0 :: ci :: ts) pc lo st h = some (.inl (pc', lo', st', h'))) (kk : ab_Wn cl D E ks base Hb nL p l e R s m args below meth c Q c0 s0 pc' lo' st' h') : ab_Wn cl D E ks base Hb nL p l e R s m args below meth c Q c0 s0 pc lo st h := by
  intro ls H locs hl hR hlo
  obtain ⟨rfl, rfl, rfl, rfl⟩ := ab_nx_inv hf
  obtain ⟨C, T, ty, f1, f2, f3, f4, f5, f6, f7⟩ := hw
  have hKn := hK.1 _ _ f1
  have hRc : h.2.1 + 1 - c0 ≤ R.cells := hRc
  have hRs : h.2.2 + ts.length - s0 ≤ R.slots := hRs
  refine W.newcK hx hb hown f5 f6 f7 rfl hdg (by omega) (by omega) hKn.2.1 rfl fun H1 kC hkC e1 z1 o1 => ?_
  refine W.cs (show h.2.1 - c0 + 1 = h.2.1 + 1 - c0 by omega) (show h.2.2 - s0 + ts.length = h.2.2 + ts.length - s0 by omega) ?_
  rw [← hR.2.1]
  refine kk _ _ _ hl (hR.new ⟨⟨_, f1, by simp, (u_born ty f2 (fun w h => h) hKn hkC e1 f3).to (fun j hj => ?_)⟩, hR.1⟩ z1 o1) hlo
  have hj2 : ts[j]? = some ts[j] := by simp
  rw [f4 j _ hj2]
  simp [vp_V, List.getD_eq_getElem?_getD, hj2]
def ab_kw (cl : List vw_C) (own : String) (s : State) (args : Array Value) (ci idx : Nat) : Prop := ∃ (q : vw_C) (nm : String), cl[ci]? = some q ∧ (Jvm.Cond.classLink own idx nm).before args s = true ∧ va_Nw (.castable q.1 nm) s
theorem ab_s_checkcast {idx : Nat} (hx : p.tables.exec = Jvm.exec) (hb : c.code = cc) (hK : ab_Kn cl D E ks aty s) (hown : s.vm.findClass own = some m.cls) (hw : ab_kw cl own s args (ab_ax aux 0) idx) (hdg : decode cc pc = .ok (.checkcast idx, 3)) (hf : ab_f sv (.checkcast idx, 3, aux) pc lo st h = some (.inl (pc', lo', st', h'))) (kk : ab_Wn cl D E ks base Hb nL p l e R s m args below meth c Q c0 s0 pc' lo' st' h') : ab_Wn cl D E ks base Hb nL p l e R s m args below meth c Q c0 s0 pc lo st h := by
  intro ls H locs hl hR hlo
  simp only [ab_f] at hf
  split at hf
  · rename_i a r
    split at hf
    · rename_i ci fs hc
      split at hf
      · rename_i hci
        obtain ⟨rfl, rfl, rfl, rfl⟩ := ab_nx_inv hf
        subst hci
        obtain ⟨q, nm, f1, f2, f3⟩ := hw
        obtain ⟨⟨r0, q1, q2, cell, q3, q4, q5, q6⟩, q7⟩ := hR.2.2.2 _ _ hc
        have hr : r0 = q := Option.some.inj (q1.symm.trans f1)
        subst hr
        exact va_castY hx hb hown f2 f3 ⟨cell, q3, by rw [q5]; rfl, by rw [q4]; exact (hK.1 _ _ f1).2.1⟩ hdg (kk _ _ _ hl hR hlo)
      · cases hf
    · cases hf
  · cases hf
def ab_ow (own : String) (s : State) (args : Array Value) (idx : Nat) : Prop := (Jvm.Cond.methodLink own idx Lib.objectInit).before args s = true ∧ (Jvm.Cond.instanceMethod Lib.objectInit).before args s = true ∧ (Jvm.Cond.code Lib.objectInit ⟨#[0xb1]⟩ 1 none).before args s = true
theorem ab_s_objinit {idx : Nat} (hx : p.tables.exec = Jvm.exec) (hb : c.code = cc) (hK : ab_Kn cl D E ks aty s) (hown : s.vm.findClass own = some m.cls) (hml : c.maxLocals = nL) (hRf : 1 ≤ R.frames) (hRl : 60 ≤ R.locals) (hw : ab_ow own s args idx) (hdg : decode cc pc = .ok (.invokespecial idx, 3)) (hf : ab_f sv (.invokespecial idx, 3, [0]) pc lo st h = some (.inl (pc', lo', st', h'))) (kk : ab_Wn cl D E ks base Hb nL p l e R s m args below meth c Q c0 s0 pc' lo' st' h') : ab_Wn cl D E ks base Hb nL p l e R s m args below meth c Q c0 s0 pc lo st h := by
  intro ls H locs hl hR hlo
  simp only [ab_f] at hf
  split at hf
  · split at hf
    · rename_i r hsum
      have hsum : (r.map fun v => v.category).sum ≤ 8 := hsum
      obtain ⟨rfl, rfl, rfl, rfl⟩ := ab_nx_inv hf
      exact W.objInit hx hb hown hw.1 hw.2.1 hw.2.2 rfl (hl.2.1.trans hml.symm) rfl hdg hRf (by show 2 * 0 + _ + 12 ≤ R.locals; omega) (kk _ _ _ hl hR hlo)
    · cases hf
  · cases hf
def ab_cw (own : String) (s : State) (args : Array Value) (idx : Nat) : Prop := (Jvm.Cond.methodLink own idx arraycopyName).before args s = true ∧ (Jvm.Cond.native arraycopyName).before args s = true ∧ (Jvm.Cond.static arraycopyName).before args s = true ∧ (Jvm.Cond.initialized "java/lang/System").before args s = true
set_option maxHeartbeats 1000000 in
def ab_minw (own : String) (s : State) (args : Array Value) (idx : Nat) : Prop := (Jvm.Cond.methodLink own idx Lib.Math.min.name).before args s = true ∧ (Jvm.Cond.static Lib.Math.min.name).before args s = true ∧ (Jvm.Cond.initialized "java/lang/Math").before args s = true ∧ (Jvm.Cond.code Lib.Math.min.name Lib.Math.min.code 2 (some .int)).before args s = true
theorem ab_s_mmin {idx : Nat} (hx : p.tables.exec = Jvm.exec) (hb : c.code = cc) (hown : s.vm.findClass own = some m.cls) (hml : c.maxLocals = nL) (hRf : 1 ≤ R.frames) (hRl : 60 ≤ R.locals) (hRc : h'.2.1 - c0 ≤ R.cells) (hRs : h'.2.2 - s0 ≤ R.slots) (hw : ab_minw own s args idx) (hdg : decode cc pc = .ok (.invokestatic idx, 3)) (hf : ab_f sv (.invokestatic idx, 3, [2]) pc lo st h = some (.inl (pc', lo', st', h'))) (kk : ab_Wn cl D E ks base Hb nL p l e R s m args below meth c Q c0 s0 pc' lo' st' h') : ab_Wn cl D E ks base Hb nL p l e R s m args below meth c Q c0 s0 pc lo st h := by
  intro ls H locs hl hR hlo
  simp only [ab_f] at hf
  split at hf
  · rename_i y x r
    split at hf
    · rename_i hs
      have hs : (r.map fun v => v.category).sum ≤ 8 := hs
      obtain ⟨rfl, rfl, rfl, rfl⟩ := ab_nx_inv hf
      obtain ⟨w1, w2, w3, w4⟩ := hw
      exact va_mmin hx hb (hml.trans hl.2.1.symm) hown w1 w2 w3 w4 hRf (by omega) hRc hRs hdg (kk _ _ _ hl hR hlo)
    · cases hf
  · cases hf
def ab_maxw (own : String) (s : State) (args : Array Value) (idx : Nat) : Prop := (Jvm.Cond.methodLink own idx Lib.Math.max.name).before args s = true ∧ (Jvm.Cond.static Lib.Math.max.name).before args s = true ∧ (Jvm.Cond.initialized "java/lang/Math").before args s = true ∧ (Jvm.Cond.code Lib.Math.max.name Lib.Math.max.code 2 (some .int)).before args s = true
theorem ab_s_mmax {idx : Nat} (hx : p.tables.exec = Jvm.exec) (hb : c.code = cc) (hown : s.vm.findClass own = some m.cls) (hml : c.maxLocals = nL) (hRf : 1 ≤ R.frames) (hRl : 60 ≤ R.locals) (hRc : h'.2.1 - c0 ≤ R.cells) (hRs : h'.2.2 - s0 ≤ R.slots) (hw : ab_maxw own s args idx) (hdg : decode cc pc = .ok (.invokestatic idx, 3)) (hf : ab_f sv (.invokestatic idx, 3, [3]) pc lo st h = some (.inl (pc', lo', st', h'))) (kk : ab_Wn cl D E ks base Hb nL p l e R s m args below meth c Q c0 s0 pc' lo' st' h') : ab_Wn cl D E ks base Hb nL p l e R s m args below meth c Q c0 s0 pc lo st h := by
  intro ls H locs hl hR hlo
  simp only [ab_f] at hf
  split at hf
  · rename_i y x r
    split at hf
    · rename_i hs
      have hs : (r.map fun v => v.category).sum ≤ 8 := hs
      obtain ⟨rfl, rfl, rfl, rfl⟩ := ab_nx_inv hf
      obtain ⟨w1, w2, w3, w4⟩ := hw
      exact va_mmax hx hb (hml.trans hl.2.1.symm) hown w1 w2 w3 w4 hRf (by omega) hRc hRs hdg (kk _ _ _ hl hR hlo)
    · cases hf
  · cases hf
theorem ab_s_arraycopy {idx : Nat} (hx : p.tables.exec = Jvm.exec) (hb : c.code = cc) (hK : ab_Kn cl D E ks aty s) (hown : s.vm.findClass own = some m.cls) (hml : c.maxLocals = nL) (hRf : 1 ≤ R.frames) (hRl : 60 ≤ R.locals) (hw : ab_cw own s args idx) (hdg : decode cc pc = .ok (.invokestatic idx, 3)) (hf : ab_f sv (.invokestatic idx, 3, [1]) pc lo st h = some (.inl (pc', lo', st', h'))) (kk : ab_Wn cl D E ks base Hb nL p l e R s m args below meth c Q c0 s0 pc' lo' st' h') : ab_Wn cl D E ks base Hb nL p l e R s m args below meth c Q c0 s0 pc lo st h := by
  intro ls H locs hl hR hlo
  simp only [ab_f] at hf
  split at hf
  · rename_i n dp a1 sp a0 r
    split at hf
    · rename_i t0 f t1 g hc0 hc1
      split at hf
      · rename_i hok
        obtain ⟨rfl, rfl, rfl, rfl⟩ := ab_nx_inv hf
        obtain ⟨ht, h1, h2, h3, h4, h5, h6, h7⟩ := hok
        have h6 : (r.map fun v => v.category).sum ≤ 8 := h6
        obtain ⟨w1, w2, w3, w4⟩ := hw
        obtain ⟨cx, x1, -, -, -, -, x9⟩ := ab_ar hK (hR.2.2.2 _ _ hc0)
        obtain ⟨rfl, x2, -⟩ := x9 (by omega)
        obtain ⟨cy, y1, -, -, -, -, y9⟩ := ab_ar hK (hR.2.2.2 _ _ hc1)
        obtain ⟨rfl, y2, hba⟩ := y9 (by omega)
        obtain ⟨-, k0, hk0, cm0, hkk0⟩ := ab_arr hK x2 f
        obtain ⟨-, k1, hk1, cm1, hkk1⟩ := ab_arr hK y2 g
        have hty : ((refKind (aty t0) != refKind (aty t1)) || (!refKind (aty t0) && aty t0 != aty t1)) = false := by
          rcases ht with ⟨e1, e2⟩ | ⟨e1, e2⟩
          · have g0 := ab_kt0 (by have := (hK.2.1 t0 x2).1; rw [e2] at this; rw [e2]; exact this : ab_kt 0 (aty t0) = true)
            have g1 := ab_kt0 (by have := (hK.2.1 t1 y2).1; rw [e1] at this; rw [e1]; exact this : ab_kt 0 (aty t1) = true)
            rw [g0, g1]; rfl
          · rw [e1, e2]
            have g1 := ab_kt6 (by have := (hK.2.1 t1 y2).1; rw [e1] at this; exact this : ab_kt 6 (aty 6) = true)
            cases hq : aty 6 <;> rw [hq] at g1 <;> first | rfl | (exact absurd g1 (by simp [ab_kt])) | (simp [refKind])
        intro T hT X
        obtain ⟨vm', X', step⟩ := X.arraycopy hx hown w1 w2 w3 w4 (src := a0) (dst := a1) (srcPos := sp) (destPos := dp) (n := n) (by rw [hT]; exact x1) (by rw [hT]; exact y1)
          (fun _ h => by cases h) (fun _ h => by cases h) (fun h => by cases h) (fun h => by cases h) hk0 hk1 hkk0 hkk1 hty h1 h2 h3
          (by rw [ab_nn sp h1, ab_nn n h3]; simp; omega) (by rw [ab_nn dp h2, ab_nn n h3]; simp; omega)
          (fun vm₁ hal i hi => by
            have hv : f[sp.toNatClampNeg + i]? = some f[sp.toNatClampNeg + i] := by simp
            generalize f[sp.toNatClampNeg + i]'(by omega) = v at hv
            have hmem : v ∈ (f.drop sp.toNatClampNeg).take n.toNatClampNeg := by
              apply List.mem_of_getElem? (i := i)
              rw [List.getElem?_take_of_lt hi, List.getElem?_drop]
              exact hv
            have h8 := List.all_eq_true.mp h7 v hmem
            have e : f.toArray.getD (sp.toNatClampNeg + i) .null = v := by
              rw [Array.getD_eq_getD_getElem?]
              simp [hv]
            show fits _ (f.toArray.getD (sp.toNatClampNeg + i) .null) = true ∧ State.takes _ _ (f.toArray.getD (sp.toNatClampNeg + i) .null)
            rw [e]
            simp only [Bool.and_eq_true] at h8
            rcases ht with ⟨e1, e2⟩ | ⟨e1, e2⟩
            · subst e1
              obtain ⟨x, rfl⟩ := ab_fit0 h8.1
              exact ⟨(ab_kt_fits (hK.2.1 0 y2).1 h8.1).2, trivial⟩
            · subst e1
              have hfit := (ab_kt_fits (hK.2.1 6 y2).1 h8.1).2
              have hel : ab_el h 6 v = true := by simpa using h8.2
              obtain ⟨kA, kc, comp, z1, z2, z3, z4, z5, z6, z7⟩ := hK.2.2.1 6 y2 rfl (by omega)
              cases hk1.symm.trans z1
              cases hkk1.symm.trans z2
              rcases ab_fit6 h8.1 with rfl | ⟨y, rfl⟩
              · exact ⟨hfit, trivial⟩
              · have hel : ab_el2 6 (h.1 y) = true := hel
                cases hcb : h.1 y with
                | none => rw [hcb] at hel; cases hel
                | some d =>
                  rw [hcb] at hel
                  cases d with
                  | inl q => exact absurd hel (by simp [ab_el2])
                  | inr q =>
                    obtain ⟨ci, fs⟩ := q
                    obtain ⟨⟨r0, q1, q2, cell, q3, q4, q5, q6⟩, q7⟩ := hR.2.2.2 _ _ hcb
                    obtain ⟨-, hfc, kC, hkC, -⟩ := hK.1 ci r0 q1
                    obtain ⟨kC', hkC', -⟩ := hal.2.2 _ _ hkC
                    obtain ⟨kE', hkE', -⟩ := hal.2.2 _ _ z3
                    refine ⟨hfit, cell, (show T.heap[y]? = some cell by rw [hT]; exact q3), (fun q h => by rw [q5] at h; cases h), ⟨kC', by show vm₁.classes[cell.cls]? = _; rw [q4]; exact hkC'⟩, ⟨kE', hkE'⟩, ?_⟩
                    show vm₁.assignable cell.cls _ = true
                    rw [hal.assignable, q4]
                    exact z7 rfl ci r0 q1)
          (g := F0 m pc ls (.int n :: .int dp :: .ref a1 :: .int sp :: .ref a0 :: r)) rfl (hl.2.1.trans hml.symm) (rest := r) rfl (by rw [hb]; exact hdg) hRf (by show 2 * 0 + _ + _ ≤ _; have hw : nativeFrameWords "java/lang/System" "arraycopy" 5 ≤ 20 := (by decide); omega)
        have e1 : copied ({ cls := E t0, slots := f.toArray, vm := .none } : Cell) ({ cls := E t1, slots := g.toArray, vm := .none } : Cell) sp dp n = { cls := E t1, slots := (ab_cpy f g sp.toNatClampNeg dp.toNatClampNeg n.toNatClampNeg).toArray, vm := .none } := ab_copied _ _ h4 h5
        rw [e1] at X' step
        have hl9 : a1 < H.size := (Array.getElem?_eq_some_iff.mp y1).1
        generalize hcell : ({ cls := E t1, slots := (ab_cpy f g sp.toNatClampNeg dp.toNatClampNeg n.toNatClampNeg).toArray, vm := .none } : Cell) = cell9 at X' step
        have hheap : ((T.setVm vm').setCell a1 cell9).heap = H.setIfInBounds a1 cell9 := by rw [← hT]; rfl
        have oq : ∀ q : Nat, q ≠ a1 → (H.setIfInBounds a1 cell9)[q]? = H[q]? := fun q hq => by simp [Array.getElem?_setIfInBounds, Ne.symm hq]
        obtain ⟨t, b1, b2⟩ := kk _ _ _ hl (hR.set hba (Or.inl ⟨y2, (show (H.setIfInBounds a1 cell9)[a1]? = some _ by rw [hcell]; simp [Array.getElem?_setIfInBounds, hl9]), hba⟩) (by simp) oq) (fun q hq => by
          rcases List.mem_append.mp hq with h9 | h9
          · exact hlo q h9
          · obtain ⟨z, -, hz⟩ := List.mem_map.mp h9
            rw [← hz]
            exact hba) _ hheap X'
        exact ⟨t, step t b1, b2⟩
      · cases hf
    · cases hf
  · cases hf
theorem ab_outer (c : ClassId) (N h0 : Nat) : ∀ i : Nat, Jvm.Free.Multi.outerC c N h0 i = { cls := c, slots := ((List.range N).map fun j => if j < i then Value.ref (h0 + 1 + j) else .null).toArray, vm := .none }
  | 0 => by
    show ({ cls := c, slots := Array.replicate N .null, vm := .none } : Cell) = _
    have e : (List.range N).map (fun j => if j < 0 then Value.ref (h0 + 1 + j) else .null) = List.replicate N .null := by
      apply List.ext_getElem <;> simp
    rw [e]; simp
  | i + 1 => by
    show (Jvm.Free.Multi.outerC c N h0 i).setSlot i (.ref (h0 + 1 + i)) = _
    rw [ab_outer c N h0 i, ab_set_list]
    congr 2
    apply List.ext_getElem
    · simp
    · intro j h1 h2
      simp at h1
      rw [List.getElem_set]
      by_cases hj : i = j
      · subst hj; simp
      · have hj2 : (j < i) = (j < i + 1) := propext ⟨fun q => by omega, fun q => by omega⟩
        simp [hj, hj2]
theorem ab_s_multianewarray {idx : Nat} (hx : p.tables.exec = Jvm.exec) (hb : c.code = cc) (hK : ab_Kn cl D E ks aty s) (hown : s.vm.findClass own = some m.cls) (hw : ks 0 = true ∧ ks 14 = true ∧ aty 0 = .int ∧ aty 14 = .array .int ∧ (Jvm.Cond.classLink own idx ("[" ++ (FieldType.array .int).toString)).before args s = true ∧ (Jvm.Cond.arrayOver (.array .int)).before args s = true ∧ (Jvm.Cond.arrayClass .int).before args s = true) (hc0 : c0 ≤ h.2.1) (hs0 : s0 ≤ h.2.2) (hRc : h'.2.1 - c0 ≤ R.cells) (hRs : h'.2.2 - s0 ≤ R.slots) (hdg : decode cc pc = .ok (.multianewarray idx 2, 4)) (hf : ab_f sv (.multianewarray idx 2, 4, aux) pc lo st h = some (.inl (pc', lo', st', h'))) (kk : ab_Wn cl D E ks base Hb nL p l e R s m args below meth c Q c0 s0 pc' lo' st' h') : ab_Wn cl D E ks base Hb nL p l e R s m args below meth c Q c0 s0 pc lo st h := by
  intro ls H locs hl hR hlo
  simp only [ab_f] at hf
  split at hf
  · rename_i k n r
    split at hf
    · rename_i hok
      obtain ⟨rfl, rfl, rfl, rfl⟩ := ab_nx_inv hf
      obtain ⟨hn, hk, hn2, hk2⟩ := hok
      obtain ⟨w1, w2, w3, w4, w5, w6, w7⟩ := hw
      have hRc : h.2.1 + (1 + n.toNatClampNeg) - c0 ≤ R.cells := hRc
      have hRs : h.2.2 + (n.toNatClampNeg + n.toNatClampNeg * k.toNatClampNeg) - s0 ≤ R.slots := hRs
      intro T hT Xs
      obtain ⟨vm₁, cA, comp, -, fA, fC, hO, -, X', step⟩ := Xs.multianewarray2F hx hown w5 w6 w7 (g := F0 m pc ls (.int k :: .int n :: r)) rfl (by rw [hb]; exact hdg) rfl hn hk (by omega) (by show _ * 4 ≤ _; omega) (by omega) rfl rfl (by omega) (by omega)
      have eA : cA = E 14 := by
        have h9 := (hK.2.1 14 w2).2.2
        rw [w4] at h9
        exact Option.some.inj (fA.symm.trans h9)
      have eC : comp = E 0 := by
        have h9 := (hK.2.1 0 w1).2.2
        rw [w3] at h9
        exact Option.some.inj (fC.symm.trans h9)
      subst eA; subst eC
      generalize hF : Jvm.Free.Multi.fill (T.setVm vm₁) (E 14) (E 0) n.toNatClampNeg k.toNatClampNeg (defaultValue .int) n.toNatClampNeg = F at X' step
      have hTh : (T.setVm vm₁).heap = H := hT
      obtain ⟨f1, f2, -, -⟩ := Jvm.Free.Multi.fill_facts (T.setVm vm₁) (E 14) (E 0) n.toNatClampNeg k.toNatClampNeg (defaultValue .int) n.toNatClampNeg
      rw [hF, hTh] at f1 f2
      have hold : ∀ x : Nat, x < H.size → F.heap[x]? = H[x]? := fun x hx => by
        have := Jvm.Free.Multi.fill_old (T.setVm vm₁) (E 14) (E 0) n.toNatClampNeg k.toNatClampNeg (defaultValue .int) (a := x) (by rw [hTh]; exact hx) n.toNatClampNeg
        rw [hF, hTh] at this
        exact this
      have hrow : ∀ j : Nat, j < n.toNatClampNeg → F.heap[H.size + 1 + j]? = some { cls := E 0, slots := (List.replicate k.toNatClampNeg (Value.int 0)).toArray, vm := .none } := fun j hj => by
        have := Jvm.Free.Multi.fill_inner (T.setVm vm₁) (E 14) (E 0) n.toNatClampNeg k.toNatClampNeg (defaultValue .int) n.toNatClampNeg j hj
        rw [hF, hTh] at this
        rw [this]
        simp [Jvm.Free.Multi.innerC, defaultValue]
      rw [ab_outer] at f2
      obtain ⟨r1, r2, r3, r4⟩ := hR
      have hnew : ab_Rl cl D E ks base Hb (ab_mu h n.toNatClampNeg k.toNatClampNeg) F.heap := by
        refine ⟨by omega, by show h.2.1 + (1 + n.toNatClampNeg) = _; omega, fun q hq => (hold q (by omega)).trans (r3 q hq), fun a d hd => ?_⟩
        have h9 : (if a = h.2.1 then some (Sum.inl (14, (List.range n.toNatClampNeg).map fun i => Value.ref (h.2.1 + 1 + i))) else if h.2.1 < a ∧ a < h.2.1 + 1 + n.toNatClampNeg then some (Sum.inl (0, List.replicate k.toNatClampNeg (Value.int 0))) else h.1 a) = some d := hd
        by_cases ha : a = h.2.1
        · rw [if_pos ha] at h9
          rw [← Option.some.inj h9, ha]
          refine Or.inl ⟨w2, ?_, by omega⟩
          rw [r2, f2]
          congr 3
          apply List.map_congr_left
          intro j hj
          rw [if_pos (List.mem_range.mp hj)]
        · rw [if_neg ha] at h9
          by_cases hb2 : h.2.1 < a ∧ a < h.2.1 + 1 + n.toNatClampNeg
          · rw [if_pos hb2] at h9
            rw [← Option.some.inj h9]
            refine Or.inl ⟨w1, ?_, by omega⟩
            have := hrow (a - (H.size + 1)) (by omega)
            rw [show H.size + 1 + (a - (H.size + 1)) = a by omega] at this
            exact this
          · rw [if_neg hb2] at h9
            have h8 := r4 a d h9
            exact h8.kept (hold a h8.lt)
      have kk2 := kk ls F.heap locs hl hnew hlo
      have e1 : (ab_mu h n.toNatClampNeg k.toNatClampNeg).2.1 - c0 = h.2.1 - c0 + (1 + n.toNatClampNeg) := by show h.2.1 + (1 + n.toNatClampNeg) - c0 = _; omega
      have e2 : (ab_mu h n.toNatClampNeg k.toNatClampNeg).2.2 - s0 = h.2.2 - s0 + (n.toNatClampNeg + n.toNatClampNeg * k.toNatClampNeg) := by show h.2.2 + (n.toNatClampNeg + n.toNatClampNeg * k.toNatClampNeg) - s0 = _; omega
      rw [e1, e2] at kk2
      obtain ⟨t, a1, b1⟩ := kk2 F rfl (by first | exact X' | (rw [Nat.add_assoc, Nat.add_assoc] at X'; exact X') | (simpa [Nat.add_assoc] using X'))
      refine ⟨t, step t ?_, b1⟩
      have e : T.heap.size = H.size := by rw [hT]
      rw [e, ← r2]
      exact a1
    · cases hf
  · cases hf
end ABM
end
section
/-! ONE STEP OF THE ABSTRACT MACHINE IS ONE OF THE MACHINE: all instructions that are no call and no end. -/
def ab_ln : ClassFile.Instr → Nat
  | .bipush _ => 2
  | .ldc _ => 2
  | .iload _ => 2
  | .lload _ => 2
  | .dload _ => 2
  | .aload _ => 2
  | .istore _ => 2
  | .lstore _ => 2
  | .dstore _ => 2
  | .astore _ => 2
  | .newarray _ => 2
  | .sipush _ => 3
  | .ldc_w _ => 3
  | .ldc2_w _ => 3
  | .iinc _ _ => 3
  | .ifCond _ _ => 3
  | .if_icmp _ _ => 3
  | .ifnull _ => 3
  | .ifnonnull _ => 3
  | .if_acmp _ _ => 3
  | .goto _ => 3
  | .getfield _ => 3
  | .putfield _ => 3
  | .getstatic _ => 3
  | .anewarray _ => 3
  | .new _ => 3
  | .checkcast _ => 3
  | .invokespecial _ => 3
  | .invokevirtual _ => 3
  | .invokestatic _ => 3
  | .multianewarray _ _ => 4
  | .tableswitch _ _ _ _ => 0
  | .lookupswitch _ _ => 0
  | _ => 1
def ab_lnok (i : ab_I) : Bool := ab_ln i.1 == 0 || i.2.1 == ab_ln i.1
def ab_okS (cl : List vw_C) (aty : Nat → FieldType) (ks : Nat → Bool) (Hb : Heap) (base : Nat) (sv : Nat → Value) (own : String) (s : State) (args : Array Value) (meth : Method) (i : ab_I) : Prop := match i.1 with
  | .ldc idx => (Jvm.Cond.constant own idx (Int32.ofNat (ab_ax i.2.2 0))).before args s = true
  | .ldc_w idx => (Jvm.Cond.constant own idx (Int32.ofNat (ab_ax i.2.2 0))).before args s = true
  | .ldc2_w idx => if ab_ax i.2.2 1 = 1 then (Jvm.Cond.constantLong own idx (Int64.ofNat (ab_ax i.2.2 0))).before args s = true else (Jvm.Cond.constantDouble own idx (UInt64.ofNat (ab_ax i.2.2 0))).before args s = true
  | .getstatic idx => ab_gw Hb base own s args idx (sv (ab_ax i.2.2 0))
  | .getfield idx => ab_fw cl own s args (ab_ax i.2.2 0) (ab_ax i.2.2 1) idx
  | .putfield idx => ab_pw cl own s args meth (ab_ax i.2.2 0) (ab_ax i.2.2 1) (ab_ax i.2.2 2) idx
  | .newarray at_ => (Jvm.Cond.arrayClass (newarray.typeOf at_)).before args s = true ∧ ks (ab_ax i.2.2 0) = true ∧ aty (ab_ax i.2.2 0) = newarray.typeOf at_
  | .anewarray idx => ab_aw own s args aty ks (ab_ax i.2.2 0) idx
  | .multianewarray idx d => d = 2 ∧ ks 0 = true ∧ ks 14 = true ∧ aty 0 = .int ∧ aty 14 = .array .int ∧ (Jvm.Cond.classLink own idx ("[" ++ (FieldType.array .int).toString)).before args s = true ∧ (Jvm.Cond.arrayOver (.array .int)).before args s = true ∧ (Jvm.Cond.arrayClass .int).before args s = true
  | .new idx => ∀ (ci : Nat) (ts : List Nat), i.2.2 = 0 :: ci :: ts → ab_nw cl own s args ci idx ts
  | .checkcast idx => ab_kw cl own s args (ab_ax i.2.2 0) idx
  | .invokespecial idx => i.2.2 = [0] → ab_ow own s args idx
  | .invokestatic idx => (i.2.2 = [1] → ab_cw own s args idx) ∧ (i.2.2 = [2] → ab_minw own s args idx) ∧ (i.2.2 = [3] → ab_maxw own s args idx)
  | .lookupswitch _ ps => (ps.toList.zip (ps.toList.drop 1)).all (fun (a, next) => a.1 < next.1) = true
  | _ => True
theorem ab_call_ne {y na pc : Nat} {hd : List Nat} {l : ab_L} {st : List Value} {h : ab_H} {x : Nat × ab_L × List Value × ab_H} : ab_call y na pc hd l st h ≠ some (.inl x) := by
  unfold ab_call
  split <;> intro q <;> cases q
set_option maxHeartbeats 4000000 in
theorem ab_step {cl : List vw_C} {D : va_G} {E : Nat → ClassId} {ks : Nat → Bool} {aty : Nat → FieldType} {base : Nat} {Hb : Heap} {nL : Nat} {p : Program} {l : Launch} {e : Env} {R : Room} {s : State} {m : MethodId} {args : Array Value} {below : List Frame} {meth : Method} {c : Code} {Q : State → Prop} {c0 s0 : Nat} {sv : Nat → Value}
    {cc : ByteArray} {pc pc' : Nat} {lo lo' : ab_L} {st st' : List Value} {h h' : ab_H} {own : String} {i : ab_I} (hx : p.tables.exec = Jvm.exec) (hb : c.code = cc) (hml : c.maxLocals = nL) (hK : ab_Kn cl D E ks aty s) (hown : s.vm.findClass own = some m.cls) (hRf : 1 ≤ R.frames) (hRl : 60 ≤ R.locals)
    (hc0 : c0 ≤ h.2.1) (hs0 : s0 ≤ h.2.2) (hRc : h'.2.1 - c0 ≤ R.cells) (hRs : h'.2.2 - s0 ≤ R.slots) (hdg : decode cc pc = .ok (i.1, i.2.1)) (hln : ab_lnok i = true) (hok : ab_okS cl aty ks Hb base sv own s args meth i)
    (hf : ab_f sv i pc lo st h = some (.inl (pc', lo', st', h'))) (kk : ab_Wn cl D E ks base Hb nL p l e R s m args below meth c Q c0 s0 pc' lo' st' h') : ab_Wn cl D E ks base Hb nL p l e R s m args below meth c Q c0 s0 pc lo st h := by
  obtain ⟨I, len, aux⟩ := i
  change decode cc pc = .ok (I, len) at hdg
  cases I
  case aconst_null =>
    have hlen : len = 1 := by simpa [ab_lnok, ab_ln] using hln
    subst hlen
    exact ab_s_aconst_null hx hb hdg hf kk
  case iconst a1 =>
    have hlen : len = 1 := by simpa [ab_lnok, ab_ln] using hln
    subst hlen
    exact ab_s_iconst hx hb hdg hf kk
  case dconst a1 =>
    have hlen : len = 1 := by simpa [ab_lnok, ab_ln] using hln
    subst hlen
    exact ab_s_dconst hx hb hdg hf kk
  case lconst a1 =>
    have hlen : len = 1 := by simpa [ab_lnok, ab_ln] using hln
    subst hlen
    exact ab_s_lconst hx hb hdg hf kk
  case iload_n a1 =>
    have hlen : len = 1 := by simpa [ab_lnok, ab_ln] using hln
    subst hlen
    exact ab_s_iload_n hx hb hdg hf kk
  case lload_n a1 =>
    have hlen : len = 1 := by simpa [ab_lnok, ab_ln] using hln
    subst hlen
    exact ab_s_lload_n hx hb hdg hf kk
  case dload_n a1 =>
    have hlen : len = 1 := by simpa [ab_lnok, ab_ln] using hln
    subst hlen
    exact ab_s_dload_n hx hb hdg hf kk
  case aload_n a1 =>
    have hlen : len = 1 := by simpa [ab_lnok, ab_ln] using hln
    subst hlen
    exact ab_s_aload_n hx hb hdg hf kk
  case istore_n a1 =>
    have hlen : len = 1 := by simpa [ab_lnok, ab_ln] using hln
    subst hlen
    exact ab_s_istore_n hx hb hdg hf kk
  case lstore_n a1 =>
    have hlen : len = 1 := by simpa [ab_lnok, ab_ln] using hln
    subst hlen
    exact ab_s_lstore_n hx hb hdg hf kk
  case dstore_n a1 =>
    have hlen : len = 1 := by simpa [ab_lnok, ab_ln] using hln
    subst hlen
    exact ab_s_dstore_n hx hb hdg hf kk
  case astore_n a1 =>
    have hlen : len = 1 := by simpa [ab_lnok, ab_ln] using hln
    subst hlen
    exact ab_s_astore_n hx hb hdg hf kk
  case iadd =>
    have hlen : len = 1 := by simpa [ab_lnok, ab_ln] using hln
    subst hlen
    exact ab_s_iadd hx hb hdg hf kk
  case isub =>
    have hlen : len = 1 := by simpa [ab_lnok, ab_ln] using hln
    subst hlen
    exact ab_s_isub hx hb hdg hf kk
  case imul =>
    have hlen : len = 1 := by simpa [ab_lnok, ab_ln] using hln
    subst hlen
    exact ab_s_imul hx hb hdg hf kk
  case iand =>
    have hlen : len = 1 := by simpa [ab_lnok, ab_ln] using hln
    subst hlen
    exact ab_s_iand hx hb hdg hf kk
  case ior =>
    have hlen : len = 1 := by simpa [ab_lnok, ab_ln] using hln
    subst hlen
    exact ab_s_ior hx hb hdg hf kk
  case ixor =>
    have hlen : len = 1 := by simpa [ab_lnok, ab_ln] using hln
    subst hlen
    exact ab_s_ixor hx hb hdg hf kk
  case ishl =>
    have hlen : len = 1 := by simpa [ab_lnok, ab_ln] using hln
    subst hlen
    exact ab_s_ishl hx hb hdg hf kk
  case ishr =>
    have hlen : len = 1 := by simpa [ab_lnok, ab_ln] using hln
    subst hlen
    exact ab_s_ishr hx hb hdg hf kk
  case idiv =>
    have hlen : len = 1 := by simpa [ab_lnok, ab_ln] using hln
    subst hlen
    exact ab_s_idiv hx hb hdg hf kk
  case irem =>
    have hlen : len = 1 := by simpa [ab_lnok, ab_ln] using hln
    subst hlen
    exact ab_s_irem hx hb hdg hf kk
  case ineg =>
    have hlen : len = 1 := by simpa [ab_lnok, ab_ln] using hln
    subst hlen
    exact ab_s_ineg hx hb hdg hf kk
  case i2l =>
    have hlen : len = 1 := by simpa [ab_lnok, ab_ln] using hln
    subst hlen
    exact ab_s_i2l hx hb hdg hf kk
  case i2c =>
    have hlen : len = 1 := by simpa [ab_lnok, ab_ln] using hln
    subst hlen
    exact ab_s_i2c hx hb hdg hf kk
  case i2d =>
    have hlen : len = 1 := by simpa [ab_lnok, ab_ln] using hln
    subst hlen
    exact ab_s_i2d hx hb hdg hf kk
  case i2f =>
    have hlen : len = 1 := by simpa [ab_lnok, ab_ln] using hln
    subst hlen
    exact ab_s_i2f hx hb hdg hf kk
  case ladd =>
    have hlen : len = 1 := by simpa [ab_lnok, ab_ln] using hln
    subst hlen
    exact ab_s_ladd hx hb hdg hf kk
  case lsub =>
    have hlen : len = 1 := by simpa [ab_lnok, ab_ln] using hln
    subst hlen
    exact ab_s_lsub hx hb hdg hf kk
  case lcmp =>
    have hlen : len = 1 := by simpa [ab_lnok, ab_ln] using hln
    subst hlen
    exact ab_s_lcmp hx hb hdg hf kk
  case fdiv =>
    have hlen : len = 1 := by simpa [ab_lnok, ab_ln] using hln
    subst hlen
    exact ab_s_fdiv hx hb hdg hf kk
  case ddiv =>
    have hlen : len = 1 := by simpa [ab_lnok, ab_ln] using hln
    subst hlen
    exact ab_s_ddiv hx hb hdg hf kk
  case f2d =>
    have hlen : len = 1 := by simpa [ab_lnok, ab_ln] using hln
    subst hlen
    exact ab_s_f2d hx hb hdg hf kk
  case dcmp a1 =>
    have hlen : len = 1 := by simpa [ab_lnok, ab_ln] using hln
    subst hlen
    exact ab_s_dcmp hx hb hdg hf kk
  case dup =>
    have hlen : len = 1 := by simpa [ab_lnok, ab_ln] using hln
    subst hlen
    exact ab_s_dup hx hb hdg hf kk
  case pop =>
    have hlen : len = 1 := by simpa [ab_lnok, ab_ln] using hln
    subst hlen
    exact ab_s_pop hx hb hdg hf kk
  case dup_x1 =>
    have hlen : len = 1 := by simpa [ab_lnok, ab_ln] using hln
    subst hlen
    exact ab_s_dup_x1 hx hb hdg hf kk
  case dup2 =>
    have hlen : len = 1 := by simpa [ab_lnok, ab_ln] using hln
    subst hlen
    exact ab_s_dup2 hx hb hdg hf kk
  case bipush a1 =>
    have hlen : len = 2 := by simpa [ab_lnok, ab_ln] using hln
    subst hlen
    exact ab_s_bipush hx hb hdg hf kk
  case iload a1 =>
    have hlen : len = 2 := by simpa [ab_lnok, ab_ln] using hln
    subst hlen
    exact ab_s_iload hx hb hdg hf kk
  case lload a1 =>
    have hlen : len = 2 := by simpa [ab_lnok, ab_ln] using hln
    subst hlen
    exact ab_s_lload hx hb hdg hf kk
  case dload a1 =>
    have hlen : len = 2 := by simpa [ab_lnok, ab_ln] using hln
    subst hlen
    exact ab_s_dload hx hb hdg hf kk
  case aload a1 =>
    have hlen : len = 2 := by simpa [ab_lnok, ab_ln] using hln
    subst hlen
    exact ab_s_aload hx hb hdg hf kk
  case istore a1 =>
    have hlen : len = 2 := by simpa [ab_lnok, ab_ln] using hln
    subst hlen
    exact ab_s_istore hx hb hdg hf kk
  case lstore a1 =>
    have hlen : len = 2 := by simpa [ab_lnok, ab_ln] using hln
    subst hlen
    exact ab_s_lstore hx hb hdg hf kk
  case dstore a1 =>
    have hlen : len = 2 := by simpa [ab_lnok, ab_ln] using hln
    subst hlen
    exact ab_s_dstore hx hb hdg hf kk
  case astore a1 =>
    have hlen : len = 2 := by simpa [ab_lnok, ab_ln] using hln
    subst hlen
    exact ab_s_astore hx hb hdg hf kk
  case sipush a1 =>
    have hlen : len = 3 := by simpa [ab_lnok, ab_ln] using hln
    subst hlen
    exact ab_s_sipush hx hb hdg hf kk
  case iinc a1 a2 =>
    have hlen : len = 3 := by simpa [ab_lnok, ab_ln] using hln
    subst hlen
    exact ab_s_iinc hx hb hdg hf kk
  case ifnull a1 =>
    have hlen : len = 3 := by simpa [ab_lnok, ab_ln] using hln
    subst hlen
    exact ab_s_ifnull hx hb hdg hf kk
  case ifnonnull a1 =>
    have hlen : len = 3 := by simpa [ab_lnok, ab_ln] using hln
    subst hlen
    exact ab_s_ifnonnull hx hb hdg hf kk
  case goto a1 =>
    have hlen : len = 3 := by simpa [ab_lnok, ab_ln] using hln
    subst hlen
    exact ab_s_goto hx hb hdg hf kk
  case ifCond a1 a2 =>
    have hlen : len = 3 := by simpa [ab_lnok, ab_ln] using hln
    subst hlen
    cases a1
    · exact ab_s_if_eq hx hb hdg hf kk
    · exact ab_s_if_ne hx hb hdg hf kk
    · exact ab_s_if_lt hx hb hdg hf kk
    · exact ab_s_if_ge hx hb hdg hf kk
    · exact ab_s_if_gt hx hb hdg hf kk
    · exact ab_s_if_le hx hb hdg hf kk
  case if_icmp a1 a2 =>
    have hlen : len = 3 := by simpa [ab_lnok, ab_ln] using hln
    subst hlen
    cases a1
    · exact ab_s_icmp_eq hx hb hdg hf kk
    · exact ab_s_icmp_ne hx hb hdg hf kk
    · exact ab_s_icmp_lt hx hb hdg hf kk
    · exact ab_s_icmp_ge hx hb hdg hf kk
    · exact ab_s_icmp_gt hx hb hdg hf kk
    · exact ab_s_icmp_le hx hb hdg hf kk
  case if_acmp a1 a2 =>
    have hlen : len = 3 := by simpa [ab_lnok, ab_ln] using hln
    subst hlen
    cases a1
    · exact ab_s_acmp_eq hx hb hdg hf kk
    · exact ab_s_acmp_ne hx hb hdg hf kk
  case tableswitch a1 a2 a3 a4 => exact ab_s_tableswitch hx hb hdg hf kk
  case lookupswitch a1 a2 => exact ab_s_lookupswitch hx hb hok hdg hf kk
  case iaload =>
    have hlen : len = 1 := by simpa [ab_lnok, ab_ln] using hln
    subst hlen
    exact ab_s_iaload hx hb hK hdg hf kk
  case baload =>
    have hlen : len = 1 := by simpa [ab_lnok, ab_ln] using hln
    subst hlen
    exact ab_s_baload hx hb hK hdg hf kk
  case laload =>
    have hlen : len = 1 := by simpa [ab_lnok, ab_ln] using hln
    subst hlen
    exact ab_s_laload hx hb hK hdg hf kk
  case daload =>
    have hlen : len = 1 := by simpa [ab_lnok, ab_ln] using hln
    subst hlen
    exact ab_s_daload hx hb hK hdg hf kk
  case aaload =>
    have hlen : len = 1 := by simpa [ab_lnok, ab_ln] using hln
    subst hlen
    exact ab_s_aaload hx hb hK hdg hf kk
  case iastore =>
    have hlen : len = 1 := by simpa [ab_lnok, ab_ln] using hln
    subst hlen
    exact ab_s_iastore hx hb hK hdg hf kk
  case bastore =>
    have hlen : len = 1 := by simpa [ab_lnok, ab_ln] using hln
    subst hlen
    exact ab_s_bastore hx hb hK hdg hf kk
  case lastore =>
    have hlen : len = 1 := by simpa [ab_lnok, ab_ln] using hln
    subst hlen
    exact ab_s_lastore hx hb hK hdg hf kk
  case dastore =>
    have hlen : len = 1 := by simpa [ab_lnok, ab_ln] using hln
    subst hlen
    exact ab_s_dastore hx hb hK hdg hf kk
  case aastore =>
    have hlen : len = 1 := by simpa [ab_lnok, ab_ln] using hln
    subst hlen
    exact ab_s_aastore hx hb hK hdg hf kk
  case arraylength =>
    have hlen : len = 1 := by simpa [ab_lnok, ab_ln] using hln
    subst hlen
    exact ab_s_arraylength hx hb hK hdg hf kk
  case getfield a1 =>
    have hlen : len = 3 := by simpa [ab_lnok, ab_ln] using hln
    subst hlen
    exact ab_s_getfield hx hb hK hown hok hdg hf kk
  case putfield a1 =>
    have hlen : len = 3 := by simpa [ab_lnok, ab_ln] using hln
    subst hlen
    exact ab_s_putfield hx hb hK hown hok hdg hf kk
  case newarray a1 =>
    have hlen : len = 2 := by simpa [ab_lnok, ab_ln] using hln
    subst hlen
    exact ab_s_newarray hx hb hK hok hc0 hs0 hRc hRs hdg hf kk
  case ldc a1 =>
    have hlen : len = 2 := by simpa [ab_lnok, ab_ln] using hln
    subst hlen
    exact ab_s_ldc hx hb hK hown hok hdg hf kk
  case ldc_w a1 =>
    have hlen : len = 3 := by simpa [ab_lnok, ab_ln] using hln
    subst hlen
    exact ab_s_ldc_w hx hb hK hown hok hdg hf kk
  case ldc2_w a1 =>
    have hlen : len = 3 := by simpa [ab_lnok, ab_ln] using hln
    subst hlen
    exact ab_s_ldc2_w hx hb hK hown hok hdg hf kk
  case getstatic a1 =>
    have hlen : len = 3 := by simpa [ab_lnok, ab_ln] using hln
    subst hlen
    exact ab_s_getstatic hx hb hK hown hok hdg hf kk
  case checkcast a1 =>
    have hlen : len = 3 := by simpa [ab_lnok, ab_ln] using hln
    subst hlen
    exact ab_s_checkcast hx hb hK hown hok hdg hf kk
  case anewarray a1 =>
    have hlen : len = 3 := by simpa [ab_lnok, ab_ln] using hln
    subst hlen
    exact ab_s_anewarray hx hb hK hown hok hc0 hs0 hRc hRs hdg hf kk
  case multianewarray a1 a2 =>
    have hlen : len = 4 := by simpa [ab_lnok, ab_ln] using hln
    subst hlen
    obtain ⟨rfl, hok⟩ := hok
    exact ab_s_multianewarray hx hb hK hown hok hc0 hs0 hRc hRs hdg hf kk
  case new a1 =>
    have hlen : len = 3 := by simpa [ab_lnok, ab_ln] using hln
    subst hlen
    match aux, hok, hf with
    | 0 :: ci :: ts, hok, hf => exact ab_s_new hx hb hK hown (hok ci ts rfl) hc0 hs0 hRc hRs hdg hf kk
    | 1 :: e :: ts, hok, hf =>
      simp only [ab_f] at hf
      split at hf <;> cases hf
    | [], hok, hf => cases hf
    | [_], hok, hf => simp [ab_f] at hf
    | (n + 2) :: _ :: _, hok, hf => simp [ab_f] at hf
  case invokespecial a1 =>
    have hlen : len = 3 := by simpa [ab_lnok, ab_ln] using hln
    subst hlen
    match aux, hok, hf with
    | [0], hok, hf => exact ab_s_objinit hx hb hK hown hml hRf hRl (hok rfl) hdg hf kk
    | [], hok, hf => cases hf
    | [n + 1], hok, hf => simp [ab_f] at hf
    | y :: na :: hd, hok, hf =>
      simp only [ab_f] at hf
      split at hf
      · exact absurd hf ab_call_ne
      · cases hf
  case invokestatic a1 =>
    have hlen : len = 3 := by simpa [ab_lnok, ab_ln] using hln
    subst hlen
    match aux, hok, hf with
    | [1], hok, hf => exact ab_s_arraycopy hx hb hK hown hml hRf hRl (hok.1 rfl) hdg hf kk
    | [2], hok, hf => exact ab_s_mmin hx hb hown hml hRf hRl hRc hRs (hok.2.1 rfl) hdg hf kk
    | [3], hok, hf => exact ab_s_mmax hx hb hown hml hRf hRl hRc hRs (hok.2.2 rfl) hdg hf kk
    | [], hok, hf => cases hf
    | [0], hok, hf => simp [ab_f] at hf
    | [n + 4], hok, hf => simp [ab_f] at hf
    | y :: na :: hd, hok, hf =>
      simp only [ab_f] at hf
      exact absurd hf ab_call_ne
  case invokevirtual a1 =>
    simp only [ab_f] at hf
    repeat' split at hf
    all_goals first | exact absurd hf ab_call_ne | cases hf
  case ireturn =>
    simp only [ab_f] at hf
    repeat' split at hf
    all_goals cases hf
  case lreturn =>
    simp only [ab_f] at hf
    repeat' split at hf
    all_goals cases hf
  case freturn =>
    simp only [ab_f] at hf
    repeat' split at hf
    all_goals cases hf
  case dreturn =>
    simp only [ab_f] at hf
    repeat' split at hf
    all_goals cases hf
  case areturn =>
    simp only [ab_f] at hf
    repeat' split at hf
    all_goals cases hf
  case return_ =>
    simp only [ab_f] at hf
    repeat' split at hf
    all_goals cases hf
  all_goals cases hf
end
section
/-! CONTRACTS OUT OF RUNS OF THE ABSTRACT MACHINE: words that last, the world, calls, ends, throws, and the theorem that ties a run of a method to its contract. -/
def ab_AOA (t : FieldType) (U : State) : Prop := (Jvm.Cond.arrayOver (.array t)).before #[] U = true
theorem ab_AOA.moved {t : FieldType} {u U : State} (hvm : u.vm.Alike U.vm) (h : ab_AOA t u) : ab_AOA t U := by
  obtain ⟨comp, c, k, h1, h2, h3, h4, h5⟩ := arrayOverA_spec h
  obtain ⟨k', hk', he⟩ := hvm.2.2 _ _ h3
  have hi : (U.vm.classes.findIdx? fun (x : Class) => match x.kind with | .array component _ => component == comp | _ => false) = some c := by
    rw [hvm.findIdx?_eq _ (fun _ => rfl)]
    exact h2
  have hkind : k'.kind = .array comp (.array t) := by rw [he]; exact h4
  have f1 : U.vm.findClass (FieldType.array t).toString = some comp := by rw [hvm.findClass]; exact h1
  have f2 : U.vm.findClass ("[" ++ (FieldType.array t).toString) = some c := by rw [hvm.findClass]; exact h5
  unfold ab_AOA Cond.before Cond.holds
  simp only [Cond.value]
  rw [f1, Option.bind_some]
  refine (congrArg (fun o : Option Nat => (o.bind (fun c => (U.vm.classes[c]?).map fun (k : Class) => match k.kind with | .array _ ty => decide (ty = FieldType.array t) && decide (U.vm.findClass ("[" ++ (FieldType.array t).toString) = some c) | _ => false) == some true)) hi).trans ?_
  simp [hk', hkind, f2]
/-- words that last from a state to any warmer one -/
def ab_kp : Jvm.Cond → Bool
  | .fieldLinkNest .. => true
  | .methodLinkNest .. => true
  | .castable .. => true
  | .declares _ => true
  | .arrayOver (.object _) => true
  | .arrayOver (.array _) => true
  | w => goodWord w
theorem ab_kept {w : Jvm.Cond} (hk : ab_kp w = true) {args a' : Array Value} {s U : State} (hW : s.WarmedH U.vm) (h : w.before args s = true) : w.before a' U = true := by
  have good : goodWord w = true → w.before a' U = true := fun hg => word_at hW (good_of_word hg) h
  cases w with
  | fieldLinkNest a b c d f g => exact va_tabs rfl rfl (va_Nw.warmF hW (va_tabs rfl rfl h))
  | methodLinkNest a b c d => exact va_tabs rfl rfl (va_Nw.warmM hW (va_tabs rfl rfl h))
  | castable a b => exact va_tabs rfl rfl (va_Nw.warmC hW (va_tabs rfl rfl h))
  | declares a => exact va_tabs rfl rfl (va_Nw.warmD hW (va_tabs rfl rfl h))
  | arrayOver t =>
    cases t with
    | object C => exact va_AO.use (va_AO.moved hW.alike (va_AO.of h))
    | array t => exact ab_AOA.moved hW.alike h
    | _ => exact good hk
  | _ => exact good hk
abbrev ab_D : Type := MethodName × ByteArray × Nat × Option FieldType × List (Nat × Nat × Nat × Nat)
def ab_cd (q : ab_D) : Jvm.Cond := match q.2.2.2.2 with
  | [] => .code q.1 q.2.1 q.2.2.1 q.2.2.2.1
  | t :: r => .codeWith q.1 q.2.1 q.2.2.1 q.2.2.2.1 (t :: r)
theorem ab_cd_good (q : ab_D) : goodWord (ab_cd q) = true := by
  unfold ab_cd
  split <;> rfl
/-- the world: classes, arrays, what can't be cast, texts, statics -/
def ab_World (cl : List vw_C) (D : va_G) (E : Nat → ClassId) (ks : Nat → Bool) (aty : Nat → FieldType) (base : Nat) (ncs : List (String × String)) (srs : List (String × Nat × String)) (sts : List (String × String × String × Value)) (U : State) (H : Heap) : Prop :=
  ab_Kn cl D E ks aty U ∧ (∀ q ∈ ncs, va_Nc q.1 q.2 U) ∧ (∀ q ∈ srs, ∃ a : Nat, vk_R q.1 q.2.1 q.2.2 a U) ∧
  vx_Zq Bundle.tN "UNASSIGNED_STACK" Bundle.steD (fun q => base ≤ q) U H ∧ vx_Zq Bundle.tN "SUPPRESSED_SENTINEL" Bundle.listD (fun q => base ≤ q) U H ∧
  ∀ q ∈ sts, va_Z q.1 q.2.1 q.2.2.1 q.2.2.2 (fun q => base ≤ q) U H
theorem ab_Kn.moved {cl : List vw_C} {D : va_G} {E : Nat → ClassId} {ks : Nat → Bool} {aty : Nat → FieldType} {u U : State} (hvm : u.vm.Alike U.vm) (h : ab_Kn cl D E ks aty u) : ab_Kn cl D E ks aty U := by
  obtain ⟨h1, h2, h3, h4⟩ := h
  refine ⟨fun c q hq => u_Kn_moved hvm (h1 c q hq), fun t ht => ⟨(h2 t ht).1, arrOfT_moved hvm (h2 t ht).2.1, by rw [hvm.findClass]; exact (h2 t ht).2.2⟩, fun t ht h6 hk => ?_, fun t ht => ⟨(h4 t ht).1, arrOfT_moved hvm (h4 t ht).2⟩⟩
  obtain ⟨kA, kc, comp, w1, w2, w3, w4, w5, w6, w7⟩ := h3 t ht h6 hk
  obtain ⟨kA', a1, a2⟩ := hvm.2.2 _ _ w1
  obtain ⟨kc', b1, -⟩ := hvm.2.2 _ _ w3
  exact ⟨kA', kc', comp, a1, by rw [a2]; exact w2, b1, w4, w5, w6, fun e ci q hq => by rw [hvm.assignable]; exact w7 e ci q hq⟩
theorem ab_World.moved {cl : List vw_C} {D : va_G} {E : Nat → ClassId} {ks : Nat → Bool} {aty : Nat → FieldType} {base : Nat} {ncs : List (String × String)} {srs : List (String × Nat × String)} {sts : List (String × String × String × Value)} {u U : State} {H H1 : Heap} (hW : u.WarmedH U.vm) (hq : ∀ a : Nat, a < H.size → ¬ base ≤ a → H1[a]? = H[a]?) (h : ab_World cl D E ks aty base ncs srs sts u H) : ab_World cl D E ks aty base ncs srs sts U H1 := by
  obtain ⟨h1, h2, h3, h4, h5, h6⟩ := h
  refine ⟨h1.moved hW.alike, fun q h => (h2 q h).moved hW.alike, fun q h => ?_, vx_Zq.moved hW.alike (h4.kept hq), vx_Zq.moved hW.alike (h5.kept hq), fun q h => va_Z.moved hW.alike (va_Z.kept (h6 q h) hq)⟩
  obtain ⟨a, ha⟩ := h3 q h
  exact ⟨a, vk_R.warm hW ha⟩
def ab_rm (d mc ms : Nat) : Room := { frames := d + 10, cells := mc, slots := ms, locals := 100 * d + 200 }
def ab_Pc (cl : List vw_C) (D : va_G) (E : Nat → ClassId) (ks : Nat → Bool) (aty : Nat → FieldType) (base : Nat) (Hb : Heap) (ncs : List (String × String)) (srs : List (String × Nat × String)) (sts : List (String × String × String × Value)) (as : List Value) (h : ab_H) : Array Value → State → Prop := fun v U =>
  v = as.toArray ∧ ab_Rl cl D E ks base Hb h U.heap ∧ ab_World cl D E ks aty base ncs srs sts U U.heap
def ab_Qc (cl : List vw_C) (D : va_G) (E : Nat → ClassId) (ks : Nat → Bool) (base : Nat) (Hb : Heap) (r : ab_R) (h' : ab_H) : Array Value → State → Outcome → State → Prop := fun _ _ o t => ∃ v, r = .inl v ∧ o = .returned v ∧ ab_Rl cl D E ks base Hb h' t.heap
def ab_XC (cl : List vw_C) (D : va_G) (E : Nat → ClassId) (ks : Nat → Bool) (base : Nat) (Hb : Heap) (en : Nat → String) (r : ab_R) (h' : ab_H) : String → State → State → Prop := fun X _ t => ∃ e, r = .inr e ∧ X = en e ∧ ab_Rl cl D E ks base Hb h' t.heap
/-- the contract of a run -/
def ab_Ct (l : Launch) (MD : Nat → ab_D) (Wl : List Jvm.Cond) (en : Nat → String) (cl : List vw_C) (D : va_G) (E : Nat → ClassId) (ks : Nat → Bool) (aty : Nat → FieldType) (base : Nat) (Hb : Heap) (ncs : List (String × String)) (srs : List (String × Nat × String)) (sts : List (String × String × String × Value)) (d y : Nat) (as : List Value) (h : ab_H) (r : ab_R) (h' : ab_H) : Prop :=
  vx_Met l (MD y).1 (ab_cd (MD y) :: Wl) (ab_rm d (h'.2.1 - h.2.1) (h'.2.2 - h.2.2)) (ab_Pc cl D E ks aty base Hb ncs srs sts as h) (ab_Qc cl D E ks base Hb r h') (ab_XC cl D E ks base Hb en r h') (h'.2.1 - h.2.1) (h'.2.2 - h.2.2) (fun q => base ≤ q)
theorem ab_Pc_blind {cl : List vw_C} {D : va_G} {E : Nat → ClassId} {ks : Nat → Bool} {aty : Nat → FieldType} {base : Nat} {Hb : Heap} {ncs : List (String × String)} {srs : List (String × Nat × String)} {sts : List (String × String × String × Value)} {as : List Value} {h : ab_H} : FrameBlind (ab_Pc cl D E ks aty base Hb ncs srs sts as h) := by
  intro a U g mk hp
  exact ⟨hp.1, hp.2.1, hp.2.2.moved (u := U) (U := U.calling g mk a) (State.WarmedH.refl U) (fun _ _ _ => rfl)⟩
/-- a handler: the row of the table that takes the exception, and the store that it begins with -/
def ab_hw (ncs : List (String × String)) (en : Nat → String) (own : String) (s : State) (args : Array Value) (c : Code) (cc : ByteArray) (nL pc e p k : Nat) : Prop := ∃ (pre suf : List ExceptionTableEntry) (x : ExceptionTableEntry) (name : String), c.exceptionTable.toList = pre ++ x :: suf ∧
  (∀ z ∈ pre, covers z pc = false ∨ (z.catchType ≠ 0 ∧ ∃ nm : String, (Jvm.Cond.classLink own z.catchType nm).before args s = true ∧ (en e, nm) ∈ ncs)) ∧ covers x pc = true ∧ x.catchType ≠ 0 ∧ (Jvm.Cond.classLink own x.catchType name).before args s = true ∧ (Jvm.Cond.castable (en e) name).before args s = true ∧ k < nL ∧
  ((decode cc x.handlerPc = .ok (.astore k, 2) ∧ p = x.handlerPc + 2) ∨ (∃ f : Fin 4, f.val = k ∧ decode cc x.handlerPc = .ok (.astore_n f, 1) ∧ p = x.handlerPc + 1))
def ab_lk (own : String) (s : State) (args : Array Value) (idx : Nat) (y : MethodName) : Prop := (Jvm.Cond.methodLink own idx y).before args s = true ∨ ∃ host : String, (Jvm.Cond.methodLinkNest own idx y host).before args s = true
/-- what a call needs of the words -/
def ab_okC (MD : Nat → ab_D) (vm : Nat → Bool) (cl : List vw_C) (ncs : List (String × String)) (en : Nat → String) (own : String) (s : State) (args : Array Value) (c : Code) (cc : ByteArray) (nL pc : Nat) (i : ab_I) : Prop := match i.1 with
  | .invokestatic idx => ∀ (y na : Nat) (hd : List Nat), i.2.2 = y :: na :: hd → vm y = true ∧ (parseMethodDescriptor (MD y).1.desc).map (fun q => q.parameters.length) = some na ∧ (Jvm.Cond.static (MD y).1).before args s = true ∧
      (((MD y).2.2.2.2 = [] ∧ ab_lk own s args idx (MD y).1) ∨ ((MD y).2.2.2.2 ≠ [] ∧ (Jvm.Cond.methodLink own idx (MD y).1).before args s = true)) ∧ ∀ e p k, (ab_hs hd).lookup e = some (p, k) → ab_hw ncs en own s args c cc nL pc e p k
  | .invokevirtual idx => ∀ (y na ci : Nat) (hd : List Nat), i.2.2 = y :: na :: ci :: hd → vm y = true ∧ 1 ≤ na ∧ (parseMethodDescriptor (MD y).1.desc).map (fun q => q.parameters.length) = some (na - 1) ∧ (Jvm.Cond.instanceMethod (MD y).1).before args s = true ∧ (MD y).2.2.2.2 = [] ∧ ab_lk own s args idx (MD y).1 ∧
      (∃ q : vw_C, cl[ci]? = some q ∧ (Jvm.Cond.selects q.1 (MD y).1 (MD y).1).before args s = true) ∧ ∀ e p k, (ab_hs hd).lookup e = some (p, k) → ab_hw ncs en own s args c cc nL pc e p k
  | .invokespecial idx => ∀ (y na : Nat) (hd : List Nat), i.2.2 = y :: na :: hd → vm y = true ∧ 1 ≤ na ∧ (parseMethodDescriptor (MD y).1.desc).map (fun q => q.parameters.length) = some (na - 1) ∧ (Jvm.Cond.instanceMethod (MD y).1).before args s = true ∧ (MD y).2.2.2.2 = [] ∧ (MD y).1.name = "<init>" ∧ (MD y).2.2.2.1 = none ∧ ab_lk own s args idx (MD y).1 ∧
      ∀ e p k, (ab_hs hd).lookup e = some (p, k) → ab_hw ncs en own s args c cc nL pc e p k
  | _ => True
/-- what is asked of a callee once -/
def ab_okD (MD : Nat → ab_D) (Wl : List Jvm.Cond) (vm : Nat → Bool) : Prop := ∀ y, vm y = true → (MD y).2.2.1 ≤ 60 ∧ plainName (MD y).1.cls = true ∧ ((MD y).1.cls ≠ "java/lang/invoke/MethodHandle" ∧ (MD y).1.cls ≠ "java/lang/invoke/VarHandle") ∧ ab_cd (MD y) ∈ Wl ∧ Jvm.Cond.initialized (MD y).1.cls ∈ Wl
section ABC
variable {cl : List vw_C} {D : va_G} {E : Nat → ClassId} {ks : Nat → Bool} {aty : Nat → FieldType} {base : Nat} {Hb : Heap} {ncs : List (String × String)} {srs : List (String × Nat × String)} {sts : List (String × String × String × Value)} {MD : Nat → ab_D} {Wl : List Jvm.Cond} {en : Nat → String} {vm : Nat → Bool}
variable {nL : Nat} {p : Program} {l : Launch} {e : Env} {R : Room} {s : State} {m : MethodId} {args : Array Value} {below : List Frame} {meth : Method} {c : Code} {Q : State → Prop} {c0 s0 d y : Nat}
theorem ab_back (hD : ab_okD MD Wl vm) (hy : vm y = true) (hWk : ∀ w ∈ Wl, ab_kp w = true) (hws : ∀ w ∈ Wl, w.before args s = true) {as : List Value} {h h1 : ab_H} {r : ab_R} (hC : ab_Ct l MD Wl en cl D E ks aty base Hb ncs srs sts d y as h r h1) (hRf : d + 11 ≤ R.frames) (hRl : 100 * d + 300 ≤ R.locals) :
    vx_Back l R p e below s args (MD y).1 3 8 (PreOf R (h1.2.1 - h.2.1) (h1.2.2 - h.2.2) (ab_Pc cl D E ks aty base Hb ncs srs sts as h)) (PostOf (ab_Qc cl D E ks base Hb r h1) (h1.2.1 - h.2.1) (h1.2.2 - h.2.2) (fun q => base ≤ q)) (vx_Post (ab_XC cl D E ks base Hb en r h1) (h1.2.1 - h.2.1) (h1.2.2 - h.2.2) (fun q => base ≤ q)) := by
  obtain ⟨h60, -, -, hcd, hin⟩ := hD y hy
  have hw2 : ∀ w ∈ ab_cd (MD y) :: Wl, ∀ (a' : Array Value) (U : State), s.WarmedH U.vm → w.before a' U = true := by
    intro w hw a' U hW
    rcases List.mem_cons.mp hw with rfl | hw
    · exact ab_kept (hWk _ hcd) hW (hws _ hcd)
    · exact ab_kept (hWk _ hw) hW (hws _ hw)
  have hini : ∀ (a' : Array Value) (U : State), s.WarmedH U.vm → (Jvm.Cond.initialized (MD y).1.cls).before a' U = true := fun a' U hW => ab_kept (hWk _ hin) hW (hws _ hin)
  cases ht : (MD y).2.2.2.2 with
  | nil =>
    refine vx_back (bytes := (MD y).2.1) (maxL := (MD y).2.2.1) (ret := (MD y).2.2.2.1) hC ab_Pc_blind rfl rfl hRf (by show 8 + ((MD y).2.2.1 + 11) + (100 * d + 200) ≤ R.locals; omega) hw2 ?_ hini
    have : ab_cd (MD y) = .code (MD y).1 (MD y).2.1 (MD y).2.2.1 (MD y).2.2.2.1 := by unfold ab_cd; rw [ht]
    rw [← this]
    exact List.mem_cons_self
  | cons t q =>
    refine vx_backW (bytes := (MD y).2.1) (maxL := (MD y).2.2.1) (ret := (MD y).2.2.2.1) (hh := t :: q) hC ab_Pc_blind rfl rfl hRf (by show 8 + ((MD y).2.2.1 + 11) + (100 * d + 200) ≤ R.locals; omega) hw2 ?_ hini
    have : ab_cd (MD y) = .codeWith (MD y).1 (MD y).2.1 (MD y).2.2.1 (MD y).2.2.2.1 (t :: q) := by unfold ab_cd; rw [ht]
    rw [← this]
    exact List.mem_cons_self
/-- what a call's row gives -/
def ab_CR (p : Program) (l : Launch) (e : Env) (R : Room) (s : State) (m : MethodId) (args : Array Value) (below : List Frame) (meth : Method) (c : Code) (T : State) (locs : List Loc) (cells slots : Nat) (g : JFrame) (rest : List Value) (a : Array Value) (Post : Pt → Array Value → Option Value → Pt → Prop) (PostX : Pt → Array Value → Addr → Pt → Prop) : Prop :=
  (∃ (v : Option Value) (vm₁ : Vm) (B : Pt), s.WarmedH vm₁ ∧ Stand p l e R s m args below meth c B.U B.locs B.cells B.slots ∧ Post ⟨T.setVm vm₁, locs, cells, slots⟩ a v B ∧
      ∀ target, Steps p.tables e below (B.U.setTop { g with pc := g.pc + 3, stack := v.toList ++ rest }) target → Steps p.tables e below (T.setTop g) target) ∨
  (∃ (q : Addr) (vm₁ : Vm) (B : Pt), s.WarmedH vm₁ ∧ Stand p l e R s m args below meth c B.U B.locs B.cells B.slots ∧ PostX ⟨T.setVm vm₁, locs, cells, slots⟩ a q B ∧
      Steps p.tables e below (T.setTop g) ((B.U.setTop { g with stack := rest }).pushFrame (.throwing q)))
theorem ab_clr {ls' : Array Slot} {k : Nat} {lo : ab_L} {q : Nat} (hl : lo.length = nL) (h9 : lv_has ls' nL ((k, Value.ref q) :: (ab_prs lo).filter (fun q => !(q.1 == k) && !(q.1 + 1 == k && q.2.category == 2)))) : ab_LR ls' nL ((ab_sto lo k .null).set k none) := by
  obtain ⟨a1, a2, a3, a4⟩ := ab_LR.st1 hl h9
  refine ⟨by rw [List.length_set, ab_sto_len]; exact hl, a2, a3, fun i v hi => ?_⟩
  rw [List.getElem?_set] at hi
  split at hi
  · split at hi
    · cases hi
    · cases hi
  · rename_i hne
    rcases ab_sto_in lo k .null i v hi with ⟨e, -⟩ | ⟨e1, e2, e3, e4⟩
    · exact absurd e.symm hne
    · refine h9.2.2 (i, v) (List.mem_cons_of_mem _ (List.mem_filter.mpr ⟨ab_prs_in.mpr e2, ?_⟩))
      have f1 : (i == k) = false := by simpa using e1
      by_cases g2 : i + 1 = k
      · have f3 : (v.category == 2) = false := by
          have : ¬ v.category = 2 := fun q => e3 ⟨g2, q⟩
          simpa using this
        simp [f1, f3]
      · have f3 : (i + 1 == k) = false := by simpa using g2
        simp [f1, f3]
theorem ab_after {cc : ByteArray} {own : String} (hx : p.tables.exec = Jvm.exec) (hb : c.code = cc) (hown : s.vm.findClass own = some m.cls) (hnc : ∀ q ∈ ncs, va_Nc q.1 q.2 s) {ls : Array Slot} {locs : List Loc} {lo : ab_L} {h h1 : ab_H} {r : ab_R} {pc : Nat} {st rest : List Value} {hs : List (Nat × Nat × Nat)} {a : Array Value} (hl : ab_LR ls nL lo) (hlo : ∀ q ∈ locs, base ≤ q.base)
    (hc0 : c0 ≤ h.2.1) (hs0 : s0 ≤ h.2.2) (hle : ab_le h h1) (hh : ∀ e p k, hs.lookup e = some (p, k) → ab_hw ncs en own s args c cc nL pc e p k)
    (kk : ab_bk (ab_Wn cl D E ks base Hb nL p l e R s m args below meth c Q c0 s0) (pc + 3) lo rest hs r h1) {T : State}
    (hCR : ab_CR p l e R s m args below meth c T locs (h.2.1 - c0) (h.2.2 - s0) (F0 m pc ls st) rest a (PostOf (ab_Qc cl D E ks base Hb r h1) (h1.2.1 - h.2.1) (h1.2.2 - h.2.2) (fun q => base ≤ q)) (vx_Post (ab_XC cl D E ks base Hb en r h1) (h1.2.1 - h.2.1) (h1.2.2 - h.2.2) (fun q => base ≤ q))) : ∃ t, Steps p.tables e below (T.setTop (F0 m pc ls st)) t ∧ Q t := by
  have e1 : h.2.1 - c0 + (h1.2.1 - h.2.1) = h1.2.1 - c0 := by have := hle.1; omega
  have e2 : h.2.2 - s0 + (h1.2.2 - h.2.2) = h1.2.2 - s0 := by have := hle.2; omega
  rcases hCR with ⟨v, vm₁, ⟨U', l2, c2, s2⟩, hW₁, X', ⟨g', mk, t, L, w1, w2, ⟨v', hr, ho, hRl⟩, q1, hL, q2, q3⟩, st9⟩ | ⟨q, vm₁, ⟨U', l2, c2, s2⟩, hW₁, X', ⟨g', mk, t, L, Ex, ce, w1, w2, ⟨ex, hr, hE, hRl⟩, hce, hcv, hcl, q1, hL, q2, q3⟩, st9⟩
  · dsimp only [Pt.U, Pt.locs, Pt.cells, Pt.slots] at X' w1 w2 q1 q2 q3 st9
    subst q1; subst q2; subst q3
    cases ho
    subst hr
    rw [e1, e2] at X'
    rw [← w1] at hRl
    have k2 : ab_Wn cl D E ks base Hb nL p l e R s m args below meth c Q c0 s0 (pc + 3) lo (v.toList ++ rest) h1 := kk
    obtain ⟨t2, b1, b2⟩ := k2 ls U'.heap (locs ++ L) hl hRl (fun q hq => (List.mem_append.mp hq).elim (hlo q) (hL q)) U' rfl X'
    exact ⟨t2, st9 t2 b1, b2⟩
  · dsimp only [Pt.U, Pt.locs, Pt.cells, Pt.slots] at X' w1 w2 q1 q2 q3 st9 hcl
    subst q1; subst q2; subst q3
    subst hr; subst hE
    rw [e1, e2] at X'
    rw [← w1] at hRl hce
    have k2 : ab_hd (ab_Wn cl D E ks base Hb nL p l e R s m args below meth c Q c0 s0) lo h1 (hs.lookup ex) := kk
    cases hlk : hs.lookup ex with
    | none => rw [hlk] at k2; exact k2.elim
    | some pk =>
      rw [hlk] at k2
      obtain ⟨p9, k9⟩ := pk
      obtain ⟨pre, suf, x, name, g1, g2, g3, g4, g5, g6, g7, g8⟩ := hh _ _ _ hlk
      have hloc : ∀ q ∈ locs ++ L, base ≤ q.base := fun q hq => (List.mem_append.mp hq).elim (hlo q) (hL q)
      have kW : W p l e R s m args below meth c U'.heap (locs ++ L) (h1.2.1 - c0) (h1.2.2 - s0) Q (F0 m x.handlerPc ls [.ref q]) := by
        rcases g8 with ⟨d1, d2⟩ | ⟨f, d0, d1, d2⟩
        · refine lv_astore hx hb d1 hl.has g7 rfl (fun ls1 h9 => ?_)
          have := k2 ls1 U'.heap (locs ++ L) (ab_clr hl.1 h9) hRl hloc
          rw [d2] at this
          exact this
        · refine lv_astore_n hx hb d1 d0 hl.has g7 rfl (fun ls1 h9 => ?_)
          have := k2 ls1 U'.heap (locs ++ L) (ab_clr hl.1 h9) hRl hloc
          rw [d2] at this
          exact this
      obtain ⟨t2, b1, b2⟩ := vx_catch (E := en ex) (pc := pc) (rest := rest) hown pre x suf g1 (fun z hz => (g2 z hz).imp id fun ⟨z1, nm, z2, z3⟩ => ⟨z1, nm, z2, hnc _ z3⟩) g3 g4 g5 g6 hce hcv (vx_cls hW₁ hcl) kW U' rfl X'
      exact ⟨t2, st9.trans b1, b2⟩
end ABC
end
section
/-! CALLS: a call's row of each kind gives what the abstract machine's call says. -/
theorem ab_call_inv {y na pc y' pc' : Nat} {hd : List Nat} {l l' : ab_L} {st st' as : List Value} {h : ab_H} {hs : List (Nat × Nat × Nat)} (hf : ab_call y na pc hd l st h = some (.inr (.inr (y', as, pc', l', st', hs)))) : na ≤ st.length ∧ (st'.map fun v => v.category).sum ≤ 8 ∧ y' = y ∧ as = (st.take na).reverse ∧ pc' = pc ∧ l' = l ∧ st' = st.drop na ∧ hs = ab_hs hd := by
  unfold ab_call at hf
  split at hf
  · rename_i hok
    simp only [Option.some.injEq, Sum.inr.injEq, Prod.mk.injEq] at hf
    obtain ⟨rfl, rfl, rfl, rfl, rfl, rfl⟩ := hf
    exact ⟨hok.1, hok.2, rfl, rfl, rfl, rfl, rfl, rfl⟩
  · cases hf
theorem ab_take1 {st : List Value} {na : Nat} {x : Value} (h1 : 1 ≤ na) (hx : st[na - 1]? = some x) : (st.take na).reverse = x :: (st.take (na - 1)).reverse ∧ st = (st.take (na - 1)).reverse.reverse ++ x :: st.drop na ∧ (st.take (na - 1)).reverse.length = na - 1 := by
  obtain ⟨k, rfl⟩ : ∃ k, na = k + 1 := ⟨na - 1, by omega⟩
  have hx : st[k]? = some x := hx
  have hlt : k < st.length := (List.getElem?_eq_some_iff.mp hx).1
  have e : st.take (k + 1) = st.take k ++ [x] := by
    rw [List.take_succ, hx]; rfl
  refine ⟨by show (st.take (k + 1)).reverse = _; rw [e]; simp, ?_, by simp; omega⟩
  show st = (st.take k).reverse.reverse ++ x :: st.drop (k + 1)
  rw [List.reverse_reverse]
  have : st = st.take (k + 1) ++ st.drop (k + 1) := (List.take_append_drop _ _).symm
  rw [e] at this
  simpa using this
section ABL
variable {cl : List vw_C} {D : va_G} {E : Nat → ClassId} {ks : Nat → Bool} {aty : Nat → FieldType} {base : Nat} {Hb : Heap} {ncs : List (String × String)} {srs : List (String × Nat × String)} {sts : List (String × String × String × Value)} {MD : Nat → ab_D} {Wl : List Jvm.Cond} {en : Nat → String} {vm : Nat → Bool}
variable {nL : Nat} {p : Program} {l : Launch} {e : Env} {R : Room} {s : State} {m : MethodId} {args : Array Value} {below : List Frame} {meth : Method} {c : Code} {Q : State → Prop} {c0 s0 d : Nat} {sv : Nat → Value}
theorem ab_pre {as : List Value} {h h0 : ab_H} {H : Heap} (hW0 : ab_World cl D E ks aty base ncs srs sts s s.heap) (hR0 : ab_Rl cl D E ks base Hb h0 s.heap) (hR : ab_Rl cl D E ks base Hb h H) {T : State} (hT : T.heap = H) {vm₁ : Vm} (hWm : s.WarmedH vm₁) : ab_Pc cl D E ks aty base Hb ncs srs sts as h as.toArray (T.setVm vm₁) := by
  refine ⟨rfl, by show ab_Rl cl D E ks base Hb h T.heap; rw [hT]; exact hR, ?_⟩
  refine hW0.moved (U := T.setVm vm₁) hWm (fun a ha hb => ?_)
  show T.heap[a]? = s.heap[a]?
  rw [hT, hR.2.2.1 a (by omega), hR0.2.2.1 a (by omega)]
theorem ab_callW {cc : ByteArray} {own : String} {i : ab_I} {pc pc' y : Nat} {lo lo' : ab_L} {st st' as : List Value} {h h0 h1 : ab_H} {hs : List (Nat × Nat × Nat)} {r : ab_R}
    (hx : p.tables.exec = Jvm.exec) (hb : c.code = cc) (hml : c.maxLocals = nL) (hown : s.vm.findClass own = some m.cls) (hD : ab_okD MD Wl vm) (hWk : ∀ w ∈ Wl, ab_kp w = true) (hws : ∀ w ∈ Wl, w.before args s = true)
    (hW0 : ab_World cl D E ks aty base ncs srs sts s s.heap) (hR0 : ab_Rl cl D E ks base Hb h0 s.heap) (hRf : d + 11 ≤ R.frames) (hRl : 100 * d + 300 ≤ R.locals) (hc0 : c0 ≤ h.2.1) (hs0 : s0 ≤ h.2.2) (hle : ab_le h h1) (hRc : h1.2.1 - c0 ≤ R.cells) (hRs : h1.2.2 - s0 ≤ R.slots)
    (hdg : decode cc pc = .ok (i.1, i.2.1)) (hln : ab_lnok i = true) (hok : ab_okC MD vm cl ncs en own s args c cc nL pc i) (hf : ab_f sv i pc lo st h = some (.inr (.inr (y, as, pc', lo', st', hs))))
    (hC : vm y = true → ab_Ct l MD Wl en cl D E ks aty base Hb ncs srs sts d y as h r h1)
    (kk : ab_bk (ab_Wn cl D E ks base Hb nL p l e R s m args below meth c Q c0 s0) pc' lo' st' hs r h1) : ab_Wn cl D E ks base Hb nL p l e R s m args below meth c Q c0 s0 pc lo st h := by
  intro ls H locs hl hR hlo T hT X
  have hsz : ls.size = c.maxLocals := hl.2.1.trans hml.symm
  have r1 : h.2.1 - c0 + (h1.2.1 - h.2.1) ≤ R.cells := by have := hle.1; omega
  have r2 : h.2.2 - s0 + (h1.2.2 - h.2.2) ≤ R.slots := by have := hle.2; omega
  obtain ⟨I, len, aux⟩ := i
  change decode cc pc = .ok (I, len) at hdg
  cases I
  case invokestatic idx =>
    have hlen : len = 3 := by simpa [ab_lnok, ab_ln] using hln
    subst hlen
    match aux, hok, hf with
    | [], _, hf => cases hf
    | [0], _, hf => simp [ab_f] at hf
    | [1], _, hf =>
      simp only [ab_f] at hf
      repeat' split at hf
      all_goals cases hf
    | [2], _, hf =>
      simp only [ab_f] at hf
      repeat' split at hf
      all_goals cases hf
    | [3], _, hf =>
      simp only [ab_f] at hf
      repeat' split at hf
      all_goals cases hf
    | [n + 4], _, hf => simp [ab_f] at hf
    | y0 :: na :: hd, hok, hf =>
      simp only [ab_f] at hf
      obtain ⟨f1, f2, rfl, rfl, rfl, rfl, rfl, rfl⟩ := ab_call_inv hf
      obtain ⟨g1, g2, g3, g4, g5⟩ := hok y na hd rfl
      obtain ⟨-, -, q3, q4, q5⟩ := hD y g1
      have hbk := ab_back (p := p) (e := e) (below := below) (d := d) (R := R) (args := args) hD g1 hWk hws (hC g1) hRf hRl
      have hlen : ∀ sig, parseMethodDescriptor (MD y).1.desc = some sig → (st.take na).reverse.length = sig.parameters.length := fun sig h9 => by
        rw [h9] at g2
        have e9 : sig.parameters.length = na := Option.some.inj g2
        rw [e9, List.length_reverse, List.length_take]; omega
      have hstk : st = (st.take na).reverse.reverse ++ st.drop na := by rw [List.reverse_reverse]; exact (List.take_append_drop na st).symm
      have hpre : ∀ vm₁, s.WarmedH vm₁ → PreOf R (h1.2.1 - h.2.1) (h1.2.2 - h.2.2) (ab_Pc cl D E ks aty base Hb ncs srs sts (st.take na).reverse h) ⟨T.setVm vm₁, locs, h.2.1 - c0, h.2.2 - s0⟩ (st.take na).reverse.toArray := fun vm₁ hWm => ⟨r1, r2, ab_pre hW0 hR0 hR hT hWm⟩
      have hcr : ab_CR p l e R s m args below meth c T locs (h.2.1 - c0) (h.2.2 - s0) (F0 m pc ls st) (st.drop na) (st.take na).reverse.toArray (PostOf (ab_Qc cl D E ks base Hb r h1) (h1.2.1 - h.2.1) (h1.2.2 - h.2.2) (fun q => base ≤ q)) (vx_Post (ab_XC cl D E ks base Hb en r h1) (h1.2.1 - h.2.1) (h1.2.2 - h.2.2) (fun q => base ≤ q)) := by
        rcases g4 with ⟨t1, t2⟩ | ⟨t1, t2⟩
        · have hcd : (Jvm.Cond.code (MD y).1 (MD y).2.1 (MD y).2.2.1 (MD y).2.2.2.1).before args s = true := by
            have h9 := hws _ q4
            unfold ab_cd at h9; rw [t1] at h9; exact h9
          rcases t2 with t2 | ⟨host, t2⟩
          · exact vx_callS X hx hown t2 g3 (hws _ q5) hcd q3 hbk (g := F0 m pc ls st) rfl hsz hlen hstk (by show 2 * 0 + _ ≤ 8; omega) (by rw [hb]; exact hdg) hpre
          · exact vx_callSN X hx hown t2 g3 (hws _ q5) hcd q3 hbk (g := F0 m pc ls st) rfl hsz hlen hstk (by show 2 * 0 + _ ≤ 8; omega) (by rw [hb]; exact hdg) hpre
        · have hcd : ∃ hh, (Jvm.Cond.codeWith (MD y).1 (MD y).2.1 (MD y).2.2.1 (MD y).2.2.2.1 hh).before args s = true := by
            have h9 := hws _ q4
            unfold ab_cd at h9
            split at h9
            · rename_i e9; exact absurd e9 t1
            · exact ⟨_, h9⟩
          obtain ⟨hh, hcd⟩ := hcd
          exact vx_callSX X hx hown t2 g3 (hws _ q5) hcd q3 hbk (g := F0 m pc ls st) rfl hsz hlen hstk (by show 2 * 0 + _ ≤ 8; omega) (by rw [hb]; exact hdg) hpre
      exact ab_after hx hb hown hW0.2.1 hl hlo hc0 hs0 hle g5 kk hcr
  case invokevirtual idx =>
    have hlen : len = 3 := by simpa [ab_lnok, ab_ln] using hln
    subst hlen
    match aux, hok, hf with
    | [], _, hf => cases hf
    | [_], _, hf => simp [ab_f] at hf
    | [_, _], _, hf => simp [ab_f] at hf
    | y0 :: na :: ci :: hd, hok, hf =>
      simp only [ab_f] at hf
      split at hf
      · rename_i a ha
        split at hf
        · rename_i cj fs hcj
          split at hf
          · rename_i hci
            subst hci
            obtain ⟨f1, f2, rfl, rfl, rfl, rfl, rfl, rfl⟩ := ab_call_inv hf
            obtain ⟨g1, g0, g2, g3, g4, g6, ⟨q, gq, gs⟩, g5⟩ := hok y na cj hd rfl
            obtain ⟨-, -, q3, q4, q5⟩ := hD y g1
            obtain ⟨t1, t2, t3⟩ := ab_take1 g0 ha
            have hbk := ab_back (p := p) (e := e) (below := below) (d := d) (R := R) (args := args) hD g1 hWk hws (hC g1) hRf hRl
            have hlen : ∀ sig, parseMethodDescriptor (MD y).1.desc = some sig → (st.take (na - 1)).reverse.length = sig.parameters.length := fun sig h9 => by
              rw [h9] at g2
              have e9 : sig.parameters.length = na - 1 := Option.some.inj g2
              rw [e9]; exact t3
            have hpre : ∀ vm₁, s.WarmedH vm₁ → PreOf R (h1.2.1 - h.2.1) (h1.2.2 - h.2.2) (ab_Pc cl D E ks aty base Hb ncs srs sts (st.take na).reverse h) ⟨T.setVm vm₁, locs, h.2.1 - c0, h.2.2 - s0⟩ (Value.ref a :: (st.take (na - 1)).reverse).toArray := fun vm₁ hWm => ⟨r1, r2, by rw [← t1]; exact ab_pre hW0 hR0 hR hT hWm⟩
            have hcd : (Jvm.Cond.code (MD y).1 (MD y).2.1 (MD y).2.2.1 (MD y).2.2.2.1).before args s = true := by
              have h9 := hws _ q4
              unfold ab_cd at h9; rw [g4] at h9; exact h9
            obtain ⟨⟨r0, u1, u2, cell, u3, u4, u5, u6⟩, u7⟩ := hR.2.2.2 _ _ hcj
            have hr0 : r0 = q := Option.some.inj (u1.symm.trans gq)
            subst hr0
            have hcell : T.heap[a]? = some cell := by rw [hT]; exact u3
            have hobj : cell.vm.isStatics = false := by rw [u5]; rfl
            have hcls : s.vm.findClass r0.1 = some cell.cls := by rw [u4]; exact (hW0.1.1 _ _ gq).2.1
            have hcr : ab_CR p l e R s m args below meth c T locs (h.2.1 - c0) (h.2.2 - s0) (F0 m pc ls st) (st.drop na) (Value.ref a :: (st.take (na - 1)).reverse).toArray (PostOf (ab_Qc cl D E ks base Hb r h1) (h1.2.1 - h.2.1) (h1.2.2 - h.2.2) (fun q => base ≤ q)) (vx_Post (ab_XC cl D E ks base Hb en r h1) (h1.2.1 - h.2.1) (h1.2.2 - h.2.2) (fun q => base ≤ q)) := by
              rcases g6 with g6 | ⟨host, g6⟩
              · exact vx_callV X hx hown g6 g3 gs hcd q3 hbk hcell hobj hcls (g := F0 m pc ls st) rfl hsz hlen t2 (by show 2 * 0 + _ ≤ 8; omega) (by rw [hb]; exact hdg) hpre
              · exact vx_callVN X hx hown g6 g3 gs hcd q3 hbk hcell hobj hcls (g := F0 m pc ls st) rfl hsz hlen t2 (by show 2 * 0 + _ ≤ 8; omega) (by rw [hb]; exact hdg) hpre
            exact ab_after hx hb hown hW0.2.1 hl hlo hc0 hs0 hle g5 kk hcr
          · cases hf
        · cases hf
      · cases hf
  case invokespecial idx =>
    have hlen : len = 3 := by simpa [ab_lnok, ab_ln] using hln
    subst hlen
    match aux, hok, hf with
    | [], _, hf => cases hf
    | [0], _, hf =>
      simp only [ab_f] at hf
      repeat' split at hf
      all_goals cases hf
    | [n + 1], _, hf => simp [ab_f] at hf
    | y0 :: na :: hd, hok, hf =>
      simp only [ab_f] at hf
      split at hf
      · rename_i a ha
        obtain ⟨f1, f2, rfl, rfl, rfl, rfl, rfl, rfl⟩ := ab_call_inv hf
        obtain ⟨g1, g0, g2, g3, g4, g7, g8, g6, g5⟩ := hok y na hd rfl
        obtain ⟨-, -, q3, q4, q5⟩ := hD y g1
        obtain ⟨t1, t2, t3⟩ := ab_take1 g0 ha
        have hbk := ab_back (p := p) (e := e) (below := below) (d := d) (R := R) (args := args) hD g1 hWk hws (hC g1) hRf hRl
        have hlen : ∀ sig, parseMethodDescriptor (MD y).1.desc = some sig → (st.take (na - 1)).reverse.length = sig.parameters.length := fun sig h9 => by
          rw [h9] at g2
          have e9 : sig.parameters.length = na - 1 := Option.some.inj g2
          rw [e9]; exact t3
        have hpre : ∀ vm₁, s.WarmedH vm₁ → PreOf R (h1.2.1 - h.2.1) (h1.2.2 - h.2.2) (ab_Pc cl D E ks aty base Hb ncs srs sts (st.take na).reverse h) ⟨T.setVm vm₁, locs, h.2.1 - c0, h.2.2 - s0⟩ (Value.ref a :: (st.take (na - 1)).reverse).toArray := fun vm₁ hWm => ⟨r1, r2, by rw [← t1]; exact ab_pre hW0 hR0 hR hT hWm⟩
        have hcd : (Jvm.Cond.code (MD y).1 (MD y).2.1 (MD y).2.2.1 none).before args s = true := by
          have h9 := hws _ q4
          unfold ab_cd at h9; rw [g4, g8] at h9; exact h9
        have hcr : ab_CR p l e R s m args below meth c T locs (h.2.1 - c0) (h.2.2 - s0) (F0 m pc ls st) (st.drop na) (Value.ref a :: (st.take (na - 1)).reverse).toArray (PostOf (ab_Qc cl D E ks base Hb r h1) (h1.2.1 - h.2.1) (h1.2.2 - h.2.2) (fun q => base ≤ q)) (vx_Post (ab_XC cl D E ks base Hb en r h1) (h1.2.1 - h.2.1) (h1.2.2 - h.2.2) (fun q => base ≤ q)) := by
          rcases g6 with g6 | ⟨host, g6⟩
          · exact vx_callI X hx hown g7 g6 g3 hcd q3 hbk (g := F0 m pc ls st) rfl hsz hlen t2 (by show 2 * 0 + _ ≤ 8; omega) (by rw [hb]; exact hdg) hpre
          · exact vx_callIN X hx hown g7 g6 g3 hcd q3 hbk (g := F0 m pc ls st) rfl hsz hlen t2 (by show 2 * 0 + _ ≤ 8; omega) (by rw [hb]; exact hdg) hpre
        exact ab_after hx hb hown hW0.2.1 hl hlo hc0 hs0 hle g5 kk hcr
      · cases hf
  all_goals (exfalso; simp only [ab_f, ab_nx, ab_ld, ab_sv, ab_i1, ab_i2, ab_l2, ab_al, ab_as, ab_br] at hf; repeat' split at hf)
  all_goals cases hf
end ABL
end
section
/-! THE TIE: a method's run on the abstract machine gives its contract. -/
/-- what an end needs -/
def ab_okR (meth : Method) (i : ab_I) : Prop := match i.1 with
  | .ireturn => ∃ ty, meth.sig.returnType = some ty ∧ ab_kt (ab_ax i.2.2 0) ty = true
  | .lreturn => meth.sig.returnType = some .long
  | .freturn => meth.sig.returnType = some .float
  | .dreturn => meth.sig.returnType = some .double
  | .areturn => ∃ ty, meth.sig.returnType = some ty ∧ ((∃ n, ty = .object n) ∨ ∃ t, ty = .array t)
  | .return_ => meth.sig.returnType = none
  | _ => True
/-- what 'throw new E("..")' needs -/
def ab_okT (srs : List (String × Nat × String)) (en : Nat → String) (own : String) (s : State) (args : Array Value) (c : Code) (cc : ByteArray) (pc : Nat) (i : ab_I) : Prop := match i.1 with
  | .new ik => ∀ (e : Nat) (tl : List Nat), i.2.2 = 1 :: e :: tl → ∃ (text Y0 : String) (r0 : List String) (is ic jx : Nat), ab_sixok jx ∧ Bundle.fit (en e) = true ∧ (∀ n ∈ Y0 :: r0, Bundle.fit n = true) ∧ (Y0 :: r0).length ≤ 5 ∧ (own, is, text) ∈ srs ∧ (Jvm.Cond.classLink own ik (en e)).before args s = true ∧ (Jvm.Cond.initialized (en e)).before args s = true ∧ (∀ w ∈ ab_atS own ic (en e) jx Y0 r0, w.before args s = true) ∧
      (∀ w ∈ Jvm.Cond.classLink own ik (en e) :: Jvm.Cond.initialized (en e) :: ab_atS own ic (en e) jx Y0 r0, vx_ot w = true) ∧ decode cc pc = .ok (.new ik, 3) ∧ decode cc (pc + 3) = .ok (.dup, 1) ∧
      ((decode cc (pc + 4) = .ok (.ldc is, 2) ∧ decode cc (pc + 6) = .ok (.invokespecial ic, 3) ∧ decode cc (pc + 9) = .ok (.athrow, 1) ∧ ∀ x ∈ c.exceptionTable.toList, covers x (pc + 9) = false) ∨
       (decode cc (pc + 4) = .ok (.ldc_w is, 3) ∧ decode cc (pc + 7) = .ok (.invokespecial ic, 3) ∧ decode cc (pc + 10) = .ok (.athrow, 1) ∧ ∀ x ∈ c.exceptionTable.toList, covers x (pc + 10) = false))
  | _ => True
def ab_okI (MD : Nat → ab_D) (vm : Nat → Bool) (cl : List vw_C) (aty : Nat → FieldType) (ks : Nat → Bool) (Hb : Heap) (base : Nat) (sv : Nat → Value) (ncs : List (String × String)) (srs : List (String × Nat × String)) (en : Nat → String) (own : String) (s : State) (args : Array Value) (meth : Method) (c : Code) (cc : ByteArray) (nL pc : Nat) (i : ab_I) : Prop :=
  decode cc pc = .ok (i.1, i.2.1) ∧ ab_lnok i = true ∧ ab_okS cl aty ks Hb base sv own s args meth i ∧ ab_okC MD vm cl ncs en own s args c cc nL pc i ∧ ab_okR meth i ∧ ab_okT srs en own s args c cc pc i
section ABE
variable {cl : List vw_C} {D : va_G} {E : Nat → ClassId} {ks : Nat → Bool} {aty : Nat → FieldType} {base : Nat} {Hb : Heap} {ncs : List (String × String)} {srs : List (String × Nat × String)} {sts : List (String × String × String × Value)} {MD : Nat → ab_D} {Wl : List Jvm.Cond} {en : Nat → String} {vm : Nat → Bool}
variable {nL : Nat} {p : Program} {l : Launch} {e : Env} {R : Room} {s : State} {m : MethodId} {args : Array Value} {below : List Frame} {meth : Method} {c : Code} {c0 s0 d : Nat} {sv : Nat → Value}
theorem ab_end {cc : ByteArray} {own : String} {i : ab_I} {pc : Nat} {lo : ab_L} {st : List Value} {h h0 h' : ab_H} {r : ab_R}
    (hx : p.tables.exec = Jvm.exec) (hb : c.code = cc) (hml : c.maxLocals = nL) (hown : s.vm.findClass own = some m.cls) (hls : l.stackTraces = false) (hlocks : meth.locks = false)
    (hW0 : ab_World cl D E ks aty base ncs srs sts s s.heap) (hR0 : ab_Rl cl D E ks base Hb h0 s.heap) (hc00 : h0.2.1 = c0) (hRf : d + 11 ≤ R.frames) (hRl : 100 * d + 300 ≤ R.locals) (hc0 : c0 ≤ h.2.1) (hs0 : s0 ≤ h.2.2) (hRc : h'.2.1 - c0 ≤ R.cells) (hRs : h'.2.2 - s0 ≤ R.slots)
    (hok : ab_okI MD vm cl aty ks Hb base sv ncs srs en own s args meth c cc nL pc i) (hf : ab_f sv i pc lo st h = some (.inr (.inl (r, h')))) : ab_Wn cl D E ks base Hb nL p l e R s m args below meth c (vx_MQ below (ab_Qc cl D E ks base Hb r h') (ab_XC cl D E ks base Hb en r h') args s (h'.2.1 - c0) (h'.2.2 - s0) (fun q => base ≤ q)) c0 s0 pc lo st h := by
  obtain ⟨hdg, hln, -, -, hr, hth⟩ := hok
  intro ls H locs hl hR hlo
  obtain ⟨I, len, aux⟩ := i
  change decode cc pc = .ok (I, len) at hdg
  cases I
  case ireturn =>
    have hlen : len = 1 := by simpa [ab_lnok, ab_ln] using hln
    subst hlen
    simp only [ab_f] at hf
    split at hf
    · split at hf
      · rename_i x hfit
        simp only [Option.some.injEq, Sum.inr.injEq, Sum.inl.injEq, Prod.mk.injEq] at hf
        obtain ⟨rfl, rfl⟩ := hf
        obtain ⟨ty, t1, t2⟩ := hr
        exact vx_ret (W.zret hx hb t1 (ab_kt_fits t2 hfit).1 (fun t ht _ => ⟨_, rfl, rfl, by rw [ht]; exact hR⟩) hlo hdg hlocks)
      · cases hf
    · cases hf
  case lreturn =>
    have hlen : len = 1 := by simpa [ab_lnok, ab_ln] using hln
    subst hlen
    simp only [ab_f] at hf
    split at hf
    · simp only [Option.some.injEq, Sum.inr.injEq, Sum.inl.injEq, Prod.mk.injEq] at hf
      obtain ⟨rfl, rfl⟩ := hf
      exact vx_ret (W.lret hx hb hr (fun t ht _ => ⟨_, rfl, rfl, by rw [ht]; exact hR⟩) hlo hdg hlocks)
    · cases hf
  case freturn =>
    have hlen : len = 1 := by simpa [ab_lnok, ab_ln] using hln
    subst hlen
    simp only [ab_f] at hf
    split at hf
    · simp only [Option.some.injEq, Sum.inr.injEq, Sum.inl.injEq, Prod.mk.injEq] at hf
      obtain ⟨rfl, rfl⟩ := hf
      exact vx_ret (W.fret hx hb hr (fun t ht _ => ⟨_, rfl, rfl, by rw [ht]; exact hR⟩) hlo hdg hlocks)
    · cases hf
  case dreturn =>
    have hlen : len = 1 := by simpa [ab_lnok, ab_ln] using hln
    subst hlen
    simp only [ab_f] at hf
    split at hf
    · simp only [Option.some.injEq, Sum.inr.injEq, Sum.inl.injEq, Prod.mk.injEq] at hf
      obtain ⟨rfl, rfl⟩ := hf
      exact vx_ret (W.dret hx hb hr (fun t ht _ => ⟨_, rfl, rfl, by rw [ht]; exact hR⟩) hlo hdg hlocks)
    · cases hf
  case areturn =>
    have hlen : len = 1 := by simpa [ab_lnok, ab_ln] using hln
    subst hlen
    simp only [ab_f] at hf
    split at hf
    · split at hf
      · rename_i v hfit
        simp only [Option.some.injEq, Sum.inr.injEq, Sum.inl.injEq, Prod.mk.injEq] at hf
        obtain ⟨rfl, rfl⟩ := hf
        obtain ⟨ty, t1, t2⟩ := hr
        exact vx_ret (W.aret hx hb t1 t2 (ab_fit6 hfit) (fun t ht _ => ⟨_, rfl, rfl, by rw [ht]; exact hR⟩) hlo hdg hlocks)
      · cases hf
    · cases hf
  case return_ =>
    have hlen : len = 1 := by simpa [ab_lnok, ab_ln] using hln
    subst hlen
    simp only [ab_f] at hf
    split at hf
    · simp only [Option.some.injEq, Sum.inr.injEq, Sum.inl.injEq, Prod.mk.injEq] at hf
      obtain ⟨rfl, rfl⟩ := hf
      exact vx_ret (W.vret hx hb hr (fun t ht _ => ⟨_, rfl, rfl, by rw [ht]; exact hR⟩) hlo hdg hlocks)
    · cases hf
  case new ik =>
    match aux, hth, hf with
    | [], _, hf => cases hf
    | [_], _, hf => simp [ab_f] at hf
    | 0 :: _ :: _, _, hf => simp [ab_f, ab_nx] at hf
    | (n + 2) :: _ :: _, _, hf => simp [ab_f] at hf
    | 1 :: ex :: tl, hth, hf =>
      simp only [ab_f] at hf
      split at hf
      · rename_i hsum
        have hsum : (st.map fun v => v.category).sum ≤ 8 := hsum
        simp only [Option.some.injEq, Sum.inr.injEq, Sum.inl.injEq, Prod.mk.injEq] at hf
        obtain ⟨rfl, rfl⟩ := hf
        obtain ⟨text, Y0, r0, is, ic, jx, hj, t1, t2, t3, t4, t5, t6, t7, t8, t9, t10, t11⟩ := hth ex tl rfl
        obtain ⟨w1, w2, w3, w4, w5, w6⟩ := hW0
        obtain ⟨sa, hsa⟩ := w3 _ t4
        have hRc : h.2.1 + 1 - c0 ≤ R.cells := hRc
        have hRs : h.2.2 + 6 - s0 ≤ R.slots := hRs
        have hS : va_S (fun q => base ≤ q) s.heap H locs := ⟨by have := hR0.2.1; have := hR.2.1; omega, fun q hq hnb => by rw [hR.2.2.1 q (by omega), hR0.2.2.1 q (by omega)], hlo⟩
        have hXC : ∀ t : State, s.vm.Alike t.vm → t.heap.size = H.size + 1 → (∀ q : Nat, q < H.size → t.heap[q]? = H[q]?) → ab_XC cl D E ks base Hb en (.inr ex) (h.1, h.2.1 + 1, h.2.2 + 6) (en ex) s t := fun t _ hz ho => by
          obtain ⟨r1, r2, r3, r4⟩ := hR
          exact ⟨ex, rfl, rfl, by omega, by show h.2.1 + 1 = _; omega, fun q hq => (ho q (by omega)).trans (r3 q hq), fun a d hd => (r4 a d hd).kept (ho a (r4 a d hd).lt)⟩
        rcases t11 with ⟨d4, d6, d9, dout⟩ | ⟨d4, d6, d9, dout⟩
        · exact ab_throwS hx hb hls hj hown t1 t2 t5 t6 hsa t7 t8 w4 w5 hS (hl.2.1.trans hml.symm) t9 t10 d4 d6 d9 dout (by omega) (by omega) (by omega) (by omega) hlocks hXC hlo (by show _ ≤ h.2.1 + 1 - c0; omega) (by show _ ≤ h.2.2 + 6 - s0; omega)
        · exact ab_throwSW hx hb hls hj hown t1 t2 t5 t6 hsa t7 t8 w4 w5 hS (hl.2.1.trans hml.symm) t9 t10 d4 d6 d9 dout (by omega) (by omega) (by omega) (by omega) hlocks hXC hlo (by show _ ≤ h.2.1 + 1 - c0; omega) (by show _ ≤ h.2.2 + 6 - s0; omega)
      · cases hf
  all_goals (exfalso; simp only [ab_f, ab_nx, ab_ld, ab_sv, ab_i1, ab_i2, ab_l2, ab_al, ab_as, ab_br, ab_call] at hf; repeat' split at hf)
  all_goals cases hf
theorem ab_bodyQ {QQ : State → Prop} {mt : Nat → (Nat → Option ab_I) × Nat} {cc : ByteArray} {own : String} {k : Nat → Option ab_I} {h0 h' : ab_H} {r : ab_R}
    (hx : p.tables.exec = Jvm.exec) (hb : c.code = cc) (hml : c.maxLocals = nL) (hown : s.vm.findClass own = some m.cls) (hls : l.stackTraces = false) (hlocks : meth.locks = false) (hD : ab_okD MD Wl vm) (hWk : ∀ w ∈ Wl, ab_kp w = true) (hws : ∀ w ∈ Wl, w.before args s = true)
    (hW0 : ab_World cl D E ks aty base ncs srs sts s s.heap) (hR0 : ab_Rl cl D E ks base Hb h0 s.heap) (hRf : d + 11 ≤ R.frames) (hRl : 100 * d + 300 ≤ R.locals) (hRc : h'.2.1 - h0.2.1 ≤ R.cells) (hRs : h'.2.2 - h0.2.2 ≤ R.slots)
    (hok : ∀ pc i, k pc = some i → ab_okI MD vm cl aty ks Hb base sv ncs srs en own s args meth c cc nL pc i)
    (hend : ∀ (pc : Nat) (i : ab_I) (lo : ab_L) (st : List Value) (h : ab_H), ab_le h0 h → k pc = some i → ab_f sv i pc lo st h = some (.inr (.inl (r, h'))) → ab_Wn cl D E ks base Hb nL p l e R s m args below meth c QQ h0.2.1 h0.2.2 pc lo st h)
    (IH : ∀ (y : Nat) (as : List Value) (h : ab_H) (r : ab_R) (h1 : ab_H), vm y = true → ab_run sv mt d y as h (ab_is r h1) → ab_Ct l MD Wl en cl D E ks aty base Hb ncs srs sts d y as h r h1) :
    ∀ (n pc : Nat) (lo : ab_L) (st : List Value) (h : ab_H), ab_le h0 h → ab_go sv (ab_run sv mt d) k (ab_is r h') n pc lo st h →
      ab_Wn cl D E ks base Hb nL p l e R s m args below meth c QQ h0.2.1 h0.2.2 pc lo st h
  | 0, _, _, _, _, _, x => x.elim
  | n + 1, pc, lo, st, h, hle, x => by
    have hmo := ab_run_mon sv mt d
    have hde := ab_run_det sv mt d
    have hup : ∀ {n pc lo st h1}, ab_go sv (ab_run sv mt d) k (ab_is r h') n pc lo st h1 → ab_le h1 h' := by
      intro n pc lo st h1 y
      obtain ⟨r2, h2, ⟨-, q1⟩, q2, -⟩ := ab_go_det hmo hde n pc lo st h1 y
      rw [← q1]; exact q2
    unfold ab_go at x
    split at x
    · rename_i i hi
      have hoi := hok pc i hi
      have hg := ab_f_ge sv i pc lo st h
      unfold ab_x at x
      split at x
      · rename_i pc' lo' st' h1 hf
        rw [hf] at hg
        have hg : ab_le h h1 := hg
        have hle1 := ab_le.tr hle hg
        have hle2 := hup x
        exact ab_step hx hb hml hW0.1 hown (by omega) (by omega) hle.1 hle.2 (by have := hle2.1; omega) (by have := hle2.2; omega) hoi.1 hoi.2.1 hoi.2.2.1 hf (ab_bodyQ hx hb hml hown hls hlocks hD hWk hws hW0 hR0 hRf hRl hRc hRs hok hend IH n pc' lo' st' h1 hle1 x)
      · rename_i r1 h1 hf
        obtain ⟨rfl, rfl⟩ := x
        exact hend pc i lo st h hle hi hf
      · rename_i y as pc' lo' st' hs hf
        obtain ⟨r1, h1, q1, q2, q3⟩ := hde _ _ _ _ x
        have hle1 := ab_le.tr hle q2
        have hle2 : ab_le h1 h' := by
          cases r1 with
          | inl v => exact hup q1
          | inr ex =>
            have q1 : ab_hd (ab_go sv (ab_run sv mt d) k (ab_is r h') n) lo' h1 (hs.lookup ex) := q1
            cases hlk : hs.lookup ex with
            | none => rw [hlk] at q1; exact q1.elim
            | some pk => rw [hlk] at q1; exact hup q1
        refine ab_callW (d := d) hx hb hml hown hD hWk hws hW0 hR0 hRf hRl hle.1 hle.2 q2 (by have := hle2.1; omega) (by have := hle2.2; omega) hoi.1 hoi.2.1 hoi.2.2.2.1 hf (fun hv => IH y as h r1 h1 hv q3) ?_
        cases r1 with
        | inl v => exact ab_bodyQ hx hb hml hown hls hlocks hD hWk hws hW0 hR0 hRf hRl hRc hRs hok hend IH n pc' lo' (v.toList ++ st') h1 hle1 q1
        | inr ex =>
          have q1 : ab_hd (ab_go sv (ab_run sv mt d) k (ab_is r h') n) lo' h1 (hs.lookup ex) := q1
          show ab_hd _ lo' h1 (hs.lookup ex)
          cases hlk : hs.lookup ex with
          | none => rw [hlk] at q1; exact q1.elim
          | some pk =>
            rw [hlk] at q1
            exact ab_bodyQ hx hb hml hown hls hlocks hD hWk hws hW0 hR0 hRf hRl hRc hRs hok hend IH n pk.1 _ [] h1 hle1 q1
      · exact x.elim
    · exact x.elim
theorem ab_body {mt : Nat → (Nat → Option ab_I) × Nat} {cc : ByteArray} {own : String} {k : Nat → Option ab_I} {h0 h' : ab_H} {r : ab_R}
    (hx : p.tables.exec = Jvm.exec) (hb : c.code = cc) (hml : c.maxLocals = nL) (hown : s.vm.findClass own = some m.cls) (hls : l.stackTraces = false) (hlocks : meth.locks = false) (hD : ab_okD MD Wl vm) (hWk : ∀ w ∈ Wl, ab_kp w = true) (hws : ∀ w ∈ Wl, w.before args s = true)
    (hW0 : ab_World cl D E ks aty base ncs srs sts s s.heap) (hR0 : ab_Rl cl D E ks base Hb h0 s.heap) (hRf : d + 11 ≤ R.frames) (hRl : 100 * d + 300 ≤ R.locals) (hRc : h'.2.1 - h0.2.1 ≤ R.cells) (hRs : h'.2.2 - h0.2.2 ≤ R.slots)
    (hok : ∀ pc i, k pc = some i → ab_okI MD vm cl aty ks Hb base sv ncs srs en own s args meth c cc nL pc i)
    (IH : ∀ (y : Nat) (as : List Value) (h : ab_H) (r : ab_R) (h1 : ab_H), vm y = true → ab_run sv mt d y as h (ab_is r h1) → ab_Ct l MD Wl en cl D E ks aty base Hb ncs srs sts d y as h r h1) :
    ∀ (n pc : Nat) (lo : ab_L) (st : List Value) (h : ab_H), ab_le h0 h → ab_go sv (ab_run sv mt d) k (ab_is r h') n pc lo st h →
      ab_Wn cl D E ks base Hb nL p l e R s m args below meth c (vx_MQ below (ab_Qc cl D E ks base Hb r h') (ab_XC cl D E ks base Hb en r h') args s (h'.2.1 - h0.2.1) (h'.2.2 - h0.2.2) (fun q => base ≤ q)) h0.2.1 h0.2.2 pc lo st h :=
  ab_bodyQ hx hb hml hown hls hlocks hD hWk hws hW0 hR0 hRf hRl hRc hRs hok (fun pc i lo st h hle hi hf => ab_end hx hb hml hown hls hlocks hW0 hR0 rfl hRf hRl hle.1 hle.2 hRc hRs (hok pc i hi) hf) IH
theorem ab_in_args : ∀ (vs : List Value) (j i : Nat) (v : Value), (ab_in vs)[i]? = some (some v) → (j + i, v) ∈ lv_args j vs
  | [], _, _, _, h => by simp [ab_in] at h
  | x :: vs, j, i, v, h => by
    unfold ab_in at h
    unfold lv_args
    cases i with
    | zero =>
      simp at h
      rw [h]
      exact List.mem_cons_self
    | succ i =>
      rw [List.getElem?_cons_succ] at h
      refine List.mem_cons_of_mem _ ?_
      split at h
      · rename_i hc
        rw [if_pos hc]
        cases i with
        | zero => simp at h
        | succ i =>
          rw [List.getElem?_cons_succ] at h
          have := ab_in_args vs (j + 2) i v h
          rw [show j + (i + 1 + 1) = j + 2 + i by omega]
          exact this
      · rename_i hc
        rw [if_neg hc]
        have := ab_in_args vs (j + 1) i v h
        rw [show j + (i + 1) = j + 1 + i by omega]
        exact this
theorem ab_in_len : ∀ (vs : List Value), (lg_sl vs).length = (ab_in vs).length
  | [] => rfl
  | x :: vs => by
    have ih := ab_in_len vs
    have e : lg_sl (x :: vs) = lg_sl [x] ++ lg_sl vs := by simp [lg_sl]
    rw [e, List.length_append, ih]
    show _ = List.length (some x :: (if x.category = 2 then none :: ab_in vs else ab_in vs))
    by_cases hc : x.category = 2
    · have e2 : (lg_sl [x]).length = 2 := by simp [lg_sl, hc]
      rw [e2, if_pos hc]
      simp; omega
    · have e2 : (lg_sl [x]).length = 1 := by simp [lg_sl, hc]
      rw [e2, if_neg hc]
      simp; omega
theorem ab_entry {vs : List Value} {n : Nat} (h : (ab_in vs).length ≤ n) : ab_LR ((lg_sl vs ++ List.replicate (n - (lg_sl vs).length) Slot.unset).toArray) n (ab_init vs n) := by
  obtain ⟨h1, h2, h3⟩ := lv_entry vs (n := n) (by rw [ab_in_len]; exact h)
  refine ⟨by unfold ab_init; simp; omega, h1, h2, fun i v hi => ?_⟩
  unfold ab_init at hi
  by_cases hlt : i < (ab_in vs).length
  · rw [List.getElem?_append_left hlt] at hi
    have := ab_in_args vs 0 i v hi
    rw [Nat.zero_add] at this
    exact h3 _ this
  · rw [List.getElem?_append_right (by omega), List.getElem?_replicate] at hi
    split at hi
    · simp at hi
    · cases hi
end ABE
/-- what every method's code must be, wherever its words and the world stand -/
def ab_okM (MD : Nat → ab_D) (Wl : List Jvm.Cond) (vm : Nat → Bool) (mt : Nat → (Nat → Option ab_I) × Nat) (cl : List vw_C) (D : va_G) (E : Nat → ClassId) (ks : Nat → Bool) (aty : Nat → FieldType) (base : Nat) (Hb : Heap) (ncs : List (String × String)) (srs : List (String × Nat × String)) (sts : List (String × String × String × Value)) (en : Nat → String) (sv : Nat → Value) : Prop :=
  ∀ y, vm y = true → (mt y).2 = (MD y).2.2.1 ∧ ∀ (s : State) (args : Array Value) (m : MethodId) (meth : Method) (c : Code) (h0 : ab_H), (∀ w ∈ Wl, w.before args s = true) → ab_World cl D E ks aty base ncs srs sts s s.heap → ab_Rl cl D E ks base Hb h0 s.heap → s.vm.findClass (MD y).1.cls = some m.cls → meth.sig.returnType = (MD y).2.2.2.1 → meth.name = (MD y).1.name → c.exceptionTable.toList = tableOf (MD y).2.2.2.2 →
    ∀ (pc : Nat) (i : ab_I), (mt y).1 pc = some i → ab_okI MD vm cl aty ks Hb base sv ncs srs en (MD y).1.cls s args meth c (MD y).2.1 (MD y).2.2.1 pc i
theorem ab_contract {cl : List vw_C} {D : va_G} {E : Nat → ClassId} {ks : Nat → Bool} {aty : Nat → FieldType} {base : Nat} {Hb : Heap} {ncs : List (String × String)} {srs : List (String × Nat × String)} {sts : List (String × String × String × Value)} {MD : Nat → ab_D} {Wl : List Jvm.Cond} {en : Nat → String} {vm : Nat → Bool} {mt : Nat → (Nat → Option ab_I) × Nat} {sv : Nat → Value} {l : Launch}
    (hls : l.stackTraces = false) (hD : ab_okD MD Wl vm) (hWk : ∀ w ∈ Wl, ab_kp w = true) (hM : ab_okM MD Wl vm mt cl D E ks aty base Hb ncs srs sts en sv) : ∀ (d y : Nat) (as : List Value) (h : ab_H) (r : ab_R) (h' : ab_H), vm y = true → ab_run sv mt d y as h (ab_is r h') → ab_Ct l MD Wl en cl D E ks aty base Hb ncs srs sts d y as h r h'
  | 0, _, _, _, _, _, _, x => x.elim
  | d + 1, y, as, h, r, h', hy, x => by
    obtain ⟨hin, n, x⟩ := x
    obtain ⟨hm1, hm2⟩ := hM y hy
    rw [hm1] at hin x
    obtain ⟨h60, hpl, hnm, hcd, hini⟩ := hD y hy
    have IH := ab_contract hls hD hWk hM d
    have go : ∀ (p : Program) (e : Env) (s : State) (m : MethodId) (args : Array Value) (below : List Frame) (meth : Method) (c : Code) (s₁ : State), BodyLoose p l (MD y).1 (headSpec (ab_cd (MD y) :: Wl) (ab_rm (d + 1) (h'.2.1 - h.2.1) (h'.2.2 - h.2.2))) (MD y).2.1 (MD y).2.2.1 (MD y).2.2.2.1 e s m args below meth c s₁ → c.maxLocals = (MD y).2.2.1 → c.exceptionTable.toList = tableOf (MD y).2.2.2.2 → ab_Pc cl D E ks aty base Hb ncs srs sts as h args s →
        W p l e (headSpec (ab_cd (MD y) :: Wl) (ab_rm (d + 1) (h'.2.1 - h.2.1) (h'.2.2 - h.2.2))).room s m args below meth c s.heap [] 0 0 (vx_MQ below (ab_Qc cl D E ks base Hb r h') (ab_XC cl D E ks base Hb en r h') args s (h'.2.1 - h.2.1) (h'.2.2 - h.2.2) (fun q => base ≤ q)) (entryFrame m args (MD y).2.2.1) := by
      intro p e s m args below meth c s₁ B hml htab hv
      obtain ⟨rfl, hR, hW⟩ := hv
      have hts := atoms_spec (ws := ab_cd (MD y) :: Wl) B.pre
      have hws : ∀ w ∈ Wl, w.before as.toArray s = true := fun w hw => hts w (List.mem_cons_of_mem _ hw)
      have hown : s.vm.findClass (MD y).1.cls = some m.cls := findClass_of_methodNamed B.named
      have hnme := (name_of_methodNamed B.named B.method).1
      have hok := hm2 s as.toArray m meth c h hws hW hR hown B.returns hnme htab
      have hb := ab_body (p := p) (e := e) (below := below) (d := d) (R := (headSpec (ab_cd (MD y) :: Wl) (ab_rm (d + 1) (h'.2.1 - h.2.1) (h'.2.2 - h.2.2))).room) (mt := mt) (sv := sv) (c := c) (h' := h') (r := r) B.exec B.bytes hml hown hls B.notSynchronized hD hWk hws hW hR (by show d + 11 ≤ d + 1 + 10; omega) (by show 100 * d + 300 ≤ 100 * (d + 1) + 200; omega) (Nat.le_refl _) (Nat.le_refl _) hok (fun y as h r h1 hv q => IH y as h r h1 hv q) n 0 (ab_init as (MD y).2.2.1) [] h (ab_le.rf h) x
      have hg := hb _ s.heap [] (ab_entry hin) hR (fun q hq => nomatch hq)
      rw [Nat.sub_self, Nat.sub_self] at hg
      rw [lg_entry_eq]
      exact hg
    unfold ab_Ct
    cases ht : (MD y).2.2.2.2 with
    | nil =>
      have e1 : ab_cd (MD y) = .code (MD y).1 (MD y).2.1 (MD y).2.2.1 (MD y).2.2.2.1 := by unfold ab_cd; rw [ht]
      refine vx_ofW (cc := (MD y).2.1) (maxL := (MD y).2.2.1) (ret := (MD y).2.2.2.1) hpl (by rw [e1]) ?_
      intro p e s m args below meth c s₁ B hml hex hv
      refine go p e s m args below meth c s₁ B hml ?_ hv
      rw [ht]
      cases hq : c.exceptionTable.toList with
      | nil => rfl
      | cons z zs => exact (hex z (by rw [hq]; exact List.mem_cons_self)).elim
    | cons t q =>
      have e1 : ab_cd (MD y) = .codeWith (MD y).1 (MD y).2.1 (MD y).2.2.1 (MD y).2.2.2.1 (t :: q) := by unfold ab_cd; rw [ht]
      refine vx_ofWH (cc := (MD y).2.1) (maxL := (MD y).2.2.1) (ret := (MD y).2.2.2.1) (hh := t :: q) hpl (by rw [e1]) ?_
      intro p e s m args below meth c s₁ B hml hv
      refine go p e s m args below meth c s₁ B hml ?_ hv
      rw [ht]
      have hts := atoms_spec (ws := ab_cd (MD y) :: Wl) B.pre
      have h9 := hts _ List.mem_cons_self
      rw [e1] at h9
      exact vx_table (x := (MD y).1) B h9
end
section
/-! A CHECK BY PROGRAM: the tables of a claim (its methods' code with the places of the words that each instruction needs) give what the tie asks of them. -/
/-- a row of a method's code: its place, the instruction, the places of the words that it needs -/
abbrev ck_Row : Type := Nat × ab_I × List Nat
def ck_w (tbl : List Jvm.Cond) (ix : Nat) (w : Jvm.Cond) : Bool := decide (tbl[ix]? = some w) && ab_kp w
def ck_x (l : List Nat) (i : Nat) : Nat := l.getD i 0
def ck_fl (tbl : List Jvm.Cond) (own : String) (idx : Nat) (q : String × String × String × Bool) (l : List Nat) : Bool := match tbl[ck_x l 0]? with
  | some (.fieldLink o i r a b) => decide (o = own) && decide (i = idx) && decide (a = q.2.1) && decide (b = q.2.2.1) && (decide (r = q.1) || ck_w tbl (ck_x l 1) (.sameField r q.1 a b))
  | some (.fieldLinkNest o i r a b _) => decide (o = own) && decide (i = idx) && decide (a = q.2.1) && decide (b = q.2.2.1) && (decide (r = q.1) || ck_w tbl (ck_x l 1) (.sameField r q.1 a b))
  | _ => false
/-- the classes: their fields' words, types, names -/
def ck_cls (tbl : List Jvm.Cond) (q : vw_C) (ty : Nat → FieldType) : Bool :=
  ((u_ws q.1 q.2.1 q.2.2).all fun w => decide (w ∈ tbl) && ab_kp w) && ((List.range q.2.2).all fun j => decide (parseFieldDescriptor (q.2.1 j).2.2.1 = some (ty j))) && ((List.range q.2.2).all fun a => (List.range q.2.2).all fun b => decide (a = b) || !decide ((q.2.1 a).2.1 = (q.2.1 b).2.1))
def ck_ml (tbl : List Jvm.Cond) (own : String) (idx : Nat) (y : MethodName) (nest : Bool) (ix : Nat) : Bool := match tbl[ix]? with
  | some (.methodLink o i x) => decide (o = own) && decide (i = idx) && decide (x = y)
  | some (.methodLinkNest o i x _) => nest && decide (o = own) && decide (i = idx) && decide (x = y)
  | _ => false
/-- a handler among the rows of the table: l has, a row that covers the place, the place of its class's link; last the place of 'castable' -/
def ck_hr (tbl : List Jvm.Cond) (ncs : List (String × String)) (X own : String) (cc : ByteArray) (nL pc p k : Nat) : List (Nat × Nat × Nat × Nat) → List Nat → Bool
  | (a, b, h, t) :: rows, l => if covers ⟨a, b, h, t⟩ pc = false then ck_hr tbl ncs X own cc nL pc p k rows l else match l with
    | ix :: l => match tbl[ix]? with
      | some (.classLink o i nm) => decide (o = own) && decide (i = t) && decide (t ≠ 0) && ab_kp (.classLink o i nm) && (if (X, nm) ∈ ncs then ck_hr tbl ncs X own cc nL pc p k rows l else
          ck_w tbl (ck_x l 0) (.castable X nm) && decide (k < nL) && ((decide (decode cc h = .ok (.astore k, 2)) && decide (p = h + 2)) || (if hk : k < 4 then decide (decode cc h = .ok (.astore_n ⟨k, hk⟩, 1)) && decide (p = h + 1) else false)))
      | _ => false
    | [] => false
  | [], _ => false
def ck_hs (tbl : List Jvm.Cond) (ncs : List (String × String)) (en : Nat → String) (own : String) (cc : ByteArray) (nL pc : Nat) (rows : List (Nat × Nat × Nat × Nat)) (hd : List Nat) (l : List (List Nat)) : Bool :=
  (ab_hs hd).zipIdx.all fun q => ck_hr tbl ncs (en q.1.1) own cc nL pc q.1.2.1 q.1.2.2 rows (l.getD q.2 [])
def ck_sp : Nat → List Nat → List (List Nat)
  | k + 1, n :: l => (l.take n) :: ck_sp k (l.drop n)
  | _, _ => []
def ck_split (l : List Nat) : List (List Nat) := ck_sp l.length l
def ck_n0 (tbl : List Jvm.Cond) (cl : List vw_C) (ty : Nat → Nat → FieldType) (own : String) (idx : Nat) (l : List Nat) (ci : Nat) (ts : List Nat) : Bool := match cl[ci]? with
  | some q => decide (q.2.2 = ts.length) && (ts.zipIdx.all fun x => decide (defaultValue (ty ci x.2) = ab_dv x.1)) && ck_w tbl (ck_x l 0) (.classLink own idx q.1) && ck_w tbl (ck_x l 1) (.instantiable q.1 ts.length) && ck_w tbl (ck_x l 2) (.initialized q.1)
  | none => false
def ck_nm : List String := ["java/lang/RuntimeException", "java/lang/Exception"]
def ck_n1 (tbl : List Jvm.Cond) (srs : List (String × Nat × String)) (en : Nat → String) (me : ab_D) (idx pc : Nat) (l : List Nat) (e : Nat) : Bool := match srs[ck_x l 2]? with
  | some sr => decide (sr.1 = me.1.cls) && decide (sr.2.1 = ck_x l 3) && Bundle.fit (en e) && (ck_nm.all fun n => Bundle.fit n) && ck_w tbl (ck_x l 0) (.classLink me.1.cls idx (en e)) && ck_w tbl (ck_x l 1) (.initialized (en e)) && ab_sixB (ck_x l 5) && ((ab_atS me.1.cls (ck_x l 4) (en e) (ck_x l 5) "java/lang/RuntimeException" ["java/lang/Exception"]).all fun w => decide (w ∈ tbl) && ab_kp w && vx_ot w) && vx_ot (.classLink me.1.cls idx (en e)) && vx_ot (.initialized (en e)) &&
      decide (decode me.2.1 pc = .ok (.new idx, 3)) && decide (decode me.2.1 (pc + 3) = .ok (.dup, 1)) && me.2.2.2.2.isEmpty &&
      ((decide (decode me.2.1 (pc + 4) = .ok (.ldc (ck_x l 3), 2)) && decide (decode me.2.1 (pc + 6) = .ok (.invokespecial (ck_x l 4), 3)) && decide (decode me.2.1 (pc + 9) = .ok (.athrow, 1))) || (decide (decode me.2.1 (pc + 4) = .ok (.ldc_w (ck_x l 3), 3)) && decide (decode me.2.1 (pc + 7) = .ok (.invokespecial (ck_x l 4), 3)) && decide (decode me.2.1 (pc + 10) = .ok (.athrow, 1))))
  | none => false
def ck_i (tbl : List Jvm.Cond) (MD : Nat → ab_D) (vm : Nat → Bool) (cl : List vw_C) (ty : Nat → Nat → FieldType) (aty : Nat → FieldType) (ks : Nat → Bool) (sn : List (String × String × String)) (ncs : List (String × String)) (srs : List (String × Nat × String)) (en : Nat → String) (me : ab_D) (pc : Nat) (i : ab_I) (l : List Nat) : Bool :=
  let own := me.1.cls
  let cc := me.2.1
  let aux := i.2.2
  decide (decode cc pc = .ok (i.1, i.2.1)) && ab_lnok i && match i.1 with
  | .ldc idx => ck_w tbl (ck_x l 0) (.constant own idx (Int32.ofNat (ab_ax aux 0)))
  | .ldc_w idx => ck_w tbl (ck_x l 0) (.constant own idx (Int32.ofNat (ab_ax aux 0)))
  | .ldc2_w idx => if ab_ax aux 1 = 1 then ck_w tbl (ck_x l 0) (.constantLong own idx (Int64.ofNat (ab_ax aux 0))) else ck_w tbl (ck_x l 0) (.constantDouble own idx (UInt64.ofNat (ab_ax aux 0)))
  | .getstatic idx => match sn[ab_ax aux 0]?, tbl[ck_x l 0]? with
    | some q, some (.fieldLink o i r a b) => decide (o = own) && decide (i = idx) && decide (r = q.1) && decide (a = q.2.1) && decide (b = q.2.2) && ab_kp (.fieldLink o i r a b)
    | _, _ => false
  | .getfield idx => match cl[ab_ax aux 0]? with
    | some q => decide (ab_ax aux 1 < q.2.2) && ck_fl tbl own idx (q.2.1 (ab_ax aux 1)) l
    | none => false
  | .putfield idx => match cl[ab_ax aux 0]? with
    | some q => decide (ab_ax aux 1 < q.2.2) && ck_fl tbl own idx (q.2.1 (ab_ax aux 1)) l && ab_kt (ab_ax aux 2) (ty (ab_ax aux 0) (ab_ax aux 1)) &&
        (!(q.2.1 (ab_ax aux 1)).2.2.2 || (decide (me.1.name = "<init>") && decide ((q.2.1 (ab_ax aux 1)).1 = own) && (match tbl[ck_x l 0]? with
          | some (.fieldLink ..) => true
          | _ => false)))
    | none => false
  | .newarray t => ck_w tbl (ck_x l 0) (.arrayClass (newarray.typeOf t)) && ks (ab_ax aux 0) && decide (aty (ab_ax aux 0) = newarray.typeOf t)
  | .anewarray idx => ks (ab_ax aux 0) && decide (ab_ax aux 0 % 8 = 6) && match aty (ab_ax aux 0) with
    | .object C => ck_w tbl (ck_x l 0) (.classLink own idx C) && ck_w tbl (ck_x l 1) (.arrayOver (.object C))
    | .array u => ck_w tbl (ck_x l 0) (.classLink own idx (FieldType.array u).toString) && ck_w tbl (ck_x l 1) (.arrayOver (.array u))
    | _ => false
  | .multianewarray idx d => decide (d = 2) && ks 0 && ks 14 && decide (aty 0 = .int) && decide (aty 14 = .array .int) && ck_w tbl (ck_x l 0) (.classLink own idx ("[" ++ (FieldType.array .int).toString)) && ck_w tbl (ck_x l 1) (.arrayOver (.array .int)) && ck_w tbl (ck_x l 2) (.arrayClass .int)
  | .new idx => match aux with
    | 0 :: ci :: ts => ck_n0 tbl cl ty own idx l ci ts
    | 1 :: e :: _ => ck_n1 tbl srs en me idx pc l e
    | _ => true
  | .checkcast idx => match cl[ab_ax aux 0]?, tbl[ck_x l 0]? with
    | some q, some (.classLink o i nm) => decide (o = own) && decide (i = idx) && ab_kp (.classLink o i nm) && (decide (nm = q.1) || ck_w tbl (ck_x l 1) (.castable q.1 nm))
    | _, _ => false
  | .lookupswitch _ ps => (ps.toList.zip (ps.toList.drop 1)).all (fun (a, next) => a.1 < next.1)
  | .ireturn => match me.2.2.2.1 with
    | some t => ab_kt (ab_ax aux 0) t
    | none => false
  | .lreturn => decide (me.2.2.2.1 = some .long)
  | .freturn => decide (me.2.2.2.1 = some .float)
  | .dreturn => decide (me.2.2.2.1 = some .double)
  | .areturn => match me.2.2.2.1 with
    | some (.object _) => true
    | some (.array _) => true
    | _ => false
  | .return_ => decide (me.2.2.2.1 = none)
  | .invokestatic idx => match aux with
    | y :: na :: hd => vm y && decide ((parseMethodDescriptor (MD y).1.desc).map (fun q => q.parameters.length) = some na) && ck_w tbl (ck_x l 0) (.static (MD y).1) && ck_ml tbl own idx (MD y).1 (MD y).2.2.2.2.isEmpty (ck_x l 1) && ck_hs tbl ncs en own cc me.2.2.1 pc me.2.2.2.2 hd (ck_split (l.drop 2))
    | [2] => ck_w tbl (ck_x l 0) (.methodLink own idx Lib.Math.min.name) && ck_w tbl (ck_x l 1) (.static Lib.Math.min.name) && ck_w tbl (ck_x l 2) (.initialized "java/lang/Math") && ck_w tbl (ck_x l 3) (.code Lib.Math.min.name Lib.Math.min.code 2 (some .int))
    | [3] => ck_w tbl (ck_x l 0) (.methodLink own idx Lib.Math.max.name) && ck_w tbl (ck_x l 1) (.static Lib.Math.max.name) && ck_w tbl (ck_x l 2) (.initialized "java/lang/Math") && ck_w tbl (ck_x l 3) (.code Lib.Math.max.name Lib.Math.max.code 2 (some .int))
    | [1] => ck_w tbl (ck_x l 0) (.methodLink own idx arraycopyName) && ck_w tbl (ck_x l 1) (.native arraycopyName) && ck_w tbl (ck_x l 2) (.static arraycopyName) && ck_w tbl (ck_x l 3) (.initialized "java/lang/System")
    | _ => true
  | .invokevirtual idx => match aux with
    | y :: na :: ci :: hd => vm y && decide (1 ≤ na) && decide ((parseMethodDescriptor (MD y).1.desc).map (fun q => q.parameters.length) = some (na - 1)) && ck_w tbl (ck_x l 0) (.instanceMethod (MD y).1) && (MD y).2.2.2.2.isEmpty && ck_ml tbl own idx (MD y).1 true (ck_x l 1) &&
        (match cl[ci]? with
        | some q => ck_w tbl (ck_x l 2) (.selects q.1 (MD y).1 (MD y).1)
        | none => false) && ck_hs tbl ncs en own cc me.2.2.1 pc me.2.2.2.2 hd (ck_split (l.drop 3))
    | _ => true
  | .invokespecial idx => match aux with
    | y :: na :: hd => vm y && decide (1 ≤ na) && decide ((parseMethodDescriptor (MD y).1.desc).map (fun q => q.parameters.length) = some (na - 1)) && ck_w tbl (ck_x l 0) (.instanceMethod (MD y).1) && (MD y).2.2.2.2.isEmpty && decide ((MD y).1.name = "<init>") && decide ((MD y).2.2.2.1 = none) && ck_ml tbl own idx (MD y).1 true (ck_x l 1) && ck_hs tbl ncs en own cc me.2.2.1 pc me.2.2.2.2 hd (ck_split (l.drop 2))
    | [0] => ck_w tbl (ck_x l 0) (.methodLink own idx Lib.objectInit) && ck_w tbl (ck_x l 1) (.instanceMethod Lib.objectInit) && ck_w tbl (ck_x l 2) (.code Lib.objectInit ⟨#[0xb1]⟩ 1 none)
    | _ => true
  | _ => true
section CKS
variable {tbl : List Jvm.Cond} {MD : Nat → ab_D} {vm : Nat → Bool} {cl : List vw_C} {D : va_G} {E : Nat → ClassId} {ty : Nat → Nat → FieldType} {aty : Nat → FieldType} {ks : Nat → Bool} {sn : List (String × String × String)} {ncs : List (String × String)} {srs : List (String × Nat × String)} {sts : List (String × String × String × Value)} {en : Nat → String} {me : ab_D} {base : Nat} {Hb : Heap} {sv : Nat → Value}
variable {s : State} {args : Array Value} {m : MethodId} {meth : Method} {c : Code} {h0 : ab_H}
theorem ck_w_ok {ix : Nat} {w : Jvm.Cond} (hts : ∀ w ∈ tbl, ab_kp w = true → w.before args s = true) (h : ck_w tbl ix w = true) : w.before args s = true := by
  unfold ck_w at h
  rw [Bool.and_eq_true] at h
  exact hts w (List.mem_of_getElem? (of_decide_eq_true h.1)) h.2
theorem ck_cls_ok {q : vw_C} {t : Nat → FieldType} (hts : ∀ w ∈ tbl, ab_kp w = true → w.before args s = true) (h : ck_cls tbl q t = true) : (∀ w ∈ u_ws q.1 q.2.1 q.2.2, w.before args s = true) ∧ (∀ j, j < q.2.2 → parseFieldDescriptor (q.2.1 j).2.2.1 = some (t j)) ∧ (∀ a, a < q.2.2 → ∀ b, b < q.2.2 → a ≠ b → (q.2.1 a).2.1 ≠ (q.2.1 b).2.1) := by
  unfold ck_cls at h
  rw [Bool.and_eq_true, Bool.and_eq_true] at h
  obtain ⟨⟨h1, h2⟩, h3⟩ := h
  refine ⟨fun w hw => ?_, fun j hj => ?_, fun a ha b hb hab => ?_⟩
  · have := List.all_eq_true.mp h1 w hw
    rw [Bool.and_eq_true] at this
    exact hts w (of_decide_eq_true this.1) this.2
  · exact of_decide_eq_true (List.all_eq_true.mp h2 j (List.mem_range.mpr hj))
  · have := List.all_eq_true.mp (List.all_eq_true.mp h3 a (List.mem_range.mpr ha)) b (List.mem_range.mpr hb)
    rw [Bool.or_eq_true] at this
    rcases this with h | h
    · exact absurd (of_decide_eq_true h) hab
    · simpa using h
theorem ck_fl_ok {own : String} {idx : Nat} {q : String × String × String × Bool} {l : List Nat} (hts : ∀ w ∈ tbl, ab_kp w = true → w.before args s = true) (h : ck_fl tbl own idx q l = true) :
    ∃ ref : String, (∀ x, s.fieldFound? q.1 q.2.1 q.2.2.1 = some x → s.fieldFound? ref q.2.1 q.2.2.1 = some x) ∧ ab_fl own s args idx ref q.2.1 q.2.2.1 ∧ ((∃ o i r a b, tbl[ck_x l 0]? = some (.fieldLink o i r a b)) → (Jvm.Cond.fieldLink own idx ref q.2.1 q.2.2.1).before args s = true) := by
  unfold ck_fl at h
  split at h
  · rename_i o i r a b ht
    simp only [Bool.and_eq_true, Bool.or_eq_true, decide_eq_true_eq] at h
    obtain ⟨⟨⟨⟨rfl, rfl⟩, rfl⟩, rfl⟩, h5⟩ := h
    have hw := hts _ (List.mem_of_getElem? ht) rfl
    refine ⟨r, fun x hx => ?_, Or.inl hw, fun _ => hw⟩
    rcases h5 with rfl | h5
    · exact hx
    · exact u_same (ck_w_ok hts h5) x hx
  · rename_i o i r a b hst ht
    simp only [Bool.and_eq_true, Bool.or_eq_true, decide_eq_true_eq] at h
    obtain ⟨⟨⟨⟨rfl, rfl⟩, rfl⟩, rfl⟩, h5⟩ := h
    have hw := hts _ (List.mem_of_getElem? ht) rfl
    refine ⟨r, fun x hx => ?_, Or.inr ⟨_, hw⟩, fun ⟨_, _, _, _, _, e⟩ => by rw [ht] at e; cases e⟩
    rcases h5 with rfl | h5
    · exact hx
    · exact u_same (ck_w_ok hts h5) x hx
  · cases h
theorem ck_ml_ok {own : String} {idx ix : Nat} {y : MethodName} {nest : Bool} (hts : ∀ w ∈ tbl, ab_kp w = true → w.before args s = true) (h : ck_ml tbl own idx y nest ix = true) : (Jvm.Cond.methodLink own idx y).before args s = true ∨ (nest = true ∧ ∃ host : String, (Jvm.Cond.methodLinkNest own idx y host).before args s = true) := by
  unfold ck_ml at h
  split at h
  · rename_i o i x ht
    simp only [Bool.and_eq_true, decide_eq_true_eq] at h
    obtain ⟨⟨rfl, rfl⟩, rfl⟩ := h
    exact Or.inl (hts _ (List.mem_of_getElem? ht) rfl)
  · rename_i o i x hst ht
    simp only [Bool.and_eq_true, decide_eq_true_eq] at h
    obtain ⟨⟨⟨h0, rfl⟩, rfl⟩, rfl⟩ := h
    exact Or.inr ⟨h0, _, hts _ (List.mem_of_getElem? ht) rfl⟩
  · cases h
theorem ck_hr_ok {own : String} {cc : ByteArray} {nL pc e p k : Nat} (hts : ∀ w ∈ tbl, ab_kp w = true → w.before args s = true) : ∀ (rows pre : List (Nat × Nat × Nat × Nat)) (l : List Nat),
    (∀ z ∈ tableOf pre, covers z pc = false ∨ (z.catchType ≠ 0 ∧ ∃ nm : String, (Jvm.Cond.classLink own z.catchType nm).before args s = true ∧ (en e, nm) ∈ ncs)) → c.exceptionTable.toList = tableOf (pre ++ rows) → ck_hr tbl ncs (en e) own cc nL pc p k rows l = true → ab_hw ncs en own s args c cc nL pc e p k
  | [], pre, l, _, _, h => by cases h
  | (a, b, hh, t) :: rows, pre, l, hpre, htab, h => by
    have htab' : c.exceptionTable.toList = tableOf ((pre ++ [(a, b, hh, t)]) ++ rows) := by rw [List.append_assoc]; exact htab
    have ext : ∀ z ∈ tableOf (pre ++ [(a, b, hh, t)]), z ∈ tableOf pre ∨ z = ⟨a, b, hh, t⟩ := by
      intro z hz
      unfold tableOf at hz ⊢
      rw [List.map_append] at hz
      rcases List.mem_append.mp hz with h1 | h1
      · exact Or.inl h1
      · exact Or.inr (by simpa using h1)
    unfold ck_hr at h
    split at h
    · rename_i hcov
      refine ck_hr_ok hts rows (pre ++ [(a, b, hh, t)]) l (fun z hz => ?_) htab' h
      rcases ext z hz with h1 | rfl
      · exact hpre z h1
      · exact Or.inl hcov
    · rename_i hcov
      split at h
      · rename_i ix l2
        split at h
        · rename_i o i nm ht
          simp only [Bool.and_eq_true, decide_eq_true_eq] at h
          obtain ⟨⟨⟨⟨rfl, rfl⟩, h3⟩, h4⟩, h5⟩ := h
          have hw := hts _ (List.mem_of_getElem? ht) h4
          split at h5
          · rename_i hin
            refine ck_hr_ok hts rows (pre ++ [(a, b, hh, i)]) l2 (fun z hz => ?_) htab' h5
            rcases ext z hz with h1 | rfl
            · exact hpre z h1
            · exact Or.inr ⟨h3, nm, hw, hin⟩
          · simp only [Bool.and_eq_true, Bool.or_eq_true, decide_eq_true_eq] at h5
            obtain ⟨⟨h6, h7⟩, h8⟩ := h5
            refine ⟨tableOf pre, tableOf rows, ⟨a, b, hh, i⟩, nm, by rw [htab]; simp [tableOf], hpre, by simpa using hcov, h3, hw, ck_w_ok hts h6, h7, ?_⟩
            rcases h8 with h8 | h8
            · exact Or.inl h8
            · split at h8
              · rename_i hk
                simp only [Bool.and_eq_true, decide_eq_true_eq] at h8
                exact Or.inr ⟨⟨k, hk⟩, rfl, h8.1, h8.2⟩
              · cases h8
        · cases h
      · cases h
theorem ck_lookup {α : Type} : ∀ (l : List (Nat × α)) (e : Nat) (v : α), l.lookup e = some v → (e, v) ∈ l
  | [], _, _, h => by cases h
  | (a, x) :: l, e, v, h => by
    unfold List.lookup at h
    split at h
    · rename_i he
      have : e = a := by simpa using he
      rw [this, ← Option.some.inj h]
      exact List.mem_cons_self
    · exact List.mem_cons_of_mem _ (ck_lookup l e v h)
theorem ck_hs_ok {own : String} {cc : ByteArray} {nL pc : Nat} {rows : List (Nat × Nat × Nat × Nat)} {hd : List Nat} {l : List (List Nat)} (hts : ∀ w ∈ tbl, ab_kp w = true → w.before args s = true) (htab : c.exceptionTable.toList = tableOf rows) (h : ck_hs tbl ncs en own cc nL pc rows hd l = true) : ∀ e p k, (ab_hs hd).lookup e = some (p, k) → ab_hw ncs en own s args c cc nL pc e p k := by
  intro e p k hl
  have hm := ck_lookup _ _ _ hl
  obtain ⟨j, hj⟩ := List.getElem?_of_mem hm
  have hz : ((e, p, k), j) ∈ (ab_hs hd).zipIdx := by rw [List.mem_zipIdx_iff_getElem?]; exact hj
  have := List.all_eq_true.mp h _ hz
  exact ck_hr_ok hts rows [] _ (fun z hz => nomatch hz) htab this
end CKS
end
section
/-! WHAT THE CHECK BY PROGRAM GIVES. -/
section CKO
variable {tbl : List Jvm.Cond} {MD : Nat → ab_D} {vm : Nat → Bool} {cl : List vw_C} {D : va_G} {E : Nat → ClassId} {ty : Nat → Nat → FieldType} {aty : Nat → FieldType} {ks : Nat → Bool} {sn : List (String × String × String)} {ncs : List (String × String)} {srs : List (String × Nat × String)} {sts : List (String × String × String × Value)} {en : Nat → String} {me : ab_D} {base : Nat} {Hb : Heap} {sv : Nat → Value}
variable {s : State} {args : Array Value} {m : MethodId} {meth : Method} {c : Code} {h0 : ab_H}
set_option maxHeartbeats 2000000 in
theorem ck_okS {pc : Nat} {i : ab_I} {l : List Nat} (hts : ∀ w ∈ tbl, ab_kp w = true → w.before args s = true) (hcl : ∀ ci q, cl[ci]? = some q → ck_cls tbl q (ty ci) = true) (hsn : ∀ k q, sn[k]? = some q → (q.1, q.2.1, q.2.2, sv k) ∈ sts)
    (hW : ab_World cl D E ks aty base ncs srs sts s s.heap) (hR : ab_Rl cl D E ks base Hb h0 s.heap) (hnm : meth.name = me.1.name) (h : ck_i tbl MD vm cl ty aty ks sn ncs srs en me pc i l = true) : ab_okS cl aty ks Hb base sv me.1.cls s args meth i := by
  obtain ⟨I, len, aux⟩ := i
  unfold ck_i at h
  dsimp only at h
  rw [Bool.and_eq_true] at h
  obtain ⟨-, h⟩ := h
  cases I
  case ldc idx => exact ck_w_ok hts h
  case ldc_w idx => exact ck_w_ok hts h
  case ldc2_w idx =>
    show if ab_ax aux 1 = 1 then _ else _
    dsimp only at h
    split at h
    · rename_i e
      rw [if_pos e]
      exact ck_w_ok hts h
    · rename_i e
      rw [if_neg e]
      exact ck_w_ok hts h
  case getstatic idx =>
    dsimp only at h
    split at h
    · rename_i q o i r a b hq ht
      simp only [Bool.and_eq_true, decide_eq_true_eq] at h
      obtain ⟨⟨⟨⟨⟨rfl, rfl⟩, rfl⟩, rfl⟩, rfl⟩, h6⟩ := h
      have hz := hW.2.2.2.2.2 _ (hsn _ _ hq)
      obtain ⟨cf, kf, fi, f, ad, cell, g1, g2, g3, g4, g5, g6, g7, g8⟩ := hz
      have hlt : ad < base := Nat.not_le.mp g8
      exact ⟨q.1, q.2.1, q.2.2, cf, fi, kf, f, ad, cell, hts _ (List.mem_of_getElem? ht) h6, g1, g2, g3, g4, hlt, (hR.2.2.1 ad hlt).symm.trans g5, (fun e => by rw [e] at g6; cases g6), g7⟩
    · cases h
  case getfield idx =>
    dsimp only at h
    split at h
    · rename_i q hq
      obtain ⟨C, T, N⟩ := q
      rw [Bool.and_eq_true, decide_eq_true_eq] at h
      obtain ⟨ref, g1, g2, -⟩ := ck_fl_ok hts h.2
      exact ⟨C, T, N, ref, hq, h.1, (ck_cls_ok hts (hcl _ _ hq)).1, g1, g2⟩
    · cases h
  case putfield idx =>
    dsimp only at h
    split at h
    · rename_i q hq
      obtain ⟨C, T, N⟩ := q
      simp only [Bool.and_eq_true, decide_eq_true_eq] at h
      obtain ⟨⟨⟨h1, h2⟩, h3⟩, h4⟩ := h
      obtain ⟨ref, g1, g2, g3⟩ := ck_fl_ok hts h2
      obtain ⟨k1, k2, k3⟩ := ck_cls_ok hts (hcl _ _ hq)
      refine ⟨C, T, N, ref, ty _, hq, h1, k1, g1, k2, k3, h3, ?_⟩
      rw [Bool.or_eq_true] at h4
      rcases h4 with h4 | h4
      · exact Or.inl ⟨by simpa using h4, g2⟩
      · simp only [Bool.and_eq_true, decide_eq_true_eq] at h4
        obtain ⟨⟨h5, h6⟩, h7⟩ := h4
        by_cases hf : (T (ab_ax aux 1)).2.2.2 = true
        · refine Or.inr ⟨hf, g3 ?_, hnm.trans h5, h6⟩
          split at h7
          · rename_i o i r a b ht
            exact ⟨o, i, r, a, b, ht⟩
          · cases h7
        · exact Or.inl ⟨by simpa using hf, g2⟩
    · cases h
  case newarray t =>
    simp only [Bool.and_eq_true, decide_eq_true_eq] at h
    exact ⟨ck_w_ok hts h.1.1, h.1.2, h.2⟩
  case anewarray idx =>
    simp only [Bool.and_eq_true, decide_eq_true_eq] at h
    obtain ⟨⟨h1, h2⟩, h3⟩ := h
    refine ⟨h1, h2, ?_⟩
    split at h3
    · rename_i C hC
      rw [Bool.and_eq_true] at h3
      exact Or.inl ⟨C, hC, ck_w_ok hts h3.1, ck_w_ok hts h3.2⟩
    · rename_i u hu
      rw [Bool.and_eq_true] at h3
      exact Or.inr ⟨u, hu, ck_w_ok hts h3.1, ck_w_ok hts h3.2⟩
    · cases h3
  case multianewarray idx d =>
    simp only [Bool.and_eq_true, decide_eq_true_eq] at h
    obtain ⟨⟨⟨⟨⟨⟨⟨h1, h2⟩, h3⟩, h4⟩, h5⟩, h6⟩, h7⟩, h8⟩ := h
    exact ⟨h1, h2, h3, h4, h5, ck_w_ok hts h6, ck_w_ok hts h7, ck_w_ok hts h8⟩
  case new idx =>
    intro ci ts hax
    have hax : aux = 0 :: ci :: ts := hax
    subst hax
    have h : ck_n0 tbl cl ty me.1.cls idx l ci ts = true := h
    unfold ck_n0 at h
    split at h
    · rename_i q hq
      obtain ⟨C, T, N⟩ := q
      simp only [Bool.and_eq_true, decide_eq_true_eq] at h
      obtain ⟨⟨⟨⟨h1, h2⟩, h3⟩, h4⟩, h5⟩ := h
      have h1 : N = ts.length := h1
      subst h1
      obtain ⟨k1, k2, k3⟩ := ck_cls_ok hts (hcl _ _ hq)
      refine ⟨C, T, ty ci, hq, k1, k2, fun j k hj => ?_, ck_w_ok hts h3, ck_w_ok hts h4, ck_w_ok hts h5⟩
      have hz : (k, j) ∈ ts.zipIdx := by rw [List.mem_zipIdx_iff_getElem?]; exact hj
      exact of_decide_eq_true (List.all_eq_true.mp h2 _ hz)
    · cases h
  case checkcast idx =>
    dsimp only at h
    split at h
    · rename_i q o i nm hq ht
      simp only [Bool.and_eq_true, Bool.or_eq_true, decide_eq_true_eq] at h
      obtain ⟨⟨⟨rfl, rfl⟩, h3⟩, h4⟩ := h
      refine ⟨q, nm, hq, hts _ (List.mem_of_getElem? ht) h3, ?_⟩
      rcases h4 with rfl | h4
      · have hf : s.vm.findClass q.1 = some _ := (hW.1.1 _ _ hq).2.1
        show (Jvm.Cond.castable q.1 q.1).before #[] s = true
        simp [Cond.before, Cond.holds, Cond.value, hf, Vm.assignable_self]
      · exact va_tabs rfl rfl (ck_w_ok hts h4)
    · cases h
  case invokespecial idx =>
    intro hax
    have hax : aux = [0] := hax
    subst hax
    simp only [Bool.and_eq_true] at h
    exact ⟨ck_w_ok hts h.1.1, ck_w_ok hts h.1.2, ck_w_ok hts h.2⟩
  case invokestatic idx =>
    refine ⟨fun hax => ?_, fun hax => ?_, fun hax => ?_⟩
    · have hax : aux = [1] := hax
      subst hax
      simp only [Bool.and_eq_true] at h
      exact ⟨ck_w_ok hts h.1.1.1, ck_w_ok hts h.1.1.2, ck_w_ok hts h.1.2, ck_w_ok hts h.2⟩
    · have hax : aux = [2] := hax
      subst hax
      simp only [Bool.and_eq_true] at h
      exact ⟨ck_w_ok hts h.1.1.1, ck_w_ok hts h.1.1.2, ck_w_ok hts h.1.2, ck_w_ok hts h.2⟩
    · have hax : aux = [3] := hax
      subst hax
      simp only [Bool.and_eq_true] at h
      exact ⟨ck_w_ok hts h.1.1.1, ck_w_ok hts h.1.1.2, ck_w_ok hts h.1.2, ck_w_ok hts h.2⟩
  case lookupswitch d ps => exact h
  all_goals exact trivial
theorem ck_okC {pc : Nat} {i : ab_I} {l : List Nat} (hts : ∀ w ∈ tbl, ab_kp w = true → w.before args s = true) (htab : c.exceptionTable.toList = tableOf me.2.2.2.2)
    (h : ck_i tbl MD vm cl ty aty ks sn ncs srs en me pc i l = true) : ab_okC MD vm cl ncs en me.1.cls s args c me.2.1 me.2.2.1 pc i := by
  obtain ⟨I, len, aux⟩ := i
  unfold ck_i at h
  dsimp only at h
  rw [Bool.and_eq_true] at h
  obtain ⟨-, h⟩ := h
  cases I
  case invokestatic idx =>
    intro y na hd hax
    have hax : aux = y :: na :: hd := hax
    subst hax
    simp only [Bool.and_eq_true, decide_eq_true_eq] at h
    obtain ⟨⟨⟨⟨h1, h2⟩, h3⟩, h4⟩, h5⟩ := h
    refine ⟨h1, h2, ck_w_ok hts h3, ?_, ck_hs_ok hts htab h5⟩
    rcases ck_ml_ok hts h4 with h6 | ⟨h6, host, h7⟩
    · by_cases he : (MD y).2.2.2.2 = []
      · exact Or.inl ⟨he, Or.inl h6⟩
      · exact Or.inr ⟨he, h6⟩
    · exact Or.inl ⟨List.isEmpty_iff.mp h6, Or.inr ⟨host, h7⟩⟩
  case invokevirtual idx =>
    intro y na ci hd hax
    have hax : aux = y :: na :: ci :: hd := hax
    subst hax
    simp only [Bool.and_eq_true, decide_eq_true_eq] at h
    obtain ⟨⟨⟨⟨⟨⟨⟨h1, h2⟩, h3⟩, h4⟩, h5⟩, h6⟩, h7⟩, h8⟩ := h
    refine ⟨h1, h2, h3, ck_w_ok hts h4, List.isEmpty_iff.mp h5, ?_, ?_, ck_hs_ok hts htab h8⟩
    · exact (ck_ml_ok hts h6).imp id fun q => q.2
    · split at h7
      · rename_i q hq
        exact ⟨q, hq, ck_w_ok hts h7⟩
      · cases h7
  case invokespecial idx =>
    intro y na hd hax
    have hax : aux = y :: na :: hd := hax
    subst hax
    simp only [Bool.and_eq_true, decide_eq_true_eq] at h
    obtain ⟨⟨⟨⟨⟨⟨⟨⟨h1, h2⟩, h3⟩, h4⟩, h5⟩, h6⟩, h7⟩, h8⟩, h9⟩ := h
    exact ⟨h1, h2, h3, ck_w_ok hts h4, List.isEmpty_iff.mp h5, h6, h7, (ck_ml_ok hts h8).imp id fun q => q.2, ck_hs_ok hts htab h9⟩
  all_goals exact trivial
theorem ck_okR {pc : Nat} {i : ab_I} {l : List Nat} (hret : meth.sig.returnType = me.2.2.2.1) (h : ck_i tbl MD vm cl ty aty ks sn ncs srs en me pc i l = true) : ab_okR meth i := by
  obtain ⟨I, len, aux⟩ := i
  unfold ck_i at h
  dsimp only at h
  rw [Bool.and_eq_true] at h
  obtain ⟨-, h⟩ := h
  cases I
  case ireturn =>
    dsimp only at h
    split at h
    · rename_i t ht
      exact ⟨t, hret.trans ht, h⟩
    · cases h
  case lreturn => exact hret.trans (of_decide_eq_true h)
  case freturn => exact hret.trans (of_decide_eq_true h)
  case dreturn => exact hret.trans (of_decide_eq_true h)
  case areturn =>
    dsimp only at h
    split at h
    · rename_i n hn
      exact ⟨_, hret.trans hn, Or.inl ⟨n, rfl⟩⟩
    · rename_i n hn
      exact ⟨_, hret.trans hn, Or.inr ⟨n, rfl⟩⟩
    · cases h
  case return_ => exact hret.trans (of_decide_eq_true h)
  all_goals exact trivial
theorem ck_okT {pc : Nat} {i : ab_I} {l : List Nat} (hts : ∀ w ∈ tbl, ab_kp w = true → w.before args s = true) (htab : c.exceptionTable.toList = tableOf me.2.2.2.2)
    (h : ck_i tbl MD vm cl ty aty ks sn ncs srs en me pc i l = true) : ab_okT srs en me.1.cls s args c me.2.1 pc i := by
  obtain ⟨I, len, aux⟩ := i
  unfold ck_i at h
  dsimp only at h
  rw [Bool.and_eq_true] at h
  obtain ⟨-, h⟩ := h
  cases I
  case new idx =>
    intro e tl hax
    have hax : aux = 1 :: e :: tl := hax
    subst hax
    have h : ck_n1 tbl srs en me idx pc l e = true := h
    unfold ck_n1 at h
    split at h
    · rename_i sr hsr
      simp only [Bool.and_eq_true, Bool.or_eq_true, decide_eq_true_eq] at h
      obtain ⟨⟨⟨⟨⟨⟨⟨⟨⟨⟨⟨⟨⟨h1, h2⟩, h3⟩, h4⟩, h5⟩, h6⟩, hj⟩, h7⟩, h8⟩, h9⟩, h10⟩, h11⟩, h12⟩, h13⟩ := h
      obtain ⟨o9, i9, text⟩ := sr
      have h1 : o9 = me.1.cls := h1
      have h2 : i9 = ck_x l 3 := h2
      subst h1; subst h2
      have hnil : c.exceptionTable.toList = [] := by rw [htab, List.isEmpty_iff.mp h12]; rfl
      refine ⟨text, "java/lang/RuntimeException", ["java/lang/Exception"], ck_x l 3, ck_x l 4, ck_x l 5, hj, h3, fun n hn => List.all_eq_true.mp h4 n hn, by decide, List.mem_of_getElem? hsr, ck_w_ok hts h5, ck_w_ok hts h6, fun w hw => ?_, fun w hw => ?_, h10, h11, ?_⟩
      · have := List.all_eq_true.mp h7 w hw
        simp only [Bool.and_eq_true, decide_eq_true_eq] at this
        exact hts w this.1.1 this.1.2
      · rcases List.mem_cons.mp hw with rfl | hw
        · exact h8
        · rcases List.mem_cons.mp hw with rfl | hw
          · exact h9
          · have := List.all_eq_true.mp h7 w hw
            simp only [Bool.and_eq_true, decide_eq_true_eq] at this
            exact this.2
      · rcases h13 with ⟨⟨a1, a2⟩, a3⟩ | ⟨⟨a1, a2⟩, a3⟩
        · exact Or.inl ⟨a1, a2, a3, fun x hx => by rw [hnil] at hx; cases hx⟩
        · exact Or.inr ⟨a1, a2, a3, fun x hx => by rw [hnil] at hx; cases hx⟩
    · cases h
  all_goals exact trivial
theorem ck_okI {pc : Nat} {i : ab_I} {l : List Nat} (hts : ∀ w ∈ tbl, ab_kp w = true → w.before args s = true) (hcl : ∀ ci q, cl[ci]? = some q → ck_cls tbl q (ty ci) = true) (hsn : ∀ k q, sn[k]? = some q → (q.1, q.2.1, q.2.2, sv k) ∈ sts)
    (hW : ab_World cl D E ks aty base ncs srs sts s s.heap) (hR : ab_Rl cl D E ks base Hb h0 s.heap) (hret : meth.sig.returnType = me.2.2.2.1) (hnm : meth.name = me.1.name) (htab : c.exceptionTable.toList = tableOf me.2.2.2.2) (h : ck_i tbl MD vm cl ty aty ks sn ncs srs en me pc i l = true) : ab_okI MD vm cl aty ks Hb base sv ncs srs en me.1.cls s args meth c me.2.1 me.2.2.1 pc i := by
  have h9 := h
  unfold ck_i at h9
  dsimp only at h9
  rw [Bool.and_eq_true, Bool.and_eq_true, decide_eq_true_eq] at h9
  exact ⟨h9.1.1, h9.1.2, ck_okS hts hcl hsn hW hR hnm h, ck_okC hts htab h, ck_okR hret h, ck_okT hts htab h⟩
/-- a method's rows as a function of the place -/
def ck_code (rows : List ck_Row) (pc : Nat) : Option ab_I := (rows.lookup pc).map fun q => q.1
theorem ck_okM {CL : Nat → List ck_Row} (hcl : ∀ ci q, cl[ci]? = some q → ck_cls tbl q (ty ci) = true) (hsn : ∀ k q, sn[k]? = some q → (q.1, q.2.1, q.2.2, sv k) ∈ sts)
    (hall : ∀ y, vm y = true → ((CL y).all fun q => ck_i tbl MD vm cl ty aty ks sn ncs srs en (MD y) q.1 q.2.1 q.2.2) = true) : ab_okM MD (tbl.filter ab_kp) vm (fun y => (ck_code (CL y), (MD y).2.2.1)) cl D E ks aty base Hb ncs srs sts en sv := by
  intro y hy
  refine ⟨rfl, ?_⟩
  intro s args m meth c h0 hws hW hR hown hret hnm htab pc i hi
  have hi : ((CL y).lookup pc).map (fun q => q.1) = some i := hi
  cases hl : (CL y).lookup pc with
  | none => rw [hl] at hi; cases hi
  | some q =>
    rw [hl] at hi
    cases hi
    have hm := ck_lookup _ _ _ hl
    have h1 := List.all_eq_true.mp (hall y hy) _ hm
    exact ck_okI (l := q.2) (fun w hw hk => hws w (List.mem_filter.mpr ⟨hw, hk⟩)) hcl hsn hW hR hret hnm htab h1
end CKO
end
section
/-! THE LAW'S OWN BODY OUT OF A RUN ON THE ABSTRACT MACHINE. -/
theorem ab_f_one {sv : Nat → Value} {i : ab_I} {pc : Nat} {lo : ab_L} {st : List Value} {h h' : ab_H} {x : Int32} (hf : ab_f sv i pc lo st h = some (.inr (.inl (.inl (some (.int x)), h')))) : i.1 = .ireturn ∧ st = [.int x] ∧ h' = h := by
  obtain ⟨I, len, aux⟩ := i
  cases I
  case ireturn =>
    simp only [ab_f] at hf
    split at hf
    · split at hf
      · simp only [Option.some.injEq, Sum.inr.injEq, Sum.inl.injEq, Prod.mk.injEq, Value.int.injEq] at hf
        obtain ⟨rfl, rfl⟩ := hf
        exact ⟨rfl, rfl, rfl⟩
      · cases hf
    · cases hf
  case areturn =>
    simp only [ab_f] at hf
    split at hf
    · split at hf
      · rename_i v hv
        simp only [Option.some.injEq, Sum.inr.injEq, Sum.inl.injEq, Prod.mk.injEq] at hf
        obtain ⟨rfl, rfl⟩ := hf
        exact absurd hv (by simp [ab_fit])
      · cases hf
    · cases hf
  case lreturn =>
    simp only [ab_f] at hf
    split at hf <;> simp at hf
  case freturn =>
    simp only [ab_f] at hf
    split at hf <;> simp at hf
  case dreturn =>
    simp only [ab_f] at hf
    split at hf <;> simp at hf
  case return_ =>
    simp only [ab_f] at hf
    split at hf <;> simp at hf
  case new =>
    match aux, hf with
    | [], hf => cases hf
    | [_], hf => simp [ab_f] at hf
    | 0 :: _ :: _, hf => simp [ab_f, ab_nx] at hf
    | (n + 2) :: _ :: _, hf => simp [ab_f] at hf
    | 1 :: ex :: tl, hf =>
      simp only [ab_f] at hf
      split at hf <;> simp at hf
  all_goals (exfalso; simp only [ab_f, ab_nx, ab_ld, ab_sv, ab_i1, ab_i2, ab_l2, ab_al, ab_as, ab_br, ab_call] at hf; repeat' split at hf)
  all_goals cases hf
theorem ab_Wup {p : Program} {l : Launch} {e : Env} {R : Room} {s : State} {m : MethodId} {args : Array Value} {below : List Frame} {meth : Method} {c : Code} {Q : State → Prop} {H : Heap} {locs : List Loc} {c1 c2 s1 s2 : Nat} {g : JFrame} (hc : c1 ≤ c2) (hs : s1 ≤ s2) (k : W p l e R s m args below meth c H locs c2 s2 Q g) : W p l e R s m args below meth c H locs c1 s1 Q g :=
  fun T hT X => k T hT { X with same := X.same.mono hc hs }
theorem ab_law {cl : List vw_C} {D : va_G} {E : Nat → ClassId} {ks : Nat → Bool} {aty : Nat → FieldType} {base : Nat} {Hb : Heap} {ncs : List (String × String)} {srs : List (String × Nat × String)} {sts : List (String × String × String × Value)} {MD : Nat → ab_D} {Wl : List Jvm.Cond} {en : Nat → String} {vm : Nat → Bool} {mt : Nat → (Nat → Option ab_I) × Nat} {sv : Nat → Value}
    {nL : Nat} {p : Program} {l : Launch} {e : Env} {R : Room} {s : State} {m : MethodId} {below : List Frame} {meth : Method} {c : Code} {cc : ByteArray} {own : String} {h0 : ab_H} {d b yL N1 N2 : Nat} {QQ : State → Prop}
    (hx : p.tables.exec = Jvm.exec) (hb : c.code = cc) (hml : c.maxLocals = nL) (hown : s.vm.findClass own = some m.cls) (hls : l.stackTraces = false) (hlocks : meth.locks = false)
    (hD : ab_okD MD Wl vm) (hWk : ∀ w ∈ Wl, ab_kp w = true) (hM : ab_okM MD Wl vm mt cl D E ks aty base Hb ncs srs sts en sv) (hws : ∀ w ∈ Wl, w.before #[Value.ref b] s = true)
    (hW0 : ab_World cl D E ks aty base ncs srs sts s s.heap) (hR0 : ab_Rl cl D E ks base Hb h0 s.heap) (hbase : base = s.heap.size) (hRf : d + 11 ≤ R.frames) (hRl : 100 * d + 300 ≤ R.locals) (hRc : N1 ≤ R.cells) (hRs : N2 ≤ R.slots)
    (hok : ∀ pc i, (mt yL).1 pc = some i → ab_okI MD vm cl aty ks Hb base sv ncs srs en own s #[Value.ref b] meth c cc nL pc i) (hmt : (mt yL).2 = nL)
    (hQ : ∀ (pc : Nat) (H : Heap) (ls : Array Slot), decode cc pc = .ok (.ireturn, 1) → W p l e R s m #[Value.ref b] below meth c H [] N1 N2 QQ (F0 m pc ls [.int 1]))
    (hrun : ab_run sv mt (d + 1) yL [.ref b] h0 (fun r h' => r = .inl (some (.int 1)) ∧ h'.2.1 - h0.2.1 ≤ N1 ∧ h'.2.2 - h0.2.2 ≤ N2)) :
    W p l e R s m #[Value.ref b] below meth c s.heap [] 0 0 QQ (entryFrame m ([Value.ref b] : List Value).toArray nL) := by
  obtain ⟨r, h', ⟨rfl, hn1, hn2⟩, -, hr⟩ := ab_run_det sv mt (d + 1) _ _ _ _ hrun
  obtain ⟨hin, n, x⟩ := hr
  rw [hmt] at hin x
  have hb9 := ab_bodyQ (QQ := QQ) (h' := h') (r := .inl (some (.int 1))) (below := below) hx hb hml hown hls hlocks hD hWk hws hW0 hR0 hRf hRl (Nat.le_trans hn1 hRc) (Nat.le_trans hn2 hRs) hok
    (fun pc i lo st h hle hi hf => by
      obtain ⟨f1, rfl, rfl⟩ := ab_f_one hf
      intro ls H locs hl hR hlo
      have hdg := (hok pc i hi).1
      have hln := (hok pc i hi).2.1
      obtain ⟨I, len, aux⟩ := i
      have f1 : I = .ireturn := f1
      subst f1
      have hlen : len = 1 := by simpa [ab_lnok, ab_ln] using hln
      subst hlen
      exact va_forget (fun q hq => by rw [← hbase]; exact hlo q hq) (ab_Wup hn1 hn2 (hQ pc H ls hdg)))
    (fun y as h r h1 hv q => ab_contract hls hD hWk hM d y as h r h1 hv q) n 0 (ab_init [.ref b] nL) [] h0 (ab_le.rf h0) x
  have hg := hb9 _ s.heap [] (ab_entry hin) hR0 (fun q hq => nomatch hq)
  rw [Nat.sub_self, Nat.sub_self] at hg
  rw [lg_entry_eq]
  exact hg
end
