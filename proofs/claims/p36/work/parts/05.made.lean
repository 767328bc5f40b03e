/-! THE ABSTRACT MACHINE OVER THE KIT'S JUDGEMENT: what is made, casts, constants, statics, arraycopy, Object's constructor. -/
theorem ab_arrV (cI : ClassId) (xs : List Value) : ({ cls := cI, slots := xs.toArray, vm := .none } : Cell) = arrV cI xs.length (fun j => xs.getD j .null) := by
  show _ = ({ cls := cI, slots := Array.ofFn (n := xs.length) fun j => xs.getD j.val .null, vm := .none } : Cell)
  have h : xs.toArray = Array.ofFn (n := xs.length) fun j => xs.getD j.val .null := by
    apply Array.ext
    · simp
    · intro i h1 h2
      simp at h1
      simp [List.getD_eq_getElem?_getD, h1]
  rw [h]
theorem ab_cpy_len {f g : List Value} {sp dp n : Nat} (h1 : sp + n ≤ f.length) (h2 : dp + n ≤ g.length) : (ab_cpy f g sp dp n).length = g.length := by
  unfold ab_cpy
  simp
  omega
theorem ab_cpy_get {f g : List Value} {sp dp n : Nat} (h1 : sp + n ≤ f.length) (h2 : dp + n ≤ g.length) (k : Nat) : (ab_cpy f g sp dp n).getD k .null = va_cpy (fun j => f.getD j .null) (fun j => g.getD j .null) sp dp n k := by
  unfold ab_cpy va_cpy
  simp only [List.getD_eq_getElem?_getD]
  by_cases ha : k < dp
  · rw [List.getElem?_append_left (by simp; omega), if_neg (by omega), List.getElem?_take_of_lt ha]
  · rw [List.getElem?_append_right (by simp; omega)]
    have e1 : (List.take dp g).length = dp := by simp; omega
    rw [e1]
    by_cases hb : k < dp + n
    · rw [List.getElem?_append_left (by simp; omega), if_pos (by omega), List.getElem?_take_of_lt (by omega), List.getElem?_drop]
    · rw [List.getElem?_append_right (by simp; omega), if_neg (by omega), List.getElem?_drop]
      have e2 : (List.take n (List.drop sp f)).length = n := by simp; omega
      rw [e2]
      congr 2
      omega
theorem ab_copied (c0 c1 : ClassId) {f g : List Value} {sp dp n : Nat} (h1 : sp + n ≤ f.length) (h2 : dp + n ≤ g.length) : ({ cls := c1, slots := g.toArray, vm := .none } : Cell).storeRun dp (({ cls := c0, slots := f.toArray, vm := .none } : Cell).stretch sp n) = { cls := c1, slots := (ab_cpy f g sp dp n).toArray, vm := .none } := by
  rw [ab_arrV c0 f, ab_arrV c1 g, ab_arrV c1 (ab_cpy f g sp dp n), va_copied (fun z => z) c0 c1 (fun j => f.getD j .null) (fun j => g.getD j .null) h1, ab_cpy_len h1 h2]
  congr 1
  funext k
  exact (ab_cpy_get h1 h2 k).symm
theorem ab_nn (z : Int32) (hz : ¬ z < 0) : z.toInt = (z.toNatClampNeg : Int) := by
  have hz0 : (0 : Int) ≤ z.toInt := by
    have := Int32.not_lt.mp hz
    simpa using Int32.le_iff_toInt_le.mp this
  show z.toInt = ((z.toInt.toNat : Nat) : Int)
  omega
section ABM
variable {cl : List vw_C} {D : va_G} {E : Nat → ClassId} {ks : Nat → Bool} {aty : Nat → FieldType} {base : Nat} {Hb : Heap} {nL : Nat} {p : Program} {l : Launch} {e : Env} {R : Room} {s : State} {m : MethodId} {args : Array Value} {below : List Frame} {meth : Method} {c : Code} {Q : State → Prop} {c0 s0 : Nat} {sv : Nat → Value}
variable {cc : ByteArray} {pc pc' n' : Nat} {lo lo' : ab_L} {st st' : List Value} {h h' : ab_H} {aux : List Nat} {own : String}
theorem ab_s_ldc {idx : Nat} (hx : p.tables.exec = Jvm.exec) (hb : c.code = cc) (hK : ab_Kn cl D E ks aty s) (hown : s.vm.findClass own = some m.cls) (hw : (Jvm.Cond.constant own idx (Int32.ofNat (ab_ax aux 0))).before args s = true) (hdg : decode cc pc = .ok (.ldc idx, 2)) (hf : ab_f sv (.ldc idx, 2, aux) pc lo st h = some (.inl (pc', lo', st', h'))) (kk : ab_Wn cl D E ks base Hb nL p l e R s m args below meth c Q c0 s0 pc' lo' st' h') : ab_Wn cl D E ks base Hb nL p l e R s m args below meth c Q c0 s0 pc lo st h := by
  intro ls H locs hl hR hlo
  obtain ⟨rfl, rfl, rfl, rfl⟩ := ab_nx_inv hf
  exact lv_ldc hx hb hown hw hdg (kk _ _ _ hl hR hlo)
theorem ab_s_ldc_w {idx : Nat} (hx : p.tables.exec = Jvm.exec) (hb : c.code = cc) (hK : ab_Kn cl D E ks aty s) (hown : s.vm.findClass own = some m.cls) (hw : (Jvm.Cond.constant own idx (Int32.ofNat (ab_ax aux 0))).before args s = true) (hdg : decode cc pc = .ok (.ldc_w idx, 3)) (hf : ab_f sv (.ldc_w idx, 3, aux) pc lo st h = some (.inl (pc', lo', st', h'))) (kk : ab_Wn cl D E ks base Hb nL p l e R s m args below meth c Q c0 s0 pc' lo' st' h') : ab_Wn cl D E ks base Hb nL p l e R s m args below meth c Q c0 s0 pc lo st h := by
  intro ls H locs hl hR hlo
  obtain ⟨rfl, rfl, rfl, rfl⟩ := ab_nx_inv hf
  exact lv_ldcw hx hb hown hw hdg (kk _ _ _ hl hR hlo)
theorem ab_s_ldc2_w {idx : Nat} (hx : p.tables.exec = Jvm.exec) (hb : c.code = cc) (hK : ab_Kn cl D E ks aty s) (hown : s.vm.findClass own = some m.cls) (hw : if ab_ax aux 1 = 1 then (Jvm.Cond.constantLong own idx (Int64.ofNat (ab_ax aux 0))).before args s = true else (Jvm.Cond.constantDouble own idx (UInt64.ofNat (ab_ax aux 0))).before args s = true) (hdg : decode cc pc = .ok (.ldc2_w idx, 3)) (hf : ab_f sv (.ldc2_w idx, 3, aux) pc lo st h = some (.inl (pc', lo', st', h'))) (kk : ab_Wn cl D E ks base Hb nL p l e R s m args below meth c Q c0 s0 pc' lo' st' h') : ab_Wn cl D E ks base Hb nL p l e R s m args below meth c Q c0 s0 pc lo st h := by
  intro ls H locs hl hR hlo
  obtain ⟨rfl, rfl, rfl, rfl⟩ := ab_nx_inv hf
  have kk := kk _ _ _ hl hR hlo
  split at hw
  · rename_i e
    rw [if_pos e] at kk
    exact lv_ldc2 hx hb hown hw hdg kk
  · rename_i e
    rw [if_neg e] at kk
    exact lv_ldc2d hx hb hown hw hdg kk
/-- a static field that the code reads: what it held at the start, in a cell that nobody writes -/
def ab_gw (Hb : Heap) (base : Nat) (own : String) (s : State) (args : Array Value) (idx : Nat) (v : Value) : Prop := ∃ (ref n d : String) (cf i : Nat) (k : Class) (f : Field) (a : Nat) (cell : Cell), (Jvm.Cond.fieldLink own idx ref n d).before args s = true ∧ s.fieldFound? ref n d = some (cf, k, i, f) ∧ f.isStatic = true ∧ k.init = .initialized ∧ k.statics = some a ∧ a < base ∧ Hb[a]? = some cell ∧ cell.vm ≠ .unknown ∧ cell.slots[f.slot]? = some v
theorem ab_s_getstatic {idx : Nat} (hx : p.tables.exec = Jvm.exec) (hb : c.code = cc) (hK : ab_Kn cl D E ks aty s) (hown : s.vm.findClass own = some m.cls) (hw : ab_gw Hb base own s args idx (sv (ab_ax aux 0))) (hdg : decode cc pc = .ok (.getstatic idx, 3)) (hf : ab_f sv (.getstatic idx, 3, aux) pc lo st h = some (.inl (pc', lo', st', h'))) (kk : ab_Wn cl D E ks base Hb nL p l e R s m args below meth c Q c0 s0 pc' lo' st' h') : ab_Wn cl D E ks base Hb nL p l e R s m args below meth c Q c0 s0 pc lo st h := by
  intro ls H locs hl hR hlo
  obtain ⟨rfl, rfl, rfl, rfl⟩ := ab_nx_inv hf
  obtain ⟨ref, n, d, cf, i, k, f, a, cell, g1, g2, g3, g4, g5, g6, g7, g8, g9⟩ := hw
  exact W.gets hx hb hown g1 g2 g3 g4 g5 (by rw [hR.2.2.1 a g6]; exact g7) g8 g9 rfl hdg (kk _ _ _ hl hR hlo)
def ab_aw (own : String) (s : State) (args : Array Value) (aty : Nat → FieldType) (ks : Nat → Bool) (t idx : Nat) : Prop := ks t = true ∧ t % 8 = 6 ∧ ((∃ C : String, aty t = .object C ∧ (Jvm.Cond.classLink own idx C).before args s = true ∧ (Jvm.Cond.arrayOver (.object C)).before args s = true) ∨ (∃ u : FieldType, aty t = .array u ∧ (Jvm.Cond.classLink own idx (FieldType.array u).toString).before args s = true ∧ (Jvm.Cond.arrayOver (.array u)).before args s = true))
theorem ab_s_anewarray {idx : Nat} (hx : p.tables.exec = Jvm.exec) (hb : c.code = cc) (hK : ab_Kn cl D E ks aty s) (hown : s.vm.findClass own = some m.cls) (ha : ab_aw own s args aty ks (ab_ax aux 0) idx) (hc0 : c0 ≤ h.2.1) (hs0 : s0 ≤ h.2.2) (hRc : h'.2.1 - c0 ≤ R.cells) (hRs : h'.2.2 - s0 ≤ R.slots) (hdg : decode cc pc = .ok (.anewarray idx, 3)) (hf : ab_f sv (.anewarray idx, 3, aux) pc lo st h = some (.inl (pc', lo', st', h'))) (kk : ab_Wn cl D E ks base Hb nL p l e R s m args below meth c Q c0 s0 pc' lo' st' h') : ab_Wn cl D E ks base Hb nL p l e R s m args below meth c Q c0 s0 pc lo st h := by
  intro ls H locs hl hR hlo
  simp only [ab_f] at hf
  split at hf
  · rename_i n r
    split at hf
    · rename_i hn
      obtain ⟨rfl, rfl, rfl, rfl⟩ := ab_nx_inv hf
      obtain ⟨a1, a2, a3⟩ := ha
      have hRc : h.2.1 + 1 - c0 ≤ R.cells := hRc
      have hRs : h.2.2 + n.toNatClampNeg - s0 ≤ R.slots := hRs
      have fin : ∀ cA : ClassId, s.vm.findClass ("[" ++ (aty (ab_ax aux 0)).toString) = some cA → W p l e R s m args below meth c (H.push { cls := cA, slots := Array.replicate n.toNatClampNeg .null, vm := .none }) locs (h.2.1 - c0 + 1) (h.2.2 - s0 + n.toNatClampNeg) Q (F0 m (pc + 3) ls (.ref H.size :: r)) := by
        intro cA k1
        have hE : cA = E (ab_ax aux 0) := Option.some.inj (k1.symm.trans (hK.2.1 _ a1).2.2)
        subst hE
        refine W.cs (show h.2.1 - c0 + 1 = h.2.1 + 1 - c0 by omega) (show h.2.2 - s0 + n.toNatClampNeg = h.2.2 + n.toNatClampNeg - s0 by omega) ?_
        rw [← hR.2.1]
        refine kk _ _ _ hl (hR.new (Or.inl ⟨a1, ?_, hR.1⟩) (by simp) (fun q hq => ?_)) hlo
        · simp
        · rw [Array.getElem?_push, if_neg (Nat.ne_of_lt hq)]
      rcases a3 with ⟨C, b1, b2, b3⟩ | ⟨u, b1, b2, b3⟩
      · exact W.anew hx hb hown b2 b3 rfl hdg rfl hn.1 (by omega) (by omega) (by omega) fun cA kA comp k1 k2 k3 k4 => fin cA (by rw [b1]; exact k1)
      · exact W.anewA hx hb hown b2 b3 rfl hdg rfl hn.1 (by omega) (by omega) (by omega) fun cA kA comp k1 k2 k3 k4 => fin cA (by rw [b1]; exact k1)
    · cases hf
  · cases hf
/-- the words of 'new C' -/
def ab_nw (cl : List vw_C) (own : String) (s : State) (args : Array Value) (ci idx : Nat) (ts : List Nat) : Prop := ∃ (C : String) (T : u_T) (ty : Nat → FieldType), cl[ci]? = some (C, T, ts.length) ∧ (∀ w ∈ u_ws C T ts.length, w.before args s = true) ∧ (∀ j, j < ts.length → parseFieldDescriptor (T j).2.2.1 = some (ty j)) ∧ (∀ j k, ts[j]? = some k → defaultValue (ty j) = ab_dv k) ∧
  (Jvm.Cond.classLink own idx C).before args s = true ∧ (Jvm.Cond.instantiable C ts.length).before args s = true ∧ (Jvm.Cond.initialized C).before args s = true
theorem ab_s_new {idx ci : Nat} {ts : List Nat} (hx : p.tables.exec = Jvm.exec) (hb : c.code = cc) (hK : ab_Kn cl D E ks aty s) (hown : s.vm.findClass own = some m.cls) (hw : ab_nw cl own s args ci idx ts) (hc0 : c0 ≤ h.2.1) (hs0 : s0 ≤ h.2.2) (hRc : h'.2.1 - c0 ≤ R.cells) (hRs : h'.2.2 - s0 ≤ R.slots) (hdg : decode cc pc = .ok (.new idx, 3)) (hf : ab_f sv (.new idx, 3, 0 :: ci :: ts) pc lo st h = some (.inl (pc', lo', st', h'))) (kk : ab_Wn cl D E ks base Hb nL p l e R s m args below meth c Q c0 s0 pc' lo' st' h') : ab_Wn cl D E ks base Hb nL p l e R s m args below meth c Q c0 s0 pc lo st h := by
  intro ls H locs hl hR hlo
  obtain ⟨rfl, rfl, rfl, rfl⟩ := ab_nx_inv hf
  obtain ⟨C, T, ty, f1, f2, f3, f4, f5, f6, f7⟩ := hw
  have hKn := hK.1 _ _ f1
  have hRc : h.2.1 + 1 - c0 ≤ R.cells := hRc
  have hRs : h.2.2 + ts.length - s0 ≤ R.slots := hRs
  refine W.newcK hx hb hown f5 f6 f7 rfl hdg (by omega) (by omega) hKn.2.1 rfl fun H1 kC hkC e1 z1 o1 => ?_
  refine W.cs (show h.2.1 - c0 + 1 = h.2.1 + 1 - c0 by omega) (show h.2.2 - s0 + ts.length = h.2.2 + ts.length - s0 by omega) ?_
  rw [← hR.2.1]
  refine kk _ _ _ hl (hR.new ⟨⟨_, f1, by simp, (u_born ty f2 (fun w h => h) hKn hkC e1 f3).to (fun j hj => ?_)⟩, hR.1⟩ z1 o1) hlo
  have hj2 : ts[j]? = some ts[j] := by simp
  rw [f4 j _ hj2]
  simp [vp_V, List.getD_eq_getElem?_getD, hj2]
def ab_kw (cl : List vw_C) (own : String) (s : State) (args : Array Value) (ci idx : Nat) : Prop := ∃ (q : vw_C) (nm : String), cl[ci]? = some q ∧ (Jvm.Cond.classLink own idx nm).before args s = true ∧ va_Nw (.castable q.1 nm) s
theorem ab_s_checkcast {idx : Nat} (hx : p.tables.exec = Jvm.exec) (hb : c.code = cc) (hK : ab_Kn cl D E ks aty s) (hown : s.vm.findClass own = some m.cls) (hw : ab_kw cl own s args (ab_ax aux 0) idx) (hdg : decode cc pc = .ok (.checkcast idx, 3)) (hf : ab_f sv (.checkcast idx, 3, aux) pc lo st h = some (.inl (pc', lo', st', h'))) (kk : ab_Wn cl D E ks base Hb nL p l e R s m args below meth c Q c0 s0 pc' lo' st' h') : ab_Wn cl D E ks base Hb nL p l e R s m args below meth c Q c0 s0 pc lo st h := by
  intro ls H locs hl hR hlo
  simp only [ab_f] at hf
  split at hf
  · rename_i a r
    split at hf
    · rename_i ci fs hc
      split at hf
      · rename_i hci
        obtain ⟨rfl, rfl, rfl, rfl⟩ := ab_nx_inv hf
        subst hci
        obtain ⟨q, nm, f1, f2, f3⟩ := hw
        obtain ⟨⟨r0, q1, q2, cell, q3, q4, q5, q6⟩, q7⟩ := hR.2.2.2 _ _ hc
        have hr : r0 = q := Option.some.inj (q1.symm.trans f1)
        subst hr
        exact va_castY hx hb hown f2 f3 ⟨cell, q3, by rw [q5]; rfl, by rw [q4]; exact (hK.1 _ _ f1).2.1⟩ hdg (kk _ _ _ hl hR hlo)
      · cases hf
    · cases hf
  · cases hf
def ab_ow (own : String) (s : State) (args : Array Value) (idx : Nat) : Prop := (Jvm.Cond.methodLink own idx Lib.objectInit).before args s = true ∧ (Jvm.Cond.instanceMethod Lib.objectInit).before args s = true ∧ (Jvm.Cond.code Lib.objectInit ⟨#[0xb1]⟩ 1 none).before args s = true
theorem ab_s_objinit {idx : Nat} (hx : p.tables.exec = Jvm.exec) (hb : c.code = cc) (hK : ab_Kn cl D E ks aty s) (hown : s.vm.findClass own = some m.cls) (hml : c.maxLocals = nL) (hRf : 1 ≤ R.frames) (hRl : 60 ≤ R.locals) (hw : ab_ow own s args idx) (hdg : decode cc pc = .ok (.invokespecial idx, 3)) (hf : ab_f sv (.invokespecial idx, 3, [0]) pc lo st h = some (.inl (pc', lo', st', h'))) (kk : ab_Wn cl D E ks base Hb nL p l e R s m args below meth c Q c0 s0 pc' lo' st' h') : ab_Wn cl D E ks base Hb nL p l e R s m args below meth c Q c0 s0 pc lo st h := by
  intro ls H locs hl hR hlo
  simp only [ab_f] at hf
  split at hf
  · split at hf
    · rename_i r hsum
      have hsum : (r.map fun v => v.category).sum ≤ 8 := hsum
      obtain ⟨rfl, rfl, rfl, rfl⟩ := ab_nx_inv hf
      exact W.objInit hx hb hown hw.1 hw.2.1 hw.2.2 rfl (hl.2.1.trans hml.symm) rfl hdg hRf (by show 2 * 0 + _ + 12 ≤ R.locals; omega) (kk _ _ _ hl hR hlo)
    · cases hf
  · cases hf
def ab_cw (own : String) (s : State) (args : Array Value) (idx : Nat) : Prop := (Jvm.Cond.methodLink own idx arraycopyName).before args s = true ∧ (Jvm.Cond.native arraycopyName).before args s = true ∧ (Jvm.Cond.static arraycopyName).before args s = true ∧ (Jvm.Cond.initialized "java/lang/System").before args s = true
set_option maxHeartbeats 1000000 in
def ab_minw (own : String) (s : State) (args : Array Value) (idx : Nat) : Prop := (Jvm.Cond.methodLink own idx Lib.Math.min.name).before args s = true ∧ (Jvm.Cond.static Lib.Math.min.name).before args s = true ∧ (Jvm.Cond.initialized "java/lang/Math").before args s = true ∧ (Jvm.Cond.code Lib.Math.min.name Lib.Math.min.code 2 (some .int)).before args s = true
theorem ab_s_mmin {idx : Nat} (hx : p.tables.exec = Jvm.exec) (hb : c.code = cc) (hown : s.vm.findClass own = some m.cls) (hml : c.maxLocals = nL) (hRf : 1 ≤ R.frames) (hRl : 60 ≤ R.locals) (hRc : h'.2.1 - c0 ≤ R.cells) (hRs : h'.2.2 - s0 ≤ R.slots) (hw : ab_minw own s args idx) (hdg : decode cc pc = .ok (.invokestatic idx, 3)) (hf : ab_f sv (.invokestatic idx, 3, [2]) pc lo st h = some (.inl (pc', lo', st', h'))) (kk : ab_Wn cl D E ks base Hb nL p l e R s m args below meth c Q c0 s0 pc' lo' st' h') : ab_Wn cl D E ks base Hb nL p l e R s m args below meth c Q c0 s0 pc lo st h := by
  intro ls H locs hl hR hlo
  simp only [ab_f] at hf
  split at hf
  · rename_i y x r
    split at hf
    · rename_i hs
      have hs : (r.map fun v => v.category).sum ≤ 8 := hs
      obtain ⟨rfl, rfl, rfl, rfl⟩ := ab_nx_inv hf
      obtain ⟨w1, w2, w3, w4⟩ := hw
      exact va_mmin hx hb (hml.trans hl.2.1.symm) hown w1 w2 w3 w4 hRf (by omega) hRc hRs hdg (kk _ _ _ hl hR hlo)
    · cases hf
  · cases hf
def ab_maxw (own : String) (s : State) (args : Array Value) (idx : Nat) : Prop := (Jvm.Cond.methodLink own idx Lib.Math.max.name).before args s = true ∧ (Jvm.Cond.static Lib.Math.max.name).before args s = true ∧ (Jvm.Cond.initialized "java/lang/Math").before args s = true ∧ (Jvm.Cond.code Lib.Math.max.name Lib.Math.max.code 2 (some .int)).before args s = true
theorem ab_s_mmax {idx : Nat} (hx : p.tables.exec = Jvm.exec) (hb : c.code = cc) (hown : s.vm.findClass own = some m.cls) (hml : c.maxLocals = nL) (hRf : 1 ≤ R.frames) (hRl : 60 ≤ R.locals) (hRc : h'.2.1 - c0 ≤ R.cells) (hRs : h'.2.2 - s0 ≤ R.slots) (hw : ab_maxw own s args idx) (hdg : decode cc pc = .ok (.invokestatic idx, 3)) (hf : ab_f sv (.invokestatic idx, 3, [3]) pc lo st h = some (.inl (pc', lo', st', h'))) (kk : ab_Wn cl D E ks base Hb nL p l e R s m args below meth c Q c0 s0 pc' lo' st' h') : ab_Wn cl D E ks base Hb nL p l e R s m args below meth c Q c0 s0 pc lo st h := by
  intro ls H locs hl hR hlo
  simp only [ab_f] at hf
  split at hf
  · rename_i y x r
    split at hf
    · rename_i hs
      have hs : (r.map fun v => v.category).sum ≤ 8 := hs
      obtain ⟨rfl, rfl, rfl, rfl⟩ := ab_nx_inv hf
      obtain ⟨w1, w2, w3, w4⟩ := hw
      exact va_mmax hx hb (hml.trans hl.2.1.symm) hown w1 w2 w3 w4 hRf (by omega) hRc hRs hdg (kk _ _ _ hl hR hlo)
    · cases hf
  · cases hf
theorem ab_s_arraycopy {idx : Nat} (hx : p.tables.exec = Jvm.exec) (hb : c.code = cc) (hK : ab_Kn cl D E ks aty s) (hown : s.vm.findClass own = some m.cls) (hml : c.maxLocals = nL) (hRf : 1 ≤ R.frames) (hRl : 60 ≤ R.locals) (hw : ab_cw own s args idx) (hdg : decode cc pc = .ok (.invokestatic idx, 3)) (hf : ab_f sv (.invokestatic idx, 3, [1]) pc lo st h = some (.inl (pc', lo', st', h'))) (kk : ab_Wn cl D E ks base Hb nL p l e R s m args below meth c Q c0 s0 pc' lo' st' h') : ab_Wn cl D E ks base Hb nL p l e R s m args below meth c Q c0 s0 pc lo st h := by
  intro ls H locs hl hR hlo
  simp only [ab_f] at hf
  split at hf
  · rename_i n dp a1 sp a0 r
    split at hf
    · rename_i t0 f t1 g hc0 hc1
      split at hf
      · rename_i hok
        obtain ⟨rfl, rfl, rfl, rfl⟩ := ab_nx_inv hf
        obtain ⟨ht, h1, h2, h3, h4, h5, h6, h7⟩ := hok
        have h6 : (r.map fun v => v.category).sum ≤ 8 := h6
        obtain ⟨w1, w2, w3, w4⟩ := hw
        obtain ⟨cx, x1, -, -, -, -, x9⟩ := ab_ar hK (hR.2.2.2 _ _ hc0)
        obtain ⟨rfl, x2, -⟩ := x9 (by omega)
        obtain ⟨cy, y1, -, -, -, -, y9⟩ := ab_ar hK (hR.2.2.2 _ _ hc1)
        obtain ⟨rfl, y2, hba⟩ := y9 (by omega)
        obtain ⟨-, k0, hk0, cm0, hkk0⟩ := ab_arr hK x2 f
        obtain ⟨-, k1, hk1, cm1, hkk1⟩ := ab_arr hK y2 g
        have hty : ((refKind (aty t0) != refKind (aty t1)) || (!refKind (aty t0) && aty t0 != aty t1)) = false := by
          rcases ht with ⟨e1, e2⟩ | ⟨e1, e2⟩
          · have g0 := ab_kt0 (by have := (hK.2.1 t0 x2).1; rw [e2] at this; rw [e2]; exact this : ab_kt 0 (aty t0) = true)
            have g1 := ab_kt0 (by have := (hK.2.1 t1 y2).1; rw [e1] at this; rw [e1]; exact this : ab_kt 0 (aty t1) = true)
            rw [g0, g1]; rfl
          · rw [e1, e2]
            have g1 := ab_kt6 (by have := (hK.2.1 t1 y2).1; rw [e1] at this; exact this : ab_kt 6 (aty 6) = true)
            cases hq : aty 6 <;> rw [hq] at g1 <;> first | rfl | (exact absurd g1 (by simp [ab_kt])) | (simp [refKind])
        intro T hT X
        obtain ⟨vm', X', step⟩ := X.arraycopy hx hown w1 w2 w3 w4 (src := a0) (dst := a1) (srcPos := sp) (destPos := dp) (n := n) (by rw [hT]; exact x1) (by rw [hT]; exact y1)
          (fun _ h => by cases h) (fun _ h => by cases h) (fun h => by cases h) (fun h => by cases h) hk0 hk1 hkk0 hkk1 hty h1 h2 h3
          (by rw [ab_nn sp h1, ab_nn n h3]; simp; omega) (by rw [ab_nn dp h2, ab_nn n h3]; simp; omega)
          (fun vm₁ hal i hi => by
            have hv : f[sp.toNatClampNeg + i]? = some f[sp.toNatClampNeg + i] := by simp
            generalize f[sp.toNatClampNeg + i]'(by omega) = v at hv
            have hmem : v ∈ (f.drop sp.toNatClampNeg).take n.toNatClampNeg := by
              apply List.mem_of_getElem? (i := i)
              rw [List.getElem?_take_of_lt hi, List.getElem?_drop]
              exact hv
            have h8 := List.all_eq_true.mp h7 v hmem
            have e : f.toArray.getD (sp.toNatClampNeg + i) .null = v := by
              rw [Array.getD_eq_getD_getElem?]
              simp [hv]
            show fits _ (f.toArray.getD (sp.toNatClampNeg + i) .null) = true ∧ State.takes _ _ (f.toArray.getD (sp.toNatClampNeg + i) .null)
            rw [e]
            simp only [Bool.and_eq_true] at h8
            rcases ht with ⟨e1, e2⟩ | ⟨e1, e2⟩
            · subst e1
              obtain ⟨x, rfl⟩ := ab_fit0 h8.1
              exact ⟨(ab_kt_fits (hK.2.1 0 y2).1 h8.1).2, trivial⟩
            · subst e1
              have hfit := (ab_kt_fits (hK.2.1 6 y2).1 h8.1).2
              have hel : ab_el h 6 v = true := by simpa using h8.2
              obtain ⟨kA, kc, comp, z1, z2, z3, z4, z5, z6, z7⟩ := hK.2.2.1 6 y2 rfl (by omega)
              cases hk1.symm.trans z1
              cases hkk1.symm.trans z2
              rcases ab_fit6 h8.1 with rfl | ⟨y, rfl⟩
              · exact ⟨hfit, trivial⟩
              · have hel : ab_el2 6 (h.1 y) = true := hel
                cases hcb : h.1 y with
                | none => rw [hcb] at hel; cases hel
                | some d =>
                  rw [hcb] at hel
                  cases d with
                  | inl q => exact absurd hel (by simp [ab_el2])
                  | inr q =>
                    obtain ⟨ci, fs⟩ := q
                    obtain ⟨⟨r0, q1, q2, cell, q3, q4, q5, q6⟩, q7⟩ := hR.2.2.2 _ _ hcb
                    obtain ⟨-, hfc, kC, hkC, -⟩ := hK.1 ci r0 q1
                    obtain ⟨kC', hkC', -⟩ := hal.2.2 _ _ hkC
                    obtain ⟨kE', hkE', -⟩ := hal.2.2 _ _ z3
                    refine ⟨hfit, cell, (show T.heap[y]? = some cell by rw [hT]; exact q3), (fun q h => by rw [q5] at h; cases h), ⟨kC', by show vm₁.classes[cell.cls]? = _; rw [q4]; exact hkC'⟩, ⟨kE', hkE'⟩, ?_⟩
                    show vm₁.assignable cell.cls _ = true
                    rw [hal.assignable, q4]
                    exact z7 rfl ci r0 q1)
          (g := F0 m pc ls (.int n :: .int dp :: .ref a1 :: .int sp :: .ref a0 :: r)) rfl (hl.2.1.trans hml.symm) (rest := r) rfl (by rw [hb]; exact hdg) hRf (by show 2 * 0 + _ + _ ≤ _; have hw : nativeFrameWords "java/lang/System" "arraycopy" 5 ≤ 20 := (by decide); omega)
        have e1 : copied ({ cls := E t0, slots := f.toArray, vm := .none } : Cell) ({ cls := E t1, slots := g.toArray, vm := .none } : Cell) sp dp n = { cls := E t1, slots := (ab_cpy f g sp.toNatClampNeg dp.toNatClampNeg n.toNatClampNeg).toArray, vm := .none } := ab_copied _ _ h4 h5
        rw [e1] at X' step
        have hl9 : a1 < H.size := (Array.getElem?_eq_some_iff.mp y1).1
        generalize hcell : ({ cls := E t1, slots := (ab_cpy f g sp.toNatClampNeg dp.toNatClampNeg n.toNatClampNeg).toArray, vm := .none } : Cell) = cell9 at X' step
        have hheap : ((T.setVm vm').setCell a1 cell9).heap = H.setIfInBounds a1 cell9 := by rw [← hT]; rfl
        have oq : ∀ q : Nat, q ≠ a1 → (H.setIfInBounds a1 cell9)[q]? = H[q]? := fun q hq => by simp [Array.getElem?_setIfInBounds, Ne.symm hq]
        obtain ⟨t, b1, b2⟩ := kk _ _ _ hl (hR.set hba (Or.inl ⟨y2, (show (H.setIfInBounds a1 cell9)[a1]? = some _ by rw [hcell]; simp [Array.getElem?_setIfInBounds, hl9]), hba⟩) (by simp) oq) (fun q hq => by
          rcases List.mem_append.mp hq with h9 | h9
          · exact hlo q h9
          · obtain ⟨z, -, hz⟩ := List.mem_map.mp h9
            rw [← hz]
            exact hba) _ hheap X'
        exact ⟨t, step t b1, b2⟩
      · cases hf
    · cases hf
  · cases hf
theorem ab_outer (c : ClassId) (N h0 : Nat) : ∀ i : Nat, Jvm.Free.Multi.outerC c N h0 i = { cls := c, slots := ((List.range N).map fun j => if j < i then Value.ref (h0 + 1 + j) else .null).toArray, vm := .none }
  | 0 => by
    show ({ cls := c, slots := Array.replicate N .null, vm := .none } : Cell) = _
    have e : (List.range N).map (fun j => if j < 0 then Value.ref (h0 + 1 + j) else .null) = List.replicate N .null := by
      apply List.ext_getElem <;> simp
    rw [e]; simp
  | i + 1 => by
    show (Jvm.Free.Multi.outerC c N h0 i).setSlot i (.ref (h0 + 1 + i)) = _
    rw [ab_outer c N h0 i, ab_set_list]
    congr 2
    apply List.ext_getElem
    · simp
    · intro j h1 h2
      simp at h1
      rw [List.getElem_set]
      by_cases hj : i = j
      · subst hj; simp
      · have hj2 : (j < i) = (j < i + 1) := propext ⟨fun q => by omega, fun q => by omega⟩
        simp [hj, hj2]
theorem ab_s_multianewarray {idx : Nat} (hx : p.tables.exec = Jvm.exec) (hb : c.code = cc) (hK : ab_Kn cl D E ks aty s) (hown : s.vm.findClass own = some m.cls) (hw : ks 0 = true ∧ ks 14 = true ∧ aty 0 = .int ∧ aty 14 = .array .int ∧ (Jvm.Cond.classLink own idx ("[" ++ (FieldType.array .int).toString)).before args s = true ∧ (Jvm.Cond.arrayOver (.array .int)).before args s = true ∧ (Jvm.Cond.arrayClass .int).before args s = true) (hc0 : c0 ≤ h.2.1) (hs0 : s0 ≤ h.2.2) (hRc : h'.2.1 - c0 ≤ R.cells) (hRs : h'.2.2 - s0 ≤ R.slots) (hdg : decode cc pc = .ok (.multianewarray idx 2, 4)) (hf : ab_f sv (.multianewarray idx 2, 4, aux) pc lo st h = some (.inl (pc', lo', st', h'))) (kk : ab_Wn cl D E ks base Hb nL p l e R s m args below meth c Q c0 s0 pc' lo' st' h') : ab_Wn cl D E ks base Hb nL p l e R s m args below meth c Q c0 s0 pc lo st h := by
  intro ls H locs hl hR hlo
  simp only [ab_f] at hf
  split at hf
  · rename_i k n r
    split at hf
    · rename_i hok
      obtain ⟨rfl, rfl, rfl, rfl⟩ := ab_nx_inv hf
      obtain ⟨hn, hk, hn2, hk2⟩ := hok
      obtain ⟨w1, w2, w3, w4, w5, w6, w7⟩ := hw
      have hRc : h.2.1 + (1 + n.toNatClampNeg) - c0 ≤ R.cells := hRc
      have hRs : h.2.2 + (n.toNatClampNeg + n.toNatClampNeg * k.toNatClampNeg) - s0 ≤ R.slots := hRs
      intro T hT Xs
      obtain ⟨vm₁, cA, comp, -, fA, fC, hO, -, X', step⟩ := Xs.multianewarray2F hx hown w5 w6 w7 (g := F0 m pc ls (.int k :: .int n :: r)) rfl (by rw [hb]; exact hdg) rfl hn hk (by omega) (by show _ * 4 ≤ _; omega) (by omega) rfl rfl (by omega) (by omega)
      have eA : cA = E 14 := by
        have h9 := (hK.2.1 14 w2).2.2
        rw [w4] at h9
        exact Option.some.inj (fA.symm.trans h9)
      have eC : comp = E 0 := by
        have h9 := (hK.2.1 0 w1).2.2
        rw [w3] at h9
        exact Option.some.inj (fC.symm.trans h9)
      subst eA; subst eC
      generalize hF : Jvm.Free.Multi.fill (T.setVm vm₁) (E 14) (E 0) n.toNatClampNeg k.toNatClampNeg (defaultValue .int) n.toNatClampNeg = F at X' step
      have hTh : (T.setVm vm₁).heap = H := hT
      obtain ⟨f1, f2, -, -⟩ := Jvm.Free.Multi.fill_facts (T.setVm vm₁) (E 14) (E 0) n.toNatClampNeg k.toNatClampNeg (defaultValue .int) n.toNatClampNeg
      rw [hF, hTh] at f1 f2
      have hold : ∀ x : Nat, x < H.size → F.heap[x]? = H[x]? := fun x hx => by
        have := Jvm.Free.Multi.fill_old (T.setVm vm₁) (E 14) (E 0) n.toNatClampNeg k.toNatClampNeg (defaultValue .int) (a := x) (by rw [hTh]; exact hx) n.toNatClampNeg
        rw [hF, hTh] at this
        exact this
      have hrow : ∀ j : Nat, j < n.toNatClampNeg → F.heap[H.size + 1 + j]? = some { cls := E 0, slots := (List.replicate k.toNatClampNeg (Value.int 0)).toArray, vm := .none } := fun j hj => by
        have := Jvm.Free.Multi.fill_inner (T.setVm vm₁) (E 14) (E 0) n.toNatClampNeg k.toNatClampNeg (defaultValue .int) n.toNatClampNeg j hj
        rw [hF, hTh] at this
        rw [this]
        simp [Jvm.Free.Multi.innerC, defaultValue]
      rw [ab_outer] at f2
      obtain ⟨r1, r2, r3, r4⟩ := hR
      have hnew : ab_Rl cl D E ks base Hb (ab_mu h n.toNatClampNeg k.toNatClampNeg) F.heap := by
        refine ⟨by omega, by show h.2.1 + (1 + n.toNatClampNeg) = _; omega, fun q hq => (hold q (by omega)).trans (r3 q hq), fun a d hd => ?_⟩
        have h9 : (if a = h.2.1 then some (Sum.inl (14, (List.range n.toNatClampNeg).map fun i => Value.ref (h.2.1 + 1 + i))) else if h.2.1 < a ∧ a < h.2.1 + 1 + n.toNatClampNeg then some (Sum.inl (0, List.replicate k.toNatClampNeg (Value.int 0))) else h.1 a) = some d := hd
        by_cases ha : a = h.2.1
        · rw [if_pos ha] at h9
          rw [← Option.some.inj h9, ha]
          refine Or.inl ⟨w2, ?_, by omega⟩
          rw [r2, f2]
          congr 3
          apply List.map_congr_left
          intro j hj
          rw [if_pos (List.mem_range.mp hj)]
        · rw [if_neg ha] at h9
          by_cases hb2 : h.2.1 < a ∧ a < h.2.1 + 1 + n.toNatClampNeg
          · rw [if_pos hb2] at h9
            rw [← Option.some.inj h9]
            refine Or.inl ⟨w1, ?_, by omega⟩
            have := hrow (a - (H.size + 1)) (by omega)
            rw [show H.size + 1 + (a - (H.size + 1)) = a by omega] at this
            exact this
          · rw [if_neg hb2] at h9
            have h8 := r4 a d h9
            exact h8.kept (hold a h8.lt)
      have kk2 := kk ls F.heap locs hl hnew hlo
      have e1 : (ab_mu h n.toNatClampNeg k.toNatClampNeg).2.1 - c0 = h.2.1 - c0 + (1 + n.toNatClampNeg) := by show h.2.1 + (1 + n.toNatClampNeg) - c0 = _; omega
      have e2 : (ab_mu h n.toNatClampNeg k.toNatClampNeg).2.2 - s0 = h.2.2 - s0 + (n.toNatClampNeg + n.toNatClampNeg * k.toNatClampNeg) := by show h.2.2 + (n.toNatClampNeg + n.toNatClampNeg * k.toNatClampNeg) - s0 = _; omega
      rw [e1, e2] at kk2
      obtain ⟨t, a1, b1⟩ := kk2 F rfl (by first | exact X' | (rw [Nat.add_assoc, Nat.add_assoc] at X'; exact X') | (simpa [Nat.add_assoc] using X'))
      refine ⟨t, step t ?_, b1⟩
      have e : T.heap.size = H.size := by rw [hT]
      rw [e, ← r2]
      exact a1
    · cases hf
  · cases hf
end ABM
