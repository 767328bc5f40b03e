/-! THE START: what the Statement gives of it, and the claim's walk out of a run on the machine of the tables. -/
abbrev st_G : Jvm.Cond := Jvm.Cond.and given_1 narrow_1
theorem st_flags {l : Launch} (h : l.flags = flags0) : l.stackTraces = false := by
  unfold Launch.stackTraces
  rw [h]
  decide +kernel
theorem st_len {args : Array Value} {s : State} {t : Term} (h : (Jvm.Cond.eq (.length t) (.int 0)).before args s = true) : ∃ (a : Nat) (cell : Cell), t.eval args s none [] s = some (.ref a) ∧ s.arrayAt? a = some cell ∧ cell.slots.size = 0 := by
  have hv := va_eqt h
  obtain ⟨a, cell, ht, hcell, he⟩ := Term.length_spec hv
  refine ⟨a, cell, ht, hcell, ?_⟩
  have hn : cell.slots.size < 2 ^ 31 := by
    refine Classical.byContradiction fun hn => ?_
    simp [Term.eval, ht, hcell, hn] at hv
  have h2 : Int32.ofNat cell.slots.size = Int32.ofNat 0 := (Value.int.inj he).symm
  have h3 := congrArg Int32.toNatClampNeg h2
  rw [Int32.toNatClampNeg_ofNat_of_lt hn, Int32.toNatClampNeg_ofNat_of_lt (by decide)] at h3
  exact h3
theorem st_scr {scr : Cell} {L : Nat} {xs : Nat → Int32} (hsz : scr.slots.size = L) (hval : ∀ j : Nat, j < L → scr.slots[j]? = some (.int (xs j))) : scr.slots = ((List.range L).map fun i => Value.int (xs i)).toArray := by
  apply Array.ext'
  apply List.ext_getElem?
  intro i
  rw [Array.getElem?_toList]
  by_cases hi : i < L
  · rw [hval i hi]
    simp [hi]
  · rw [Array.getElem?_eq_none (by omega)]
    simp [hi]
theorem st_clk : (tb_cl.zipIdx.all fun x => ck_cls lw_tbl x.1 (tb_ty x.2) && (decide (Jvm.Cond.instantiable x.1.1 x.1.2.2 ∈ lw_tbl) && decide (Jvm.Cond.castable x.1.1 "java/lang/Object" ∈ lw_tbl))) = true := by decide +kernel
theorem st_cl (ci : Nat) (q : vw_C) (h : tb_cl[ci]? = some q) : ck_cls lw_tbl q (tb_ty ci) = true ∧ Jvm.Cond.instantiable q.1 q.2.2 ∈ lw_tbl ∧ Jvm.Cond.castable q.1 "java/lang/Object" ∈ lw_tbl := by
  have hz : (q, ci) ∈ tb_cl.zipIdx := by rw [List.mem_zipIdx_iff_getElem?]; exact h
  have h1 := List.all_eq_true.mp st_clk _ hz
  rw [Bool.and_eq_true, Bool.and_eq_true] at h1
  exact ⟨h1.1, of_decide_eq_true h1.2.1, of_decide_eq_true h1.2.2⟩
theorem st_a0 : Jvm.Cond.arrayClass .int ∈ lw_tbl := by decide +kernel
theorem st_a1 : Jvm.Cond.arrayClass .boolean ∈ lw_tbl := by decide +kernel
theorem st_a6 : Jvm.Cond.arrayOver (.object "java/lang/Object") ∈ lw_tbl := by decide +kernel
theorem st_a14 : Jvm.Cond.arrayOver (.array .int) ∈ lw_tbl := by decide +kernel
theorem st_a38 : Jvm.Cond.arrayOver (.object "SwapWhile$Frame") ∈ lw_tbl := by decide +kernel
theorem st_a62 : Jvm.Cond.arrayOver (.object "SwapWhile$Task") ∈ lw_tbl := by decide +kernel
theorem st_ks (t : Nat) (h : tb_ks t = true) : ab_kw2 lw_tbl tb_cl tb_aty t := by
  have h : t ∈ [0, 1, 6, 14, 38, 62] := of_decide_eq_true h
  have c2 : ∀ (q : vw_C), tb_cl[2]? = some q → "SwapWhile$Frame" = q.1 := fun q hq => congrArg (fun z : vw_C => z.1) (Option.some.inj hq)
  have c5 : ∀ (q : vw_C), tb_cl[5]? = some q → "SwapWhile$Task" = q.1 := fun q hq => congrArg (fun z : vw_C => z.1) (Option.some.inj hq)
  simp only [List.mem_cons, List.not_mem_nil, or_false] at h
  rcases h with e | e | e | e | e | e <;> subst e
  · exact ⟨by decide, by decide, Or.inl ⟨by decide, st_a0⟩⟩
  · exact ⟨by decide, by decide, Or.inl ⟨by decide, st_a1⟩⟩
  · exact ⟨by decide, by decide, Or.inr (Or.inl ⟨"java/lang/Object", rfl, st_a6, by decide, fun ci q hq e => by omega, fun _ => rfl⟩)⟩
  · exact ⟨by decide, by decide, Or.inr (Or.inr ⟨rfl, rfl, st_a14, st_a0, rfl⟩)⟩
  · refine ⟨by decide, by decide, Or.inr (Or.inl ⟨"SwapWhile$Frame", rfl, st_a38, by decide, fun ci q hq e => ?_, fun e => by omega⟩)⟩
    obtain rfl : ci = 2 := by omega
    exact c2 q hq
  · refine ⟨by decide, by decide, Or.inr (Or.inl ⟨"SwapWhile$Task", rfl, st_a62, by decide, fun ci q hq e => ?_, fun e => by omega⟩)⟩
    obtain rfl : ci = 5 := by omega
    exact c5 q hq
theorem st_nck : (tb_ncs.all fun q => decide (Jvm.Cond.not (.castable q.1 q.2) ∈ flatC st_G)) = true := by decide +kernel
theorem st_srk : (tb_srs.all fun q => decide (Jvm.Cond.stringRef q.1 q.2.1 q.2.2 ∈ lw_tbl) && decide (Jvm.Cond.exactly (.string q.1 q.2.1) "java/lang/String" ∈ flatC st_G)) = true := by decide +kernel
theorem st_rd : ∀ y, tb_vm y = true → ((tb_CL y).all fun q => ck_i lw_tbl tb_MD tb_vm tb_cl tb_ty tb_aty tb_ks tb_sn tb_ncs tb_srs tb_en (tb_MD y) q.1 q.2.1 q.2.2) = true := fun y hy => tb_row y (by
  have h : 2 ≤ y ∧ y < tb_n := of_decide_eq_true hy
  have : tb_n = 113 := rfl
  omega)
theorem st_go {p : Program} {l : Launch} {e : Env} {s : State} {m : MethodId} {below : List Frame} {meth : Method} {c : Code} (hflags : l.flags = flags0) {b L : Nat} {xs : Nat → Int32} (hx : p.tables.exec = Jvm.exec) (hcode : c.code = code) (hret : meth.sig.returnType = ret) (hml : c.maxLocals = 18) (hown : s.vm.findClass "SwapWhileLaw" = some m.cls) (hts : ∀ w ∈ lw_tbl, w.before #[Value.ref b] s = true) (hX : va_X b L xs s s.heap) (hbl : b < s.heap.size) (hlocks : meth.locks = false) (hgv : st_G.before #[Value.ref b] s = true) (hname : meth.name = x.name) (htab : c.exceptionTable.toList = []) {QQ : State → Prop}
    (hrun : ∀ (a0 : Nat) (h0 : ab_H), h0.1 a0 = some (.inl (1006, [])) → h0.1 b = some (.inl (1000, (List.range L).map fun i => .int (xs i))) → a0 < h0.2.1 → b < h0.2.1 → ab_run (fun _ => .ref a0) tb_mt (100 + 1) y_Law_law [.ref b] h0 (fun r h' => r = .inl (some (.int 1)) ∧ h'.2.1 - h0.2.1 ≤ 600258 ∧ h'.2.2 - h0.2.2 ≤ 7293130))
    (hQ : ∀ (pc : Nat) (H : Heap) (ls : Array Slot), decode code pc = .ok (.ireturn, 1) → W p l e room_1 s m #[Value.ref b] below meth c H [] 600258 7293130 QQ (F0 m pc ls [.int 1])) :
    W p l e room_1 s m #[Value.ref b] below meth c s.heap [] 0 0 QQ (entryFrame m ([Value.ref b] : List Value).toArray 18) := by
  have hg := flat_of_before st_G hgv
  obtain ⟨scr, hcb, hof, hkn, hsz, hval⟩ := hX
  obtain ⟨a0, cap, hta, hat, hz⟩ := st_len (hg (Jvm.Cond.eq (.length (.static "java/util/ArrayList" "DEFAULTCAPACITY_EMPTY_ELEMENTDATA" "[Ljava/lang/Object;")) (.int 0)) (by decide +kernel))
  obtain ⟨hca, hkna, -, -⟩ := State.arrayAt?_spec hat
  obtain ⟨hofa, -⟩ := Cond.arrayOf_spec (hg (Jvm.Cond.arrayOf (.static "java/util/ArrayList" "DEFAULTCAPACITY_EMPTY_ELEMENTDATA" "[Ljava/lang/Object;") (.object "java/lang/Object")) (by decide +kernel)) hta hca
  have hal : a0 < s.heap.size := (Array.getElem?_eq_some_iff.mp hca).1
  have ro : ∀ {ce : Cell} {ty : FieldType}, s.isArrayOf ce ty → ArrOfT s ce.cls ty := fun ho _ _ => ⟨(fun k h => by cases h), ho.2⟩
  obtain ⟨D, hD⟩ := ab_classes hts (cl := tb_cl) (ty := tb_ty) (fun ci q h => (st_cl ci q h).1) (fun ci q h => ⟨_, (st_cl ci q h).2.1⟩)
  obtain ⟨E, e0, e6, hKn⟩ := ab_known hts hD (ks := tb_ks) (aty := tb_aty) st_ks (by decide) (fun ci q h => (st_cl ci q h).2.2) (ro hof) (ro hofa) rfl rfl
  have hA : ∀ a : Nat, a < s.heap.size → ¬ s.heap.size ≤ a := fun a h => Nat.not_le.mpr h
  have wz1 := hts (Jvm.Cond.laysStatic "java/util/ArrayList" "DEFAULTCAPACITY_EMPTY_ELEMENTDATA" "[Ljava/lang/Object;") (by decide +kernel)
  have wz2 := hts (Jvm.Cond.initialized "java/util/ArrayList") (by decide +kernel)
  have hW0 : ab_World tb_cl D E tb_ks tb_aty s.heap.size tb_ncs tb_srs [("java/util/ArrayList", "DEFAULTCAPACITY_EMPTY_ELEMENTDATA", "[Ljava/lang/Object;", .ref a0)] s s.heap := by
    refine ⟨hKn, fun q hq => ?_, fun q hq => ?_, ?_, ?_, fun q hq => ?_⟩
    · exact va_Nc.of (hg _ (of_decide_eq_true (List.all_eq_true.mp st_nck q hq)))
    · have h1 := List.all_eq_true.mp st_srk q hq
      rw [Bool.and_eq_true] at h1
      obtain ⟨a, c9, cell, k, q1, -⟩ := Cond.exactly_spec (hg _ (of_decide_eq_true h1.2))
      exact ⟨a, vk_R.of (hts _ (of_decide_eq_true h1.1)) q1⟩
    · exact vx_Zqof (hts _ (by decide +kernel)) (hts _ (by decide +kernel)) (hg _ (by decide +kernel)) hA
    · exact vx_Zqof (hts _ (by decide +kernel)) (hts _ (by decide +kernel)) (hg _ (by decide +kernel)) hA
    · rw [List.mem_singleton.mp hq]
      exact va_Zref wz1 wz2 hta hA
  have hne : a0 ≠ b := fun e => by
    subst e
    have : cap = scr := Option.some.inj (hca.symm.trans hcb)
    subst this
    obtain ⟨k1, w1, comp1, w2⟩ := hofa.2
    obtain ⟨k2, w3, comp2, w4⟩ := hof.2
    cases Option.some.inj (w1.symm.trans w3)
    rw [w2] at w4
    cases w4
  let h0 : ab_H := (fun a => if a = b then some (.inl (1000, (List.range L).map fun i => .int (xs i))) else if a = a0 then some (.inl (1006, [])) else none, s.heap.size, 0)
  have hR0 : ab_Rl tb_cl D E tb_ks s.heap.size s.heap h0 s.heap := by
    refine ⟨Nat.le_refl _, rfl, fun _ _ => rfl, fun a cc ha => ?_⟩
    have ha : (if a = b then some (.inl (1000, (List.range L).map fun i => .int (xs i))) else if a = a0 then some (.inl (1006, [])) else none) = some cc := ha
    by_cases h1 : a = b
    · rw [if_pos h1] at ha
      cases ha
      rw [h1]
      exact Or.inr ⟨rfl, scr, hcb, e0.symm, st_scr hsz hval, hkn, hof.1⟩
    · rw [if_neg h1] at ha
      by_cases h2 : a = a0
      · rw [if_pos h2] at ha
        cases ha
        rw [h2]
        exact Or.inr ⟨rfl, cap, hca, e6.symm, Array.eq_empty_of_size_eq_zero hz, hkna, hofa.1⟩
      · rw [if_neg h2] at ha
        cases ha
  have hsn : ∀ (k : Nat) (q : String × String × String), tb_sn[k]? = some q → (q.1, q.2.1, q.2.2, (fun _ : Nat => Value.ref a0) k) ∈ [("java/util/ArrayList", "DEFAULTCAPACITY_EMPTY_ELEMENTDATA", "[Ljava/lang/Object;", Value.ref a0)] := by
    intro k q hq
    have h1 := List.mem_of_getElem? hq
    rw [List.mem_singleton.mp h1]
    exact List.mem_cons_self
  have hws : ∀ w ∈ lw_tbl.filter ab_kp, w.before #[Value.ref b] s = true := fun w hw => hts w (List.mem_filter.mp hw).1
  refine ab_law (cl := tb_cl) (D := D) (E := E) (ks := tb_ks) (aty := tb_aty) (base := s.heap.size) (Hb := s.heap) (ncs := tb_ncs) (srs := tb_srs) (MD := tb_MD) (Wl := lw_tbl.filter ab_kp) (en := tb_en) (vm := tb_vm) (mt := tb_mt) (sv := fun _ => .ref a0) (cc := code) (own := "SwapWhileLaw") (h0 := h0) (d := 100) (yL := y_Law_law) (N1 := 600258) (N2 := 7293130) hx hcode hml hown (st_flags hflags) hlocks tb_okD (fun w hw => (List.mem_filter.mp hw).2) (ck_okM (fun ci q h => (st_cl ci q h).1) hsn st_rd) hws hW0 hR0 rfl (by show 100 + 11 ≤ 2048; omega) (by show 100 * 100 + 300 ≤ 94400; omega) (Nat.le_refl _) (Nat.le_refl _) ?_ rfl hQ (hrun a0 h0 ?_ ?_ hal hbl)
  · intro pc i hi
    have hi : ((tb_CL 113).lookup pc).map (fun q => q.1) = some i := hi
    cases hl : (tb_CL 113).lookup pc with
    | none => rw [hl] at hi; cases hi
    | some q =>
      rw [hl] at hi
      cases hi
      have hm := ck_lookup _ _ _ hl
      have h1 := List.all_eq_true.mp (tb_row 113 (by decide)) _ hm
      exact ck_okI (me := tb_MD 113) (l := q.2) (fun w hw hk => hts w hw) (fun ci q h => (st_cl ci q h).1) hsn hW0 hR0 hret hname htab h1
  · show (if a0 = b then some (Sum.inl (1000, (List.range L).map fun i => Value.int (xs i))) else if a0 = a0 then some (.inl (1006, [])) else none) = _
    rw [if_neg hne, if_pos rfl]
  · show (if b = b then some (Sum.inl (1000, (List.range L).map fun i => Value.int (xs i))) else if b = a0 then some (.inl (1006, [])) else none) = _
    rw [if_pos rfl]
