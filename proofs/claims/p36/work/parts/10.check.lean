/-! A CHECK BY PROGRAM: the tables of a claim (its methods' code with the places of the words that each instruction needs) give what the tie asks of them. -/
/-- a row of a method's code: its place, the instruction, the places of the words that it needs -/
abbrev ck_Row : Type := Nat × ab_I × List Nat
def ck_w (tbl : List Jvm.Cond) (ix : Nat) (w : Jvm.Cond) : Bool := decide (tbl[ix]? = some w) && ab_kp w
def ck_x (l : List Nat) (i : Nat) : Nat := l.getD i 0
def ck_fl (tbl : List Jvm.Cond) (own : String) (idx : Nat) (q : String × String × String × Bool) (l : List Nat) : Bool := match tbl[ck_x l 0]? with
  | some (.fieldLink o i r a b) => decide (o = own) && decide (i = idx) && decide (a = q.2.1) && decide (b = q.2.2.1) && (decide (r = q.1) || ck_w tbl (ck_x l 1) (.sameField r q.1 a b))
  | some (.fieldLinkNest o i r a b _) => decide (o = own) && decide (i = idx) && decide (a = q.2.1) && decide (b = q.2.2.1) && (decide (r = q.1) || ck_w tbl (ck_x l 1) (.sameField r q.1 a b))
  | _ => false
/-- the classes: their fields' words, types, names -/
def ck_cls (tbl : List Jvm.Cond) (q : vw_C) (ty : Nat → FieldType) : Bool :=
  ((u_ws q.1 q.2.1 q.2.2).all fun w => decide (w ∈ tbl) && ab_kp w) && ((List.range q.2.2).all fun j => decide (parseFieldDescriptor (q.2.1 j).2.2.1 = some (ty j))) && ((List.range q.2.2).all fun a => (List.range q.2.2).all fun b => decide (a = b) || !decide ((q.2.1 a).2.1 = (q.2.1 b).2.1))
def ck_ml (tbl : List Jvm.Cond) (own : String) (idx : Nat) (y : MethodName) (nest : Bool) (ix : Nat) : Bool := match tbl[ix]? with
  | some (.methodLink o i x) => decide (o = own) && decide (i = idx) && decide (x = y)
  | some (.methodLinkNest o i x _) => nest && decide (o = own) && decide (i = idx) && decide (x = y)
  | _ => false
/-- a handler among the rows of the table: l has, a row that covers the place, the place of its class's link; last the place of 'castable' -/
def ck_hr (tbl : List Jvm.Cond) (ncs : List (String × String)) (X own : String) (cc : ByteArray) (nL pc p k : Nat) : List (Nat × Nat × Nat × Nat) → List Nat → Bool
  | (a, b, h, t) :: rows, l => if covers ⟨a, b, h, t⟩ pc = false then ck_hr tbl ncs X own cc nL pc p k rows l else match l with
    | ix :: l => match tbl[ix]? with
      | some (.classLink o i nm) => decide (o = own) && decide (i = t) && decide (t ≠ 0) && ab_kp (.classLink o i nm) && (if (X, nm) ∈ ncs then ck_hr tbl ncs X own cc nL pc p k rows l else
          ck_w tbl (ck_x l 0) (.castable X nm) && decide (k < nL) && ((decide (decode cc h = .ok (.astore k, 2)) && decide (p = h + 2)) || (if hk : k < 4 then decide (decode cc h = .ok (.astore_n ⟨k, hk⟩, 1)) && decide (p = h + 1) else false)))
      | _ => false
    | [] => false
  | [], _ => false
def ck_hs (tbl : List Jvm.Cond) (ncs : List (String × String)) (en : Nat → String) (own : String) (cc : ByteArray) (nL pc : Nat) (rows : List (Nat × Nat × Nat × Nat)) (hd : List Nat) (l : List (List Nat)) : Bool :=
  (ab_hs hd).zipIdx.all fun q => ck_hr tbl ncs (en q.1.1) own cc nL pc q.1.2.1 q.1.2.2 rows (l.getD q.2 [])
def ck_sp : Nat → List Nat → List (List Nat)
  | k + 1, n :: l => (l.take n) :: ck_sp k (l.drop n)
  | _, _ => []
def ck_split (l : List Nat) : List (List Nat) := ck_sp l.length l
def ck_n0 (tbl : List Jvm.Cond) (cl : List vw_C) (ty : Nat → Nat → FieldType) (own : String) (idx : Nat) (l : List Nat) (ci : Nat) (ts : List Nat) : Bool := match cl[ci]? with
  | some q => decide (q.2.2 = ts.length) && (ts.zipIdx.all fun x => decide (defaultValue (ty ci x.2) = ab_dv x.1)) && ck_w tbl (ck_x l 0) (.classLink own idx q.1) && ck_w tbl (ck_x l 1) (.instantiable q.1 ts.length) && ck_w tbl (ck_x l 2) (.initialized q.1)
  | none => false
def ck_nm : List String := ["java/lang/RuntimeException", "java/lang/Exception"]
def ck_n1 (tbl : List Jvm.Cond) (srs : List (String × Nat × String)) (en : Nat → String) (me : ab_D) (idx pc : Nat) (l : List Nat) (e : Nat) : Bool := match srs[ck_x l 2]? with
  | some sr => decide (sr.1 = me.1.cls) && decide (sr.2.1 = ck_x l 3) && Bundle.fit (en e) && (ck_nm.all fun n => Bundle.fit n) && ck_w tbl (ck_x l 0) (.classLink me.1.cls idx (en e)) && ck_w tbl (ck_x l 1) (.initialized (en e)) && ab_sixB (ck_x l 5) && ((ab_atS me.1.cls (ck_x l 4) (en e) (ck_x l 5) "java/lang/RuntimeException" ["java/lang/Exception"]).all fun w => decide (w ∈ tbl) && ab_kp w && vx_ot w) && vx_ot (.classLink me.1.cls idx (en e)) && vx_ot (.initialized (en e)) &&
      decide (decode me.2.1 pc = .ok (.new idx, 3)) && decide (decode me.2.1 (pc + 3) = .ok (.dup, 1)) && me.2.2.2.2.isEmpty &&
      ((decide (decode me.2.1 (pc + 4) = .ok (.ldc (ck_x l 3), 2)) && decide (decode me.2.1 (pc + 6) = .ok (.invokespecial (ck_x l 4), 3)) && decide (decode me.2.1 (pc + 9) = .ok (.athrow, 1))) || (decide (decode me.2.1 (pc + 4) = .ok (.ldc_w (ck_x l 3), 3)) && decide (decode me.2.1 (pc + 7) = .ok (.invokespecial (ck_x l 4), 3)) && decide (decode me.2.1 (pc + 10) = .ok (.athrow, 1))))
  | none => false
def ck_i (tbl : List Jvm.Cond) (MD : Nat → ab_D) (vm : Nat → Bool) (cl : List vw_C) (ty : Nat → Nat → FieldType) (aty : Nat → FieldType) (ks : Nat → Bool) (sn : List (String × String × String)) (ncs : List (String × String)) (srs : List (String × Nat × String)) (en : Nat → String) (me : ab_D) (pc : Nat) (i : ab_I) (l : List Nat) : Bool :=
  let own := me.1.cls
  let cc := me.2.1
  let aux := i.2.2
  decide (decode cc pc = .ok (i.1, i.2.1)) && ab_lnok i && match i.1 with
  | .ldc idx => ck_w tbl (ck_x l 0) (.constant own idx (Int32.ofNat (ab_ax aux 0)))
  | .ldc_w idx => ck_w tbl (ck_x l 0) (.constant own idx (Int32.ofNat (ab_ax aux 0)))
  | .ldc2_w idx => if ab_ax aux 1 = 1 then ck_w tbl (ck_x l 0) (.constantLong own idx (Int64.ofNat (ab_ax aux 0))) else ck_w tbl (ck_x l 0) (.constantDouble own idx (UInt64.ofNat (ab_ax aux 0)))
  | .getstatic idx => match sn[ab_ax aux 0]?, tbl[ck_x l 0]? with
    | some q, some (.fieldLink o i r a b) => decide (o = own) && decide (i = idx) && decide (r = q.1) && decide (a = q.2.1) && decide (b = q.2.2) && ab_kp (.fieldLink o i r a b)
    | _, _ => false
  | .getfield idx => match cl[ab_ax aux 0]? with
    | some q => decide (ab_ax aux 1 < q.2.2) && ck_fl tbl own idx (q.2.1 (ab_ax aux 1)) l
    | none => false
  | .putfield idx => match cl[ab_ax aux 0]? with
    | some q => decide (ab_ax aux 1 < q.2.2) && ck_fl tbl own idx (q.2.1 (ab_ax aux 1)) l && ab_kt (ab_ax aux 2) (ty (ab_ax aux 0) (ab_ax aux 1)) &&
        (!(q.2.1 (ab_ax aux 1)).2.2.2 || (decide (me.1.name = "<init>") && decide ((q.2.1 (ab_ax aux 1)).1 = own) && (match tbl[ck_x l 0]? with
          | some (.fieldLink ..) => true
          | _ => false)))
    | none => false
  | .newarray t => ck_w tbl (ck_x l 0) (.arrayClass (newarray.typeOf t)) && ks (ab_ax aux 0) && decide (aty (ab_ax aux 0) = newarray.typeOf t)
  | .anewarray idx => ks (ab_ax aux 0) && decide (ab_ax aux 0 % 8 = 6) && match aty (ab_ax aux 0) with
    | .object C => ck_w tbl (ck_x l 0) (.classLink own idx C) && ck_w tbl (ck_x l 1) (.arrayOver (.object C))
    | .array u => ck_w tbl (ck_x l 0) (.classLink own idx (FieldType.array u).toString) && ck_w tbl (ck_x l 1) (.arrayOver (.array u))
    | _ => false
  | .multianewarray idx d => decide (d = 2) && ks 0 && ks 14 && decide (aty 0 = .int) && decide (aty 14 = .array .int) && ck_w tbl (ck_x l 0) (.classLink own idx ("[" ++ (FieldType.array .int).toString)) && ck_w tbl (ck_x l 1) (.arrayOver (.array .int)) && ck_w tbl (ck_x l 2) (.arrayClass .int)
  | .new idx => match aux with
    | 0 :: ci :: ts => ck_n0 tbl cl ty own idx l ci ts
    | 1 :: e :: _ => ck_n1 tbl srs en me idx pc l e
    | _ => true
  | .checkcast idx => match cl[ab_ax aux 0]?, tbl[ck_x l 0]? with
    | some q, some (.classLink o i nm) => decide (o = own) && decide (i = idx) && ab_kp (.classLink o i nm) && (decide (nm = q.1) || ck_w tbl (ck_x l 1) (.castable q.1 nm))
    | _, _ => false
  | .lookupswitch _ ps => (ps.toList.zip (ps.toList.drop 1)).all (fun (a, next) => a.1 < next.1)
  | .ireturn => match me.2.2.2.1 with
    | some t => ab_kt (ab_ax aux 0) t
    | none => false
  | .lreturn => decide (me.2.2.2.1 = some .long)
  | .freturn => decide (me.2.2.2.1 = some .float)
  | .dreturn => decide (me.2.2.2.1 = some .double)
  | .areturn => match me.2.2.2.1 with
    | some (.object _) => true
    | some (.array _) => true
    | _ => false
  | .return_ => decide (me.2.2.2.1 = none)
  | .invokestatic idx => match aux with
    | y :: na :: hd => vm y && decide ((parseMethodDescriptor (MD y).1.desc).map (fun q => q.parameters.length) = some na) && ck_w tbl (ck_x l 0) (.static (MD y).1) && ck_ml tbl own idx (MD y).1 (MD y).2.2.2.2.isEmpty (ck_x l 1) && ck_hs tbl ncs en own cc me.2.2.1 pc me.2.2.2.2 hd (ck_split (l.drop 2))
    | [2] => ck_w tbl (ck_x l 0) (.methodLink own idx Lib.Math.min.name) && ck_w tbl (ck_x l 1) (.static Lib.Math.min.name) && ck_w tbl (ck_x l 2) (.initialized "java/lang/Math") && ck_w tbl (ck_x l 3) (.code Lib.Math.min.name Lib.Math.min.code 2 (some .int))
    | [3] => ck_w tbl (ck_x l 0) (.methodLink own idx Lib.Math.max.name) && ck_w tbl (ck_x l 1) (.static Lib.Math.max.name) && ck_w tbl (ck_x l 2) (.initialized "java/lang/Math") && ck_w tbl (ck_x l 3) (.code Lib.Math.max.name Lib.Math.max.code 2 (some .int))
    | [1] => ck_w tbl (ck_x l 0) (.methodLink own idx arraycopyName) && ck_w tbl (ck_x l 1) (.native arraycopyName) && ck_w tbl (ck_x l 2) (.static arraycopyName) && ck_w tbl (ck_x l 3) (.initialized "java/lang/System")
    | _ => true
  | .invokevirtual idx => match aux with
    | y :: na :: ci :: hd => vm y && decide (1 ≤ na) && decide ((parseMethodDescriptor (MD y).1.desc).map (fun q => q.parameters.length) = some (na - 1)) && ck_w tbl (ck_x l 0) (.instanceMethod (MD y).1) && (MD y).2.2.2.2.isEmpty && ck_ml tbl own idx (MD y).1 true (ck_x l 1) &&
        (match cl[ci]? with
        | some q => ck_w tbl (ck_x l 2) (.selects q.1 (MD y).1 (MD y).1)
        | none => false) && ck_hs tbl ncs en own cc me.2.2.1 pc me.2.2.2.2 hd (ck_split (l.drop 3))
    | _ => true
  | .invokespecial idx => match aux with
    | y :: na :: hd => vm y && decide (1 ≤ na) && decide ((parseMethodDescriptor (MD y).1.desc).map (fun q => q.parameters.length) = some (na - 1)) && ck_w tbl (ck_x l 0) (.instanceMethod (MD y).1) && (MD y).2.2.2.2.isEmpty && decide ((MD y).1.name = "<init>") && decide ((MD y).2.2.2.1 = none) && ck_ml tbl own idx (MD y).1 true (ck_x l 1) && ck_hs tbl ncs en own cc me.2.2.1 pc me.2.2.2.2 hd (ck_split (l.drop 2))
    | [0] => ck_w tbl (ck_x l 0) (.methodLink own idx Lib.objectInit) && ck_w tbl (ck_x l 1) (.instanceMethod Lib.objectInit) && ck_w tbl (ck_x l 2) (.code Lib.objectInit ⟨#[0xb1]⟩ 1 none)
    | _ => true
  | _ => true
section CKS
variable {tbl : List Jvm.Cond} {MD : Nat → ab_D} {vm : Nat → Bool} {cl : List vw_C} {D : va_G} {E : Nat → ClassId} {ty : Nat → Nat → FieldType} {aty : Nat → FieldType} {ks : Nat → Bool} {sn : List (String × String × String)} {ncs : List (String × String)} {srs : List (String × Nat × String)} {sts : List (String × String × String × Value)} {en : Nat → String} {me : ab_D} {base : Nat} {Hb : Heap} {sv : Nat → Value}
variable {s : State} {args : Array Value} {m : MethodId} {meth : Method} {c : Code} {h0 : ab_H}
theorem ck_w_ok {ix : Nat} {w : Jvm.Cond} (hts : ∀ w ∈ tbl, ab_kp w = true → w.before args s = true) (h : ck_w tbl ix w = true) : w.before args s = true := by
  unfold ck_w at h
  rw [Bool.and_eq_true] at h
  exact hts w (List.mem_of_getElem? (of_decide_eq_true h.1)) h.2
theorem ck_cls_ok {q : vw_C} {t : Nat → FieldType} (hts : ∀ w ∈ tbl, ab_kp w = true → w.before args s = true) (h : ck_cls tbl q t = true) : (∀ w ∈ u_ws q.1 q.2.1 q.2.2, w.before args s = true) ∧ (∀ j, j < q.2.2 → parseFieldDescriptor (q.2.1 j).2.2.1 = some (t j)) ∧ (∀ a, a < q.2.2 → ∀ b, b < q.2.2 → a ≠ b → (q.2.1 a).2.1 ≠ (q.2.1 b).2.1) := by
  unfold ck_cls at h
  rw [Bool.and_eq_true, Bool.and_eq_true] at h
  obtain ⟨⟨h1, h2⟩, h3⟩ := h
  refine ⟨fun w hw => ?_, fun j hj => ?_, fun a ha b hb hab => ?_⟩
  · have := List.all_eq_true.mp h1 w hw
    rw [Bool.and_eq_true] at this
    exact hts w (of_decide_eq_true this.1) this.2
  · exact of_decide_eq_true (List.all_eq_true.mp h2 j (List.mem_range.mpr hj))
  · have := List.all_eq_true.mp (List.all_eq_true.mp h3 a (List.mem_range.mpr ha)) b (List.mem_range.mpr hb)
    rw [Bool.or_eq_true] at this
    rcases this with h | h
    · exact absurd (of_decide_eq_true h) hab
    · simpa using h
theorem ck_fl_ok {own : String} {idx : Nat} {q : String × String × String × Bool} {l : List Nat} (hts : ∀ w ∈ tbl, ab_kp w = true → w.before args s = true) (h : ck_fl tbl own idx q l = true) :
    ∃ ref : String, (∀ x, s.fieldFound? q.1 q.2.1 q.2.2.1 = some x → s.fieldFound? ref q.2.1 q.2.2.1 = some x) ∧ ab_fl own s args idx ref q.2.1 q.2.2.1 ∧ ((∃ o i r a b, tbl[ck_x l 0]? = some (.fieldLink o i r a b)) → (Jvm.Cond.fieldLink own idx ref q.2.1 q.2.2.1).before args s = true) := by
  unfold ck_fl at h
  split at h
  · rename_i o i r a b ht
    simp only [Bool.and_eq_true, Bool.or_eq_true, decide_eq_true_eq] at h
    obtain ⟨⟨⟨⟨rfl, rfl⟩, rfl⟩, rfl⟩, h5⟩ := h
    have hw := hts _ (List.mem_of_getElem? ht) rfl
    refine ⟨r, fun x hx => ?_, Or.inl hw, fun _ => hw⟩
    rcases h5 with rfl | h5
    · exact hx
    · exact u_same (ck_w_ok hts h5) x hx
  · rename_i o i r a b hst ht
    simp only [Bool.and_eq_true, Bool.or_eq_true, decide_eq_true_eq] at h
    obtain ⟨⟨⟨⟨rfl, rfl⟩, rfl⟩, rfl⟩, h5⟩ := h
    have hw := hts _ (List.mem_of_getElem? ht) rfl
    refine ⟨r, fun x hx => ?_, Or.inr ⟨_, hw⟩, fun ⟨_, _, _, _, _, e⟩ => by rw [ht] at e; cases e⟩
    rcases h5 with rfl | h5
    · exact hx
    · exact u_same (ck_w_ok hts h5) x hx
  · cases h
theorem ck_ml_ok {own : String} {idx ix : Nat} {y : MethodName} {nest : Bool} (hts : ∀ w ∈ tbl, ab_kp w = true → w.before args s = true) (h : ck_ml tbl own idx y nest ix = true) : (Jvm.Cond.methodLink own idx y).before args s = true ∨ (nest = true ∧ ∃ host : String, (Jvm.Cond.methodLinkNest own idx y host).before args s = true) := by
  unfold ck_ml at h
  split at h
  · rename_i o i x ht
    simp only [Bool.and_eq_true, decide_eq_true_eq] at h
    obtain ⟨⟨rfl, rfl⟩, rfl⟩ := h
    exact Or.inl (hts _ (List.mem_of_getElem? ht) rfl)
  · rename_i o i x hst ht
    simp only [Bool.and_eq_true, decide_eq_true_eq] at h
    obtain ⟨⟨⟨h0, rfl⟩, rfl⟩, rfl⟩ := h
    exact Or.inr ⟨h0, _, hts _ (List.mem_of_getElem? ht) rfl⟩
  · cases h
theorem ck_hr_ok {own : String} {cc : ByteArray} {nL pc e p k : Nat} (hts : ∀ w ∈ tbl, ab_kp w = true → w.before args s = true) : ∀ (rows pre : List (Nat × Nat × Nat × Nat)) (l : List Nat),
    (∀ z ∈ tableOf pre, covers z pc = false ∨ (z.catchType ≠ 0 ∧ ∃ nm : String, (Jvm.Cond.classLink own z.catchType nm).before args s = true ∧ (en e, nm) ∈ ncs)) → c.exceptionTable.toList = tableOf (pre ++ rows) → ck_hr tbl ncs (en e) own cc nL pc p k rows l = true → ab_hw ncs en own s args c cc nL pc e p k
  | [], pre, l, _, _, h => by cases h
  | (a, b, hh, t) :: rows, pre, l, hpre, htab, h => by
    have htab' : c.exceptionTable.toList = tableOf ((pre ++ [(a, b, hh, t)]) ++ rows) := by rw [List.append_assoc]; exact htab
    have ext : ∀ z ∈ tableOf (pre ++ [(a, b, hh, t)]), z ∈ tableOf pre ∨ z = ⟨a, b, hh, t⟩ := by
      intro z hz
      unfold tableOf at hz ⊢
      rw [List.map_append] at hz
      rcases List.mem_append.mp hz with h1 | h1
      · exact Or.inl h1
      · exact Or.inr (by simpa using h1)
    unfold ck_hr at h
    split at h
    · rename_i hcov
      refine ck_hr_ok hts rows (pre ++ [(a, b, hh, t)]) l (fun z hz => ?_) htab' h
      rcases ext z hz with h1 | rfl
      · exact hpre z h1
      · exact Or.inl hcov
    · rename_i hcov
      split at h
      · rename_i ix l2
        split at h
        · rename_i o i nm ht
          simp only [Bool.and_eq_true, decide_eq_true_eq] at h
          obtain ⟨⟨⟨⟨rfl, rfl⟩, h3⟩, h4⟩, h5⟩ := h
          have hw := hts _ (List.mem_of_getElem? ht) h4
          split at h5
          · rename_i hin
            refine ck_hr_ok hts rows (pre ++ [(a, b, hh, i)]) l2 (fun z hz => ?_) htab' h5
            rcases ext z hz with h1 | rfl
            · exact hpre z h1
            · exact Or.inr ⟨h3, nm, hw, hin⟩
          · simp only [Bool.and_eq_true, Bool.or_eq_true, decide_eq_true_eq] at h5
            obtain ⟨⟨h6, h7⟩, h8⟩ := h5
            refine ⟨tableOf pre, tableOf rows, ⟨a, b, hh, i⟩, nm, by rw [htab]; simp [tableOf], hpre, by simpa using hcov, h3, hw, ck_w_ok hts h6, h7, ?_⟩
            rcases h8 with h8 | h8
            · exact Or.inl h8
            · split at h8
              · rename_i hk
                simp only [Bool.and_eq_true, decide_eq_true_eq] at h8
                exact Or.inr ⟨⟨k, hk⟩, rfl, h8.1, h8.2⟩
              · cases h8
        · cases h
      · cases h
theorem ck_lookup {α : Type} : ∀ (l : List (Nat × α)) (e : Nat) (v : α), l.lookup e = some v → (e, v) ∈ l
  | [], _, _, h => by cases h
  | (a, x) :: l, e, v, h => by
    unfold List.lookup at h
    split at h
    · rename_i he
      have : e = a := by simpa using he
      rw [this, ← Option.some.inj h]
      exact List.mem_cons_self
    · exact List.mem_cons_of_mem _ (ck_lookup l e v h)
theorem ck_hs_ok {own : String} {cc : ByteArray} {nL pc : Nat} {rows : List (Nat × Nat × Nat × Nat)} {hd : List Nat} {l : List (List Nat)} (hts : ∀ w ∈ tbl, ab_kp w = true → w.before args s = true) (htab : c.exceptionTable.toList = tableOf rows) (h : ck_hs tbl ncs en own cc nL pc rows hd l = true) : ∀ e p k, (ab_hs hd).lookup e = some (p, k) → ab_hw ncs en own s args c cc nL pc e p k := by
  intro e p k hl
  have hm := ck_lookup _ _ _ hl
  obtain ⟨j, hj⟩ := List.getElem?_of_mem hm
  have hz : ((e, p, k), j) ∈ (ab_hs hd).zipIdx := by rw [List.mem_zipIdx_iff_getElem?]; exact hj
  have := List.all_eq_true.mp h _ hz
  exact ck_hr_ok hts rows [] _ (fun z hz => nomatch hz) htab this
end CKS
