/-! THE WORLD AT THE LAW'S ENTRY, out of the tables' words. -/
theorem ab_classes {tbl : List Jvm.Cond} {s : State} {args : Array Value} {cl : List vw_C} {ty : Nat → Nat → FieldType} (hts : ∀ w ∈ tbl, w.before args s = true) (hcl : ∀ (ci : Nat) (q : vw_C), cl[ci]? = some q → ck_cls tbl q (ty ci) = true) (hin : ∀ (ci : Nat) (q : vw_C), cl[ci]? = some q → ∃ n : Nat, Jvm.Cond.instantiable q.1 n ∈ tbl) :
    ∃ D : va_G, ∀ (c : Nat) (q : vw_C), cl[c]? = some q → u_Kn s q.1 q.2.1 q.2.2 (D.1 c) (D.2 c) := by
  have h : ∀ c : Nat, ∃ d : ClassId × (Nat → Nat), ∀ q : vw_C, cl[c]? = some q → u_Kn s q.1 q.2.1 q.2.2 d.1 d.2 := by
    intro c
    cases hq : cl[c]? with
    | none => exact ⟨(0, fun _ => 0), fun q h => by cases h⟩
    | some q =>
      obtain ⟨n, hn⟩ := hin c q hq
      have hc := hcl c q hq
      unfold ck_cls at hc
      rw [Bool.and_eq_true, Bool.and_eq_true] at hc
      obtain ⟨cC, iS, hK⟩ := u_known (C := q.1) (T := q.2.1) (N := q.2.2) hts (fun w hw => by
        have h9 := List.all_eq_true.mp hc.1.1 w hw
        rw [Bool.and_eq_true] at h9
        exact of_decide_eq_true h9.1) (hts _ hn)
      exact ⟨(cC, iS), fun q' h' => by cases h'; exact hK⟩
  exact ⟨(fun c => (Classical.choose (h c)).1, fun c => (Classical.choose (h c)).2), fun c q hq => Classical.choose_spec (h c) q hq⟩
theorem ab_arrT {s : State} {c : ClassId} {ty : FieldType} {k : Class} {comp : ClassId} (h1 : s.vm.classes[c]? = some k) (h2 : k.kind = .array comp ty) : ArrOfT s c ty := fun _ _ => ⟨(fun k h => by cases h), k, h1, comp, h2⟩
/-- what an array's kind is told by -/
def ab_kw2 (tbl : List Jvm.Cond) (cl : List vw_C) (aty : Nat → FieldType) (t : Nat) : Prop := t < 1000 ∧ ab_kt (t % 8) (aty t) = true ∧
  ((t % 8 ≠ 6 ∧ Jvm.Cond.arrayClass (aty t) ∈ tbl) ∨
   (∃ C : String, aty t = .object C ∧ Jvm.Cond.arrayOver (.object C) ∈ tbl ∧ t ≠ 14 ∧ (∀ (ci : Nat) (q : vw_C), cl[ci]? = some q → t = 8 * (ci + 2) + 6 → C = q.1) ∧ (t = 6 → C = "java/lang/Object")) ∨
   (t = 14 ∧ aty t = .array .int ∧ Jvm.Cond.arrayOver (.array .int) ∈ tbl ∧ Jvm.Cond.arrayClass .int ∈ tbl ∧ aty 0 = .int))
theorem ab_known {tbl : List Jvm.Cond} {s : State} {args : Array Value} {cl : List vw_C} {D : va_G} {ks : Nat → Bool} {aty : Nat → FieldType} (hts : ∀ w ∈ tbl, w.before args s = true) (hD : ∀ (c : Nat) (q : vw_C), cl[c]? = some q → u_Kn s q.1 q.2.1 q.2.2 (D.1 c) (D.2 c))
    (hks : ∀ t, ks t = true → ab_kw2 tbl cl aty t) (h0 : ks 0 = true) (hobj : ∀ (c : Nat) (q : vw_C), cl[c]? = some q → Jvm.Cond.castable q.1 "java/lang/Object" ∈ tbl)
    {cb cd : ClassId} (hb : ArrOfT s cb .int) (hd : ArrOfT s cd (.object "java/lang/Object")) (a1 : aty 1000 = .int) (a2 : aty 1006 = .object "java/lang/Object") :
    ∃ E : Nat → ClassId, E 1000 = cb ∧ E 1006 = cd ∧ ab_Kn cl D E ks aty s := by
  have h : ∀ t : Nat, ∃ e : ClassId, ks t = true → ∃ (k : Class) (comp : ClassId), s.vm.classes[e]? = some k ∧ k.kind = .array comp (aty t) ∧ s.vm.findClass ("[" ++ (aty t).toString) = some e ∧ (t % 8 = 6 → ∃ C : String, ((aty t = .object C ∧ t ≠ 14) ∨ (t = 14 ∧ C = (FieldType.array .int).toString)) ∧ s.vm.findClass C = some comp) := by
    intro t
    by_cases hk : ks t = true
    · obtain ⟨-, -, h1⟩ := hks t hk
      rcases h1 with ⟨h6, hw⟩ | ⟨C, hC, hw, h14, -⟩ | ⟨h14, hA, hw, -⟩
      · obtain ⟨c, k, comp, q1, q2, q3⟩ := Cond.arrayClass_spec (hts _ hw)
        exact ⟨c, fun _ => ⟨k, comp, q2, q3, q1, fun q => absurd q h6⟩⟩
      · obtain ⟨comp, c, k, q1, -, q2, q3, q4⟩ := Cond.arrayOver_spec (hts _ hw)
        exact ⟨c, fun _ => ⟨k, comp, q2, by rw [hC]; exact q3, by rw [hC]; exact q4, fun _ => ⟨C, Or.inl ⟨hC, h14⟩, q1⟩⟩⟩
      · obtain ⟨comp, c, k, q1, -, q2, q3, q4⟩ := arrayOverA_spec (hts _ hw)
        exact ⟨c, fun _ => ⟨k, comp, q2, by rw [hA]; exact q3, by rw [hA]; exact q4, fun _ => ⟨_, Or.inr ⟨h14, rfl⟩, q1⟩⟩⟩
    · exact ⟨0, fun q => absurd q hk⟩
  let E0 : Nat → ClassId := fun t => Classical.choose (h t)
  have hE0 := fun t => Classical.choose_spec (h t)
  refine ⟨fun t => if t = 1000 then cb else if t = 1006 then cd else E0 t, rfl, rfl, hD, fun t ht => ?_, fun t ht h6 hlt => ?_, fun t ht => ?_⟩
  · obtain ⟨hlt, hkt, -⟩ := hks t ht
    obtain ⟨k, comp, q1, q2, q3, -⟩ := hE0 t ht
    have e : (if t = 1000 then cb else if t = 1006 then cd else E0 t) = E0 t := by rw [if_neg (by omega), if_neg (by omega)]
    show ab_kt (t % 8) (aty t) = true ∧ ArrOfT s (if t = 1000 then cb else if t = 1006 then cd else E0 t) (aty t) ∧ s.vm.findClass ("[" ++ (aty t).toString) = some (if t = 1000 then cb else if t = 1006 then cd else E0 t)
    rw [e]
    exact ⟨hkt, ab_arrT q1 q2, q3⟩
  · obtain ⟨hlt, hkt, hw⟩ := hks t ht
    obtain ⟨k, comp, q1, q2, q3, q4⟩ := hE0 t ht
    obtain ⟨C, hC, hf⟩ := q4 h6
    obtain ⟨kc, hkc⟩ := Vm.classAt_of_findClass hf
    have e : (if t = 1000 then cb else if t = 1006 then cd else E0 t) = E0 t := by rw [if_neg (by omega), if_neg (by omega)]
    have e00 : (if (0 : Nat) = 1000 then cb else if (0 : Nat) = 1006 then cd else E0 0) = E0 0 := rfl
    refine ⟨k, kc, comp, by show s.vm.classes[(if t = 1000 then cb else if t = 1006 then cd else E0 t)]? = some k; rw [e]; exact q1, q2, hkc, fun h14 => ?_, fun h14 => ?_, fun ci q hq ht9 => ?_, fun ht9 ci q hq => ?_⟩
    · rcases hC with ⟨hC, -⟩ | ⟨hC, -⟩
      · exact ⟨C, hC⟩
      · exact absurd hC h14
    · refine ⟨?_, h0⟩
      rcases hC with ⟨-, hC⟩ | ⟨-, hC⟩
      · exact absurd h14 hC
      · subst hC
        rcases hw with ⟨hw, -⟩ | ⟨_, _, _, hw, -⟩ | ⟨-, -, -, -, hz⟩
        · exact absurd h6 hw
        · exact absurd h14 hw
        · obtain ⟨k0, comp0, r1, r2, r3, -⟩ := hE0 0 h0
          have key : ∀ z : FieldType, aty 0 = z → s.vm.findClass ("[" ++ z.toString) = some (E0 0) := by
            intro z hz
            subst hz
            exact r3
          exact Option.some.inj (hf.symm.trans (key _ hz))
    · rcases hC with ⟨hC, h14⟩ | ⟨hC, -⟩
      · rcases hw with ⟨hw, -⟩ | ⟨C', hC', -, -, hw, -⟩ | ⟨hw, -⟩
        · exact absurd h6 hw
        · have e1 : C = C' := by rw [hC] at hC'; exact FieldType.object.inj hC'
          rw [e1, hw ci q hq ht9] at hf
          exact Option.some.inj (hf.symm.trans (hD ci q hq).2.1)
        · exact absurd hw h14
      · omega
    · rcases hw with ⟨hw, -⟩ | ⟨C', hC', -, -, -, hw⟩ | ⟨hw, -⟩
      · exact absurd h6 hw
      · rcases hC with ⟨hC, h14⟩ | ⟨hC, -⟩
        · have e1 : C = C' := by rw [hC] at hC'; exact FieldType.object.inj hC'
          rw [e1, hw ht9] at hf
          obtain ⟨c1, t1, z1, z2, z3⟩ := Cond.castable_spec (hts _ (hobj ci q hq))
          cases z1.symm.trans (hD ci q hq).2.1
          cases z2.symm.trans hf
          exact z3
        · omega
      · omega
  · rcases (by simpa [ab_rk] using ht : t = 1000 ∨ t = 1006) with e | e
    · subst e
      exact ⟨by rw [a1]; rfl, by rw [a1]; exact hb⟩
    · subst e
      exact ⟨by rw [a2]; rfl, by rw [a2]; exact hd⟩
