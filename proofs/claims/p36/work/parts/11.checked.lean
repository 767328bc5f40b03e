/-! WHAT THE CHECK BY PROGRAM GIVES. -/
section CKO
variable {tbl : List Jvm.Cond} {MD : Nat → ab_D} {vm : Nat → Bool} {cl : List vw_C} {D : va_G} {E : Nat → ClassId} {ty : Nat → Nat → FieldType} {aty : Nat → FieldType} {ks : Nat → Bool} {sn : List (String × String × String)} {ncs : List (String × String)} {srs : List (String × Nat × String)} {sts : List (String × String × String × Value)} {en : Nat → String} {me : ab_D} {base : Nat} {Hb : Heap} {sv : Nat → Value}
variable {s : State} {args : Array Value} {m : MethodId} {meth : Method} {c : Code} {h0 : ab_H}
set_option maxHeartbeats 2000000 in
theorem ck_okS {pc : Nat} {i : ab_I} {l : List Nat} (hts : ∀ w ∈ tbl, ab_kp w = true → w.before args s = true) (hcl : ∀ ci q, cl[ci]? = some q → ck_cls tbl q (ty ci) = true) (hsn : ∀ k q, sn[k]? = some q → (q.1, q.2.1, q.2.2, sv k) ∈ sts)
    (hW : ab_World cl D E ks aty base ncs srs sts s s.heap) (hR : ab_Rl cl D E ks base Hb h0 s.heap) (hnm : meth.name = me.1.name) (h : ck_i tbl MD vm cl ty aty ks sn ncs srs en me pc i l = true) : ab_okS cl aty ks Hb base sv me.1.cls s args meth i := by
  obtain ⟨I, len, aux⟩ := i
  unfold ck_i at h
  dsimp only at h
  rw [Bool.and_eq_true] at h
  obtain ⟨-, h⟩ := h
  cases I
  case ldc idx => exact ck_w_ok hts h
  case ldc_w idx => exact ck_w_ok hts h
  case ldc2_w idx =>
    show if ab_ax aux 1 = 1 then _ else _
    dsimp only at h
    split at h
    · rename_i e
      rw [if_pos e]
      exact ck_w_ok hts h
    · rename_i e
      rw [if_neg e]
      exact ck_w_ok hts h
  case getstatic idx =>
    dsimp only at h
    split at h
    · rename_i q o i r a b hq ht
      simp only [Bool.and_eq_true, decide_eq_true_eq] at h
      obtain ⟨⟨⟨⟨⟨rfl, rfl⟩, rfl⟩, rfl⟩, rfl⟩, h6⟩ := h
      have hz := hW.2.2.2.2.2 _ (hsn _ _ hq)
      obtain ⟨cf, kf, fi, f, ad, cell, g1, g2, g3, g4, g5, g6, g7, g8⟩ := hz
      have hlt : ad < base := Nat.not_le.mp g8
      exact ⟨q.1, q.2.1, q.2.2, cf, fi, kf, f, ad, cell, hts _ (List.mem_of_getElem? ht) h6, g1, g2, g3, g4, hlt, (hR.2.2.1 ad hlt).symm.trans g5, (fun e => by rw [e] at g6; cases g6), g7⟩
    · cases h
  case getfield idx =>
    dsimp only at h
    split at h
    · rename_i q hq
      obtain ⟨C, T, N⟩ := q
      rw [Bool.and_eq_true, decide_eq_true_eq] at h
      obtain ⟨ref, g1, g2, -⟩ := ck_fl_ok hts h.2
      exact ⟨C, T, N, ref, hq, h.1, (ck_cls_ok hts (hcl _ _ hq)).1, g1, g2⟩
    · cases h
  case putfield idx =>
    dsimp only at h
    split at h
    · rename_i q hq
      obtain ⟨C, T, N⟩ := q
      simp only [Bool.and_eq_true, decide_eq_true_eq] at h
      obtain ⟨⟨⟨h1, h2⟩, h3⟩, h4⟩ := h
      obtain ⟨ref, g1, g2, g3⟩ := ck_fl_ok hts h2
      obtain ⟨k1, k2, k3⟩ := ck_cls_ok hts (hcl _ _ hq)
      refine ⟨C, T, N, ref, ty _, hq, h1, k1, g1, k2, k3, h3, ?_⟩
      rw [Bool.or_eq_true] at h4
      rcases h4 with h4 | h4
      · exact Or.inl ⟨by simpa using h4, g2⟩
      · simp only [Bool.and_eq_true, decide_eq_true_eq] at h4
        obtain ⟨⟨h5, h6⟩, h7⟩ := h4
        by_cases hf : (T (ab_ax aux 1)).2.2.2 = true
        · refine Or.inr ⟨hf, g3 ?_, hnm.trans h5, h6⟩
          split at h7
          · rename_i o i r a b ht
            exact ⟨o, i, r, a, b, ht⟩
          · cases h7
        · exact Or.inl ⟨by simpa using hf, g2⟩
    · cases h
  case newarray t =>
    simp only [Bool.and_eq_true, decide_eq_true_eq] at h
    exact ⟨ck_w_ok hts h.1.1, h.1.2, h.2⟩
  case anewarray idx =>
    simp only [Bool.and_eq_true, decide_eq_true_eq] at h
    obtain ⟨⟨h1, h2⟩, h3⟩ := h
    refine ⟨h1, h2, ?_⟩
    split at h3
    · rename_i C hC
      rw [Bool.and_eq_true] at h3
      exact Or.inl ⟨C, hC, ck_w_ok hts h3.1, ck_w_ok hts h3.2⟩
    · rename_i u hu
      rw [Bool.and_eq_true] at h3
      exact Or.inr ⟨u, hu, ck_w_ok hts h3.1, ck_w_ok hts h3.2⟩
    · cases h3
  case multianewarray idx d =>
    simp only [Bool.and_eq_true, decide_eq_true_eq] at h
    obtain ⟨⟨⟨⟨⟨⟨⟨h1, h2⟩, h3⟩, h4⟩, h5⟩, h6⟩, h7⟩, h8⟩ := h
    exact ⟨h1, h2, h3, h4, h5, ck_w_ok hts h6, ck_w_ok hts h7, ck_w_ok hts h8⟩
  case new idx =>
    intro ci ts hax
    have hax : aux = 0 :: ci :: ts := hax
    subst hax
    have h : ck_n0 tbl cl ty me.1.cls idx l ci ts = true := h
    unfold ck_n0 at h
    split at h
    · rename_i q hq
      obtain ⟨C, T, N⟩ := q
      simp only [Bool.and_eq_true, decide_eq_true_eq] at h
      obtain ⟨⟨⟨⟨h1, h2⟩, h3⟩, h4⟩, h5⟩ := h
      have h1 : N = ts.length := h1
      subst h1
      obtain ⟨k1, k2, k3⟩ := ck_cls_ok hts (hcl _ _ hq)
      refine ⟨C, T, ty ci, hq, k1, k2, fun j k hj => ?_, ck_w_ok hts h3, ck_w_ok hts h4, ck_w_ok hts h5⟩
      have hz : (k, j) ∈ ts.zipIdx := by rw [List.mem_zipIdx_iff_getElem?]; exact hj
      exact of_decide_eq_true (List.all_eq_true.mp h2 _ hz)
    · cases h
  case checkcast idx =>
    dsimp only at h
    split at h
    · rename_i q o i nm hq ht
      simp only [Bool.and_eq_true, Bool.or_eq_true, decide_eq_true_eq] at h
      obtain ⟨⟨⟨rfl, rfl⟩, h3⟩, h4⟩ := h
      refine ⟨q, nm, hq, hts _ (List.mem_of_getElem? ht) h3, ?_⟩
      rcases h4 with rfl | h4
      · have hf : s.vm.findClass q.1 = some _ := (hW.1.1 _ _ hq).2.1
        show (Jvm.Cond.castable q.1 q.1).before #[] s = true
        simp [Cond.before, Cond.holds, Cond.value, hf, Vm.assignable_self]
      · exact va_tabs rfl rfl (ck_w_ok hts h4)
    · cases h
  case invokespecial idx =>
    intro hax
    have hax : aux = [0] := hax
    subst hax
    simp only [Bool.and_eq_true] at h
    exact ⟨ck_w_ok hts h.1.1, ck_w_ok hts h.1.2, ck_w_ok hts h.2⟩
  case invokestatic idx =>
    refine ⟨fun hax => ?_, fun hax => ?_, fun hax => ?_⟩
    · have hax : aux = [1] := hax
      subst hax
      simp only [Bool.and_eq_true] at h
      exact ⟨ck_w_ok hts h.1.1.1, ck_w_ok hts h.1.1.2, ck_w_ok hts h.1.2, ck_w_ok hts h.2⟩
    · have hax : aux = [2] := hax
      subst hax
      simp only [Bool.and_eq_true] at h
      exact ⟨ck_w_ok hts h.1.1.1, ck_w_ok hts h.1.1.2, ck_w_ok hts h.1.2, ck_w_ok hts h.2⟩
    · have hax : aux = [3] := hax
      subst hax
      simp only [Bool.and_eq_true] at h
      exact ⟨ck_w_ok hts h.1.1.1, ck_w_ok hts h.1.1.2, ck_w_ok hts h.1.2, ck_w_ok hts h.2⟩
  case lookupswitch d ps => exact h
  all_goals exact trivial
theorem ck_okC {pc : Nat} {i : ab_I} {l : List Nat} (hts : ∀ w ∈ tbl, ab_kp w = true → w.before args s = true) (htab : c.exceptionTable.toList = tableOf me.2.2.2.2)
    (h : ck_i tbl MD vm cl ty aty ks sn ncs srs en me pc i l = true) : ab_okC MD vm cl ncs en me.1.cls s args c me.2.1 me.2.2.1 pc i := by
  obtain ⟨I, len, aux⟩ := i
  unfold ck_i at h
  dsimp only at h
  rw [Bool.and_eq_true] at h
  obtain ⟨-, h⟩ := h
  cases I
  case invokestatic idx =>
    intro y na hd hax
    have hax : aux = y :: na :: hd := hax
    subst hax
    simp only [Bool.and_eq_true, decide_eq_true_eq] at h
    obtain ⟨⟨⟨⟨h1, h2⟩, h3⟩, h4⟩, h5⟩ := h
    refine ⟨h1, h2, ck_w_ok hts h3, ?_, ck_hs_ok hts htab h5⟩
    rcases ck_ml_ok hts h4 with h6 | ⟨h6, host, h7⟩
    · by_cases he : (MD y).2.2.2.2 = []
      · exact Or.inl ⟨he, Or.inl h6⟩
      · exact Or.inr ⟨he, h6⟩
    · exact Or.inl ⟨List.isEmpty_iff.mp h6, Or.inr ⟨host, h7⟩⟩
  case invokevirtual idx =>
    intro y na ci hd hax
    have hax : aux = y :: na :: ci :: hd := hax
    subst hax
    simp only [Bool.and_eq_true, decide_eq_true_eq] at h
    obtain ⟨⟨⟨⟨⟨⟨⟨h1, h2⟩, h3⟩, h4⟩, h5⟩, h6⟩, h7⟩, h8⟩ := h
    refine ⟨h1, h2, h3, ck_w_ok hts h4, List.isEmpty_iff.mp h5, ?_, ?_, ck_hs_ok hts htab h8⟩
    · exact (ck_ml_ok hts h6).imp id fun q => q.2
    · split at h7
      · rename_i q hq
        exact ⟨q, hq, ck_w_ok hts h7⟩
      · cases h7
  case invokespecial idx =>
    intro y na hd hax
    have hax : aux = y :: na :: hd := hax
    subst hax
    simp only [Bool.and_eq_true, decide_eq_true_eq] at h
    obtain ⟨⟨⟨⟨⟨⟨⟨⟨h1, h2⟩, h3⟩, h4⟩, h5⟩, h6⟩, h7⟩, h8⟩, h9⟩ := h
    exact ⟨h1, h2, h3, ck_w_ok hts h4, List.isEmpty_iff.mp h5, h6, h7, (ck_ml_ok hts h8).imp id fun q => q.2, ck_hs_ok hts htab h9⟩
  all_goals exact trivial
theorem ck_okR {pc : Nat} {i : ab_I} {l : List Nat} (hret : meth.sig.returnType = me.2.2.2.1) (h : ck_i tbl MD vm cl ty aty ks sn ncs srs en me pc i l = true) : ab_okR meth i := by
  obtain ⟨I, len, aux⟩ := i
  unfold ck_i at h
  dsimp only at h
  rw [Bool.and_eq_true] at h
  obtain ⟨-, h⟩ := h
  cases I
  case ireturn =>
    dsimp only at h
    split at h
    · rename_i t ht
      exact ⟨t, hret.trans ht, h⟩
    · cases h
  case lreturn => exact hret.trans (of_decide_eq_true h)
  case freturn => exact hret.trans (of_decide_eq_true h)
  case dreturn => exact hret.trans (of_decide_eq_true h)
  case areturn =>
    dsimp only at h
    split at h
    · rename_i n hn
      exact ⟨_, hret.trans hn, Or.inl ⟨n, rfl⟩⟩
    · rename_i n hn
      exact ⟨_, hret.trans hn, Or.inr ⟨n, rfl⟩⟩
    · cases h
  case return_ => exact hret.trans (of_decide_eq_true h)
  all_goals exact trivial
theorem ck_okT {pc : Nat} {i : ab_I} {l : List Nat} (hts : ∀ w ∈ tbl, ab_kp w = true → w.before args s = true) (htab : c.exceptionTable.toList = tableOf me.2.2.2.2)
    (h : ck_i tbl MD vm cl ty aty ks sn ncs srs en me pc i l = true) : ab_okT srs en me.1.cls s args c me.2.1 pc i := by
  obtain ⟨I, len, aux⟩ := i
  unfold ck_i at h
  dsimp only at h
  rw [Bool.and_eq_true] at h
  obtain ⟨-, h⟩ := h
  cases I
  case new idx =>
    intro e tl hax
    have hax : aux = 1 :: e :: tl := hax
    subst hax
    have h : ck_n1 tbl srs en me idx pc l e = true := h
    unfold ck_n1 at h
    split at h
    · rename_i sr hsr
      simp only [Bool.and_eq_true, Bool.or_eq_true, decide_eq_true_eq] at h
      obtain ⟨⟨⟨⟨⟨⟨⟨⟨⟨⟨⟨⟨⟨h1, h2⟩, h3⟩, h4⟩, h5⟩, h6⟩, hj⟩, h7⟩, h8⟩, h9⟩, h10⟩, h11⟩, h12⟩, h13⟩ := h
      obtain ⟨o9, i9, text⟩ := sr
      have h1 : o9 = me.1.cls := h1
      have h2 : i9 = ck_x l 3 := h2
      subst h1; subst h2
      have hnil : c.exceptionTable.toList = [] := by rw [htab, List.isEmpty_iff.mp h12]; rfl
      refine ⟨text, "java/lang/RuntimeException", ["java/lang/Exception"], ck_x l 3, ck_x l 4, ck_x l 5, hj, h3, fun n hn => List.all_eq_true.mp h4 n hn, by decide, List.mem_of_getElem? hsr, ck_w_ok hts h5, ck_w_ok hts h6, fun w hw => ?_, fun w hw => ?_, h10, h11, ?_⟩
      · have := List.all_eq_true.mp h7 w hw
        simp only [Bool.and_eq_true, decide_eq_true_eq] at this
        exact hts w this.1.1 this.1.2
      · rcases List.mem_cons.mp hw with rfl | hw
        · exact h8
        · rcases List.mem_cons.mp hw with rfl | hw
          · exact h9
          · have := List.all_eq_true.mp h7 w hw
            simp only [Bool.and_eq_true, decide_eq_true_eq] at this
            exact this.2
      · rcases h13 with ⟨⟨a1, a2⟩, a3⟩ | ⟨⟨a1, a2⟩, a3⟩
        · exact Or.inl ⟨a1, a2, a3, fun x hx => by rw [hnil] at hx; cases hx⟩
        · exact Or.inr ⟨a1, a2, a3, fun x hx => by rw [hnil] at hx; cases hx⟩
    · cases h
  all_goals exact trivial
theorem ck_okI {pc : Nat} {i : ab_I} {l : List Nat} (hts : ∀ w ∈ tbl, ab_kp w = true → w.before args s = true) (hcl : ∀ ci q, cl[ci]? = some q → ck_cls tbl q (ty ci) = true) (hsn : ∀ k q, sn[k]? = some q → (q.1, q.2.1, q.2.2, sv k) ∈ sts)
    (hW : ab_World cl D E ks aty base ncs srs sts s s.heap) (hR : ab_Rl cl D E ks base Hb h0 s.heap) (hret : meth.sig.returnType = me.2.2.2.1) (hnm : meth.name = me.1.name) (htab : c.exceptionTable.toList = tableOf me.2.2.2.2) (h : ck_i tbl MD vm cl ty aty ks sn ncs srs en me pc i l = true) : ab_okI MD vm cl aty ks Hb base sv ncs srs en me.1.cls s args meth c me.2.1 me.2.2.1 pc i := by
  have h9 := h
  unfold ck_i at h9
  dsimp only at h9
  rw [Bool.and_eq_true, Bool.and_eq_true, decide_eq_true_eq] at h9
  exact ⟨h9.1.1, h9.1.2, ck_okS hts hcl hsn hW hR hnm h, ck_okC hts htab h, ck_okR hret h, ck_okT hts htab h⟩
/-- a method's rows as a function of the place -/
def ck_code (rows : List ck_Row) (pc : Nat) : Option ab_I := (rows.lookup pc).map fun q => q.1
theorem ck_okM {CL : Nat → List ck_Row} (hcl : ∀ ci q, cl[ci]? = some q → ck_cls tbl q (ty ci) = true) (hsn : ∀ k q, sn[k]? = some q → (q.1, q.2.1, q.2.2, sv k) ∈ sts)
    (hall : ∀ y, vm y = true → ((CL y).all fun q => ck_i tbl MD vm cl ty aty ks sn ncs srs en (MD y) q.1 q.2.1 q.2.2) = true) : ab_okM MD (tbl.filter ab_kp) vm (fun y => (ck_code (CL y), (MD y).2.2.1)) cl D E ks aty base Hb ncs srs sts en sv := by
  intro y hy
  refine ⟨rfl, ?_⟩
  intro s args m meth c h0 hws hW hR hown hret hnm htab pc i hi
  have hi : ((CL y).lookup pc).map (fun q => q.1) = some i := hi
  cases hl : (CL y).lookup pc with
  | none => rw [hl] at hi; cases hi
  | some q =>
    rw [hl] at hi
    cases hi
    have hm := ck_lookup _ _ _ hl
    have h1 := List.all_eq_true.mp (hall y hy) _ hm
    exact ck_okI (l := q.2) (fun w hw hk => hws w (List.mem_filter.mpr ⟨hw, hk⟩)) hcl hsn hW hR hret hnm htab h1
end CKO
