/-! THE TIE: a method's run on the abstract machine gives its contract. -/
/-- what an end needs -/
def ab_okR (meth : Method) (i : ab_I) : Prop := match i.1 with
  | .ireturn => ∃ ty, meth.sig.returnType = some ty ∧ ab_kt (ab_ax i.2.2 0) ty = true
  | .lreturn => meth.sig.returnType = some .long
  | .freturn => meth.sig.returnType = some .float
  | .dreturn => meth.sig.returnType = some .double
  | .areturn => ∃ ty, meth.sig.returnType = some ty ∧ ((∃ n, ty = .object n) ∨ ∃ t, ty = .array t)
  | .return_ => meth.sig.returnType = none
  | _ => True
/-- what 'throw new E("..")' needs -/
def ab_okT (srs : List (String × Nat × String)) (en : Nat → String) (own : String) (s : State) (args : Array Value) (c : Code) (cc : ByteArray) (pc : Nat) (i : ab_I) : Prop := match i.1 with
  | .new ik => ∀ (e : Nat) (tl : List Nat), i.2.2 = 1 :: e :: tl → ∃ (text Y0 : String) (r0 : List String) (is ic jx : Nat), ab_sixok jx ∧ Bundle.fit (en e) = true ∧ (∀ n ∈ Y0 :: r0, Bundle.fit n = true) ∧ (Y0 :: r0).length ≤ 5 ∧ (own, is, text) ∈ srs ∧ (Jvm.Cond.classLink own ik (en e)).before args s = true ∧ (Jvm.Cond.initialized (en e)).before args s = true ∧ (∀ w ∈ ab_atS own ic (en e) jx Y0 r0, w.before args s = true) ∧
      (∀ w ∈ Jvm.Cond.classLink own ik (en e) :: Jvm.Cond.initialized (en e) :: ab_atS own ic (en e) jx Y0 r0, vx_ot w = true) ∧ decode cc pc = .ok (.new ik, 3) ∧ decode cc (pc + 3) = .ok (.dup, 1) ∧
      ((decode cc (pc + 4) = .ok (.ldc is, 2) ∧ decode cc (pc + 6) = .ok (.invokespecial ic, 3) ∧ decode cc (pc + 9) = .ok (.athrow, 1) ∧ ∀ x ∈ c.exceptionTable.toList, covers x (pc + 9) = false) ∨
       (decode cc (pc + 4) = .ok (.ldc_w is, 3) ∧ decode cc (pc + 7) = .ok (.invokespecial ic, 3) ∧ decode cc (pc + 10) = .ok (.athrow, 1) ∧ ∀ x ∈ c.exceptionTable.toList, covers x (pc + 10) = false))
  | _ => True
def ab_okI (MD : Nat → ab_D) (vm : Nat → Bool) (cl : List vw_C) (aty : Nat → FieldType) (ks : Nat → Bool) (Hb : Heap) (base : Nat) (sv : Nat → Value) (ncs : List (String × String)) (srs : List (String × Nat × String)) (en : Nat → String) (own : String) (s : State) (args : Array Value) (meth : Method) (c : Code) (cc : ByteArray) (nL pc : Nat) (i : ab_I) : Prop :=
  decode cc pc = .ok (i.1, i.2.1) ∧ ab_lnok i = true ∧ ab_okS cl aty ks Hb base sv own s args meth i ∧ ab_okC MD vm cl ncs en own s args c cc nL pc i ∧ ab_okR meth i ∧ ab_okT srs en own s args c cc pc i
section ABE
variable {cl : List vw_C} {D : va_G} {E : Nat → ClassId} {ks : Nat → Bool} {aty : Nat → FieldType} {base : Nat} {Hb : Heap} {ncs : List (String × String)} {srs : List (String × Nat × String)} {sts : List (String × String × String × Value)} {MD : Nat → ab_D} {Wl : List Jvm.Cond} {en : Nat → String} {vm : Nat → Bool}
variable {nL : Nat} {p : Program} {l : Launch} {e : Env} {R : Room} {s : State} {m : MethodId} {args : Array Value} {below : List Frame} {meth : Method} {c : Code} {c0 s0 d : Nat} {sv : Nat → Value}
theorem ab_end {cc : ByteArray} {own : String} {i : ab_I} {pc : Nat} {lo : ab_L} {st : List Value} {h h0 h' : ab_H} {r : ab_R}
    (hx : p.tables.exec = Jvm.exec) (hb : c.code = cc) (hml : c.maxLocals = nL) (hown : s.vm.findClass own = some m.cls) (hls : l.stackTraces = false) (hlocks : meth.locks = false)
    (hW0 : ab_World cl D E ks aty base ncs srs sts s s.heap) (hR0 : ab_Rl cl D E ks base Hb h0 s.heap) (hc00 : h0.2.1 = c0) (hRf : d + 11 ≤ R.frames) (hRl : 100 * d + 300 ≤ R.locals) (hc0 : c0 ≤ h.2.1) (hs0 : s0 ≤ h.2.2) (hRc : h'.2.1 - c0 ≤ R.cells) (hRs : h'.2.2 - s0 ≤ R.slots)
    (hok : ab_okI MD vm cl aty ks Hb base sv ncs srs en own s args meth c cc nL pc i) (hf : ab_f sv i pc lo st h = some (.inr (.inl (r, h')))) : ab_Wn cl D E ks base Hb nL p l e R s m args below meth c (vx_MQ below (ab_Qc cl D E ks base Hb r h') (ab_XC cl D E ks base Hb en r h') args s (h'.2.1 - c0) (h'.2.2 - s0) (fun q => base ≤ q)) c0 s0 pc lo st h := by
  obtain ⟨hdg, hln, -, -, hr, hth⟩ := hok
  intro ls H locs hl hR hlo
  obtain ⟨I, len, aux⟩ := i
  change decode cc pc = .ok (I, len) at hdg
  cases I
  case ireturn =>
    have hlen : len = 1 := by simpa [ab_lnok, ab_ln] using hln
    subst hlen
    simp only [ab_f] at hf
    split at hf
    · split at hf
      · rename_i x hfit
        simp only [Option.some.injEq, Sum.inr.injEq, Sum.inl.injEq, Prod.mk.injEq] at hf
        obtain ⟨rfl, rfl⟩ := hf
        obtain ⟨ty, t1, t2⟩ := hr
        exact vx_ret (W.zret hx hb t1 (ab_kt_fits t2 hfit).1 (fun t ht _ => ⟨_, rfl, rfl, by rw [ht]; exact hR⟩) hlo hdg hlocks)
      · cases hf
    · cases hf
  case lreturn =>
    have hlen : len = 1 := by simpa [ab_lnok, ab_ln] using hln
    subst hlen
    simp only [ab_f] at hf
    split at hf
    · simp only [Option.some.injEq, Sum.inr.injEq, Sum.inl.injEq, Prod.mk.injEq] at hf
      obtain ⟨rfl, rfl⟩ := hf
      exact vx_ret (W.lret hx hb hr (fun t ht _ => ⟨_, rfl, rfl, by rw [ht]; exact hR⟩) hlo hdg hlocks)
    · cases hf
  case freturn =>
    have hlen : len = 1 := by simpa [ab_lnok, ab_ln] using hln
    subst hlen
    simp only [ab_f] at hf
    split at hf
    · simp only [Option.some.injEq, Sum.inr.injEq, Sum.inl.injEq, Prod.mk.injEq] at hf
      obtain ⟨rfl, rfl⟩ := hf
      exact vx_ret (W.fret hx hb hr (fun t ht _ => ⟨_, rfl, rfl, by rw [ht]; exact hR⟩) hlo hdg hlocks)
    · cases hf
  case dreturn =>
    have hlen : len = 1 := by simpa [ab_lnok, ab_ln] using hln
    subst hlen
    simp only [ab_f] at hf
    split at hf
    · simp only [Option.some.injEq, Sum.inr.injEq, Sum.inl.injEq, Prod.mk.injEq] at hf
      obtain ⟨rfl, rfl⟩ := hf
      exact vx_ret (W.dret hx hb hr (fun t ht _ => ⟨_, rfl, rfl, by rw [ht]; exact hR⟩) hlo hdg hlocks)
    · cases hf
  case areturn =>
    have hlen : len = 1 := by simpa [ab_lnok, ab_ln] using hln
    subst hlen
    simp only [ab_f] at hf
    split at hf
    · split at hf
      · rename_i v hfit
        simp only [Option.some.injEq, Sum.inr.injEq, Sum.inl.injEq, Prod.mk.injEq] at hf
        obtain ⟨rfl, rfl⟩ := hf
        obtain ⟨ty, t1, t2⟩ := hr
        exact vx_ret (W.aret hx hb t1 t2 (ab_fit6 hfit) (fun t ht _ => ⟨_, rfl, rfl, by rw [ht]; exact hR⟩) hlo hdg hlocks)
      · cases hf
    · cases hf
  case return_ =>
    have hlen : len = 1 := by simpa [ab_lnok, ab_ln] using hln
    subst hlen
    simp only [ab_f] at hf
    split at hf
    · simp only [Option.some.injEq, Sum.inr.injEq, Sum.inl.injEq, Prod.mk.injEq] at hf
      obtain ⟨rfl, rfl⟩ := hf
      exact vx_ret (W.vret hx hb hr (fun t ht _ => ⟨_, rfl, rfl, by rw [ht]; exact hR⟩) hlo hdg hlocks)
    · cases hf
  case new ik =>
    match aux, hth, hf with
    | [], _, hf => cases hf
    | [_], _, hf => simp [ab_f] at hf
    | 0 :: _ :: _, _, hf => simp [ab_f, ab_nx] at hf
    | (n + 2) :: _ :: _, _, hf => simp [ab_f] at hf
    | 1 :: ex :: tl, hth, hf =>
      simp only [ab_f] at hf
      split at hf
      · rename_i hsum
        have hsum : (st.map fun v => v.category).sum ≤ 8 := hsum
        simp only [Option.some.injEq, Sum.inr.injEq, Sum.inl.injEq, Prod.mk.injEq] at hf
        obtain ⟨rfl, rfl⟩ := hf
        obtain ⟨text, Y0, r0, is, ic, jx, hj, t1, t2, t3, t4, t5, t6, t7, t8, t9, t10, t11⟩ := hth ex tl rfl
        obtain ⟨w1, w2, w3, w4, w5, w6⟩ := hW0
        obtain ⟨sa, hsa⟩ := w3 _ t4
        have hRc : h.2.1 + 1 - c0 ≤ R.cells := hRc
        have hRs : h.2.2 + 6 - s0 ≤ R.slots := hRs
        have hS : va_S (fun q => base ≤ q) s.heap H locs := ⟨by have := hR0.2.1; have := hR.2.1; omega, fun q hq hnb => by rw [hR.2.2.1 q (by omega), hR0.2.2.1 q (by omega)], hlo⟩
        have hXC : ∀ t : State, s.vm.Alike t.vm → t.heap.size = H.size + 1 → (∀ q : Nat, q < H.size → t.heap[q]? = H[q]?) → ab_XC cl D E ks base Hb en (.inr ex) (h.1, h.2.1 + 1, h.2.2 + 6) (en ex) s t := fun t _ hz ho => by
          obtain ⟨r1, r2, r3, r4⟩ := hR
          exact ⟨ex, rfl, rfl, by omega, by show h.2.1 + 1 = _; omega, fun q hq => (ho q (by omega)).trans (r3 q hq), fun a d hd => (r4 a d hd).kept (ho a (r4 a d hd).lt)⟩
        rcases t11 with ⟨d4, d6, d9, dout⟩ | ⟨d4, d6, d9, dout⟩
        · exact ab_throwS hx hb hls hj hown t1 t2 t5 t6 hsa t7 t8 w4 w5 hS (hl.2.1.trans hml.symm) t9 t10 d4 d6 d9 dout (by omega) (by omega) (by omega) (by omega) hlocks hXC hlo (by show _ ≤ h.2.1 + 1 - c0; omega) (by show _ ≤ h.2.2 + 6 - s0; omega)
        · exact ab_throwSW hx hb hls hj hown t1 t2 t5 t6 hsa t7 t8 w4 w5 hS (hl.2.1.trans hml.symm) t9 t10 d4 d6 d9 dout (by omega) (by omega) (by omega) (by omega) hlocks hXC hlo (by show _ ≤ h.2.1 + 1 - c0; omega) (by show _ ≤ h.2.2 + 6 - s0; omega)
      · cases hf
  all_goals (exfalso; simp only [ab_f, ab_nx, ab_ld, ab_sv, ab_i1, ab_i2, ab_l2, ab_al, ab_as, ab_br, ab_call] at hf; repeat' split at hf)
  all_goals cases hf
theorem ab_bodyQ {QQ : State → Prop} {mt : Nat → (Nat → Option ab_I) × Nat} {cc : ByteArray} {own : String} {k : Nat → Option ab_I} {h0 h' : ab_H} {r : ab_R}
    (hx : p.tables.exec = Jvm.exec) (hb : c.code = cc) (hml : c.maxLocals = nL) (hown : s.vm.findClass own = some m.cls) (hls : l.stackTraces = false) (hlocks : meth.locks = false) (hD : ab_okD MD Wl vm) (hWk : ∀ w ∈ Wl, ab_kp w = true) (hws : ∀ w ∈ Wl, w.before args s = true)
    (hW0 : ab_World cl D E ks aty base ncs srs sts s s.heap) (hR0 : ab_Rl cl D E ks base Hb h0 s.heap) (hRf : d + 11 ≤ R.frames) (hRl : 100 * d + 300 ≤ R.locals) (hRc : h'.2.1 - h0.2.1 ≤ R.cells) (hRs : h'.2.2 - h0.2.2 ≤ R.slots)
    (hok : ∀ pc i, k pc = some i → ab_okI MD vm cl aty ks Hb base sv ncs srs en own s args meth c cc nL pc i)
    (hend : ∀ (pc : Nat) (i : ab_I) (lo : ab_L) (st : List Value) (h : ab_H), ab_le h0 h → k pc = some i → ab_f sv i pc lo st h = some (.inr (.inl (r, h'))) → ab_Wn cl D E ks base Hb nL p l e R s m args below meth c QQ h0.2.1 h0.2.2 pc lo st h)
    (IH : ∀ (y : Nat) (as : List Value) (h : ab_H) (r : ab_R) (h1 : ab_H), vm y = true → ab_run sv mt d y as h (ab_is r h1) → ab_Ct l MD Wl en cl D E ks aty base Hb ncs srs sts d y as h r h1) :
    ∀ (n pc : Nat) (lo : ab_L) (st : List Value) (h : ab_H), ab_le h0 h → ab_go sv (ab_run sv mt d) k (ab_is r h') n pc lo st h →
      ab_Wn cl D E ks base Hb nL p l e R s m args below meth c QQ h0.2.1 h0.2.2 pc lo st h
  | 0, _, _, _, _, _, x => x.elim
  | n + 1, pc, lo, st, h, hle, x => by
    have hmo := ab_run_mon sv mt d
    have hde := ab_run_det sv mt d
    have hup : ∀ {n pc lo st h1}, ab_go sv (ab_run sv mt d) k (ab_is r h') n pc lo st h1 → ab_le h1 h' := by
      intro n pc lo st h1 y
      obtain ⟨r2, h2, ⟨-, q1⟩, q2, -⟩ := ab_go_det hmo hde n pc lo st h1 y
      rw [← q1]; exact q2
    unfold ab_go at x
    split at x
    · rename_i i hi
      have hoi := hok pc i hi
      have hg := ab_f_ge sv i pc lo st h
      unfold ab_x at x
      split at x
      · rename_i pc' lo' st' h1 hf
        rw [hf] at hg
        have hg : ab_le h h1 := hg
        have hle1 := ab_le.tr hle hg
        have hle2 := hup x
        exact ab_step hx hb hml hW0.1 hown (by omega) (by omega) hle.1 hle.2 (by have := hle2.1; omega) (by have := hle2.2; omega) hoi.1 hoi.2.1 hoi.2.2.1 hf (ab_bodyQ hx hb hml hown hls hlocks hD hWk hws hW0 hR0 hRf hRl hRc hRs hok hend IH n pc' lo' st' h1 hle1 x)
      · rename_i r1 h1 hf
        obtain ⟨rfl, rfl⟩ := x
        exact hend pc i lo st h hle hi hf
      · rename_i y as pc' lo' st' hs hf
        obtain ⟨r1, h1, q1, q2, q3⟩ := hde _ _ _ _ x
        have hle1 := ab_le.tr hle q2
        have hle2 : ab_le h1 h' := by
          cases r1 with
          | inl v => exact hup q1
          | inr ex =>
            have q1 : ab_hd (ab_go sv (ab_run sv mt d) k (ab_is r h') n) lo' h1 (hs.lookup ex) := q1
            cases hlk : hs.lookup ex with
            | none => rw [hlk] at q1; exact q1.elim
            | some pk => rw [hlk] at q1; exact hup q1
        refine ab_callW (d := d) hx hb hml hown hD hWk hws hW0 hR0 hRf hRl hle.1 hle.2 q2 (by have := hle2.1; omega) (by have := hle2.2; omega) hoi.1 hoi.2.1 hoi.2.2.2.1 hf (fun hv => IH y as h r1 h1 hv q3) ?_
        cases r1 with
        | inl v => exact ab_bodyQ hx hb hml hown hls hlocks hD hWk hws hW0 hR0 hRf hRl hRc hRs hok hend IH n pc' lo' (v.toList ++ st') h1 hle1 q1
        | inr ex =>
          have q1 : ab_hd (ab_go sv (ab_run sv mt d) k (ab_is r h') n) lo' h1 (hs.lookup ex) := q1
          show ab_hd _ lo' h1 (hs.lookup ex)
          cases hlk : hs.lookup ex with
          | none => rw [hlk] at q1; exact q1.elim
          | some pk =>
            rw [hlk] at q1
            exact ab_bodyQ hx hb hml hown hls hlocks hD hWk hws hW0 hR0 hRf hRl hRc hRs hok hend IH n pk.1 _ [] h1 hle1 q1
      · exact x.elim
    · exact x.elim
theorem ab_body {mt : Nat → (Nat → Option ab_I) × Nat} {cc : ByteArray} {own : String} {k : Nat → Option ab_I} {h0 h' : ab_H} {r : ab_R}
    (hx : p.tables.exec = Jvm.exec) (hb : c.code = cc) (hml : c.maxLocals = nL) (hown : s.vm.findClass own = some m.cls) (hls : l.stackTraces = false) (hlocks : meth.locks = false) (hD : ab_okD MD Wl vm) (hWk : ∀ w ∈ Wl, ab_kp w = true) (hws : ∀ w ∈ Wl, w.before args s = true)
    (hW0 : ab_World cl D E ks aty base ncs srs sts s s.heap) (hR0 : ab_Rl cl D E ks base Hb h0 s.heap) (hRf : d + 11 ≤ R.frames) (hRl : 100 * d + 300 ≤ R.locals) (hRc : h'.2.1 - h0.2.1 ≤ R.cells) (hRs : h'.2.2 - h0.2.2 ≤ R.slots)
    (hok : ∀ pc i, k pc = some i → ab_okI MD vm cl aty ks Hb base sv ncs srs en own s args meth c cc nL pc i)
    (IH : ∀ (y : Nat) (as : List Value) (h : ab_H) (r : ab_R) (h1 : ab_H), vm y = true → ab_run sv mt d y as h (ab_is r h1) → ab_Ct l MD Wl en cl D E ks aty base Hb ncs srs sts d y as h r h1) :
    ∀ (n pc : Nat) (lo : ab_L) (st : List Value) (h : ab_H), ab_le h0 h → ab_go sv (ab_run sv mt d) k (ab_is r h') n pc lo st h →
      ab_Wn cl D E ks base Hb nL p l e R s m args below meth c (vx_MQ below (ab_Qc cl D E ks base Hb r h') (ab_XC cl D E ks base Hb en r h') args s (h'.2.1 - h0.2.1) (h'.2.2 - h0.2.2) (fun q => base ≤ q)) h0.2.1 h0.2.2 pc lo st h :=
  ab_bodyQ hx hb hml hown hls hlocks hD hWk hws hW0 hR0 hRf hRl hRc hRs hok (fun pc i lo st h hle hi hf => ab_end hx hb hml hown hls hlocks hW0 hR0 rfl hRf hRl hle.1 hle.2 hRc hRs (hok pc i hi) hf) IH
theorem ab_in_args : ∀ (vs : List Value) (j i : Nat) (v : Value), (ab_in vs)[i]? = some (some v) → (j + i, v) ∈ lv_args j vs
  | [], _, _, _, h => by simp [ab_in] at h
  | x :: vs, j, i, v, h => by
    unfold ab_in at h
    unfold lv_args
    cases i with
    | zero =>
      simp at h
      rw [h]
      exact List.mem_cons_self
    | succ i =>
      rw [List.getElem?_cons_succ] at h
      refine List.mem_cons_of_mem _ ?_
      split at h
      · rename_i hc
        rw [if_pos hc]
        cases i with
        | zero => simp at h
        | succ i =>
          rw [List.getElem?_cons_succ] at h
          have := ab_in_args vs (j + 2) i v h
          rw [show j + (i + 1 + 1) = j + 2 + i by omega]
          exact this
      · rename_i hc
        rw [if_neg hc]
        have := ab_in_args vs (j + 1) i v h
        rw [show j + (i + 1) = j + 1 + i by omega]
        exact this
theorem ab_in_len : ∀ (vs : List Value), (lg_sl vs).length = (ab_in vs).length
  | [] => rfl
  | x :: vs => by
    have ih := ab_in_len vs
    have e : lg_sl (x :: vs) = lg_sl [x] ++ lg_sl vs := by simp [lg_sl]
    rw [e, List.length_append, ih]
    show _ = List.length (some x :: (if x.category = 2 then none :: ab_in vs else ab_in vs))
    by_cases hc : x.category = 2
    · have e2 : (lg_sl [x]).length = 2 := by simp [lg_sl, hc]
      rw [e2, if_pos hc]
      simp; omega
    · have e2 : (lg_sl [x]).length = 1 := by simp [lg_sl, hc]
      rw [e2, if_neg hc]
      simp; omega
theorem ab_entry {vs : List Value} {n : Nat} (h : (ab_in vs).length ≤ n) : ab_LR ((lg_sl vs ++ List.replicate (n - (lg_sl vs).length) Slot.unset).toArray) n (ab_init vs n) := by
  obtain ⟨h1, h2, h3⟩ := lv_entry vs (n := n) (by rw [ab_in_len]; exact h)
  refine ⟨by unfold ab_init; simp; omega, h1, h2, fun i v hi => ?_⟩
  unfold ab_init at hi
  by_cases hlt : i < (ab_in vs).length
  · rw [List.getElem?_append_left hlt] at hi
    have := ab_in_args vs 0 i v hi
    rw [Nat.zero_add] at this
    exact h3 _ this
  · rw [List.getElem?_append_right (by omega), List.getElem?_replicate] at hi
    split at hi
    · simp at hi
    · cases hi
end ABE
/-- what every method's code must be, wherever its words and the world stand -/
def ab_okM (MD : Nat → ab_D) (Wl : List Jvm.Cond) (vm : Nat → Bool) (mt : Nat → (Nat → Option ab_I) × Nat) (cl : List vw_C) (D : va_G) (E : Nat → ClassId) (ks : Nat → Bool) (aty : Nat → FieldType) (base : Nat) (Hb : Heap) (ncs : List (String × String)) (srs : List (String × Nat × String)) (sts : List (String × String × String × Value)) (en : Nat → String) (sv : Nat → Value) : Prop :=
  ∀ y, vm y = true → (mt y).2 = (MD y).2.2.1 ∧ ∀ (s : State) (args : Array Value) (m : MethodId) (meth : Method) (c : Code) (h0 : ab_H), (∀ w ∈ Wl, w.before args s = true) → ab_World cl D E ks aty base ncs srs sts s s.heap → ab_Rl cl D E ks base Hb h0 s.heap → s.vm.findClass (MD y).1.cls = some m.cls → meth.sig.returnType = (MD y).2.2.2.1 → meth.name = (MD y).1.name → c.exceptionTable.toList = tableOf (MD y).2.2.2.2 →
    ∀ (pc : Nat) (i : ab_I), (mt y).1 pc = some i → ab_okI MD vm cl aty ks Hb base sv ncs srs en (MD y).1.cls s args meth c (MD y).2.1 (MD y).2.2.1 pc i
theorem ab_contract {cl : List vw_C} {D : va_G} {E : Nat → ClassId} {ks : Nat → Bool} {aty : Nat → FieldType} {base : Nat} {Hb : Heap} {ncs : List (String × String)} {srs : List (String × Nat × String)} {sts : List (String × String × String × Value)} {MD : Nat → ab_D} {Wl : List Jvm.Cond} {en : Nat → String} {vm : Nat → Bool} {mt : Nat → (Nat → Option ab_I) × Nat} {sv : Nat → Value} {l : Launch}
    (hls : l.stackTraces = false) (hD : ab_okD MD Wl vm) (hWk : ∀ w ∈ Wl, ab_kp w = true) (hM : ab_okM MD Wl vm mt cl D E ks aty base Hb ncs srs sts en sv) : ∀ (d y : Nat) (as : List Value) (h : ab_H) (r : ab_R) (h' : ab_H), vm y = true → ab_run sv mt d y as h (ab_is r h') → ab_Ct l MD Wl en cl D E ks aty base Hb ncs srs sts d y as h r h'
  | 0, _, _, _, _, _, _, x => x.elim
  | d + 1, y, as, h, r, h', hy, x => by
    obtain ⟨hin, n, x⟩ := x
    obtain ⟨hm1, hm2⟩ := hM y hy
    rw [hm1] at hin x
    obtain ⟨h60, hpl, hnm, hcd, hini⟩ := hD y hy
    have IH := ab_contract hls hD hWk hM d
    have go : ∀ (p : Program) (e : Env) (s : State) (m : MethodId) (args : Array Value) (below : List Frame) (meth : Method) (c : Code) (s₁ : State), BodyLoose p l (MD y).1 (headSpec (ab_cd (MD y) :: Wl) (ab_rm (d + 1) (h'.2.1 - h.2.1) (h'.2.2 - h.2.2))) (MD y).2.1 (MD y).2.2.1 (MD y).2.2.2.1 e s m args below meth c s₁ → c.maxLocals = (MD y).2.2.1 → c.exceptionTable.toList = tableOf (MD y).2.2.2.2 → ab_Pc cl D E ks aty base Hb ncs srs sts as h args s →
        W p l e (headSpec (ab_cd (MD y) :: Wl) (ab_rm (d + 1) (h'.2.1 - h.2.1) (h'.2.2 - h.2.2))).room s m args below meth c s.heap [] 0 0 (vx_MQ below (ab_Qc cl D E ks base Hb r h') (ab_XC cl D E ks base Hb en r h') args s (h'.2.1 - h.2.1) (h'.2.2 - h.2.2) (fun q => base ≤ q)) (entryFrame m args (MD y).2.2.1) := by
      intro p e s m args below meth c s₁ B hml htab hv
      obtain ⟨rfl, hR, hW⟩ := hv
      have hts := atoms_spec (ws := ab_cd (MD y) :: Wl) B.pre
      have hws : ∀ w ∈ Wl, w.before as.toArray s = true := fun w hw => hts w (List.mem_cons_of_mem _ hw)
      have hown : s.vm.findClass (MD y).1.cls = some m.cls := findClass_of_methodNamed B.named
      have hnme := (name_of_methodNamed B.named B.method).1
      have hok := hm2 s as.toArray m meth c h hws hW hR hown B.returns hnme htab
      have hb := ab_body (p := p) (e := e) (below := below) (d := d) (R := (headSpec (ab_cd (MD y) :: Wl) (ab_rm (d + 1) (h'.2.1 - h.2.1) (h'.2.2 - h.2.2))).room) (mt := mt) (sv := sv) (c := c) (h' := h') (r := r) B.exec B.bytes hml hown hls B.notSynchronized hD hWk hws hW hR (by show d + 11 ≤ d + 1 + 10; omega) (by show 100 * d + 300 ≤ 100 * (d + 1) + 200; omega) (Nat.le_refl _) (Nat.le_refl _) hok (fun y as h r h1 hv q => IH y as h r h1 hv q) n 0 (ab_init as (MD y).2.2.1) [] h (ab_le.rf h) x
      have hg := hb _ s.heap [] (ab_entry hin) hR (fun q hq => nomatch hq)
      rw [Nat.sub_self, Nat.sub_self] at hg
      rw [lg_entry_eq]
      exact hg
    unfold ab_Ct
    cases ht : (MD y).2.2.2.2 with
    | nil =>
      have e1 : ab_cd (MD y) = .code (MD y).1 (MD y).2.1 (MD y).2.2.1 (MD y).2.2.2.1 := by unfold ab_cd; rw [ht]
      refine vx_ofW (cc := (MD y).2.1) (maxL := (MD y).2.2.1) (ret := (MD y).2.2.2.1) hpl (by rw [e1]) ?_
      intro p e s m args below meth c s₁ B hml hex hv
      refine go p e s m args below meth c s₁ B hml ?_ hv
      rw [ht]
      cases hq : c.exceptionTable.toList with
      | nil => rfl
      | cons z zs => exact (hex z (by rw [hq]; exact List.mem_cons_self)).elim
    | cons t q =>
      have e1 : ab_cd (MD y) = .codeWith (MD y).1 (MD y).2.1 (MD y).2.2.1 (MD y).2.2.2.1 (t :: q) := by unfold ab_cd; rw [ht]
      refine vx_ofWH (cc := (MD y).2.1) (maxL := (MD y).2.2.1) (ret := (MD y).2.2.2.1) (hh := t :: q) hpl (by rw [e1]) ?_
      intro p e s m args below meth c s₁ B hml hv
      refine go p e s m args below meth c s₁ B hml ?_ hv
      rw [ht]
      have hts := atoms_spec (ws := ab_cd (MD y) :: Wl) B.pre
      have h9 := hts _ List.mem_cons_self
      rw [e1] at h9
      exact vx_table (x := (MD y).1) B h9
