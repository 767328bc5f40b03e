/-! CALLS: a call's row of each kind gives what the abstract machine's call says. -/
theorem ab_call_inv {y na pc y' pc' : Nat} {hd : List Nat} {l l' : ab_L} {st st' as : List Value} {h : ab_H} {hs : List (Nat × Nat × Nat)} (hf : ab_call y na pc hd l st h = some (.inr (.inr (y', as, pc', l', st', hs)))) : na ≤ st.length ∧ (st'.map fun v => v.category).sum ≤ 8 ∧ y' = y ∧ as = (st.take na).reverse ∧ pc' = pc ∧ l' = l ∧ st' = st.drop na ∧ hs = ab_hs hd := by
  unfold ab_call at hf
  split at hf
  · rename_i hok
    simp only [Option.some.injEq, Sum.inr.injEq, Prod.mk.injEq] at hf
    obtain ⟨rfl, rfl, rfl, rfl, rfl, rfl⟩ := hf
    exact ⟨hok.1, hok.2, rfl, rfl, rfl, rfl, rfl, rfl⟩
  · cases hf
theorem ab_take1 {st : List Value} {na : Nat} {x : Value} (h1 : 1 ≤ na) (hx : st[na - 1]? = some x) : (st.take na).reverse = x :: (st.take (na - 1)).reverse ∧ st = (st.take (na - 1)).reverse.reverse ++ x :: st.drop na ∧ (st.take (na - 1)).reverse.length = na - 1 := by
  obtain ⟨k, rfl⟩ : ∃ k, na = k + 1 := ⟨na - 1, by omega⟩
  have hx : st[k]? = some x := hx
  have hlt : k < st.length := (List.getElem?_eq_some_iff.mp hx).1
  have e : st.take (k + 1) = st.take k ++ [x] := by
    rw [List.take_succ, hx]; rfl
  refine ⟨by show (st.take (k + 1)).reverse = _; rw [e]; simp, ?_, by simp; omega⟩
  show st = (st.take k).reverse.reverse ++ x :: st.drop (k + 1)
  rw [List.reverse_reverse]
  have : st = st.take (k + 1) ++ st.drop (k + 1) := (List.take_append_drop _ _).symm
  rw [e] at this
  simpa using this
section ABL
variable {cl : List vw_C} {D : va_G} {E : Nat → ClassId} {ks : Nat → Bool} {aty : Nat → FieldType} {base : Nat} {Hb : Heap} {ncs : List (String × String)} {srs : List (String × Nat × String)} {sts : List (String × String × String × Value)} {MD : Nat → ab_D} {Wl : List Jvm.Cond} {en : Nat → String} {vm : Nat → Bool}
variable {nL : Nat} {p : Program} {l : Launch} {e : Env} {R : Room} {s : State} {m : MethodId} {args : Array Value} {below : List Frame} {meth : Method} {c : Code} {Q : State → Prop} {c0 s0 d : Nat} {sv : Nat → Value}
theorem ab_pre {as : List Value} {h h0 : ab_H} {H : Heap} (hW0 : ab_World cl D E ks aty base ncs srs sts s s.heap) (hR0 : ab_Rl cl D E ks base Hb h0 s.heap) (hR : ab_Rl cl D E ks base Hb h H) {T : State} (hT : T.heap = H) {vm₁ : Vm} (hWm : s.WarmedH vm₁) : ab_Pc cl D E ks aty base Hb ncs srs sts as h as.toArray (T.setVm vm₁) := by
  refine ⟨rfl, by show ab_Rl cl D E ks base Hb h T.heap; rw [hT]; exact hR, ?_⟩
  refine hW0.moved (U := T.setVm vm₁) hWm (fun a ha hb => ?_)
  show T.heap[a]? = s.heap[a]?
  rw [hT, hR.2.2.1 a (by omega), hR0.2.2.1 a (by omega)]
theorem ab_callW {cc : ByteArray} {own : String} {i : ab_I} {pc pc' y : Nat} {lo lo' : ab_L} {st st' as : List Value} {h h0 h1 : ab_H} {hs : List (Nat × Nat × Nat)} {r : ab_R}
    (hx : p.tables.exec = Jvm.exec) (hb : c.code = cc) (hml : c.maxLocals = nL) (hown : s.vm.findClass own = some m.cls) (hD : ab_okD MD Wl vm) (hWk : ∀ w ∈ Wl, ab_kp w = true) (hws : ∀ w ∈ Wl, w.before args s = true)
    (hW0 : ab_World cl D E ks aty base ncs srs sts s s.heap) (hR0 : ab_Rl cl D E ks base Hb h0 s.heap) (hRf : d + 11 ≤ R.frames) (hRl : 100 * d + 300 ≤ R.locals) (hc0 : c0 ≤ h.2.1) (hs0 : s0 ≤ h.2.2) (hle : ab_le h h1) (hRc : h1.2.1 - c0 ≤ R.cells) (hRs : h1.2.2 - s0 ≤ R.slots)
    (hdg : decode cc pc = .ok (i.1, i.2.1)) (hln : ab_lnok i = true) (hok : ab_okC MD vm cl ncs en own s args c cc nL pc i) (hf : ab_f sv i pc lo st h = some (.inr (.inr (y, as, pc', lo', st', hs))))
    (hC : vm y = true → ab_Ct l MD Wl en cl D E ks aty base Hb ncs srs sts d y as h r h1)
    (kk : ab_bk (ab_Wn cl D E ks base Hb nL p l e R s m args below meth c Q c0 s0) pc' lo' st' hs r h1) : ab_Wn cl D E ks base Hb nL p l e R s m args below meth c Q c0 s0 pc lo st h := by
  intro ls H locs hl hR hlo T hT X
  have hsz : ls.size = c.maxLocals := hl.2.1.trans hml.symm
  have r1 : h.2.1 - c0 + (h1.2.1 - h.2.1) ≤ R.cells := by have := hle.1; omega
  have r2 : h.2.2 - s0 + (h1.2.2 - h.2.2) ≤ R.slots := by have := hle.2; omega
  obtain ⟨I, len, aux⟩ := i
  change decode cc pc = .ok (I, len) at hdg
  cases I
  case invokestatic idx =>
    have hlen : len = 3 := by simpa [ab_lnok, ab_ln] using hln
    subst hlen
    match aux, hok, hf with
    | [], _, hf => cases hf
    | [0], _, hf => simp [ab_f] at hf
    | [1], _, hf =>
      simp only [ab_f] at hf
      repeat' split at hf
      all_goals cases hf
    | [2], _, hf =>
      simp only [ab_f] at hf
      repeat' split at hf
      all_goals cases hf
    | [3], _, hf =>
      simp only [ab_f] at hf
      repeat' split at hf
      all_goals cases hf
    | [n + 4], _, hf => simp [ab_f] at hf
    | y0 :: na :: hd, hok, hf =>
      simp only [ab_f] at hf
      obtain ⟨f1, f2, rfl, rfl, rfl, rfl, rfl, rfl⟩ := ab_call_inv hf
      obtain ⟨g1, g2, g3, g4, g5⟩ := hok y na hd rfl
      obtain ⟨-, -, q3, q4, q5⟩ := hD y g1
      have hbk := ab_back (p := p) (e := e) (below := below) (d := d) (R := R) (args := args) hD g1 hWk hws (hC g1) hRf hRl
      have hlen : ∀ sig, parseMethodDescriptor (MD y).1.desc = some sig → (st.take na).reverse.length = sig.parameters.length := fun sig h9 => by
        rw [h9] at g2
        have e9 : sig.parameters.length = na := Option.some.inj g2
        rw [e9, List.length_reverse, List.length_take]; omega
      have hstk : st = (st.take na).reverse.reverse ++ st.drop na := by rw [List.reverse_reverse]; exact (List.take_append_drop na st).symm
      have hpre : ∀ vm₁, s.WarmedH vm₁ → PreOf R (h1.2.1 - h.2.1) (h1.2.2 - h.2.2) (ab_Pc cl D E ks aty base Hb ncs srs sts (st.take na).reverse h) ⟨T.setVm vm₁, locs, h.2.1 - c0, h.2.2 - s0⟩ (st.take na).reverse.toArray := fun vm₁ hWm => ⟨r1, r2, ab_pre hW0 hR0 hR hT hWm⟩
      have hcr : ab_CR p l e R s m args below meth c T locs (h.2.1 - c0) (h.2.2 - s0) (F0 m pc ls st) (st.drop na) (st.take na).reverse.toArray (PostOf (ab_Qc cl D E ks base Hb r h1) (h1.2.1 - h.2.1) (h1.2.2 - h.2.2) (fun q => base ≤ q)) (vx_Post (ab_XC cl D E ks base Hb en r h1) (h1.2.1 - h.2.1) (h1.2.2 - h.2.2) (fun q => base ≤ q)) := by
        rcases g4 with ⟨t1, t2⟩ | ⟨t1, t2⟩
        · have hcd : (Jvm.Cond.code (MD y).1 (MD y).2.1 (MD y).2.2.1 (MD y).2.2.2.1).before args s = true := by
            have h9 := hws _ q4
            unfold ab_cd at h9; rw [t1] at h9; exact h9
          rcases t2 with t2 | ⟨host, t2⟩
          · exact vx_callS X hx hown t2 g3 (hws _ q5) hcd q3 hbk (g := F0 m pc ls st) rfl hsz hlen hstk (by show 2 * 0 + _ ≤ 8; omega) (by rw [hb]; exact hdg) hpre
          · exact vx_callSN X hx hown t2 g3 (hws _ q5) hcd q3 hbk (g := F0 m pc ls st) rfl hsz hlen hstk (by show 2 * 0 + _ ≤ 8; omega) (by rw [hb]; exact hdg) hpre
        · have hcd : ∃ hh, (Jvm.Cond.codeWith (MD y).1 (MD y).2.1 (MD y).2.2.1 (MD y).2.2.2.1 hh).before args s = true := by
            have h9 := hws _ q4
            unfold ab_cd at h9
            split at h9
            · rename_i e9; exact absurd e9 t1
            · exact ⟨_, h9⟩
          obtain ⟨hh, hcd⟩ := hcd
          exact vx_callSX X hx hown t2 g3 (hws _ q5) hcd q3 hbk (g := F0 m pc ls st) rfl hsz hlen hstk (by show 2 * 0 + _ ≤ 8; omega) (by rw [hb]; exact hdg) hpre
      exact ab_after hx hb hown hW0.2.1 hl hlo hc0 hs0 hle g5 kk hcr
  case invokevirtual idx =>
    have hlen : len = 3 := by simpa [ab_lnok, ab_ln] using hln
    subst hlen
    match aux, hok, hf with
    | [], _, hf => cases hf
    | [_], _, hf => simp [ab_f] at hf
    | [_, _], _, hf => simp [ab_f] at hf
    | y0 :: na :: ci :: hd, hok, hf =>
      simp only [ab_f] at hf
      split at hf
      · rename_i a ha
        split at hf
        · rename_i cj fs hcj
          split at hf
          · rename_i hci
            subst hci
            obtain ⟨f1, f2, rfl, rfl, rfl, rfl, rfl, rfl⟩ := ab_call_inv hf
            obtain ⟨g1, g0, g2, g3, g4, g6, ⟨q, gq, gs⟩, g5⟩ := hok y na cj hd rfl
            obtain ⟨-, -, q3, q4, q5⟩ := hD y g1
            obtain ⟨t1, t2, t3⟩ := ab_take1 g0 ha
            have hbk := ab_back (p := p) (e := e) (below := below) (d := d) (R := R) (args := args) hD g1 hWk hws (hC g1) hRf hRl
            have hlen : ∀ sig, parseMethodDescriptor (MD y).1.desc = some sig → (st.take (na - 1)).reverse.length = sig.parameters.length := fun sig h9 => by
              rw [h9] at g2
              have e9 : sig.parameters.length = na - 1 := Option.some.inj g2
              rw [e9]; exact t3
            have hpre : ∀ vm₁, s.WarmedH vm₁ → PreOf R (h1.2.1 - h.2.1) (h1.2.2 - h.2.2) (ab_Pc cl D E ks aty base Hb ncs srs sts (st.take na).reverse h) ⟨T.setVm vm₁, locs, h.2.1 - c0, h.2.2 - s0⟩ (Value.ref a :: (st.take (na - 1)).reverse).toArray := fun vm₁ hWm => ⟨r1, r2, by rw [← t1]; exact ab_pre hW0 hR0 hR hT hWm⟩
            have hcd : (Jvm.Cond.code (MD y).1 (MD y).2.1 (MD y).2.2.1 (MD y).2.2.2.1).before args s = true := by
              have h9 := hws _ q4
              unfold ab_cd at h9; rw [g4] at h9; exact h9
            obtain ⟨⟨r0, u1, u2, cell, u3, u4, u5, u6⟩, u7⟩ := hR.2.2.2 _ _ hcj
            have hr0 : r0 = q := Option.some.inj (u1.symm.trans gq)
            subst hr0
            have hcell : T.heap[a]? = some cell := by rw [hT]; exact u3
            have hobj : cell.vm.isStatics = false := by rw [u5]; rfl
            have hcls : s.vm.findClass r0.1 = some cell.cls := by rw [u4]; exact (hW0.1.1 _ _ gq).2.1
            have hcr : ab_CR p l e R s m args below meth c T locs (h.2.1 - c0) (h.2.2 - s0) (F0 m pc ls st) (st.drop na) (Value.ref a :: (st.take (na - 1)).reverse).toArray (PostOf (ab_Qc cl D E ks base Hb r h1) (h1.2.1 - h.2.1) (h1.2.2 - h.2.2) (fun q => base ≤ q)) (vx_Post (ab_XC cl D E ks base Hb en r h1) (h1.2.1 - h.2.1) (h1.2.2 - h.2.2) (fun q => base ≤ q)) := by
              rcases g6 with g6 | ⟨host, g6⟩
              · exact vx_callV X hx hown g6 g3 gs hcd q3 hbk hcell hobj hcls (g := F0 m pc ls st) rfl hsz hlen t2 (by show 2 * 0 + _ ≤ 8; omega) (by rw [hb]; exact hdg) hpre
              · exact vx_callVN X hx hown g6 g3 gs hcd q3 hbk hcell hobj hcls (g := F0 m pc ls st) rfl hsz hlen t2 (by show 2 * 0 + _ ≤ 8; omega) (by rw [hb]; exact hdg) hpre
            exact ab_after hx hb hown hW0.2.1 hl hlo hc0 hs0 hle g5 kk hcr
          · cases hf
        · cases hf
      · cases hf
  case invokespecial idx =>
    have hlen : len = 3 := by simpa [ab_lnok, ab_ln] using hln
    subst hlen
    match aux, hok, hf with
    | [], _, hf => cases hf
    | [0], _, hf =>
      simp only [ab_f] at hf
      repeat' split at hf
      all_goals cases hf
    | [n + 1], _, hf => simp [ab_f] at hf
    | y0 :: na :: hd, hok, hf =>
      simp only [ab_f] at hf
      split at hf
      · rename_i a ha
        obtain ⟨f1, f2, rfl, rfl, rfl, rfl, rfl, rfl⟩ := ab_call_inv hf
        obtain ⟨g1, g0, g2, g3, g4, g7, g8, g6, g5⟩ := hok y na hd rfl
        obtain ⟨-, -, q3, q4, q5⟩ := hD y g1
        obtain ⟨t1, t2, t3⟩ := ab_take1 g0 ha
        have hbk := ab_back (p := p) (e := e) (below := below) (d := d) (R := R) (args := args) hD g1 hWk hws (hC g1) hRf hRl
        have hlen : ∀ sig, parseMethodDescriptor (MD y).1.desc = some sig → (st.take (na - 1)).reverse.length = sig.parameters.length := fun sig h9 => by
          rw [h9] at g2
          have e9 : sig.parameters.length = na - 1 := Option.some.inj g2
          rw [e9]; exact t3
        have hpre : ∀ vm₁, s.WarmedH vm₁ → PreOf R (h1.2.1 - h.2.1) (h1.2.2 - h.2.2) (ab_Pc cl D E ks aty base Hb ncs srs sts (st.take na).reverse h) ⟨T.setVm vm₁, locs, h.2.1 - c0, h.2.2 - s0⟩ (Value.ref a :: (st.take (na - 1)).reverse).toArray := fun vm₁ hWm => ⟨r1, r2, by rw [← t1]; exact ab_pre hW0 hR0 hR hT hWm⟩
        have hcd : (Jvm.Cond.code (MD y).1 (MD y).2.1 (MD y).2.2.1 none).before args s = true := by
          have h9 := hws _ q4
          unfold ab_cd at h9; rw [g4, g8] at h9; exact h9
        have hcr : ab_CR p l e R s m args below meth c T locs (h.2.1 - c0) (h.2.2 - s0) (F0 m pc ls st) (st.drop na) (Value.ref a :: (st.take (na - 1)).reverse).toArray (PostOf (ab_Qc cl D E ks base Hb r h1) (h1.2.1 - h.2.1) (h1.2.2 - h.2.2) (fun q => base ≤ q)) (vx_Post (ab_XC cl D E ks base Hb en r h1) (h1.2.1 - h.2.1) (h1.2.2 - h.2.2) (fun q => base ≤ q)) := by
          rcases g6 with g6 | ⟨host, g6⟩
          · exact vx_callI X hx hown g7 g6 g3 hcd q3 hbk (g := F0 m pc ls st) rfl hsz hlen t2 (by show 2 * 0 + _ ≤ 8; omega) (by rw [hb]; exact hdg) hpre
          · exact vx_callIN X hx hown g7 g6 g3 hcd q3 hbk (g := F0 m pc ls st) rfl hsz hlen t2 (by show 2 * 0 + _ ≤ 8; omega) (by rw [hb]; exact hdg) hpre
        exact ab_after hx hb hown hW0.2.1 hl hlo hc0 hs0 hle g5 kk hcr
      · cases hf
  all_goals (exfalso; simp only [ab_f, ab_nx, ab_ld, ab_sv, ab_i1, ab_i2, ab_l2, ab_al, ab_as, ab_br] at hf; repeat' split at hf)
  all_goals cases hf
end ABL
