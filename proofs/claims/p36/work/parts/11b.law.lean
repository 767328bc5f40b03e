/-! THE LAW'S OWN BODY OUT OF A RUN ON THE ABSTRACT MACHINE. -/
theorem ab_f_one {sv : Nat → Value} {i : ab_I} {pc : Nat} {lo : ab_L} {st : List Value} {h h' : ab_H} {x : Int32} (hf : ab_f sv i pc lo st h = some (.inr (.inl (.inl (some (.int x)), h')))) : i.1 = .ireturn ∧ st = [.int x] ∧ h' = h := by
  obtain ⟨I, len, aux⟩ := i
  cases I
  case ireturn =>
    simp only [ab_f] at hf
    split at hf
    · split at hf
      · simp only [Option.some.injEq, Sum.inr.injEq, Sum.inl.injEq, Prod.mk.injEq, Value.int.injEq] at hf
        obtain ⟨rfl, rfl⟩ := hf
        exact ⟨rfl, rfl, rfl⟩
      · cases hf
    · cases hf
  case areturn =>
    simp only [ab_f] at hf
    split at hf
    · split at hf
      · rename_i v hv
        simp only [Option.some.injEq, Sum.inr.injEq, Sum.inl.injEq, Prod.mk.injEq] at hf
        obtain ⟨rfl, rfl⟩ := hf
        exact absurd hv (by simp [ab_fit])
      · cases hf
    · cases hf
  case lreturn =>
    simp only [ab_f] at hf
    split at hf <;> simp at hf
  case freturn =>
    simp only [ab_f] at hf
    split at hf <;> simp at hf
  case dreturn =>
    simp only [ab_f] at hf
    split at hf <;> simp at hf
  case return_ =>
    simp only [ab_f] at hf
    split at hf <;> simp at hf
  case new =>
    match aux, hf with
    | [], hf => cases hf
    | [_], hf => simp [ab_f] at hf
    | 0 :: _ :: _, hf => simp [ab_f, ab_nx] at hf
    | (n + 2) :: _ :: _, hf => simp [ab_f] at hf
    | 1 :: ex :: tl, hf =>
      simp only [ab_f] at hf
      split at hf <;> simp at hf
  all_goals (exfalso; simp only [ab_f, ab_nx, ab_ld, ab_sv, ab_i1, ab_i2, ab_l2, ab_al, ab_as, ab_br, ab_call] at hf; repeat' split at hf)
  all_goals cases hf
theorem ab_Wup {p : Program} {l : Launch} {e : Env} {R : Room} {s : State} {m : MethodId} {args : Array Value} {below : List Frame} {meth : Method} {c : Code} {Q : State → Prop} {H : Heap} {locs : List Loc} {c1 c2 s1 s2 : Nat} {g : JFrame} (hc : c1 ≤ c2) (hs : s1 ≤ s2) (k : W p l e R s m args below meth c H locs c2 s2 Q g) : W p l e R s m args below meth c H locs c1 s1 Q g :=
  fun T hT X => k T hT { X with same := X.same.mono hc hs }
theorem ab_law {cl : List vw_C} {D : va_G} {E : Nat → ClassId} {ks : Nat → Bool} {aty : Nat → FieldType} {base : Nat} {Hb : Heap} {ncs : List (String × String)} {srs : List (String × Nat × String)} {sts : List (String × String × String × Value)} {MD : Nat → ab_D} {Wl : List Jvm.Cond} {en : Nat → String} {vm : Nat → Bool} {mt : Nat → (Nat → Option ab_I) × Nat} {sv : Nat → Value}
    {nL : Nat} {p : Program} {l : Launch} {e : Env} {R : Room} {s : State} {m : MethodId} {below : List Frame} {meth : Method} {c : Code} {cc : ByteArray} {own : String} {h0 : ab_H} {d b yL N1 N2 : Nat} {QQ : State → Prop}
    (hx : p.tables.exec = Jvm.exec) (hb : c.code = cc) (hml : c.maxLocals = nL) (hown : s.vm.findClass own = some m.cls) (hls : l.stackTraces = false) (hlocks : meth.locks = false)
    (hD : ab_okD MD Wl vm) (hWk : ∀ w ∈ Wl, ab_kp w = true) (hM : ab_okM MD Wl vm mt cl D E ks aty base Hb ncs srs sts en sv) (hws : ∀ w ∈ Wl, w.before #[Value.ref b] s = true)
    (hW0 : ab_World cl D E ks aty base ncs srs sts s s.heap) (hR0 : ab_Rl cl D E ks base Hb h0 s.heap) (hbase : base = s.heap.size) (hRf : d + 11 ≤ R.frames) (hRl : 100 * d + 300 ≤ R.locals) (hRc : N1 ≤ R.cells) (hRs : N2 ≤ R.slots)
    (hok : ∀ pc i, (mt yL).1 pc = some i → ab_okI MD vm cl aty ks Hb base sv ncs srs en own s #[Value.ref b] meth c cc nL pc i) (hmt : (mt yL).2 = nL)
    (hQ : ∀ (pc : Nat) (H : Heap) (ls : Array Slot), decode cc pc = .ok (.ireturn, 1) → W p l e R s m #[Value.ref b] below meth c H [] N1 N2 QQ (F0 m pc ls [.int 1]))
    (hrun : ab_run sv mt (d + 1) yL [.ref b] h0 (fun r h' => r = .inl (some (.int 1)) ∧ h'.2.1 - h0.2.1 ≤ N1 ∧ h'.2.2 - h0.2.2 ≤ N2)) :
    W p l e R s m #[Value.ref b] below meth c s.heap [] 0 0 QQ (entryFrame m ([Value.ref b] : List Value).toArray nL) := by
  obtain ⟨r, h', ⟨rfl, hn1, hn2⟩, -, hr⟩ := ab_run_det sv mt (d + 1) _ _ _ _ hrun
  obtain ⟨hin, n, x⟩ := hr
  rw [hmt] at hin x
  have hb9 := ab_bodyQ (QQ := QQ) (h' := h') (r := .inl (some (.int 1))) (below := below) hx hb hml hown hls hlocks hD hWk hws hW0 hR0 hRf hRl (Nat.le_trans hn1 hRc) (Nat.le_trans hn2 hRs) hok
    (fun pc i lo st h hle hi hf => by
      obtain ⟨f1, rfl, rfl⟩ := ab_f_one hf
      intro ls H locs hl hR hlo
      have hdg := (hok pc i hi).1
      have hln := (hok pc i hi).2.1
      obtain ⟨I, len, aux⟩ := i
      have f1 : I = .ireturn := f1
      subst f1
      have hlen : len = 1 := by simpa [ab_lnok, ab_ln] using hln
      subst hlen
      exact va_forget (fun q hq => by rw [← hbase]; exact hlo q hq) (ab_Wup hn1 hn2 (hQ pc H ls hdg)))
    (fun y as h r h1 hv q => ab_contract hls hD hWk hM d y as h r h1 hv q) n 0 (ab_init [.ref b] nL) [] h0 (ab_le.rf h0) x
  have hg := hb9 _ s.heap [] (ab_entry hin) hR0 (fun q hq => nomatch hq)
  rw [Nat.sub_self, Nat.sub_self] at hg
  rw [lg_entry_eq]
  exact hg
