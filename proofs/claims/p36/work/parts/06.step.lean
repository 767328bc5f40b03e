/-! ONE STEP OF THE ABSTRACT MACHINE IS ONE OF THE MACHINE: all instructions that are no call and no end. -/
def ab_ln : ClassFile.Instr → Nat
  | .bipush _ => 2
  | .ldc _ => 2
  | .iload _ => 2
  | .lload _ => 2
  | .dload _ => 2
  | .aload _ => 2
  | .istore _ => 2
  | .lstore _ => 2
  | .dstore _ => 2
  | .astore _ => 2
  | .newarray _ => 2
  | .sipush _ => 3
  | .ldc_w _ => 3
  | .ldc2_w _ => 3
  | .iinc _ _ => 3
  | .ifCond _ _ => 3
  | .if_icmp _ _ => 3
  | .ifnull _ => 3
  | .ifnonnull _ => 3
  | .if_acmp _ _ => 3
  | .goto _ => 3
  | .getfield _ => 3
  | .putfield _ => 3
  | .getstatic _ => 3
  | .anewarray _ => 3
  | .new _ => 3
  | .checkcast _ => 3
  | .invokespecial _ => 3
  | .invokevirtual _ => 3
  | .invokestatic _ => 3
  | .multianewarray _ _ => 4
  | .tableswitch _ _ _ _ => 0
  | .lookupswitch _ _ => 0
  | _ => 1
def ab_lnok (i : ab_I) : Bool := ab_ln i.1 == 0 || i.2.1 == ab_ln i.1
def ab_okS (cl : List vw_C) (aty : Nat → FieldType) (ks : Nat → Bool) (Hb : Heap) (base : Nat) (sv : Nat → Value) (own : String) (s : State) (args : Array Value) (meth : Method) (i : ab_I) : Prop := match i.1 with
  | .ldc idx => (Jvm.Cond.constant own idx (Int32.ofNat (ab_ax i.2.2 0))).before args s = true
  | .ldc_w idx => (Jvm.Cond.constant own idx (Int32.ofNat (ab_ax i.2.2 0))).before args s = true
  | .ldc2_w idx => if ab_ax i.2.2 1 = 1 then (Jvm.Cond.constantLong own idx (Int64.ofNat (ab_ax i.2.2 0))).before args s = true else (Jvm.Cond.constantDouble own idx (UInt64.ofNat (ab_ax i.2.2 0))).before args s = true
  | .getstatic idx => ab_gw Hb base own s args idx (sv (ab_ax i.2.2 0))
  | .getfield idx => ab_fw cl own s args (ab_ax i.2.2 0) (ab_ax i.2.2 1) idx
  | .putfield idx => ab_pw cl own s args meth (ab_ax i.2.2 0) (ab_ax i.2.2 1) (ab_ax i.2.2 2) idx
  | .newarray at_ => (Jvm.Cond.arrayClass (newarray.typeOf at_)).before args s = true ∧ ks (ab_ax i.2.2 0) = true ∧ aty (ab_ax i.2.2 0) = newarray.typeOf at_
  | .anewarray idx => ab_aw own s args aty ks (ab_ax i.2.2 0) idx
  | .multianewarray idx d => d = 2 ∧ ks 0 = true ∧ ks 14 = true ∧ aty 0 = .int ∧ aty 14 = .array .int ∧ (Jvm.Cond.classLink own idx ("[" ++ (FieldType.array .int).toString)).before args s = true ∧ (Jvm.Cond.arrayOver (.array .int)).before args s = true ∧ (Jvm.Cond.arrayClass .int).before args s = true
  | .new idx => ∀ (ci : Nat) (ts : List Nat), i.2.2 = 0 :: ci :: ts → ab_nw cl own s args ci idx ts
  | .checkcast idx => ab_kw cl own s args (ab_ax i.2.2 0) idx
  | .invokespecial idx => i.2.2 = [0] → ab_ow own s args idx
  | .invokestatic idx => (i.2.2 = [1] → ab_cw own s args idx) ∧ (i.2.2 = [2] → ab_minw own s args idx) ∧ (i.2.2 = [3] → ab_maxw own s args idx)
  | .lookupswitch _ ps => (ps.toList.zip (ps.toList.drop 1)).all (fun (a, next) => a.1 < next.1) = true
  | _ => True
theorem ab_call_ne {y na pc : Nat} {hd : List Nat} {l : ab_L} {st : List Value} {h : ab_H} {x : Nat × ab_L × List Value × ab_H} : ab_call y na pc hd l st h ≠ some (.inl x) := by
  unfold ab_call
  split <;> intro q <;> cases q
set_option maxHeartbeats 4000000 in
theorem ab_step {cl : List vw_C} {D : va_G} {E : Nat → ClassId} {ks : Nat → Bool} {aty : Nat → FieldType} {base : Nat} {Hb : Heap} {nL : Nat} {p : Program} {l : Launch} {e : Env} {R : Room} {s : State} {m : MethodId} {args : Array Value} {below : List Frame} {meth : Method} {c : Code} {Q : State → Prop} {c0 s0 : Nat} {sv : Nat → Value}
    {cc : ByteArray} {pc pc' : Nat} {lo lo' : ab_L} {st st' : List Value} {h h' : ab_H} {own : String} {i : ab_I} (hx : p.tables.exec = Jvm.exec) (hb : c.code = cc) (hml : c.maxLocals = nL) (hK : ab_Kn cl D E ks aty s) (hown : s.vm.findClass own = some m.cls) (hRf : 1 ≤ R.frames) (hRl : 60 ≤ R.locals)
    (hc0 : c0 ≤ h.2.1) (hs0 : s0 ≤ h.2.2) (hRc : h'.2.1 - c0 ≤ R.cells) (hRs : h'.2.2 - s0 ≤ R.slots) (hdg : decode cc pc = .ok (i.1, i.2.1)) (hln : ab_lnok i = true) (hok : ab_okS cl aty ks Hb base sv own s args meth i)
    (hf : ab_f sv i pc lo st h = some (.inl (pc', lo', st', h'))) (kk : ab_Wn cl D E ks base Hb nL p l e R s m args below meth c Q c0 s0 pc' lo' st' h') : ab_Wn cl D E ks base Hb nL p l e R s m args below meth c Q c0 s0 pc lo st h := by
  obtain ⟨I, len, aux⟩ := i
  change decode cc pc = .ok (I, len) at hdg
  cases I
  case aconst_null =>
    have hlen : len = 1 := by simpa [ab_lnok, ab_ln] using hln
    subst hlen
    exact ab_s_aconst_null hx hb hdg hf kk
  case iconst a1 =>
    have hlen : len = 1 := by simpa [ab_lnok, ab_ln] using hln
    subst hlen
    exact ab_s_iconst hx hb hdg hf kk
  case dconst a1 =>
    have hlen : len = 1 := by simpa [ab_lnok, ab_ln] using hln
    subst hlen
    exact ab_s_dconst hx hb hdg hf kk
  case lconst a1 =>
    have hlen : len = 1 := by simpa [ab_lnok, ab_ln] using hln
    subst hlen
    exact ab_s_lconst hx hb hdg hf kk
  case iload_n a1 =>
    have hlen : len = 1 := by simpa [ab_lnok, ab_ln] using hln
    subst hlen
    exact ab_s_iload_n hx hb hdg hf kk
  case lload_n a1 =>
    have hlen : len = 1 := by simpa [ab_lnok, ab_ln] using hln
    subst hlen
    exact ab_s_lload_n hx hb hdg hf kk
  case dload_n a1 =>
    have hlen : len = 1 := by simpa [ab_lnok, ab_ln] using hln
    subst hlen
    exact ab_s_dload_n hx hb hdg hf kk
  case aload_n a1 =>
    have hlen : len = 1 := by simpa [ab_lnok, ab_ln] using hln
    subst hlen
    exact ab_s_aload_n hx hb hdg hf kk
  case istore_n a1 =>
    have hlen : len = 1 := by simpa [ab_lnok, ab_ln] using hln
    subst hlen
    exact ab_s_istore_n hx hb hdg hf kk
  case lstore_n a1 =>
    have hlen : len = 1 := by simpa [ab_lnok, ab_ln] using hln
    subst hlen
    exact ab_s_lstore_n hx hb hdg hf kk
  case dstore_n a1 =>
    have hlen : len = 1 := by simpa [ab_lnok, ab_ln] using hln
    subst hlen
    exact ab_s_dstore_n hx hb hdg hf kk
  case astore_n a1 =>
    have hlen : len = 1 := by simpa [ab_lnok, ab_ln] using hln
    subst hlen
    exact ab_s_astore_n hx hb hdg hf kk
  case iadd =>
    have hlen : len = 1 := by simpa [ab_lnok, ab_ln] using hln
    subst hlen
    exact ab_s_iadd hx hb hdg hf kk
  case isub =>
    have hlen : len = 1 := by simpa [ab_lnok, ab_ln] using hln
    subst hlen
    exact ab_s_isub hx hb hdg hf kk
  case imul =>
    have hlen : len = 1 := by simpa [ab_lnok, ab_ln] using hln
    subst hlen
    exact ab_s_imul hx hb hdg hf kk
  case iand =>
    have hlen : len = 1 := by simpa [ab_lnok, ab_ln] using hln
    subst hlen
    exact ab_s_iand hx hb hdg hf kk
  case ior =>
    have hlen : len = 1 := by simpa [ab_lnok, ab_ln] using hln
    subst hlen
    exact ab_s_ior hx hb hdg hf kk
  case ixor =>
    have hlen : len = 1 := by simpa [ab_lnok, ab_ln] using hln
    subst hlen
    exact ab_s_ixor hx hb hdg hf kk
  case ishl =>
    have hlen : len = 1 := by simpa [ab_lnok, ab_ln] using hln
    subst hlen
    exact ab_s_ishl hx hb hdg hf kk
  case ishr =>
    have hlen : len = 1 := by simpa [ab_lnok, ab_ln] using hln
    subst hlen
    exact ab_s_ishr hx hb hdg hf kk
  case idiv =>
    have hlen : len = 1 := by simpa [ab_lnok, ab_ln] using hln
    subst hlen
    exact ab_s_idiv hx hb hdg hf kk
  case irem =>
    have hlen : len = 1 := by simpa [ab_lnok, ab_ln] using hln
    subst hlen
    exact ab_s_irem hx hb hdg hf kk
  case ineg =>
    have hlen : len = 1 := by simpa [ab_lnok, ab_ln] using hln
    subst hlen
    exact ab_s_ineg hx hb hdg hf kk
  case i2l =>
    have hlen : len = 1 := by simpa [ab_lnok, ab_ln] using hln
    subst hlen
    exact ab_s_i2l hx hb hdg hf kk
  case i2c =>
    have hlen : len = 1 := by simpa [ab_lnok, ab_ln] using hln
    subst hlen
    exact ab_s_i2c hx hb hdg hf kk
  case i2d =>
    have hlen : len = 1 := by simpa [ab_lnok, ab_ln] using hln
    subst hlen
    exact ab_s_i2d hx hb hdg hf kk
  case i2f =>
    have hlen : len = 1 := by simpa [ab_lnok, ab_ln] using hln
    subst hlen
    exact ab_s_i2f hx hb hdg hf kk
  case ladd =>
    have hlen : len = 1 := by simpa [ab_lnok, ab_ln] using hln
    subst hlen
    exact ab_s_ladd hx hb hdg hf kk
  case lsub =>
    have hlen : len = 1 := by simpa [ab_lnok, ab_ln] using hln
    subst hlen
    exact ab_s_lsub hx hb hdg hf kk
  case lcmp =>
    have hlen : len = 1 := by simpa [ab_lnok, ab_ln] using hln
    subst hlen
    exact ab_s_lcmp hx hb hdg hf kk
  case fdiv =>
    have hlen : len = 1 := by simpa [ab_lnok, ab_ln] using hln
    subst hlen
    exact ab_s_fdiv hx hb hdg hf kk
  case ddiv =>
    have hlen : len = 1 := by simpa [ab_lnok, ab_ln] using hln
    subst hlen
    exact ab_s_ddiv hx hb hdg hf kk
  case f2d =>
    have hlen : len = 1 := by simpa [ab_lnok, ab_ln] using hln
    subst hlen
    exact ab_s_f2d hx hb hdg hf kk
  case dcmp a1 =>
    have hlen : len = 1 := by simpa [ab_lnok, ab_ln] using hln
    subst hlen
    exact ab_s_dcmp hx hb hdg hf kk
  case dup =>
    have hlen : len = 1 := by simpa [ab_lnok, ab_ln] using hln
    subst hlen
    exact ab_s_dup hx hb hdg hf kk
  case pop =>
    have hlen : len = 1 := by simpa [ab_lnok, ab_ln] using hln
    subst hlen
    exact ab_s_pop hx hb hdg hf kk
  case dup_x1 =>
    have hlen : len = 1 := by simpa [ab_lnok, ab_ln] using hln
    subst hlen
    exact ab_s_dup_x1 hx hb hdg hf kk
  case dup2 =>
    have hlen : len = 1 := by simpa [ab_lnok, ab_ln] using hln
    subst hlen
    exact ab_s_dup2 hx hb hdg hf kk
  case bipush a1 =>
    have hlen : len = 2 := by simpa [ab_lnok, ab_ln] using hln
    subst hlen
    exact ab_s_bipush hx hb hdg hf kk
  case iload a1 =>
    have hlen : len = 2 := by simpa [ab_lnok, ab_ln] using hln
    subst hlen
    exact ab_s_iload hx hb hdg hf kk
  case lload a1 =>
    have hlen : len = 2 := by simpa [ab_lnok, ab_ln] using hln
    subst hlen
    exact ab_s_lload hx hb hdg hf kk
  case dload a1 =>
    have hlen : len = 2 := by simpa [ab_lnok, ab_ln] using hln
    subst hlen
    exact ab_s_dload hx hb hdg hf kk
  case aload a1 =>
    have hlen : len = 2 := by simpa [ab_lnok, ab_ln] using hln
    subst hlen
    exact ab_s_aload hx hb hdg hf kk
  case istore a1 =>
    have hlen : len = 2 := by simpa [ab_lnok, ab_ln] using hln
    subst hlen
    exact ab_s_istore hx hb hdg hf kk
  case lstore a1 =>
    have hlen : len = 2 := by simpa [ab_lnok, ab_ln] using hln
    subst hlen
    exact ab_s_lstore hx hb hdg hf kk
  case dstore a1 =>
    have hlen : len = 2 := by simpa [ab_lnok, ab_ln] using hln
    subst hlen
    exact ab_s_dstore hx hb hdg hf kk
  case astore a1 =>
    have hlen : len = 2 := by simpa [ab_lnok, ab_ln] using hln
    subst hlen
    exact ab_s_astore hx hb hdg hf kk
  case sipush a1 =>
    have hlen : len = 3 := by simpa [ab_lnok, ab_ln] using hln
    subst hlen
    exact ab_s_sipush hx hb hdg hf kk
  case iinc a1 a2 =>
    have hlen : len = 3 := by simpa [ab_lnok, ab_ln] using hln
    subst hlen
    exact ab_s_iinc hx hb hdg hf kk
  case ifnull a1 =>
    have hlen : len = 3 := by simpa [ab_lnok, ab_ln] using hln
    subst hlen
    exact ab_s_ifnull hx hb hdg hf kk
  case ifnonnull a1 =>
    have hlen : len = 3 := by simpa [ab_lnok, ab_ln] using hln
    subst hlen
    exact ab_s_ifnonnull hx hb hdg hf kk
  case goto a1 =>
    have hlen : len = 3 := by simpa [ab_lnok, ab_ln] using hln
    subst hlen
    exact ab_s_goto hx hb hdg hf kk
  case ifCond a1 a2 =>
    have hlen : len = 3 := by simpa [ab_lnok, ab_ln] using hln
    subst hlen
    cases a1
    · exact ab_s_if_eq hx hb hdg hf kk
    · exact ab_s_if_ne hx hb hdg hf kk
    · exact ab_s_if_lt hx hb hdg hf kk
    · exact ab_s_if_ge hx hb hdg hf kk
    · exact ab_s_if_gt hx hb hdg hf kk
    · exact ab_s_if_le hx hb hdg hf kk
  case if_icmp a1 a2 =>
    have hlen : len = 3 := by simpa [ab_lnok, ab_ln] using hln
    subst hlen
    cases a1
    · exact ab_s_icmp_eq hx hb hdg hf kk
    · exact ab_s_icmp_ne hx hb hdg hf kk
    · exact ab_s_icmp_lt hx hb hdg hf kk
    · exact ab_s_icmp_ge hx hb hdg hf kk
    · exact ab_s_icmp_gt hx hb hdg hf kk
    · exact ab_s_icmp_le hx hb hdg hf kk
  case if_acmp a1 a2 =>
    have hlen : len = 3 := by simpa [ab_lnok, ab_ln] using hln
    subst hlen
    cases a1
    · exact ab_s_acmp_eq hx hb hdg hf kk
    · exact ab_s_acmp_ne hx hb hdg hf kk
  case tableswitch a1 a2 a3 a4 => exact ab_s_tableswitch hx hb hdg hf kk
  case lookupswitch a1 a2 => exact ab_s_lookupswitch hx hb hok hdg hf kk
  case iaload =>
    have hlen : len = 1 := by simpa [ab_lnok, ab_ln] using hln
    subst hlen
    exact ab_s_iaload hx hb hK hdg hf kk
  case baload =>
    have hlen : len = 1 := by simpa [ab_lnok, ab_ln] using hln
    subst hlen
    exact ab_s_baload hx hb hK hdg hf kk
  case laload =>
    have hlen : len = 1 := by simpa [ab_lnok, ab_ln] using hln
    subst hlen
    exact ab_s_laload hx hb hK hdg hf kk
  case daload =>
    have hlen : len = 1 := by simpa [ab_lnok, ab_ln] using hln
    subst hlen
    exact ab_s_daload hx hb hK hdg hf kk
  case aaload =>
    have hlen : len = 1 := by simpa [ab_lnok, ab_ln] using hln
    subst hlen
    exact ab_s_aaload hx hb hK hdg hf kk
  case iastore =>
    have hlen : len = 1 := by simpa [ab_lnok, ab_ln] using hln
    subst hlen
    exact ab_s_iastore hx hb hK hdg hf kk
  case bastore =>
    have hlen : len = 1 := by simpa [ab_lnok, ab_ln] using hln
    subst hlen
    exact ab_s_bastore hx hb hK hdg hf kk
  case lastore =>
    have hlen : len = 1 := by simpa [ab_lnok, ab_ln] using hln
    subst hlen
    exact ab_s_lastore hx hb hK hdg hf kk
  case dastore =>
    have hlen : len = 1 := by simpa [ab_lnok, ab_ln] using hln
    subst hlen
    exact ab_s_dastore hx hb hK hdg hf kk
  case aastore =>
    have hlen : len = 1 := by simpa [ab_lnok, ab_ln] using hln
    subst hlen
    exact ab_s_aastore hx hb hK hdg hf kk
  case arraylength =>
    have hlen : len = 1 := by simpa [ab_lnok, ab_ln] using hln
    subst hlen
    exact ab_s_arraylength hx hb hK hdg hf kk
  case getfield a1 =>
    have hlen : len = 3 := by simpa [ab_lnok, ab_ln] using hln
    subst hlen
    exact ab_s_getfield hx hb hK hown hok hdg hf kk
  case putfield a1 =>
    have hlen : len = 3 := by simpa [ab_lnok, ab_ln] using hln
    subst hlen
    exact ab_s_putfield hx hb hK hown hok hdg hf kk
  case newarray a1 =>
    have hlen : len = 2 := by simpa [ab_lnok, ab_ln] using hln
    subst hlen
    exact ab_s_newarray hx hb hK hok hc0 hs0 hRc hRs hdg hf kk
  case ldc a1 =>
    have hlen : len = 2 := by simpa [ab_lnok, ab_ln] using hln
    subst hlen
    exact ab_s_ldc hx hb hK hown hok hdg hf kk
  case ldc_w a1 =>
    have hlen : len = 3 := by simpa [ab_lnok, ab_ln] using hln
    subst hlen
    exact ab_s_ldc_w hx hb hK hown hok hdg hf kk
  case ldc2_w a1 =>
    have hlen : len = 3 := by simpa [ab_lnok, ab_ln] using hln
    subst hlen
    exact ab_s_ldc2_w hx hb hK hown hok hdg hf kk
  case getstatic a1 =>
    have hlen : len = 3 := by simpa [ab_lnok, ab_ln] using hln
    subst hlen
    exact ab_s_getstatic hx hb hK hown hok hdg hf kk
  case checkcast a1 =>
    have hlen : len = 3 := by simpa [ab_lnok, ab_ln] using hln
    subst hlen
    exact ab_s_checkcast hx hb hK hown hok hdg hf kk
  case anewarray a1 =>
    have hlen : len = 3 := by simpa [ab_lnok, ab_ln] using hln
    subst hlen
    exact ab_s_anewarray hx hb hK hown hok hc0 hs0 hRc hRs hdg hf kk
  case multianewarray a1 a2 =>
    have hlen : len = 4 := by simpa [ab_lnok, ab_ln] using hln
    subst hlen
    obtain ⟨rfl, hok⟩ := hok
    exact ab_s_multianewarray hx hb hK hown hok hc0 hs0 hRc hRs hdg hf kk
  case new a1 =>
    have hlen : len = 3 := by simpa [ab_lnok, ab_ln] using hln
    subst hlen
    match aux, hok, hf with
    | 0 :: ci :: ts, hok, hf => exact ab_s_new hx hb hK hown (hok ci ts rfl) hc0 hs0 hRc hRs hdg hf kk
    | 1 :: e :: ts, hok, hf =>
      simp only [ab_f] at hf
      split at hf <;> cases hf
    | [], hok, hf => cases hf
    | [_], hok, hf => simp [ab_f] at hf
    | (n + 2) :: _ :: _, hok, hf => simp [ab_f] at hf
  case invokespecial a1 =>
    have hlen : len = 3 := by simpa [ab_lnok, ab_ln] using hln
    subst hlen
    match aux, hok, hf with
    | [0], hok, hf => exact ab_s_objinit hx hb hK hown hml hRf hRl (hok rfl) hdg hf kk
    | [], hok, hf => cases hf
    | [n + 1], hok, hf => simp [ab_f] at hf
    | y :: na :: hd, hok, hf =>
      simp only [ab_f] at hf
      split at hf
      · exact absurd hf ab_call_ne
      · cases hf
  case invokestatic a1 =>
    have hlen : len = 3 := by simpa [ab_lnok, ab_ln] using hln
    subst hlen
    match aux, hok, hf with
    | [1], hok, hf => exact ab_s_arraycopy hx hb hK hown hml hRf hRl (hok.1 rfl) hdg hf kk
    | [2], hok, hf => exact ab_s_mmin hx hb hown hml hRf hRl hRc hRs (hok.2.1 rfl) hdg hf kk
    | [3], hok, hf => exact ab_s_mmax hx hb hown hml hRf hRl hRc hRs (hok.2.2 rfl) hdg hf kk
    | [], hok, hf => cases hf
    | [0], hok, hf => simp [ab_f] at hf
    | [n + 4], hok, hf => simp [ab_f] at hf
    | y :: na :: hd, hok, hf =>
      simp only [ab_f] at hf
      exact absurd hf ab_call_ne
  case invokevirtual a1 =>
    simp only [ab_f] at hf
    repeat' split at hf
    all_goals first | exact absurd hf ab_call_ne | cases hf
  case ireturn =>
    simp only [ab_f] at hf
    repeat' split at hf
    all_goals cases hf
  case lreturn =>
    simp only [ab_f] at hf
    repeat' split at hf
    all_goals cases hf
  case freturn =>
    simp only [ab_f] at hf
    repeat' split at hf
    all_goals cases hf
  case dreturn =>
    simp only [ab_f] at hf
    repeat' split at hf
    all_goals cases hf
  case areturn =>
    simp only [ab_f] at hf
    repeat' split at hf
    all_goals cases hf
  case return_ =>
    simp only [ab_f] at hf
    repeat' split at hf
    all_goals cases hf
  all_goals cases hf
