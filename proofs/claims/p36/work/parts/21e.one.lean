/-! THE EXECUTOR IS SOUND: any one instruction. -/
theorem sx_i2_inv {f : Int32 → Int32 → Int32} {x y z : Value} (h : sx_i2 f x y = some z) : ∃ a b, x = .int a ∧ y = .int b ∧ z = .int (f a b) := by
  unfold sx_i2 at h
  split at h
  · exact ⟨_, _, rfl, rfl, (Option.some.inj h).symm⟩
  · cases h
theorem sx_l2_inv {f : Int64 → Int64 → Value} {x y z : Value} (h : sx_l2 f x y = some z) : ∃ a b, x = .long a ∧ y = .long b ∧ z = f a b := by
  unfold sx_l2 at h
  split at h
  · exact ⟨_, _, rfl, rfl, (Option.some.inj h).symm⟩
  · cases h
theorem sx_i1_inv {f : Int32 → Value} {x z : Value} (h : sx_i1 f x = some z) : ∃ a, x = .int a ∧ z = f a := by
  unfold sx_i1 at h
  split at h
  · exact ⟨_, rfl, (Option.some.inj h).symm⟩
  · cases h
theorem sx_dv_inv {b : Bool} {x y z : Value} (h : sx_dv b x y = some z) : ∃ u v, x = .int u ∧ y = .int v ∧ ¬ v = 0 ∧ z = .int (if b = true then u / v else u - u / v * v) := by
  unfold sx_dv at h
  split at h
  · split at h
    · cases h
    · rename_i hv
      exact ⟨_, _, rfl, rfl, hv, (Option.some.inj h).symm⟩
  · cases h
set_option maxHeartbeats 4000000 in
theorem sx_f_ok {E : sx_E} {h0 h : ab_H} {m : Nat} {F : sx_F} {pc sl : Nat} {l : sx_L} {st : List sx_V} {G : sx_G} {o : sx_O} {vs : List sx_V} {sv : Nat → Value} (hvs : ∀ i v, vs[i]? = some v → sx_ev E v = sv i) {i : ab_I} {X : sx_X} (hX : sx_tr pc i = some X) (hf : sx_f vs F X l st G sl = some o) (R : sx_Rl E h0 m G sl h) (A : sx_A E h0 m) (H : sx_ok E F) : sx_Sd E h0 m o (ab_f sv i pc (sx_eL E l) (sx_eS E st) h) := by
  obtain ⟨I, len, aux⟩ := i
  have push : ∀ {p t n : Nat} {v : Value}, some (Sum.inl (p, l, (t, n) :: st, G, sl)) = some o → sx_ev E (t, n) = v → sx_Sd E h0 m o (ab_nx p (sx_eL E l) (v :: sx_eS E st) h) := by
    intro p t n v hf hv
    obtain rfl := Option.some.inj hf
    exact ⟨h, by rw [← hv]; rfl, R⟩
  cases I
  case aconst_null => obtain rfl := Option.some.inj hX; exact push hf rfl
  case iconst n => obtain rfl := Option.some.inj hX; exact push hf (congrArg Value.int (sx_un_ok _))
  case bipush n => obtain rfl := Option.some.inj hX; exact push hf (congrArg Value.int (sx_un_ok _))
  case sipush n => obtain rfl := Option.some.inj hX; exact push hf (congrArg Value.int (sx_un_ok _))
  case lconst n => obtain rfl := Option.some.inj hX; exact push hf rfl
  case ldc n => obtain rfl := Option.some.inj hX; exact push hf rfl
  case ldc_w n => obtain rfl := Option.some.inj hX; exact push hf rfl
  case dconst n => obtain rfl := Option.some.inj hX; exact push hf (congrArg Value.double UInt64.ofNat_toNat)
  case ldc2_w n =>
    obtain rfl := Option.some.inj hX
    refine push (v := if ab_ax aux 1 = 1 then .long (Int64.ofNat (ab_ax aux 0)) else .double (UInt64.ofNat (ab_ax aux 0))) hf ?_
    by_cases e : ab_ax aux 1 = 1
    · rw [if_pos e, if_pos e]; rfl
    · rw [if_neg e, if_neg e]; rfl
  case iload k => obtain rfl := Option.some.inj hX; exact sx_ld_ok hf R H
  case iload_n k => obtain rfl := Option.some.inj hX; exact sx_ld_ok hf R H
  case lload k => obtain rfl := Option.some.inj hX; exact sx_ld_ok hf R H
  case lload_n k => obtain rfl := Option.some.inj hX; exact sx_ld_ok hf R H
  case dload k => obtain rfl := Option.some.inj hX; exact sx_ld_ok hf R H
  case dload_n k => obtain rfl := Option.some.inj hX; exact sx_ld_ok hf R H
  case aload k => obtain rfl := Option.some.inj hX; exact sx_ld_ok hf R H
  case aload_n k => obtain rfl := Option.some.inj hX; exact sx_ld_ok hf R H
  case istore k => obtain rfl := Option.some.inj hX; exact sx_sv_ok hf R H
  case istore_n k => obtain rfl := Option.some.inj hX; exact sx_sv_ok hf R H
  case lstore k => obtain rfl := Option.some.inj hX; exact sx_sv_ok hf R H
  case lstore_n k => obtain rfl := Option.some.inj hX; exact sx_sv_ok hf R H
  case dstore k => obtain rfl := Option.some.inj hX; exact sx_sv_ok hf R H
  case dstore_n k => obtain rfl := Option.some.inj hX; exact sx_sv_ok hf R H
  case astore k => obtain rfl := Option.some.inj hX; exact sx_sv_ok hf R H
  case astore_n k => obtain rfl := Option.some.inj hX; exact sx_sv_ok hf R H
  case iinc k n =>
    obtain rfl := Option.some.inj hX
    have hf : sx_inc F k (sx_un (Int32.ofInt n)) (pc + 3) l st G sl = some o := hf
    unfold sx_inc at hf
    split at hf
    · rename_i v hl
      split at hf
      · rename_i z hz
        obtain rfl := Option.some.inj hf
        obtain ⟨a, b, ha, hb, hc⟩ := sx_i2_inv (sx_app_ok hz H)
        refine ⟨h, ?_, R⟩
        show (match (sx_eL E l)[k]? with
          | some (some (.int x)) => ab_nx (pc + 3) (ab_sto (sx_eL E l) k (.int (x + Int32.ofInt n))) (sx_eS E st) h
          | _ => none) = _
        rw [List.getElem?_map, hl]
        show (match some (some (sx_ev E v)) with
          | some (some (.int x)) => ab_nx (pc + 3) (ab_sto (sx_eL E l) k (.int (x + Int32.ofInt n))) (sx_eS E st) h
          | _ => none) = _
        rw [ha]
        have hb : Int32.ofNat (sx_un (Int32.ofInt n)) = b := Value.int.inj hb
        rw [sx_un_ok] at hb
        show ab_nx (pc + 3) (ab_sto (sx_eL E l) k (.int (a + Int32.ofInt n))) (sx_eS E st) h = some (.inl (pc + 3, sx_eL E (sx_sto l k z), sx_eS E st, h))
        rw [sx_sto_ok, hc, hb]
        rfl
      · cases hf
    · cases hf
  case iadd => obtain rfl := Option.some.inj hX; exact sx_b2_ok (r := fun s => ab_f sv (.iadd, len, aux) pc (sx_eL E l) s h) hf R H fun x y z s hz => by obtain ⟨a, b, rfl, rfl, rfl⟩ := sx_i2_inv hz; rfl
  case isub => obtain rfl := Option.some.inj hX; exact sx_b2_ok (r := fun s => ab_f sv (.isub, len, aux) pc (sx_eL E l) s h) hf R H fun x y z s hz => by obtain ⟨a, b, rfl, rfl, rfl⟩ := sx_i2_inv hz; rfl
  case imul => obtain rfl := Option.some.inj hX; exact sx_b2_ok (r := fun s => ab_f sv (.imul, len, aux) pc (sx_eL E l) s h) hf R H fun x y z s hz => by obtain ⟨a, b, rfl, rfl, rfl⟩ := sx_i2_inv hz; rfl
  case iand => obtain rfl := Option.some.inj hX; exact sx_b2_ok (r := fun s => ab_f sv (.iand, len, aux) pc (sx_eL E l) s h) hf R H fun x y z s hz => by obtain ⟨a, b, rfl, rfl, rfl⟩ := sx_i2_inv hz; rfl
  case ior => obtain rfl := Option.some.inj hX; exact sx_b2_ok (r := fun s => ab_f sv (.ior, len, aux) pc (sx_eL E l) s h) hf R H fun x y z s hz => by obtain ⟨a, b, rfl, rfl, rfl⟩ := sx_i2_inv hz; rfl
  case ixor => obtain rfl := Option.some.inj hX; exact sx_b2_ok (r := fun s => ab_f sv (.ixor, len, aux) pc (sx_eL E l) s h) hf R H fun x y z s hz => by obtain ⟨a, b, rfl, rfl, rfl⟩ := sx_i2_inv hz; rfl
  case ishl => obtain rfl := Option.some.inj hX; exact sx_b2_ok (r := fun s => ab_f sv (.ishl, len, aux) pc (sx_eL E l) s h) hf R H fun x y z s hz => by obtain ⟨a, b, rfl, rfl, rfl⟩ := sx_i2_inv hz; rfl
  case ishr => obtain rfl := Option.some.inj hX; exact sx_b2_ok (r := fun s => ab_f sv (.ishr, len, aux) pc (sx_eL E l) s h) hf R H fun x y z s hz => by obtain ⟨a, b, rfl, rfl, rfl⟩ := sx_i2_inv hz; rfl
  case idiv =>
    obtain rfl := Option.some.inj hX
    refine sx_b2_ok (r := fun s => ab_f sv (.idiv, len, aux) pc (sx_eL E l) s h) hf R H fun x y z s hz => ?_
    obtain ⟨a, b, rfl, rfl, hb, rfl⟩ := sx_dv_inv hz
    show (if b = 0 then none else _) = _
    rw [if_neg hb]
    rfl
  case irem =>
    obtain rfl := Option.some.inj hX
    refine sx_b2_ok (r := fun s => ab_f sv (.irem, len, aux) pc (sx_eL E l) s h) hf R H fun x y z s hz => ?_
    obtain ⟨a, b, rfl, rfl, hb, rfl⟩ := sx_dv_inv hz
    show (if b = 0 then none else _) = _
    rw [if_neg hb]
    rfl
  case ineg => obtain rfl := Option.some.inj hX; exact sx_b1_ok (r := fun s => ab_f sv (.ineg, len, aux) pc (sx_eL E l) s h) hf R H fun x z s hz => by obtain ⟨a, rfl, rfl⟩ := sx_i1_inv hz; rfl
  case i2l => obtain rfl := Option.some.inj hX; exact sx_b1_ok (r := fun s => ab_f sv (.i2l, len, aux) pc (sx_eL E l) s h) hf R H fun x z s hz => by obtain ⟨a, rfl, rfl⟩ := sx_i1_inv hz; rfl
  case i2c => obtain rfl := Option.some.inj hX; exact sx_b1_ok (r := fun s => ab_f sv (.i2c, len, aux) pc (sx_eL E l) s h) hf R H fun x z s hz => by obtain ⟨a, rfl, rfl⟩ := sx_i1_inv hz; rfl
  case i2d => obtain rfl := Option.some.inj hX; exact sx_b1_ok (r := fun s => ab_f sv (.i2d, len, aux) pc (sx_eL E l) s h) hf R H fun x z s hz => by obtain ⟨a, rfl, rfl⟩ := sx_i1_inv hz; rfl
  case i2f => obtain rfl := Option.some.inj hX; exact sx_b1_ok (r := fun s => ab_f sv (.i2f, len, aux) pc (sx_eL E l) s h) hf R H fun x z s hz => by obtain ⟨a, rfl, rfl⟩ := sx_i1_inv hz; rfl
  case ladd => obtain rfl := Option.some.inj hX; exact sx_b2_ok (r := fun s => ab_f sv (.ladd, len, aux) pc (sx_eL E l) s h) hf R H fun x y z s hz => by obtain ⟨a, b, rfl, rfl, rfl⟩ := sx_l2_inv hz; rfl
  case lsub => obtain rfl := Option.some.inj hX; exact sx_b2_ok (r := fun s => ab_f sv (.lsub, len, aux) pc (sx_eL E l) s h) hf R H fun x y z s hz => by obtain ⟨a, b, rfl, rfl, rfl⟩ := sx_l2_inv hz; rfl
  case lcmp => obtain rfl := Option.some.inj hX; exact sx_b2_ok (r := fun s => ab_f sv (.lcmp, len, aux) pc (sx_eL E l) s h) hf R H fun x y z s hz => by obtain ⟨a, b, rfl, rfl, rfl⟩ := sx_l2_inv hz; rfl
  case fdiv =>
    obtain rfl := Option.some.inj hX
    refine sx_b2_ok (r := fun s => ab_f sv (.fdiv, len, aux) pc (sx_eL E l) s h) hf R H fun x y z s hz => ?_
    have hz : sx_g0 x y = some z := hz
    unfold sx_g0 at hz
    split at hz
    · rename_i a b
      split at hz
      · rename_i hc
        cases hz
        show (if _ then _ else none) = _
        rw [if_pos hc]
      · cases hz
    · cases hz
  case ddiv =>
    obtain rfl := Option.some.inj hX
    refine sx_b2_ok (r := fun s => ab_f sv (.ddiv, len, aux) pc (sx_eL E l) s h) hf R H fun x y z s hz => ?_
    have hz : sx_g1 x y = some z := hz
    unfold sx_g1 at hz
    split at hz
    · rename_i a b
      split at hz
      · rename_i hc
        cases hz
        show (if _ then _ else none) = _
        rw [if_pos hc]
      · cases hz
    · cases hz
  case f2d =>
    obtain rfl := Option.some.inj hX
    refine sx_b1_ok (r := fun s => ab_f sv (.f2d, len, aux) pc (sx_eL E l) s h) hf R H fun x z s hz => ?_
    have hz : sx_g4 x = some z := hz
    unfold sx_g4 at hz
    split at hz
    · rename_i a
      split at hz
      · rename_i hc
        cases hz
        show (if _ then _ else none) = _
        rw [if_pos hc]
      · cases hz
    · cases hz
  case dcmp op =>
    cases op
    · obtain rfl := Option.some.inj hX
      refine sx_b2_ok (r := fun s => ab_f sv (.dcmp .g, len, aux) pc (sx_eL E l) s h) hf R H fun x y z s hz => ?_
      have hz : sx_g2 .g x y = some z := hz
      unfold sx_g2 at hz
      split at hz
      · cases hz; rfl
      · cases hz
    · obtain rfl := Option.some.inj hX
      refine sx_b2_ok (r := fun s => ab_f sv (.dcmp .l, len, aux) pc (sx_eL E l) s h) hf R H fun x y z s hz => ?_
      have hz : sx_g2 .l x y = some z := hz
      unfold sx_g2 at hz
      split at hz
      · cases hz; rfl
      · cases hz
  case dup =>
    obtain rfl := Option.some.inj hX
    match st, hf with
    | v :: st, hf =>
      have hf : (match sx_cat v with
        | 1 => sx_nx (pc + 1) l (v :: v :: st) G sl
        | _ => none) = some o := hf
      split at hf
      · rename_i hc
        obtain rfl := Option.some.inj hf
        refine ⟨h, ?_, R⟩
        show (if (sx_ev E v).category = 1 then _ else none) = _
        rw [if_pos ((sx_cat_ok E v).trans hc)]
        rfl
      · cases hf
    | [], hf => exact nomatch (show (none : Option sx_O) = some o from hf)
  case pop =>
    obtain rfl := Option.some.inj hX
    match st, hf with
    | v :: st, hf =>
      have hf : (match sx_cat v with
        | 1 => sx_nx (pc + 1) l st G sl
        | _ => none) = some o := hf
      split at hf
      · rename_i hc
        obtain rfl := Option.some.inj hf
        refine ⟨h, ?_, R⟩
        show (if (sx_ev E v).category = 1 then _ else none) = _
        rw [if_pos ((sx_cat_ok E v).trans hc)]
        rfl
      · cases hf
    | [], hf => exact nomatch (show (none : Option sx_O) = some o from hf)
  case dup_x1 =>
    obtain rfl := Option.some.inj hX
    match st, hf with
    | v :: w :: st, hf =>
      have hf : (match sx_cat v, sx_cat w with
        | 1, 1 => sx_nx (pc + 1) l (v :: w :: v :: st) G sl
        | _, _ => none) = some o := hf
      split at hf
      · rename_i hc hd
        obtain rfl := Option.some.inj hf
        refine ⟨h, ?_, R⟩
        show (if (sx_ev E v).category = 1 ∧ (sx_ev E w).category = 1 then _ else none) = _
        rw [if_pos ⟨(sx_cat_ok E v).trans hc, (sx_cat_ok E w).trans hd⟩]
        rfl
      · cases hf
    | [_], hf => exact nomatch (show (none : Option sx_O) = some o from hf)
    | [], hf => exact nomatch (show (none : Option sx_O) = some o from hf)
  case dup2 =>
    obtain rfl := Option.some.inj hX
    match st, hf with
    | v :: w :: st, hf =>
      have hf : (match sx_cat v, sx_cat w with
        | 1, 1 => sx_nx (pc + 1) l (v :: w :: v :: w :: st) G sl
        | _, _ => none) = some o := hf
      split at hf
      · rename_i hc hd
        obtain rfl := Option.some.inj hf
        refine ⟨h, ?_, R⟩
        show (if (sx_ev E v).category = 1 ∧ (sx_ev E w).category = 1 then _ else none) = _
        rw [if_pos ⟨(sx_cat_ok E v).trans hc, (sx_cat_ok E w).trans hd⟩]
        rfl
      · cases hf
    | [_], hf => exact nomatch (show (none : Option sx_O) = some o from hf)
    | [], hf => exact nomatch (show (none : Option sx_O) = some o from hf)
  case ifCond c z =>
    obtain ⟨hz, rfl⟩ := sx_bt_ok (p := pc) (z := z) (f := fun t => (6, [pc + 3, t, sx_ci c], [], [])) hX
    match st, hf with
    | x :: st, hf =>
      refine sx_br_ok hf R fun b hb => ?_
      obtain ⟨u, v, hu, hv, hc⟩ := sx_cmp_ok hb H
      cases hv
      show ab_f sv (.ifCond c z, len, aux) pc (sx_eL E l) (sx_ev E x :: sx_eS E st) h = _
      rw [hu]
      show ab_br (ab_cc c u 0) pc z (sx_eL E l) (sx_eS E st) h = _
      rw [show ab_cc c u 0 = b from hc, sx_abr hz]
    | [], hf => exact nomatch (show (none : Option sx_O) = some o from hf)
  case if_icmp c z =>
    obtain ⟨hz, rfl⟩ := sx_bt_ok (p := pc) (z := z) (f := fun t => (5, [pc + 3, t, sx_ci c], [], [])) hX
    match st, hf with
    | y :: x :: st, hf =>
      refine sx_br_ok hf R fun b hb => ?_
      obtain ⟨u, v, hu, hv, hc⟩ := sx_cmp_ok hb H
      show ab_f sv (.if_icmp c z, len, aux) pc (sx_eL E l) (sx_ev E y :: sx_ev E x :: sx_eS E st) h = _
      rw [hu, hv]
      show ab_br (ab_cc c u v) pc z (sx_eL E l) (sx_eS E st) h = _
      rw [hc, sx_abr hz]
    | [_], hf => exact nomatch (show (none : Option sx_O) = some o from hf)
    | [], hf => exact nomatch (show (none : Option sx_O) = some o from hf)
  case ifnull z =>
    obtain ⟨hz, rfl⟩ := sx_bt_ok (p := pc) (z := z) (f := fun t => (28, [pc + 3, t, 0], [], [])) hX
    match st, hf with
    | x :: st, hf =>
      refine sx_br_ok hf R fun b hb => ?_
      obtain ⟨u, v, hu, hv, hc⟩ := sx_acmp_ok A hb
      cases hv
      show (match ab_rf (sx_ev E x) with
        | some r => ab_br (decide (r = none)) pc z (sx_eL E l) (sx_eS E st) h
        | none => none) = _
      rw [hu]
      show ab_br (decide (u = none)) pc z (sx_eL E l) (sx_eS E st) h = _
      rw [hc, sx_abr hz]
    | [], hf => exact nomatch (show (none : Option sx_O) = some o from hf)
  case ifnonnull z =>
    obtain ⟨hz, rfl⟩ := sx_bt_ok (p := pc) (z := z) (f := fun t => (28, [pc + 3, t, 1], [], [])) hX
    match st, hf with
    | x :: st, hf =>
      refine sx_br_ok hf R fun b hb => ?_
      cases hq : sx_acmp x (2, 0) with
      | none => rw [hq] at hb; cases hb
      | some c =>
        rw [hq] at hb
        cases hb
        obtain ⟨u, v, hu, hv, hc⟩ := sx_acmp_ok A hq
        cases hv
        show (match ab_rf (sx_ev E x) with
          | some r => ab_br (decide (r ≠ none)) pc z (sx_eL E l) (sx_eS E st) h
          | none => none) = _
        rw [hu]
        show ab_br (decide (u ≠ none)) pc z (sx_eL E l) (sx_eS E st) h = _
        rw [show decide (u ≠ none) = !c by rw [← hc, decide_not], sx_abr hz]
    | [], hf => exact nomatch (show (none : Option sx_O) = some o from hf)
  case if_acmp c z =>
    cases c
    · obtain ⟨hz, rfl⟩ := sx_bt_ok (p := pc) (z := z) (f := fun t => (29, [pc + 3, t, 0], [], [])) hX
      match st, hf with
      | y :: x :: st, hf =>
        refine sx_br_ok hf R fun b hb => ?_
        obtain ⟨u, v, hu, hv, hc⟩ := sx_acmp_ok A hb
        show (match ab_rf (sx_ev E x), ab_rf (sx_ev E y) with
          | some x, some y => ab_br (decide (x = y)) pc z (sx_eL E l) (sx_eS E st) h
          | _, _ => none) = _
        rw [hu, hv]
        show ab_br (decide (u = v)) pc z (sx_eL E l) (sx_eS E st) h = _
        rw [hc, sx_abr hz]
      | [_], hf => exact nomatch (show (none : Option sx_O) = some o from hf)
      | [], hf => exact nomatch (show (none : Option sx_O) = some o from hf)
    · obtain ⟨hz, rfl⟩ := sx_bt_ok (p := pc) (z := z) (f := fun t => (29, [pc + 3, t, 1], [], [])) hX
      match st, hf with
      | y :: x :: st, hf =>
        refine sx_br_ok hf R fun b hb => ?_
        cases hq : sx_acmp x y with
        | none => rw [hq] at hb; cases hb
        | some c =>
          rw [hq] at hb
          cases hb
          obtain ⟨u, v, hu, hv, hc⟩ := sx_acmp_ok A hq
          show (match ab_rf (sx_ev E x), ab_rf (sx_ev E y) with
            | some x, some y => ab_br (!decide (x = y)) pc z (sx_eL E l) (sx_eS E st) h
            | _, _ => none) = _
          rw [hu, hv]
          show ab_br (!decide (u = v)) pc z (sx_eL E l) (sx_eS E st) h = _
          rw [hc, sx_abr hz]
      | [_], hf => exact nomatch (show (none : Option sx_O) = some o from hf)
      | [], hf => exact nomatch (show (none : Option sx_O) = some o from hf)
  case goto z =>
    obtain ⟨hz, rfl⟩ := sx_bt_ok (p := pc) (z := z) (f := fun t => (7, [t], [], [])) hX
    obtain rfl := Option.some.inj hf
    refine ⟨h, ?_, R⟩
    show (if 0 ≤ (pc : Int) + z then _ else none) = _
    rw [if_pos hz]
    rfl
  case tableswitch d lo hi os =>
    obtain rfl := Option.some.inj hX
    have hf : sx_sw false pc ((lo, hi) :: (0, d) :: os.toList.map fun o => (0, o)) l st G sl = some o := hf
    match st, hf with
    | (0, n) :: st, hf =>
      have hf : (if (Int32.ofNat n).toInt < lo ∨ hi < (Int32.ofNat n).toInt then (if 0 ≤ (pc : Int) + d then sx_nx (ab_tg pc d) l st G sl else none)
        else match (os.toList.map fun o => ((0 : Int), o))[((Int32.ofNat n).toInt - lo).toNat]? with
          | some o => if 0 ≤ (pc : Int) + o.2 then sx_nx (ab_tg pc o.2) l st G sl else none
          | none => none) = some o := hf
      show sx_Sd E h0 m o (if (Int32.ofNat n).toInt < lo ∨ hi < (Int32.ofNat n).toInt then (if 0 ≤ (pc : Int) + d then ab_nx (ab_tg pc d) (sx_eL E l) (sx_eS E st) h else none)
        else (match os[((Int32.ofNat n).toInt - lo).toNat]? with
          | some o => if 0 ≤ (pc : Int) + o then ab_nx (ab_tg pc o) (sx_eL E l) (sx_eS E st) h else none
          | none => none))
      split at hf
      · rename_i h1
        rw [if_pos h1]
        split at hf
        · rename_i h2
          rw [if_pos h2]
          obtain rfl := Option.some.inj hf
          exact ⟨h, rfl, R⟩
        · cases hf
      · rename_i h1
        rw [if_neg h1]
        split at hf
        · rename_i w hw
          rw [List.getElem?_map] at hw
          split at hf
          · rename_i h2
            obtain rfl := Option.some.inj hf
            cases ho : os.toList[((Int32.ofNat n).toInt - lo).toNat]? with
            | none => rw [ho] at hw; cases hw
            | some w2 =>
              rw [ho] at hw
              cases hw
              rw [Array.getElem?_toList] at ho
              rw [ho]
              refine ⟨h, ?_, R⟩
              show (if 0 ≤ (pc : Int) + w2 then _ else none) = _
              rw [if_pos h2]
              rfl
          · cases hf
        · cases hf
    | [], hf => exact nomatch (show (none : Option sx_O) = some o from hf)
    | (k + 1, _) :: _, hf => exact nomatch (show (none : Option sx_O) = some o from hf)
  case lookupswitch d ps =>
    obtain rfl := Option.some.inj hX
    have hf : sx_sw true pc ((0, 0) :: (0, d) :: ps.toList) l st G sl = some o := hf
    match st, hf with
    | (0, n) :: st, hf =>
      have hf : (if 0 ≤ (pc : Int) + Op.lookupswitch.offset ps.toList d (Int32.ofNat n).toInt then sx_nx (ab_tg pc (Op.lookupswitch.offset ps.toList d (Int32.ofNat n).toInt)) l st G sl else none) = some o := hf
      show sx_Sd E h0 m o (if 0 ≤ (pc : Int) + Op.lookupswitch.offset ps.toList d (Int32.ofNat n).toInt then ab_nx (ab_tg pc (Op.lookupswitch.offset ps.toList d (Int32.ofNat n).toInt)) (sx_eL E l) (sx_eS E st) h else none)
      split at hf
      · rename_i h2
        rw [if_pos h2]
        obtain rfl := Option.some.inj hf
        exact ⟨h, rfl, R⟩
      · cases hf
    | [], hf => exact nomatch (show (none : Option sx_O) = some o from hf)
    | (k + 1, _) :: _, hf => exact nomatch (show (none : Option sx_O) = some o from hf)
  case getfield n => obtain rfl := Option.some.inj hX; exact sx_gf_ok hf R
  case putfield n => obtain rfl := Option.some.inj hX; exact sx_pf_ok hf R A H
  case getstatic n =>
    obtain rfl := Option.some.inj hX
    have hf : (match vs[ab_ax aux 0]? with
      | some v => sx_nx (pc + 3) l (v :: st) G sl
      | none => none) = some o := hf
    split at hf
    · rename_i v hv
      exact push (t := v.1) (n := v.2) hf (hvs _ _ hv)
    · cases hf
  case iaload => obtain rfl := Option.some.inj hX; exact sx_al_ok hf R H
  case baload => obtain rfl := Option.some.inj hX; exact sx_al_ok hf R H
  case laload => obtain rfl := Option.some.inj hX; exact sx_al_ok hf R H
  case aaload => obtain rfl := Option.some.inj hX; exact sx_al_ok hf R H
  case iastore => obtain rfl := Option.some.inj hX; exact sx_as_ok hf R A H
  case bastore => obtain rfl := Option.some.inj hX; exact sx_as_ok hf R A H
  case lastore => obtain rfl := Option.some.inj hX; exact sx_as_ok hf R A H
  case aastore => obtain rfl := Option.some.inj hX; exact sx_as_ok hf R A H
  case arraylength => obtain rfl := Option.some.inj hX; exact sx_len_ok hf R
  case newarray n => obtain rfl := Option.some.inj hX; exact sx_na_ok (sx_d0_ok E _) hf R A
  case anewarray n => obtain rfl := Option.some.inj hX; exact sx_na_ok rfl hf R A
  case multianewarray n k => obtain rfl := Option.some.inj hX; exact sx_mu_ok hf R A
  case new n =>
    match aux, hX with
    | 0 :: ci :: ts, hX => obtain rfl := Option.some.inj hX; exact sx_nw_ok hf R A
    | 1 :: e :: _, hX => obtain rfl := Option.some.inj hX; exact sx_th_ok hf R A
    | [], hX => exact nomatch (show (none : Option sx_X) = some X from hX)
    | [0], hX => exact nomatch (show (none : Option sx_X) = some X from hX)
    | [1], hX => exact nomatch (show (none : Option sx_X) = some X from hX)
    | (n + 2) :: _, hX => exact nomatch (show (none : Option sx_X) = some X from hX)
  case checkcast n => obtain rfl := Option.some.inj hX; exact sx_cc2_ok hf R
  case invokespecial n =>
    match aux, hX with
    | [0], hX => obtain rfl := Option.some.inj hX; exact sx_ob_ok hf R
    | y :: na :: hd, hX =>
      have k1 : sx_tr pc (.invokespecial n, len, y :: na :: hd) = some (13, [pc + 3, y, na, 1], ab_hs hd, []) := by cases y <;> rfl
      have k2 : ab_f sv (.invokespecial n, len, y :: na :: hd) pc (sx_eL E l) (sx_eS E st) h = (match (sx_eS E st)[na - 1]? with
        | some (.ref _) => ab_call y na (pc + 3) hd (sx_eL E l) (sx_eS E st) h
        | _ => none) := by cases y <;> rfl
      obtain rfl := Option.some.inj (k1.symm.trans hX)
      have hf : sx_call y na 1 (pc + 3) (ab_hs hd) l st G = some o := hf
      obtain ⟨h1, h2⟩ := sx_call_ok (E := E) (h0 := h0) (h := h) (m := m) hf
      obtain ⟨a, ha, -⟩ := h2 (Nat.le_refl _)
      rw [k2, ha]
      exact h1
    | [], hX => exact nomatch (show (none : Option sx_X) = some X from hX)
    | [n + 1], hX => exact nomatch (show (none : Option sx_X) = some X from hX)
  case invokevirtual n =>
    match aux, hX with
    | y :: na :: ci :: hd, hX =>
      obtain rfl := Option.some.inj hX
      have hf : sx_call y na (ci + 2) (pc + 3) (ab_hs hd) l st G = some o := hf
      obtain ⟨h1, h2⟩ := sx_call_ok (E := E) (h0 := h0) (h := h) (m := m) hf
      obtain ⟨a, ha, h3⟩ := h2 (by omega)
      obtain ⟨fs, hfs⟩ := h3 (by omega)
      show sx_Sd E h0 m o (match (sx_eS E st)[na - 1]? with
        | some (.ref a) => match h.1 a with
          | some (.inr (cj, _)) => if cj = ci then ab_call y na (pc + 3) hd (sx_eL E l) (sx_eS E st) h else none
          | _ => none
        | _ => none)
      rw [ha]
      show sx_Sd E h0 m o (match h.1 (E.2.2 a) with
          | some (.inr (cj, _)) => if cj = ci then ab_call y na (pc + 3) hd (sx_eL E l) (sx_eS E st) h else none
          | _ => none)
      rw [R.2.1 a _ _ hfs rfl]
      show sx_Sd E h0 m o (if ci + 2 - 2 = ci then ab_call y na (pc + 3) hd (sx_eL E l) (sx_eS E st) h else none)
      rw [if_pos (by omega)]
      exact h1
    | [], hX => exact nomatch (show (none : Option sx_X) = some X from hX)
    | [_], hX => exact nomatch (show (none : Option sx_X) = some X from hX)
    | [_, _], hX => exact nomatch (show (none : Option sx_X) = some X from hX)
  case invokestatic n =>
    match aux, hX with
    | [1], hX => obtain rfl := Option.some.inj hX; exact sx_cp_ok hf R A H
    | [2], hX =>
      obtain rfl := Option.some.inj hX
      refine sx_mm_ok (r := fun s => ab_f sv (.invokestatic n, len, [2]) pc (sx_eL E l) s h) hf R H fun x y z s hs hz => ?_
      obtain ⟨a, b, rfl, rfl, rfl⟩ := sx_i2_inv hz
      show (if (s.map Value.category).sum ≤ 8 then _ else none) = _
      rw [if_pos hs]
    | [3], hX =>
      obtain rfl := Option.some.inj hX
      refine sx_mm_ok (r := fun s => ab_f sv (.invokestatic n, len, [3]) pc (sx_eL E l) s h) hf R H fun x y z s hs hz => ?_
      obtain ⟨a, b, rfl, rfl, rfl⟩ := sx_i2_inv hz
      show (if (s.map Value.category).sum ≤ 8 then _ else none) = _
      rw [if_pos hs]
    | y :: na :: hd, hX =>
      have k1 : sx_tr pc (.invokestatic n, len, y :: na :: hd) = some (13, [pc + 3, y, na, 0], ab_hs hd, []) := by
        match y with
        | 0 => rfl
        | 1 => rfl
        | 2 => rfl
        | 3 => rfl
        | k + 4 => rfl
      have k2 : ab_f sv (.invokestatic n, len, y :: na :: hd) pc (sx_eL E l) (sx_eS E st) h = ab_call y na (pc + 3) hd (sx_eL E l) (sx_eS E st) h := by
        match y with
        | 0 => rfl
        | 1 => rfl
        | 2 => rfl
        | 3 => rfl
        | k + 4 => rfl
      obtain rfl := Option.some.inj (k1.symm.trans hX)
      have hf : sx_call y na 0 (pc + 3) (ab_hs hd) l st G = some o := hf
      rw [k2]
      exact (sx_call_ok hf).1
    | [], hX => exact nomatch (show (none : Option sx_X) = some X from hX)
    | [0], hX => exact nomatch (show (none : Option sx_X) = some X from hX)
    | [n + 4], hX => exact nomatch (show (none : Option sx_X) = some X from hX)
  case ireturn =>
    have key : ∀ k, k < 3 → ab_ax aux 0 = k → sx_ret F k st G sl = some o → sx_Sd E h0 m o (ab_f sv (.ireturn, len, aux) pc (sx_eL E l) (sx_eS E st) h) := by
      intro k hk e hf
      refine sx_ret_ok (r := fun s => ab_f sv (.ireturn, len, aux) pc (sx_eL E l) s h) hf R H fun v hv => ?_
      cases v with
      | int x =>
        show (if ab_fit (ab_ax aux 0) (.int x) = true then _ else none) = _
        rw [e, if_pos hv]
      | _ => exfalso; match k, hk, hv with
        | 0, _, hv => exact Bool.noConfusion (show false = true from hv)
        | 1, _, hv => exact Bool.noConfusion (show false = true from hv)
        | 2, _, hv => exact Bool.noConfusion (show false = true from hv)
    have hX : (match ab_ax aux 0 with
      | 0 => some (14, [0], [], [])
      | 1 => some (14, [1], [], [])
      | 2 => some (14, [2], [], [])
      | _ => none) = some X := hX
    split at hX
    · rename_i e; obtain rfl := Option.some.inj hX; exact key 0 (by omega) e hf
    · rename_i e; obtain rfl := Option.some.inj hX; exact key 1 (by omega) e hf
    · rename_i e; obtain rfl := Option.some.inj hX; exact key 2 (by omega) e hf
    · cases hX
  case lreturn =>
    obtain rfl := Option.some.inj hX
    refine sx_ret_ok (r := fun s => ab_f sv (.lreturn, len, aux) pc (sx_eL E l) s h) hf R H fun v hv => ?_
    cases v with
    | long x => rfl
    | _ => exact Bool.noConfusion (show false = true from hv)
  case freturn =>
    obtain rfl := Option.some.inj hX
    refine sx_ret_ok (r := fun s => ab_f sv (.freturn, len, aux) pc (sx_eL E l) s h) hf R H fun v hv => ?_
    cases v with
    | float x => rfl
    | _ => exact Bool.noConfusion (show false = true from hv)
  case dreturn =>
    obtain rfl := Option.some.inj hX
    refine sx_ret_ok (r := fun s => ab_f sv (.dreturn, len, aux) pc (sx_eL E l) s h) hf R H fun v hv => ?_
    cases v with
    | double x => rfl
    | _ => exact Bool.noConfusion (show false = true from hv)
  case areturn =>
    obtain rfl := Option.some.inj hX
    refine sx_ret_ok (r := fun s => ab_f sv (.areturn, len, aux) pc (sx_eL E l) s h) hf R H fun v hv => ?_
    show (if ab_fit 6 v = true then _ else none) = _
    rw [if_pos hv]
  case return_ =>
    obtain rfl := Option.some.inj hX
    match st, hf with
    | [], hf =>
      obtain rfl := Option.some.inj hf
      exact ⟨h, rfl, R⟩
    | _ :: _, hf => exact nomatch (show (none : Option sx_O) = some o from hf)
  all_goals exact nomatch (show (none : Option sx_X) = some X from hX)
