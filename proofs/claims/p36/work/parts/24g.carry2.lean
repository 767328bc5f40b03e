/-! THE CARRYING OF THE OBJECT, 2 versions (written by wip/p36/carryW.py). -/
noncomputable def kn2 : List Nat := [2, 3, 48, 175, 176, 7, 49, 58, 59, 60, 61, 62, 63, 64, 65, 66, 67, 68, 69, 70, 71, 72, 73, 74, 75, 14, 50, 51, 57, 76, 82, 138, 4, 5, 6, 8, 9, 12, 13]
noncomputable def kr2 : List sx_C := [(1, 6, [(1, 50), (1, 51), (1, 57), (1, 58), (1, 67), (1, 76), (1, 82)]), (1, 0, [(1, 59), (1, 63)]), (0, 14, [(1, 60), (1, 61), (1, 62)]), (0, 0, [(3, 9130), (3, 9131), (3, 9132), (3, 9133)]), (0, 0, [(0, 0), (0, 4294967295), (0, 4294967295), (0, 4294967295)]), (0, 0, [(0, 0), (0, 4294967295), (0, 4294967295), (0, 4294967295)]), (0, 14, [(1, 64), (1, 65), (1, 66)]), (0, 0, [(3, 6130), (3, 6131), (3, 6132), (3, 6133)]), (0, 0, [(0, 0), (0, 0), (0, 0), (0, 0)]), (0, 0, [(0, 0), (0, 0), (0, 0), (0, 0)]), (1, 0, [(1, 68), (1, 72)]), (0, 14, [(1, 69), (1, 70), (1, 71)]), (0, 0, [(3, 10130), (3, 10131), (3, 10132), (3, 10133)]), (0, 0, [(0, 0), (0, 4294967295), (0, 4294967295), (0, 4294967295)]), (0, 0, [(0, 0), (0, 4294967295), (0, 4294967295), (0, 4294967295)]), (0, 14, [(1, 73), (1, 74), (1, 75)]), (0, 0, [(3, 8130), (3, 8131), (3, 8132), (3, 8133)]), (0, 0, [(0, 0), (0, 0), (0, 0), (0, 0)]), (0, 0, [(0, 0), (0, 0), (0, 0), (0, 0)]), (2, 0, []), (2, 0, []), (2, 0, []), (2, 0, []), (2, 0, []), (2, 0, []), (2, 0, []), (2, 0, []), (2, 0, []), (2, 0, []), (2, 0, []), (2, 0, []), (2, 0, []), (2, 0, [])]
noncomputable def kq2 : List sx_C := [(1, 6, [(1, 26), (1, 27), (1, 28), (1, 7), (1, 16), (1, 29), (1, 30)]), (1, 0, [(1, 8), (1, 12)]), (0, 14, [(1, 9), (1, 10), (1, 11)]), (0, 0, [(3, 9130), (3, 9131), (3, 9132), (3, 9133)]), (0, 0, [(0, 0), (0, 4294967295), (0, 4294967295), (0, 4294967295)]), (0, 0, [(0, 0), (0, 4294967295), (0, 4294967295), (0, 4294967295)]), (0, 14, [(1, 13), (1, 14), (1, 15)]), (0, 0, [(3, 6130), (3, 6131), (3, 6132), (3, 6133)]), (0, 0, [(0, 0), (0, 0), (0, 0), (0, 0)]), (0, 0, [(0, 0), (0, 0), (0, 0), (0, 0)]), (1, 0, [(1, 17), (1, 21)]), (0, 14, [(1, 18), (1, 19), (1, 20)]), (0, 0, [(3, 10130), (3, 10131), (3, 10132), (3, 10133)]), (0, 0, [(0, 0), (0, 4294967295), (0, 4294967295), (0, 4294967295)]), (0, 0, [(0, 0), (0, 4294967295), (0, 4294967295), (0, 4294967295)]), (0, 14, [(1, 22), (1, 23), (1, 24)]), (0, 0, [(3, 8130), (3, 8131), (3, 8132), (3, 8133)]), (0, 0, [(0, 0), (0, 0), (0, 0), (0, 0)]), (0, 0, [(0, 0), (0, 0), (0, 0), (0, 0)]), (2, 0, []), (2, 0, []), (2, 0, []), (2, 0, []), (2, 0, []), (2, 0, []), (2, 0, []), (2, 0, []), (2, 0, []), (2, 0, []), (2, 0, []), (2, 0, []), (2, 0, []), (2, 0, [])]
noncomputable def kp2 (to sh rb : Nat) : List sx_C := (1, 7, [(1, 3), (1, 138), (3, to), (1, 4), (1, 5), (5, 1), (1, 6), (1, 7), (1, 8), (1, 9), (1, 12), (1, 13), (0, 0), (0, 0)]) :: (1, 8, [(0, 2), (1, 48), (0, 2)]) :: (0, 6, [(1, 14), (1, 49), (2, 0), (2, 0), (2, 0), (2, 0), (2, 0), (2, 0), (2, 0), (2, 0)]) :: (1, 3, [(0, 0), (3, sh), (1, 176)]) :: (0, 0, [(3, rb + 0), (3, rb + 1), (3, rb + 2), (3, rb + 3)]) :: (0, 0, [(3, rb + 5), (3, rb + 6), (3, rb + 7), (3, rb + 8)]) :: kr2
noncomputable def kg2 (cur sh a b : Nat) : List sx_C := (1, 7, [(1, 1), (1, 31), (0, cur), (1, 32), (1, 33), (5, 1), (1, 34), (1, 5), (1, 35), (1, 36), (1, 37), (1, 38), (0, 0), (0, 0)]) :: (1, 8, [(0, 2), (1, 2), (0, 2)]) :: (0, 6, [(1, 25), (1, 6), (2, 0), (2, 0), (2, 0), (2, 0), (2, 0), (2, 0), (2, 0), (2, 0)]) :: (1, 3, [(0, 0), (0, sh), (1, 4)]) :: (0, 0, [(3, a + 0), (3, a + 1), (3, a + 2), (3, a + 3)]) :: (0, 0, [(3, b + 0), (3, b + 1), (3, b + 2), (3, b + 3)]) :: kq2
noncomputable def ko2 (to rb2 : Nat) : List (Nat × sx_C) := [(175, (1, 3, [(0, 0), (3, to), (1, 176)])), (176, (0, 0, [(3, rb2 + 0), (3, rb2 + 1), (3, rb2 + 2), (3, rb2 + 3)])), (7, (0, 0, [(3, rb2 + 5), (3, rb2 + 6), (3, rb2 + 7), (3, rb2 + 8)]))]
noncomputable def kC2 (to sh rb rb2 : Nat) : sg_T := (75, [(1, 2), (1, 175), (3, to)], kn2.zip (kp2 to sh rb), ko2 to rb2, .inl none)
theorem k3_2 {xs : Nat → Int32} {L : Nat} {J : Nat → Int32} {lam : Nat → Int64} {α αs : Nat → Nat} {to sh rb s t : Nat} (hb : 20000 ≤ rb) (h1 : 14000 ≤ to) (h2 : 14000 ≤ sh) (hs : J sh = iN s) (ht : J to = iN t) (hα : ∀ j a, kn2[j]? = some a → αs j = α a) : ∀ (j : Nat) g c, (kg2 t s 20000 20005)[j]? = some g → (kp2 to sh rb)[j]? = some c → sx_eC (lx_r xs L (lx_js xs L J rb s t), lam, αs) g = sx_eC (lx_r xs L J, lam, α) c := by
  have hρ : ∀ i, i < 20000 → lx_r xs L (lx_js xs L J rb s t) i = lx_r xs L J i := fun i hi => js_lt hi
  have hst : lx_r xs L J sh = iN s := (rjk sh h2).trans hs
  have htt : lx_r xs L J to = iN t := (rjk to h1).trans ht
  intro j g c hg hc
  match j, hg, hc with
  | 0, hg, hc =>
    cases hg
    cases hc
    show some (Sum.inr (7, [Value.ref (αs 1), Value.ref (αs 31), Value.int (iN t), Value.ref (αs 32), Value.ref (αs 33), sx_ev (lx_r xs L (lx_js xs L J rb s t), lam, αs) (5, 1), Value.ref (αs 34), Value.ref (αs 5), Value.ref (αs 35), Value.ref (αs 36), Value.ref (αs 37), Value.ref (αs 38), sx_ev (lx_r xs L (lx_js xs L J rb s t), lam, αs) (0, 0), sx_ev (lx_r xs L (lx_js xs L J rb s t), lam, αs) (0, 0)])) = some (Sum.inr (7, [Value.ref (α 3), Value.ref (α 138), Value.int (lx_r xs L J to), Value.ref (α 4), Value.ref (α 5), sx_ev (lx_r xs L J, lam, α) (5, 1), Value.ref (α 6), Value.ref (α 7), Value.ref (α 8), Value.ref (α 9), Value.ref (α 12), Value.ref (α 13), sx_ev (lx_r xs L J, lam, α) (0, 0), sx_ev (lx_r xs L J, lam, α) (0, 0)]))
    rw [htt, hα 1 3 rfl, hα 5 7 rfl, hα 31 138 rfl, hα 32 4 rfl, hα 33 5 rfl, hα 34 6 rfl, hα 35 8 rfl, hα 36 9 rfl, hα 37 12 rfl, hα 38 13 rfl]
    rfl
  | 1, hg, hc =>
    cases hg
    cases hc
    exact cq_c_ok (s := kn2) hρ hα (by decide +kernel)
  | 2, hg, hc =>
    cases hg
    cases hc
    exact cq_c_ok (s := kn2) hρ hα (by decide +kernel)
  | 3, hg, hc =>
    cases hg
    cases hc
    show some (Sum.inr (3, [Value.int (iN 0), Value.int (iN s), Value.ref (αs 4)])) = some (Sum.inr (3, [Value.int (iN 0), Value.int (lx_r xs L J sh), Value.ref (α 176)]))
    rw [hst, hα 4 176 rfl]
  | 4, hg, hc =>
    cases hg
    cases hc
    show some (Sum.inl (0, [Value.int (lx_r xs L (lx_js xs L J rb s t) (20000 + 0)), Value.int (lx_r xs L (lx_js xs L J rb s t) (20000 + 1)), Value.int (lx_r xs L (lx_js xs L J rb s t) (20000 + 2)), Value.int (lx_r xs L (lx_js xs L J rb s t) (20000 + 3))])) = some (Sum.inl (0, [Value.int (lx_r xs L J (rb + 0)), Value.int (lx_r xs L J (rb + 1)), Value.int (lx_r xs L J (rb + 2)), Value.int (lx_r xs L J (rb + 3))]))
    rw [js_r (i := 20000 + 0) (by decide) (by decide), js_r (i := 20000 + 1) (by decide) (by decide), js_r (i := 20000 + 2) (by decide) (by decide), js_r (i := 20000 + 3) (by decide) (by decide), rjk (rb + 0) (by omega), rjk (rb + 1) (by omega), rjk (rb + 2) (by omega), rjk (rb + 3) (by omega)]
  | 5, hg, hc =>
    cases hg
    cases hc
    show some (Sum.inl (0, [Value.int (lx_r xs L (lx_js xs L J rb s t) (20005 + 0)), Value.int (lx_r xs L (lx_js xs L J rb s t) (20005 + 1)), Value.int (lx_r xs L (lx_js xs L J rb s t) (20005 + 2)), Value.int (lx_r xs L (lx_js xs L J rb s t) (20005 + 3))])) = some (Sum.inl (0, [Value.int (lx_r xs L J (rb + 5)), Value.int (lx_r xs L J (rb + 6)), Value.int (lx_r xs L J (rb + 7)), Value.int (lx_r xs L J (rb + 8))]))
    rw [js_r (i := 20005 + 0) (by decide) (by decide), js_r (i := 20005 + 1) (by decide) (by decide), js_r (i := 20005 + 2) (by decide) (by decide), js_r (i := 20005 + 3) (by decide) (by decide), rjk (rb + 5) (by omega), rjk (rb + 6) (by omega), rjk (rb + 7) (by omega), rjk (rb + 8) (by omega)]
  | j + 6, hg, hc => exact cq_cs_ok (s := kn2) (a := kq2) (b := kr2) hρ hα (by decide +kernel) j g c hg hc
theorem kx_2 : (kq2.all ck_k) = true ∧ ((kn2.drop 6).all fun a => !(Nat.beq a 175) && (!(Nat.beq a 176) && !(Nat.beq a 7))) = true ∧ kn2.Nodup ∧ kn2.length = kq2.length + 6 ∧ kr2.length = kq2.length := ⟨by decide +kernel, by decide +kernel, by decide +kernel, by decide +kernel, by decide +kernel⟩
theorem kw_2 (to rb2 : Nat) : ((ko2 to rb2).map fun p => p.1).Nodup ∧ (∀ p ∈ ko2 to rb2, p.1 ∈ kn2) ∧ (∀ p ∈ ko2 to rb2, p.1 ≠ 2) ∧ (∀ p ∈ ko2 to rb2, p.1 ≠ 3) ∧ ∀ p ∈ ko2 to rb2, p.1 ≠ 48 := by
  have key : ∀ P : Nat → Prop, P 175 → P 176 → P 7 → ∀ p ∈ ko2 to rb2, P p.1 := fun P h1 h2 h3 p hp => by
    unfold ko2 at hp
    simp only [List.mem_cons, List.not_mem_nil, or_false] at hp
    rcases hp with e | e | e <;> rw [e]
    · exact h1
    · exact h2
    · exact h3
  exact ⟨(by decide : [175, 176, 7].Nodup), key (fun a => a ∈ kn2) (by decide +kernel) (by decide +kernel) (by decide +kernel), key (fun a => a ≠ 2) (by decide) (by decide) (by decide), key (fun a => a ≠ 3) (by decide) (by decide) (by decide), key (fun a => a ≠ 48) (by decide) (by decide) (by decide)⟩
theorem kz_2 {sv : Nat → Value} {mt : Nat → (Nat → Option ab_I) × Nat} (hcd : ∀ y pc X, tx_cd y pc = some X → ∃ i, (mt y).1 pc = some i ∧ sx_tr pc i = some X) (hml : (fun y => (mt y).2) = tx_ml)
    {xs : Nat → Int32} {L : Nat} {J : Nat → Int32} {lam : Nat → Int64} {α : Nat → Nat} {to sh rb rb2 s t fa fb : Nat} {T : List sg_T} (hb : 20000 ≤ rb) (hb2 : 20000 ≤ rb2) (h1 : 14000 ≤ to) (h2 : 14000 ≤ sh) (hs : J sh = iN s) (ht : J to = iN t)
    (hT : ∀ αs, ∀ u ∈ T, sg_ct sv mt 20 (lx_r xs L (lx_js xs L J rb s t), lam, αs) u)
    (hrun : sm_eqG (.inl none) (kg2 t t fa fb) (sx_run [] [] tx_cd tx_ml (sg_K T) 300 8 75 [(1, 0), (1, 3), (0, t)] (sx_of (kg2 t s 20000 20005)) 0) = true)
    (hfa : ∀ i, i < 4 → lx_r xs L (lx_js xs L J rb s t) (fa + i) = J (rb2 + i)) (hfb : ∀ i, i < 4 → lx_r xs L (lx_js xs L J rb s t) (fb + i) = J (rb2 + (5 + i))) :
    sg_ct sv mt 35 (lx_r xs L J, lam, α) (kC2 to sh rb rb2) := by
  have htt : lx_r xs L J to = iN t := (rjk to h1).trans ht
  obtain ⟨x1, x2, x3, x4, x5⟩ := kx_2
  refine sg_smallT hcd hml (y := 75) (args := [(1, 2), (1, 175), (3, to)]) (res := .inl none) (s := kn2) (pre := kp2 to sh rb) (post := ko2 to rb2) (gs := kg2 t s 20000 20005) (gs' := kg2 t t fa fb) (ρs := lx_r xs L (lx_js xs L J rb s t)) (Fs := []) (T := T) (argsS := [(1, 0), (1, 3), (0, t)]) (rS := .inl none) (fuel := 300) (d := 8) (dT := 20) (by decide) x3 (by show kn2.length = kq2.length + 6; exact x4) (by show kr2.length + 6 = kq2.length + 6; rw [x5]) (fun _ => lk_nil) hT (G' := sx_of (kg2 t t fa fb)) rfl (fun k => sx_of_get _ k) rfl (sm_eqG_ok hrun) (fun αs hα => ⟨?_, rfl, k3_2 hb h1 h2 hs ht hα, ?_⟩) (kw_2 to rb2).1 (kw_2 to rb2).2.1
  · show [Value.ref (αs 0), .ref (αs 3), .int (iN t)] = [Value.ref (α 2), .ref (α 175), .int (lx_r xs L J to)]
    rw [htt, hα 0 2 rfl, hα 3 175 rfl]
  · intro j a g ha hg
    match j, ha, hg with
    | 0, ha, hg =>
      cases ha
      cases hg
      exact Or.inr ⟨(kw_2 to rb2).2.2.1, Or.inr ⟨_, rfl, rfl⟩⟩
    | 1, ha, hg =>
      cases ha
      cases hg
      exact Or.inr ⟨(kw_2 to rb2).2.2.2.1, Or.inr ⟨_, rfl, rfl⟩⟩
    | 2, ha, hg =>
      cases ha
      cases hg
      exact Or.inr ⟨(kw_2 to rb2).2.2.2.2, Or.inr ⟨_, rfl, rfl⟩⟩
    | 3, ha, hg =>
      cases ha
      cases hg
      refine Or.inl ⟨_, _, List.mem_cons_self, rfl, ?_⟩
      show some (Sum.inr (3, [Value.int (iN 0), .int (lx_r xs L J to), .ref (α 176)])) = some (Sum.inr (3, [Value.int (iN 0), .int (iN t), .ref (αs 4)]))
      rw [htt, hα 4 176 rfl]
    | 4, ha, hg =>
      cases ha
      cases hg
      refine Or.inl ⟨_, _, List.mem_cons_of_mem _ List.mem_cons_self, rfl, ?_⟩
      show some (Sum.inl (0, [Value.int (lx_r xs L J (rb2 + 0)), .int (lx_r xs L J (rb2 + 1)), .int (lx_r xs L J (rb2 + 2)), .int (lx_r xs L J (rb2 + 3))])) = some (Sum.inl (0, [Value.int (lx_r xs L (lx_js xs L J rb s t) (fa + 0)), .int (lx_r xs L (lx_js xs L J rb s t) (fa + 1)), .int (lx_r xs L (lx_js xs L J rb s t) (fa + 2)), .int (lx_r xs L (lx_js xs L J rb s t) (fa + 3))]))
      rw [hfa 0 (by decide), hfa 1 (by decide), hfa 2 (by decide), hfa 3 (by decide), rjk (rb2 + 0) (by omega), rjk (rb2 + 1) (by omega), rjk (rb2 + 2) (by omega), rjk (rb2 + 3) (by omega)]
    | 5, ha, hg =>
      cases ha
      cases hg
      refine Or.inl ⟨_, _, List.mem_cons_of_mem _ (List.mem_cons_of_mem _ List.mem_cons_self), rfl, ?_⟩
      show some (Sum.inl (0, [Value.int (lx_r xs L J (rb2 + 5)), .int (lx_r xs L J (rb2 + 6)), .int (lx_r xs L J (rb2 + 7)), .int (lx_r xs L J (rb2 + 8))])) = some (Sum.inl (0, [Value.int (lx_r xs L (lx_js xs L J rb s t) (fb + 0)), .int (lx_r xs L (lx_js xs L J rb s t) (fb + 1)), .int (lx_r xs L (lx_js xs L J rb s t) (fb + 2)), .int (lx_r xs L (lx_js xs L J rb s t) (fb + 3))]))
      rw [hfb 0 (by decide), hfb 1 (by decide), hfb 2 (by decide), hfb 3 (by decide), rjk (rb2 + 5) (by omega), rjk (rb2 + 6) (by omega), rjk (rb2 + 7) (by omega), rjk (rb2 + 8) (by omega)]
    | j + 6, ha, hg =>
      have hg1 : kq2[j]? = some g := hg
      have ha1 : (kn2.drop 6)[j]? = some a := by
        rw [List.getElem?_drop, Nat.add_comm]
        exact ha
      have y1 := List.all_eq_true.mp x2 a (List.mem_of_getElem? ha1)
      rw [Bool.and_eq_true, Bool.and_eq_true] at y1
      have ne : ∀ b, (!(Nat.beq a b)) = true → b ≠ a := fun b h e => by
        rw [e, Nat.beq_refl] at h
        cases h
      refine Or.inr ⟨fun p hp => ?_, ?_⟩
      · unfold ko2 at hp
        simp only [List.mem_cons, List.not_mem_nil, or_false] at hp
        rcases hp with e | e | e <;> rw [e]
        · exact ne _ y1.1
        · exact ne _ y1.2.1
        · exact ne _ y1.2.2
      · rcases ck_k_ok (List.all_eq_true.mp x1 g (List.mem_of_getElem? hg1)) with e | ⟨q, e⟩
        · exact Or.inl e
        · exact Or.inr ⟨q, hg1, e⟩
theorem kk_2_0_0 {sv : Nat → Value} {mt : Nat → (Nat → Option ab_I) × Nat} (hcd : ∀ y pc X, tx_cd y pc = some X → ∃ i, (mt y).1 pc = some i ∧ sx_tr pc i = some X) (hml : (fun y => (mt y).2) = tx_ml)
    {xs : Nat → Int32} {L : Nat} {J : Nat → Int32} {lam : Nat → Int64} {α : Nat → Nat} {to sh rb rb2 : Nat} (hb : 20000 ≤ rb) (hb2 : 20000 ≤ rb2) (h1 : 14000 ≤ to) (h2 : 14000 ≤ sh) (hs : J sh = iN 0) (ht : J to = iN 0)
    (hfa : ∀ i, i < 4 → J (rb2 + i) = lx_pth xs L (fun i => J (rb + i)) 0 0 0 i) (hfb : ∀ i, i < 4 → J (rb2 + (5 + i)) = J (rb + (5 + i))) :
    sg_ct sv mt 35 (lx_r xs L J, lam, α) (kC2 to sh rb rb2) :=
  kz_2 hcd hml (s := 0) (t := 0) (T := []) (fa := 20000) (fb := 20005) hb hb2 h1 h2 hs ht (fun αs => lt_nil) (by decide +kernel) (fun i hi => (js0 xs L J rb 0 0 i hi).trans (hfa i hi).symm) (fun i hi => (js5 xs L J rb 0 0 i hi).trans (hfb i hi).symm)
theorem kk_2_0_1 {sv : Nat → Value} {mt : Nat → (Nat → Option ab_I) × Nat} (hcd : ∀ y pc X, tx_cd y pc = some X → ∃ i, (mt y).1 pc = some i ∧ sx_tr pc i = some X) (hml : (fun y => (mt y).2) = tx_ml)
    {xs : Nat → Int32} {L : Nat} {J : Nat → Int32} {lam : Nat → Int64} {α : Nat → Nat} {to sh rb rb2 : Nat} (hb : 20000 ≤ rb) (hb2 : 20000 ≤ rb2) (h1 : 14000 ≤ to) (h2 : 14000 ≤ sh) (hs : J sh = iN 0) (ht : J to = iN 1)
    (hfa : ∀ i, i < 4 → J (rb2 + i) = lx_pth xs L (fun i => J (rb + i)) 0 1 1 i) (hfb : ∀ i, i < 4 → J (rb2 + (5 + i)) = lx_pth xs L (fun i => J (rb + i)) 0 1 1 i) :
    sg_ct sv mt 35 (lx_r xs L J, lam, α) (kC2 to sh rb rb2) :=
  kz_2 hcd hml (s := 0) (t := 1) (T := [ct_applyT 7 8 9 10 11 12 13 14 15 4 5 9130 9131 9132 9133 6130 6131 6132 6133 20000 20001 20002 20003 20110 20111 20112 20113 (3, 20005) (3, 20006) (3, 20007) (3, 20008)]) (fa := 20110) (fb := 20110) hb hb2 h1 h2 hs ht (fun αs => lt_cons (ct_apply hcd hml (src := lx_pth xs L (fun i => J (rb + i)) 0 1 0) (by decide) (rng (r9130 (lx_js xs L J rb 0 1)) (lx_row_rng xs L 4 1 (by decide) 3 0 (by decide))) (rng (r9131 (lx_js xs L J rb 0 1)) (lx_row_rng xs L 4 1 (by decide) 3 1 (by decide))) (rng (r9132 (lx_js xs L J rb 0 1)) (lx_row_rng xs L 4 1 (by decide) 3 2 (by decide))) (rng (r9133 (lx_js xs L J rb 0 1)) (lx_row_rng xs L 4 1 (by decide) 3 3 (by decide))) (js0 xs L J rb 0 1 0 (by decide)) (js0 xs L J rb 0 1 1 (by decide)) (js0 xs L J rb 0 1 2 (by decide)) (js0 xs L J rb 0 1 3 (by decide)) (qx (U := lx_pth xs L (fun i => J (rb + i)) 0 1 1 0) (js9 xs L J rb 0 1 1 0 (by decide)) (r9130 (lx_js xs L J rb 0 1)) (r6130 (lx_js xs L J rb 0 1)) rfl) (qx (U := lx_pth xs L (fun i => J (rb + i)) 0 1 1 1) (js9 xs L J rb 0 1 1 1 (by decide)) (r9131 (lx_js xs L J rb 0 1)) (r6131 (lx_js xs L J rb 0 1)) rfl) (qx (U := lx_pth xs L (fun i => J (rb + i)) 0 1 1 2) (js9 xs L J rb 0 1 1 2 (by decide)) (r9132 (lx_js xs L J rb 0 1)) (r6132 (lx_js xs L J rb 0 1)) rfl) (qx (U := lx_pth xs L (fun i => J (rb + i)) 0 1 1 3) (js9 xs L J rb 0 1 1 3 (by decide)) (r9133 (lx_js xs L J rb 0 1)) (r6133 (lx_js xs L J rb 0 1)) rfl) rfl rfl rfl rfl) (lt_nil)) (by decide +kernel) (fun i hi => (js9 xs L J rb 0 1 1 i hi).trans (hfa i hi).symm) (fun i hi => (js9 xs L J rb 0 1 1 i hi).trans (hfb i hi).symm)
theorem kk_2_1_0 {sv : Nat → Value} {mt : Nat → (Nat → Option ab_I) × Nat} (hcd : ∀ y pc X, tx_cd y pc = some X → ∃ i, (mt y).1 pc = some i ∧ sx_tr pc i = some X) (hml : (fun y => (mt y).2) = tx_ml)
    {xs : Nat → Int32} {L : Nat} {J : Nat → Int32} {lam : Nat → Int64} {α : Nat → Nat} {to sh rb rb2 : Nat} (hb : 20000 ≤ rb) (hb2 : 20000 ≤ rb2) (h1 : 14000 ≤ to) (h2 : 14000 ≤ sh) (hs : J sh = iN 1) (ht : J to = iN 0)
    (hfa : ∀ i, i < 4 → J (rb2 + i) = lx_pth xs L (fun i => J (rb + i)) 1 0 1 i) (hfb : ∀ i, i < 4 → J (rb2 + (5 + i)) = lx_pth xs L (fun i => J (rb + i)) 1 0 1 i) :
    sg_ct sv mt 35 (lx_r xs L J, lam, α) (kC2 to sh rb rb2) :=
  kz_2 hcd hml (s := 1) (t := 0) (T := [ct_applyT 16 17 18 19 20 21 22 23 24 4 5 10130 10131 10132 10133 8130 8131 8132 8133 20000 20001 20002 20003 20110 20111 20112 20113 (3, 20005) (3, 20006) (3, 20007) (3, 20008)]) (fa := 20110) (fb := 20110) hb hb2 h1 h2 hs ht (fun αs => lt_cons (ct_apply hcd hml (src := lx_pth xs L (fun i => J (rb + i)) 1 0 0) (by decide) (rng (r10130 (lx_js xs L J rb 1 0)) (lx_row_rng xs L 5 1 (by decide) 3 0 (by decide))) (rng (r10131 (lx_js xs L J rb 1 0)) (lx_row_rng xs L 5 1 (by decide) 3 1 (by decide))) (rng (r10132 (lx_js xs L J rb 1 0)) (lx_row_rng xs L 5 1 (by decide) 3 2 (by decide))) (rng (r10133 (lx_js xs L J rb 1 0)) (lx_row_rng xs L 5 1 (by decide) 3 3 (by decide))) (js0 xs L J rb 1 0 0 (by decide)) (js0 xs L J rb 1 0 1 (by decide)) (js0 xs L J rb 1 0 2 (by decide)) (js0 xs L J rb 1 0 3 (by decide)) (qx (U := lx_pth xs L (fun i => J (rb + i)) 1 0 1 0) (js9 xs L J rb 1 0 1 0 (by decide)) (r10130 (lx_js xs L J rb 1 0)) (r8130 (lx_js xs L J rb 1 0)) rfl) (qx (U := lx_pth xs L (fun i => J (rb + i)) 1 0 1 1) (js9 xs L J rb 1 0 1 1 (by decide)) (r10131 (lx_js xs L J rb 1 0)) (r8131 (lx_js xs L J rb 1 0)) rfl) (qx (U := lx_pth xs L (fun i => J (rb + i)) 1 0 1 2) (js9 xs L J rb 1 0 1 2 (by decide)) (r10132 (lx_js xs L J rb 1 0)) (r8132 (lx_js xs L J rb 1 0)) rfl) (qx (U := lx_pth xs L (fun i => J (rb + i)) 1 0 1 3) (js9 xs L J rb 1 0 1 3 (by decide)) (r10133 (lx_js xs L J rb 1 0)) (r8133 (lx_js xs L J rb 1 0)) rfl) rfl rfl rfl rfl) (lt_nil)) (by decide +kernel) (fun i hi => (js9 xs L J rb 1 0 1 i hi).trans (hfa i hi).symm) (fun i hi => (js9 xs L J rb 1 0 1 i hi).trans (hfb i hi).symm)
theorem kk_2_1_1 {sv : Nat → Value} {mt : Nat → (Nat → Option ab_I) × Nat} (hcd : ∀ y pc X, tx_cd y pc = some X → ∃ i, (mt y).1 pc = some i ∧ sx_tr pc i = some X) (hml : (fun y => (mt y).2) = tx_ml)
    {xs : Nat → Int32} {L : Nat} {J : Nat → Int32} {lam : Nat → Int64} {α : Nat → Nat} {to sh rb rb2 : Nat} (hb : 20000 ≤ rb) (hb2 : 20000 ≤ rb2) (h1 : 14000 ≤ to) (h2 : 14000 ≤ sh) (hs : J sh = iN 1) (ht : J to = iN 1)
    (hfa : ∀ i, i < 4 → J (rb2 + i) = lx_pth xs L (fun i => J (rb + i)) 1 1 0 i) (hfb : ∀ i, i < 4 → J (rb2 + (5 + i)) = J (rb + (5 + i))) :
    sg_ct sv mt 35 (lx_r xs L J, lam, α) (kC2 to sh rb rb2) :=
  kz_2 hcd hml (s := 1) (t := 1) (T := []) (fa := 20000) (fb := 20005) hb hb2 h1 h2 hs ht (fun αs => lt_nil) (by decide +kernel) (fun i hi => (js0 xs L J rb 1 1 i hi).trans (hfa i hi).symm) (fun i hi => (js5 xs L J rb 1 1 i hi).trans (hfb i hi).symm)
theorem ct_carry2 {sv : Nat → Value} {mt : Nat → (Nat → Option ab_I) × Nat} (hcd : ∀ y pc X, tx_cd y pc = some X → ∃ i, (mt y).1 pc = some i ∧ sx_tr pc i = some X) (hml : (fun y => (mt y).2) = tx_ml)
    {xs : Nat → Int32} {L : Nat} {J : Nat → Int32} {lam : Nat → Int64} {α : Nat → Nat} {to sh rb rb2 s t : Nat} (hb : 20000 ≤ rb) (hb2 : 20000 ≤ rb2) (h1 : 14000 ≤ to) (h2 : 14000 ≤ sh) (hs : J sh = iN s) (ht : J to = iN t) (ls : s < 2) (lt : t < 2)
    (hfa : ∀ i, i < 4 → J (rb2 + i) = lx_pth xs L (fun i => J (rb + i)) s t (if s ≤ t then t - s else s - t) i) (hfb : ∀ i, i < 4 → J (rb2 + (5 + i)) = if s = t then J (rb + (5 + i)) else lx_pth xs L (fun i => J (rb + i)) s t (if s ≤ t then t - s else s - t) i) :
    sg_ct sv mt 35 (lx_r xs L J, lam, α) (kC2 to sh rb rb2) := by
  have hsc : s = 0 ∨ s = 1 := by omega
  have htc : t = 0 ∨ t = 1 := by omega
  rcases hsc with e | e <;> rcases htc with f | f
  · exact kk_2_0_0 hcd hml hb hb2 h1 h2 (hs.trans (congrArg iN e)) (ht.trans (congrArg iN f)) (fun i hi => (hfa i hi).trans (pth_at e f rfl)) (fun i hi => (hfb i hi).trans (if_pos (e.trans f.symm)))
  · exact kk_2_0_1 hcd hml hb hb2 h1 h2 (hs.trans (congrArg iN e)) (ht.trans (congrArg iN f)) (fun i hi => (hfa i hi).trans (pth_at e f rfl)) (fun i hi => (hfb i hi).trans ((if_neg (ne_at e f (by decide))).trans (pth_at e f rfl)))
  · exact kk_2_1_0 hcd hml hb hb2 h1 h2 (hs.trans (congrArg iN e)) (ht.trans (congrArg iN f)) (fun i hi => (hfa i hi).trans (pth_at e f rfl)) (fun i hi => (hfb i hi).trans ((if_neg (ne_at e f (by decide))).trans (pth_at e f rfl)))
  · exact kk_2_1_1 hcd hml hb hb2 h1 h2 (hs.trans (congrArg iN e)) (ht.trans (congrArg iN f)) (fun i hi => (hfa i hi).trans (pth_at e f rfl)) (fun i hi => (hfb i hi).trans (if_pos (e.trans f.symm)))
theorem kt_2_0 : kT2_0 = kC2 16020 16010 20000 20010 := rfl
theorem kt_2_1 : kT2_1 = kC2 16021 16011 20010 20020 := rfl
theorem kt_2_2 : kT2_2 = kC2 16022 16012 20020 20030 := rfl
theorem kt_2_3 : kT2_3 = kC2 16023 16013 20030 20040 := rfl
theorem kt_2_4 : kT2_4 = kC2 16024 16014 20040 20050 := rfl
