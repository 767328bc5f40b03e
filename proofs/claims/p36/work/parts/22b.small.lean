/-! CONTRACTS OF METHODS, out of a run over few cells. -/
theorem wr_no {E : sx_E} {b : Nat} : ∀ {P : List (Nat × sx_C)} {h : ab_H}, (∀ p ∈ P, E.2.2 p.1 ≠ b) → (sg_wr E h P).1 b = h.1 b
  | [], _, _ => rfl
  | q :: r, h, hP => by
    show (sg_wr E (match sx_eC E q.2 with
      | some c => ab_set h (E.2.2 q.1) c
      | none => h) r).1 b = h.1 b
    rw [wr_no fun p hp => hP p (List.mem_cons_of_mem _ hp)]
    split
    · exact if_neg fun e => hP q List.mem_cons_self e.symm
    · rfl
theorem wr_yes {E : sx_E} {a : Nat} {c : sx_C} {q : ab_C} (inj : ∀ j k, E.2.2 j = E.2.2 k → j = k) (hc : sx_eC E c = some q) : ∀ {P : List (Nat × sx_C)} {h : ab_H}, (P.map fun p => p.1).Nodup → (a, c) ∈ P → (sg_wr E h P).1 (E.2.2 a) = some q
  | [], _, _, hm => nomatch hm
  | p :: r, h, hn, hm => by
    rw [List.map_cons, List.nodup_cons] at hn
    show (sg_wr E (match sx_eC E p.2 with
      | some c => ab_set h (E.2.2 p.1) c
      | none => h) r).1 (E.2.2 a) = some q
    rcases List.mem_cons.mp hm with e | e
    · subst e
      rw [wr_no fun p hp e => hn.1 (by
        have e9 : p.1 = a := inj _ _ e
        show a ∈ r.map fun p => p.1
        rw [← e9]
        exact List.mem_map_of_mem (f := fun p : Nat × sx_C => p.1) hp)]
      rw [show sx_eC E (a, c).2 = some q from hc]
      exact if_pos rfl
    · exact wr_yes inj hc hn.2 e
theorem ge1 {m : Nat} {gs : List sx_C} {k : Nat} {c : sx_C} (h : sx_get (m, [gs]) k = some c) : gs[k]? = some c := by
  unfold sx_get at h
  simp only [sx_nth_get] at h
  by_cases e : k / 16 = 0
  · rw [e] at h
    have h : gs[k % 16]? = some c := h
    rw [show k % 16 = k by omega] at h
    exact h
  · obtain ⟨q, hq⟩ : ∃ q, k / 16 = q + 1 := ⟨k / 16 - 1, by omega⟩
    rw [hq] at h
    cases h
theorem sg_small {sv : Nat → Value} {mt : Nat → (Nat → Option ab_I) × Nat} (hcd : ∀ y pc X, tx_cd y pc = some X → ∃ i, (mt y).1 pc = some i ∧ sx_tr pc i = some X) (hml : (fun y => (mt y).2) = tx_ml)
    {E : sx_E} {y : Nat} {args : List sx_V} {res : sx_R} {s : List Nat} {pre post gs gs' : List sx_C} {ρs : Nat → Int32} {Fs : sx_F} {argsS : List sx_V} {rS : sx_R} {fuel d d0 : Nat} (hd : d ≤ d0)
    (hs : s.Nodup) (hm : s.length = gs.length) (hl : gs.length ≤ 16) (hp1 : pre.length = gs.length) (hp2 : post.length = gs.length) (hp3 : gs'.length = gs.length)
    (hF : ∀ αs, sx_ok (ρs, E.2.1, αs) Fs) (hrun : sx_run [] Fs tx_cd tx_ml (fun _ _ _ _ => none) fuel d y argsS (gs.length, [gs]) 0 = some (rS, (gs.length, [gs']), 0))
    (hcell : ∀ αs : Nat → Nat, (∀ j a, s[j]? = some a → αs j = E.2.2 a) → sx_eS (ρs, E.2.1, αs) argsS = sx_eS E args ∧ sx_eR (ρs, E.2.1, αs) rS = sx_eR E res ∧ gs.map (sx_eC (ρs, E.2.1, αs)) = pre.map (sx_eC E) ∧ gs'.map (sx_eC (ρs, E.2.1, αs)) = post.map (sx_eC E))
    (hk : ∀ c ∈ gs', c.1 ≤ 1) :
    sg_ct sv mt d0 E (y, args, s.zip pre, s.zip post, res) := by
  rw [← hml] at hrun
  intro dd hdd h Q inj hpre hQ
  let αs : Nat → Nat := fun j => match s[j]? with
    | some a => E.2.2 a
    | none => h.2.1 + (j - gs.length)
  have hα : ∀ j a, s[j]? = some a → αs j = E.2.2 a := fun j a ha => by
    show (match s[j]? with
      | some a => E.2.2 a
      | none => h.2.1 + (j - gs.length)) = E.2.2 a
    rw [ha]
  obtain ⟨c1, c2, c3, c4⟩ := hcell αs hα
  have sj : ∀ j, j < gs.length → ∃ a, s[j]? = some a := fun j hj => ⟨_, List.getElem?_eq_getElem (by omega)⟩
  have zp : ∀ (l : List sx_C) j a c, s[j]? = some a → l[j]? = some c → (a, c) ∈ s.zip l := fun l j a c h1 h2 => List.mem_of_getElem? (i := j) (by rw [List.getElem?_zip_eq_some]; exact ⟨h1, h2⟩)
  have A : sx_A (ρs, E.2.1, αs) h gs.length := by
    refine ⟨fun k hk => ?_, fun j k hj hk e => ?_, fun k hk => ?_⟩
    · obtain ⟨a, ha⟩ := sj k hk
      obtain ⟨c, hc⟩ : ∃ c, pre[k]? = some c := ⟨_, List.getElem?_eq_getElem (by omega)⟩
      show αs k < h.2.1
      rw [hα k a ha]
      exact (hpre _ (zp pre k a c ha hc)).1
    · obtain ⟨a, ha⟩ := sj j hj
      obtain ⟨b, hb⟩ := sj k hk
      have e : αs j = αs k := e
      rw [hα j a ha, hα k b hb] at e
      have e2 := inj _ _ e
      subst e2
      have hj2 : j < s.length := by omega
      have hk2 : k < s.length := by omega
      rw [List.getElem?_eq_getElem hj2] at ha
      rw [List.getElem?_eq_getElem hk2] at hb
      exact (List.getElem_inj hs).mp ((Option.some.inj ha).trans (Option.some.inj hb).symm)
    · show (match s[k]? with
        | some a => E.2.2 a
        | none => h.2.1 + (k - gs.length)) = _
      rw [List.getElem?_eq_none (by omega)]
  have R : sx_Rl (ρs, E.2.1, αs) h gs.length (gs.length, [gs]) 0 h := by
    refine ⟨⟨Nat.le_refl _, by rw [Nat.sub_self]; rfl, rfl, fun k c hk => (List.getElem?_eq_some_iff.mp (ge1 hk)).1⟩, fun k c q hk hq => ?_, fun _ _ _ => rfl⟩
    have hg := ge1 hk
    have hlt := (List.getElem?_eq_some_iff.mp hg).1
    obtain ⟨a, ha⟩ := sj k hlt
    obtain ⟨c', hc'⟩ : ∃ c, pre[k]? = some c := ⟨_, List.getElem?_eq_getElem (by omega)⟩
    have e := congrArg (fun l => l[k]?) c3
    simp only [List.getElem?_map, hg, hc', Option.map_some, Option.some.injEq] at e
    show h.1 (αs k) = some q
    rw [hα k a ha]
    exact (hpre _ (zp pre k a c' ha hc')).2 q (by rw [← e]; exact hq)
  have hK := sx_run_ok (E := (ρs, E.2.1, αs)) (h0 := h) (m := gs.length) (vs := []) (sv := sv) (F := Fs) (fuel := fuel) (K0 := fun _ _ _ _ => none) (d0 := 0) (fun i v hi => by simp at hi) A (hF αs) hcd (fun dd _ y as G sl r G' sl' h Q hk _ _ => by cases hk) d dd (by omega)
  show ab_run sv mt dd y (sx_eS E args) h Q
  rw [← c1]
  refine hK y argsS _ 0 rS _ 0 h Q hrun R fun h' R' => ?_
  rw [c2]
  refine hQ h' ?_ fun b hb => ?_
  · have e1 := R'.1.2.1
    have e2 := R'.1.2.2.1
    have e1 : h'.2.1 = h.2.1 := by
      have : h'.2.1 = h.2.1 + (gs.length - gs.length) := e1
      omega
    exact Prod.ext e1 e2
  · by_cases hx : ∃ k, k < gs.length ∧ αs k = b
    · obtain ⟨k, hk1, rfl⟩ := hx
      obtain ⟨a, ha⟩ := sj k hk1
      obtain ⟨c, hc⟩ : ∃ c, post[k]? = some c := ⟨_, List.getElem?_eq_getElem (by omega)⟩
      obtain ⟨c', hc'⟩ : ∃ c, gs'[k]? = some c := ⟨_, List.getElem?_eq_getElem (by omega)⟩
      have e := congrArg (fun l => l[k]?) c4
      simp only [List.getElem?_map, hc, hc', Option.map_some, Option.some.injEq] at e
      obtain ⟨q, hq⟩ : ∃ q, sx_eC (ρs, E.2.1, αs) c' = some q := by
        obtain ⟨t, u, w⟩ := c'
        have := hk _ (List.mem_of_getElem? hc')
        match t, this with
        | 0, _ => exact ⟨_, rfl⟩
        | 1, _ => exact ⟨_, rfl⟩
      have e9 : h'.1 (αs k) = some q := R'.2.1 k c' q (by
        unfold sx_get
        simp only [sx_nth_get]
        rw [show k / 16 = 0 by omega, show k % 16 = k by omega]
        exact hc') hq
      rw [e9, hα k a ha]
      refine (wr_yes inj (by rw [← e]; exact hq) ?_ (zp post k a c ha hc)).symm
      rw [List.map_fst_zip (by omega)]
      exact hs
    · rw [R'.2.2 b hb fun k hk e => (hx ⟨k, hk, e⟩).elim]
      refine (wr_no fun p hp e => ?_).symm
      obtain ⟨j, hj⟩ := List.getElem?_of_mem hp
      rw [List.getElem?_zip_eq_some] at hj
      have hlt := (List.getElem?_eq_some_iff.mp hj.1).1
      exact hx ⟨j, by omega, by rw [hα j _ hj.1]; exact e⟩
def sm_cs : List sx_C → List sx_C → Bool
  | [], [] => true
  | c :: a, d :: b => Nat.beq c.1 d.1 && (Nat.beq c.2.1 d.2.1 && (sg_aeq c.2.2 d.2.2 && sm_cs a b))
  | _, _ => false
def sm_r : sx_R → sx_R → Bool
  | .inl none, .inl none => true
  | .inl (some v), .inl (some w) => sx_veq v w
  | .inr e, .inr f => Nat.beq e f
  | _, _ => false
def sm_eq (r : sx_R) (n : Nat) (gs : List sx_C) : Option (sx_R × sx_G × Nat) → Bool
  | some (r', (k, [p]), 0) => sm_r r' r && (Nat.beq k n && sm_cs p gs)
  | _ => false
theorem sm_cs_ok : ∀ {a b : List sx_C}, sm_cs a b = true → a = b
  | [], [], _ => rfl
  | c :: a, d :: b, h => by
    unfold sm_cs at h
    rw [Bool.and_eq_true, Bool.and_eq_true, Bool.and_eq_true] at h
    rw [show c = d from Prod.ext (Nat.eq_of_beq_eq_true h.1) (Prod.ext (Nat.eq_of_beq_eq_true h.2.1) (sg_aeq_ok h.2.2.1)), sm_cs_ok h.2.2.2]
  | [], _ :: _, h => by cases h
  | _ :: _, [], h => by cases h
theorem sm_r_ok {r r' : sx_R} (h : sm_r r r' = true) : r = r' := by
  unfold sm_r at h
  split at h
  · rfl
  · rw [sx_veq_ok h]
  · rw [Nat.eq_of_beq_eq_true h]
  · cases h
theorem sm_eq_ok {r : sx_R} {n : Nat} {gs : List sx_C} {o : Option (sx_R × sx_G × Nat)} (h : sm_eq r n gs o = true) : o = some (r, (n, [gs]), 0) := by
  unfold sm_eq at h
  split at h
  · rw [Bool.and_eq_true, Bool.and_eq_true] at h
    rw [sm_r_ok h.1, Nat.eq_of_beq_eq_true h.2.1, sm_cs_ok h.2.2]
  · cases h
def ct_resetT (a0 a1 a2 a3 a4 a5 a6 a7 a8 f d0 d1 d2 d3 : Nat) : sg_T := (61, [(1, a0), (0, 0), (3, f)], [a0, a1, a2, a3, a4, a5, a6, a7, a8].zip [(1, 0, [(1, a1), (1, a5)]), (0, 14, [(1, a2), (1, a3), (1, a4)]), (0, 0, [(0, 0), (0, 0), (0, 0), (0, 0)]), (0, 0, [(0, 0), (0, 0), (0, 0), (0, 0)]), (0, 0, [(0, 0), (0, 0), (0, 0), (0, 0)]), (0, 14, [(1, a6), (1, a7), (1, a8)]), (0, 0, [(0, 0), (0, 0), (0, 0), (0, 0)]), (0, 0, [(0, 0), (0, 0), (0, 0), (0, 0)]), (0, 0, [(0, 0), (0, 0), (0, 0), (0, 0)])],
      [a0, a1, a2, a3, a4, a5, a6, a7, a8].zip [(1, 0, [(1, a1), (1, a5)]), (0, 14, [(1, a2), (1, a3), (1, a4)]), (0, 0, [(3, d0), (3, d1), (3, d2), (3, d3)]), (0, 0, [(0, 0), (0, 0), (0, 0), (0, 0)]), (0, 0, [(0, 0), (0, 0), (0, 0), (0, 0)]), (0, 14, [(1, a6), (1, a7), (1, a8)]), (0, 0, [(0, 0), (0, 0), (0, 0), (0, 0)]), (0, 0, [(0, 0), (0, 0), (0, 0), (0, 0)]), (0, 0, [(0, 0), (0, 0), (0, 0), (0, 0)])], .inl none)
/-- Carry.reset of the first kind, over fresh rows -/
theorem ct_reset {sv : Nat → Value} {mt : Nat → (Nat → Option ab_I) × Nat} (hcd : ∀ y pc X, tx_cd y pc = some X → ∃ i, (mt y).1 pc = some i ∧ sx_tr pc i = some X) (hml : (fun y => (mt y).2) = tx_ml)
    {E : sx_E} {a0 a1 a2 a3 a4 a5 a6 a7 a8 f d0 d1 d2 d3 n : Nat} (hs : [a0, a1, a2, a3, a4, a5, a6, a7, a8].Nodup) (hn : n = 1 ∨ n = 2 ∨ n = 3 ∨ n = 4) (hf : E.1 f = iN n)
    (h0 : E.1 d0 = if 0 < n then iN 0 else lx_m1) (h1 : E.1 d1 = if 1 < n then iN 1 else lx_m1) (h2 : E.1 d2 = if 2 < n then iN 2 else lx_m1) (h3 : E.1 d3 = if 3 < n then iN 3 else lx_m1) :
    sg_ct sv mt 20 E (ct_resetT a0 a1 a2 a3 a4 a5 a6 a7 a8 f d0 d1 d2 d3) := by
  have key : ∀ (w0 w1 w2 w3 : sx_V), E.1 d0 = E.1 d0 → sm_eq (.inl none) 9 [(1, 0, [(1, 1), (1, 5)]), (0, 14, [(1, 2), (1, 3), (1, 4)]), (0, 0, [w0, w1, w2, w3]), (0, 0, [(0, 0), (0, 0), (0, 0), (0, 0)]), (0, 0, [(0, 0), (0, 0), (0, 0), (0, 0)]), (0, 14, [(1, 6), (1, 7), (1, 8)]), (0, 0, [(0, 0), (0, 0), (0, 0), (0, 0)]), (0, 0, [(0, 0), (0, 0), (0, 0), (0, 0)]), (0, 0, [(0, 0), (0, 0), (0, 0), (0, 0)])]
      (sx_run [] [] tx_cd tx_ml (fun _ _ _ _ => none) 200 5 61 [(1, 0), (0, 0), (0, n)] (9, [[(1, 0, [(1, 1), (1, 5)]), (0, 14, [(1, 2), (1, 3), (1, 4)]), (0, 0, [(0, 0), (0, 0), (0, 0), (0, 0)]), (0, 0, [(0, 0), (0, 0), (0, 0), (0, 0)]), (0, 0, [(0, 0), (0, 0), (0, 0), (0, 0)]), (0, 14, [(1, 6), (1, 7), (1, 8)]), (0, 0, [(0, 0), (0, 0), (0, 0), (0, 0)]), (0, 0, [(0, 0), (0, 0), (0, 0), (0, 0)]), (0, 0, [(0, 0), (0, 0), (0, 0), (0, 0)])]]) 0) = true →
      (∀ αs : Nat → Nat, sx_ev ((fun _ => iN 0), E.2.1, αs) w0 = .int (E.1 d0)) → (∀ αs : Nat → Nat, sx_ev ((fun _ => iN 0), E.2.1, αs) w1 = .int (E.1 d1)) → (∀ αs : Nat → Nat, sx_ev ((fun _ => iN 0), E.2.1, αs) w2 = .int (E.1 d2)) → (∀ αs : Nat → Nat, sx_ev ((fun _ => iN 0), E.2.1, αs) w3 = .int (E.1 d3)) → sg_ct sv mt 20 E (ct_resetT a0 a1 a2 a3 a4 a5 a6 a7 a8 f d0 d1 d2 d3) := by
    intro w0 w1 w2 w3 _ hr e0 e1 e2 e3
    show sg_ct sv mt 20 E (61, [(1, a0), (0, 0), (3, f)], [a0, a1, a2, a3, a4, a5, a6, a7, a8].zip [(1, 0, [(1, a1), (1, a5)]), (0, 14, [(1, a2), (1, a3), (1, a4)]), (0, 0, [(0, 0), (0, 0), (0, 0), (0, 0)]), (0, 0, [(0, 0), (0, 0), (0, 0), (0, 0)]), (0, 0, [(0, 0), (0, 0), (0, 0), (0, 0)]), (0, 14, [(1, a6), (1, a7), (1, a8)]), (0, 0, [(0, 0), (0, 0), (0, 0), (0, 0)]), (0, 0, [(0, 0), (0, 0), (0, 0), (0, 0)]), (0, 0, [(0, 0), (0, 0), (0, 0), (0, 0)])], [a0, a1, a2, a3, a4, a5, a6, a7, a8].zip [(1, 0, [(1, a1), (1, a5)]), (0, 14, [(1, a2), (1, a3), (1, a4)]), (0, 0, [(3, d0), (3, d1), (3, d2), (3, d3)]), (0, 0, [(0, 0), (0, 0), (0, 0), (0, 0)]), (0, 0, [(0, 0), (0, 0), (0, 0), (0, 0)]), (0, 14, [(1, a6), (1, a7), (1, a8)]), (0, 0, [(0, 0), (0, 0), (0, 0), (0, 0)]), (0, 0, [(0, 0), (0, 0), (0, 0), (0, 0)]), (0, 0, [(0, 0), (0, 0), (0, 0), (0, 0)])], .inl none)
    refine sg_small hcd hml (gs := [(1, 0, [(1, 1), (1, 5)]), (0, 14, [(1, 2), (1, 3), (1, 4)]), (0, 0, [(0, 0), (0, 0), (0, 0), (0, 0)]), (0, 0, [(0, 0), (0, 0), (0, 0), (0, 0)]), (0, 0, [(0, 0), (0, 0), (0, 0), (0, 0)]), (0, 14, [(1, 6), (1, 7), (1, 8)]), (0, 0, [(0, 0), (0, 0), (0, 0), (0, 0)]), (0, 0, [(0, 0), (0, 0), (0, 0), (0, 0)]), (0, 0, [(0, 0), (0, 0), (0, 0), (0, 0)])]) (gs' := [(1, 0, [(1, 1), (1, 5)]), (0, 14, [(1, 2), (1, 3), (1, 4)]), (0, 0, [w0, w1, w2, w3]), (0, 0, [(0, 0), (0, 0), (0, 0), (0, 0)]), (0, 0, [(0, 0), (0, 0), (0, 0), (0, 0)]), (0, 14, [(1, 6), (1, 7), (1, 8)]), (0, 0, [(0, 0), (0, 0), (0, 0), (0, 0)]), (0, 0, [(0, 0), (0, 0), (0, 0), (0, 0)]), (0, 0, [(0, 0), (0, 0), (0, 0), (0, 0)])]) (s := [a0, a1, a2, a3, a4, a5, a6, a7, a8]) (ρs := fun _ => iN 0) (Fs := []) (fuel := 200) (d := 5) (rS := .inl none) (argsS := [(1, 0), (0, 0), (0, n)]) (by omega) hs rfl (by decide) rfl rfl rfl (fun _ => lk_nil) (sm_eq_ok hr) (fun αs h => ⟨?_, rfl, ?_, ?_⟩) ?_
    · show [Value.ref (αs 0), .int (iN 0), .int (iN n)] = [Value.ref (E.2.2 a0), .int (iN 0), .int (E.1 f)]
      rw [h 0 a0 rfl, hf]
    · have g1 := h 1 a1 rfl
      have g2 := h 2 a2 rfl
      have g3 := h 3 a3 rfl
      have g4 := h 4 a4 rfl
      have g5 := h 5 a5 rfl
      have g6 := h 6 a6 rfl
      have g7 := h 7 a7 rfl
      have g8 := h 8 a8 rfl
      simp only [List.map_cons, List.map_nil, sx_eC, sx_eS, sx_ev, g1, g2, g3, g4, g5, g6, g7, g8]
    · have g1 := h 1 a1 rfl
      have g2 := h 2 a2 rfl
      have g3 := h 3 a3 rfl
      have g4 := h 4 a4 rfl
      have g5 := h 5 a5 rfl
      have g6 := h 6 a6 rfl
      have g7 := h 7 a7 rfl
      have g8 := h 8 a8 rfl
      have j0 := e0 αs
      have j1 := e1 αs
      have j2 := e2 αs
      have j3 := e3 αs
      simp only [List.map_cons, List.map_nil, sx_eC, sx_eS]
      rw [j0, j1, j2, j3]
      simp only [sx_ev, g1, g2, g3, g4, g5, g6, g7, g8]
    · intro c hc
      simp only [List.mem_cons, List.not_mem_nil, or_false] at hc
      rcases hc with e | e | e | e | e | e | e | e | e <;> rw [e] <;> exact Nat.le_of_ble_eq_true rfl
  rcases hn with e | e | e | e <;> subst e
  · exact key (0, 0) (0, 4294967295) (0, 4294967295) (0, 4294967295) rfl (by decide +kernel) (fun _ => by rw [h0]; rfl) (fun _ => by rw [h1]; rfl) (fun _ => by rw [h2]; rfl) (fun _ => by rw [h3]; rfl)
  · exact key (0, 0) (0, 1) (0, 4294967295) (0, 4294967295) rfl (by decide +kernel) (fun _ => by rw [h0]; rfl) (fun _ => by rw [h1]; rfl) (fun _ => by rw [h2]; rfl) (fun _ => by rw [h3]; rfl)
  · exact key (0, 0) (0, 1) (0, 2) (0, 4294967295) rfl (by decide +kernel) (fun _ => by rw [h0]; rfl) (fun _ => by rw [h1]; rfl) (fun _ => by rw [h2]; rfl) (fun _ => by rw [h3]; rfl)
  · exact key (0, 0) (0, 1) (0, 2) (0, 3) rfl (by decide +kernel) (fun _ => by rw [h0]; rfl) (fun _ => by rw [h1]; rfl) (fun _ => by rw [h2]; rfl) (fun _ => by rw [h3]; rfl)
