/-! BEHIND THE FIRST LOOP: what is carried, and the contracts of carrying. -/
/-- a field carried: from nowhere, or from a field, and the number -/
def lx_cr (src : Nat → Int32) (fr num : Int32) : Int32 := (if fr = lx_m1 then iN 0 else src fr.toNatClampNeg) + num
def lx_x1 (xs : Nat → Int32) (L i : Nat) : Int32 := if i < lx_nf xs L 1 then lx_kv xs L i else iN 0
def lx_x (xs : Nat → Int32) (L : Nat) : Nat → Nat → Int32
  | 0, i => lx_cr (lx_x1 xs L) (lx_row xs L 5 1 3 i) (lx_row xs L 3 1 3 i)
  | 1, i => lx_x1 xs L i
  | v + 2, i => lx_cr (lx_x xs L (v + 1)) (lx_row xs L 4 (v + 2) 3 i) (lx_row xs L 1 (v + 2) 3 i)
def lb_v (xs : Nat → Int32) (L i : Nat) : Int32 :=
  if i < 15000 then lx_x xs L ((i - 14000) / 10) ((i - 14000) % 10) else if i = 15000 then lx_kv xs L (lx_nf xs L 1 - 1) else iN 0
/-- what stands in the unknowns behind 14000 while the shapes are asked -/
def lb_ok (xs : Nat → Int32) (L : Nat) (J : Nat → Int32) : Prop := ∀ i, 14000 ≤ i → i ≤ 15000 → J i = lb_v xs L i
def lb_l (xs : Nat → Int32) (L : Nat) (lam : Nat → Int64) : Prop := lam 1 = Int64.ofNat (2 * lx_nf xs L 1 + 2)
theorem rxv {xs : Nat → Int32} {L : Nat} {J : Nat → Int32} (hJ : lb_ok xs L J) (v i : Nat) (hv : v < 100) (hi : i < 10) : lx_r xs L J (14000 + 10 * v + i) = lx_x xs L v i := by
  unfold lx_r
  rw [if_neg (by omega), if_neg (by omega), if_neg (by omega), if_neg (by omega), if_neg (by omega), if_neg (by omega), if_neg (by omega), if_neg (by omega), if_neg (by omega), if_neg (by omega), if_neg (by omega), hJ _ (by omega) (by omega)]
  unfold lb_v
  rw [if_pos (by omega)]
  have e1 : (14000 + 10 * v + i - 14000) / 10 = v := by omega
  have e2 : (14000 + 10 * v + i - 14000) % 10 = i := by omega
  rw [e1, e2]
theorem rj15 {xs : Nat → Int32} {L : Nat} {J : Nat → Int32} (hJ : lb_ok xs L J) : lx_r xs L J 15000 = lx_kv xs L (lx_nf xs L 1 - 1) := (hJ 15000 (by decide) (by decide)).trans rfl
theorem lx_row_rng (xs : Nat → Int32) (L t v : Nat) (ht : t = 0 ∨ t = 2 ∨ t = 4 ∨ t = 5) : ∀ k i, i < 4 → lx_row xs L t v k i = lx_m1 ∨ ∃ j, j < 4 ∧ lx_row xs L t v k i = iN j
  | 0, i, hi => by
    rcases ht with e | e | e | e <;> subst e
    · show (if i < lx_nf xs L (v - 1) then iN i else lx_m1) = lx_m1 ∨ ∃ j, j < 4 ∧ (if i < lx_nf xs L (v - 1) then iN i else lx_m1) = iN j
      split
      · exact Or.inr ⟨i, hi, rfl⟩
      · exact Or.inl rfl
    · show (if i < lx_nf xs L v then iN i else lx_m1) = lx_m1 ∨ ∃ j, j < 4 ∧ (if i < lx_nf xs L v then iN i else lx_m1) = iN j
      split
      · exact Or.inr ⟨i, hi, rfl⟩
      · exact Or.inl rfl
    · show (if i < lx_nf xs L (v - 1) ∧ i < lx_nf xs L v then iN i else lx_m1) = lx_m1 ∨ ∃ j, j < 4 ∧ (if i < lx_nf xs L (v - 1) ∧ i < lx_nf xs L v then iN i else lx_m1) = iN j
      split
      · exact Or.inr ⟨i, hi, rfl⟩
      · exact Or.inl rfl
    · show (if i < lx_nf xs L (v - 1) ∧ i < lx_nf xs L v then iN i else lx_m1) = lx_m1 ∨ ∃ j, j < 4 ∧ (if i < lx_nf xs L (v - 1) ∧ i < lx_nf xs L v then iN i else lx_m1) = iN j
      split
      · exact Or.inr ⟨i, hi, rfl⟩
      · exact Or.inl rfl
  | k + 1, i, hi => by
    have ih := lx_row_rng xs L t v ht k i hi
    have hits : lx_its xs L v k = lx_m1 ∨ ∃ j, j < 4 ∧ lx_its xs L v k = iN j := by
      have h1 := lx_it_le xs L v k
      have h2 := lx_inn_14 xs L v k
      unfold lx_its
      have h3 : lx_it xs L v k = 0 ∨ lx_it xs L v k = 1 ∨ lx_it xs L v k = 2 ∨ lx_it xs L v k = 3 ∨ lx_it xs L v k = 4 := by omega
      rcases h3 with e | e | e | e | e <;> rw [e]
      · exact Or.inl (by decide)
      · exact Or.inr ⟨0, by decide, by decide⟩
      · exact Or.inr ⟨1, by decide, by decide⟩
      · exact Or.inr ⟨2, by decide, by decide⟩
      · exact Or.inr ⟨3, by decide, by decide⟩
    have hh : lx_hit xs L t v k = none ∨ lx_hit xs L t v k = some (lx_its xs L v k) := by
      rcases lx_bk_01 xs L v k with hb | hb <;> rcases ht with e | e | e | e <;> subst e
      · exact Or.inr (hit00 hb)
      · exact Or.inl (hit20 hb)
      · exact Or.inr (hit40 hb)
      · exact Or.inl (hit50 hb)
      · exact Or.inl (hit01 hb)
      · exact Or.inr (hit21 hb)
      · exact Or.inl (hit41 hb)
      · exact Or.inr (hit51 hb)
    show (if k < lx_told xs L v then (if i = lx_fld xs L v k then (lx_hit xs L t v k).getD (lx_row xs L t v k i) else lx_row xs L t v k i) else lx_row xs L t v k i) = lx_m1 ∨ ∃ j, j < 4 ∧ (if k < lx_told xs L v then (if i = lx_fld xs L v k then (lx_hit xs L t v k).getD (lx_row xs L t v k i) else lx_row xs L t v k i) else lx_row xs L t v k i) = iN j
    split
    · split
      · rcases hh with e | e <;> rw [e]
        · exact ih
        · exact hits
      · exact ih
    · exact ih
/-- the law's own rows lead within the shape they come from -/
theorem lx_row_in (xs : Nat → Int32) (L v : Nat) : ∀ k i, i < 4 → (lx_row xs L 0 v k i = lx_m1 ∨ ∃ j, j < lx_nf xs L (v - 1) ∧ lx_row xs L 0 v k i = iN j) ∧ (lx_row xs L 2 v k i = lx_m1 ∨ ∃ j, j < lx_nf xs L v ∧ lx_row xs L 2 v k i = iN j)
  | 0, i, hi => by
    refine ⟨?_, ?_⟩
    · show (if i < lx_nf xs L (v - 1) then iN i else lx_m1) = lx_m1 ∨ ∃ j, j < lx_nf xs L (v - 1) ∧ (if i < lx_nf xs L (v - 1) then iN i else lx_m1) = iN j
      split
      · rename_i h; exact Or.inr ⟨i, h, rfl⟩
      · exact Or.inl rfl
    · show (if i < lx_nf xs L v then iN i else lx_m1) = lx_m1 ∨ ∃ j, j < lx_nf xs L v ∧ (if i < lx_nf xs L v then iN i else lx_m1) = iN j
      split
      · rename_i h; exact Or.inr ⟨i, h, rfl⟩
      · exact Or.inl rfl
  | k + 1, i, hi => by
    obtain ⟨ih1, ih2⟩ := lx_row_in xs L v k i hi
    have hits : lx_its xs L v k = lx_m1 ∨ ∃ j, j < lx_inn xs L v k ∧ lx_its xs L v k = iN j := by
      have h1 := lx_it_le xs L v k
      have h2 := lx_inn_14 xs L v k
      unfold lx_its
      have h3 : lx_it xs L v k = 0 ∨ lx_it xs L v k = 1 ∨ lx_it xs L v k = 2 ∨ lx_it xs L v k = 3 ∨ lx_it xs L v k = 4 := by omega
      rcases h3 with e | e | e | e | e
      · rw [e]; exact Or.inl (by decide)
      · rw [e]; exact Or.inr ⟨0, by omega, by decide⟩
      · rw [e]; exact Or.inr ⟨1, by omega, by decide⟩
      · rw [e]; exact Or.inr ⟨2, by omega, by decide⟩
      · rw [e]; exact Or.inr ⟨3, by omega, by decide⟩
    refine ⟨?_, ?_⟩
    · show (if k < lx_told xs L v then (if i = lx_fld xs L v k then (lx_hit xs L 0 v k).getD (lx_row xs L 0 v k i) else lx_row xs L 0 v k i) else lx_row xs L 0 v k i) = lx_m1 ∨ ∃ j, j < lx_nf xs L (v - 1) ∧ (if k < lx_told xs L v then (if i = lx_fld xs L v k then (lx_hit xs L 0 v k).getD (lx_row xs L 0 v k i) else lx_row xs L 0 v k i) else lx_row xs L 0 v k i) = iN j
      split
      · split
        · rcases lx_bk_01 xs L v k with hb | hb
          · rw [hit00 hb]
            rw [inn0 hb] at hits
            exact hits
          · rw [hit01 hb]
            exact ih1
        · exact ih1
      · exact ih1
    · show (if k < lx_told xs L v then (if i = lx_fld xs L v k then (lx_hit xs L 2 v k).getD (lx_row xs L 2 v k i) else lx_row xs L 2 v k i) else lx_row xs L 2 v k i) = lx_m1 ∨ ∃ j, j < lx_nf xs L v ∧ (if k < lx_told xs L v then (if i = lx_fld xs L v k then (lx_hit xs L 2 v k).getD (lx_row xs L 2 v k i) else lx_row xs L 2 v k i) else lx_row xs L 2 v k i) = iN j
      split
      · split
        · rcases lx_bk_01 xs L v k with hb | hb
          · rw [hit20 hb]
            exact ih2
          · rw [hit21 hb]
            rw [inn1 hb] at hits
            exact hits
        · exact ih2
      · exact ih2
theorem x1_y {xs : Nat → Int32} {L n i : Nat} (h : lx_nf xs L 1 = n) (hi : i < n) : lx_x1 xs L i = lx_kv xs L i := if_pos (by rw [h]; exact hi)
theorem x1_n {xs : Nat → Int32} {L n i : Nat} (h : lx_nf xs L 1 = n) (hi : ¬ i < n) : lx_x1 xs L i = iN 0 := if_neg (by rw [h]; exact hi)
theorem rng {u w : Int32} {n : Nat} (h : u = w) (g : w = lx_m1 ∨ ∃ j, j < n ∧ w = iN j) : u = lx_m1 ∨ ∃ j, j < n ∧ u = iN j := by rw [h]; exact g
theorem qx {u f n U F N : Int32} {src : Nat → Int32} (hu : u = U) (hf : f = F) (hn : n = N) (h : U = lx_cr src F N) : u = lx_cr src f n := by rw [hu, hf, hn, h]
/-- a method that writes nothing -/
theorem sg_pure {sv : Nat → Value} {mt : Nat → (Nat → Option ab_I) × Nat} (hcd : ∀ y pc X, tx_cd y pc = some X → ∃ i, (mt y).1 pc = some i ∧ sx_tr pc i = some X) (hml : (fun y => (mt y).2) = tx_ml)
    {E : sx_E} {y : Nat} {args : List sx_V} {res : sx_R} {s : List Nat} {pre gs : List sx_C} {ρs : Nat → Int32} {Fs : sx_F} {argsS : List sx_V} {rS : sx_R} {fuel d d0 : Nat} (hd : d ≤ d0)
    (hs : s.Nodup) (hm : s.length = gs.length) (hl : gs.length ≤ 16) (hp1 : pre.length = gs.length)
    (hF : ∀ αs, sx_ok (ρs, E.2.1, αs) Fs) (hrun : sx_run [] Fs tx_cd tx_ml (fun _ _ _ _ => none) fuel d y argsS (gs.length, [gs]) 0 = some (rS, (gs.length, [gs]), 0))
    (hcell : ∀ αs : Nat → Nat, (∀ j a, s[j]? = some a → αs j = E.2.2 a) → sx_eS (ρs, E.2.1, αs) argsS = sx_eS E args ∧ sx_eR (ρs, E.2.1, αs) rS = sx_eR E res ∧ gs.map (sx_eC (ρs, E.2.1, αs)) = pre.map (sx_eC E))
    (hk : ∀ c ∈ gs, c.1 ≤ 1) :
    sg_ct sv mt d0 E (y, args, s.zip pre, [], res) := by
  intro dd hdd h Q inj hpre hQ
  have h1 := sg_small (sv := sv) hcd hml (E := E) (y := y) (args := args) (res := res) (s := s) (pre := pre) (post := pre) (gs := gs) (gs' := gs) hd hs hm hl hp1 hp1 rfl hF hrun (fun αs ha => ⟨(hcell αs ha).1, (hcell αs ha).2.1, (hcell αs ha).2.2, (hcell αs ha).2.2⟩) hk dd hdd h Q inj hpre
  refine h1 fun h' e1 e2 => hQ h' e1 fun b hb => ?_
  rw [e2 b hb]
  show (sg_wr E h (s.zip pre)).1 b = h.1 b
  have key : ∀ (P : List (Nat × sx_C)) (g : ab_H), (∀ p ∈ P, ∀ q, sx_eC E p.2 = some q → g.1 (E.2.2 p.1) = some q) → (sg_wr E g P).1 b = g.1 b := by
    intro P
    induction P with
    | nil => intro g _; rfl
    | cons p r ih =>
      intro g hg
      show (sg_wr E (match sx_eC E p.2 with
        | some c => ab_set g (E.2.2 p.1) c
        | none => g) r).1 b = g.1 b
      cases hc : sx_eC E p.2 with
      | none => exact ih g fun q hq => hg q (List.mem_cons_of_mem _ hq)
      | some c =>
        have e : ∀ z, (ab_set g (E.2.2 p.1) c).1 z = g.1 z := fun z => by
          show (if z = E.2.2 p.1 then some c else g.1 z) = g.1 z
          by_cases ez : z = E.2.2 p.1
          · rw [if_pos ez, ez]
            exact (hg p List.mem_cons_self c hc).symm
          · rw [if_neg ez]
        show (sg_wr E (ab_set g (E.2.2 p.1) c) r).1 b = g.1 b
        rw [ih _ fun q hq w hw => by rw [e]; exact hg q (List.mem_cons_of_mem _ hq) w hw, e]
  exact key _ h fun p hp q hq => (hpre p hp).2 q hq
theorem sg_ct_pre {sv : Nat → Value} {mt : Nat → (Nat → Option ab_I) × Nat} {d0 y a : Nat} {E : sx_E} {args : List sx_V} {c d : sx_C} {post : List (Nat × sx_C)} {res : sx_R} (h : sx_eC E c = sx_eC E d) (hc : sg_ct sv mt d0 E (y, args, [(a, c)], post, res)) : sg_ct sv mt d0 E (y, args, [(a, d)], post, res) := by
  intro dd hdd g Q inj hpre hQ
  refine hc dd hdd g Q inj (fun p hp => ?_) hQ
  rcases List.mem_cons.mp hp with e | e
  · subst e
    have h9 := hpre (a, d) List.mem_cons_self
    exact ⟨h9.1, fun q hq => h9.2 q (by rw [← h]; exact hq)⟩
  · exact nomatch e
theorem ct_carried1 {sv : Nat → Value} {mt : Nat → (Nat → Option ab_I) × Nat} (hcd : ∀ y pc X, tx_cd y pc = some X → ∃ i, (mt y).1 pc = some i ∧ sx_tr pc i = some X) (hml : (fun y => (mt y).2) = tx_ml)
    {E : sx_E} {a y0 fr mo res : Nat} {src : Nat → Int32} (hfr : E.1 fr = lx_m1 ∨ ∃ j, j < 1 ∧ E.1 fr = iN j) (h0 : E.1 y0 = src 0) (hres : E.1 res = lx_cr src (E.1 fr) (E.1 mo)) :
    sg_ct sv mt 20 E (112, [(1, a), (3, fr), (3, mo)], [(a, (0, 0, [(3, y0)]))], [], .inl (some (3, res))) := by
  have key : ∀ (fv : sx_V) (x : sx_V) (ρs : Nat → Int32), (∀ αs, sx_ev (ρs, E.2.1, αs) fv = .int (E.1 fr)) → (∀ αs, lk (ρs, E.2.1, αs) (0, x, (3, 4), (3, 5))) → ρs 4 = E.1 mo → ρs 5 = E.1 res → (∀ i, i < 1 → ρs i = src i) →
      sm_eq (.inl (some (3, 5))) 1 [(0, 0, [(3, 0)])] (sx_run [] [(0, x, (3, 4), (3, 5))] tx_cd tx_ml (fun _ _ _ _ => none) 60 4 112 [(1, 0), fv, (3, 4)] (1, [[(0, 0, [(3, 0)])]]) 0) = true → sg_ct sv mt 20 E (112, [(1, a), (3, fr), (3, mo)], [(a, (0, 0, [(3, y0)]))], [], .inl (some (3, res))) := by
    intro fv x ρs hfv hx h4 h5 hi hr
    refine sg_pure hcd hml (s := [a]) (pre := [(0, 0, [(3, y0)])]) (gs := [(0, 0, [(3, 0)])]) (ρs := ρs) (Fs := [(0, x, (3, 4), (3, 5))]) (fuel := 60) (d := 4) (rS := .inl (some (3, 5))) (argsS := [(1, 0), fv, (3, 4)]) (by omega) (by simp) rfl (by decide) rfl (fun αs => lk_cons (hx αs) lk_nil) (sm_eq_ok hr) (fun αs h => ⟨?_, ?_, ?_⟩) ?_
    · show [Value.ref (αs 0), sx_ev _ fv, .int (ρs 4)] = [Value.ref (E.2.2 a), .int (E.1 fr), .int (E.1 mo)]
      rw [h 0 a rfl, hfv αs, h4]
    · show Sum.inl (some (Value.int (ρs 5))) = Sum.inl (some (Value.int (E.1 res)))
      rw [h5]
    · show [some (Sum.inl (0, [Value.int (ρs 0)]))] = [some (Sum.inl (0, [Value.int (E.1 y0)]))]
      rw [hi 0 (by decide), h0]
    · intro c hc
      rw [List.mem_singleton.mp hc]
      exact Nat.le_of_ble_eq_true rfl
  have ad : ∀ (αs : Nat → Nat) (ρs : Nat → Int32) (x : sx_V) (u : Int32), sx_ev (ρs, E.2.1, αs) x = .int u → ρs 5 = u + ρs 4 → lk (ρs, E.2.1, αs) (0, x, (3, 4), (3, 5)) := fun αs ρs x u hx h5 => by
    show sx_sem 0 (sx_ev (ρs, E.2.1, αs) x) (.int (ρs 4)) = some (.int (ρs 5))
    rw [hx, h5]
    rfl
  let ρs : Nat → Int32 := fun i => if i = 4 then E.1 mo else if i = 5 then E.1 res else src i
  rcases hfr with e | ⟨j, hj, e⟩
  · refine key (0, 4294967295) (0, 0) ρs (fun αs => by rw [e]; rfl) (fun αs => ad αs ρs _ (iN 0) rfl ?_) rfl rfl (fun i hi => ?_) (by decide +kernel)
    · show E.1 res = iN 0 + E.1 mo
      rw [hres, e]
      rfl
    · show (if i = 4 then _ else if i = 5 then _ else src i) = src i
      rw [if_neg (by omega), if_neg (by omega)]
  · have hj : j = 0 := by omega
    subst hj
    · skip
      refine key (0, 0) (3, 0) ρs (fun αs => by rw [e]; rfl) (fun αs => ad αs ρs _ (src 0) rfl ?_) rfl rfl (fun i hi => ?_) (by decide +kernel)
      · show E.1 res = src 0 + E.1 mo
        rw [hres, e]
        rfl
      · show (if i = 4 then _ else if i = 5 then _ else src i) = src i
        rw [if_neg (by omega), if_neg (by omega)]
theorem ct_carried2 {sv : Nat → Value} {mt : Nat → (Nat → Option ab_I) × Nat} (hcd : ∀ y pc X, tx_cd y pc = some X → ∃ i, (mt y).1 pc = some i ∧ sx_tr pc i = some X) (hml : (fun y => (mt y).2) = tx_ml)
    {E : sx_E} {a y0 y1 fr mo res : Nat} {src : Nat → Int32} (hfr : E.1 fr = lx_m1 ∨ ∃ j, j < 2 ∧ E.1 fr = iN j) (h0 : E.1 y0 = src 0) (h1 : E.1 y1 = src 1) (hres : E.1 res = lx_cr src (E.1 fr) (E.1 mo)) :
    sg_ct sv mt 20 E (112, [(1, a), (3, fr), (3, mo)], [(a, (0, 0, [(3, y0), (3, y1)]))], [], .inl (some (3, res))) := by
  have key : ∀ (fv : sx_V) (x : sx_V) (ρs : Nat → Int32), (∀ αs, sx_ev (ρs, E.2.1, αs) fv = .int (E.1 fr)) → (∀ αs, lk (ρs, E.2.1, αs) (0, x, (3, 4), (3, 5))) → ρs 4 = E.1 mo → ρs 5 = E.1 res → (∀ i, i < 2 → ρs i = src i) →
      sm_eq (.inl (some (3, 5))) 1 [(0, 0, [(3, 0), (3, 1)])] (sx_run [] [(0, x, (3, 4), (3, 5))] tx_cd tx_ml (fun _ _ _ _ => none) 60 4 112 [(1, 0), fv, (3, 4)] (1, [[(0, 0, [(3, 0), (3, 1)])]]) 0) = true → sg_ct sv mt 20 E (112, [(1, a), (3, fr), (3, mo)], [(a, (0, 0, [(3, y0), (3, y1)]))], [], .inl (some (3, res))) := by
    intro fv x ρs hfv hx h4 h5 hi hr
    refine sg_pure hcd hml (s := [a]) (pre := [(0, 0, [(3, y0), (3, y1)])]) (gs := [(0, 0, [(3, 0), (3, 1)])]) (ρs := ρs) (Fs := [(0, x, (3, 4), (3, 5))]) (fuel := 60) (d := 4) (rS := .inl (some (3, 5))) (argsS := [(1, 0), fv, (3, 4)]) (by omega) (by simp) rfl (by decide) rfl (fun αs => lk_cons (hx αs) lk_nil) (sm_eq_ok hr) (fun αs h => ⟨?_, ?_, ?_⟩) ?_
    · show [Value.ref (αs 0), sx_ev _ fv, .int (ρs 4)] = [Value.ref (E.2.2 a), .int (E.1 fr), .int (E.1 mo)]
      rw [h 0 a rfl, hfv αs, h4]
    · show Sum.inl (some (Value.int (ρs 5))) = Sum.inl (some (Value.int (E.1 res)))
      rw [h5]
    · show [some (Sum.inl (0, [Value.int (ρs 0), Value.int (ρs 1)]))] = [some (Sum.inl (0, [Value.int (E.1 y0), Value.int (E.1 y1)]))]
      rw [hi 0 (by decide), h0, hi 1 (by decide), h1]
    · intro c hc
      rw [List.mem_singleton.mp hc]
      exact Nat.le_of_ble_eq_true rfl
  have ad : ∀ (αs : Nat → Nat) (ρs : Nat → Int32) (x : sx_V) (u : Int32), sx_ev (ρs, E.2.1, αs) x = .int u → ρs 5 = u + ρs 4 → lk (ρs, E.2.1, αs) (0, x, (3, 4), (3, 5)) := fun αs ρs x u hx h5 => by
    show sx_sem 0 (sx_ev (ρs, E.2.1, αs) x) (.int (ρs 4)) = some (.int (ρs 5))
    rw [hx, h5]
    rfl
  let ρs : Nat → Int32 := fun i => if i = 4 then E.1 mo else if i = 5 then E.1 res else src i
  rcases hfr with e | ⟨j, hj, e⟩
  · refine key (0, 4294967295) (0, 0) ρs (fun αs => by rw [e]; rfl) (fun αs => ad αs ρs _ (iN 0) rfl ?_) rfl rfl (fun i hi => ?_) (by decide +kernel)
    · show E.1 res = iN 0 + E.1 mo
      rw [hres, e]
      rfl
    · show (if i = 4 then _ else if i = 5 then _ else src i) = src i
      rw [if_neg (by omega), if_neg (by omega)]
  · have hj : j = 0 ∨ j = 1 := by omega
    rcases hj with f | f
    · subst f
      refine key (0, 0) (3, 0) ρs (fun αs => by rw [e]; rfl) (fun αs => ad αs ρs _ (src 0) rfl ?_) rfl rfl (fun i hi => ?_) (by decide +kernel)
      · show E.1 res = src 0 + E.1 mo
        rw [hres, e]
        rfl
      · show (if i = 4 then _ else if i = 5 then _ else src i) = src i
        rw [if_neg (by omega), if_neg (by omega)]
    · subst f
      refine key (0, 1) (3, 1) ρs (fun αs => by rw [e]; rfl) (fun αs => ad αs ρs _ (src 1) rfl ?_) rfl rfl (fun i hi => ?_) (by decide +kernel)
      · show E.1 res = src 1 + E.1 mo
        rw [hres, e]
        rfl
      · show (if i = 4 then _ else if i = 5 then _ else src i) = src i
        rw [if_neg (by omega), if_neg (by omega)]
theorem ct_carried3 {sv : Nat → Value} {mt : Nat → (Nat → Option ab_I) × Nat} (hcd : ∀ y pc X, tx_cd y pc = some X → ∃ i, (mt y).1 pc = some i ∧ sx_tr pc i = some X) (hml : (fun y => (mt y).2) = tx_ml)
    {E : sx_E} {a y0 y1 y2 fr mo res : Nat} {src : Nat → Int32} (hfr : E.1 fr = lx_m1 ∨ ∃ j, j < 3 ∧ E.1 fr = iN j) (h0 : E.1 y0 = src 0) (h1 : E.1 y1 = src 1) (h2 : E.1 y2 = src 2) (hres : E.1 res = lx_cr src (E.1 fr) (E.1 mo)) :
    sg_ct sv mt 20 E (112, [(1, a), (3, fr), (3, mo)], [(a, (0, 0, [(3, y0), (3, y1), (3, y2)]))], [], .inl (some (3, res))) := by
  have key : ∀ (fv : sx_V) (x : sx_V) (ρs : Nat → Int32), (∀ αs, sx_ev (ρs, E.2.1, αs) fv = .int (E.1 fr)) → (∀ αs, lk (ρs, E.2.1, αs) (0, x, (3, 4), (3, 5))) → ρs 4 = E.1 mo → ρs 5 = E.1 res → (∀ i, i < 3 → ρs i = src i) →
      sm_eq (.inl (some (3, 5))) 1 [(0, 0, [(3, 0), (3, 1), (3, 2)])] (sx_run [] [(0, x, (3, 4), (3, 5))] tx_cd tx_ml (fun _ _ _ _ => none) 60 4 112 [(1, 0), fv, (3, 4)] (1, [[(0, 0, [(3, 0), (3, 1), (3, 2)])]]) 0) = true → sg_ct sv mt 20 E (112, [(1, a), (3, fr), (3, mo)], [(a, (0, 0, [(3, y0), (3, y1), (3, y2)]))], [], .inl (some (3, res))) := by
    intro fv x ρs hfv hx h4 h5 hi hr
    refine sg_pure hcd hml (s := [a]) (pre := [(0, 0, [(3, y0), (3, y1), (3, y2)])]) (gs := [(0, 0, [(3, 0), (3, 1), (3, 2)])]) (ρs := ρs) (Fs := [(0, x, (3, 4), (3, 5))]) (fuel := 60) (d := 4) (rS := .inl (some (3, 5))) (argsS := [(1, 0), fv, (3, 4)]) (by omega) (by simp) rfl (by decide) rfl (fun αs => lk_cons (hx αs) lk_nil) (sm_eq_ok hr) (fun αs h => ⟨?_, ?_, ?_⟩) ?_
    · show [Value.ref (αs 0), sx_ev _ fv, .int (ρs 4)] = [Value.ref (E.2.2 a), .int (E.1 fr), .int (E.1 mo)]
      rw [h 0 a rfl, hfv αs, h4]
    · show Sum.inl (some (Value.int (ρs 5))) = Sum.inl (some (Value.int (E.1 res)))
      rw [h5]
    · show [some (Sum.inl (0, [Value.int (ρs 0), Value.int (ρs 1), Value.int (ρs 2)]))] = [some (Sum.inl (0, [Value.int (E.1 y0), Value.int (E.1 y1), Value.int (E.1 y2)]))]
      rw [hi 0 (by decide), h0, hi 1 (by decide), h1, hi 2 (by decide), h2]
    · intro c hc
      rw [List.mem_singleton.mp hc]
      exact Nat.le_of_ble_eq_true rfl
  have ad : ∀ (αs : Nat → Nat) (ρs : Nat → Int32) (x : sx_V) (u : Int32), sx_ev (ρs, E.2.1, αs) x = .int u → ρs 5 = u + ρs 4 → lk (ρs, E.2.1, αs) (0, x, (3, 4), (3, 5)) := fun αs ρs x u hx h5 => by
    show sx_sem 0 (sx_ev (ρs, E.2.1, αs) x) (.int (ρs 4)) = some (.int (ρs 5))
    rw [hx, h5]
    rfl
  let ρs : Nat → Int32 := fun i => if i = 4 then E.1 mo else if i = 5 then E.1 res else src i
  rcases hfr with e | ⟨j, hj, e⟩
  · refine key (0, 4294967295) (0, 0) ρs (fun αs => by rw [e]; rfl) (fun αs => ad αs ρs _ (iN 0) rfl ?_) rfl rfl (fun i hi => ?_) (by decide +kernel)
    · show E.1 res = iN 0 + E.1 mo
      rw [hres, e]
      rfl
    · show (if i = 4 then _ else if i = 5 then _ else src i) = src i
      rw [if_neg (by omega), if_neg (by omega)]
  · have hj : j = 0 ∨ j = 1 ∨ j = 2 := by omega
    rcases hj with f | f | f
    · subst f
      refine key (0, 0) (3, 0) ρs (fun αs => by rw [e]; rfl) (fun αs => ad αs ρs _ (src 0) rfl ?_) rfl rfl (fun i hi => ?_) (by decide +kernel)
      · show E.1 res = src 0 + E.1 mo
        rw [hres, e]
        rfl
      · show (if i = 4 then _ else if i = 5 then _ else src i) = src i
        rw [if_neg (by omega), if_neg (by omega)]
    · subst f
      refine key (0, 1) (3, 1) ρs (fun αs => by rw [e]; rfl) (fun αs => ad αs ρs _ (src 1) rfl ?_) rfl rfl (fun i hi => ?_) (by decide +kernel)
      · show E.1 res = src 1 + E.1 mo
        rw [hres, e]
        rfl
      · show (if i = 4 then _ else if i = 5 then _ else src i) = src i
        rw [if_neg (by omega), if_neg (by omega)]
    · subst f
      refine key (0, 2) (3, 2) ρs (fun αs => by rw [e]; rfl) (fun αs => ad αs ρs _ (src 2) rfl ?_) rfl rfl (fun i hi => ?_) (by decide +kernel)
      · show E.1 res = src 2 + E.1 mo
        rw [hres, e]
        rfl
      · show (if i = 4 then _ else if i = 5 then _ else src i) = src i
        rw [if_neg (by omega), if_neg (by omega)]
theorem ct_carried4 {sv : Nat → Value} {mt : Nat → (Nat → Option ab_I) × Nat} (hcd : ∀ y pc X, tx_cd y pc = some X → ∃ i, (mt y).1 pc = some i ∧ sx_tr pc i = some X) (hml : (fun y => (mt y).2) = tx_ml)
    {E : sx_E} {a y0 y1 y2 y3 fr mo res : Nat} {src : Nat → Int32} (hfr : E.1 fr = lx_m1 ∨ ∃ j, j < 4 ∧ E.1 fr = iN j) (h0 : E.1 y0 = src 0) (h1 : E.1 y1 = src 1) (h2 : E.1 y2 = src 2) (h3 : E.1 y3 = src 3) (hres : E.1 res = lx_cr src (E.1 fr) (E.1 mo)) :
    sg_ct sv mt 20 E (112, [(1, a), (3, fr), (3, mo)], [(a, (0, 0, [(3, y0), (3, y1), (3, y2), (3, y3)]))], [], .inl (some (3, res))) := by
  have key : ∀ (fv : sx_V) (x : sx_V) (ρs : Nat → Int32), (∀ αs, sx_ev (ρs, E.2.1, αs) fv = .int (E.1 fr)) → (∀ αs, lk (ρs, E.2.1, αs) (0, x, (3, 4), (3, 5))) → ρs 4 = E.1 mo → ρs 5 = E.1 res → (∀ i, i < 4 → ρs i = src i) →
      sm_eq (.inl (some (3, 5))) 1 [(0, 0, [(3, 0), (3, 1), (3, 2), (3, 3)])] (sx_run [] [(0, x, (3, 4), (3, 5))] tx_cd tx_ml (fun _ _ _ _ => none) 60 4 112 [(1, 0), fv, (3, 4)] (1, [[(0, 0, [(3, 0), (3, 1), (3, 2), (3, 3)])]]) 0) = true → sg_ct sv mt 20 E (112, [(1, a), (3, fr), (3, mo)], [(a, (0, 0, [(3, y0), (3, y1), (3, y2), (3, y3)]))], [], .inl (some (3, res))) := by
    intro fv x ρs hfv hx h4 h5 hi hr
    refine sg_pure hcd hml (s := [a]) (pre := [(0, 0, [(3, y0), (3, y1), (3, y2), (3, y3)])]) (gs := [(0, 0, [(3, 0), (3, 1), (3, 2), (3, 3)])]) (ρs := ρs) (Fs := [(0, x, (3, 4), (3, 5))]) (fuel := 60) (d := 4) (rS := .inl (some (3, 5))) (argsS := [(1, 0), fv, (3, 4)]) (by omega) (by simp) rfl (by decide) rfl (fun αs => lk_cons (hx αs) lk_nil) (sm_eq_ok hr) (fun αs h => ⟨?_, ?_, ?_⟩) ?_
    · show [Value.ref (αs 0), sx_ev _ fv, .int (ρs 4)] = [Value.ref (E.2.2 a), .int (E.1 fr), .int (E.1 mo)]
      rw [h 0 a rfl, hfv αs, h4]
    · show Sum.inl (some (Value.int (ρs 5))) = Sum.inl (some (Value.int (E.1 res)))
      rw [h5]
    · show [some (Sum.inl (0, [Value.int (ρs 0), Value.int (ρs 1), Value.int (ρs 2), Value.int (ρs 3)]))] = [some (Sum.inl (0, [Value.int (E.1 y0), Value.int (E.1 y1), Value.int (E.1 y2), Value.int (E.1 y3)]))]
      rw [hi 0 (by decide), h0, hi 1 (by decide), h1, hi 2 (by decide), h2, hi 3 (by decide), h3]
    · intro c hc
      rw [List.mem_singleton.mp hc]
      exact Nat.le_of_ble_eq_true rfl
  have ad : ∀ (αs : Nat → Nat) (ρs : Nat → Int32) (x : sx_V) (u : Int32), sx_ev (ρs, E.2.1, αs) x = .int u → ρs 5 = u + ρs 4 → lk (ρs, E.2.1, αs) (0, x, (3, 4), (3, 5)) := fun αs ρs x u hx h5 => by
    show sx_sem 0 (sx_ev (ρs, E.2.1, αs) x) (.int (ρs 4)) = some (.int (ρs 5))
    rw [hx, h5]
    rfl
  let ρs : Nat → Int32 := fun i => if i = 4 then E.1 mo else if i = 5 then E.1 res else src i
  rcases hfr with e | ⟨j, hj, e⟩
  · refine key (0, 4294967295) (0, 0) ρs (fun αs => by rw [e]; rfl) (fun αs => ad αs ρs _ (iN 0) rfl ?_) rfl rfl (fun i hi => ?_) (by decide +kernel)
    · show E.1 res = iN 0 + E.1 mo
      rw [hres, e]
      rfl
    · show (if i = 4 then _ else if i = 5 then _ else src i) = src i
      rw [if_neg (by omega), if_neg (by omega)]
  · have hj : j = 0 ∨ j = 1 ∨ j = 2 ∨ j = 3 := by omega
    rcases hj with f | f | f | f
    · subst f
      refine key (0, 0) (3, 0) ρs (fun αs => by rw [e]; rfl) (fun αs => ad αs ρs _ (src 0) rfl ?_) rfl rfl (fun i hi => ?_) (by decide +kernel)
      · show E.1 res = src 0 + E.1 mo
        rw [hres, e]
        rfl
      · show (if i = 4 then _ else if i = 5 then _ else src i) = src i
        rw [if_neg (by omega), if_neg (by omega)]
    · subst f
      refine key (0, 1) (3, 1) ρs (fun αs => by rw [e]; rfl) (fun αs => ad αs ρs _ (src 1) rfl ?_) rfl rfl (fun i hi => ?_) (by decide +kernel)
      · show E.1 res = src 1 + E.1 mo
        rw [hres, e]
        rfl
      · show (if i = 4 then _ else if i = 5 then _ else src i) = src i
        rw [if_neg (by omega), if_neg (by omega)]
    · subst f
      refine key (0, 2) (3, 2) ρs (fun αs => by rw [e]; rfl) (fun αs => ad αs ρs _ (src 2) rfl ?_) rfl rfl (fun i hi => ?_) (by decide +kernel)
      · show E.1 res = src 2 + E.1 mo
        rw [hres, e]
        rfl
      · show (if i = 4 then _ else if i = 5 then _ else src i) = src i
        rw [if_neg (by omega), if_neg (by omega)]
    · subst f
      refine key (0, 3) (3, 3) ρs (fun αs => by rw [e]; rfl) (fun αs => ad αs ρs _ (src 3) rfl ?_) rfl rfl (fun i hi => ?_) (by decide +kernel)
      · show E.1 res = src 3 + E.1 mo
        rw [hres, e]
        rfl
      · show (if i = 4 then _ else if i = 5 then _ else src i) = src i
        rw [if_neg (by omega), if_neg (by omega)]
/-- carried, out of an array as long as a shape -/
theorem ct_carried {sv : Nat → Value} {mt : Nat → (Nat → Option ab_I) × Nat} (hcd : ∀ y pc X, tx_cd y pc = some X → ∃ i, (mt y).1 pc = some i ∧ sx_tr pc i = some X) (hml : (fun y => (mt y).2) = tx_ml)
    {E : sx_E} {a f y0 y1 y2 y3 fr mo res n : Nat} {src : Nat → Int32} (hn : n = 1 ∨ n = 2 ∨ n = 3 ∨ n = 4) (hf : E.1 f = iN n) (hfr : E.1 fr = lx_m1 ∨ ∃ j, j < n ∧ E.1 fr = iN j) (h0 : E.1 y0 = src 0) (h1 : E.1 y1 = src 1) (h2 : E.1 y2 = src 2) (h3 : E.1 y3 = src 3) (hres : E.1 res = lx_cr src (E.1 fr) (E.1 mo)) :
    sg_ct sv mt 20 E (112, [(1, a), (3, fr), (3, mo)], [(a, (4, f, [(3, y0), (3, y1), (3, y2), (3, y3)]))], [], .inl (some (3, res))) := by
  rcases hn with e | e | e | e <;> subst e
  · refine sg_ct_pre ?_ (ct_carried1 hcd hml hfr h0 hres)
    show some (Sum.inl (0, _)) = some (Sum.inl (0, List.take (E.1 f).toNatClampNeg _))
    rw [hf]
    rfl
  · refine sg_ct_pre ?_ (ct_carried2 hcd hml hfr h0 h1 hres)
    show some (Sum.inl (0, _)) = some (Sum.inl (0, List.take (E.1 f).toNatClampNeg _))
    rw [hf]
    rfl
  · refine sg_ct_pre ?_ (ct_carried3 hcd hml hfr h0 h1 h2 hres)
    show some (Sum.inl (0, _)) = some (Sum.inl (0, List.take (E.1 f).toNatClampNeg _))
    rw [hf]
    rfl
  · refine sg_ct_pre ?_ (ct_carried4 hcd hml hfr h0 h1 h2 h3 hres)
    show some (Sum.inl (0, _)) = some (Sum.inl (0, List.take (E.1 f).toNatClampNeg _))
    rw [hf]
    rfl
