/-! CONTRACTS OUT OF RUNS OVER MANY CELLS, with contracts of callees. -/
def sx_16 : Nat → List sx_C → List (List sx_C)
  | 0, _ => []
  | n + 1, l => match l with
    | [] => []
    | _ => l.take 16 :: sx_16 n (l.drop 16)
def sx_of (l : List sx_C) : sx_G := (l.length, sx_16 l.length l)
theorem sx_16_get : ∀ (n : Nat) (l : List sx_C), l.length ≤ 16 * n → ∀ k, (match (sx_16 n l)[k / 16]? with
    | some c => c[k % 16]?
    | none => none) = l[k]?
  | 0, l, h, k => by
    have e : l = [] := List.length_eq_zero_iff.mp (by omega)
    subst e
    rfl
  | n + 1, [], _, k => by
    show (match ([] : List (List sx_C))[k / 16]? with
      | some c => c[k % 16]?
      | none => none) = _
    rfl
  | n + 1, a :: l, h, k => by
    show (match ((a :: l).take 16 :: sx_16 n ((a :: l).drop 16))[k / 16]? with
      | some c => c[k % 16]?
      | none => none) = (a :: l)[k]?
    by_cases e : k / 16 = 0
    · rw [e]
      show ((a :: l).take 16)[k % 16]? = (a :: l)[k]?
      rw [show k % 16 = k by omega, List.getElem?_take]
      rw [if_pos (by omega)]
    · obtain ⟨q, hq⟩ : ∃ q, k / 16 = q + 1 := ⟨k / 16 - 1, by omega⟩
      rw [hq, List.getElem?_cons_succ]
      have ih := sx_16_get n ((a :: l).drop 16) (by rw [List.length_drop]; omega) (k - 16)
      rw [show (k - 16) / 16 = q by omega, show (k - 16) % 16 = k % 16 by omega] at ih
      rw [ih, List.getElem?_drop]
      congr 1
      omega
theorem sx_of_get (l : List sx_C) (k : Nat) : sx_get (sx_of l) k = l[k]? := by
  rw [← sx_16_get l.length l (by omega) k]
  unfold sx_get sx_of
  simp only [sx_nth_get]
  cases (sx_16 l.length l)[k / 16]? <;> rfl
theorem sg_smallT {sv : Nat → Value} {mt : Nat → (Nat → Option ab_I) × Nat} (hcd : ∀ y pc X, tx_cd y pc = some X → ∃ i, (mt y).1 pc = some i ∧ sx_tr pc i = some X) (hml : (fun y => (mt y).2) = tx_ml)
    {E : sx_E} {y : Nat} {args : List sx_V} {res : sx_R} {s : List Nat} {pre gs gs' : List sx_C} {post : List (Nat × sx_C)} {ρs : Nat → Int32} {Fs : sx_F} {T : List sg_T} {argsS : List sx_V} {rS : sx_R} {fuel d dT d0 : Nat} (hd : dT + d ≤ d0)
    (hs : s.Nodup) (hm : s.length = gs.length) (hp1 : pre.length = gs.length)
    (hF : ∀ αs, sx_ok (ρs, E.2.1, αs) Fs) (hT : ∀ αs, ∀ t ∈ T, sg_ct sv mt dT (ρs, E.2.1, αs) t) {G' : sx_G} (hG : G'.1 = gs.length) (hG' : ∀ k, sx_get G' k = gs'[k]?) (hg' : gs'.length = gs.length)
    (hrun : sx_run [] Fs tx_cd tx_ml (sg_K T) fuel d y argsS (sx_of gs) 0 = some (rS, G', 0))
    (hcell : ∀ αs : Nat → Nat, (∀ j a, s[j]? = some a → αs j = E.2.2 a) → sx_eS (ρs, E.2.1, αs) argsS = sx_eS E args ∧ sx_eR (ρs, E.2.1, αs) rS = sx_eR E res ∧ (∀ (j : Nat) (g c : sx_C), gs[j]? = some g → pre[j]? = some c → sx_eC (ρs, E.2.1, αs) g = sx_eC E c) ∧
      ∀ (j a : Nat) (g : sx_C), s[j]? = some a → gs'[j]? = some g → (∃ c q, (a, c) ∈ post ∧ sx_eC (ρs, E.2.1, αs) g = some q ∧ sx_eC E c = some q) ∨ ((∀ p ∈ post, p.1 ≠ a) ∧ (g.1 = 2 ∨ ∃ q, gs[j]? = some g ∧ sx_eC (ρs, E.2.1, αs) g = some q)))
    (hpn : (post.map fun p => p.1).Nodup) (hps : ∀ p ∈ post, p.1 ∈ s) :
    sg_ct sv mt d0 E (y, args, s.zip pre, post, res) := by
  rw [← hml] at hrun
  intro dd hdd h Q inj hpre hQ
  let αs : Nat → Nat := fun j => match s[j]? with
    | some a => E.2.2 a
    | none => h.2.1 + (j - gs.length)
  have hα : ∀ j a, s[j]? = some a → αs j = E.2.2 a := fun j a ha => by
    show (match s[j]? with
      | some a => E.2.2 a
      | none => h.2.1 + (j - gs.length)) = E.2.2 a
    rw [ha]
  obtain ⟨c1, c2, c3, c4⟩ := hcell αs hα
  have sj : ∀ j, j < gs.length → ∃ a, s[j]? = some a := fun j hj => ⟨_, List.getElem?_eq_getElem (by omega)⟩
  have zp : ∀ (l : List sx_C) j a c, s[j]? = some a → l[j]? = some c → (a, c) ∈ s.zip l := fun l j a c h1 h2 => List.mem_of_getElem? (i := j) (by rw [List.getElem?_zip_eq_some]; exact ⟨h1, h2⟩)
  have A : sx_A (ρs, E.2.1, αs) h gs.length := by
    refine ⟨fun k hk => ?_, fun j k hj hk e => ?_, fun k hk => ?_⟩
    · obtain ⟨a, ha⟩ := sj k hk
      obtain ⟨c, hc⟩ : ∃ c, pre[k]? = some c := ⟨_, List.getElem?_eq_getElem (by omega)⟩
      show αs k < h.2.1
      rw [hα k a ha]
      exact (hpre _ (zp pre k a c ha hc)).1
    · obtain ⟨a, ha⟩ := sj j hj
      obtain ⟨b, hb⟩ := sj k hk
      have e : αs j = αs k := e
      rw [hα j a ha, hα k b hb] at e
      have e2 := inj _ _ e
      subst e2
      have hj2 : j < s.length := by omega
      have hk2 : k < s.length := by omega
      rw [List.getElem?_eq_getElem hj2] at ha
      rw [List.getElem?_eq_getElem hk2] at hb
      exact (List.getElem_inj hs).mp ((Option.some.inj ha).trans (Option.some.inj hb).symm)
    · show (match s[k]? with
        | some a => E.2.2 a
        | none => h.2.1 + (k - gs.length)) = _
      rw [List.getElem?_eq_none (by omega)]
  have R : sx_Rl (ρs, E.2.1, αs) h gs.length (sx_of gs) 0 h := by
    refine ⟨⟨Nat.le_refl _, by show h.2.1 = h.2.1 + (gs.length - gs.length); rw [Nat.sub_self]; rfl, rfl, fun k c hk => ?_⟩, fun k c q hk hq => ?_, fun _ _ _ => rfl⟩
    · rw [sx_of_get] at hk
      exact (List.getElem?_eq_some_iff.mp hk).1
    · rw [sx_of_get] at hk
      have hlt := (List.getElem?_eq_some_iff.mp hk).1
      obtain ⟨a, ha⟩ := sj k hlt
      obtain ⟨c', hc'⟩ : ∃ c, pre[k]? = some c := ⟨_, List.getElem?_eq_getElem (by omega)⟩
      show h.1 (αs k) = some q
      rw [hα k a ha]
      exact (hpre _ (zp pre k a c' ha hc')).2 q (by rw [← c3 k c c' hk hc']; exact hq)
  have hK := sx_run_ok (E := (ρs, E.2.1, αs)) (h0 := h) (m := gs.length) (vs := []) (sv := sv) (F := Fs) (fuel := fuel) (d0 := dT) (fun i v hi => by simp at hi) A (hF αs) hcd (sg_K_ok A (hT αs)) d dd (by omega)
  show ab_run sv mt dd y (sx_eS E args) h Q
  rw [← c1]
  refine hK y argsS _ 0 rS _ 0 h Q hrun R fun h' R' => ?_
  rw [c2]
  refine hQ h' ?_ fun b hb => ?_
  · have e1 := R'.1.2.1
    have e2 := R'.1.2.2.1
    have e1 : h'.2.1 = h.2.1 := by
      rw [hG] at e1
      omega
    exact Prod.ext e1 e2
  · have wno : (∀ p ∈ post, E.2.2 p.1 ≠ b) → (sg_wr E h post).1 b = h.1 b := wr_no
    by_cases hx : ∃ k, k < gs.length ∧ αs k = b
    · obtain ⟨k, hk1, rfl⟩ := hx
      obtain ⟨a, ha⟩ := sj k hk1
      obtain ⟨g, hg⟩ : ∃ g, gs'[k]? = some g := ⟨_, List.getElem?_eq_getElem (by omega)⟩
      rcases c4 k a g ha hg with ⟨c, q, m1, m2, m3⟩ | ⟨m1, m2⟩
      · have e9 : h'.1 (αs k) = some q := R'.2.1 k g q ((hG' k).trans hg) m2
        rw [e9, hα k a ha]
        exact (wr_yes inj m3 hpn m1).symm
      · rw [wno fun p hp e => m1 p hp (inj _ _ (e.trans (hα k a ha)))]
        rcases m2 with m2 | ⟨q, m2, m3⟩
        · refine R'.2.2 (αs k) hb fun k2 hk2 e => ?_
          have e : αs k2 = αs k := e
          have e3 : k2 = k := A.2.1 k2 k hk2 hk1 e
          subst e3
          exact ⟨g, (hG' k2).trans hg, m2⟩
        · have e9 : h'.1 (αs k) = some q := R'.2.1 k g q ((hG' k).trans hg) m3
          have e8 : h.1 (αs k) = some q := R.2.1 k g q ((sx_of_get gs k).trans m2) m3
          rw [e9, e8]
    · rw [R'.2.2 b hb fun k hk e => (hx ⟨k, hk, e⟩).elim]
      refine (wno fun p hp e => ?_).symm
      obtain ⟨j, hj⟩ := List.getElem?_of_mem (hps p hp)
      have hlt := (List.getElem?_eq_some_iff.mp hj).1
      exact hx ⟨j, by omega, by rw [hα j _ hj]; exact e⟩
