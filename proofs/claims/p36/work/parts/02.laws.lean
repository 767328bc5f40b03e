/-! LAWS OF THE ABSTRACT MACHINE: monotone, determinate, the heap grows; WP unfolds by one step. -/
def ab_is (r : ab_R) (h : ab_H) : ab_Q := fun r1 h1 => r1 = r ∧ h1 = h
def ab_le (h h' : ab_H) : Prop := h.2.1 ≤ h'.2.1 ∧ h.2.2 ≤ h'.2.2
theorem ab_le.rf (h : ab_H) : ab_le h h := ⟨Nat.le_refl _, Nat.le_refl _⟩
theorem ab_le.tr {a b c : ab_H} (x : ab_le a b) (y : ab_le b c) : ab_le a c := ⟨Nat.le_trans x.1 y.1, Nat.le_trans x.2 y.2⟩
def ab_mon (C : ab_Y) : Prop := ∀ (y : Nat) (as : List Value) (h : ab_H) (P P' : ab_Q), (∀ r h, P r h → P' r h) → C y as h P → C y as h P'
def ab_det (C : ab_Y) : Prop := ∀ (y : Nat) (as : List Value) (h : ab_H) (P : ab_Q), C y as h P → ∃ r h', P r h' ∧ ab_le h h' ∧ C y as h (ab_is r h')
def ab_ge (h : ab_H) : Option ab_O → Prop
  | some (.inl c) => ab_le h c.2.2.2
  | some (.inr (.inl q)) => ab_le h q.2
  | _ => True
theorem ab_ge_none (h : ab_H) : ab_ge h none := trivial
theorem ab_ge_nx {h h' : ab_H} (x : ab_le h h') (pc : Nat) (l : ab_L) (st : List Value) : ab_ge h (ab_nx pc l st h') := x
theorem ab_ge_ld (k pc : Nat) (l : ab_L) (st : List Value) (h : ab_H) (i : Nat) : ab_ge h (ab_ld k pc l st h i) := by
  unfold ab_ld; repeat' split
  all_goals first | exact ab_ge_nx (ab_le.rf h) _ _ _ | exact ab_ge_none h
theorem ab_ge_sv (k pc : Nat) (l : ab_L) (st : List Value) (h : ab_H) (i : Nat) : ab_ge h (ab_sv k pc l st h i) := by
  unfold ab_sv; repeat' split
  all_goals first | exact ab_ge_nx (ab_le.rf h) _ _ _ | exact ab_ge_none h
theorem ab_ge_i1 (f : Int32 → Value) (pc : Nat) (l : ab_L) (st : List Value) (h : ab_H) : ab_ge h (ab_i1 f pc l st h) := by
  unfold ab_i1; repeat' split
  all_goals first | exact ab_ge_nx (ab_le.rf h) _ _ _ | exact ab_ge_none h
theorem ab_ge_i2 (f : Int32 → Int32 → Int32) (pc : Nat) (l : ab_L) (st : List Value) (h : ab_H) : ab_ge h (ab_i2 f pc l st h) := by
  unfold ab_i2; repeat' split
  all_goals first | exact ab_ge_nx (ab_le.rf h) _ _ _ | exact ab_ge_none h
theorem ab_ge_l2 (f : Int64 → Int64 → Value) (pc : Nat) (l : ab_L) (st : List Value) (h : ab_H) : ab_ge h (ab_l2 f pc l st h) := by
  unfold ab_l2; repeat' split
  all_goals first | exact ab_ge_nx (ab_le.rf h) _ _ _ | exact ab_ge_none h
theorem ab_ge_al (k pc : Nat) (l : ab_L) (st : List Value) (h : ab_H) : ab_ge h (ab_al k pc l st h) := by
  unfold ab_al; repeat' split
  all_goals first | exact ab_ge_nx (ab_le.rf h) _ _ _ | exact ab_ge_none h
theorem ab_le_set (h : ab_H) (a : Nat) (c : ab_C) : ab_le h (ab_set h a c) := ⟨Nat.le_refl _, Nat.le_refl _⟩
theorem ab_ge_as (k pc : Nat) (l : ab_L) (st : List Value) (h : ab_H) : ab_ge h (ab_as k pc l st h) := by
  unfold ab_as; repeat' split
  all_goals first | exact ab_ge_nx (ab_le_set h _ _) _ _ _ | exact ab_ge_none h
theorem ab_ge_br (b : Bool) (pc : Nat) (o : Int) (l : ab_L) (st : List Value) (h : ab_H) : ab_ge h (ab_br b pc o l st h) := by
  unfold ab_br; repeat' split
  all_goals first | exact ab_ge_nx (ab_le.rf h) _ _ _ | exact ab_ge_none h
theorem ab_ge_call (y na pc : Nat) (hd : List Nat) (l : ab_L) (st : List Value) (h h2 : ab_H) : ab_ge h2 (ab_call y na pc hd l st h) := by
  unfold ab_call; split <;> exact trivial
theorem ab_le_new (h : ab_H) (c : ab_C) (n : Nat) : ab_le h (ab_new h c n) := ⟨Nat.le_succ _, Nat.le_add_right _ _⟩
theorem ab_le_mu (h : ab_H) (n m : Nat) : ab_le h (ab_mu h n m) := ⟨Nat.le_add_right _ _, Nat.le_add_right _ _⟩
set_option maxHeartbeats 4000000 in
theorem ab_f_ge (sv : Nat → Value) (i : ab_I) (pc : Nat) (l : ab_L) (st : List Value) (h : ab_H) : ab_ge h (ab_f sv i pc l st h) := by
  unfold ab_f
  dsimp only
  split
  all_goals first
    | exact ab_ge_none h
    | exact ab_ge_nx (ab_le.rf h) _ _ _
    | exact ab_ge_ld _ _ _ _ _ _
    | exact ab_ge_sv _ _ _ _ _ _
    | exact ab_ge_i1 _ _ _ _ _
    | exact ab_ge_i2 _ _ _ _ _
    | exact ab_ge_l2 _ _ _ _ _
    | exact ab_ge_al _ _ _ _ _
    | exact ab_ge_as _ _ _ _ _
    | ((repeat' split) <;> first
      | exact ab_ge_none h
      | exact ab_ge_nx (ab_le.rf h) _ _ _
      | exact ab_ge_nx (ab_le_new h _ _) _ _ _
      | exact ab_ge_nx (ab_le_set h _ _) _ _ _
      | exact ab_ge_nx (ab_le_mu h _ _) _ _ _
      | exact ab_ge_br _ _ _ _ _ _
      | exact ab_ge_call _ _ _ _ _ _ _ _
      | exact ab_le.rf h
      | exact ⟨Nat.le_succ _, Nat.le_add_right _ _⟩)
theorem ab_bk_mono {nx nx' : ab_N} (hn : ∀ pc l st h, nx pc l st h → nx' pc l st h) (pc : Nat) (l : ab_L) (st : List Value) (hs : List (Nat × Nat × Nat)) (r : ab_R) (h : ab_H) (x : ab_bk nx pc l st hs r h) : ab_bk nx' pc l st hs r h := by
  cases r with
  | inl v => exact hn _ _ _ _ x
  | inr e =>
    have x : ab_hd nx l h (hs.lookup e) := x
    show ab_hd nx' l h (hs.lookup e)
    cases hl : hs.lookup e with
    | some pk => rw [hl] at x; exact hn _ _ _ _ x
    | none => rw [hl] at x; exact x.elim
theorem ab_x_mono {sv : Nat → Value} {C C' : ab_Y} {nx nx' : ab_N} {Q Q' : ab_Q} (hC : ∀ (y : Nat) (as : List Value) (h : ab_H) (P P' : ab_Q), (∀ r h, P r h → P' r h) → C y as h P → C' y as h P') (hn : ∀ pc l st h, nx pc l st h → nx' pc l st h) (hQ : ∀ r h, Q r h → Q' r h) {i : ab_I} {pc : Nat} {l : ab_L} {st : List Value} {h : ab_H} (x : ab_x sv C nx Q i pc l st h) : ab_x sv C' nx' Q' i pc l st h := by
  unfold ab_x at x ⊢
  split at x
  · exact hn _ _ _ _ x
  · exact hQ _ _ x
  · exact hC _ _ _ _ _ (fun r h2 q => ab_bk_mono hn _ _ _ _ r h2 q) x
  · exact x.elim
theorem ab_go_mono {sv : Nat → Value} {C C' : ab_Y} {k : Nat → Option ab_I} {Q Q' : ab_Q} (hC : ∀ (y : Nat) (as : List Value) (h : ab_H) (P P' : ab_Q), (∀ r h, P r h → P' r h) → C y as h P → C' y as h P') (hQ : ∀ r h, Q r h → Q' r h) : ∀ (n : Nat) (pc : Nat) (l : ab_L) (st : List Value) (h : ab_H), ab_go sv C k Q n pc l st h → ab_go sv C' k Q' n pc l st h
  | 0, _, _, _, _, x => x.elim
  | n + 1, pc, l, st, h, x => by
    unfold ab_go at x ⊢
    split at x
    · exact ab_x_mono hC (ab_go_mono hC hQ n) hQ x
    · exact x.elim
theorem ab_go_more {sv : Nat → Value} {C : ab_Y} (hC : ab_mon C) {k : Nat → Option ab_I} {Q : ab_Q} : ∀ (n : Nat) (pc : Nat) (l : ab_L) (st : List Value) (h : ab_H), ab_go sv C k Q n pc l st h → ab_go sv C k Q (n + 1) pc l st h
  | 0, _, _, _, _, x => x.elim
  | n + 1, pc, l, st, h, x => by
    unfold ab_go at x ⊢
    split at x
    · exact ab_x_mono hC (ab_go_more hC n) (fun _ _ q => q) x
    · exact x.elim
theorem ab_run_mon (sv : Nat → Value) (mt : Nat → (Nat → Option ab_I) × Nat) : ∀ d, ab_mon (ab_run sv mt d)
  | 0 => fun _ _ _ _ _ _ x => x.elim
  | d + 1 => fun y as h P P' hP x => by
    obtain ⟨h9, n, x⟩ := x
    exact ⟨h9, n, ab_go_mono (ab_run_mon sv mt d) hP n _ _ _ _ x⟩
theorem ab_go_det {sv : Nat → Value} {C : ab_Y} (hm : ab_mon C) (hd : ab_det C) {k : Nat → Option ab_I} {Q : ab_Q} : ∀ (n : Nat) (pc : Nat) (l : ab_L) (st : List Value) (h : ab_H), ab_go sv C k Q n pc l st h → ∃ r h', Q r h' ∧ ab_le h h' ∧ ab_go sv C k (ab_is r h') n pc l st h
  | 0, _, _, _, _, x => x.elim
  | n + 1, pc, l, st, h, x => by
    unfold ab_go at x
    split at x
    · rename_i i hi
      have hg := ab_f_ge sv i pc l st h
      unfold ab_x at x
      split at x
      · rename_i pc' l' st' h' hf
        rw [hf] at hg
        obtain ⟨r, h2, q1, q2, q3⟩ := ab_go_det hm hd n _ _ _ _ x
        refine ⟨r, h2, q1, ab_le.tr hg q2, ?_⟩
        unfold ab_go; rw [hi]; dsimp only; unfold ab_x; rw [hf]
        exact q3
      · rename_i r h' hf
        rw [hf] at hg
        refine ⟨r, h', x, hg, ?_⟩
        unfold ab_go; rw [hi]; dsimp only; unfold ab_x; rw [hf]
        exact ⟨rfl, rfl⟩
      · rename_i y as pc' l' st' hs hf
        obtain ⟨r, h1, q1, q2, q3⟩ := hd _ _ _ _ x
        cases r with
        | inl v =>
          obtain ⟨r2, h2, p1, p2, p3⟩ := ab_go_det hm hd n _ _ _ _ q1
          refine ⟨r2, h2, p1, ab_le.tr q2 p2, ?_⟩
          unfold ab_go; rw [hi]; dsimp only; unfold ab_x; rw [hf]
          refine hm _ _ _ _ _ (fun r3 h3 q => ?_) q3
          obtain ⟨rfl, rfl⟩ := q
          exact p3
        | inr e =>
          have q1 : ab_hd (ab_go sv C k Q n) l' h1 (hs.lookup e) := q1
          cases hl : hs.lookup e with
          | some pk =>
            rw [hl] at q1
            obtain ⟨r2, h2, p1, p2, p3⟩ := ab_go_det hm hd n _ _ _ _ q1
            refine ⟨r2, h2, p1, ab_le.tr q2 p2, ?_⟩
            unfold ab_go; rw [hi]; dsimp only; unfold ab_x; rw [hf]
            refine hm _ _ _ _ _ (fun r3 h3 q => ?_) q3
            obtain ⟨rfl, rfl⟩ := q
            show ab_hd _ _ _ (hs.lookup e)
            rw [hl]
            exact p3
          | none => rw [hl] at q1; exact q1.elim
      · exact x.elim
    · exact x.elim
theorem ab_run_det (sv : Nat → Value) (mt : Nat → (Nat → Option ab_I) × Nat) : ∀ d, ab_det (ab_run sv mt d)
  | 0 => fun _ _ _ _ x => x.elim
  | d + 1 => fun y as h P x => by
    obtain ⟨h9, n, x⟩ := x
    obtain ⟨r, h', q1, q2, q3⟩ := ab_go_det (ab_run_mon sv mt d) (ab_run_det sv mt d) n _ _ _ _ x
    exact ⟨r, h', q1, q2, h9, n, q3⟩
theorem ab_go_up {sv : Nat → Value} {C : ab_Y} (hC : ab_mon C) {k : Nat → Option ab_I} {Q : ab_Q} {n m : Nat} (hnm : n ≤ m) {pc : Nat} {l : ab_L} {st : List Value} {h : ab_H} (x : ab_go sv C k Q n pc l st h) : ab_go sv C k Q m pc l st h := by
  induction hnm with
  | refl => exact x
  | step _ ih => exact ab_go_more hC _ _ _ _ _ ih
/-- one step of WP, both ways -/
theorem ab_WP_eq {sv : Nat → Value} {C : ab_Y} (hm : ab_mon C) (hd : ab_det C) {k : Nat → Option ab_I} {Q : ab_Q} {pc : Nat} {i : ab_I} (hi : k pc = some i) (l : ab_L) (st : List Value) (h : ab_H) : ab_WP sv C k Q pc l st h = ab_x sv C (ab_WP sv C k Q) Q i pc l st h := by
  refine propext ⟨fun x => ?_, fun x => ?_⟩
  · obtain ⟨n, x⟩ := x
    cases n with
    | zero => exact x.elim
    | succ n =>
      unfold ab_go at x
      rw [hi] at x
      exact ab_x_mono hm (fun pc l st h q => ⟨n, q⟩) (fun _ _ q => q) x
  · unfold ab_x at x
    split at x
    · rename_i pc' l' st' h' hf
      obtain ⟨n, q⟩ := x
      refine ⟨n + 1, ?_⟩
      unfold ab_go; rw [hi]; dsimp only; unfold ab_x; rw [hf]
      exact q
    · rename_i r h' hf
      refine ⟨1, ?_⟩
      unfold ab_go; rw [hi]; dsimp only; unfold ab_x; rw [hf]
      exact x
    · rename_i y as pc' l' st' hs hf
      obtain ⟨r, h1, q1, q2, q3⟩ := hd _ _ _ _ x
      cases r with
      | inl v =>
        obtain ⟨n, q1⟩ := q1
        refine ⟨n + 1, ?_⟩
        unfold ab_go; rw [hi]; dsimp only; unfold ab_x; rw [hf]
        refine hm _ _ _ _ _ (fun r3 h3 q => ?_) q3
        obtain ⟨rfl, rfl⟩ := q
        exact q1
      | inr e =>
        have q1 : ab_hd (ab_WP sv C k Q) l' h1 (hs.lookup e) := q1
        cases hl : hs.lookup e with
        | some pk =>
          rw [hl] at q1
          obtain ⟨n, q1⟩ := q1
          refine ⟨n + 1, ?_⟩
          unfold ab_go; rw [hi]; dsimp only; unfold ab_x; rw [hf]
          refine hm _ _ _ _ _ (fun r3 h3 q => ?_) q3
          obtain ⟨rfl, rfl⟩ := q
          show ab_hd _ _ _ (hs.lookup e)
          rw [hl]
          exact q1
        | none => rw [hl] at q1; exact q1.elim
    · exact x.elim
