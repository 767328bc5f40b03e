/-! LOCALS THAT ARE MORE THAN WANTED do no harm. -/
def ab_lle (l l' : ab_L) : Prop := l.length = l'.length ∧ ∀ (i : Nat) (v : Value), l[i]? = some (some v) → l'[i]? = some (some v)
theorem ab_lle.rf (l : ab_L) : ab_lle l l := ⟨rfl, fun _ _ h => h⟩
theorem ab_sto_ln : ∀ (l : ab_L) (i : Nat) (v : Value), (ab_sto l i v).length = l.length
  | [], _, _ => rfl
  | _ :: l, 0, v => by
    show (if v.category = 2 then l.set 0 none else l).length + 1 = l.length + 1
    split <;> simp
  | x :: l, 1, v => congrArg (· + 1) (ab_sto_ln l 0 v)
  | x :: l, i + 2, v => congrArg (· + 1) (ab_sto_ln l (i + 1) v)
theorem ab_sto_lle (v : Value) : ∀ (l l' : ab_L) (i : Nat), ab_lle l l' → ab_lle (ab_sto l i v) (ab_sto l' i v)
  | [], [], _, _ => ab_lle.rf _
  | [], _ :: _, _, h => absurd h.1 (by simp)
  | _ :: _, [], _, h => absurd h.1 (by simp)
  | x :: l, y :: l', 0, h => by
    have hl : l.length = l'.length := Nat.succ.inj h.1
    have ht : ∀ (i : Nat) (v : Value), l[i]? = some (some v) → l'[i]? = some (some v) := fun i v q => by
      have := h.2 (i + 1) v (by rw [List.getElem?_cons_succ]; exact q)
      rw [List.getElem?_cons_succ] at this
      exact this
    refine ⟨by rw [ab_sto_ln, ab_sto_ln]; exact h.1, fun i w q => ?_⟩
    cases i with
    | zero => exact q
    | succ i =>
      have q : (if v.category = 2 then l.set 0 none else l)[i]? = some (some w) := q
      show (if v.category = 2 then l'.set 0 none else l')[i]? = some (some w)
      by_cases e : v.category = 2
      · rw [if_pos e] at q ⊢
        by_cases e0 : i = 0
        · subst e0
          rw [List.getElem?_set] at q
          simp at q
        · rw [List.getElem?_set_ne (fun z => e0 z.symm)] at q ⊢
          exact ht i w q
      · rw [if_neg e] at q ⊢
        exact ht i w q
  | x :: l, y :: l', 1, h => by
    have ht : ab_lle l l' := ⟨Nat.succ.inj h.1, fun i v q => by
      have := h.2 (i + 1) v (by rw [List.getElem?_cons_succ]; exact q)
      rw [List.getElem?_cons_succ] at this
      exact this⟩
    have hs := ab_sto_lle v l l' 0 ht
    refine ⟨congrArg (· + 1) hs.1, fun i w q => ?_⟩
    cases i with
    | zero =>
      have q : some (ab_cl2 x) = some (some w) := q
      show some (ab_cl2 y) = some (some w)
      cases x with
      | none => cases q
      | some u =>
        have := h.2 0 u rfl
        have e : y = some u := Option.some.inj this
        rw [e]
        exact q
    | succ i => exact hs.2 i w q
  | x :: l, y :: l', i + 2, h => by
    have ht : ab_lle l l' := ⟨Nat.succ.inj h.1, fun i v q => by
      have := h.2 (i + 1) v (by rw [List.getElem?_cons_succ]; exact q)
      rw [List.getElem?_cons_succ] at this
      exact this⟩
    have hs := ab_sto_lle v l l' (i + 1) ht
    refine ⟨congrArg (· + 1) hs.1, fun j w q => ?_⟩
    cases j with
    | zero => exact h.2 0 w q
    | succ j => exact hs.2 j w q
theorem ab_set_lle {l l' : ab_L} (h : ab_lle l l') (k : Nat) : ab_lle (l.set k none) (l'.set k none) := by
  refine ⟨by rw [List.length_set, List.length_set]; exact h.1, fun i v q => ?_⟩
  by_cases e : k = i
  · subst e
    rw [List.getElem?_set] at q
    simp at q
  · rw [List.getElem?_set_ne e] at q ⊢
    exact h.2 i v q
/-- what a step gives with more locals: the same -/
def ab_mo (l' : ab_L) : Option ab_O → Option ab_O → Prop
  | some (.inl (pc, l, st, h)), r => ∃ l2, r = some (.inl (pc, l2, st, h)) ∧ ab_lle l l2
  | some (.inr (.inl q)), r => r = some (.inr (.inl q))
  | some (.inr (.inr (y, as, pc, l, st, hs))), r => ∃ l2, r = some (.inr (.inr (y, as, pc, l2, st, hs))) ∧ ab_lle l l2
  | none, _ => True
section ABM
variable {l l' : ab_L} {st : List Value} {h : ab_H} {pc : Nat}
theorem ab_mo_none (r : Option ab_O) : ab_mo l' none r := trivial
theorem ab_mo_nx (H : ab_lle l l') : ab_mo l' (ab_nx pc l st h) (ab_nx pc l' st h) := ⟨l', rfl, H⟩
theorem ab_mo_ld (H : ab_lle l l') (k i : Nat) : ab_mo l' (ab_ld k pc l st h i) (ab_ld k pc l' st h i) := by
  unfold ab_ld
  split
  · rename_i v hv
    rw [H.2 i v hv]
    show ab_mo l' (if ab_fit k v = true then _ else none) (if ab_fit k v = true then _ else none)
    split
    · exact ab_mo_nx H
    · trivial
  · trivial
theorem ab_mo_sv (H : ab_lle l l') (k i : Nat) : ab_mo l' (ab_sv k pc l st h i) (ab_sv k pc l' st h i) := by
  unfold ab_sv
  split
  · rename_i v st
    rw [H.1]
    split
    · exact ⟨_, rfl, ab_sto_lle v l l' i H⟩
    · trivial
  · trivial
theorem ab_mo_i1 (H : ab_lle l l') (f : Int32 → Value) : ab_mo l' (ab_i1 f pc l st h) (ab_i1 f pc l' st h) := by
  unfold ab_i1
  split
  · exact ab_mo_nx H
  · trivial
theorem ab_mo_i2 (H : ab_lle l l') (f : Int32 → Int32 → Int32) : ab_mo l' (ab_i2 f pc l st h) (ab_i2 f pc l' st h) := by
  unfold ab_i2
  split
  · exact ab_mo_nx H
  · trivial
theorem ab_mo_l2 (H : ab_lle l l') (f : Int64 → Int64 → Value) : ab_mo l' (ab_l2 f pc l st h) (ab_l2 f pc l' st h) := by
  unfold ab_l2
  split
  · exact ab_mo_nx H
  · trivial
theorem ab_mo_al (H : ab_lle l l') (k : Nat) : ab_mo l' (ab_al k pc l st h) (ab_al k pc l' st h) := by
  unfold ab_al
  repeat' split
  all_goals first | exact ab_mo_nx H | trivial
theorem ab_mo_as (H : ab_lle l l') (k : Nat) : ab_mo l' (ab_as k pc l st h) (ab_as k pc l' st h) := by
  unfold ab_as
  repeat' split
  all_goals first | exact ab_mo_nx H | trivial
theorem ab_mo_br (H : ab_lle l l') (b : Bool) (o : Int) : ab_mo l' (ab_br b pc o l st h) (ab_br b pc o l' st h) := by
  unfold ab_br
  repeat' split
  all_goals first | exact ab_mo_nx H | trivial
theorem ab_mo_call (H : ab_lle l l') (y na : Nat) (hd : List Nat) : ab_mo l' (ab_call y na pc hd l st h) (ab_call y na pc hd l' st h) := by
  unfold ab_call
  split
  · exact ⟨_, rfl, H⟩
  · trivial
set_option maxHeartbeats 4000000 in
theorem ab_f_more (H : ab_lle l l') (sv : Nat → Value) (i : ab_I) : ab_mo l' (ab_f sv i pc l st h) (ab_f sv i pc l' st h) := by
  obtain ⟨I, len, aux⟩ := i
  cases I
  case iinc k n =>
    show ab_mo l' (match l[k]? with
      | some (some (.int x)) => ab_nx (pc + 3) (ab_sto l k (.int (x + Int32.ofInt n))) st h
      | _ => none) (match l'[k]? with
      | some (some (.int x)) => ab_nx (pc + 3) (ab_sto l' k (.int (x + Int32.ofInt n))) st h
      | _ => none)
    split
    · rename_i x hx
      rw [H.2 k _ hx]
      exact ⟨_, rfl, ab_sto_lle _ l l' k H⟩
    · trivial
  all_goals first
    | exact ab_mo_none _
    | exact ab_mo_nx H
    | exact ab_mo_ld H _ _
    | exact ab_mo_sv H _ _
    | exact ab_mo_i1 H _
    | exact ab_mo_i2 H _
    | exact ab_mo_l2 H _
    | exact ab_mo_al H _
    | exact ab_mo_as H _
    | (simp only [ab_f]; (repeat' split) <;> first
      | exact ab_mo_none _
      | exact ab_mo_nx H
      | exact ab_mo_br H _ _
      | exact ab_mo_call H _ _ _
      | exact rfl)
end ABM
theorem ab_go_lle {sv : Nat → Value} {C : ab_Y} (hC : ab_mon C) {k : Nat → Option ab_I} {Q : ab_Q} : ∀ (n pc : Nat) (l l' : ab_L) (st : List Value) (h : ab_H), ab_lle l l' → ab_go sv C k Q n pc l st h → ab_go sv C k Q n pc l' st h
  | 0, _, _, _, _, _, _, x => x.elim
  | n + 1, pc, l, l', st, h, H, x => by
    unfold ab_go at x ⊢
    split
    · rename_i i hi
      rw [hi] at x
      have x : ab_x sv C (ab_go sv C k Q n) Q i pc l st h := x
      unfold ab_x at x ⊢
      have hm := ab_f_more (st := st) (h := h) (pc := pc) H sv i
      split at x
      · rename_i pc' l1 st' h' e
        rw [e] at hm
        obtain ⟨l2, e2, H2⟩ := hm
        rw [e2]
        exact ab_go_lle hC n _ _ _ _ _ H2 x
      · rename_i r h' e
        rw [e] at hm
        rw [show ab_f sv i pc l' st h = _ from hm]
        exact x
      · rename_i y as pc' l1 st' hs e
        rw [e] at hm
        obtain ⟨l2, e2, H2⟩ := hm
        rw [e2]
        refine hC _ _ _ _ _ (fun r h' q => ?_) x
        cases r with
        | inl v => exact ab_go_lle hC n _ _ _ _ _ H2 q
        | inr e9 =>
          show ab_hd _ l2 h' (hs.lookup e9)
          have q : ab_hd _ l1 h' (hs.lookup e9) := q
          cases hq : hs.lookup e9 with
          | none => rw [hq] at q; exact q
          | some pk =>
            rw [hq] at q
            exact ab_go_lle hC n _ _ _ _ _ (ab_set_lle (ab_sto_lle _ _ _ _ H2) _) q
      · exact x.elim
    · rename_i hi
      rw [hi] at x
      exact x
theorem ab_WP_lle {sv : Nat → Value} {C : ab_Y} (hC : ab_mon C) {k : Nat → Option ab_I} {Q : ab_Q} {pc : Nat} {l l' : ab_L} {st : List Value} {h : ab_H} (H : ab_lle l l') (x : ab_WP sv C k Q pc l st h) : ab_WP sv C k Q pc l' st h := by
  obtain ⟨n, x⟩ := x
  exact ⟨n, ab_go_lle hC n _ _ _ _ _ H x⟩
