/-! THE HEAP BY NAMES: cells under names (kind, number, number), the names' addresses; what a write and a new cell do to it. -/
abbrev hT : Type := Nat × Nat × Nat
def hp (ad : hT → Nat) (g : hT → Option ab_C) (h : ab_H) : Prop := (∀ t c, g t = some c → h.1 (ad t) = some c ∧ ad t < h.2.1) ∧ ∀ t c t' c', g t = some c → g t' = some c' → ad t = ad t' → t = t'
def gu (g : hT → Option ab_C) (t : hT) (c : ab_C) : hT → Option ab_C := fun s => if s = t then some c else g s
def au (ad : hT → Nat) (t : hT) (a : Nat) : hT → Nat := fun s => if s = t then a else ad s
theorem hp.get {ad : hT → Nat} {g : hT → Option ab_C} {h : ab_H} {t : hT} {c : ab_C} (H : hp ad g h) (ht : g t = some c) : h.1 (ad t) = some c := (H.1 t c ht).1
theorem hp.set {ad : hT → Nat} {g : hT → Option ab_C} {h : ab_H} {t : hT} {c0 : ab_C} (H : hp ad g h) (ht : g t = some c0) (c : ab_C) : hp ad (gu g t c) (ab_set h (ad t) c) := by
  refine ⟨fun s c' hs => ?_, fun s c1 s' c1' h1 h2 h3 => ?_⟩
  · unfold gu at hs
    split at hs
    · rename_i e
      subst e
      cases hs
      exact ⟨if_pos rfl, (H.1 _ _ ht).2⟩
    · rename_i e
      refine ⟨?_, (H.1 _ _ hs).2⟩
      show (if ad s = ad t then some c else h.1 (ad s)) = some c'
      rw [if_neg fun q => e (H.2 _ _ _ _ hs ht q)]
      exact (H.1 _ _ hs).1
  · have live : ∀ s c1, gu g t c s = some c1 → ∃ c2, g s = some c2 := fun s c1 hs => by
      unfold gu at hs
      split at hs
      · rename_i e; exact ⟨c0, by rw [e]; exact ht⟩
      · exact ⟨c1, hs⟩
    obtain ⟨_, q1⟩ := live _ _ h1
    obtain ⟨_, q2⟩ := live _ _ h2
    exact H.2 _ _ _ _ q1 q2 h3
theorem hp.new {ad : hT → Nat} {g : hT → Option ab_C} {h : ab_H} {t : hT} (H : hp ad g h) (ht : g t = none) (c : ab_C) (n : Nat) : hp (au ad t h.2.1) (gu g t c) (ab_new h c n) := by
  refine ⟨fun s c' hs => ?_, fun s c1 s' c1' h1 h2 h3 => ?_⟩
  · unfold gu at hs
    unfold au
    split at hs
    · rename_i e
      cases hs
      rw [if_pos e]
      exact ⟨if_pos rfl, Nat.lt_succ_self _⟩
    · rename_i e
      rw [if_neg e]
      obtain ⟨q1, q2⟩ := H.1 _ _ hs
      refine ⟨?_, Nat.lt_succ_of_lt q2⟩
      show (if ad s = h.2.1 then some c else h.1 (ad s)) = some c'
      rw [if_neg (Nat.ne_of_lt q2)]
      exact q1
  · unfold gu at h1 h2
    unfold au at h3
    split at h1 <;> split at h2
    · rename_i e1 e2; rw [e1, e2]
    · rename_i e1 e2
      rw [if_pos e1, if_neg e2] at h3
      exact absurd h3.symm (Nat.ne_of_lt (H.1 _ _ h2).2)
    · rename_i e1 e2
      rw [if_neg e1, if_pos e2] at h3
      exact absurd h3 (Nat.ne_of_lt (H.1 _ _ h1).2)
    · rename_i e1 e2
      rw [if_neg e1, if_neg e2] at h3
      exact H.2 _ _ _ _ h1 h2 h3
/-- cells nobody writes to any more may be forgotten -/
theorem hp.less {ad : hT → Nat} {g g' : hT → Option ab_C} {h : ab_H} (H : hp ad g h) (hg : ∀ t c, g' t = some c → g t = some c) : hp ad g' h :=
  ⟨fun t c ht => H.1 t c (hg t c ht), fun t c t' c' h1 h2 h3 => H.2 t c t' c' (hg _ _ h1) (hg _ _ h2) h3⟩
/-- the addresses of names without a cell don't matter -/
theorem hp.addr {ad ad' : hT → Nat} {g : hT → Option ab_C} {h : ab_H} (H : hp ad g h) (ha : ∀ t c, g t = some c → ad' t = ad t) : hp ad' g h :=
  ⟨fun t c ht => by rw [ha t c ht]; exact H.1 t c ht, fun t c t' c' h1 h2 h3 => H.2 t c t' c' h1 h2 (by rw [← ha t c h1, ← ha t' c' h2]; exact h3)⟩
/-- a fresh cell that nobody names -/
theorem hp.junk {ad : hT → Nat} {g : hT → Option ab_C} {h h' : ab_H} (H : hp ad g h) (h1 : ∀ b, b < h.2.1 → h'.1 b = h.1 b) (h2 : h.2.1 ≤ h'.2.1) : hp ad g h' :=
  ⟨fun t c ht => by
    obtain ⟨q1, q2⟩ := H.1 t c ht
    exact ⟨(h1 _ q2).trans q1, Nat.lt_of_lt_of_le q2 h2⟩, H.2⟩
