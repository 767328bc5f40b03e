/-! THE EXECUTOR IS SOUND: one step. -/
theorem sx_un_ok (x : Int32) : Int32.ofNat (sx_un x) = x := by
  rcases x with ⟨⟨b⟩⟩
  show (⟨⟨BitVec.ofNat 32 b.toNat⟩⟩ : Int32) = _
  rw [BitVec.ofNat_toNat, BitVec.setWidth_eq]
theorem sx_un64 (x : Int64) : Int64.ofNat x.toUInt64.toNat = x := by
  rcases x with ⟨⟨b⟩⟩
  show (⟨⟨BitVec.ofNat 64 b.toNat⟩⟩ : Int64) = _
  rw [BitVec.ofNat_toNat, BitVec.setWidth_eq]
abbrev sx_eS (E : sx_E) (st : List sx_V) : List Value := st.map (sx_ev E)
abbrev sx_eL (E : sx_E) (l : sx_L) : ab_L := l.map (Option.map (sx_ev E))
def sx_eR (E : sx_E) : sx_R → ab_R
  | .inl v => .inl (v.map (sx_ev E))
  | .inr e => .inr e
def sx_eC (E : sx_E) (c : sx_C) : Option ab_C := match c.1 with
  | 0 => some (.inl (c.2.1, sx_eS E c.2.2))
  | 1 => some (.inr (c.2.1, sx_eS E c.2.2))
  | 3 => some (.inl (1000, (List.range (E.2.1 0).toNatClampNeg).map fun i => .int (E.1 (1000 + i))))
  | 4 => some (.inl (0, (sx_eS E c.2.2).take (E.1 c.2.1).toNatClampNeg))
  | _ => none
def sx_ok (E : sx_E) (F : sx_F) : Prop := ∀ q ∈ F, sx_sem q.1 (sx_ev E q.2.1) (sx_ev E q.2.2.1) = some (sx_ev E q.2.2.2)
/-- the names' addresses: those of the first m cells are given, the others' follow h0's next -/
def sx_A (E : sx_E) (h0 : ab_H) (m : Nat) : Prop := (∀ k, k < m → E.2.2 k < h0.2.1) ∧ (∀ j k, j < m → k < m → E.2.2 j = E.2.2 k → j = k) ∧ ∀ k, m ≤ k → E.2.2 k = h0.2.1 + (k - m)
/-- a name of which nothing is told: what stands there isn't touched -/
def sx_ho (G : sx_G) (k : Nat) : Prop := ∃ c, sx_get G k = some c ∧ c.1 = 2
def sx_Rl (E : sx_E) (h0 : ab_H) (m : Nat) (G : sx_G) (sl : Nat) (h : ab_H) : Prop :=
  (m ≤ G.1 ∧ h.2.1 = h0.2.1 + (G.1 - m) ∧ h.2.2 = h0.2.2 + sl ∧ ∀ k c, sx_get G k = some c → k < G.1) ∧ (∀ (k : Nat) (c : sx_C) (q : ab_C), sx_get G k = some c → sx_eC E c = some q → h.1 (E.2.2 k) = some q) ∧ ∀ b, b < h0.2.1 → (∀ k, k < m → E.2.2 k = b → sx_ho G k) → h.1 b = h0.1 b
theorem sx_nth_get {A : Type} : ∀ (l : List A) (n : Nat), sx_nth l n = l[n]?
  | [], _ => rfl
  | _ :: _, 0 => rfl
  | _ :: r, n + 1 => by rw [List.getElem?_cons_succ]; exact sx_nth_get r n
theorem sx_set_eq {A : Type} : ∀ (l : List A) (n : Nat) (a : A), sx_set l n a = l.set n a
  | [], _, _ => rfl
  | _ :: _, 0, _ => rfl
  | x :: r, n + 1, a => by
    show x :: sx_set r n a = x :: r.set n a
    rw [sx_set_eq r n a]
theorem sx_len_eq {A : Type} : ∀ l : List A, sx_ln l = l.length
  | [] => rfl
  | _ :: r => congrArg (· + 1) (sx_len_eq r)
theorem sx_snoc_eq {A : Type} : ∀ (l : List A) (a : A), sx_snoc l a = l ++ [a]
  | [], _ => rfl
  | x :: r, a => congrArg (x :: ·) (sx_snoc_eq r a)
theorem sx_put_get {G : sx_G} {a k : Nat} {c c1 : sx_C} (h : sx_get (sx_put G a c) k = some c1) : (k = a ∧ c1 = c) ∨ (k ≠ a ∧ sx_get G k = some c1) := by
  unfold sx_put at h
  split at h
  · rename_i p hp
    unfold sx_get at h
    simp only [sx_nth_get, sx_set_eq] at h hp
    by_cases e : k / 16 = a / 16
    · rw [e, List.getElem?_set_self (List.getElem?_eq_some_iff.mp hp).1] at h
      have h : (p.set (a % 16) c)[k % 16]? = some c1 := h
      by_cases e2 : k % 16 = a % 16
      · left
        refine ⟨by omega, ?_⟩
        rw [e2] at h
        have h3 := (List.getElem?_eq_some_iff.mp h).1
        rw [List.length_set] at h3
        rw [List.getElem?_set_self h3] at h
        cases h
        rfl
      · right
        refine ⟨fun z => e2 (by rw [z]), ?_⟩
        rw [List.getElem?_set_ne (fun z => e2 z.symm)] at h
        unfold sx_get
        simp only [sx_nth_get]
        rw [e, hp]
        exact h
    · right
      refine ⟨fun z => e (by rw [z]), ?_⟩
      rw [List.getElem?_set_ne (fun z => e z.symm)] at h
      unfold sx_get
      simp only [sx_nth_get]
      exact h
  · rename_i hp
    right
    refine ⟨fun z => ?_, h⟩
    subst z
    unfold sx_get at h
    rw [hp] at h
    cases h
theorem sx_psh_get {G G' : sx_G} {c : sx_C} (hp : sx_psh G c = some G') : G'.1 = G.1 + 1 ∧ ∀ k c1, sx_get G' k = some c1 → (k = G.1 ∧ c1 = c) ∨ (k ≠ G.1 ∧ sx_get G k = some c1) := by
  unfold sx_psh at hp
  split at hp
  · rename_i p hq
    split at hp
    · rename_i hl
      cases hp
      refine ⟨rfl, fun k c1 h => ?_⟩
      have hl := Nat.eq_of_beq_eq_true hl
      unfold sx_get at h
      simp only [sx_nth_get, sx_set_eq, sx_snoc_eq, sx_len_eq] at h hq hl
      by_cases e : k / 16 = G.1 / 16
      · rw [e, List.getElem?_set_self (List.getElem?_eq_some_iff.mp hq).1] at h
        have h : (p ++ [c])[k % 16]? = some c1 := h
        by_cases e2 : k % 16 = G.1 % 16
        · left
          refine ⟨by omega, ?_⟩
          rw [e2, ← hl, List.getElem?_append_right (Nat.le_refl _), Nat.sub_self] at h
          cases h
          rfl
        · right
          refine ⟨fun z => e2 (by rw [z]), ?_⟩
          have h3 := (List.getElem?_eq_some_iff.mp h).1
          rw [List.length_append, List.length_singleton] at h3
          rw [List.getElem?_append_left (by omega)] at h
          unfold sx_get
          simp only [sx_nth_get]
          rw [e, hq]
          exact h
      · right
        refine ⟨fun z => e (by rw [z]), ?_⟩
        rw [List.getElem?_set_ne (fun z => e z.symm)] at h
        unfold sx_get
        simp only [sx_nth_get]
        exact h
    · cases hp
  · rename_i hq
    split at hp
    · rename_i hl
      cases hp
      rw [Bool.and_eq_true] at hl
      refine ⟨rfl, fun k c1 h => ?_⟩
      have hl1 := Nat.eq_of_beq_eq_true hl.1
      have hl2 := Nat.eq_of_beq_eq_true hl.2
      unfold sx_get at h
      simp only [sx_nth_get, sx_snoc_eq, sx_len_eq] at h hl1
      by_cases e : k / 16 = G.1 / 16
      · rw [e, ← hl1, List.getElem?_append_right (Nat.le_refl _), Nat.sub_self] at h
        have h : [c][k % 16]? = some c1 := h
        have h3 := (List.getElem?_eq_some_iff.mp h).1
        rw [List.length_singleton] at h3
        left
        refine ⟨by omega, ?_⟩
        rw [show k % 16 = 0 by omega] at h
        cases h
        rfl
      · right
        refine ⟨fun z => e (by rw [z]), ?_⟩
        unfold sx_get
        simp only [sx_nth_get]
        split at h
        · rename_i q hq2
          have h3 := (List.getElem?_eq_some_iff.mp hq2).1
          rw [List.length_append, List.length_singleton] at h3
          rw [List.getElem?_append_left (by omega)] at hq2
          rw [hq2]
          exact h
        · cases h
    · cases hp
theorem sx_pshs_get {c0 : sx_C} : ∀ {cs : List sx_C} {G G' : sx_G}, sx_pshs G cs = some G' → (∀ k c, sx_get G k = some c → k < G.1) → G'.1 = G.1 + cs.length ∧ (∀ k c, sx_get G' k = some c → k < G'.1) ∧ ∀ k c1, sx_get G' k = some c1 → (k < G.1 ∧ sx_get G k = some c1) ∨ (G.1 ≤ k ∧ cs[k - G.1]? = some c1)
  | [], G, G', h, hG => by
    cases h
    exact ⟨rfl, hG, fun k c1 hk => Or.inl ⟨hG k c1 hk, hk⟩⟩
  | c :: r, G, G', h, hG => by
    have h : (match sx_psh G c with
      | some G' => sx_pshs G' r
      | none => none) = some G' := h
    split at h
    · rename_i G2 h2
      obtain ⟨a1, a2⟩ := sx_psh_get h2
      obtain ⟨b1, b2, b3⟩ := sx_pshs_get (c0 := c0) h (fun k c1 hk => by
        rcases a2 k c1 hk with ⟨q, -⟩ | ⟨-, q⟩
        · omega
        · have := hG k c1 q
          omega)
      refine ⟨by rw [b1, a1, List.length_cons]; omega, b2, fun k c1 hk => ?_⟩
      rcases b3 k c1 hk with ⟨q1, q2⟩ | ⟨q1, q2⟩
      · rcases a2 k c1 q2 with ⟨z1, z2⟩ | ⟨z1, z2⟩
        · right
          refine ⟨by omega, ?_⟩
          rw [z1, Nat.sub_self, z2]
          rfl
        · left
          exact ⟨by omega, z2⟩
      · right
        refine ⟨by omega, ?_⟩
        rw [show k - G.1 = (k - G2.1) + 1 by omega, List.getElem?_cons_succ]
        exact q2
    · cases h
theorem sx_A.inj {E : sx_E} {h0 : ab_H} {m : Nat} (A : sx_A E h0 m) {j k : Nat} (h : E.2.2 j = E.2.2 k) : j = k := by
  by_cases hj : j < m
  · by_cases hk : k < m
    · exact A.2.1 j k hj hk h
    · have h1 := A.1 j hj
      have h2 := A.2.2 k (Nat.le_of_not_lt hk)
      omega
  · by_cases hk : k < m
    · have h1 := A.1 k hk
      have h2 := A.2.2 j (Nat.le_of_not_lt hj)
      omega
    · have h1 := A.2.2 j (Nat.le_of_not_lt hj)
      have h2 := A.2.2 k (Nat.le_of_not_lt hk)
      omega
theorem sx_q_ok {E : sx_E} {v : Value} {z : sx_V} (h : sx_q v = some z) : sx_ev E z = v := by
  cases v with
  | int x =>
    obtain rfl := Option.some.inj h
    exact congrArg Value.int (sx_un_ok x)
  | long x =>
    obtain rfl := Option.some.inj h
    exact congrArg Value.long (sx_un64 x)
  | double x =>
    obtain rfl := Option.some.inj h
    exact congrArg Value.double UInt64.ofNat_toNat
  | float x =>
    obtain rfl := Option.some.inj h
    exact congrArg Value.float UInt32.ofNat_toNat
  | _ => exact absurd h (by simp [sx_q])
theorem sx_cl_ok {E : sx_E} {v : sx_V} (h : sx_cl v = true) : sx_ev E v = sx_ev sx_E0 v := by
  obtain ⟨t, n⟩ := v
  match t, h with
  | 0, _ => rfl
  | 1, h => exact Bool.noConfusion (show false = true from h)
  | 2, h => exact Bool.noConfusion (show false = true from h)
  | 3, h => exact Bool.noConfusion (show false = true from h)
  | 4, _ => rfl
  | 5, h => exact Bool.noConfusion (show false = true from h)
  | 6, _ => rfl
  | n + 7, _ => rfl
theorem sx_veq_ok {x y : sx_V} (h : sx_veq x y = true) : x = y := by
  obtain ⟨a, b⟩ := x
  obtain ⟨c, d⟩ := y
  unfold sx_veq at h
  rw [Bool.and_eq_true] at h
  rw [show a = c from Nat.eq_of_beq_eq_true h.1, show b = d from Nat.eq_of_beq_eq_true h.2]
theorem sx_find_ok {E : sx_E} {op : Nat} {x y z : sx_V} : ∀ {F : sx_F}, sx_find op x y F = some z → sx_ok E F → sx_sem op (sx_ev E x) (sx_ev E y) = some (sx_ev E z)
  | [], h, _ => by cases h
  | q :: r, h, H => by
    unfold sx_find at h
    split at h
    · rename_i hb
      rw [Bool.and_eq_true, Bool.and_eq_true] at hb
      obtain rfl := Option.some.inj h
      have h1 := H q List.mem_cons_self
      rw [Nat.eq_of_beq_eq_true hb.1, sx_veq_ok hb.2.1, sx_veq_ok hb.2.2] at h1
      exact h1
    · exact sx_find_ok h fun q hq => H q (List.mem_cons_of_mem _ hq)
theorem sx_bz_ok {E : sx_E} {b : Bool} {z : sx_V} (h : sx_bz b = some z) : sx_ev E z = .int (if b = true then 1 else 0) := by
  cases b <;> cases h <;> rfl
theorem sx_qk_ok {E : sx_E} {op : Nat} {x y z : sx_V} (h : sx_qk op x y = some z) : sx_sem op (sx_ev E x) (sx_ev E y) = some (sx_ev E z) := by
  obtain ⟨t, a⟩ := x
  obtain ⟨u, b⟩ := y
  unfold sx_qk at h
  split at h
  · rename_i hb
    rw [Bool.and_eq_true, Bool.and_eq_true, Bool.and_eq_true] at hb
    obtain ⟨b1, b2, b3, b4⟩ := hb
    have b1 : t = 0 := Nat.eq_of_beq_eq_true b1
    have b2 : u = 0 := Nat.eq_of_beq_eq_true b2
    have b3 : a ≤ 2147483647 := Nat.le_of_ble_eq_true b3
    have b4 : b ≤ 2147483647 := Nat.le_of_ble_eq_true b4
    subst b1
    subst b2
    have ha : a < 2147483648 := by omega
    have hb : b < 2147483648 := by omega
    have cmp : ∀ (c : ClassFile.Cond) (q : Bool), (ab_cc c (iN a) (iN b) = q) → sx_bz q = some z → some (Value.int (if ab_cc c (iN a) (iN b) = true then 1 else 0)) = some (sx_ev E z) := by
      intro c q h1 h2
      rw [h1, sx_bz_ok h2]
    have bb : ∀ {P : Prop} [Decidable P] {q : Bool}, (P ↔ q = true) → decide P = q := by
      intro P _ q hq
      cases q with
      | true => exact decide_eq_true (hq.mpr rfl)
      | false => exact decide_eq_false fun hp => Bool.noConfusion (hq.mp hp)
    match op, h with
    | 0, h =>
      have h : some ((0 : Nat), a + b) = some z := h
      cases h
      show some (Value.int (iN a + iN b)) = some (Value.int (iN (a + b)))
      rw [iN_add]
    | 1, h =>
      have h : (match Nat.ble b a with
        | true => some ((0 : Nat), a - b)
        | false => none) = some z := h
      split at h
      · rename_i hba
        cases h
        show some (Value.int (iN a - iN b)) = some (Value.int (iN (a - b)))
        rw [iN_sub (Nat.le_of_ble_eq_true hba)]
      · cases h
    | 30, h => exact cmp .eq _ (bb (by rw [iN_inj ha hb]; exact ⟨fun e => by subst e; exact Nat.beq_refl _, Nat.eq_of_beq_eq_true⟩)) h
    | 31, h => exact cmp .ne _ (congrArg not (bb (by rw [iN_inj ha hb]; exact ⟨fun e => by subst e; exact Nat.beq_refl _, Nat.eq_of_beq_eq_true⟩))) h
    | 32, h => exact cmp .lt _ (bb (by rw [iN_lt ha hb]; exact ⟨fun e => Nat.ble_eq_true_of_le e, Nat.le_of_ble_eq_true⟩)) h
    | 33, h => exact cmp .ge _ (bb (by rw [iN_le hb ha]; exact ⟨fun e => Nat.ble_eq_true_of_le e, Nat.le_of_ble_eq_true⟩)) h
    | 34, h => exact cmp .gt _ (bb (by rw [iN_lt hb ha]; exact ⟨fun e => Nat.ble_eq_true_of_le e, Nat.le_of_ble_eq_true⟩)) h
    | 35, h => exact cmp .le _ (bb (by rw [iN_le ha hb]; exact ⟨fun e => Nat.ble_eq_true_of_le e, Nat.le_of_ble_eq_true⟩)) h
    | 2, h | 3, h | 4, h | 5, h | 6, h | 7, h | 8, h | 9, h | 10, h | 11, h | 12, h | 13, h | 14, h | 15, h | 16, h | 17, h | 18, h | 19, h | 20, h | 21, h | 22, h | 23, h | 24, h | 25, h | 26, h | 27, h | 28, h | 29, h => exact nomatch (show (none : Option sx_V) = some z from h)
    | n + 36, h => exact nomatch (show (none : Option sx_V) = some z from h)
  · cases h
theorem sx_app_ok {E : sx_E} {F : sx_F} {op : Nat} {x y z : sx_V} (h : sx_app F op x y = some z) (H : sx_ok E F) : sx_sem op (sx_ev E x) (sx_ev E y) = some (sx_ev E z) := by
  unfold sx_app at h
  split at h
  · rename_i hb
    rw [Bool.and_eq_true] at hb
    unfold sx_cc at h
    split at h
    · rename_i z' hz
      cases h
      exact sx_qk_ok hz
    · rw [sx_cl_ok hb.1, sx_cl_ok hb.2]
      split at h
      · rename_i v hv
        rw [hv, sx_q_ok h]
      · cases h
  · exact sx_find_ok h H
theorem sx_tf_ok {o : Option sx_V} {b : Bool} (h : sx_tf o = some b) : o = some (0, if b = true then 1 else 0) := by
  unfold sx_tf at h
  split at h
  · cases h; rfl
  · cases h; rfl
  · cases h
theorem sx_b01 {E : sx_E} {b : Bool} : sx_ev E (0, if b = true then 1 else 0) = .int (if b = true then 1 else 0) := by
  cases b <;> rfl
theorem sx_cmp_ok {E : sx_E} {F : sx_F} {c : ClassFile.Cond} {x y : sx_V} {b : Bool} (h : sx_cmp F (sx_ci c) x y = some b) (H : sx_ok E F) : ∃ u v, sx_ev E x = .int u ∧ sx_ev E y = .int v ∧ ab_cc c u v = b := by
  have h1 := sx_app_ok (sx_tf_ok h) H
  rw [sx_b01] at h1
  have h2 : sx_sem (30 + sx_ci c) = sx_c2 c := by cases c <;> rfl
  rw [h2] at h1
  unfold sx_c2 at h1
  split at h1
  · rename_i u v hu hv
    refine ⟨u, v, hu, hv, ?_⟩
    have h3 := Value.int.inj (Option.some.inj h1)
    cases b <;> cases hq : ab_cc c u v <;> rw [hq] at h3 <;> first | rfl | exact absurd h3 (by decide)
  · cases h1
theorem sx_fit_ok {E : sx_E} {F : sx_F} {k : Nat} {v : sx_V} (h : sx_fit F k v = true) (H : sx_ok E F) : ab_fit k (sx_ev E v) = true := by
  obtain ⟨t, n⟩ := v
  have key : ∀ (op q : Nat), sx_sem op = (fun x _ => sx_i1 (fun x => .int (if ab_fit q (.int x) = true then 1 else 0)) x) → sx_tf (sx_find op (3, n) (3, n) F) = some true → ab_fit q (sx_ev E (3, n)) = true := by
    intro op q hop h
    have h1 := sx_find_ok (sx_tf_ok h) H
    rw [hop, sx_b01] at h1
    have h2 : (if ab_fit q (.int (E.1 n)) = true then (1 : Int32) else 0) = 1 := Value.int.inj (Option.some.inj h1)
    by_cases hq : ab_fit q (.int (E.1 n)) = true
    · exact hq
    · rw [if_neg hq] at h2
      exact absurd h2 (by decide)
  unfold sx_fit at h
  split at h
  · split at h
    · rename_i ht; cases ht; rfl
    · rename_i ht; cases ht; rfl
    · cases h
  · split at h
    · rename_i ht; cases ht
      have hn : n ≤ 1 := Nat.le_of_ble_eq_true h
      match n, hn with
      | 0, _ => rfl
      | 1, _ => rfl
    · rename_i ht; cases ht
      split at h
      · rename_i hq; exact key 41 1 rfl hq
      · cases h
    · cases h
  · split at h
    · rename_i ht; cases ht
      have hn : n ≤ 65535 := Nat.le_of_ble_eq_true h
      show (decide (0 ≤ iN n) && decide (iN n ≤ 65535)) = true
      rw [Bool.and_eq_true, decide_eq_true_eq, decide_eq_true_eq]
      exact ⟨(iN_le (n := 0) (by omega) (by omega)).mpr (Nat.zero_le _), (iN_le (m := 65535) (by omega) (by omega)).mpr hn⟩
    · rename_i ht; cases ht
      split at h
      · rename_i hq; exact key 42 2 rfl hq
      · cases h
    · cases h
  · split at h
    · rename_i ht; cases ht; rfl
    · rename_i ht; cases ht; rfl
    · cases h
  · split at h
    · rename_i ht; cases ht; rfl
    · cases h
  · split at h
    · rename_i ht; cases ht; rfl
    · cases h
  · split at h
    · rename_i ht; cases ht; rfl
    · rename_i ht; cases ht; rfl
    · cases h
  · cases h
theorem sx_cat_ok (E : sx_E) (v : sx_V) : (sx_ev E v).category = sx_cat v := by
  obtain ⟨t, n⟩ := v
  match t with
  | 0 => rfl
  | 1 => rfl
  | 2 => rfl
  | 3 => rfl
  | 4 => rfl
  | 5 => rfl
  | 6 => rfl
  | n + 7 => rfl
theorem sx_cat12 (v : sx_V) : sx_cat v = 1 ∨ sx_cat v = 2 := by
  unfold sx_cat
  split <;> simp
theorem sx_cl2_ok (E : sx_E) (o : Option sx_V) : (sx_cl2 o).map (sx_ev E) = ab_cl2 (o.map (sx_ev E)) := by
  cases o with
  | none => rfl
  | some v =>
    show (sx_c0 v).map (sx_ev E) = (if (sx_ev E v).category = 2 then none else some (sx_ev E v))
    unfold sx_c0
    rw [sx_cat_ok]
    rcases sx_cat12 v with h | h <;> rw [h] <;> rfl
theorem sx_sto_ok (E : sx_E) : ∀ (l : sx_L) (i : Nat) (v : sx_V), sx_eL E (sx_sto l i v) = ab_sto (sx_eL E l) i (sx_ev E v)
  | [], _, _ => rfl
  | x :: l, 0, v => by
    show some (sx_ev E v) :: sx_eL E (match sx_cat v with
      | 2 => l.set 0 none
      | _ => l) = some (sx_ev E v) :: (if (sx_ev E v).category = 2 then (sx_eL E l).set 0 none else sx_eL E l)
    rw [sx_cat_ok]
    rcases sx_cat12 v with h | h
    · rw [h]; rfl
    · rw [h]
      show _ :: sx_eL E (l.set 0 none) = _ :: (sx_eL E l).set 0 none
      simp [sx_eL]
  | x :: l, 1, v => by
    show (sx_cl2 x).map (sx_ev E) :: sx_eL E (sx_sto l 0 v) = ab_cl2 (x.map (sx_ev E)) :: ab_sto (sx_eL E l) 0 (sx_ev E v)
    rw [sx_cl2_ok, sx_sto_ok E l 0 v]
  | x :: l, i + 2, v => by
    show x.map (sx_ev E) :: sx_eL E (sx_sto l (i + 1) v) = x.map (sx_ev E) :: ab_sto (sx_eL E l) (i + 1) (sx_ev E v)
    rw [sx_sto_ok E l (i + 1) v]
theorem sx_in_ok (E : sx_E) : ∀ vs : List sx_V, sx_eL E (sx_in vs) = ab_in (sx_eS E vs)
  | [] => rfl
  | v :: vs => by
    show some (sx_ev E v) :: sx_eL E (match sx_cat v with
      | 2 => none :: sx_in vs
      | _ => sx_in vs) = some (sx_ev E v) :: (if (sx_ev E v).category = 2 then none :: ab_in (sx_eS E vs) else ab_in (sx_eS E vs))
    rw [sx_cat_ok, ← sx_in_ok E vs]
    rcases sx_cat12 v with h | h <;> rw [h] <;> rfl
theorem sx_init_ok (E : sx_E) (vs : List sx_V) (n : Nat) : sx_eL E (sx_init vs n) = ab_init (sx_eS E vs) n := by
  unfold sx_init ab_init
  rw [← sx_in_ok E vs]
  simp [sx_eL]
theorem sx_cats_ok (E : sx_E) : ∀ st : List sx_V, ((sx_eS E st).map Value.category).sum = sx_cats st
  | [] => rfl
  | v :: r => by
    show ((sx_ev E v).category :: (sx_eS E r).map Value.category).sum = _
    rw [List.sum_cons, sx_cat_ok, sx_cats_ok E r]
    rfl
def sx_Sd (E : sx_E) (h0 : ab_H) (m : Nat) (o : sx_O) (r : Option ab_O) : Prop := match o with
  | .inl (pc, l, st, G, sl) => ∃ h', r = some (.inl (pc, sx_eL E l, sx_eS E st, h')) ∧ sx_Rl E h0 m G sl h'
  | .inr (.inl (q, G, sl)) => ∃ h', r = some (.inr (.inl (sx_eR E q, h'))) ∧ sx_Rl E h0 m G sl h'
  | .inr (.inr (y, as, pc, l, st, hs)) => r = some (.inr (.inr (y, sx_eS E as, pc, sx_eL E l, sx_eS E st, hs)))
section SXS
variable {E : sx_E} {h0 h : ab_H} {m : Nat} {F : sx_F} {pc sl : Nat} {l : sx_L} {st : List sx_V} {G : sx_G} {o : sx_O}
theorem sx_Rl.set {a : Nat} {c : sx_C} {q : ab_C} (R : sx_Rl E h0 m G sl h) (A : sx_A E h0 m) (hc : sx_eC E c = some q) : sx_Rl E h0 m (sx_put G a c) sl (ab_set h (E.2.2 a) q) := by
  have e1 : (sx_put G a c).1 = G.1 := by
    unfold sx_put
    split <;> rfl
  refine ⟨⟨by rw [e1]; exact R.1.1, by rw [e1]; exact R.1.2.1, R.1.2.2.1, fun k c1 hk => ?_⟩, fun k c1 q1 hk h1 => ?_, fun b hb hn => ?_⟩
  · rw [e1]
    unfold sx_put at hk
    split at hk
    · rename_i p hp
      have hk2 : sx_get G k ≠ none := by
        intro hn
        unfold sx_get at hk hn
        simp only [sx_nth_get, sx_set_eq] at hk hn hp
        split at hk
        · rename_i p2 hp2
          have l2 := (List.getElem?_eq_some_iff.mp hp2).1
          rw [List.length_set] at l2
          by_cases e : k / 16 = a / 16
          · rw [e, List.getElem?_set_self (List.getElem?_eq_some_iff.mp hp).1] at hp2
            cases hp2
            rw [e, hp] at hn
            have l3 := (List.getElem?_eq_some_iff.mp hk).1
            rw [List.length_set] at l3
            have hn : p[k % 16]? = none := hn
            rw [List.getElem?_eq_getElem l3] at hn
            cases hn
          · rw [List.getElem?_set_ne (fun z => e z.symm)] at hp2
            rw [hp2] at hn
            exact absurd (hk.symm.trans hn) (by simp)
        · cases hk
      cases hq : sx_get G k with
      | none => exact absurd hq hk2
      | some c2 => exact R.1.2.2.2 k c2 hq
    · exact R.1.2.2.2 k c1 hk
  · show (if E.2.2 k = E.2.2 a then some q else h.1 (E.2.2 k)) = some q1
    rcases sx_put_get hk with ⟨e, e2⟩ | ⟨e, e2⟩
    · subst e
      subst e2
      rw [if_pos rfl]
      exact hc.symm.trans h1
    · rw [if_neg fun z => e (A.inj z)]
      exact R.2.1 k c1 q1 e2 h1
  · show (if b = E.2.2 a then some q else h.1 b) = h0.1 b
    by_cases e : b = E.2.2 a
    · exfalso
      by_cases hm : a < m
      · obtain ⟨c', g1, g2⟩ := hn a hm e.symm
        rcases sx_put_get g1 with ⟨-, z⟩ | ⟨z, -⟩
        · subst z
          unfold sx_eC at hc
          rw [g2] at hc
          cases hc
        · exact z rfl
      · have h1 := A.2.2 a (Nat.le_of_not_lt hm)
        omega
    · rw [if_neg e]
      refine R.2.2 b hb fun k hk ek => ?_
      obtain ⟨c', g1, g2⟩ := hn k hk ek
      rcases sx_put_get g1 with ⟨z, -⟩ | ⟨-, z⟩
      · subst z
        exact absurd ek.symm e
      · exact ⟨c', z, g2⟩
theorem sx_Rl.nx (R : sx_Rl E h0 m G sl h) (A : sx_A E h0 m) : E.2.2 G.1 = h.2.1 := by
  rw [A.2.2 _ R.1.1, R.1.2.1]
theorem sx_Rl.old (R : sx_Rl E h0 m G sl h) (A : sx_A E h0 m) {k : Nat} (hk : k < G.1) : E.2.2 k < h.2.1 := by
  rw [R.1.2.1]
  by_cases e : k < m
  · have := A.1 k e
    omega
  · have := A.2.2 k (Nat.le_of_not_lt e)
    have := R.1.1
    omega
/-- new cells from the next address on -/
theorem sx_Rl.app {cs : List sx_C} {n : Nat} {h' : ab_H} {G' : sx_G} (R : sx_Rl E h0 m G sl h) (A : sx_A E h0 m) (hG : sx_pshs G cs = some G') (h1 : h'.2.1 = h.2.1 + cs.length) (h2 : h'.2.2 = h.2.2 + n) (h3 : ∀ b, b < h.2.1 → h'.1 b = h.1 b)
    (h4 : ∀ i c q, cs[i]? = some c → sx_eC E c = some q → h'.1 (h.2.1 + i) = some q) : sx_Rl E h0 m G' (sl + n) h' := by
  obtain ⟨⟨r1, r2, r3, r6⟩, r4, r5⟩ := R
  have R : sx_Rl E h0 m G sl h := ⟨⟨r1, r2, r3, r6⟩, r4, r5⟩
  obtain ⟨g1, g2, g3⟩ := sx_pshs_get (c0 := (0, 0, [])) hG r6
  refine ⟨⟨by omega, by omega, by rw [h2]; omega, g2⟩, fun k c q hk hq => ?_, fun b hb hn => ?_⟩
  · rcases g3 k c hk with ⟨e, hk⟩ | ⟨e, hk⟩
    · rw [h3 _ (R.old A e)]
      exact r4 k c q hk hq
    · have h5 := h4 _ c q hk hq
      have h6 := A.2.2 k (Nat.le_trans r1 e)
      rw [show E.2.2 k = h.2.1 + (k - G.1) by omega]
      exact h5
  · rw [h3 b (by omega)]
    refine r5 b hb fun k hk ek => ?_
    obtain ⟨c', q1, q2⟩ := hn k hk ek
    rcases g3 k c' q1 with ⟨-, z⟩ | ⟨z, -⟩
    · exact ⟨c', z, q2⟩
    · omega
theorem sx_Rl.new {c : sx_C} {q : ab_C} {n : Nat} {G' : sx_G} (R : sx_Rl E h0 m G sl h) (A : sx_A E h0 m) (hG : sx_pshs G [c] = some G') (hc : sx_eC E c = some q) : sx_Rl E h0 m G' (sl + n) (ab_new h q n) := by
  refine R.app A hG rfl rfl (fun b hb => if_neg (Nat.ne_of_lt hb)) fun i c1 q1 hi h1 => ?_
  cases i with
  | zero =>
    cases hi
    cases hc.symm.trans h1
    exact if_pos rfl
  | succ i => cases hi
theorem sx_ld_ok {k i : Nat} (hf : sx_ld F k pc l st G sl i = some o) (R : sx_Rl E h0 m G sl h) (H : sx_ok E F) : sx_Sd E h0 m o (ab_ld k pc (sx_eL E l) (sx_eS E st) h i) := by
  unfold sx_ld at hf
  split at hf
  · rename_i v hl
    split at hf
    · rename_i hv
      obtain rfl := Option.some.inj hf
      refine ⟨h, ?_, R⟩
      unfold ab_ld
      rw [List.getElem?_map, hl]
      show (if ab_fit k (sx_ev E v) = true then _ else none) = _
      rw [if_pos (sx_fit_ok hv H)]
      rfl
    · cases hf
  · cases hf
theorem sx_sv_ok {k i : Nat} (hf : sx_sv F k pc l st G sl i = some o) (R : sx_Rl E h0 m G sl h) (H : sx_ok E F) : sx_Sd E h0 m o (ab_sv k pc (sx_eL E l) (sx_eS E st) h i) := by
  unfold sx_sv at hf
  split at hf
  · rename_i v st
    split at hf
    · rename_i hv
      rw [Bool.and_eq_true] at hv
      obtain rfl := Option.some.inj hf
      refine ⟨h, ?_, R⟩
      show (if ab_fit k (sx_ev E v) = true ∧ i + ((sx_ev E v).category - 1) < (sx_eL E l).length then _ else none) = _
      have h1 := Nat.le_of_ble_eq_true hv.2
      rw [if_pos ⟨sx_fit_ok hv.1 H, by rw [sx_cat_ok, List.length_map]; rcases sx_cat12 v with e | e <;> omega⟩, sx_sto_ok]
      rfl
    · cases hf
  · cases hf
/-- an operation of two operands: what the machine's step must be -/
theorem sx_b2_ok {op : Nat} {r : List Value → Option ab_O} (hf : sx_b2 F op pc l st G sl = some o) (R : sx_Rl E h0 m G sl h) (H : sx_ok E F) (hr : ∀ x y z s, sx_sem op x y = some z → r (y :: x :: s) = ab_nx pc (sx_eL E l) (z :: s) h) : sx_Sd E h0 m o (r (sx_eS E st)) := by
  unfold sx_b2 at hf
  split at hf
  · rename_i y x st
    split at hf
    · rename_i z hz
      obtain rfl := Option.some.inj hf
      exact ⟨h, hr _ _ _ _ (sx_app_ok hz H), R⟩
    · cases hf
  · cases hf
theorem sx_b1_ok {op : Nat} {r : List Value → Option ab_O} (hf : sx_b1 F op pc l st G sl = some o) (R : sx_Rl E h0 m G sl h) (H : sx_ok E F) (hr : ∀ x z s, sx_sem op x x = some z → r (x :: s) = ab_nx pc (sx_eL E l) (z :: s) h) : sx_Sd E h0 m o (r (sx_eS E st)) := by
  unfold sx_b1 at hf
  split at hf
  · rename_i x st
    split at hf
    · rename_i z hz
      obtain rfl := Option.some.inj hf
      exact ⟨h, hr _ _ _ (sx_app_ok hz H), R⟩
    · cases hf
  · cases hf
theorem sx_mm_ok {op : Nat} {r : List Value → Option ab_O} (hf : sx_mm F op pc l st G sl = some o) (R : sx_Rl E h0 m G sl h) (H : sx_ok E F) (hr : ∀ x y z s, (s.map Value.category).sum ≤ 8 → sx_sem op x y = some z → r (y :: x :: s) = ab_nx pc (sx_eL E l) (z :: s) h) : sx_Sd E h0 m o (r (sx_eS E st)) := by
  unfold sx_mm at hf
  split at hf
  · rename_i y x st
    split at hf
    · rename_i hb
      split at hf
      · rename_i z hz
        obtain rfl := Option.some.inj hf
        exact ⟨h, hr _ _ _ _ (by rw [sx_cats_ok]; exact Nat.le_of_ble_eq_true hb) (sx_app_ok hz H), R⟩
      · cases hf
    · cases hf
  · cases hf
theorem sx_br_ok {b : Option Bool} {nx tg : Nat} {r : Option ab_O} (hf : sx_br b nx tg l st G sl = some o) (R : sx_Rl E h0 m G sl h) (hr : ∀ c, b = some c → r = ab_nx (if c = true then tg else nx) (sx_eL E l) (sx_eS E st) h) : sx_Sd E h0 m o r := by
  unfold sx_br at hf
  split at hf
  · obtain rfl := Option.some.inj hf
    exact ⟨h, hr _ rfl, R⟩
  · obtain rfl := Option.some.inj hf
    exact ⟨h, hr _ rfl, R⟩
  · cases hf
theorem sx_bt_ok {p : Nat} {z : Int} {f : Nat → sx_X} {X : sx_X} (hX : sx_bt p z f = some X) : 0 ≤ (p : Int) + z ∧ X = f (ab_tg p z) := by
  unfold sx_bt at hX
  split at hX
  · rename_i hz
    exact ⟨hz, (Option.some.inj hX).symm⟩
  · cases hX
theorem sx_abr {p : Nat} {z : Int} {c : Bool} {L : ab_L} {S : List Value} (hz : 0 ≤ (p : Int) + z) : ab_br c p z L S h = ab_nx (if c = true then ab_tg p z else p + 3) L S h := by
  unfold ab_br
  rw [if_pos hz]
  cases c <;> rfl
theorem sx_al_ok {k : Nat} (hf : sx_al F k (pc + 1) l st G sl = some o) (R : sx_Rl E h0 m G sl h) (H : sx_ok E F) : sx_Sd E h0 m o (ab_al k pc (sx_eL E l) (sx_eS E st) h) := by
  unfold sx_al at hf
  split at hf
  · rename_i i a st
    split at hf
    · rename_i t xs hg
      split at hf
      · rename_i v hv
        split at hf
        · rename_i hb
          rw [Bool.and_eq_true, Bool.and_eq_true] at hb
          obtain rfl := Option.some.inj hf
          refine ⟨h, ?_, R⟩
          have h1 := R.2.1 a _ _ hg rfl
          have h2 := Nat.le_of_ble_eq_true hb.2.1
          have h3 := Nat.eq_of_beq_eq_true hb.1
          have hi : i < 2147483648 := by omega
          have hx : i < xs.length := (List.getElem?_eq_some_iff.mp hv).1
          show (match h.1 (E.2.2 a) with
            | some (.inl (t, xs)) => if t % 8 = k ∧ ¬ (iN i < 0 ∨ xs.length ≤ (iN i).toNatClampNeg) then (match xs[(iN i).toNatClampNeg]? with
                | some v => if ab_fit k v = true then ab_nx (pc + 1) (sx_eL E l) (v :: sx_eS E st) h else none
                | none => none) else none
            | _ => none) = _
          rw [h1]
          show (if t % 8 = k ∧ ¬ (iN i < 0 ∨ (sx_eS E xs).length ≤ (iN i).toNatClampNeg) then (match (sx_eS E xs)[(iN i).toNatClampNeg]? with
                | some v => if ab_fit k v = true then ab_nx (pc + 1) (sx_eL E l) (v :: sx_eS E st) h else none
                | none => none) else none) = _
          rw [iN_clamp hi, if_pos ⟨h3, fun z => z.elim (iN_nn hi) (by rw [List.length_map]; omega)⟩, List.getElem?_map, hv]
          show (if ab_fit k (sx_ev E v) = true then _ else none) = _
          rw [if_pos (sx_fit_ok hb.2.2 H)]
          rfl
        · cases hf
      · cases hf
    · cases hf
  · cases hf
theorem sx_el_ok {t : Nat} {v : sx_V} (hv : sx_el G t v = true) (R : sx_Rl E h0 m G sl h) : ab_el h t (sx_ev E v) = true := by
  obtain ⟨q, n⟩ := v
  unfold sx_el at hv
  split at hv
  · rename_i e; cases e
    rw [Bool.and_eq_true] at hv
    show (t % 8 == 6 && t != 14) = true
    rw [Nat.eq_of_beq_eq_true hv.1]
    have h2 : t ≠ 14 := by
      intro e
      subst e
      exact absurd hv.2 (by decide)
    simp [h2]
  · rename_i e; cases e
    split at hv
    · rename_i ci fs hg
      show ab_el2 t (h.1 (E.2.2 n)) = true
      rw [R.2.1 n _ _ hg rfl]
      show (t == 6 || t == 8 * (ci + 2) + 6) = true
      rw [Bool.or_eq_true] at hv
      rcases hv with hv | hv
      · rw [Nat.eq_of_beq_eq_true hv]; rfl
      · rw [← Nat.eq_of_beq_eq_true hv]; simp
    · rename_i ci fs hg
      show ab_el2 t (h.1 (E.2.2 n)) = true
      rw [R.2.1 n _ _ hg rfl]
      rw [Bool.and_eq_true] at hv
      have e1 := Nat.eq_of_beq_eq_true hv.1
      have e2 := Nat.eq_of_beq_eq_true hv.2
      subst e1
      subst e2
      rfl
    · cases hv
  · cases hv
theorem sx_as_ok {k : Nat} (hf : sx_as F k (pc + 1) l st G sl = some o) (R : sx_Rl E h0 m G sl h) (A : sx_A E h0 m) (H : sx_ok E F) : sx_Sd E h0 m o (ab_as k pc (sx_eL E l) (sx_eS E st) h) := by
  unfold sx_as at hf
  split at hf
  · rename_i v i a st
    split at hf
    · rename_i t xs hg
      split at hf
      · rename_i hb
        rw [Bool.and_eq_true, Bool.and_eq_true, Bool.and_eq_true, Bool.and_eq_true, Bool.and_eq_true] at hb
        obtain ⟨b1, b2, b3, b4, b5, b6⟩ := hb
        obtain rfl := Option.some.inj hf
        have h1 := R.2.1 a _ _ hg rfl
        have h2 := Nat.le_of_ble_eq_true b2
        have h3 := Nat.eq_of_beq_eq_true b1
        have h5 := Nat.le_of_ble_eq_true b3
        have h6 := Nat.le_of_ble_eq_true b5
        have hi : i < 2147483648 := by omega
        refine ⟨ab_set h (E.2.2 a) (.inl (t, sx_eS E (sx_set xs i v))), ?_, R.set A rfl⟩
        show (match h.1 (E.2.2 a) with
          | some (.inl (t, xs)) => if t % 8 = k ∧ t < 1000 ∧ ab_fit k (sx_ev E v) = true ∧ ¬ (iN i < 0 ∨ xs.length ≤ (iN i).toNatClampNeg) ∧ (k = 6 → ab_el h t (sx_ev E v) = true)
              then ab_nx (pc + 1) (sx_eL E l) (sx_eS E st) (ab_set h (E.2.2 a) (.inl (t, xs.set (iN i).toNatClampNeg (sx_ev E v)))) else none
          | _ => none) = _
        rw [h1]
        show (if t % 8 = k ∧ t < 1000 ∧ ab_fit k (sx_ev E v) = true ∧ ¬ (iN i < 0 ∨ (sx_eS E xs).length ≤ (iN i).toNatClampNeg) ∧ (k = 6 → ab_el h t (sx_ev E v) = true)
              then ab_nx (pc + 1) (sx_eL E l) (sx_eS E st) (ab_set h (E.2.2 a) (.inl (t, (sx_eS E xs).set (iN i).toNatClampNeg (sx_ev E v)))) else none) = _
        have k9 : k = 6 → ab_el h t (sx_ev E v) = true := by
          intro k6
          subst k6
          exact sx_el_ok (by simpa using b6) R
        rw [iN_clamp hi, if_pos ⟨h3, by omega, sx_fit_ok b4 H, fun z => z.elim (iN_nn hi) (by rw [List.length_map]; omega), k9⟩]
        show some (Sum.inl (_, _, _, ab_set h (E.2.2 a) (Sum.inl (t, (sx_eS E xs).set i (sx_ev E v))))) = _
        rw [show (sx_eS E xs).set i (sx_ev E v) = sx_eS E (sx_set xs i v) by rw [sx_set_eq]; simp [sx_eS]]
      · cases hf
    · cases hf
  · cases hf
theorem sx_gf_ok {ci k : Nat} (hf : sx_gf ci k pc l st G sl = some o) (R : sx_Rl E h0 m G sl h) : sx_Sd E h0 m o (match sx_eS E st with
    | .ref a :: st => match h.1 a with
      | some (.inr (c, fs)) => if c = ci then (match fs[k]? with
          | some v => ab_nx pc (sx_eL E l) (v :: st) h
          | none => none) else none
      | _ => none
    | _ => none) := by
  unfold sx_gf at hf
  split at hf
  · rename_i a st
    split at hf
    · rename_i c fs hg
      split at hf
      · rename_i v hv
        split at hf
        · rename_i hb
          obtain rfl := Option.some.inj hf
          have e := Nat.eq_of_beq_eq_true hb
          subst e
          refine ⟨h, ?_, R⟩
          show (match h.1 (E.2.2 a) with
            | some (.inr (c', fs)) => if c' = c then (match fs[k]? with
              | some v => ab_nx pc (sx_eL E l) (v :: sx_eS E st) h
              | none => none) else none
            | _ => none) = _
          rw [R.2.1 a _ _ hg rfl]
          show (if c = c then (match (sx_eS E fs)[k]? with
              | some v => ab_nx pc (sx_eL E l) (v :: sx_eS E st) h
              | none => none) else none) = _
          rw [if_pos rfl, List.getElem?_map, hv]
          rfl
        · cases hf
      · cases hf
    · cases hf
  · cases hf
theorem sx_pf_ok {ci k t : Nat} (hf : sx_pf F ci k t pc l st G sl = some o) (R : sx_Rl E h0 m G sl h) (A : sx_A E h0 m) (H : sx_ok E F) : sx_Sd E h0 m o (match sx_eS E st with
    | v :: .ref a :: st => match h.1 a with
      | some (.inr (c, fs)) => if c = ci ∧ k < fs.length ∧ ab_fit t v = true then ab_nx pc (sx_eL E l) st (ab_set h a (.inr (c, fs.set k v))) else none
      | _ => none
    | _ => none) := by
  unfold sx_pf at hf
  split at hf
  · rename_i v a st
    split at hf
    · rename_i c fs hg
      split at hf
      · rename_i hb
        rw [Bool.and_eq_true, Bool.and_eq_true] at hb
        obtain rfl := Option.some.inj hf
        have e := Nat.eq_of_beq_eq_true hb.1
        have e2 := Nat.le_of_ble_eq_true hb.2.1
        subst e
        refine ⟨ab_set h (E.2.2 a) (.inr (c, sx_eS E (sx_set fs k v))), ?_, R.set A rfl⟩
        show (match h.1 (E.2.2 a) with
            | some (.inr (c', fs)) => if c' = c ∧ k < fs.length ∧ ab_fit t (sx_ev E v) = true then ab_nx pc (sx_eL E l) (sx_eS E st) (ab_set h (E.2.2 a) (.inr (c', fs.set k (sx_ev E v)))) else none
            | _ => none) = _
        rw [R.2.1 a _ _ hg rfl]
        show (if c = c ∧ k < (sx_eS E fs).length ∧ ab_fit t (sx_ev E v) = true then ab_nx pc (sx_eL E l) (sx_eS E st) (ab_set h (E.2.2 a) (.inr (c, (sx_eS E fs).set k (sx_ev E v)))) else none) = _
        rw [if_pos ⟨rfl, by rw [List.length_map]; omega, sx_fit_ok hb.2.2 H⟩, show (sx_eS E fs).set k (sx_ev E v) = sx_eS E (sx_set fs k v) by rw [sx_set_eq]; simp [sx_eS]]
        rfl
      · cases hf
    · cases hf
  · cases hf
end SXS
