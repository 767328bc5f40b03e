/-! THE EXECUTOR IS SOUND: what makes cells, calls, one step as a whole. -/
section SXT
variable {E : sx_E} {h0 h : ab_H} {m : Nat} {F : sx_F} {pc sl : Nat} {l : sx_L} {st : List sx_V} {G : sx_G} {o : sx_O}
theorem sx_len_ok (hf : sx_len pc l st G sl = some o) (R : sx_Rl E h0 m G sl h) : sx_Sd E h0 m o (match sx_eS E st with
    | .ref a :: st => match h.1 a with
      | some (.inl (_, xs)) => ab_nx pc (sx_eL E l) (.int (Int32.ofNat xs.length) :: st) h
      | _ => none
    | _ => none) := by
  unfold sx_len at hf
  split at hf
  · rename_i a st
    split at hf
    · rename_i t xs hg
      obtain rfl := Option.some.inj hf
      refine ⟨h, ?_, R⟩
      show (match h.1 (E.2.2 a) with
        | some (.inl (_, xs)) => ab_nx pc (sx_eL E l) (.int (Int32.ofNat xs.length) :: sx_eS E st) h
        | _ => none) = _
      rw [R.2.1 a _ _ hg rfl]
      show ab_nx pc (sx_eL E l) (.int (Int32.ofNat (sx_eS E xs).length) :: sx_eS E st) h = _
      rw [List.length_map]
      rfl
    · cases hf
  · cases hf
theorem sx_d0_ok (E : sx_E) (t : Nat) : sx_ev E (sx_d0 t) = ab_dv t := by
  match t with
  | 0 => rfl
  | 1 => rfl
  | 2 => rfl
  | 3 => rfl
  | 4 => rfl
  | 5 => rfl
  | n + 6 => rfl
theorem sx_push_ok {cs : List sx_C} {n : Nat} {h' : ab_H} {r : Option ab_O} (hf : sx_push pc l st G (sl + n) cs = some o) (R : sx_Rl E h0 m G sl h) (A : sx_A E h0 m) (hr : r = some (.inl (pc, sx_eL E l, .ref h.2.1 :: sx_eS E st, h'))) (h1 : h'.2.1 = h.2.1 + cs.length) (h2 : h'.2.2 = h.2.2 + n) (h3 : ∀ b, b < h.2.1 → h'.1 b = h.1 b)
    (h4 : ∀ i c q, cs[i]? = some c → sx_eC E c = some q → h'.1 (h.2.1 + i) = some q) : sx_Sd E h0 m o r := by
  unfold sx_push at hf
  split at hf
  · rename_i G' hG
    obtain rfl := Option.some.inj hf
    refine ⟨h', ?_, R.app A hG h1 h2 h3 h4⟩
    rw [hr, ← R.nx A]
    rfl
  · cases hf
theorem sx_push1_ok {c : sx_C} {q : ab_C} {n : Nat} {r : Option ab_O} (hf : sx_push pc l st G (sl + n) [c] = some o) (R : sx_Rl E h0 m G sl h) (A : sx_A E h0 m) (hc : sx_eC E c = some q) (hr : r = some (.inl (pc, sx_eL E l, .ref h.2.1 :: sx_eS E st, ab_new h q n))) : sx_Sd E h0 m o r := by
  refine sx_push_ok hf R A hr rfl rfl (fun b hb => if_neg (Nat.ne_of_lt hb)) fun i c1 q1 hi h1 => ?_
  cases i with
  | zero =>
    cases hi
    cases hc.symm.trans h1
    exact if_pos rfl
  | succ i => cases hi
theorem sx_na_ok {t : Nat} {dv : sx_V} {D : Value} (hD : sx_ev E dv = D) (hf : sx_na t dv pc l st G sl = some o) (R : sx_Rl E h0 m G sl h) (A : sx_A E h0 m) : sx_Sd E h0 m o (match sx_eS E st with
    | .int n :: st => if ¬ n < 0 ∧ n.toNatClampNeg ≤ 50000000 then ab_nx pc (sx_eL E l) (.ref h.2.1 :: st) (ab_new h (.inl (t, List.replicate n.toNatClampNeg D)) n.toNatClampNeg) else none
    | _ => none) := by
  unfold sx_na at hf
  split at hf
  · rename_i n st
    split at hf
    · rename_i hb
      have h1 := Nat.le_of_ble_eq_true hb
      have hn : n < 2147483648 := by omega
      refine sx_push1_ok hf R A (q := .inl (t, List.replicate n D)) ?_ ?_
      · rw [← hD]
        show some (Sum.inl (t, sx_eS E (List.replicate n dv))) = _
        rw [show sx_eS E (List.replicate n dv) = List.replicate n (sx_ev E dv) by simp [sx_eS]]
      · show (if ¬ iN n < 0 ∧ (iN n).toNatClampNeg ≤ 50000000 then ab_nx pc (sx_eL E l) (.ref h.2.1 :: sx_eS E st) (ab_new h (.inl (t, List.replicate (iN n).toNatClampNeg D)) (iN n).toNatClampNeg) else none) = _
        rw [iN_clamp hn, if_pos ⟨iN_nn hn, h1⟩]
        rfl
    · cases hf
  · cases hf
theorem sx_mu_ok (hf : sx_mu pc l st G sl = some o) (R : sx_Rl E h0 m G sl h) (A : sx_A E h0 m) : sx_Sd E h0 m o (match sx_eS E st with
    | .int m :: .int n :: st => if ¬ n < 0 ∧ ¬ m < 0 ∧ n.toNatClampNeg ≤ 1000 ∧ m.toNatClampNeg ≤ 1000 then ab_nx pc (sx_eL E l) (.ref h.2.1 :: st) (ab_mu h n.toNatClampNeg m.toNatClampNeg) else none
    | _ => none) := by
  unfold sx_mu at hf
  split at hf
  · rename_i w n st
    split at hf
    · rename_i hb
      rw [Bool.and_eq_true] at hb
      have h1 := Nat.le_of_ble_eq_true hb.1
      have h2 := Nat.le_of_ble_eq_true hb.2
      have hn : n < 2147483648 := by omega
      have hw : w < 2147483648 := by omega
      refine sx_push_ok (h' := ab_mu h n w) hf R A ?_ ?_ rfl (fun b hb => ?_) fun i c q hi hq => ?_
      · show (if ¬ iN n < 0 ∧ ¬ iN w < 0 ∧ (iN n).toNatClampNeg ≤ 1000 ∧ (iN w).toNatClampNeg ≤ 1000 then ab_nx pc (sx_eL E l) (.ref h.2.1 :: sx_eS E st) (ab_mu h (iN n).toNatClampNeg (iN w).toNatClampNeg) else none) = _
        rw [iN_clamp hn, iN_clamp hw, if_pos ⟨iN_nn hn, iN_nn hw, h1, h2⟩]
        rfl
      · show h.2.1 + (1 + n) = _
        simp
        omega
      · show (if b = h.2.1 then _ else if h.2.1 < b ∧ b < h.2.1 + 1 + n then _ else h.1 b) = h.1 b
        rw [if_neg (by omega), if_neg (by omega)]
      · cases i with
        | zero =>
          cases hi
          cases hq
          show (if h.2.1 = h.2.1 then some _ else _) = some _
          rw [if_pos rfl]
          congr 3
          unfold sx_eS
          rw [List.map_map]
          refine List.map_congr_left fun i hi => ?_
          show Value.ref (h.2.1 + 1 + i) = Value.ref (E.2.2 (G.1 + 1 + i))
          have h5 := A.2.2 (G.1 + 1 + i) (by have := R.1.1; omega)
          have h6 := R.1.2.1
          have h7 := R.1.1
          have e9 : h.2.1 + 1 + i = E.2.2 (G.1 + 1 + i) := by
            rw [h5]
            omega
          exact congrArg Value.ref e9
        | succ i =>
          rw [List.getElem?_cons_succ] at hi
          have h3 : i < n := by
            have := (List.getElem?_eq_some_iff.mp hi).1
            simpa using this
          rw [List.getElem?_replicate_of_lt h3] at hi
          cases hi
          cases hq
          show (if h.2.1 + (i + 1) = h.2.1 then _ else if h.2.1 < h.2.1 + (i + 1) ∧ h.2.1 + (i + 1) < h.2.1 + 1 + n then some (Sum.inl (0, List.replicate w (.int 0))) else _) = some (Sum.inl (0, sx_eS E (List.replicate w (0, 0))))
          rw [if_neg (by omega), if_pos (by omega), show sx_eS E (List.replicate w (0, 0)) = List.replicate w (.int 0) by simp [sx_eS, sx_ev]]
    · cases hf
  · cases hf
theorem sx_nw_ok {ci : Nat} {ts : List Nat} (hf : sx_nw ci ts pc l st G sl = some o) (R : sx_Rl E h0 m G sl h) (A : sx_A E h0 m) : sx_Sd E h0 m o (ab_nx pc (sx_eL E l) (.ref h.2.1 :: sx_eS E st) (ab_new h (.inr (ci, ts.map ab_dv)) ts.length)) := by
  unfold sx_nw at hf
  refine sx_push1_ok hf R A (q := .inr (ci, ts.map ab_dv)) ?_ rfl
  show some (Sum.inr (ci, sx_eS E (ts.map sx_d0))) = _
  unfold sx_eS
  rw [List.map_map]
  rw [show (sx_ev E ∘ sx_d0) = ab_dv from funext fun t => sx_d0_ok E t]
theorem sx_th_ok {e : Nat} (hf : sx_th e st G sl = some o) (R : sx_Rl E h0 m G sl h) (A : sx_A E h0 m) : sx_Sd E h0 m o (if ((sx_eS E st).map Value.category).sum ≤ 8 then some (.inr (.inl (.inr e, (h.1, h.2.1 + 1, h.2.2 + 6)))) else none) := by
  unfold sx_th at hf
  split at hf
  · rename_i hb
    split at hf
    · rename_i G' hG
      obtain rfl := Option.some.inj hf
      refine ⟨(h.1, h.2.1 + 1, h.2.2 + 6), ?_, R.app A (cs := [(2, 0, [])]) (by unfold sx_pshs; rw [hG]; rfl) rfl rfl (fun _ _ => rfl) fun i c q hi hq => ?_⟩
      · rw [sx_cats_ok, if_pos (Nat.le_of_ble_eq_true hb)]
        rfl
      · cases i with
        | zero => cases hi; cases hq
        | succ i => cases hi
    · cases hf
  · cases hf
theorem sx_cc2_ok {ci : Nat} (hf : sx_cc2 ci pc l st G sl = some o) (R : sx_Rl E h0 m G sl h) : sx_Sd E h0 m o (match sx_eS E st with
    | .ref a :: st => match h.1 a with
      | some (.inr (c, _)) => if c = ci then ab_nx pc (sx_eL E l) (.ref a :: st) h else none
      | _ => none
    | _ => none) := by
  unfold sx_cc2 at hf
  split at hf
  · rename_i a st
    split at hf
    · rename_i c fs hg
      split at hf
      · rename_i hb
        obtain rfl := Option.some.inj hf
        refine ⟨h, ?_, R⟩
        show (match h.1 (E.2.2 a) with
          | some (.inr (c, _)) => if c = ci then ab_nx pc (sx_eL E l) (.ref (E.2.2 a) :: sx_eS E st) h else none
          | _ => none) = _
        rw [R.2.1 a _ _ hg rfl]
        show (if c = ci then ab_nx pc (sx_eL E l) (.ref (E.2.2 a) :: sx_eS E st) h else none) = _
        rw [if_pos (Nat.eq_of_beq_eq_true hb)]
        rfl
      · cases hf
    · cases hf
  · cases hf
theorem sx_ob_ok (hf : sx_ob pc l st G sl = some o) (R : sx_Rl E h0 m G sl h) : sx_Sd E h0 m o (match sx_eS E st with
      | .ref _ :: st => if (st.map Value.category).sum ≤ 8 then ab_nx pc (sx_eL E l) st h else none
      | _ => none) := by
  unfold sx_ob at hf
  split at hf
  · rename_i a st
    split at hf
    · rename_i hb
      obtain rfl := Option.some.inj hf
      refine ⟨h, ?_, R⟩
      show (if ((sx_eS E st).map Value.category).sum ≤ 8 then _ else none) = _
      rw [sx_cats_ok, if_pos (Nat.le_of_ble_eq_true hb)]
      rfl
    · cases hf
  · cases hf
theorem sx_call_ok {y na r : Nat} {hd : List Nat} (hf : sx_call y na r pc (ab_hs hd) l st G = some o) :
    sx_Sd E h0 m o (ab_call y na pc hd (sx_eL E l) (sx_eS E st) h) ∧ (1 ≤ r → ∃ a, (sx_eS E st)[na - 1]? = some (.ref (E.2.2 a)) ∧ (2 ≤ r → ∃ fs, sx_get G a = some (1, r - 2, fs))) := by
  unfold sx_call at hf
  split at hf
  · rename_i hb
    rw [Bool.and_eq_true, Bool.and_eq_true] at hb
    obtain ⟨b1, b2, b3⟩ := hb
    obtain rfl := Option.some.inj hf
    refine ⟨?_, fun hr => ?_⟩
    · show ab_call y na pc hd (sx_eL E l) (sx_eS E st) h = some (.inr (.inr (y, sx_eS E (st.take na).reverse, pc, sx_eL E l, sx_eS E (st.drop na), ab_hs hd)))
      unfold ab_call
      have h1 := Nat.le_of_ble_eq_true b1
      have h2 := Nat.le_of_ble_eq_true b2
      have e1 : (sx_eS E st).drop na = sx_eS E (st.drop na) := by simp [sx_eS]
      have e2 : ((sx_eS E st).take na).reverse = sx_eS E (st.take na).reverse := by simp [sx_eS]
      rw [e1, e2, sx_cats_ok, if_pos ⟨by rw [List.length_map]; exact h1, h2⟩]
    · match r, b3, hr with
      | 1, b3, _ =>
        dsimp only at b3
        split at b3
        · rename_i a hs
          exact ⟨a, by rw [List.getElem?_map, hs]; rfl, fun z => absurd z (by omega)⟩
        · cases b3
      | r + 2, b3, _ =>
        dsimp only at b3
        split at b3
        · rename_i a hs
          split at b3
          · rename_i c fs hg
            exact ⟨a, by rw [List.getElem?_map, hs]; rfl, fun _ => ⟨fs, by rw [hg, Nat.eq_of_beq_eq_true b3]; rfl⟩⟩
          · cases b3
        · cases b3
  · cases hf
theorem sx_ret_ok {k : Nat} {r : List Value → Option ab_O} (hf : sx_ret F k st G sl = some o) (R : sx_Rl E h0 m G sl h) (H : sx_ok E F) (hr : ∀ v, ab_fit k v = true → r [v] = some (.inr (.inl (.inl (some v), h)))) : sx_Sd E h0 m o (r (sx_eS E st)) := by
  unfold sx_ret at hf
  split at hf
  · rename_i v
    split at hf
    · rename_i hv
      obtain rfl := Option.some.inj hf
      exact ⟨h, hr _ (sx_fit_ok hv H), R⟩
    · cases hf
  · cases hf
theorem sx_cp_ok (hf : sx_cp F pc l st G sl = some o) (R : sx_Rl E h0 m G sl h) (A : sx_A E h0 m) (H : sx_ok E F) : sx_Sd E h0 m o (match sx_eS E st with
      | .int n :: .int dp :: .ref a1 :: .int sp :: .ref a0 :: st => match h.1 a0, h.1 a1 with
        | some (.inl (t0, f)), some (.inl (t1, g)) => if ((t1 = 0 ∧ t0 = 0) ∨ (t1 = 6 ∧ t0 = 6)) ∧ ¬ sp < 0 ∧ ¬ dp < 0 ∧ ¬ n < 0 ∧ sp.toNatClampNeg + n.toNatClampNeg ≤ f.length ∧ dp.toNatClampNeg + n.toNatClampNeg ≤ g.length ∧ (st.map Value.category).sum ≤ 8 ∧
              (((f.drop sp.toNatClampNeg).take n.toNatClampNeg).all fun v => ab_fit t1 v && (t1 == 0 || ab_el h 6 v)) = true
            then ab_nx pc (sx_eL E l) st (ab_set h a1 (.inl (t1, ab_cpy f g sp.toNatClampNeg dp.toNatClampNeg n.toNatClampNeg))) else none
        | _, _ => none
      | _ => none) := by
  unfold sx_cp at hf
  split at hf
  · rename_i n dp a1 sp a0 st
    split at hf
    · rename_i t0 f t1 g hg0 hg1
      split at hf
      · rename_i hb
        simp only [Bool.and_eq_true, Bool.or_eq_true] at hb
        obtain ⟨b1, b2, b3, b4, b5, b6, b7, b8, b9⟩ := hb
        obtain rfl := Option.some.inj hf
        have e1 := Nat.eq_of_beq_eq_true b1
        have h3 := Nat.le_of_ble_eq_true b3
        have h4 := Nat.le_of_ble_eq_true b4
        have h5 := Nat.le_of_ble_eq_true b5
        have h6 := Nat.le_of_ble_eq_true b6
        have h7 := Nat.le_of_ble_eq_true b7
        have h8 := Nat.le_of_ble_eq_true b8
        subst e1
        have hn : n < 2147483648 := by omega
        have hdp : dp < 2147483648 := by omega
        have hsp : sp < 2147483648 := by omega
        have ec : sx_eS E (sx_cpy f g sp dp n) = ab_cpy (sx_eS E f) (sx_eS E g) sp dp n := by simp [sx_cpy, ab_cpy, sx_eS]
        refine ⟨ab_set h (E.2.2 a1) (.inl (t0, ab_cpy (sx_eS E f) (sx_eS E g) sp dp n)), ?_, R.set A (by rw [← ec]; rfl)⟩
        show (match h.1 (E.2.2 a0), h.1 (E.2.2 a1) with
          | some (.inl (t0, f)), some (.inl (t1, g)) => if ((t1 = 0 ∧ t0 = 0) ∨ (t1 = 6 ∧ t0 = 6)) ∧ ¬ iN sp < 0 ∧ ¬ iN dp < 0 ∧ ¬ iN n < 0 ∧ (iN sp).toNatClampNeg + (iN n).toNatClampNeg ≤ f.length ∧ (iN dp).toNatClampNeg + (iN n).toNatClampNeg ≤ g.length ∧ ((sx_eS E st).map Value.category).sum ≤ 8 ∧
              (((f.drop (iN sp).toNatClampNeg).take (iN n).toNatClampNeg).all fun v => ab_fit t1 v && (t1 == 0 || ab_el h 6 v)) = true
            then ab_nx pc (sx_eL E l) (sx_eS E st) (ab_set h (E.2.2 a1) (.inl (t1, ab_cpy f g (iN sp).toNatClampNeg (iN dp).toNatClampNeg (iN n).toNatClampNeg))) else none
          | _, _ => none) = _
        rw [R.2.1 a0 _ _ hg0 rfl, R.2.1 a1 _ _ hg1 rfl]
        show (if ((t0 = 0 ∧ t0 = 0) ∨ (t0 = 6 ∧ t0 = 6)) ∧ ¬ iN sp < 0 ∧ ¬ iN dp < 0 ∧ ¬ iN n < 0 ∧ (iN sp).toNatClampNeg + (iN n).toNatClampNeg ≤ (sx_eS E f).length ∧ (iN dp).toNatClampNeg + (iN n).toNatClampNeg ≤ (sx_eS E g).length ∧ ((sx_eS E st).map Value.category).sum ≤ 8 ∧
              ((((sx_eS E f).drop (iN sp).toNatClampNeg).take (iN n).toNatClampNeg).all fun v => ab_fit t0 v && (t0 == 0 || ab_el h 6 v)) = true
            then ab_nx pc (sx_eL E l) (sx_eS E st) (ab_set h (E.2.2 a1) (.inl (t0, ab_cpy (sx_eS E f) (sx_eS E g) (iN sp).toNatClampNeg (iN dp).toNatClampNeg (iN n).toNatClampNeg))) else none) = _
        have k1 : (t0 = 0 ∧ t0 = 0) ∨ (t0 = 6 ∧ t0 = 6) := by
          rcases b2 with z | z
          · exact Or.inl ⟨Nat.eq_of_beq_eq_true z, Nat.eq_of_beq_eq_true z⟩
          · exact Or.inr ⟨Nat.eq_of_beq_eq_true z, Nat.eq_of_beq_eq_true z⟩
        have k2 : ((((sx_eS E f).drop sp).take n).all fun v => ab_fit t0 v && (t0 == 0 || ab_el h 6 v)) = true := by
          rw [show ((sx_eS E f).drop sp).take n = sx_eS E ((f.drop sp).take n) by simp [sx_eS], List.all_eq_true]
          intro v hv
          obtain ⟨w, hw, rfl⟩ := List.mem_map.mp hv
          have h9 := List.all_eq_true.mp b9 w hw
          simp only [Bool.and_eq_true, Bool.or_eq_true] at h9
          rw [Bool.and_eq_true, Bool.or_eq_true]
          refine ⟨sx_fit_ok h9.1 H, h9.2.elim (fun z => Or.inl ?_) fun z => Or.inr (sx_el_ok z R)⟩
          rw [Nat.eq_of_beq_eq_true z]
          rfl
        rw [iN_clamp hn, iN_clamp hdp, iN_clamp hsp, sx_cats_ok, if_pos ⟨k1, iN_nn hsp, iN_nn hdp, iN_nn hn, by rw [List.length_map]; exact h6, by rw [List.length_map]; exact h7, h8, k2⟩]
        rfl
      · cases hf
    · cases hf
  · cases hf
theorem sx_acmp_ok {x y : sx_V} {b : Bool} (A : sx_A E h0 m) (hb : sx_acmp x y = some b) : ∃ u v, ab_rf (sx_ev E x) = some u ∧ ab_rf (sx_ev E y) = some v ∧ decide (u = v) = b := by
  have key : ∀ (z : sx_V) (q : Option Nat), sx_rf z = some q → ab_rf (sx_ev E z) = some (q.map E.2.2) := by
    intro z q hz
    obtain ⟨t, n⟩ := z
    unfold sx_rf at hz
    split at hz
    · rename_i e; cases e; cases hz; rfl
    · rename_i e; cases e; cases hz; rfl
    · cases hz
  unfold sx_acmp at hb
  split at hb
  · rename_i h1 h2
    exact ⟨_, _, key _ _ h1, key _ _ h2, by cases hb; rfl⟩
  · rename_i a c h1 h2
    refine ⟨_, _, key _ _ h1, key _ _ h2, ?_⟩
    cases hb
    show decide (some (E.2.2 a) = some (E.2.2 c)) = Nat.beq a c
    by_cases e : a = c
    · subst e
      simp
    · rw [decide_eq_false fun z => e (A.inj (Option.some.inj z))]
      exact (Bool.eq_false_iff.mpr fun z => e (Nat.eq_of_beq_eq_true z)).symm
  · rename_i u v n1 n2 h1 h2
    refine ⟨_, _, key _ _ h1, key _ _ h2, ?_⟩
    cases hb
    cases u with
    | none =>
      cases v with
      | none => exact (n1 rfl rfl).elim
      | some b => rfl
    | some a =>
      cases v with
      | none => rfl
      | some b => exact (n2 a b rfl rfl).elim
  · cases hb
end SXT
