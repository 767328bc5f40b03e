/-! SMALL NUMBERS AND THE SMALLEST METHODS. -/
theorem fi0 {x : Int32} : ab_fit 0 (.int x) = true := rfl
theorem fi10 : ab_fit 1 (.int (iN 0)) = true := by decide
theorem fi11 : ab_fit 1 (.int (iN 1)) = true := by decide
theorem fi3 {x : Int64} : ab_fit 3 (.long x) = true := rfl
theorem fi6r {a : Nat} : ab_fit 6 (.ref a) = true := rfl
theorem fi6n : ab_fit 6 .null = true := rfl
def ib (b : Bool) : Value := .int (iN (if b then 1 else 0))
theorem fi1b {b : Bool} : ab_fit 1 (ib b) = true := by cases b <;> decide
theorem cat_i {x : Int32} : (Value.int x).category = 1 := by rw [show (Value.int x).category = 1 from rfl]
theorem cat_r {a : Nat} : (Value.ref a).category = 1 := by rw [show (Value.ref a).category = 1 from rfl]
theorem cat_n : Value.null.category = 1 := by rw [show Value.null.category = 1 from rfl]
theorem cat_j {x : Int64} : (Value.long x).category = 2 := by rw [show (Value.long x).category = 2 from rfl]
theorem cat_d {x : UInt64} : (Value.double x).category = 2 := by rw [show (Value.double x).category = 2 from rfl]
theorem iN_dec {x : Int32} : x + Int32.ofInt (-1) = x - iN 1 := by
  rw [Int32.sub_eq_add_neg]
  congr 1
def wv (o : Option Value) (f : Value → Prop) : Prop := match o with
  | some v => f v
  | none => False
theorem wv_s {v : Value} {f : Value → Prop} : wv (some v) f = f v := rfl
theorem wg_e {ci k : Nat} {fs : List Value} {f : Value → Prop} : wg (some (.inr (ci, fs))) ci k f = wv fs[k]? f := by
  refine propext ⟨fun ⟨fs', v', h1, h2, h3⟩ => ?_, fun h3 => ?_⟩
  · cases h1
    rw [h2]
    exact h3
  · cases hx : fs[k]? with
    | none => rw [hx] at h3; exact h3.elim
    | some v => rw [hx] at h3; exact ⟨fs, v, rfl, hx, h3⟩
theorem wa_of {o : Option ab_C} {k t n : Nat} {xs : List Value} {v : Value} {f : Value → Prop} (ho : o = some (.inl (t, xs))) (ht : t % 8 = k) (hn : n < 2147483648) (hx : xs[n]? = some v) (hf : ab_fit k v = true) : wa o k (iN n) f = f v := by
  refine propext ⟨fun ⟨t', xs', v', h1, h2, h3, h4, h5, h6⟩ => ?_, fun h3 => ⟨t, xs, v, ho, ht, iN_nn hn, by rw [iN_clamp hn]; exact hx, hf, h3⟩⟩
  cases ho.symm.trans h1
  rw [iN_clamp hn] at h4
  cases hx.symm.trans h4
  exact h6
theorem wt_of {h : ab_H} {o : Option ab_C} {k t n : Nat} {xs : List Value} {v : Value} {f : ab_C → Prop} (ho : o = some (.inl (t, xs))) (ht : t % 8 = k) (h1000 : t < 1000) (hf : ab_fit k v = true) (hn : n < 2147483648) (hl : n < xs.length) (he : k = 6 → ab_el h t v = true) : wt h o k (iN n) v f = f (.inl (t, xs.set n v)) := by
  refine propext ⟨fun ⟨t', xs', h1, h2, h3, h4, h5, h6, h7, h8⟩ => ?_, fun h3 => ⟨t, xs, ho, ht, h1000, hf, iN_nn hn, by rw [iN_clamp hn]; exact hl, he, by rw [iN_clamp hn]; exact h3⟩⟩
  cases ho.symm.trans h1
  rw [iN_clamp hn] at h8
  exact h8
section SPQ
variable {sv : Nat → Value} {d : Nat} {Q : ab_Q} {h : ab_H}
theorem sp_isFunction_y {x : Int32} (h0 : ¬ x < iN 0) (h1 : x < iN 5) (hQ : Q (.inl (some (.int (iN 1)))) h) : ab_run sv tb_mt (d + 1) y_Swap_isFunction [.int x] h Q := by
  have h2 : ¬ iN 5 ≤ x := fun q => absurd h1 (Int32.not_lt.mpr q)
  rw [r_Swap_isFunction]
  simp only [e_Swap_isFunction_0, e_Swap_isFunction_1, e_Swap_isFunction_4, e_Swap_isFunction_5, e_Swap_isFunction_6, e_Swap_isFunction_9, e_Swap_isFunction_10, e_Swap_isFunction_13, e_Swap_isFunction_14, wl_i, wl_j, wl_d, wl_r, wl_n, wi_s, wn_s, wr_s, wg_e, wv_s, fi0, fi3, fi6r, fi6n, fi10, fi11, cat_i, cat_r, cat_n, cat_j, cat_d, List.map_nil, List.map_cons, List.sum_nil, List.sum_cons, List.getElem?_cons_zero, List.getElem?_cons_succ, List.length_cons, List.length_nil, ab_sto, ab_cl2, ab_bk, Option.toList_some, Option.toList_none, List.cons_append, List.nil_append, Nat.zero_le, Nat.reduceLeDiff, Nat.reduceAdd, Nat.reduceLT, List.set_cons_zero, List.set_cons_succ, iN_ltN, iN_leN, iN_eqN, iN_add, iN_m1, m1_iN, iN_neg, iN_dec, m1_lt, m1_le, iN_ltm, iN_lem, if_true, if_false, h0, h1, h2]
  exact hQ
theorem sp_isFunction_n {x : Int32} (h0 : x < iN 0 ∨ ¬ x < iN 5) (hQ : Q (.inl (some (.int (iN 0)))) h) : ab_run sv tb_mt (d + 1) y_Swap_isFunction [.int x] h Q := by
  rw [r_Swap_isFunction]
  by_cases q : x < iN 0
  · simp only [e_Swap_isFunction_0, e_Swap_isFunction_1, e_Swap_isFunction_4, e_Swap_isFunction_5, e_Swap_isFunction_6, e_Swap_isFunction_9, e_Swap_isFunction_10, e_Swap_isFunction_13, e_Swap_isFunction_14, wl_i, wl_j, wl_d, wl_r, wl_n, wi_s, wn_s, wr_s, wg_e, wv_s, fi0, fi3, fi6r, fi6n, fi10, fi11, cat_i, cat_r, cat_n, cat_j, cat_d, List.map_nil, List.map_cons, List.sum_nil, List.sum_cons, List.getElem?_cons_zero, List.getElem?_cons_succ, List.length_cons, List.length_nil, ab_sto, ab_cl2, ab_bk, Option.toList_some, Option.toList_none, List.cons_append, List.nil_append, Nat.zero_le, Nat.reduceLeDiff, Nat.reduceAdd, Nat.reduceLT, List.set_cons_zero, List.set_cons_succ, iN_ltN, iN_leN, iN_eqN, iN_add, iN_m1, m1_iN, iN_neg, iN_dec, m1_lt, m1_le, iN_ltm, iN_lem, if_true, if_false, q]
    exact hQ
  · have h1 : ¬ x < iN 5 := h0.elim (fun z => absurd z q) id
    have h2 : iN 5 ≤ x := Int32.not_lt.mp h1
    simp only [e_Swap_isFunction_0, e_Swap_isFunction_1, e_Swap_isFunction_4, e_Swap_isFunction_5, e_Swap_isFunction_6, e_Swap_isFunction_9, e_Swap_isFunction_10, e_Swap_isFunction_13, e_Swap_isFunction_14, wl_i, wl_j, wl_d, wl_r, wl_n, wi_s, wn_s, wr_s, wg_e, wv_s, fi0, fi3, fi6r, fi6n, fi10, fi11, cat_i, cat_r, cat_n, cat_j, cat_d, List.map_nil, List.map_cons, List.sum_nil, List.sum_cons, List.getElem?_cons_zero, List.getElem?_cons_succ, List.length_cons, List.length_nil, ab_sto, ab_cl2, ab_bk, Option.toList_some, Option.toList_none, List.cons_append, List.nil_append, Nat.zero_le, Nat.reduceLeDiff, Nat.reduceAdd, Nat.reduceLT, List.set_cons_zero, List.set_cons_succ, iN_ltN, iN_leN, iN_eqN, iN_add, iN_m1, m1_iN, iN_neg, iN_dec, m1_lt, m1_le, iN_ltm, iN_lem, if_true, if_false, q, h1, h2]
    exact hQ
theorem sp_isKind_y {x : Int32} (h0 : ¬ x < iN 0) (h1 : x < iN 3) (hQ : Q (.inl (some (.int (iN 1)))) h) : ab_run sv tb_mt (d + 1) y_Swap_isKind [.int x] h Q := by
  have h2 : ¬ iN 3 ≤ x := fun q => absurd h1 (Int32.not_lt.mpr q)
  rw [r_Swap_isKind]
  simp only [e_Swap_isKind_0, e_Swap_isKind_1, e_Swap_isKind_4, e_Swap_isKind_5, e_Swap_isKind_6, e_Swap_isKind_9, e_Swap_isKind_10, e_Swap_isKind_13, e_Swap_isKind_14, wl_i, wl_j, wl_d, wl_r, wl_n, wi_s, wn_s, wr_s, wg_e, wv_s, fi0, fi3, fi6r, fi6n, fi10, fi11, cat_i, cat_r, cat_n, cat_j, cat_d, List.map_nil, List.map_cons, List.sum_nil, List.sum_cons, List.getElem?_cons_zero, List.getElem?_cons_succ, List.length_cons, List.length_nil, ab_sto, ab_cl2, ab_bk, Option.toList_some, Option.toList_none, List.cons_append, List.nil_append, Nat.zero_le, Nat.reduceLeDiff, Nat.reduceAdd, Nat.reduceLT, List.set_cons_zero, List.set_cons_succ, iN_ltN, iN_leN, iN_eqN, iN_add, iN_m1, m1_iN, iN_neg, iN_dec, m1_lt, m1_le, iN_ltm, iN_lem, if_true, if_false, h0, h1, h2]
  exact hQ
theorem sp_isKind_n {x : Int32} (h0 : x < iN 0 ∨ ¬ x < iN 3) (hQ : Q (.inl (some (.int (iN 0)))) h) : ab_run sv tb_mt (d + 1) y_Swap_isKind [.int x] h Q := by
  rw [r_Swap_isKind]
  by_cases q : x < iN 0
  · simp only [e_Swap_isKind_0, e_Swap_isKind_1, e_Swap_isKind_4, e_Swap_isKind_5, e_Swap_isKind_6, e_Swap_isKind_9, e_Swap_isKind_10, e_Swap_isKind_13, e_Swap_isKind_14, wl_i, wl_j, wl_d, wl_r, wl_n, wi_s, wn_s, wr_s, wg_e, wv_s, fi0, fi3, fi6r, fi6n, fi10, fi11, cat_i, cat_r, cat_n, cat_j, cat_d, List.map_nil, List.map_cons, List.sum_nil, List.sum_cons, List.getElem?_cons_zero, List.getElem?_cons_succ, List.length_cons, List.length_nil, ab_sto, ab_cl2, ab_bk, Option.toList_some, Option.toList_none, List.cons_append, List.nil_append, Nat.zero_le, Nat.reduceLeDiff, Nat.reduceAdd, Nat.reduceLT, List.set_cons_zero, List.set_cons_succ, iN_ltN, iN_leN, iN_eqN, iN_add, iN_m1, m1_iN, iN_neg, iN_dec, m1_lt, m1_le, iN_ltm, iN_lem, if_true, if_false, q]
    exact hQ
  · have h1 : ¬ x < iN 3 := h0.elim (fun z => absurd z q) id
    have h2 : iN 3 ≤ x := Int32.not_lt.mp h1
    simp only [e_Swap_isKind_0, e_Swap_isKind_1, e_Swap_isKind_4, e_Swap_isKind_5, e_Swap_isKind_6, e_Swap_isKind_9, e_Swap_isKind_10, e_Swap_isKind_13, e_Swap_isKind_14, wl_i, wl_j, wl_d, wl_r, wl_n, wi_s, wn_s, wr_s, wg_e, wv_s, fi0, fi3, fi6r, fi6n, fi10, fi11, cat_i, cat_r, cat_n, cat_j, cat_d, List.map_nil, List.map_cons, List.sum_nil, List.sum_cons, List.getElem?_cons_zero, List.getElem?_cons_succ, List.length_cons, List.length_nil, ab_sto, ab_cl2, ab_bk, Option.toList_some, Option.toList_none, List.cons_append, List.nil_append, Nat.zero_le, Nat.reduceLeDiff, Nat.reduceAdd, Nat.reduceLT, List.set_cons_zero, List.set_cons_succ, iN_ltN, iN_leN, iN_eqN, iN_add, iN_m1, m1_iN, iN_neg, iN_dec, m1_lt, m1_le, iN_ltm, iN_lem, if_true, if_false, q, h1, h2]
    exact hQ
theorem sp_isThread_y {x : Int32} (h0 : ¬ x < iN 0) (h1 : x < iN 3) (hQ : Q (.inl (some (.int (iN 1)))) h) : ab_run sv tb_mt (d + 1) y_Swap_isThread [.int x] h Q := by
  have h2 : ¬ iN 3 ≤ x := fun q => absurd h1 (Int32.not_lt.mpr q)
  rw [r_Swap_isThread]
  simp only [e_Swap_isThread_0, e_Swap_isThread_1, e_Swap_isThread_4, e_Swap_isThread_5, e_Swap_isThread_6, e_Swap_isThread_9, e_Swap_isThread_10, e_Swap_isThread_13, e_Swap_isThread_14, wl_i, wl_j, wl_d, wl_r, wl_n, wi_s, wn_s, wr_s, wg_e, wv_s, fi0, fi3, fi6r, fi6n, fi10, fi11, cat_i, cat_r, cat_n, cat_j, cat_d, List.map_nil, List.map_cons, List.sum_nil, List.sum_cons, List.getElem?_cons_zero, List.getElem?_cons_succ, List.length_cons, List.length_nil, ab_sto, ab_cl2, ab_bk, Option.toList_some, Option.toList_none, List.cons_append, List.nil_append, Nat.zero_le, Nat.reduceLeDiff, Nat.reduceAdd, Nat.reduceLT, List.set_cons_zero, List.set_cons_succ, iN_ltN, iN_leN, iN_eqN, iN_add, iN_m1, m1_iN, iN_neg, iN_dec, m1_lt, m1_le, iN_ltm, iN_lem, if_true, if_false, h0, h1, h2]
  exact hQ
theorem sp_isThread_n {x : Int32} (h0 : x < iN 0 ∨ ¬ x < iN 3) (hQ : Q (.inl (some (.int (iN 0)))) h) : ab_run sv tb_mt (d + 1) y_Swap_isThread [.int x] h Q := by
  rw [r_Swap_isThread]
  by_cases q : x < iN 0
  · simp only [e_Swap_isThread_0, e_Swap_isThread_1, e_Swap_isThread_4, e_Swap_isThread_5, e_Swap_isThread_6, e_Swap_isThread_9, e_Swap_isThread_10, e_Swap_isThread_13, e_Swap_isThread_14, wl_i, wl_j, wl_d, wl_r, wl_n, wi_s, wn_s, wr_s, wg_e, wv_s, fi0, fi3, fi6r, fi6n, fi10, fi11, cat_i, cat_r, cat_n, cat_j, cat_d, List.map_nil, List.map_cons, List.sum_nil, List.sum_cons, List.getElem?_cons_zero, List.getElem?_cons_succ, List.length_cons, List.length_nil, ab_sto, ab_cl2, ab_bk, Option.toList_some, Option.toList_none, List.cons_append, List.nil_append, Nat.zero_le, Nat.reduceLeDiff, Nat.reduceAdd, Nat.reduceLT, List.set_cons_zero, List.set_cons_succ, iN_ltN, iN_leN, iN_eqN, iN_add, iN_m1, m1_iN, iN_neg, iN_dec, m1_lt, m1_le, iN_ltm, iN_lem, if_true, if_false, q]
    exact hQ
  · have h1 : ¬ x < iN 3 := h0.elim (fun z => absurd z q) id
    have h2 : iN 3 ≤ x := Int32.not_lt.mp h1
    simp only [e_Swap_isThread_0, e_Swap_isThread_1, e_Swap_isThread_4, e_Swap_isThread_5, e_Swap_isThread_6, e_Swap_isThread_9, e_Swap_isThread_10, e_Swap_isThread_13, e_Swap_isThread_14, wl_i, wl_j, wl_d, wl_r, wl_n, wi_s, wn_s, wr_s, wg_e, wv_s, fi0, fi3, fi6r, fi6n, fi10, fi11, cat_i, cat_r, cat_n, cat_j, cat_d, List.map_nil, List.map_cons, List.sum_nil, List.sum_cons, List.getElem?_cons_zero, List.getElem?_cons_succ, List.length_cons, List.length_nil, ab_sto, ab_cl2, ab_bk, Option.toList_some, Option.toList_none, List.cons_append, List.nil_append, Nat.zero_le, Nat.reduceLeDiff, Nat.reduceAdd, Nat.reduceLT, List.set_cons_zero, List.set_cons_succ, iN_ltN, iN_leN, iN_eqN, iN_add, iN_m1, m1_iN, iN_neg, iN_dec, m1_lt, m1_le, iN_ltm, iN_lem, if_true, if_false, q, h1, h2]
    exact hQ
theorem sp_isLocal_y {x : Int32} (h0 : ¬ x < iN 0) (h1 : x < iN 4) (hQ : Q (.inl (some (.int (iN 1)))) h) : ab_run sv tb_mt (d + 1) y_Swap_isLocal [.int x] h Q := by
  have h2 : ¬ iN 4 ≤ x := fun q => absurd h1 (Int32.not_lt.mpr q)
  rw [r_Swap_isLocal]
  simp only [e_Swap_isLocal_0, e_Swap_isLocal_1, e_Swap_isLocal_4, e_Swap_isLocal_5, e_Swap_isLocal_6, e_Swap_isLocal_9, e_Swap_isLocal_10, e_Swap_isLocal_13, e_Swap_isLocal_14, wl_i, wl_j, wl_d, wl_r, wl_n, wi_s, wn_s, wr_s, wg_e, wv_s, fi0, fi3, fi6r, fi6n, fi10, fi11, cat_i, cat_r, cat_n, cat_j, cat_d, List.map_nil, List.map_cons, List.sum_nil, List.sum_cons, List.getElem?_cons_zero, List.getElem?_cons_succ, List.length_cons, List.length_nil, ab_sto, ab_cl2, ab_bk, Option.toList_some, Option.toList_none, List.cons_append, List.nil_append, Nat.zero_le, Nat.reduceLeDiff, Nat.reduceAdd, Nat.reduceLT, List.set_cons_zero, List.set_cons_succ, iN_ltN, iN_leN, iN_eqN, iN_add, iN_m1, m1_iN, iN_neg, iN_dec, m1_lt, m1_le, iN_ltm, iN_lem, if_true, if_false, h0, h1, h2]
  exact hQ
theorem sp_isLocal_n {x : Int32} (h0 : x < iN 0 ∨ ¬ x < iN 4) (hQ : Q (.inl (some (.int (iN 0)))) h) : ab_run sv tb_mt (d + 1) y_Swap_isLocal [.int x] h Q := by
  rw [r_Swap_isLocal]
  by_cases q : x < iN 0
  · simp only [e_Swap_isLocal_0, e_Swap_isLocal_1, e_Swap_isLocal_4, e_Swap_isLocal_5, e_Swap_isLocal_6, e_Swap_isLocal_9, e_Swap_isLocal_10, e_Swap_isLocal_13, e_Swap_isLocal_14, wl_i, wl_j, wl_d, wl_r, wl_n, wi_s, wn_s, wr_s, wg_e, wv_s, fi0, fi3, fi6r, fi6n, fi10, fi11, cat_i, cat_r, cat_n, cat_j, cat_d, List.map_nil, List.map_cons, List.sum_nil, List.sum_cons, List.getElem?_cons_zero, List.getElem?_cons_succ, List.length_cons, List.length_nil, ab_sto, ab_cl2, ab_bk, Option.toList_some, Option.toList_none, List.cons_append, List.nil_append, Nat.zero_le, Nat.reduceLeDiff, Nat.reduceAdd, Nat.reduceLT, List.set_cons_zero, List.set_cons_succ, iN_ltN, iN_leN, iN_eqN, iN_add, iN_m1, m1_iN, iN_neg, iN_dec, m1_lt, m1_le, iN_ltm, iN_lem, if_true, if_false, q]
    exact hQ
  · have h1 : ¬ x < iN 4 := h0.elim (fun z => absurd z q) id
    have h2 : iN 4 ≤ x := Int32.not_lt.mp h1
    simp only [e_Swap_isLocal_0, e_Swap_isLocal_1, e_Swap_isLocal_4, e_Swap_isLocal_5, e_Swap_isLocal_6, e_Swap_isLocal_9, e_Swap_isLocal_10, e_Swap_isLocal_13, e_Swap_isLocal_14, wl_i, wl_j, wl_d, wl_r, wl_n, wi_s, wn_s, wr_s, wg_e, wv_s, fi0, fi3, fi6r, fi6n, fi10, fi11, cat_i, cat_r, cat_n, cat_j, cat_d, List.map_nil, List.map_cons, List.sum_nil, List.sum_cons, List.getElem?_cons_zero, List.getElem?_cons_succ, List.length_cons, List.length_nil, ab_sto, ab_cl2, ab_bk, Option.toList_some, Option.toList_none, List.cons_append, List.nil_append, Nat.zero_le, Nat.reduceLeDiff, Nat.reduceAdd, Nat.reduceLT, List.set_cons_zero, List.set_cons_succ, iN_ltN, iN_leN, iN_eqN, iN_add, iN_m1, m1_iN, iN_neg, iN_dec, m1_lt, m1_le, iN_ltm, iN_lem, if_true, if_false, q, h1, h2]
    exact hQ
theorem sp_isEntry_y {x : Int32} (h0 : ¬ x < iN 0) (h1 : x < iN 4) (hQ : Q (.inl (some (.int (iN 1)))) h) : ab_run sv tb_mt (d + 1) y_Swap_isEntry [.int x] h Q := by
  have h2 : ¬ iN 4 ≤ x := fun q => absurd h1 (Int32.not_lt.mpr q)
  rw [r_Swap_isEntry]
  simp only [e_Swap_isEntry_0, e_Swap_isEntry_1, e_Swap_isEntry_4, e_Swap_isEntry_5, e_Swap_isEntry_6, e_Swap_isEntry_9, e_Swap_isEntry_10, e_Swap_isEntry_13, e_Swap_isEntry_14, wl_i, wl_j, wl_d, wl_r, wl_n, wi_s, wn_s, wr_s, wg_e, wv_s, fi0, fi3, fi6r, fi6n, fi10, fi11, cat_i, cat_r, cat_n, cat_j, cat_d, List.map_nil, List.map_cons, List.sum_nil, List.sum_cons, List.getElem?_cons_zero, List.getElem?_cons_succ, List.length_cons, List.length_nil, ab_sto, ab_cl2, ab_bk, Option.toList_some, Option.toList_none, List.cons_append, List.nil_append, Nat.zero_le, Nat.reduceLeDiff, Nat.reduceAdd, Nat.reduceLT, List.set_cons_zero, List.set_cons_succ, iN_ltN, iN_leN, iN_eqN, iN_add, iN_m1, m1_iN, iN_neg, iN_dec, m1_lt, m1_le, iN_ltm, iN_lem, if_true, if_false, h0, h1, h2]
  exact hQ
theorem sp_isEntry_n {x : Int32} (h0 : x < iN 0 ∨ ¬ x < iN 4) (hQ : Q (.inl (some (.int (iN 0)))) h) : ab_run sv tb_mt (d + 1) y_Swap_isEntry [.int x] h Q := by
  rw [r_Swap_isEntry]
  by_cases q : x < iN 0
  · simp only [e_Swap_isEntry_0, e_Swap_isEntry_1, e_Swap_isEntry_4, e_Swap_isEntry_5, e_Swap_isEntry_6, e_Swap_isEntry_9, e_Swap_isEntry_10, e_Swap_isEntry_13, e_Swap_isEntry_14, wl_i, wl_j, wl_d, wl_r, wl_n, wi_s, wn_s, wr_s, wg_e, wv_s, fi0, fi3, fi6r, fi6n, fi10, fi11, cat_i, cat_r, cat_n, cat_j, cat_d, List.map_nil, List.map_cons, List.sum_nil, List.sum_cons, List.getElem?_cons_zero, List.getElem?_cons_succ, List.length_cons, List.length_nil, ab_sto, ab_cl2, ab_bk, Option.toList_some, Option.toList_none, List.cons_append, List.nil_append, Nat.zero_le, Nat.reduceLeDiff, Nat.reduceAdd, Nat.reduceLT, List.set_cons_zero, List.set_cons_succ, iN_ltN, iN_leN, iN_eqN, iN_add, iN_m1, m1_iN, iN_neg, iN_dec, m1_lt, m1_le, iN_ltm, iN_lem, if_true, if_false, q]
    exact hQ
  · have h1 : ¬ x < iN 4 := h0.elim (fun z => absurd z q) id
    have h2 : iN 4 ≤ x := Int32.not_lt.mp h1
    simp only [e_Swap_isEntry_0, e_Swap_isEntry_1, e_Swap_isEntry_4, e_Swap_isEntry_5, e_Swap_isEntry_6, e_Swap_isEntry_9, e_Swap_isEntry_10, e_Swap_isEntry_13, e_Swap_isEntry_14, wl_i, wl_j, wl_d, wl_r, wl_n, wi_s, wn_s, wr_s, wg_e, wv_s, fi0, fi3, fi6r, fi6n, fi10, fi11, cat_i, cat_r, cat_n, cat_j, cat_d, List.map_nil, List.map_cons, List.sum_nil, List.sum_cons, List.getElem?_cons_zero, List.getElem?_cons_succ, List.length_cons, List.length_nil, ab_sto, ab_cl2, ab_bk, Option.toList_some, Option.toList_none, List.cons_append, List.nil_append, Nat.zero_le, Nat.reduceLeDiff, Nat.reduceAdd, Nat.reduceLT, List.set_cons_zero, List.set_cons_succ, iN_ltN, iN_leN, iN_eqN, iN_add, iN_m1, m1_iN, iN_neg, iN_dec, m1_lt, m1_le, iN_ltm, iN_lem, if_true, if_false, q, h1, h2]
    exact hQ
theorem sp_isPlace_y {x : Int32} (h0 : ¬ x < iN 0) (h1 : x < iN 11) (hQ : Q (.inl (some (.int (iN 1)))) h) : ab_run sv tb_mt (d + 1) y_Swap_isPlace [.int x] h Q := by
  have h2 : ¬ iN 11 ≤ x := fun q => absurd h1 (Int32.not_lt.mpr q)
  rw [r_Swap_isPlace]
  simp only [e_Swap_isPlace_0, e_Swap_isPlace_1, e_Swap_isPlace_4, e_Swap_isPlace_5, e_Swap_isPlace_7, e_Swap_isPlace_10, e_Swap_isPlace_11, e_Swap_isPlace_14, e_Swap_isPlace_15, wl_i, wl_j, wl_d, wl_r, wl_n, wi_s, wn_s, wr_s, wg_e, wv_s, fi0, fi3, fi6r, fi6n, fi10, fi11, cat_i, cat_r, cat_n, cat_j, cat_d, List.map_nil, List.map_cons, List.sum_nil, List.sum_cons, List.getElem?_cons_zero, List.getElem?_cons_succ, List.length_cons, List.length_nil, ab_sto, ab_cl2, ab_bk, Option.toList_some, Option.toList_none, List.cons_append, List.nil_append, Nat.zero_le, Nat.reduceLeDiff, Nat.reduceAdd, Nat.reduceLT, List.set_cons_zero, List.set_cons_succ, iN_ltN, iN_leN, iN_eqN, iN_add, iN_m1, m1_iN, iN_neg, iN_dec, m1_lt, m1_le, iN_ltm, iN_lem, if_true, if_false, h0, h1, h2]
  exact hQ
theorem sp_isPlace_n {x : Int32} (h0 : x < iN 0 ∨ ¬ x < iN 11) (hQ : Q (.inl (some (.int (iN 0)))) h) : ab_run sv tb_mt (d + 1) y_Swap_isPlace [.int x] h Q := by
  rw [r_Swap_isPlace]
  by_cases q : x < iN 0
  · simp only [e_Swap_isPlace_0, e_Swap_isPlace_1, e_Swap_isPlace_4, e_Swap_isPlace_5, e_Swap_isPlace_7, e_Swap_isPlace_10, e_Swap_isPlace_11, e_Swap_isPlace_14, e_Swap_isPlace_15, wl_i, wl_j, wl_d, wl_r, wl_n, wi_s, wn_s, wr_s, wg_e, wv_s, fi0, fi3, fi6r, fi6n, fi10, fi11, cat_i, cat_r, cat_n, cat_j, cat_d, List.map_nil, List.map_cons, List.sum_nil, List.sum_cons, List.getElem?_cons_zero, List.getElem?_cons_succ, List.length_cons, List.length_nil, ab_sto, ab_cl2, ab_bk, Option.toList_some, Option.toList_none, List.cons_append, List.nil_append, Nat.zero_le, Nat.reduceLeDiff, Nat.reduceAdd, Nat.reduceLT, List.set_cons_zero, List.set_cons_succ, iN_ltN, iN_leN, iN_eqN, iN_add, iN_m1, m1_iN, iN_neg, iN_dec, m1_lt, m1_le, iN_ltm, iN_lem, if_true, if_false, q]
    exact hQ
  · have h1 : ¬ x < iN 11 := h0.elim (fun z => absurd z q) id
    have h2 : iN 11 ≤ x := Int32.not_lt.mp h1
    simp only [e_Swap_isPlace_0, e_Swap_isPlace_1, e_Swap_isPlace_4, e_Swap_isPlace_5, e_Swap_isPlace_7, e_Swap_isPlace_10, e_Swap_isPlace_11, e_Swap_isPlace_14, e_Swap_isPlace_15, wl_i, wl_j, wl_d, wl_r, wl_n, wi_s, wn_s, wr_s, wg_e, wv_s, fi0, fi3, fi6r, fi6n, fi10, fi11, cat_i, cat_r, cat_n, cat_j, cat_d, List.map_nil, List.map_cons, List.sum_nil, List.sum_cons, List.getElem?_cons_zero, List.getElem?_cons_succ, List.length_cons, List.length_nil, ab_sto, ab_cl2, ab_bk, Option.toList_some, Option.toList_none, List.cons_append, List.nil_append, Nat.zero_le, Nat.reduceLeDiff, Nat.reduceAdd, Nat.reduceLT, List.set_cons_zero, List.set_cons_succ, iN_ltN, iN_leN, iN_eqN, iN_add, iN_m1, m1_iN, iN_neg, iN_dec, m1_lt, m1_le, iN_ltm, iN_lem, if_true, if_false, q, h1, h2]
    exact hQ
theorem sp_checkIndex {x y : Int32} (h0 : ¬ x < iN 0) (h1 : x < y) (hQ : Q (.inl (some (.int x))) h) : ab_run sv tb_mt (d + 2) y_Objects_checkIndex [.int x, .int y] h Q := by
  rw [r_Objects_checkIndex]
  simp only [e_Objects_checkIndex_0, e_Objects_checkIndex_1, e_Objects_checkIndex_2, e_Objects_checkIndex_3, e_Objects_checkIndex_6, wl_i, wl_j, wl_d, wl_r, wl_n, wi_s, wn_s, wr_s, wg_e, wv_s, fi0, fi3, fi6r, fi6n, fi10, fi11, cat_i, cat_r, cat_n, cat_j, cat_d, List.map_nil, List.map_cons, List.sum_nil, List.sum_cons, List.getElem?_cons_zero, List.getElem?_cons_succ, List.length_cons, List.length_nil, ab_sto, ab_cl2, ab_bk, Option.toList_some, Option.toList_none, List.cons_append, List.nil_append, Nat.zero_le, Nat.reduceLeDiff, Nat.reduceAdd, Nat.reduceLT, List.set_cons_zero, List.set_cons_succ, iN_ltN, iN_leN, iN_eqN, iN_add, iN_m1, m1_iN, iN_neg, iN_dec, m1_lt, m1_le, iN_ltm, iN_lem, if_true, if_false]
  rw [tb_run]
  refine ⟨Nat.le_of_ble_eq_true rfl, ?_⟩
  show tb_W sv d y_Preconditions_checkIndex _ 0 [some (.int x), some (.int y), some .null] [] h
  simp only [e_Preconditions_checkIndex_0, e_Preconditions_checkIndex_1, e_Preconditions_checkIndex_4, e_Preconditions_checkIndex_5, e_Preconditions_checkIndex_6, e_Preconditions_checkIndex_9, e_Preconditions_checkIndex_10, e_Preconditions_checkIndex_11, e_Preconditions_checkIndex_16, e_Preconditions_checkIndex_17, wl_i, wl_j, wl_d, wl_r, wl_n, wi_s, wn_s, wr_s, wg_e, wv_s, fi0, fi3, fi6r, fi6n, fi10, fi11, cat_i, cat_r, cat_n, cat_j, cat_d, List.map_nil, List.map_cons, List.sum_nil, List.sum_cons, List.getElem?_cons_zero, List.getElem?_cons_succ, List.length_cons, List.length_nil, ab_sto, ab_cl2, ab_bk, Option.toList_some, Option.toList_none, List.cons_append, List.nil_append, Nat.zero_le, Nat.reduceLeDiff, Nat.reduceAdd, Nat.reduceLT, List.set_cons_zero, List.set_cons_succ, iN_ltN, iN_leN, iN_eqN, iN_add, iN_m1, m1_iN, iN_neg, iN_dec, m1_lt, m1_le, iN_ltm, iN_lem, if_true, if_false, h0, h1, if_true, if_false, e_Objects_checkIndex_0, e_Objects_checkIndex_1, e_Objects_checkIndex_2, e_Objects_checkIndex_3, e_Objects_checkIndex_6]
  exact hQ
theorem sp_size {a : Nat} {v w : Value} {x : Int32} (ha : h.1 a = some (.inr (kc_ArrayList, [v, w, .int x]))) (hQ : Q (.inl (some (.int x))) h) : ab_run sv tb_mt (d + 1) y_ArrayList_size [.ref a] h Q := by
  rw [r_ArrayList_size]
  simp only [e_ArrayList_size_0, e_ArrayList_size_1, e_ArrayList_size_4, wl_i, wl_j, wl_d, wl_r, wl_n, wi_s, wn_s, wr_s, wg_e, wv_s, fi0, fi3, fi6r, fi6n, fi10, fi11, cat_i, cat_r, cat_n, cat_j, cat_d, List.map_nil, List.map_cons, List.sum_nil, List.sum_cons, List.getElem?_cons_zero, List.getElem?_cons_succ, List.length_cons, List.length_nil, ab_sto, ab_cl2, ab_bk, Option.toList_some, Option.toList_none, List.cons_append, List.nil_append, Nat.zero_le, Nat.reduceLeDiff, Nat.reduceAdd, Nat.reduceLT, List.set_cons_zero, List.set_cons_succ, iN_ltN, iN_leN, iN_eqN, iN_add, iN_m1, m1_iN, iN_neg, iN_dec, m1_lt, m1_le, iN_ltm, iN_lem, if_true, if_false, ha]
  exact hQ
theorem sp_elementData {a e t n b : Nat} {v w : Value} {xs : List Value} (ha : h.1 a = some (.inr (kc_ArrayList, [v, .ref e, w]))) (he : h.1 e = some (.inl (t, xs))) (ht : t % 8 = 6) (hn : n < 2147483648) (hx : xs[n]? = some (.ref b)) (hQ : Q (.inl (some (.ref b))) h) :
    ab_run sv tb_mt (d + 1) y_ArrayList_elementData [.ref a, .int (iN n)] h Q := by
  rw [r_ArrayList_elementData]
  simp only [e_ArrayList_elementData_0, e_ArrayList_elementData_1, e_ArrayList_elementData_4, e_ArrayList_elementData_5, e_ArrayList_elementData_6, wl_i, wl_j, wl_d, wl_r, wl_n, wi_s, wn_s, wr_s, wg_e, wv_s, fi0, fi3, fi6r, fi6n, fi10, fi11, cat_i, cat_r, cat_n, cat_j, cat_d, List.map_nil, List.map_cons, List.sum_nil, List.sum_cons, List.getElem?_cons_zero, List.getElem?_cons_succ, List.length_cons, List.length_nil, ab_sto, ab_cl2, ab_bk, Option.toList_some, Option.toList_none, List.cons_append, List.nil_append, Nat.zero_le, Nat.reduceLeDiff, Nat.reduceAdd, Nat.reduceLT, List.set_cons_zero, List.set_cons_succ, iN_ltN, iN_leN, iN_eqN, iN_add, iN_m1, m1_iN, iN_neg, iN_dec, m1_lt, m1_le, iN_ltm, iN_lem, if_true, if_false, ha, wa_of he ht hn hx fi6r]
  exact hQ
theorem sp_get {a e t n m b : Nat} {v : Value} {xs : List Value} (ha : h.1 a = some (.inr (kc_ArrayList, [v, .ref e, .int (iN m)]))) (he : h.1 e = some (.inl (t, xs))) (ht : t % 8 = 6) (hm : m < 2147483648) (hnm : n < m) (hx : xs[n]? = some (.ref b)) (hQ : Q (.inl (some (.ref b))) h) :
    ab_run sv tb_mt (d + 3) y_ArrayList_get [.ref a, .int (iN n)] h Q := by
  have hn : n < 2147483648 := by omega
  rw [r_ArrayList_get]
  simp only [e_ArrayList_get_0, e_ArrayList_get_1, e_ArrayList_get_2, e_ArrayList_get_5, e_ArrayList_get_8, e_ArrayList_get_9, e_ArrayList_get_10, e_ArrayList_get_11, e_ArrayList_get_14, wl_i, wl_j, wl_d, wl_r, wl_n, wi_s, wn_s, wr_s, wg_e, wv_s, fi0, fi3, fi6r, fi6n, fi10, fi11, cat_i, cat_r, cat_n, cat_j, cat_d, List.map_nil, List.map_cons, List.sum_nil, List.sum_cons, List.getElem?_cons_zero, List.getElem?_cons_succ, List.length_cons, List.length_nil, ab_sto, ab_cl2, ab_bk, Option.toList_some, Option.toList_none, List.cons_append, List.nil_append, Nat.zero_le, Nat.reduceLeDiff, Nat.reduceAdd, Nat.reduceLT, List.set_cons_zero, List.set_cons_succ, iN_ltN, iN_leN, iN_eqN, iN_add, iN_m1, m1_iN, iN_neg, iN_dec, m1_lt, m1_le, iN_ltm, iN_lem, if_true, if_false, ha]
  refine sp_checkIndex (by rw [iN_neg hn]; exact id) ((iN_lt hn hm).mpr hnm) ?_
  simp only [e_ArrayList_get_0, e_ArrayList_get_1, e_ArrayList_get_2, e_ArrayList_get_5, e_ArrayList_get_8, e_ArrayList_get_9, e_ArrayList_get_10, e_ArrayList_get_11, e_ArrayList_get_14, wl_i, wl_j, wl_d, wl_r, wl_n, wi_s, wn_s, wr_s, wg_e, wv_s, fi0, fi3, fi6r, fi6n, fi10, fi11, cat_i, cat_r, cat_n, cat_j, cat_d, List.map_nil, List.map_cons, List.sum_nil, List.sum_cons, List.getElem?_cons_zero, List.getElem?_cons_succ, List.length_cons, List.length_nil, ab_sto, ab_cl2, ab_bk, Option.toList_some, Option.toList_none, List.cons_append, List.nil_append, Nat.zero_le, Nat.reduceLeDiff, Nat.reduceAdd, Nat.reduceLT, List.set_cons_zero, List.set_cons_succ, iN_ltN, iN_leN, iN_eqN, iN_add, iN_m1, m1_iN, iN_neg, iN_dec, m1_lt, m1_le, iN_ltm, iN_lem, if_true, if_false, ha]
  refine sp_elementData (d := d + 1) ha he ht hn hx ?_
  simp only [e_ArrayList_get_0, e_ArrayList_get_1, e_ArrayList_get_2, e_ArrayList_get_5, e_ArrayList_get_8, e_ArrayList_get_9, e_ArrayList_get_10, e_ArrayList_get_11, e_ArrayList_get_14, wl_i, wl_j, wl_d, wl_r, wl_n, wi_s, wn_s, wr_s, wg_e, wv_s, fi0, fi3, fi6r, fi6n, fi10, fi11, cat_i, cat_r, cat_n, cat_j, cat_d, List.map_nil, List.map_cons, List.sum_nil, List.sum_cons, List.getElem?_cons_zero, List.getElem?_cons_succ, List.length_cons, List.length_nil, ab_sto, ab_cl2, ab_bk, Option.toList_some, Option.toList_none, List.cons_append, List.nil_append, Nat.zero_le, Nat.reduceLeDiff, Nat.reduceAdd, Nat.reduceLT, List.set_cons_zero, List.set_cons_succ, iN_ltN, iN_leN, iN_eqN, iN_add, iN_m1, m1_iN, iN_neg, iN_dec, m1_lt, m1_le, iN_ltm, iN_lem, if_true, if_false]
  exact hQ
theorem sp_isEmpty {a m : Nat} {v w : Value} (ha : h.1 a = some (.inr (kc_ArrayList, [v, w, .int (iN m)]))) (hm : m < 2147483648) (hQ : Q (.inl (some (ib (decide (m = 0))))) h) : ab_run sv tb_mt (d + 1) y_ArrayList_isEmpty [.ref a] h Q := by
  rw [r_ArrayList_isEmpty]
  simp only [e_ArrayList_isEmpty_0, e_ArrayList_isEmpty_1, e_ArrayList_isEmpty_4, e_ArrayList_isEmpty_7, e_ArrayList_isEmpty_8, e_ArrayList_isEmpty_11, e_ArrayList_isEmpty_12, wl_i, wl_j, wl_d, wl_r, wl_n, wi_s, wn_s, wr_s, wg_e, wv_s, fi0, fi3, fi6r, fi6n, fi10, fi11, cat_i, cat_r, cat_n, cat_j, cat_d, List.map_nil, List.map_cons, List.sum_nil, List.sum_cons, List.getElem?_cons_zero, List.getElem?_cons_succ, List.length_cons, List.length_nil, ab_sto, ab_cl2, ab_bk, Option.toList_some, Option.toList_none, List.cons_append, List.nil_append, Nat.zero_le, Nat.reduceLeDiff, Nat.reduceAdd, Nat.reduceLT, List.set_cons_zero, List.set_cons_succ, iN_ltN, iN_leN, iN_eqN, iN_add, iN_m1, m1_iN, iN_neg, iN_dec, m1_lt, m1_le, iN_ltm, iN_lem, if_true, if_false, ha, hm]
  unfold ib at hQ
  by_cases e : m = 0
  · simpa [e, iN_eqN] using hQ
  · simpa [e, iN_eqN, hm] using hQ
end SPQ
