/-! AT AND SOME: the law's own small methods. -/
section ATS
variable {sv : Nat → Value} {d : Nat} {Q : ab_Q} {l : ab_L} {st : List Value} {h : ab_H}
theorem r_Law_at {a0 : Nat} {x1 : Int32} : ab_run sv tb_mt (d + 1) y_Law_at [.ref a0, .int x1] h Q = tb_W sv d y_Law_at Q 0 [some (.ref a0), some (.int x1)] [] h := propext ⟨fun q => q.2, fun q => ⟨Nat.le_of_ble_eq_true rfl, q⟩⟩
theorem e_Law_at_0 : tb_W sv d y_Law_at Q 0 l st h = wl 0 l[1]? (fun v => tb_W sv d y_Law_at Q 1 l (v :: st) h) := (tb_We (i := (.iload_n 1, 1, [])) (by decide +kernel) _ _ _).trans (wy_ld)
theorem e_Law_at_1 : tb_W sv d y_Law_at Q 1 l st h = wl 6 l[0]? (fun v => tb_W sv d y_Law_at Q 2 l (v :: st) h) := (tb_We (i := (.aload_n 0, 1, [])) (by decide +kernel) _ _ _).trans (wy_ld)
theorem e_Law_at_2 {a : Nat} : tb_W sv d y_Law_at Q 2 l (.ref a :: st) h = wn (h.1 a) (fun m => tb_W sv d y_Law_at Q 3 l (.int (Int32.ofNat m) :: st) h) := (tb_We (i := (.arraylength, 1, [])) (by decide +kernel) _ _ _).trans (wy_len)
theorem e_Law_at_3 {x y : Int32} : tb_W sv d y_Law_at Q 3 l (.int y :: .int x :: st) h = if y ≤ x then tb_W sv d y_Law_at Q 12 l st h else tb_W sv d y_Law_at Q 6 l st h := (tb_We (i := (.if_icmp .ge 9, 3, [])) (by decide +kernel) _ _ _).trans (wy_ge (by decide) rfl)
theorem e_Law_at_6 : tb_W sv d y_Law_at Q 6 l st h = wl 6 l[0]? (fun v => tb_W sv d y_Law_at Q 7 l (v :: st) h) := (tb_We (i := (.aload_n 0, 1, [])) (by decide +kernel) _ _ _).trans (wy_ld)
theorem e_Law_at_7 : tb_W sv d y_Law_at Q 7 l st h = wl 0 l[1]? (fun v => tb_W sv d y_Law_at Q 8 l (v :: st) h) := (tb_We (i := (.iload_n 1, 1, [])) (by decide +kernel) _ _ _).trans (wy_ld)
theorem e_Law_at_8 {i : Int32} {a : Nat} : tb_W sv d y_Law_at Q 8 l (.int i :: .ref a :: st) h = wa (h.1 a) 0 i (fun v => tb_W sv d y_Law_at Q 9 l (v :: st) h) := (tb_We (i := (.iaload, 1, [])) (by decide +kernel) _ _ _).trans (wy_al)
theorem e_Law_at_9 : tb_W sv d y_Law_at Q 9 l st h = tb_W sv d y_Law_at Q 13 l st h := (tb_We (i := (.goto 4, 3, [])) (by decide +kernel) _ _ _).trans (wy_goto (by decide) rfl)
theorem e_Law_at_12 : tb_W sv d y_Law_at Q 12 l st h = tb_W sv d y_Law_at Q 13 l (.int (iN 0) :: st) h := tb_We (i := (.iconst 0, 1, [])) (by decide +kernel) _ _ _
theorem e_Law_at_13 {x : Int32} : tb_W sv d y_Law_at Q 13 l [.int x] h = Q (.inl (some (.int x))) h := (tb_We (i := (.ireturn, 1, [0])) (by decide +kernel) _ _ _).trans (wy_ret rfl)
theorem r_Law_some {x0 : Int32} {x1 : Int32} : ab_run sv tb_mt (d + 1) y_Law_some [.int x0, .int x1] h Q = tb_W sv d y_Law_some Q 0 [some (.int x0), some (.int x1), none] [] h := propext ⟨fun q => q.2, fun q => ⟨Nat.le_of_ble_eq_true rfl, q⟩⟩
theorem e_Law_some_0 : tb_W sv d y_Law_some Q 0 l st h = wl 0 l[0]? (fun v => tb_W sv d y_Law_some Q 1 l (v :: st) h) := (tb_We (i := (.iload_n 0, 1, [])) (by decide +kernel) _ _ _).trans (wy_ld)
theorem e_Law_some_1 : tb_W sv d y_Law_some Q 1 l st h = wl 0 l[1]? (fun v => tb_W sv d y_Law_some Q 2 l (v :: st) h) := (tb_We (i := (.iload_n 1, 1, [])) (by decide +kernel) _ _ _).trans (wy_ld)
theorem e_Law_some_2 {x y : Int32} (hy : y ≠ 0) : tb_W sv d y_Law_some Q 2 l (.int y :: .int x :: st) h = tb_W sv d y_Law_some Q 3 l (.int (x - x / y * y) :: st) h := (tb_We (i := (.irem, 1, [])) (by decide +kernel) _ _ _).trans (wy_rem hy)
theorem e_Law_some_3 {x : Int32} (hi : 2 < l.length) : tb_W sv d y_Law_some Q 3 l (.int x :: st) h = tb_W sv d y_Law_some Q 4 (ab_sto l 2 (.int x)) st h := (tb_We (i := (.istore_n 2, 1, [])) (by decide +kernel) _ _ _).trans (wy_sv1 rfl rfl hi)
theorem e_Law_some_4 : tb_W sv d y_Law_some Q 4 l st h = wl 0 l[2]? (fun v => tb_W sv d y_Law_some Q 5 l (v :: st) h) := (tb_We (i := (.iload_n 2, 1, [])) (by decide +kernel) _ _ _).trans (wy_ld)
theorem e_Law_some_5 {x : Int32} : tb_W sv d y_Law_some Q 5 l (.int x :: st) h = if iN 0 ≤ x then tb_W sv d y_Law_some Q 14 l st h else tb_W sv d y_Law_some Q 8 l st h := (tb_We (i := (.ifCond .ge 9, 3, [])) (by decide +kernel) _ _ _).trans (wy_ge (by decide) rfl)
theorem e_Law_some_8 : tb_W sv d y_Law_some Q 8 l st h = wl 0 l[2]? (fun v => tb_W sv d y_Law_some Q 9 l (v :: st) h) := (tb_We (i := (.iload_n 2, 1, [])) (by decide +kernel) _ _ _).trans (wy_ld)
theorem e_Law_some_9 : tb_W sv d y_Law_some Q 9 l st h = wl 0 l[1]? (fun v => tb_W sv d y_Law_some Q 10 l (v :: st) h) := (tb_We (i := (.iload_n 1, 1, [])) (by decide +kernel) _ _ _).trans (wy_ld)
theorem e_Law_some_10 {x y : Int32} : tb_W sv d y_Law_some Q 10 l (.int y :: .int x :: st) h = tb_W sv d y_Law_some Q 11 l (.int (x + y) :: st) h := tb_We (i := (.iadd, 1, [])) (by decide +kernel) _ _ _
theorem e_Law_some_11 : tb_W sv d y_Law_some Q 11 l st h = tb_W sv d y_Law_some Q 15 l st h := (tb_We (i := (.goto 4, 3, [])) (by decide +kernel) _ _ _).trans (wy_goto (by decide) rfl)
theorem e_Law_some_14 : tb_W sv d y_Law_some Q 14 l st h = wl 0 l[2]? (fun v => tb_W sv d y_Law_some Q 15 l (v :: st) h) := (tb_We (i := (.iload_n 2, 1, [])) (by decide +kernel) _ _ _).trans (wy_ld)
theorem e_Law_some_15 {x : Int32} : tb_W sv d y_Law_some Q 15 l [.int x] h = Q (.inl (some (.int x))) h := (tb_We (i := (.ireturn, 1, [0])) (by decide +kernel) _ _ _).trans (wy_ret rfl)
end ATS
theorem sp_at {sv : Nat → Value} {d : Nat} {Q : ab_Q} {h : ab_H} {a k : Nat} {vals : List Int32} (ha : h.1 a = some (.inl (1000, vals.map Value.int))) (hk : k < 2147483648) (hl : vals.length < 2147483648) (hQ : Q (.inl (some (.int (vals.getD k (iN 0))))) h) : ab_run sv tb_mt (d + 1) y_Law_at [.ref a, .int (iN k)] h Q := by
  rw [r_Law_at, e_Law_at_0]
  show wl 0 (some (some (.int (iN k)))) _
  rw [wl_i, e_Law_at_1]
  show wl 6 (some (some (.ref a))) _
  rw [wl_r, e_Law_at_2, ha, wn_s, e_Law_at_3]
  by_cases hlt : vals.length ≤ k
  · rw [if_pos (by rw [List.length_map]; exact (iN_le hl hk).mpr hlt), e_Law_at_12, e_Law_at_13]
    rw [List.getD_eq_getElem?_getD, List.getElem?_eq_none hlt] at hQ
    exact hQ
  · rw [if_neg (by rw [List.length_map]; exact fun z => hlt ((iN_le hl hk).mp z)), e_Law_at_6]
    show wl 6 (some (some (.ref a))) _
    rw [wl_r, e_Law_at_7]
    show wl 0 (some (some (.int (iN k)))) _
    rw [wl_i, e_Law_at_8, ha]
    have hx : vals[k]? = some vals[k] := List.getElem?_eq_getElem (by omega)
    refine ⟨1000, _, .int vals[k], rfl, rfl, iN_nn hk, by rw [iN_clamp hk, List.getElem?_map, hx]; rfl, rfl, ?_⟩
    show tb_W sv d y_Law_at Q 9 [some (.ref a), some (.int (iN k))] [.int vals[k]] h
    rw [e_Law_at_9, e_Law_at_13]
    rw [List.getD_eq_getElem?_getD, hx] at hQ
    exact hQ
theorem sp_some {sv : Nat → Value} {d : Nat} {Q : ab_Q} {h : ab_H} {x : Int32} {n : Nat} (h0 : 0 < n) (hn : n < 2147483648) (hQ : Q (.inl (some (.int (iN (lx_s x n))))) h) : ab_run sv tb_mt (d + 1) y_Law_some [.int x, .int (iN n)] h Q := by
  have hne : iN n ≠ 0 := fun e => by
    have := (iN_inj hn (by omega : 0 < 2147483648)).mp e
    omega
  have e1 := rem_tm x h0 hn
  have m1 : -(n : Int) < x.toInt.tmod n := by
    have := Int.lt_tmod_of_pos x.toInt (b := (n : Int)) (by omega)
    omega
  have m2 : x.toInt.tmod n < n := Int.tmod_lt_of_pos _ (by omega)
  have em : x.toInt % n = x.toInt.tmod n % n := by
    have key := Int.mul_tdiv_add_tmod x.toInt n
    conv => lhs; rw [← key]
    rw [Int.mul_add_emod_self_left]
  have z0 : (iN 0).toInt = 0 := iN_toInt (by omega)
  rw [r_Law_some, e_Law_some_0]
  show wl 0 (some (some (.int x))) _
  rw [wl_i, e_Law_some_1]
  show wl 0 (some (some (.int (iN n)))) _
  rw [wl_i, e_Law_some_2 hne, e_Law_some_3 (by exact Nat.lt_succ_self 2)]
  show tb_W sv d y_Law_some Q 4 [some (.int x), some (.int (iN n)), some (.int (x - x / iN n * iN n))] [] h
  rw [e_Law_some_4]
  show wl 0 (some (some (.int (x - x / iN n * iN n)))) _
  rw [wl_i, e_Law_some_5]
  by_cases hr : 0 ≤ x.toInt.tmod n
  · rw [if_pos (by rw [Int32.le_iff_toInt_le, z0, e1]; exact hr), e_Law_some_14]
    show wl 0 (some (some (.int (x - x / iN n * iN n)))) _
    rw [wl_i, e_Law_some_15]
    have : x - x / iN n * iN n = iN (lx_s x n) := some_1 h0 hn hr
    rw [this]
    exact hQ
  · rw [if_neg (by rw [Int32.le_iff_toInt_le, z0, e1]; exact hr), e_Law_some_8]
    show wl 0 (some (some (.int (x - x / iN n * iN n)))) _
    rw [wl_i, e_Law_some_9]
    show wl 0 (some (some (.int (iN n)))) _
    rw [wl_i, e_Law_some_10, e_Law_some_11, e_Law_some_15]
    have : x - x / iN n * iN n + iN n = iN (lx_s x n) := some_2 h0 hn hr
    rw [this]
    exact hQ
