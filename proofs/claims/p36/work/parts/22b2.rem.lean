theorem rem_tm (x : Int32) {n : Nat} (h0 : 0 < n) (hn : n < 2147483648) : (x - x / iN n * iN n).toInt = x.toInt.tmod n := by
  have hx1 := Int32.le_toInt x
  have hx2 := Int32.toInt_lt x
  have e1 : (iN n).toInt = n := iN_toInt hn
  have key := Int.mul_tdiv_add_tmod x.toInt n
  have m1 : -(n : Int) < x.toInt.tmod n := by
    have := Int.lt_tmod_of_pos x.toInt (b := (n : Int)) (by omega)
    omega
  have m2 : x.toInt.tmod n < n := Int.tmod_lt_of_pos _ (by omega)
  have s1 : 0 ≤ x.toInt → 0 ≤ x.toInt.tmod n := fun h => Int.tmod_nonneg _ h
  have s2 : x.toInt ≤ 0 → x.toInt.tmod n ≤ 0 := fun h => by
    have := Int.tmod_nonneg (a := -x.toInt) (n : Int) (by omega)
    rw [Int.neg_tmod] at this
    omega
  have b1 : 0 ≤ x.toInt → 0 ≤ x.toInt.tdiv n ∧ x.toInt.tdiv n ≤ x.toInt := fun h => ⟨Int.tdiv_nonneg h (by omega), Int.tdiv_le_self _ h⟩
  have b2 : x.toInt ≤ 0 → x.toInt ≤ x.toInt.tdiv n ∧ x.toInt.tdiv n ≤ 0 := fun h => by
    have h1 : 0 ≤ (-x.toInt).tdiv n := Int.tdiv_nonneg (by omega) (by omega)
    have h2 : (-x.toInt).tdiv n ≤ -x.toInt := Int.tdiv_le_self _ (by omega)
    rw [Int.neg_tdiv] at h1 h2
    omega
  have q1 : (x / iN n).toInt = x.toInt.tdiv n := by
    rw [Int32.toInt_div, e1]
    refine Int.bmod_eq_of_le ?_ ?_
    · rcases Int.le_total 0 x.toInt with h | h
      · have := b1 h; omega
      · have := b2 h; omega
    · rcases Int.le_total 0 x.toInt with h | h
      · have := b1 h; omega
      · have := b2 h; omega
  have p0 : x.toInt.tdiv n * n = x.toInt - x.toInt.tmod n := by
    have := key
    rw [Int.mul_comm] at this
    omega
  have p1 : (x / iN n * iN n).toInt = x.toInt - x.toInt.tmod n := by
    rw [Int32.toInt_mul, q1, e1, p0]
    refine Int.bmod_eq_of_le ?_ ?_
    · rcases Int.le_total 0 x.toInt with h | h
      · have := s1 h; omega
      · have := s2 h; omega
    · rcases Int.le_total 0 x.toInt with h | h
      · have := s1 h; omega
      · have := s2 h; omega
  rw [Int32.toInt_sub, p1, show x.toInt - (x.toInt - x.toInt.tmod n) = x.toInt.tmod n by omega]
  refine Int.bmod_eq_of_le ?_ ?_ <;> omega
theorem some_1 {x : Int32} {n : Nat} (h0 : 0 < n) (hn : n < 2147483648) (hr : 0 ≤ x.toInt.tmod n) : x - x / iN n * iN n = iN (lx_s x n) := by
  have e1 := rem_tm x h0 hn
  have m2 : x.toInt.tmod n < n := Int.tmod_lt_of_pos _ (by omega)
  have em : x.toInt % n = x.toInt.tmod n % n := by
    have key := Int.mul_tdiv_add_tmod x.toInt n
    conv => lhs; rw [← key]
    rw [Int.mul_add_emod_self_left]
  apply Int32.toInt_inj.mp
  have hs := lx_s_lt x h0
  rw [e1, iN_toInt (by omega)]
  unfold lx_s
  rw [em, Int.emod_eq_of_lt hr m2]
  omega
theorem some_2 {x : Int32} {n : Nat} (h0 : 0 < n) (hn : n < 2147483648) (hr : ¬ 0 ≤ x.toInt.tmod n) : x - x / iN n * iN n + iN n = iN (lx_s x n) := by
  have e1 := rem_tm x h0 hn
  have m1 : -(n : Int) < x.toInt.tmod n := by
    have := Int.lt_tmod_of_pos x.toInt (b := (n : Int)) (by omega)
    omega
  have em : x.toInt % n = x.toInt.tmod n % n := by
    have key := Int.mul_tdiv_add_tmod x.toInt n
    conv => lhs; rw [← key]
    rw [Int.mul_add_emod_self_left]
  have e5 : x.toInt.tmod n % n = x.toInt.tmod n + n := by
    rw [← Int.add_emod_right, Int.emod_eq_of_lt (by omega) (by omega)]
  apply Int32.toInt_inj.mp
  have hs := lx_s_lt x h0
  rw [Int32.toInt_add, e1, iN_toInt hn, iN_toInt (by omega)]
  unfold lx_s
  rw [em, e5, Int.bmod_eq_of_le (by omega) (by omega)]
  omega
