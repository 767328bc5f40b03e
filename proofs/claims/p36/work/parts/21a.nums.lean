/-! SMALL NUMBERS AS INTS. -/
/-- a small number as an int -/
def iN (n : Nat) : Int32 := Int32.ofNat n
theorem iN_toInt {n : Nat} (hn : n < 2147483648) : (iN n).toInt = n := by
  exact Int32.toInt_ofNat_small (by omega)
theorem iN_lt {n m : Nat} (hn : n < 2147483648) (hm : m < 2147483648) : iN n < iN m ↔ n < m := by
  rw [Int32.lt_iff_toInt_lt, iN_toInt hn, iN_toInt hm]; omega
theorem iN_le {n m : Nat} (hn : n < 2147483648) (hm : m < 2147483648) : iN n ≤ iN m ↔ n ≤ m := by
  rw [Int32.le_iff_toInt_le, iN_toInt hn, iN_toInt hm]; omega
theorem iN_inj {n m : Nat} (hn : n < 2147483648) (hm : m < 2147483648) : iN n = iN m ↔ n = m := by
  refine ⟨fun h => ?_, fun h => by rw [h]⟩
  have := congrArg Int32.toInt h
  rw [iN_toInt hn, iN_toInt hm] at this
  omega
theorem iN_nn {n : Nat} (hn : n < 2147483648) : ¬ iN n < 0 := by
  rw [Int32.lt_iff_toInt_lt, iN_toInt hn]
  show ¬ ((n : Int) < 0)
  omega
theorem iN_clamp {n : Nat} (hn : n < 2147483648) : (iN n).toNatClampNeg = n := by
  rw [Int32.toNatClampNeg, iN_toInt hn]
  exact Int.toNat_natCast n
theorem iN_add {n m : Nat} : iN n + iN m = iN (n + m) := by
  unfold iN
  rw [Int32.ofNat_add]
theorem iN_ltN {n m : Nat} (hn : n < 2147483648) (hm : m < 2147483648) : (iN n < iN m) = (n < m) := propext (iN_lt hn hm)
theorem iN_leN {n m : Nat} (hn : n < 2147483648) (hm : m < 2147483648) : (iN n ≤ iN m) = (n ≤ m) := propext (iN_le hn hm)
theorem iN_eqN {n m : Nat} (hn : n < 2147483648) (hm : m < 2147483648) : (iN n = iN m) = (n = m) := propext (iN_inj hn hm)
theorem iN_m1 {n : Nat} (hn : n < 2147483648) : (iN n = -1) = False := by
  refine propext ⟨fun h => ?_, False.elim⟩
  have := congrArg Int32.toInt h
  rw [iN_toInt hn] at this
  have e : (-1 : Int32).toInt = -1 := by decide
  omega
theorem m1_iN {n : Nat} (hn : n < 2147483648) : (-1 = iN n) = False := by
  refine propext ⟨fun h => ?_, False.elim⟩
  rw [← iN_m1 hn]
  exact h.symm
theorem m1_lt {n : Nat} (hn : n < 2147483648) : ((-1 : Int32) < iN n) = True := by
  refine eq_true ?_
  rw [Int32.lt_iff_toInt_lt, iN_toInt hn]
  have e : (-1 : Int32).toInt = -1 := by decide
  omega
theorem iN_ltm {n : Nat} (hn : n < 2147483648) : (iN n < (-1 : Int32)) = False := by
  refine propext ⟨fun h => ?_, False.elim⟩
  rw [Int32.lt_iff_toInt_lt, iN_toInt hn] at h
  have e : (-1 : Int32).toInt = -1 := by decide
  omega
theorem iN_lem {n : Nat} (hn : n < 2147483648) : (iN n ≤ (-1 : Int32)) = False := by
  refine propext ⟨fun h => ?_, False.elim⟩
  rw [Int32.le_iff_toInt_le, iN_toInt hn] at h
  have e : (-1 : Int32).toInt = -1 := by decide
  omega
theorem m1_le {n : Nat} (hn : n < 2147483648) : ((-1 : Int32) ≤ iN n) = True := by
  refine eq_true ?_
  rw [Int32.le_iff_toInt_le, iN_toInt hn]
  have e : (-1 : Int32).toInt = -1 := by decide
  omega
theorem m1_lt0 : ((-1 : Int32) < iN 0) = True := eq_true (by decide)
theorem iN_sub {n m : Nat} (h : m ≤ n) : iN n - iN m = iN (n - m) := by
  have e : n - m + m = n := Nat.sub_add_cancel h
  have : iN n = iN (n - m) + iN m := by rw [iN_add, e]
  rw [this, Int32.add_sub_cancel]
theorem iN_mul {n m : Nat} : iN n * iN m = iN (n * m) := by
  unfold iN
  rw [Int32.ofNat_mul]
theorem iN_neg {n : Nat} (hn : n < 2147483648) : (iN n < iN 0) = False := by
  rw [iN_ltN hn (by decide)]
  exact propext ⟨fun h => absurd h (Nat.not_lt_zero _), False.elim⟩
