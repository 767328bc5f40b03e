/-! THE LAW'S NUMBERS, out of the script: what stands in the unknowns. -/
def lx_a (xs : Nat → Int32) (L k : Nat) : Int32 := if k < L then xs k else iN 0
/-- some(v, n) -/
def lx_s (x : Int32) (n : Nat) : Nat := (x.toInt % (n : Int)).toNat
def lx_nf (xs : Nat → Int32) (L v : Nat) : Nat := if v = 0 then 1 else 1 + lx_s (lx_a xs L v) 4
def lx_told (xs : Nat → Int32) (L v : Nat) : Nat := lx_s (lx_a xs L (7 + v)) 4
def lx_w (xs : Nat → Int32) (L v k : Nat) : Nat := lx_s (lx_a xs L (13 + 4 * v + k)) 100000000
def lx_bk (xs : Nat → Int32) (L v k : Nat) : Nat := lx_w xs L v k % 2
def lx_out (xs : Nat → Int32) (L v k : Nat) : Nat := if lx_bk xs L v k = 1 then lx_nf xs L (v - 1) else lx_nf xs L v
def lx_inn (xs : Nat → Int32) (L v k : Nat) : Nat := if lx_bk xs L v k = 1 then lx_nf xs L v else lx_nf xs L (v - 1)
def lx_fld (xs : Nat → Int32) (L v k : Nat) : Nat := lx_w xs L v k / 2 % lx_out xs L v k
def lx_it (xs : Nat → Int32) (L v k : Nat) : Nat := lx_w xs L v k / 8 % (lx_inn xs L v k + 1)
def lx_its (xs : Nat → Int32) (L v k : Nat) : Int32 := iN (lx_it xs L v k) - iN 1
def lx_num (xs : Nat → Int32) (L v k : Nat) : Int32 := iN (lx_w xs L v k / 40 % 200) - iN 100
def lx_m1 : Int32 := iN 4294967295
/-- the rows of a version, as told by k carryings: 0 from, 1 more, 2 backFrom, 3 backMore; 4, 5 those of the class -/
def lx_row0 (xs : Nat → Int32) (L t v i : Nat) : Int32 := match t with
  | 0 => if i < lx_nf xs L (v - 1) then iN i else lx_m1
  | 2 => if i < lx_nf xs L v then iN i else lx_m1
  | 4 => if i < lx_nf xs L (v - 1) ∧ i < lx_nf xs L v then iN i else lx_m1
  | 5 => if i < lx_nf xs L (v - 1) ∧ i < lx_nf xs L v then iN i else lx_m1
  | _ => iN 0
/-- which rows a carrying of that kind (1: back) tells of, and what -/
def lx_hit (xs : Nat → Int32) (L t v k : Nat) : Option Int32 := match t, lx_bk xs L v k with
  | 0, 0 => some (lx_its xs L v k)
  | 4, 0 => some (lx_its xs L v k)
  | 1, 0 => some (lx_num xs L v k)
  | 2, 1 => some (lx_its xs L v k)
  | 5, 1 => some (lx_its xs L v k)
  | 3, 1 => some (lx_num xs L v k)
  | _, _ => none
def lx_row (xs : Nat → Int32) (L t v : Nat) : Nat → Nat → Int32
  | 0, i => lx_row0 xs L t v i
  | k + 1, i => if k < lx_told xs L v then (if i = lx_fld xs L v k then (lx_hit xs L t v k).getD (lx_row xs L t v k i) else lx_row xs L t v k i) else lx_row xs L t v k i
def lx_dr (xs : Nat → Int32) (L v i : Nat) : Int32 := if i < lx_nf xs L v then iN i else lx_m1
def lx_kv (xs : Nat → Int32) (L f : Nat) : Int32 := iN (7 * f + lx_s (lx_a xs L (40 + f)) 90)
def lx_cl (xs : Nat → Int32) (L n : Nat) : List Int32 := [iN 110, iN 0, iN 0, iN 0] ++ ((List.range n).flatMap fun f => [iN 107, iN 1, lx_kv xs L f, iN 0, iN 112, iN 1, iN f, iN 0]) ++ [iN 119, iN 0, iN 0, iN 0]
def lx_tou (xs : Nat → Int32) (L v : Nat) : Int32 := if v = 1 ∨ lx_nf xs L v ≠ lx_nf xs L (v - 1) then iN 1 else iN 0
def lx_wd (xs : Nat → Int32) (L v k j : Nat) : Int32 := match j with
  | 0 => iN (lx_bk xs L v k)
  | 2 => iN (lx_w xs L v k / 2)
  | 3 => iN (lx_fld xs L v k)
  | 4 => iN (lx_w xs L v k / 8)
  | 5 => iN (lx_it xs L v k)
  | 6 => lx_its xs L v k
  | 7 => iN (lx_w xs L v k / 40)
  | 8 => iN (lx_w xs L v k / 40 % 200)
  | _ => lx_num xs L v k
/-- versions -/
def lx_nv (xs : Nat → Int32) (L : Nat) : Nat := 2 + lx_s (lx_a xs L 0) 5
/-- the unknowns by number; J: those without a meaning -/
def lx_r (xs : Nat → Int32) (L : Nat) (J : Nat → Int32) (i : Nat) : Int32 :=
  if i < 1000 then (if i = 10 then iN (lx_nv xs L) else if i < 30 then iN (lx_nf xs L (i - 20)) else iN (lx_nf xs L (i - 30) + 1))
  else if i < 2000 then xs (i - 1000)
  else if i < 3000 then lx_a xs L (i - 2000)
  else if i < 4000 then (if i = 3000 then iN (lx_s (lx_a xs L 0) 5) else if i < 3010 then iN (lx_s (lx_a xs L (i - 3000)) 4) else if i < 3020 then iN (lx_told xs L (i - 3010)) else if i < 3060 then iN (lx_w xs L ((i - 3020) / 4) ((i - 3020) % 4)) else if i < 3070 then iN (lx_s (lx_a xs L (40 + (i - 3060))) 90) else iN (lx_s (lx_a xs L (45 + (i - 3070))) 1000))
  else if i < 5000 then lx_wd xs L ((i - 4000) / 100) ((i - 4000) % 100 / 10) ((i - 4000) % 10)
  else if i < 11000 then lx_row xs L ((i - 5000) / 1000) ((i - 5000) % 1000 / 100) ((i - 5000) % 100 / 10) ((i - 5000) % 10)
  else if i < 12000 then lx_dr xs L ((i - 11000) / 10) ((i - 11000) % 10)
  else if i < 12100 then lx_kv xs L (i - 12000)
  else if i < 12200 then (lx_cl xs L (lx_nf xs L 1)).getD (i - 12100) (iN 0)
  else if i < 13000 then iN (2 * lx_nf xs L 1 + 2)
  else if i < 14000 then lx_tou xs L (i - 13000)
  else J i
theorem rrow (xs : Nat → Int32) (L : Nat) (J : Nat → Int32) (t v k i : Nat) (ht : t < 6) (hv : v < 10) (hk : k < 10) (hi : i < 10) : lx_r xs L J (5000 + 1000 * t + 100 * v + 10 * k + i) = lx_row xs L t v k i := by
  unfold lx_r
  rw [if_neg (by omega), if_neg (by omega), if_neg (by omega), if_neg (by omega), if_neg (by omega), if_pos (by omega)]
  have e1 : (5000 + 1000 * t + 100 * v + 10 * k + i - 5000) / 1000 = t := by omega
  have e2 : (5000 + 1000 * t + 100 * v + 10 * k + i - 5000) % 1000 / 100 = v := by omega
  have e3 : (5000 + 1000 * t + 100 * v + 10 * k + i - 5000) % 100 / 10 = k := by omega
  have e4 : (5000 + 1000 * t + 100 * v + 10 * k + i - 5000) % 10 = i := by omega
  rw [e1, e2, e3, e4]
theorem lx_s_lt (x : Int32) {n : Nat} (hn : 0 < n) : lx_s x n < n := by
  have h1 : 0 ≤ x.toInt % (n : Int) := Int.emod_nonneg _ (by omega)
  have h2 : x.toInt % (n : Int) < n := Int.emod_lt_of_pos _ (by omega)
  unfold lx_s
  omega
theorem lx_nf_14 (xs : Nat → Int32) (L v : Nat) : 1 ≤ lx_nf xs L v ∧ lx_nf xs L v ≤ 4 := by
  unfold lx_nf
  have := lx_s_lt (lx_a xs L v) (n := 4) (by omega)
  split <;> omega
theorem lx_nf_cases (xs : Nat → Int32) (L v : Nat) : lx_nf xs L v = 1 ∨ lx_nf xs L v = 2 ∨ lx_nf xs L v = 3 ∨ lx_nf xs L v = 4 := by
  have := lx_nf_14 xs L v
  omega
theorem lx_nf0 (xs : Nat → Int32) (L : Nat) : lx_nf xs L 0 = 1 := rfl
theorem lx_told_lt (xs : Nat → Int32) (L v : Nat) : lx_told xs L v < 4 := lx_s_lt _ (by omega)
theorem lx_w_lt (xs : Nat → Int32) (L v k : Nat) : lx_w xs L v k < 100000000 := lx_s_lt _ (by omega)
theorem lx_bk_01 (xs : Nat → Int32) (L v k : Nat) : lx_bk xs L v k = 0 ∨ lx_bk xs L v k = 1 := by
  unfold lx_bk
  omega
theorem lx_out_14 (xs : Nat → Int32) (L v k : Nat) : 1 ≤ lx_out xs L v k ∧ lx_out xs L v k ≤ 4 := by
  unfold lx_out
  split
  · exact lx_nf_14 _ _ _
  · exact lx_nf_14 _ _ _
theorem lx_inn_14 (xs : Nat → Int32) (L v k : Nat) : 1 ≤ lx_inn xs L v k ∧ lx_inn xs L v k ≤ 4 := by
  unfold lx_inn
  split
  · exact lx_nf_14 _ _ _
  · exact lx_nf_14 _ _ _
theorem lx_fld_lt (xs : Nat → Int32) (L v k : Nat) : lx_fld xs L v k < lx_out xs L v k := Nat.mod_lt _ (by have := lx_out_14 xs L v k; omega)
theorem lx_fld_cases (xs : Nat → Int32) (L v k : Nat) : lx_fld xs L v k = 0 ∨ lx_fld xs L v k = 1 ∨ lx_fld xs L v k = 2 ∨ lx_fld xs L v k = 3 := by
  have h1 := lx_fld_lt xs L v k
  have h2 := lx_out_14 xs L v k
  omega
theorem lx_it_le (xs : Nat → Int32) (L v k : Nat) : lx_it xs L v k ≤ lx_inn xs L v k := Nat.le_of_lt_succ (Nat.mod_lt _ (by omega))
/-- within the shape, the class's rows are the law's -/
theorem lx_row_eq (xs : Nat → Int32) (L v i : Nat) : ∀ k, (i < lx_nf xs L v → lx_row xs L 4 v k i = lx_row xs L 0 v k i) ∧ (i < lx_nf xs L (v - 1) → lx_row xs L 5 v k i = lx_row xs L 2 v k i)
  | 0 => by
    refine ⟨fun h => ?_, fun h => ?_⟩
    · show (if i < lx_nf xs L (v - 1) ∧ i < lx_nf xs L v then iN i else lx_m1) = if i < lx_nf xs L (v - 1) then iN i else lx_m1
      simp [h]
    · show (if i < lx_nf xs L (v - 1) ∧ i < lx_nf xs L v then iN i else lx_m1) = if i < lx_nf xs L v then iN i else lx_m1
      simp [h]
  | k + 1 => by
    obtain ⟨h1, h2⟩ := lx_row_eq xs L v i k
    have e4 : lx_hit xs L 4 v k = lx_hit xs L 0 v k := by
      unfold lx_hit
      rcases lx_bk_01 xs L v k with e | e <;> rw [e] <;> rfl
    have e5 : lx_hit xs L 5 v k = lx_hit xs L 2 v k := by
      unfold lx_hit
      rcases lx_bk_01 xs L v k with e | e <;> rw [e] <;> rfl
    refine ⟨fun h => ?_, fun h => ?_⟩
    · unfold lx_row
      rw [h1 h, e4]
    · unfold lx_row
      rw [h2 h, e5]
/-! WHAT IS KNOWN OF THE UNKNOWNS. -/
def lk (E : sx_E) (q : Nat × sx_V × sx_V × sx_V) : Prop := sx_sem q.1 (sx_ev E q.2.1) (sx_ev E q.2.2.1) = some (sx_ev E q.2.2.2)
theorem lk_nil {E : sx_E} : sx_ok E [] := fun q h => nomatch h
theorem lk_cons {E : sx_E} {q : Nat × sx_V × sx_V × sx_V} {r : sx_F} (h : lk E q) (t : sx_ok E r) : sx_ok E (q :: r) := fun p hp => by
  rcases List.mem_cons.mp hp with e | e
  · rw [e]; exact h
  · exact t p e
def sg_nF (S : sg_S) (F : sx_F) : sx_F := F.map fun q => (q.1, sg_nv S q.2.1, sg_nv S q.2.2.1, sg_nv S q.2.2.2)
theorem sg_nF_ok {E : sx_E} {S : sg_S} {F : sx_F} (hS : sg_So E S) (hF : sx_ok E F) : sx_ok E (sg_nF S F) := by
  intro q hq
  obtain ⟨p, hp, rfl⟩ := List.mem_map.mp hq
  show sx_sem p.1 (sx_ev E (sg_nv S p.2.1)) (sx_ev E (sg_nv S p.2.2.1)) = some (sx_ev E (sg_nv S p.2.2.2))
  rw [sg_nv_ok hS, sg_nv_ok hS, sg_nv_ok hS]
  exact hF p hp
theorem so_nil {E : sx_E} : sg_So E [] := fun q h => nomatch h
theorem so_cons {E : sx_E} {i : Nat} {w : sx_V} {r : sg_S} (h : sx_ev E (sg_kv i) = sx_ev E w) (t : sg_So E r) : sg_So E ((i, w) :: r) := fun p hp => by
  rcases List.mem_cons.mp hp with e | e
  · rw [e]; exact h
  · exact t p e
section FAC
variable {E : sx_E} {x y z : sx_V} {n m : Nat} {i : Nat} {a : Int32}
theorem cN (n : Nat) : sx_ev E (0, n) = .int (iN n) := rfl
theorem vN (h : E.1 i = a) : sx_ev E (3, i) = .int a := congrArg Value.int h
theorem fa_add (hx : sx_ev E x = .int (iN n)) (hy : sx_ev E y = .int (iN m)) (hz : sx_ev E z = .int (iN (n + m))) : lk E (0, x, y, z) := by
  show sx_sem 0 (sx_ev E x) (sx_ev E y) = some (sx_ev E z)
  rw [hx, hy, hz, ← iN_add]
  rfl
theorem fa_sub (hx : sx_ev E x = .int (iN n)) (hy : sx_ev E y = .int (iN m)) (hz : sx_ev E z = .int (iN n - iN m)) : lk E (1, x, y, z) := by
  show sx_sem 1 (sx_ev E x) (sx_ev E y) = some (sx_ev E z)
  rw [hx, hy, hz]
  rfl
theorem iN_div (hn : n < 2147483648) (hm : m < 2147483648) : iN n / iN m = iN (n / m) := by
  have e : (iN (n / m)).toInt = ((n / m : Nat) : Int) := iN_toInt (Nat.lt_of_le_of_lt (Nat.div_le_self _ _) hn)
  apply Int32.toInt_inj.mp
  rw [Int32.toInt_div, iN_toInt hn, iN_toInt hm, e]
  have h1 : n / m ≤ n := Nat.div_le_self n m
  have h2 : (n : Int).tdiv (m : Int) = ((n / m : Nat) : Int) := (Int.ofNat_tdiv n m).symm
  have key : ∀ q : Nat, q ≤ n → Int.bmod (q : Int) 4294967296 = q := fun q hq => by
    rw [Int.bmod_eq_of_le] <;> omega
  rw [h2]
  exact key _ h1
theorem iN_mod (hn : n < 2147483648) (hm : m < 2147483648) : iN n - iN n / iN m * iN m = iN (n % m) := by
  rw [iN_div hn hm, iN_mul, iN_sub (Nat.div_mul_le_self n m)]
  congr 1
  have := Nat.div_add_mod n m
  rw [Nat.mul_comm] at this
  omega
theorem fa_div (hx : sx_ev E x = .int (iN n)) (hy : sx_ev E y = .int (iN m)) (hn : n < 2147483648) (hm : m < 2147483648) (h0 : 0 < m) (hz : sx_ev E z = .int (iN (n / m))) : lk E (3, x, y, z) := by
  show sx_sem 3 (sx_ev E x) (sx_ev E y) = some (sx_ev E z)
  rw [hx, hy, hz, ← iN_div hn hm]
  show (if iN m = 0 then none else some (Value.int _)) = _
  rw [if_neg (fun e => by have := (iN_inj hm (by omega : 0 < 2147483648)).mp e; omega)]
  rfl
theorem fa_mod (hx : sx_ev E x = .int (iN n)) (hy : sx_ev E y = .int (iN m)) (hn : n < 2147483648) (hm : m < 2147483648) (h0 : 0 < m) (hz : sx_ev E z = .int (iN (n % m))) : lk E (4, x, y, z) := by
  show sx_sem 4 (sx_ev E x) (sx_ev E y) = some (sx_ev E z)
  rw [hx, hy, hz, ← iN_mod hn hm]
  show (if iN m = 0 then none else some (Value.int _)) = _
  rw [if_neg (fun e => by have := (iN_inj hm (by omega : 0 < 2147483648)).mp e; omega)]
  rfl
theorem fa_cmp {c : ClassFile.Cond} {u v : Int32} {b : Bool} (hx : sx_ev E x = .int u) (hy : sx_ev E y = .int v) (h : ab_cc c u v = b) : lk E (30 + sx_ci c, x, y, (0, if b = true then 1 else 0)) := by
  show sx_sem (30 + sx_ci c) (sx_ev E x) (sx_ev E y) = some (sx_ev E (0, if b = true then 1 else 0))
  have h2 : sx_sem (30 + sx_ci c) = sx_c2 c := by cases c <;> rfl
  rw [h2, hx, hy, sx_b01, ← h]
  rfl
theorem fa_min (hx : sx_ev E x = .int a) (hy : sx_ev E y = .int a) (hxy : x = z) : lk E (10, x, y, z) := by
  subst hxy
  show sx_sem 10 (sx_ev E x) (sx_ev E y) = some (sx_ev E x)
  rw [hx, hy]
  show some (Value.int (if a < a then a else a)) = _
  rw [ite_self]
/-- less, in each of its forms -/
theorem fa_lt32 {u v : Int32} (hx : sx_ev E x = .int u) (hy : sx_ev E y = .int v) (h : u < v) : lk E (32, x, y, (0, 1)) := fa_cmp (c := .lt) (b := true) hx hy (decide_eq_true h)
theorem fa_lt33 {u v : Int32} (hx : sx_ev E x = .int u) (hy : sx_ev E y = .int v) (h : u < v) : lk E (33, x, y, (0, 0)) := fa_cmp (c := .ge) (b := false) hx hy (decide_eq_false (Int32.not_le.mpr h))
theorem fa_lt34 {u v : Int32} (hx : sx_ev E x = .int u) (hy : sx_ev E y = .int v) (h : u < v) : lk E (34, y, x, (0, 1)) := fa_cmp (c := .gt) (b := true) hy hx (decide_eq_true h)
theorem fa_lt35 {u v : Int32} (hx : sx_ev E x = .int u) (hy : sx_ev E y = .int v) (h : u < v) : lk E (35, y, x, (0, 0)) := fa_cmp (c := .le) (b := false) hy hx (decide_eq_false (Int32.not_le.mpr h))
theorem fa_ge32 {u v : Int32} (hx : sx_ev E x = .int u) (hy : sx_ev E y = .int v) (h : v ≤ u) : lk E (32, x, y, (0, 0)) := fa_cmp (c := .lt) (b := false) hx hy (decide_eq_false (Int32.not_lt.mpr h))
theorem fa_ge33 {u v : Int32} (hx : sx_ev E x = .int u) (hy : sx_ev E y = .int v) (h : v ≤ u) : lk E (33, x, y, (0, 1)) := fa_cmp (c := .ge) (b := true) hx hy (decide_eq_true h)
theorem fa_ge34 {u v : Int32} (hx : sx_ev E x = .int u) (hy : sx_ev E y = .int v) (h : v ≤ u) : lk E (34, y, x, (0, 0)) := fa_cmp (c := .gt) (b := false) hy hx (decide_eq_false (Int32.not_lt.mpr h))
theorem fa_ge35 {u v : Int32} (hx : sx_ev E x = .int u) (hy : sx_ev E y = .int v) (h : v ≤ u) : lk E (35, y, x, (0, 1)) := fa_cmp (c := .le) (b := true) hy hx (decide_eq_true h)
theorem fa_eq30 {u v : Int32} (hx : sx_ev E x = .int u) (hy : sx_ev E y = .int v) (h : u = v) : lk E (30, x, y, (0, 1)) := fa_cmp (c := .eq) (b := true) hx hy (decide_eq_true h)
theorem fa_eq31 {u v : Int32} (hx : sx_ev E x = .int u) (hy : sx_ev E y = .int v) (h : u = v) : lk E (31, x, y, (0, 0)) := fa_cmp (c := .ne) (b := false) hx hy (by show (!decide (u = v)) = false; rw [decide_eq_true h]; rfl)
theorem fa_ne30 {u v : Int32} (hx : sx_ev E x = .int u) (hy : sx_ev E y = .int v) (h : u ≠ v) : lk E (30, x, y, (0, 0)) := fa_cmp (c := .eq) (b := false) hx hy (decide_eq_false h)
theorem fa_ne31 {u v : Int32} (hx : sx_ev E x = .int u) (hy : sx_ev E y = .int v) (h : u ≠ v) : lk E (31, x, y, (0, 1)) := fa_cmp (c := .ne) (b := true) hx hy (by show (!decide (u = v)) = true; rw [decide_eq_false h]; rfl)
end FAC
/-- small numbers: less in Nat is less -/
theorem iN_ltS {n m : Nat} (hn : n < 2147483648) (hm : m < 2147483648) (h : n < m) : iN n < iN m := (iN_lt hn hm).mpr h
theorem iN_leS {n m : Nat} (hn : n < 2147483648) (hm : m < 2147483648) (h : n ≤ m) : iN n ≤ iN m := (iN_le hn hm).mpr h
theorem iN_neS {n m : Nat} (hn : n < 2147483648) (hm : m < 2147483648) (h : n ≠ m) : iN n ≠ iN m := fun e => h ((iN_inj hn hm).mp e)
theorem lx_its_ge (xs : Nat → Int32) (L v k : Nat) : lx_m1 ≤ lx_its xs L v k := by
  have h1 := lx_it_le xs L v k
  have h2 := lx_inn_14 xs L v k
  unfold lx_its
  have h3 : lx_it xs L v k = 0 ∨ lx_it xs L v k = 1 ∨ lx_it xs L v k = 2 ∨ lx_it xs L v k = 3 ∨ lx_it xs L v k = 4 := by omega
  rcases h3 with e | e | e | e | e <;> rw [e] <;> decide
theorem lx_its_lt (xs : Nat → Int32) (L v k : Nat) : lx_its xs L v k < iN (lx_inn xs L v k) := by
  have h1 := lx_it_le xs L v k
  have h2 := lx_inn_14 xs L v k
  unfold lx_its
  have h3 : lx_it xs L v k = 0 ∨ lx_it xs L v k = 1 ∨ lx_it xs L v k = 2 ∨ lx_it xs L v k = 3 ∨ lx_it xs L v k = 4 := by omega
  have h4 : lx_inn xs L v k = 1 ∨ lx_inn xs L v k = 2 ∨ lx_inn xs L v k = 3 ∨ lx_inn xs L v k = 4 := by omega
  rcases h3 with e | e | e | e | e <;> rcases h4 with f | f | f | f <;> first | (exfalso; omega) | (rw [e, f]; decide)
theorem lx_nv_26 (xs : Nat → Int32) (L : Nat) : 2 ≤ lx_nv xs L ∧ lx_nv xs L ≤ 6 := by
  have := lx_s_lt (lx_a xs L 0) (n := 5) (by omega)
  unfold lx_nv
  omega
section ROWS
variable {xs : Nat → Int32} {L t v k i n f : Nat}
theorem w0_y (h : lx_nf xs L (v - 1) = n) (hi : i < n) : lx_row xs L 0 v 0 i = iN i := if_pos (by rw [h]; exact hi)
theorem w0_n (h : lx_nf xs L (v - 1) = n) (hi : ¬ i < n) : lx_row xs L 0 v 0 i = lx_m1 := if_neg (by rw [h]; exact hi)
theorem w2_y (h : lx_nf xs L v = n) (hi : i < n) : lx_row xs L 2 v 0 i = iN i := if_pos (by rw [h]; exact hi)
theorem w2_n (h : lx_nf xs L v = n) (hi : ¬ i < n) : lx_row xs L 2 v 0 i = lx_m1 := if_neg (by rw [h]; exact hi)
theorem w4_y {q : Nat} (h : lx_nf xs L (v - 1) = n) (g : lx_nf xs L v = q) (hi : i < n ∧ i < q) : lx_row xs L 4 v 0 i = iN i := if_pos (by rw [h, g]; exact hi)
theorem w4_n {q : Nat} (h : lx_nf xs L (v - 1) = n) (g : lx_nf xs L v = q) (hi : ¬ (i < n ∧ i < q)) : lx_row xs L 4 v 0 i = lx_m1 := if_neg (by rw [h, g]; exact hi)
theorem w5_y {q : Nat} (h : lx_nf xs L (v - 1) = n) (g : lx_nf xs L v = q) (hi : i < n ∧ i < q) : lx_row xs L 5 v 0 i = iN i := if_pos (by rw [h, g]; exact hi)
theorem w5_n {q : Nat} (h : lx_nf xs L (v - 1) = n) (g : lx_nf xs L v = q) (hi : ¬ (i < n ∧ i < q)) : lx_row xs L 5 v 0 i = lx_m1 := if_neg (by rw [h, g]; exact hi)
theorem rw_hit {w : Int32} (hk : k < lx_told xs L v) (hf : lx_fld xs L v k = f) (h : lx_hit xs L t v k = some w) : lx_row xs L t v (k + 1) f = w := by
  unfold lx_row
  rw [if_pos hk, if_pos hf.symm, h]
  rfl
theorem rw_ne (hf : lx_fld xs L v k = f) (hi : i ≠ f) : lx_row xs L t v (k + 1) i = lx_row xs L t v k i := by
  show (if k < lx_told xs L v then (if i = lx_fld xs L v k then (lx_hit xs L t v k).getD (lx_row xs L t v k i) else lx_row xs L t v k i) else lx_row xs L t v k i) = _
  rw [hf, if_neg hi]
  split <;> rfl
theorem rw_no (h : lx_hit xs L t v k = none) : lx_row xs L t v (k + 1) i = lx_row xs L t v k i := by
  show (if k < lx_told xs L v then (if i = lx_fld xs L v k then (lx_hit xs L t v k).getD (lx_row xs L t v k i) else lx_row xs L t v k i) else lx_row xs L t v k i) = _
  rw [h]
  split
  · split <;> rfl
  · rfl
theorem rw_end (h : ¬ k < lx_told xs L v) : lx_row xs L t v (k + 1) i = lx_row xs L t v k i := by
  show (if k < lx_told xs L v then (if i = lx_fld xs L v k then (lx_hit xs L t v k).getD (lx_row xs L t v k i) else lx_row xs L t v k i) else lx_row xs L t v k i) = _
  rw [if_neg h]
theorem rf_3 : lx_row xs L t v 3 i = lx_row xs L t v 3 i := rfl
theorem rf_2 (h : ¬ 2 < lx_told xs L v) : lx_row xs L t v 3 i = lx_row xs L t v 2 i := rw_end h
theorem rf_1 (h : ¬ 1 < lx_told xs L v) : lx_row xs L t v 3 i = lx_row xs L t v 1 i := (rf_2 (by omega)).trans (rw_end h)
theorem rf_0 (h : ¬ 0 < lx_told xs L v) : lx_row xs L t v 3 i = lx_row xs L t v 0 i := (rf_1 (by omega)).trans (rw_end h)
theorem hit00 (h : lx_bk xs L v k = 0) : lx_hit xs L 0 v k = some (lx_its xs L v k) := by unfold lx_hit; rw [h] <;> rfl
theorem hit10 (h : lx_bk xs L v k = 0) : lx_hit xs L 1 v k = some (lx_num xs L v k) := by unfold lx_hit; rw [h] <;> rfl
theorem hit20 (h : lx_bk xs L v k = 0) : lx_hit xs L 2 v k = none := by unfold lx_hit; rw [h] <;> rfl
theorem hit30 (h : lx_bk xs L v k = 0) : lx_hit xs L 3 v k = none := by unfold lx_hit; rw [h] <;> rfl
theorem hit40 (h : lx_bk xs L v k = 0) : lx_hit xs L 4 v k = some (lx_its xs L v k) := by unfold lx_hit; rw [h] <;> rfl
theorem hit50 (h : lx_bk xs L v k = 0) : lx_hit xs L 5 v k = none := by unfold lx_hit; rw [h] <;> rfl
theorem hit01 (h : lx_bk xs L v k = 1) : lx_hit xs L 0 v k = none := by unfold lx_hit; rw [h] <;> rfl
theorem hit11 (h : lx_bk xs L v k = 1) : lx_hit xs L 1 v k = none := by unfold lx_hit; rw [h] <;> rfl
theorem hit21 (h : lx_bk xs L v k = 1) : lx_hit xs L 2 v k = some (lx_its xs L v k) := by unfold lx_hit; rw [h] <;> rfl
theorem hit31 (h : lx_bk xs L v k = 1) : lx_hit xs L 3 v k = some (lx_num xs L v k) := by unfold lx_hit; rw [h] <;> rfl
theorem hit41 (h : lx_bk xs L v k = 1) : lx_hit xs L 4 v k = none := by unfold lx_hit; rw [h] <;> rfl
theorem hit51 (h : lx_bk xs L v k = 1) : lx_hit xs L 5 v k = some (lx_its xs L v k) := by unfold lx_hit; rw [h] <;> rfl
theorem out0 (h : lx_bk xs L v k = 0) : lx_out xs L v k = lx_nf xs L v := by unfold lx_out; rw [h]; rfl
theorem out1 (h : lx_bk xs L v k = 1) : lx_out xs L v k = lx_nf xs L (v - 1) := by unfold lx_out; rw [h]; rfl
theorem inn0 (h : lx_bk xs L v k = 0) : lx_inn xs L v k = lx_nf xs L (v - 1) := by unfold lx_inn; rw [h]; rfl
theorem inn1 (h : lx_bk xs L v k = 1) : lx_inn xs L v k = lx_nf xs L v := by unfold lx_inn; rw [h]; rfl
theorem dr_y (h : lx_nf xs L v = n) (hi : i < n) : lx_dr xs L v i = iN i := if_pos (by rw [h]; exact hi)
theorem dr_n (h : lx_nf xs L v = n) (hi : ¬ i < n) : lx_dr xs L v i = lx_m1 := if_neg (by rw [h]; exact hi)
theorem tou_1 : lx_tou xs L 1 = iN 1 := if_pos (Or.inl rfl)
theorem tou_eq (hv : v ≠ 1) (h : lx_nf xs L v = lx_nf xs L (v - 1)) : lx_tou xs L v = iN 0 := if_neg fun z => z.elim hv fun z => z h
theorem tou_ne (h : lx_nf xs L v ≠ lx_nf xs L (v - 1)) : lx_tou xs L v = iN 1 := if_pos (Or.inr h)
end ROWS
section SOC
variable {xs : Nat → Int32} {L : Nat} {J : Nat → Int32} {lam : Nat → Int64} {α : Nat → Nat} {i j n : Nat} {a : Int32} {r : sg_S}
theorem so_c (hi : Nat.ble i 99999 = true) (h : lx_r xs L J i = iN n) (t : sg_So (lx_r xs L J, lam, α) r) : sg_So (lx_r xs L J, lam, α) ((i, (0, n)) :: r) := so_cons (by unfold sg_kv; rw [hi]; exact congrArg Value.int h) t
theorem so_v (hi : Nat.ble i 99999 = true) (h : lx_r xs L J i = a) (g : lx_r xs L J j = a) (t : sg_So (lx_r xs L J, lam, α) r) : sg_So (lx_r xs L J, lam, α) ((i, (3, j)) :: r) := so_cons (by unfold sg_kv; rw [hi]; exact congrArg Value.int (h.trans g.symm)) t
theorem so_l {n : Nat} (hi : Nat.ble i 99999 = false) (h : lam (i - 100000) = Int64.ofNat n) (t : sg_So (lx_r xs L J, lam, α) r) : sg_So (lx_r xs L J, lam, α) ((i, (4, n)) :: r) := so_cons (by unfold sg_kv; rw [hi]; exact congrArg Value.long h) t
end SOC
/-! THE LAW'S WALK, ITS GROUND. -/
def sg_st (a pc : Nat) : Bool := Nat.beq pc a
/-- at(s, k), for the k of which the law asks (for others what is asked of the state never holds) -/
def lw_ats (k : Nat) : sg_T := match Nat.ble k 900 with
  | true => (110, [(1, 1), (0, k)], [(1, (3, 0, []))], [], .inl (some (3, 2000 + k)))
  | false => (110, [(1, 1), (0, k)], [(1, (0, 0, [])), (1, (1, 0, []))], [], .inl none)
def lw_som (j n i : Nat) : sg_T := (111, [(3, j), (0, n)], [], [], .inl (some (3, i)))
def lw_W (sv : Nat → Value) (mt : Nat → (Nat → Option ab_I) × Nat) (xs : Nat → Int32) (L : Nat) (lam : Nat → Int64) (dd : Nat) : Prop :=
  (∀ y pc X, tx_cd y pc = some X → ∃ i, (mt y).1 pc = some i ∧ sx_tr pc i = some X) ∧ (fun y => (mt y).2) = tx_ml ∧ 60 ≤ dd ∧
  (∀ J α k, sg_ct sv mt 20 (lx_r xs L J, lam, α) (lw_ats k)) ∧ (∀ E : sx_E, ∀ j n i, 0 < n → n < 2147483648 → E.1 i = iN (lx_s (E.1 j) n) → sg_ct sv mt 20 E (lw_som j n i))
def lw_P (sv : Nat → Value) (mt : Nat → (Nat → Option ab_I) × Nat) (xs : Nat → Int32) (L : Nat) (J : Nat → Int32) (lam : Nat → Int64) (dd n0 s0 : Nat) (Q : ab_Q) (pc : Nat) (l : sx_L) (G : sx_G) (A B : Nat) : Prop := sg_P (ab_WP sv (ab_run sv mt dd) (mt 113).1 Q) sv (lx_r xs L J) lam n0 s0 pc l G A B
theorem lt_nil {sv : Nat → Value} {mt : Nat → (Nat → Option ab_I) × Nat} {d : Nat} {E : sx_E} : ∀ t ∈ ([] : List sg_T), sg_ct sv mt d E t := fun t h => nomatch h
theorem lt_cons {sv : Nat → Value} {mt : Nat → (Nat → Option ab_I) × Nat} {d : Nat} {E : sx_E} {t : sg_T} {r : List sg_T} (h : sg_ct sv mt d E t) (g : ∀ t ∈ r, sg_ct sv mt d E t) : ∀ u ∈ t :: r, sg_ct sv mt d E u := fun u hu => by
  rcases List.mem_cons.mp hu with e | e
  · rw [e]; exact h
  · exact g u e
