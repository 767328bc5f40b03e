/-! AN EXECUTOR OF THE ABSTRACT MACHINE: values are constants, names of cells, or unknowns; what is known of unknowns is a list of facts. -/
abbrev sx_V : Type := Nat × Nat
abbrev sx_C : Type := Nat × Nat × List sx_V
abbrev sx_L : Type := List (Option sx_V)
abbrev sx_G : Type := Nat × List (List sx_C)
abbrev sx_E : Type := (Nat → Int32) × (Nat → Int64) × (Nat → Nat)
abbrev sx_F : Type := List (Nat × sx_V × sx_V × sx_V)
abbrev sx_X : Type := Nat × List Nat × List (Nat × Nat × Nat) × List (Int × Int)
abbrev sx_R : Type := Option sx_V ⊕ Nat
abbrev sx_O : Type := (Nat × sx_L × List sx_V × sx_G × Nat) ⊕ ((sx_R × sx_G × Nat) ⊕ (Nat × List sx_V × Nat × sx_L × List sx_V × List (Nat × Nat × Nat)))
def sx_nth {A : Type} : List A → Nat → Option A
  | [], _ => none
  | a :: _, 0 => some a
  | _ :: r, n + 1 => sx_nth r n
/-- cells lie sixteen to a piece -/
def sx_get (G : sx_G) (k : Nat) : Option sx_C := match sx_nth G.2 (k / 16) with
  | some c => sx_nth c (k % 16)
  | none => none
def sx_set {A : Type} : List A → Nat → A → List A
  | [], _, _ => []
  | _ :: r, 0, a => a :: r
  | x :: r, n + 1, a => x :: sx_set r n a
def sx_put (G : sx_G) (k : Nat) (c : sx_C) : sx_G := match sx_nth G.2 (k / 16) with
  | some p => (G.1, sx_set G.2 (k / 16) (sx_set p (k % 16) c))
  | none => G
def sx_ln {A : Type} : List A → Nat
  | [] => 0
  | _ :: r => sx_ln r + 1
def sx_snoc {A : Type} : List A → A → List A
  | [], a => [a]
  | x :: r, a => x :: sx_snoc r a
def sx_psh (G : sx_G) (c : sx_C) : Option sx_G := match sx_nth G.2 (G.1 / 16) with
  | some p => match Nat.beq (sx_ln p) (G.1 % 16) with
    | true => some (G.1 + 1, sx_set G.2 (G.1 / 16) (sx_snoc p c))
    | false => none
  | none => match Nat.beq (sx_ln G.2) (G.1 / 16) && Nat.beq (G.1 % 16) 0 with
    | true => some (G.1 + 1, sx_snoc G.2 [c])
    | false => none
def sx_pshs (G : sx_G) : List sx_C → Option sx_G
  | [] => some G
  | c :: r => match sx_psh G c with
    | some G' => sx_pshs G' r
    | none => none
/-- 0 int, 1 a cell's name, 2 null, 3 unknown int, 4 long, 5 unknown long, 6 double, 7 float -/
def sx_ev (E : sx_E) (v : sx_V) : Value := match v.1 with
  | 0 => .int (Int32.ofNat v.2)
  | 1 => .ref (E.2.2 v.2)
  | 2 => .null
  | 3 => .int (E.1 v.2)
  | 4 => .long (Int64.ofNat v.2)
  | 5 => .long (E.2.1 v.2)
  | 6 => .double (UInt64.ofNat v.2)
  | _ => .float (UInt32.ofNat v.2)
def sx_cat (v : sx_V) : Nat := match v.1 with
  | 4 => 2
  | 5 => 2
  | 6 => 2
  | _ => 1
def sx_cl (v : sx_V) : Bool := match v.1 with
  | 1 => false
  | 2 => false
  | 3 => false
  | 5 => false
  | _ => true
def sx_q : Value → Option sx_V
  | .int x => some (0, x.toUInt32.toNat)
  | .long x => some (4, x.toUInt64.toNat)
  | .double x => some (6, x.toNat)
  | .float x => some (7, x.toNat)
  | _ => none
def sx_i2 (f : Int32 → Int32 → Int32) : Value → Value → Option Value
  | .int x, .int y => some (.int (f x y))
  | _, _ => none
def sx_c2 (c : ClassFile.Cond) : Value → Value → Option Value
  | .int x, .int y => some (.int (if ab_cc c x y = true then 1 else 0))
  | _, _ => none
def sx_dv (b : Bool) : Value → Value → Option Value
  | .int x, .int y => if y = 0 then none else some (.int (if b = true then x / y else x - x / y * y))
  | _, _ => none
def sx_l2 (f : Int64 → Int64 → Value) : Value → Value → Option Value
  | .long x, .long y => some (f x y)
  | _, _ => none
def sx_i1 (f : Int32 → Value) : Value → Option Value
  | .int x => some (f x)
  | _ => none
def sx_g0 : Value → Value → Option Value
  | .float x, .float y => if FP.fdiv x y &&& 0x7fffffff ≤ 0x7f800000 then some (.float (FP.fdiv x y)) else none
  | _, _ => none
def sx_g1 : Value → Value → Option Value
  | .double x, .double y => if FP.ddiv x y &&& 0x7fffffffffffffff ≤ 0x7ff0000000000000 then some (.double (FP.ddiv x y)) else none
  | _, _ => none
def sx_g2 (op : ClassFile.CmpOp) : Value → Value → Option Value
  | .double x, .double y => some (.int (Op.cmpValue (FP.dcmp x y) op))
  | _, _ => none
def sx_g4 : Value → Option Value
  | .float x => if FP.f2d x &&& 0x7fffffffffffffff ≤ 0x7ff0000000000000 then some (.double (FP.f2d x)) else none
  | _ => none
/-- the operations by number; of one operand: it stands twice -/
def sx_no : Value → Value → Option Value := fun _ _ => none
def sx_op0 : Value → Value → Option Value := sx_i2 (fun x y => x + y)
def sx_op1 : Value → Value → Option Value := sx_i2 (fun x y => x - y)
def sx_op2 : Value → Value → Option Value := sx_i2 (fun x y => x * y)
def sx_op3 : Value → Value → Option Value := sx_dv true
def sx_op4 : Value → Value → Option Value := sx_dv false
def sx_op5 : Value → Value → Option Value := sx_i2 (fun x y => x &&& y)
def sx_op6 : Value → Value → Option Value := sx_i2 (fun x y => x ||| y)
def sx_op7 : Value → Value → Option Value := sx_i2 (fun x y => x ^^^ y)
def sx_op8 : Value → Value → Option Value := sx_i2 (fun x y => x <<< (y &&& 31))
def sx_op9 : Value → Value → Option Value := sx_i2 (fun x y => x >>> (y &&& 31))
def sx_op10 : Value → Value → Option Value := sx_i2 (fun x y => if y < x then y else x)
def sx_op11 : Value → Value → Option Value := sx_i2 (fun x y => if x < y then y else x)
def sx_op12 : Value → Value → Option Value := sx_l2 (fun x y => .long (x + y))
def sx_op13 : Value → Value → Option Value := sx_l2 (fun x y => .long (x - y))
def sx_op14 : Value → Value → Option Value := sx_l2 (fun x y => .int (lg_cmp x y))
def sx_op15 : Value → Value → Option Value := sx_g0
def sx_op16 : Value → Value → Option Value := sx_g1
def sx_op17 : Value → Value → Option Value := sx_g2 .l
def sx_op18 : Value → Value → Option Value := sx_g2 .g
def sx_op19 : Value → Value → Option Value := fun x _ => sx_g4 x
def sx_op20 : Value → Value → Option Value := fun x _ => sx_i1 (fun x => .int (-x)) x
def sx_op21 : Value → Value → Option Value := fun x _ => sx_i1 (fun x => .long x.toInt64) x
def sx_op22 : Value → Value → Option Value := fun x _ => sx_i1 (fun x => .int (x.toUInt32 % 65536).toInt32) x
def sx_op23 : Value → Value → Option Value := fun x _ => sx_i1 (fun x => .double (FP.i2d x)) x
def sx_op24 : Value → Value → Option Value := fun x _ => sx_i1 (fun x => .float (FP.i2f x)) x
def sx_op30 : Value → Value → Option Value := sx_c2 .eq
def sx_op31 : Value → Value → Option Value := sx_c2 .ne
def sx_op32 : Value → Value → Option Value := sx_c2 .lt
def sx_op33 : Value → Value → Option Value := sx_c2 .ge
def sx_op34 : Value → Value → Option Value := sx_c2 .gt
def sx_op35 : Value → Value → Option Value := sx_c2 .le
def sx_op41 : Value → Value → Option Value := fun x _ => sx_i1 (fun x => .int (if ab_fit 1 (.int x) = true then 1 else 0)) x
def sx_op42 : Value → Value → Option Value := fun x _ => sx_i1 (fun x => .int (if ab_fit 2 (.int x) = true then 1 else 0)) x
def sx_ops : List (Value → Value → Option Value) := [sx_op0, sx_op1, sx_op2, sx_op3, sx_op4, sx_op5, sx_op6, sx_op7, sx_op8, sx_op9, sx_op10, sx_op11, sx_op12, sx_op13, sx_op14, sx_op15, sx_op16, sx_op17, sx_op18, sx_op19, sx_op20, sx_op21, sx_op22, sx_op23, sx_op24, sx_no, sx_no, sx_no, sx_no, sx_no, sx_op30, sx_op31, sx_op32, sx_op33, sx_op34, sx_op35, sx_no, sx_no, sx_no, sx_no, sx_no, sx_op41, sx_op42]
def sx_sem (op : Nat) : Value → Value → Option Value := match sx_nth sx_ops op with
  | some f => f
  | none => sx_no
def sx_veq (x y : sx_V) : Bool := Nat.beq x.1 y.1 && Nat.beq x.2 y.2
def sx_find (op : Nat) (x y : sx_V) : sx_F → Option sx_V
  | [] => none
  | q :: r => match Nat.beq q.1 op && (sx_veq q.2.1 x && sx_veq q.2.2.1 y) with
    | true => some q.2.2.2
    | false => sx_find op x y r
def sx_E0 : sx_E := (fun _ => 0, fun _ => 0, fun _ => 0)
def sx_bz (b : Bool) : Option sx_V := match b with
  | true => some (0, 1)
  | false => some (0, 0)
def sx_q0 : Nat → Nat → Option sx_V := fun a b => some (0, a + b)
def sx_q1 : Nat → Nat → Option sx_V := fun a b => match Nat.ble b a with
  | true => some (0, a - b)
  | false => none
def sx_q30 : Nat → Nat → Option sx_V := fun a b => sx_bz (Nat.beq a b)
def sx_q31 : Nat → Nat → Option sx_V := fun a b => sx_bz (!(Nat.beq a b))
def sx_q32 : Nat → Nat → Option sx_V := fun a b => sx_bz (Nat.ble (a + 1) b)
def sx_q33 : Nat → Nat → Option sx_V := fun a b => sx_bz (Nat.ble b a)
def sx_q34 : Nat → Nat → Option sx_V := fun a b => sx_bz (Nat.ble (b + 1) a)
def sx_q35 : Nat → Nat → Option sx_V := fun a b => sx_bz (Nat.ble a b)
def sx_qn : Nat → Nat → Option sx_V := fun _ _ => none
def sx_qs : List (Nat → Nat → Option sx_V) := [sx_q0, sx_q1, sx_qn, sx_qn, sx_qn, sx_qn, sx_qn, sx_qn, sx_qn, sx_qn, sx_qn, sx_qn, sx_qn, sx_qn, sx_qn, sx_qn, sx_qn, sx_qn, sx_qn, sx_qn, sx_qn, sx_qn, sx_qn, sx_qn, sx_qn, sx_qn, sx_qn, sx_qn, sx_qn, sx_qn, sx_q30, sx_q31, sx_q32, sx_q33, sx_q34, sx_q35]
/-- small constants, without the words of Int32 -/
def sx_qk (op : Nat) (x y : sx_V) : Option sx_V := match Nat.beq x.1 0 && (Nat.beq y.1 0 && (Nat.ble x.2 2147483647 && Nat.ble y.2 2147483647)) with
  | true => match sx_nth sx_qs op with
    | some f => f x.2 y.2
    | none => none
  | false => none
def sx_cc (op : Nat) (x y : sx_V) : Option sx_V := match sx_qk op x y with
  | some z => some z
  | none => match sx_sem op (sx_ev sx_E0 x) (sx_ev sx_E0 y) with
    | some v => sx_q v
    | none => none
def sx_app (F : sx_F) (op : Nat) (x y : sx_V) : Option sx_V := match sx_cl x && sx_cl y with
  | true => sx_cc op x y
  | false => sx_find op x y F
/-- a comparison's answer -/
def sx_tf : Option sx_V → Option Bool
  | some (0, 0) => some false
  | some (0, 1) => some true
  | _ => none
def sx_cmp (F : sx_F) (c : Nat) (x y : sx_V) : Option Bool := sx_tf (sx_app F (30 + c) x y)
def sx_fit (F : sx_F) (k : Nat) (v : sx_V) : Bool := match k with
  | 0 => match v.1 with
    | 0 => true
    | 3 => true
    | _ => false
  | 1 => match v.1 with
    | 0 => Nat.ble v.2 1
    | 3 => match sx_tf (sx_find 41 v v F) with
      | some true => true
      | _ => false
    | _ => false
  | 2 => match v.1 with
    | 0 => Nat.ble v.2 65535
    | 3 => match sx_tf (sx_find 42 v v F) with
      | some true => true
      | _ => false
    | _ => false
  | 3 => match v.1 with
    | 4 => true
    | 5 => true
    | _ => false
  | 4 => match v.1 with
    | 6 => true
    | _ => false
  | 5 => match v.1 with
    | 7 => true
    | _ => false
  | 6 => match v.1 with
    | 1 => true
    | 2 => true
    | _ => false
  | _ => false
def sx_c0 (v : sx_V) : Option sx_V := match sx_cat v with
  | 1 => some v
  | _ => none
def sx_cl2 : Option sx_V → Option sx_V
  | some v => sx_c0 v
  | none => none
def sx_sto : sx_L → Nat → sx_V → sx_L
  | [], _, _ => []
  | _ :: l, 0, v => some v :: (match sx_cat v with
    | 2 => l.set 0 none
    | _ => l)
  | x :: l, 1, v => sx_cl2 x :: sx_sto l 0 v
  | x :: l, i + 2, v => x :: sx_sto l (i + 1) v
def sx_in : List sx_V → sx_L
  | [] => []
  | v :: vs => some v :: (match sx_cat v with
    | 2 => none :: sx_in vs
    | _ => sx_in vs)
def sx_init (vs : List sx_V) (n : Nat) : sx_L := sx_in vs ++ List.replicate (n - (sx_in vs).length) none
def sx_cats : List sx_V → Nat
  | [] => 0
  | v :: r => sx_cat v + sx_cats r
def sx_nx (pc : Nat) (l : sx_L) (st : List sx_V) (G : sx_G) (sl : Nat) : Option sx_O := some (.inl (pc, l, st, G, sl))
def sx_ld (F : sx_F) (k pc : Nat) (l : sx_L) (st : List sx_V) (G : sx_G) (sl i : Nat) : Option sx_O := match l[i]? with
  | some (some v) => match sx_fit F k v with
    | true => sx_nx pc l (v :: st) G sl
    | false => none
  | _ => none
def sx_sv (F : sx_F) (k pc : Nat) (l : sx_L) (st : List sx_V) (G : sx_G) (sl i : Nat) : Option sx_O := match st with
  | v :: st => match sx_fit F k v && Nat.ble (i + sx_cat v) l.length with
    | true => sx_nx pc (sx_sto l i v) st G sl
    | false => none
  | [] => none
def sx_b2 (F : sx_F) (op pc : Nat) (l : sx_L) (st : List sx_V) (G : sx_G) (sl : Nat) : Option sx_O := match st with
  | y :: x :: st => match sx_app F op x y with
    | some z => sx_nx pc l (z :: st) G sl
    | none => none
  | _ => none
def sx_b1 (F : sx_F) (op pc : Nat) (l : sx_L) (st : List sx_V) (G : sx_G) (sl : Nat) : Option sx_O := match st with
  | x :: st => match sx_app F op x x with
    | some z => sx_nx pc l (z :: st) G sl
    | none => none
  | _ => none
/-- Math.min, Math.max -/
def sx_mm (F : sx_F) (op pc : Nat) (l : sx_L) (st : List sx_V) (G : sx_G) (sl : Nat) : Option sx_O := match st with
  | y :: x :: st => match Nat.ble (sx_cats st) 8 with
    | true => match sx_app F op x y with
      | some z => sx_nx pc l (z :: st) G sl
      | none => none
    | false => none
  | _ => none
def sx_br (b : Option Bool) (nx tg : Nat) (l : sx_L) (st : List sx_V) (G : sx_G) (sl : Nat) : Option sx_O := match b with
  | some true => sx_nx tg l st G sl
  | some false => sx_nx nx l st G sl
  | none => none
def sx_rf (v : sx_V) : Option (Option Nat) := match v.1 with
  | 1 => some (some v.2)
  | 2 => some none
  | _ => none
def sx_acmp (x y : sx_V) : Option Bool := match sx_rf x, sx_rf y with
  | some none, some none => some true
  | some (some a), some (some b) => some (Nat.beq a b)
  | some _, some _ => some false
  | _, _ => none
def sx_not : Option Bool → Option Bool
  | some b => some (!b)
  | none => none
def sx_el (G : sx_G) (t : Nat) (v : sx_V) : Bool := match v.1 with
  | 2 => Nat.beq (t % 8) 6 && !(Nat.beq t 14)
  | 1 => match sx_get G v.2 with
    | some (1, ci, _) => Nat.beq t 6 || Nat.beq t (8 * (ci + 2) + 6)
    | some (0, q, _) => Nat.beq t 14 && Nat.beq q 0
    | _ => false
  | _ => false
def sx_al (F : sx_F) (k pc : Nat) (l : sx_L) (st : List sx_V) (G : sx_G) (sl : Nat) : Option sx_O := match st with
  | (0, i) :: (1, a) :: st => match sx_get G a with
    | some (0, t, xs) => match xs[i]? with
      | some v => match Nat.beq (t % 8) k && (Nat.ble i 2147483647 && sx_fit F k v) with
        | true => sx_nx pc l (v :: st) G sl
        | false => none
      | none => none
    | _ => none
  | _ => none
def sx_as (F : sx_F) (k pc : Nat) (l : sx_L) (st : List sx_V) (G : sx_G) (sl : Nat) : Option sx_O := match st with
  | v :: (0, i) :: (1, a) :: st => match sx_get G a with
    | some (0, t, xs) => match Nat.beq (t % 8) k && (Nat.ble i 2147483647 && (Nat.ble t 999 && (sx_fit F k v && (Nat.ble (i + 1) xs.length && (!(Nat.beq k 6) || sx_el G t v))))) with
      | true => sx_nx pc l st (sx_put G a (0, t, sx_set xs i v)) sl
      | false => none
    | _ => none
  | _ => none
def sx_gf (ci k pc : Nat) (l : sx_L) (st : List sx_V) (G : sx_G) (sl : Nat) : Option sx_O := match st with
  | (1, a) :: st => match sx_get G a with
    | some (1, c, fs) => match fs[k]? with
      | some v => match Nat.beq c ci with
        | true => sx_nx pc l (v :: st) G sl
        | false => none
      | none => none
    | _ => none
  | _ => none
def sx_pf (F : sx_F) (ci k t pc : Nat) (l : sx_L) (st : List sx_V) (G : sx_G) (sl : Nat) : Option sx_O := match st with
  | v :: (1, a) :: st => match sx_get G a with
    | some (1, c, fs) => match Nat.beq c ci && (Nat.ble (k + 1) fs.length && sx_fit F t v) with
      | true => sx_nx pc l st (sx_put G a (1, c, sx_set fs k v)) sl
      | false => none
    | _ => none
  | _ => none
def sx_len (pc : Nat) (l : sx_L) (st : List sx_V) (G : sx_G) (sl : Nat) : Option sx_O := match st with
  | (1, a) :: st => match sx_get G a with
    | some (0, _, xs) => sx_nx pc l ((0, xs.length) :: st) G sl
    | _ => none
  | _ => none
def sx_d0 (t : Nat) : sx_V := match t with
  | 0 => (0, 0)
  | 1 => (0, 0)
  | 2 => (0, 0)
  | 3 => (4, 0)
  | 4 => (6, 0)
  | 5 => (7, 0)
  | _ => (2, 0)
def sx_push (pc : Nat) (l : sx_L) (st : List sx_V) (G : sx_G) (sl : Nat) (cs : List sx_C) : Option sx_O := match sx_pshs G cs with
  | some G' => sx_nx pc l ((1, G.1) :: st) G' sl
  | none => none
def sx_na (t : Nat) (dv : sx_V) (pc : Nat) (l : sx_L) (st : List sx_V) (G : sx_G) (sl : Nat) : Option sx_O := match st with
  | (0, n) :: st => match Nat.ble n 50000000 with
    | true => sx_push pc l st G (sl + n) [(0, t, List.replicate n dv)]
    | false => none
  | _ => none
def sx_mu (pc : Nat) (l : sx_L) (st : List sx_V) (G : sx_G) (sl : Nat) : Option sx_O := match st with
  | (0, m) :: (0, n) :: st => match Nat.ble n 1000 && Nat.ble m 1000 with
    | true => sx_push pc l st G (sl + (n + n * m)) ((0, 14, (List.range n).map fun i => (1, G.1 + 1 + i)) :: List.replicate n (0, 0, List.replicate m (0, 0)))
    | false => none
  | _ => none
def sx_nw (ci : Nat) (ts : List Nat) (pc : Nat) (l : sx_L) (st : List sx_V) (G : sx_G) (sl : Nat) : Option sx_O :=
  sx_push pc l st G (sl + ts.length) [(1, ci, ts.map sx_d0)]
def sx_th (e : Nat) (st : List sx_V) (G : sx_G) (sl : Nat) : Option sx_O := match Nat.ble (sx_cats st) 8 with
  | true => match sx_psh G (2, 0, []) with
    | some G' => some (.inr (.inl (.inr e, G', sl + 6)))
    | none => none
  | false => none
def sx_cc2 (ci pc : Nat) (l : sx_L) (st : List sx_V) (G : sx_G) (sl : Nat) : Option sx_O := match st with
  | (1, a) :: st => match sx_get G a with
    | some (1, c, _) => match Nat.beq c ci with
      | true => sx_nx pc l ((1, a) :: st) G sl
      | false => none
    | _ => none
  | _ => none
def sx_ob (pc : Nat) (l : sx_L) (st : List sx_V) (G : sx_G) (sl : Nat) : Option sx_O := match st with
  | (1, _) :: st => match Nat.ble (sx_cats st) 8 with
    | true => sx_nx pc l st G sl
    | false => none
  | _ => none
/-- a call; r: 0 static, 1 of that class, ci + 2 by the receiver's class -/
def sx_call (y na r pc : Nat) (hs : List (Nat × Nat × Nat)) (l : sx_L) (st : List sx_V) (G : sx_G) : Option sx_O :=
  match Nat.ble na st.length && (Nat.ble (sx_cats (st.drop na)) 8 && (match r with
    | 0 => true
    | 1 => match st[na - 1]? with
      | some (1, _) => true
      | _ => false
    | r + 2 => match st[na - 1]? with
      | some (1, a) => match sx_get G a with
        | some (1, c, _) => Nat.beq c r
        | _ => false
      | _ => false)) with
  | true => some (.inr (.inr (y, (st.take na).reverse, pc, l, st.drop na, hs)))
  | false => none
def sx_ret (F : sx_F) (k : Nat) (st : List sx_V) (G : sx_G) (sl : Nat) : Option sx_O := match st with
  | [v] => match sx_fit F k v with
    | true => some (.inr (.inl (.inl (some v), G, sl)))
    | false => none
  | _ => none
def sx_cpy (f g : List sx_V) (sp dp n : Nat) : List sx_V := g.take dp ++ ((f.drop sp).take n ++ g.drop (dp + n))
def sx_cp (F : sx_F) (pc : Nat) (l : sx_L) (st : List sx_V) (G : sx_G) (sl : Nat) : Option sx_O := match st with
  | (0, n) :: (0, dp) :: (1, a1) :: (0, sp) :: (1, a0) :: st => match sx_get G a0, sx_get G a1 with
    | some (0, t0, f), some (0, t1, g) => match Nat.beq t0 t1 && ((Nat.beq t1 0 || Nat.beq t1 6) && (Nat.ble sp 50000000 && (Nat.ble dp 50000000 && (Nat.ble n 50000000 && (Nat.ble (sp + n) f.length && (Nat.ble (dp + n) g.length && (Nat.ble (sx_cats st) 8 && ((f.drop sp).take n).all fun v => sx_fit F t1 v && (Nat.beq t1 0 || sx_el G 6 v)))))))) with
      | true => sx_nx pc l st (sx_put G a1 (0, t1, sx_cpy f g sp dp n)) sl
      | false => none
    | _, _ => none
  | _ => none
def sx_sw (ls : Bool) (pc : Nat) (ps : List (Int × Int)) (l : sx_L) (st : List sx_V) (G : sx_G) (sl : Nat) : Option sx_O := match ps, st with
  | (lo, hi) :: (_, d) :: r, (0, n) :: st => match ls with
    | true => if 0 ≤ (pc : Int) + Op.lookupswitch.offset r d (Int32.ofNat n).toInt then sx_nx (ab_tg pc (Op.lookupswitch.offset r d (Int32.ofNat n).toInt)) l st G sl else none
    | false => if (Int32.ofNat n).toInt < lo ∨ hi < (Int32.ofNat n).toInt then (if 0 ≤ (pc : Int) + d then sx_nx (ab_tg pc d) l st G sl else none)
        else match r[((Int32.ofNat n).toInt - lo).toNat]? with
          | some o => if 0 ≤ (pc : Int) + o.2 then sx_nx (ab_tg pc o.2) l st G sl else none
          | none => none
  | _, _ => none
def sx_dup (n : Nat) (pc : Nat) (l : sx_L) (st : List sx_V) (G : sx_G) (sl : Nat) : Option sx_O := match n, st with
  | 0, v :: st => match sx_cat v with
    | 1 => sx_nx pc l (v :: v :: st) G sl
    | _ => none
  | 1, v :: st => match sx_cat v with
    | 1 => sx_nx pc l st G sl
    | _ => none
  | 2, v :: w :: st => match sx_cat v, sx_cat w with
    | 1, 1 => sx_nx pc l (v :: w :: v :: st) G sl
    | _, _ => none
  | 3, v :: w :: st => match sx_cat v, sx_cat w with
    | 1, 1 => sx_nx pc l (v :: w :: v :: w :: st) G sl
    | _, _ => none
  | _, _ => none
def sx_inc (F : sx_F) (i n pc : Nat) (l : sx_L) (st : List sx_V) (G : sx_G) (sl : Nat) : Option sx_O := match l[i]? with
  | some (some v) => match sx_app F 0 v (0, n) with
    | some z => sx_nx pc (sx_sto l i z) st G sl
    | none => none
  | _ => none
abbrev sx_H : Type := List sx_V → sx_F → sx_X → sx_L → List sx_V → sx_G → Nat → Option sx_O
def sx_h0 : sx_H := fun vs F X l st G sl => match X.2.1 with
  | [p, t, n] => sx_nx p l ((t, n) :: st) G sl
  | _ => none
def sx_h1 : sx_H := fun vs F X l st G sl => match X.2.1 with
  | [p, k, i] => sx_ld F k p l st G sl i
  | _ => none
def sx_h2 : sx_H := fun vs F X l st G sl => match X.2.1 with
  | [p, k, i] => sx_sv F k p l st G sl i
  | _ => none
def sx_h3 : sx_H := fun vs F X l st G sl => match X.2.1 with
  | [p, op] => sx_b2 F op p l st G sl
  | _ => none
def sx_h4 : sx_H := fun vs F X l st G sl => match X.2.1 with
  | [p, op] => sx_b1 F op p l st G sl
  | _ => none
def sx_h5 : sx_H := fun vs F X l st G sl => match X.2.1 with
  | [p, t, c] => match st with
    | y :: x :: st => sx_br (sx_cmp F c x y) p t l st G sl
    | _ => none
  | _ => none
def sx_h6 : sx_H := fun vs F X l st G sl => match X.2.1 with
  | [p, t, c] => match st with
    | x :: st => sx_br (sx_cmp F c x (0, 0)) p t l st G sl
    | _ => none
  | _ => none
def sx_h7 : sx_H := fun vs F X l st G sl => match X.2.1 with
  | [t] => sx_nx t l st G sl
  | _ => none
def sx_h8 : sx_H := fun vs F X l st G sl => match X.2.1 with
  | [p, ci, k] => sx_gf ci k p l st G sl
  | _ => none
def sx_h9 : sx_H := fun vs F X l st G sl => match X.2.1 with
  | [p, ci, k, t] => sx_pf F ci k t p l st G sl
  | _ => none
def sx_h10 : sx_H := fun vs F X l st G sl => match X.2.1 with
  | [p, k] => sx_al F k p l st G sl
  | _ => none
def sx_h11 : sx_H := fun vs F X l st G sl => match X.2.1 with
  | [p, k] => sx_as F k p l st G sl
  | _ => none
def sx_h12 : sx_H := fun vs F X l st G sl => match X.2.1 with
  | [p, i, n] => sx_inc F i n p l st G sl
  | _ => none
def sx_h13 : sx_H := fun vs F X l st G sl => match X.2.1 with
  | [p, y, na, r] => sx_call y na r p X.2.2.1 l st G
  | _ => none
def sx_h14 : sx_H := fun vs F X l st G sl => match X.2.1 with
  | [k] => sx_ret F k st G sl
  | _ => none
def sx_h15 : sx_H := fun vs F X l st G sl => match X.2.1 with
  | [] => match st with
    | [] => some (.inr (.inl (.inl none, G, sl)))
    | _ => none
  | _ => none
def sx_h16 : sx_H := fun vs F X l st G sl => match X.2.1 with
  | [p, n] => sx_dup n p l st G sl
  | _ => none
def sx_h20 : sx_H := fun vs F X l st G sl => match X.2.1 with
  | [p] => sx_len p l st G sl
  | _ => none
def sx_h21 : sx_H := fun vs F X l st G sl => match X.2.1 with
  | [p, t] => sx_na t (sx_d0 (t % 8)) p l st G sl
  | _ => none
def sx_h22 : sx_H := fun vs F X l st G sl => match X.2.1 with
  | [p] => sx_mu p l st G sl
  | _ => none
def sx_h23 : sx_H := fun vs F X l st G sl => match X.2.1 with
  | p :: ci :: ts => sx_nw ci ts p l st G sl
  | _ => none
def sx_h24 : sx_H := fun vs F X l st G sl => match X.2.1 with
  | [e] => sx_th e st G sl
  | _ => none
def sx_h25 : sx_H := fun vs F X l st G sl => match X.2.1 with
  | [p, ci] => sx_cc2 ci p l st G sl
  | _ => none
def sx_h26 : sx_H := fun vs F X l st G sl => match X.2.1 with
  | [p] => sx_ob p l st G sl
  | _ => none
def sx_h27 : sx_H := fun vs F X l st G sl => match X.2.1 with
  | [p, i] => match vs[i]? with
    | some v => sx_nx p l (v :: st) G sl
    | none => none
  | _ => none
def sx_h28 : sx_H := fun vs F X l st G sl => match X.2.1 with
  | [p, t, n] => match st with
    | x :: st => match n with
      | 0 => sx_br (sx_acmp x (2, 0)) p t l st G sl
      | _ => sx_br (sx_not (sx_acmp x (2, 0))) p t l st G sl
    | _ => none
  | _ => none
def sx_h29 : sx_H := fun vs F X l st G sl => match X.2.1 with
  | [p, t, n] => match st with
    | y :: x :: st => match n with
      | 0 => sx_br (sx_acmp x y) p t l st G sl
      | _ => sx_br (sx_not (sx_acmp x y)) p t l st G sl
    | _ => none
  | _ => none
def sx_h30 : sx_H := fun vs F X l st G sl => match X.2.1 with
  | [p] => sx_sw true p X.2.2.2 l st G sl
  | _ => none
def sx_h31 : sx_H := fun vs F X l st G sl => match X.2.1 with
  | [p] => sx_sw false p X.2.2.2 l st G sl
  | _ => none
def sx_h32 : sx_H := fun vs F X l st G sl => match X.2.1 with
  | [p] => sx_cp F p l st G sl
  | _ => none
def sx_h33 : sx_H := fun vs F X l st G sl => match X.2.1 with
  | [p, op] => sx_mm F op p l st G sl
  | _ => none
def sx_h34 : sx_H := fun vs F X l st G sl => match X.2.1 with
  | [p, t] => sx_na t (2, 0) p l st G sl
  | _ => none
def sx_hn : sx_H := fun _ _ _ _ _ _ _ => none
def sx_hl : List sx_H := [sx_h0, sx_h1, sx_h2, sx_h3, sx_h4, sx_h5, sx_h6, sx_h7, sx_h8, sx_h9, sx_h10, sx_h11, sx_h12, sx_h13, sx_h14, sx_h15, sx_h16, sx_hn, sx_hn, sx_hn, sx_h20, sx_h21, sx_h22, sx_h23, sx_h24, sx_h25, sx_h26, sx_h27, sx_h28, sx_h29, sx_h30, sx_h31, sx_h32, sx_h33, sx_h34]
def sx_f (vs : List sx_V) (F : sx_F) (X : sx_X) (l : sx_L) (st : List sx_V) (G : sx_G) (sl : Nat) : Option sx_O := match sx_nth sx_hl X.1 with
  | some f => f vs F X l st G sl
  | none => none
def sx_ci (c : ClassFile.Cond) : Nat := match c with
  | .eq => 0
  | .ne => 1
  | .lt => 2
  | .ge => 3
  | .gt => 4
  | .le => 5
def sx_un (x : Int32) : Nat := x.toUInt32.toNat
def sx_bt (pc : Nat) (o : Int) (f : Nat → sx_X) : Option sx_X := if 0 ≤ (pc : Int) + o then some (f (ab_tg pc o)) else none
/-- an instruction of the machine as one of the executor -/
def sx_tr (pc : Nat) (i : ab_I) : Option sx_X :=
  let aux := i.2.2
  match i.1 with
  | .aconst_null => some (0, [pc + 1, 2, 0], [], [])
  | .iconst n => some (0, [pc + 1, 0, sx_un (Int32.ofInt n)], [], [])
  | .bipush n => some (0, [pc + 2, 0, sx_un (Int8.ofInt n).toInt32], [], [])
  | .sipush n => some (0, [pc + 3, 0, sx_un (Int16.ofInt n).toInt32], [], [])
  | .lconst n => some (0, [pc + 1, 4, n], [], [])
  | .ldc _ => some (0, [pc + 2, 0, ab_ax aux 0], [], [])
  | .ldc_w _ => some (0, [pc + 3, 0, ab_ax aux 0], [], [])
  | .dconst n => some (0, [pc + 1, 6, (if n.val = 0 then FP.dconst0 else FP.dconst1).toNat], [], [])
  | .ldc2_w _ => some (0, [pc + 3, if ab_ax aux 1 = 1 then 4 else 6, ab_ax aux 0], [], [])
  | .iload k => some (1, [pc + 2, 0, k], [], [])
  | .iload_n k => some (1, [pc + 1, 0, k], [], [])
  | .lload k => some (1, [pc + 2, 3, k], [], [])
  | .lload_n k => some (1, [pc + 1, 3, k], [], [])
  | .dload k => some (1, [pc + 2, 4, k], [], [])
  | .dload_n k => some (1, [pc + 1, 4, k], [], [])
  | .aload k => some (1, [pc + 2, 6, k], [], [])
  | .aload_n k => some (1, [pc + 1, 6, k], [], [])
  | .istore k => some (2, [pc + 2, 0, k], [], [])
  | .istore_n k => some (2, [pc + 1, 0, k], [], [])
  | .lstore k => some (2, [pc + 2, 3, k], [], [])
  | .lstore_n k => some (2, [pc + 1, 3, k], [], [])
  | .dstore k => some (2, [pc + 2, 4, k], [], [])
  | .dstore_n k => some (2, [pc + 1, 4, k], [], [])
  | .astore k => some (2, [pc + 2, 6, k], [], [])
  | .astore_n k => some (2, [pc + 1, 6, k], [], [])
  | .iinc k n => some (12, [pc + 3, k, sx_un (Int32.ofInt n)], [], [])
  | .iadd => some (3, [pc + 1, 0], [], [])
  | .isub => some (3, [pc + 1, 1], [], [])
  | .imul => some (3, [pc + 1, 2], [], [])
  | .idiv => some (3, [pc + 1, 3], [], [])
  | .irem => some (3, [pc + 1, 4], [], [])
  | .iand => some (3, [pc + 1, 5], [], [])
  | .ior => some (3, [pc + 1, 6], [], [])
  | .ixor => some (3, [pc + 1, 7], [], [])
  | .ishl => some (3, [pc + 1, 8], [], [])
  | .ishr => some (3, [pc + 1, 9], [], [])
  | .ineg => some (4, [pc + 1, 20], [], [])
  | .i2l => some (4, [pc + 1, 21], [], [])
  | .i2c => some (4, [pc + 1, 22], [], [])
  | .i2d => some (4, [pc + 1, 23], [], [])
  | .i2f => some (4, [pc + 1, 24], [], [])
  | .ladd => some (3, [pc + 1, 12], [], [])
  | .lsub => some (3, [pc + 1, 13], [], [])
  | .lcmp => some (3, [pc + 1, 14], [], [])
  | .fdiv => some (3, [pc + 1, 15], [], [])
  | .ddiv => some (3, [pc + 1, 16], [], [])
  | .f2d => some (4, [pc + 1, 19], [], [])
  | .dcmp op => match op with
    | .l => some (3, [pc + 1, 17], [], [])
    | .g => some (3, [pc + 1, 18], [], [])
  | .dup => some (16, [pc + 1, 0], [], [])
  | .pop => some (16, [pc + 1, 1], [], [])
  | .dup_x1 => some (16, [pc + 1, 2], [], [])
  | .dup2 => some (16, [pc + 1, 3], [], [])
  | .ifCond c o => sx_bt pc o fun t => (6, [pc + 3, t, sx_ci c], [], [])
  | .if_icmp c o => sx_bt pc o fun t => (5, [pc + 3, t, sx_ci c], [], [])
  | .ifnull o => sx_bt pc o fun t => (28, [pc + 3, t, 0], [], [])
  | .ifnonnull o => sx_bt pc o fun t => (28, [pc + 3, t, 1], [], [])
  | .if_acmp c o => match c with
    | .eq => sx_bt pc o fun t => (29, [pc + 3, t, 0], [], [])
    | .ne => sx_bt pc o fun t => (29, [pc + 3, t, 1], [], [])
  | .goto o => sx_bt pc o fun t => (7, [t], [], [])
  | .tableswitch d lo hi os => some (31, [pc], [], (lo, hi) :: (0, d) :: os.toList.map fun o => (0, o))
  | .lookupswitch d ps => some (30, [pc], [], (0, 0) :: (0, d) :: ps.toList)
  | .getfield _ => some (8, [pc + 3, ab_ax aux 0, ab_ax aux 1], [], [])
  | .putfield _ => some (9, [pc + 3, ab_ax aux 0, ab_ax aux 1, ab_ax aux 2], [], [])
  | .getstatic _ => some (27, [pc + 3, ab_ax aux 0], [], [])
  | .iaload => some (10, [pc + 1, 0], [], [])
  | .baload => some (10, [pc + 1, 1], [], [])
  | .laload => some (10, [pc + 1, 3], [], [])
  | .aaload => some (10, [pc + 1, 6], [], [])
  | .iastore => some (11, [pc + 1, 0], [], [])
  | .bastore => some (11, [pc + 1, 1], [], [])
  | .lastore => some (11, [pc + 1, 3], [], [])
  | .aastore => some (11, [pc + 1, 6], [], [])
  | .arraylength => some (20, [pc + 1], [], [])
  | .newarray _ => some (21, [pc + 2, ab_ax aux 0], [], [])
  | .anewarray _ => some (34, [pc + 3, ab_ax aux 0], [], [])
  | .multianewarray _ _ => some (22, [pc + 4], [], [])
  | .new _ => match aux with
    | 0 :: ci :: ts => some (23, (pc + 3) :: ci :: ts, [], [])
    | 1 :: e :: _ => some (24, [e], [], [])
    | _ => none
  | .checkcast _ => some (25, [pc + 3, ab_ax aux 0], [], [])
  | .invokespecial _ => match aux with
    | [0] => some (26, [pc + 3], [], [])
    | y :: na :: hd => some (13, [pc + 3, y, na, 1], ab_hs hd, [])
    | _ => none
  | .invokevirtual _ => match aux with
    | y :: na :: ci :: hd => some (13, [pc + 3, y, na, ci + 2], ab_hs hd, [])
    | _ => none
  | .invokestatic _ => match aux with
    | [1] => some (32, [pc + 3], [], [])
    | [2] => some (33, [pc + 3, 10], [], [])
    | [3] => some (33, [pc + 3, 11], [], [])
    | y :: na :: hd => some (13, [pc + 3, y, na, 0], ab_hs hd, [])
    | _ => none
  | .ireturn => match ab_ax aux 0 with
    | 0 => some (14, [0], [], [])
    | 1 => some (14, [1], [], [])
    | 2 => some (14, [2], [], [])
    | _ => none
  | .lreturn => some (14, [3], [], [])
  | .freturn => some (14, [5], [], [])
  | .dreturn => some (14, [4], [], [])
  | .areturn => some (14, [6], [], [])
  | .return_ => some (15, [], [], [])
  | _ => none
