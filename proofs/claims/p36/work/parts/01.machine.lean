/-! THE ABSTRACT MACHINE: cells by address (an array: its kind and elements; an object: its class's number and fields), the next address, the slots used; one step of it; runs of a method. No judgement of the kit stands here: part 03 ties it to W. -/
abbrev ab_C : Type := (Nat × List Value) ⊕ (Nat × List Value)
abbrev ab_H : Type := (Nat → Option ab_C) × Nat × Nat
abbrev ab_L : Type := List (Option Value)
/-- returned; thrown: the number of the class -/
abbrev ab_R : Type := Option Value ⊕ Nat
abbrev ab_I : Type := ClassFile.Instr × Nat × List Nat
abbrev ab_O : Type := (Nat × ab_L × List Value × ab_H) ⊕ ((ab_R × ab_H) ⊕ (Nat × List Value × Nat × ab_L × List Value × List (Nat × Nat × Nat)))
abbrev ab_Q : Type := ab_R → ab_H → Prop
abbrev ab_N : Type := Nat → ab_L → List Value → ab_H → Prop
abbrev ab_Y : Type := Nat → List Value → ab_H → ab_Q → Prop
def ab_set (h : ab_H) (a : Nat) (c : ab_C) : ab_H := (fun b => if b = a then some c else h.1 b, h.2.1, h.2.2)
def ab_new (h : ab_H) (c : ab_C) (n : Nat) : ab_H := (fun b => if b = h.2.1 then some c else h.1 b, h.2.1 + 1, h.2.2 + n)
/-- kinds of values: 0 int, 1 boolean, 2 char, 3 long, 4 double, 5 float, else a reference -/
def ab_fit : Nat → Value → Bool
  | 0, .int _ => true
  | 1, .int x => x == 0 || x == 1
  | 2, .int x => 0 ≤ x && x ≤ 65535
  | 3, .long _ => true
  | 4, .double _ => true
  | 5, .float _ => true
  | 6, .null => true
  | 6, .ref _ => true
  | _, _ => false
def ab_dv : Nat → Value
  | 0 => .int 0
  | 1 => .int 0
  | 2 => .int 0
  | 3 => .long 0
  | 4 => .double 0
  | 5 => .float 0
  | _ => .null
/-- a store into the locals -/
def ab_cl2 : Option Value → Option Value
  | some v => if v.category = 2 then none else some v
  | none => none
def ab_sto : ab_L → Nat → Value → ab_L
  | [], _, _ => []
  | _ :: l, 0, v => some v :: (if v.category = 2 then l.set 0 none else l)
  | x :: l, 1, v => ab_cl2 x :: ab_sto l 0 v
  | x :: l, i + 2, v => x :: ab_sto l (i + 1) v
def ab_in : List Value → ab_L
  | [] => []
  | v :: vs => some v :: (if v.category = 2 then none :: ab_in vs else ab_in vs)
def ab_init (vs : List Value) (n : Nat) : ab_L := ab_in vs ++ List.replicate (n - (ab_in vs).length) none
def ab_nx (pc : Nat) (l : ab_L) (st : List Value) (h : ab_H) : Option ab_O := some (.inl (pc, l, st, h))
def ab_ld (k pc : Nat) (l : ab_L) (st : List Value) (h : ab_H) (i : Nat) : Option ab_O := match l[i]? with
  | some (some v) => if ab_fit k v = true then ab_nx pc l (v :: st) h else none
  | _ => none
def ab_sv (k pc : Nat) (l : ab_L) (st : List Value) (h : ab_H) (i : Nat) : Option ab_O := match st with
  | v :: st => if ab_fit k v = true ∧ i + (v.category - 1) < l.length then ab_nx pc (ab_sto l i v) st h else none
  | [] => none
def ab_tg (pc : Nat) (o : Int) : Nat := ((pc : Int) + o).toNat
/-- a branch: the target must not lie ahead of the method -/
def ab_br (b : Bool) (pc : Nat) (o : Int) (l : ab_L) (st : List Value) (h : ab_H) : Option ab_O :=
  if 0 ≤ (pc : Int) + o then (if b = true then ab_nx (ab_tg pc o) l st h else ab_nx (pc + 3) l st h) else none
def ab_cc : ClassFile.Cond → Int32 → Int32 → Bool
  | .eq, x, y => decide (x = y)
  | .ne, x, y => !decide (x = y)
  | .lt, x, y => decide (x < y)
  | .ge, x, y => decide (y ≤ x)
  | .gt, x, y => decide (y < x)
  | .le, x, y => decide (x ≤ y)
def ab_rf : Value → Option (Option Nat)
  | .null => some none
  | .ref a => some (some a)
  | _ => none
/-- handlers: the class caught, the place behind the store of the exception, the local that it goes to -/
def ab_hs : List Nat → List (Nat × Nat × Nat)
  | e :: p :: k :: r => (e, p, k) :: ab_hs r
  | _ => []
/-- what may stand in an array of that kind: 6: any reference; 14: rows of ints; 8 * (ci + 2) + 6: objects of the class ci -/
def ab_el2 (t : Nat) : Option ab_C → Bool
  | some (.inr q) => t == 6 || t == 8 * (q.1 + 2) + 6
  | some (.inl q) => t == 14 && q.1 == 0
  | none => false
def ab_el (h : ab_H) (t : Nat) : Value → Bool
  | .null => t % 8 == 6 && t != 14
  | .ref a => ab_el2 t (h.1 a)
  | _ => false
/-- the rows of new int[n][m], at the addresses from the next one on, behind the outer array -/
def ab_mu (h : ab_H) (n m : Nat) : ab_H :=
  (fun b => if b = h.2.1 then some (.inl (14, (List.range n).map fun i => .ref (h.2.1 + 1 + i)))
    else if h.2.1 < b ∧ b < h.2.1 + 1 + n then some (.inl (0, List.replicate m (.int 0))) else h.1 b, h.2.1 + (1 + n), h.2.2 + (n + n * m))
def ab_cpy (f g : List Value) (sp dp n : Nat) : List Value := g.take dp ++ ((f.drop sp).take n ++ g.drop (dp + n))
def ab_call (y na pc : Nat) (hd : List Nat) (l : ab_L) (st : List Value) (h : ab_H) : Option ab_O :=
  if na ≤ st.length ∧ ((st.drop na).map Value.category).sum ≤ 8 then some (.inr (.inr (y, (st.take na).reverse, pc, l, st.drop na, ab_hs hd))) else none
def ab_i1 (f : Int32 → Value) (pc : Nat) (l : ab_L) (st : List Value) (h : ab_H) : Option ab_O := match st with
  | .int x :: st => ab_nx pc l (f x :: st) h
  | _ => none
def ab_i2 (f : Int32 → Int32 → Int32) (pc : Nat) (l : ab_L) (st : List Value) (h : ab_H) : Option ab_O := match st with
  | .int y :: .int x :: st => ab_nx pc l (.int (f x y) :: st) h
  | _ => none
def ab_l2 (f : Int64 → Int64 → Value) (pc : Nat) (l : ab_L) (st : List Value) (h : ab_H) : Option ab_O := match st with
  | .long y :: .long x :: st => ab_nx pc l (f x y :: st) h
  | _ => none
/-- a load from an array of the kind k -/
def ab_al (k pc : Nat) (l : ab_L) (st : List Value) (h : ab_H) : Option ab_O := match st with
  | .int i :: .ref a :: st => match h.1 a with
    | some (.inl (t, xs)) => if t % 8 = k ∧ ¬ (i < 0 ∨ xs.length ≤ i.toNatClampNeg) then (match xs[i.toNatClampNeg]? with
        | some v => if ab_fit k v = true then ab_nx (pc + 1) l (v :: st) h else none
        | none => none) else none
    | _ => none
  | _ => none
/-- a store into an array of the kind k -/
def ab_as (k pc : Nat) (l : ab_L) (st : List Value) (h : ab_H) : Option ab_O := match st with
  | v :: .int i :: .ref a :: st => match h.1 a with
    | some (.inl (t, xs)) => if t % 8 = k ∧ t < 1000 ∧ ab_fit k v = true ∧ ¬ (i < 0 ∨ xs.length ≤ i.toNatClampNeg) ∧ (k = 6 → ab_el h t v = true)
        then ab_nx (pc + 1) l st (ab_set h a (.inl (t, xs.set i.toNatClampNeg v))) else none
    | _ => none
  | _ => none
def ab_ax (aux : List Nat) (i : Nat) : Nat := aux.getD i 0
def ab_f (sv : Nat → Value) (i : ab_I) (pc : Nat) (l : ab_L) (st : List Value) (h : ab_H) : Option ab_O :=
  let aux := i.2.2
  match i.1 with
  | .aconst_null => ab_nx (pc + 1) l (.null :: st) h
  | .iconst n => ab_nx (pc + 1) l (.int (Int32.ofInt n) :: st) h
  | .bipush n => ab_nx (pc + 2) l (.int (Int8.ofInt n).toInt32 :: st) h
  | .sipush n => ab_nx (pc + 3) l (.int (Int16.ofInt n).toInt32 :: st) h
  | .lconst n => ab_nx (pc + 1) l (.long (Int64.ofNat (n : Nat)) :: st) h
  | .ldc _ => ab_nx (pc + 2) l (.int (Int32.ofNat (ab_ax aux 0)) :: st) h
  | .ldc_w _ => ab_nx (pc + 3) l (.int (Int32.ofNat (ab_ax aux 0)) :: st) h
  | .dconst n => ab_nx (pc + 1) l (.double (if n.val = 0 then FP.dconst0 else FP.dconst1) :: st) h
  | .ldc2_w _ => ab_nx (pc + 3) l ((if ab_ax aux 1 = 1 then .long (Int64.ofNat (ab_ax aux 0)) else .double (UInt64.ofNat (ab_ax aux 0))) :: st) h
  | .iload k => ab_ld 0 (pc + 2) l st h k
  | .iload_n k => ab_ld 0 (pc + 1) l st h k
  | .lload k => ab_ld 3 (pc + 2) l st h k
  | .lload_n k => ab_ld 3 (pc + 1) l st h k
  | .dload k => ab_ld 4 (pc + 2) l st h k
  | .dload_n k => ab_ld 4 (pc + 1) l st h k
  | .aload k => ab_ld 6 (pc + 2) l st h k
  | .aload_n k => ab_ld 6 (pc + 1) l st h k
  | .istore k => ab_sv 0 (pc + 2) l st h k
  | .istore_n k => ab_sv 0 (pc + 1) l st h k
  | .lstore k => ab_sv 3 (pc + 2) l st h k
  | .lstore_n k => ab_sv 3 (pc + 1) l st h k
  | .dstore k => ab_sv 4 (pc + 2) l st h k
  | .dstore_n k => ab_sv 4 (pc + 1) l st h k
  | .astore k => ab_sv 6 (pc + 2) l st h k
  | .astore_n k => ab_sv 6 (pc + 1) l st h k
  | .iinc k n => match l[k]? with
    | some (some (.int x)) => ab_nx (pc + 3) (ab_sto l k (.int (x + Int32.ofInt n))) st h
    | _ => none
  | .iadd => ab_i2 (fun x y => x + y) (pc + 1) l st h
  | .isub => ab_i2 (fun x y => x - y) (pc + 1) l st h
  | .imul => ab_i2 (fun x y => x * y) (pc + 1) l st h
  | .iand => ab_i2 (fun x y => x &&& y) (pc + 1) l st h
  | .ior => ab_i2 (fun x y => x ||| y) (pc + 1) l st h
  | .ixor => ab_i2 (fun x y => x ^^^ y) (pc + 1) l st h
  | .ishl => ab_i2 (fun x y => x <<< (y &&& 31)) (pc + 1) l st h
  | .ishr => ab_i2 (fun x y => x >>> (y &&& 31)) (pc + 1) l st h
  | .idiv => match st with
    | .int y :: .int x :: st => if y = 0 then none else ab_nx (pc + 1) l (.int (x / y) :: st) h
    | _ => none
  | .irem => match st with
    | .int y :: .int x :: st => if y = 0 then none else ab_nx (pc + 1) l (.int (x - x / y * y) :: st) h
    | _ => none
  | .ineg => ab_i1 (fun x => .int (-x)) (pc + 1) l st h
  | .i2l => ab_i1 (fun x => .long x.toInt64) (pc + 1) l st h
  | .i2c => ab_i1 (fun x => .int (x.toUInt32 % 65536).toInt32) (pc + 1) l st h
  | .i2d => ab_i1 (fun x => .double (FP.i2d x)) (pc + 1) l st h
  | .i2f => ab_i1 (fun x => .float (FP.i2f x)) (pc + 1) l st h
  | .ladd => ab_l2 (fun x y => .long (x + y)) (pc + 1) l st h
  | .lsub => ab_l2 (fun x y => .long (x - y)) (pc + 1) l st h
  | .lcmp => ab_l2 (fun x y => .int (lg_cmp x y)) (pc + 1) l st h
  | .fdiv => match st with
    | .float y :: .float x :: st => if FP.fdiv x y &&& 0x7fffffff ≤ 0x7f800000 then ab_nx (pc + 1) l (.float (FP.fdiv x y) :: st) h else none
    | _ => none
  | .ddiv => match st with
    | .double y :: .double x :: st => if FP.ddiv x y &&& 0x7fffffffffffffff ≤ 0x7ff0000000000000 then ab_nx (pc + 1) l (.double (FP.ddiv x y) :: st) h else none
    | _ => none
  | .f2d => match st with
    | .float x :: st => if FP.f2d x &&& 0x7fffffffffffffff ≤ 0x7ff0000000000000 then ab_nx (pc + 1) l (.double (FP.f2d x) :: st) h else none
    | _ => none
  | .dcmp op => match st with
    | .double y :: .double x :: st => ab_nx (pc + 1) l (.int (Op.cmpValue (FP.dcmp x y) op) :: st) h
    | _ => none
  | .dup => match st with
    | v :: st => if v.category = 1 then ab_nx (pc + 1) l (v :: v :: st) h else none
    | _ => none
  | .pop => match st with
    | v :: st => if v.category = 1 then ab_nx (pc + 1) l st h else none
    | _ => none
  | .dup_x1 => match st with
    | v :: w :: st => if v.category = 1 ∧ w.category = 1 then ab_nx (pc + 1) l (v :: w :: v :: st) h else none
    | _ => none
  | .dup2 => match st with
    | v :: w :: st => if v.category = 1 ∧ w.category = 1 then ab_nx (pc + 1) l (v :: w :: v :: w :: st) h else none
    | _ => none
  | .ifCond c o => match st with
    | .int x :: st => ab_br (ab_cc c x 0) pc o l st h
    | _ => none
  | .if_icmp c o => match st with
    | .int y :: .int x :: st => ab_br (ab_cc c x y) pc o l st h
    | _ => none
  | .ifnull o => match st with
    | v :: st => match ab_rf v with
      | some r => ab_br (decide (r = none)) pc o l st h
      | none => none
    | _ => none
  | .ifnonnull o => match st with
    | v :: st => match ab_rf v with
      | some r => ab_br (decide (r ≠ none)) pc o l st h
      | none => none
    | _ => none
  | .if_acmp c o => match st with
    | w :: v :: st => match ab_rf v, ab_rf w with
      | some x, some y => ab_br (match c with | .eq => decide (x = y) | .ne => !decide (x = y)) pc o l st h
      | _, _ => none
    | _ => none
  | .goto o => if 0 ≤ (pc : Int) + o then ab_nx (ab_tg pc o) l st h else none
  | .tableswitch d lo hi os => match st with
    | .int x :: st => if x.toInt < lo ∨ hi < x.toInt then (if 0 ≤ (pc : Int) + d then ab_nx (ab_tg pc d) l st h else none)
        else (match os[(x.toInt - lo).toNat]? with
          | some o => if 0 ≤ (pc : Int) + o then ab_nx (ab_tg pc o) l st h else none
          | none => none)
    | _ => none
  | .lookupswitch d ps => match st with
    | .int x :: st => if 0 ≤ (pc : Int) + Op.lookupswitch.offset ps.toList d x.toInt then ab_nx (ab_tg pc (Op.lookupswitch.offset ps.toList d x.toInt)) l st h else none
    | _ => none
  | .getfield _ => match st with
    | .ref a :: st => match h.1 a with
      | some (.inr (ci, fs)) => if ci = ab_ax aux 0 then (match fs[ab_ax aux 1]? with
          | some v => ab_nx (pc + 3) l (v :: st) h
          | none => none) else none
      | _ => none
    | _ => none
  | .putfield _ => match st with
    | v :: .ref a :: st => match h.1 a with
      | some (.inr (ci, fs)) => if ci = ab_ax aux 0 ∧ ab_ax aux 1 < fs.length ∧ ab_fit (ab_ax aux 2) v = true then ab_nx (pc + 3) l st (ab_set h a (.inr (ci, fs.set (ab_ax aux 1) v))) else none
      | _ => none
    | _ => none
  | .getstatic _ => ab_nx (pc + 3) l (sv (ab_ax aux 0) :: st) h
  | .iaload => ab_al 0 pc l st h
  | .baload => ab_al 1 pc l st h
  | .laload => ab_al 3 pc l st h
  | .daload => ab_al 4 pc l st h
  | .aaload => ab_al 6 pc l st h
  | .iastore => ab_as 0 pc l st h
  | .bastore => ab_as 1 pc l st h
  | .lastore => ab_as 3 pc l st h
  | .dastore => ab_as 4 pc l st h
  | .aastore => ab_as 6 pc l st h
  | .arraylength => match st with
    | .ref a :: st => match h.1 a with
      | some (.inl (_, xs)) => ab_nx (pc + 1) l (.int (Int32.ofNat xs.length) :: st) h
      | _ => none
    | _ => none
  | .newarray _ => match st with
    | .int n :: st => if ¬ n < 0 ∧ n.toNatClampNeg ≤ 50000000 then ab_nx (pc + 2) l (.ref h.2.1 :: st) (ab_new h (.inl (ab_ax aux 0, List.replicate n.toNatClampNeg (ab_dv (ab_ax aux 0 % 8)))) n.toNatClampNeg) else none
    | _ => none
  | .anewarray _ => match st with
    | .int n :: st => if ¬ n < 0 ∧ n.toNatClampNeg ≤ 50000000 then ab_nx (pc + 3) l (.ref h.2.1 :: st) (ab_new h (.inl (ab_ax aux 0, List.replicate n.toNatClampNeg .null)) n.toNatClampNeg) else none
    | _ => none
  | .multianewarray _ _ => match st with
    | .int m :: .int n :: st => if ¬ n < 0 ∧ ¬ m < 0 ∧ n.toNatClampNeg ≤ 1000 ∧ m.toNatClampNeg ≤ 1000 then ab_nx (pc + 4) l (.ref h.2.1 :: st) (ab_mu h n.toNatClampNeg m.toNatClampNeg) else none
    | _ => none
  | .new _ => match aux with
    | 0 :: ci :: ts => ab_nx (pc + 3) l (.ref h.2.1 :: st) (ab_new h (.inr (ci, ts.map ab_dv)) ts.length)
    | 1 :: e :: _ => if (st.map Value.category).sum ≤ 8 then some (.inr (.inl (.inr e, (h.1, h.2.1 + 1, h.2.2 + 6)))) else none
    | _ => none
  | .checkcast _ => match st with
    | .ref a :: st => match h.1 a with
      | some (.inr (ci, _)) => if ci = ab_ax aux 0 then ab_nx (pc + 3) l (.ref a :: st) h else none
      | _ => none
    | _ => none
  | .invokespecial _ => match aux with
    | [0] => match st with
      | .ref _ :: st => if (st.map Value.category).sum ≤ 8 then ab_nx (pc + 3) l st h else none
      | _ => none
    | y :: na :: hd => match st[na - 1]? with
      | some (.ref _) => ab_call y na (pc + 3) hd l st h
      | _ => none
    | _ => none
  | .invokevirtual _ => match aux with
    | y :: na :: ci :: hd => match st[na - 1]? with
      | some (.ref a) => match h.1 a with
        | some (.inr (cj, _)) => if cj = ci then ab_call y na (pc + 3) hd l st h else none
        | _ => none
      | _ => none
    | _ => none
  | .invokestatic _ => match aux with
    | [1] => match st with
      | .int n :: .int dp :: .ref a1 :: .int sp :: .ref a0 :: st => match h.1 a0, h.1 a1 with
        | some (.inl (t0, f)), some (.inl (t1, g)) => if ((t1 = 0 ∧ t0 = 0) ∨ (t1 = 6 ∧ t0 = 6)) ∧ ¬ sp < 0 ∧ ¬ dp < 0 ∧ ¬ n < 0 ∧ sp.toNatClampNeg + n.toNatClampNeg ≤ f.length ∧ dp.toNatClampNeg + n.toNatClampNeg ≤ g.length ∧ (st.map Value.category).sum ≤ 8 ∧
              (((f.drop sp.toNatClampNeg).take n.toNatClampNeg).all fun v => ab_fit t1 v && (t1 == 0 || ab_el h 6 v)) = true
            then ab_nx (pc + 3) l st (ab_set h a1 (.inl (t1, ab_cpy f g sp.toNatClampNeg dp.toNatClampNeg n.toNatClampNeg))) else none
        | _, _ => none
      | _ => none
    | [2] => match st with
      | .int y :: .int x :: st => if (st.map Value.category).sum ≤ 8 then ab_nx (pc + 3) l (.int (if y < x then y else x) :: st) h else none
      | _ => none
    | [3] => match st with
      | .int y :: .int x :: st => if (st.map Value.category).sum ≤ 8 then ab_nx (pc + 3) l (.int (if x < y then y else x) :: st) h else none
      | _ => none
    | y :: na :: hd => ab_call y na (pc + 3) hd l st h
    | _ => none
  | .ireturn => match st with
    | [.int x] => if ab_fit (ab_ax aux 0) (.int x) = true then some (.inr (.inl (.inl (some (.int x)), h))) else none
    | _ => none
  | .lreturn => match st with
    | [.long x] => some (.inr (.inl (.inl (some (.long x)), h)))
    | _ => none
  | .freturn => match st with
    | [.float x] => some (.inr (.inl (.inl (some (.float x)), h)))
    | _ => none
  | .dreturn => match st with
    | [.double x] => some (.inr (.inl (.inl (some (.double x)), h)))
    | _ => none
  | .areturn => match st with
    | [v] => if ab_fit 6 v = true then some (.inr (.inl (.inl (some v), h))) else none
    | _ => none
  | .return_ => match st with
    | [] => some (.inr (.inl (.inl none, h)))
    | _ => none
  | _ => none
/-- behind a call: the answer goes on the stack; what is thrown goes to a handler -/
def ab_hd (nx : ab_N) (l : ab_L) (h : ab_H) : Option (Nat × Nat) → Prop
  | some pk => nx pk.1 ((ab_sto l pk.2 .null).set pk.2 none) [] h
  | none => False
def ab_bk (nx : ab_N) (pc : Nat) (l : ab_L) (st : List Value) (hs : List (Nat × Nat × Nat)) : ab_R → ab_H → Prop
  | .inl v, h => nx pc l (v.toList ++ st) h
  | .inr e, h => ab_hd nx l h (hs.lookup e)
def ab_x (sv : Nat → Value) (C : ab_Y) (nx : ab_N) (Q : ab_Q) (i : ab_I) (pc : Nat) (l : ab_L) (st : List Value) (h : ab_H) : Prop :=
  match ab_f sv i pc l st h with
  | some (.inl (pc', l', st', h')) => nx pc' l' st' h'
  | some (.inr (.inl (r, h'))) => Q r h'
  | some (.inr (.inr (y, as, pc', l', st', hs))) => C y as h (ab_bk nx pc' l' st' hs)
  | none => False
/-- n steps at most, in a method's code k -/
def ab_go (sv : Nat → Value) (C : ab_Y) (k : Nat → Option ab_I) (Q : ab_Q) : Nat → ab_N
  | 0 => fun _ _ _ _ => False
  | n + 1 => fun pc l st h => match k pc with
    | some i => ab_x sv C (ab_go sv C k Q n) Q i pc l st h
    | none => False
/-- the methods: code and locals by number; calls nested d deep at most -/
def ab_run (sv : Nat → Value) (mt : Nat → (Nat → Option ab_I) × Nat) : Nat → ab_Y
  | 0 => fun _ _ _ _ => False
  | d + 1 => fun y as h Q => (ab_in as).length ≤ (mt y).2 ∧ ∃ n, ab_go sv (ab_run sv mt d) (mt y).1 Q n 0 (ab_init as (mt y).2) [] h
def ab_WP (sv : Nat → Value) (C : ab_Y) (k : Nat → Option ab_I) (Q : ab_Q) : ab_N := fun pc l st h => ∃ n, ab_go sv C k Q n pc l st h
