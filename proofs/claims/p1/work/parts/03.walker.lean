/-! ===== THE WALKER: values that are known, or known by a term over the script's ints; a heap of known cells behind a base address ===== -/
/-- a value: known (a reference by its place behind the base; retAddr: the script), an int by its term, a long by its term -/
abbrev wk_V : Type := Value ⊕ (Term ⊕ Term)
/-- a cell: an array (its kind's number, its contents), an object (its class's number, its fields) -/
abbrev wk_C : Type := (Nat × List wk_V) ⊕ (Nat × List wk_V)
abbrev wk_L : Type := List (Nat × wk_V)
def wk_b (o : Binary) (x y : Int32 × Int64) : Int32 × Int64 := match o with
  | .iand => (x.1 &&& y.1, 0)
  | .ior => (x.1 ||| y.1, 0)
  | .ixor => (x.1 ^^^ y.1, 0)
  | .ishl => (x.1 <<< (y.1 &&& 31), 0)
  | .ishr => (x.1 >>> (y.1 &&& 31), 0)
  | .ladd => (0, x.2 + y.2)
  | .lsub => (0, x.2 - y.2)
  | .lmul => (0, x.2 * y.2)
  | .land => (0, x.2 &&& y.2)
  | .lor => (0, x.2 ||| y.2)
  | .lxor => (0, x.2 ^^^ y.2)
  | .lshl => (0, x.2 <<< (y.1.toInt64 &&& 63))
  | .lshr => (0, x.2 >>> (y.1.toInt64 &&& 63))
  | .lushr => (0, (x.2.toUInt64 >>> (y.1.toInt64.toUInt64 &&& Int64.toUInt64 63)).toInt64)
  | .lcmp => (lg_cmp x.2 y.2, 0)
  | _ => (0, 0)
def wk_u (o : Unary) (x : Int32 × Int64) : Int32 × Int64 := match o with
  | .ineg => (-x.1, 0)
  | .lneg => (0, -x.2)
  | .i2l => (0, x.1.toInt64)
  | .l2i => (x.2.toInt32, 0)
  | _ => (0, 0)
def wk_t (ρ : Nat → Int32) : Term → Int32 × Int64
  | .arg i => (ρ i, 0)
  | .int v => (v, 0)
  | .long v => (0, v)
  | .add a b => ((wk_t ρ a).1 + (wk_t ρ b).1, 0)
  | .sub a b => ((wk_t ρ a).1 - (wk_t ρ b).1, 0)
  | .mul a b => ((wk_t ρ a).1 * (wk_t ρ b).1, 0)
  | .op2 o a b => wk_b o (wk_t ρ a) (wk_t ρ b)
  | .op1 o a => wk_u o (wk_t ρ a)
  | _ => (0, 0)
/-- what a value is: B the base, z the script's address -/
def wk_v (B z : Nat) (ρ : Nat → Int32) : wk_V → Value
  | .inl (.ref k) => .ref (B + k)
  | .inl (.retAddr _) => .ref z
  | .inl v => v
  | .inr (.inl t) => .int (wk_t ρ t).1
  | .inr (.inr t) => .long (wk_t ρ t).2
/-- the term of an int, of a long -/
def wk_i : wk_V → Option Term
  | .inl (.int x) => some (.int x)
  | .inr (.inl t) => some t
  | _ => none
def wk_j : wk_V → Option Term
  | .inl (.long x) => some (.long x)
  | .inr (.inr t) => some t
  | _ => none
/-- an int, a long by its term: known, if the term is a number -/
def wk_mi : Term → wk_V
  | .int x => .inl (.int x)
  | t => .inr (.inl t)
def wk_mj : Term → wk_V
  | .long x => .inl (.long x)
  | t => .inr (.inr t)
/-- an operation: done at once on numbers -/
def wk_o2 (o : Binary) : Term → Term → Term
  | .int x, .int y => match o with
    | .iand | .ior | .ixor | .ishl | .ishr => .int (wk_b o (x, 0) (y, 0)).1
    | _ => .op2 o (.int x) (.int y)
  | .long x, .long y => match o with
    | .ladd | .lsub | .lmul | .land | .lor | .lxor => .long (wk_b o (0, x) (0, y)).2
    | .lcmp => .int (wk_b o (0, x) (0, y)).1
    | _ => .op2 o (.long x) (.long y)
  | .long x, .int y => match o with
    | .lshl | .lshr | .lushr => .long (wk_b o (0, x) (y, 0)).2
    | _ => .op2 o (.long x) (.int y)
  | a, b => .op2 o a b
def wk_o1 (o : Unary) : Term → Term
  | .int x => match o with
    | .ineg => .int (-x)
    | .i2l => .long x.toInt64
    | _ => .op1 o (.int x)
  | .long x => match o with
    | .lneg => .long (-x)
    | .l2i => .int x.toInt32
    | _ => .op1 o (.long x)
  | a => .op1 o a
def wk_add : Term → Term → Term
  | .int x, .int y => .int (x + y)
  | a, b => .add a b
def wk_sub : Term → Term → Term
  | .int x, .int y => .int (x - y)
  | a, b => .sub a b
def wk_mul : Term → Term → Term
  | .int x, .int y => .int (x * y)
  | a, b => .mul a b
/-- bounds of an int: known numbers, the script's ints by iv, what lcmp makes of such -/
def wk_bl (iv : List (Int × Int)) : Term → Option (Int × Int)
  | .long x => some (x.toInt, x.toInt)
  | .op1 .i2l (.arg i) => iv[i]?
  | _ => none
def wk_cm (p q : Int × Int) : Int × Int := if q.2 < p.1 then (1, 1) else if p.2 < q.1 then (-1, -1) else if q.2 ≤ p.1 then (if p.2 ≤ q.1 then (0, 0) else (0, 1)) else if p.2 ≤ q.1 then (-1, 0) else (-1, 1)
def wk_bi (iv : List (Int × Int)) : Term → Option (Int × Int)
  | .int x => some (x.toInt, x.toInt)
  | .arg i => iv[i]?
  | .op2 .lcmp a b => match wk_bl iv a, wk_bl iv b with
    | some p, some q => some (wk_cm p q)
    | _, _ => none
  | _ => none
def wk_lt (p q : Int × Int) : Option Bool := if p.2 < q.1 then some true else if q.2 ≤ p.1 then some false else none
def wk_eq (p q : Int × Int) : Option Bool := if p.1 = p.2 ∧ q.1 = q.2 ∧ p.1 = q.1 then some true else if p.2 < q.1 ∨ q.2 < p.1 then some false else none
def wk_cnd (c : ClassFile.Cond) (p q : Int × Int) : Option Bool := match c with
  | .eq => wk_eq p q
  | .ne => (wk_eq p q).map (fun r => !r)
  | .lt => wk_lt p q
  | .ge => (wk_lt p q).map (fun r => !r)
  | .gt => wk_lt q p
  | .le => (wk_lt q p).map (fun r => !r)
def wk_holds (c : ClassFile.Cond) (x y : Int32) : Prop := match c with
  | .eq => x = y
  | .ne => ¬ x = y
  | .lt => x < y
  | .ge => y ≤ x
  | .gt => y < x
  | .le => x ≤ y
/-- a branch: where it goes -/
def wk_to (pc : Nat) (off : Int) : Option Nat := match (pc : Int) + off with
  | .ofNat t => some t
  | _ => none
def wk_br (iv : List (Int × Int)) (c : ClassFile.Cond) (pc : Nat) (off : Int) (a b : Term) : Option Nat := match wk_bi iv a, wk_bi iv b with
  | some p, some q => match wk_cnd c p q with
    | some true => wk_to pc off
    | some false => some (pc + 3)
    | none => none
  | _, _ => none
def wk_c1 : wk_V → Bool
  | .inl (.int _) | .inl (.ref _) | .inl .null | .inl (.retAddr _) | .inr (.inl _) => true
  | _ => false
def wk_c2 : wk_V → Bool
  | .inl (.long _) | .inr (.inr _) => true
  | _ => false
/-- locals: read, store of one place, of two -/
def wk_get (AL : wk_L) (i : Nat) : Option wk_V := (AL.find? (fun q => q.1 == i)).map (fun q => q.2)
def wk_st1 (AL : wk_L) (i : Nat) (v : wk_V) : wk_L := (i, v) :: AL.filter (fun q => !(q.1 == i) && !(q.1 + 1 == i && wk_c2 q.2))
def wk_st2 (AL : wk_L) (i : Nat) (v : wk_V) : wk_L := (i, v) :: AL.filter (fun q => !(q.1 == i) && (!(q.1 == i + 1) && !(q.1 + 1 == i && wk_c2 q.2)))
def wk_ref : wk_V → Bool
  | .inl (.ref _) | .inl (.retAddr _) => true
  | _ => false
/-- lengths of the instructions that the walker takes -/
def wk_lk : Instr → Nat → Bool
  | .iconst _, n | .lconst _, n | .iload_n _, n | .lload_n _, n | .aload_n _, n | .istore_n _, n | .lstore_n _, n | .astore_n _, n => n == 1
  | .bipush _, n | .iload _, n | .lload _, n | .aload _, n | .istore _, n | .lstore _, n | .astore _, n | .newarray _, n | .ldc _, n => n == 2
  | .sipush _, n | .iinc _ _, n | .goto _, n | .ifCond _ _, n | .if_icmp _ _, n | .ldc2_w _, n | .getfield _, n | .putfield _, n | .new _, n | .anewarray _, n => n == 3
  | .invokespecial _, n | .invokestatic _, n | .invokevirtual _, n => n == 3
  | .multianewarray _ _, n => n == 4
  | .tableswitch .., _ => true
  | _, n => n == 1
/-- the instructions that leave the heap alone: the next place, locals, stack. mk: what the first of the script's ints is behind '& 63' -/
def wk_pure (iv : List (Int × Int)) (mk : Option Int32) (nL : Nat) (i : Instr) (pc : Nat) (AL : wk_L) (AS : List wk_V) : Option (Nat × wk_L × List wk_V) :=
  match i, AS with
  | .iconst n, AS => some (pc + 1, AL, .inl (.int (Int32.ofInt n)) :: AS)
  | .bipush n, AS => some (pc + 2, AL, .inl (.int (Int8.ofInt n).toInt32) :: AS)
  | .sipush n, AS => some (pc + 3, AL, .inl (.int (Int16.ofInt n).toInt32) :: AS)
  | .lconst n, AS => some (pc + 1, AL, .inl (.long (Int64.ofNat n.val)) :: AS)
  | .iload_n k, AS => match wk_get AL k.val with
    | some v => if (wk_i v).isSome then some (pc + 1, AL, v :: AS) else none
    | none => none
  | .iload k, AS => match wk_get AL k with
    | some v => if (wk_i v).isSome then some (pc + 2, AL, v :: AS) else none
    | none => none
  | .lload_n k, AS => match wk_get AL k.val with
    | some v => if (wk_j v).isSome then some (pc + 1, AL, v :: AS) else none
    | none => none
  | .lload k, AS => match wk_get AL k with
    | some v => if (wk_j v).isSome then some (pc + 2, AL, v :: AS) else none
    | none => none
  | .aload_n k, AS => match wk_get AL k.val with
    | some v => if wk_ref v then some (pc + 1, AL, v :: AS) else none
    | none => none
  | .aload k, AS => match wk_get AL k with
    | some v => if wk_ref v then some (pc + 2, AL, v :: AS) else none
    | none => none
  | .istore_n k, v :: AS => if (wk_i v).isSome ∧ k.val < nL then some (pc + 1, wk_st1 AL k.val v, AS) else none
  | .istore k, v :: AS => if (wk_i v).isSome ∧ k < nL then some (pc + 2, wk_st1 AL k v, AS) else none
  | .lstore_n k, v :: AS => if (wk_j v).isSome ∧ k.val + 1 < nL then some (pc + 1, wk_st2 AL k.val v, AS) else none
  | .lstore k, v :: AS => if (wk_j v).isSome ∧ k + 1 < nL then some (pc + 2, wk_st2 AL k v, AS) else none
  | .astore_n k, v :: AS => if wk_ref v ∧ k.val < nL then some (pc + 1, wk_st1 AL k.val v, AS) else none
  | .astore k, v :: AS => if wk_ref v ∧ k < nL then some (pc + 2, wk_st1 AL k v, AS) else none
  | .iinc k n, AS => match (wk_get AL k).bind wk_i with
    | some t => if k < nL then some (pc + 3, wk_st1 AL k (wk_mi (wk_add t (.int (Int32.ofInt n)))), AS) else none
    | none => none
  | .goto off, AS => (wk_to pc off).map fun t => (t, AL, AS)
  | .ifCond c off, v :: AS => ((wk_i v).bind fun t => wk_br iv c pc off t (.int 0)).map fun t => (t, AL, AS)
  | .if_icmp c off, v :: w :: AS => ((wk_i v).bind fun t => (wk_i w).bind fun u => wk_br iv c pc off u t).map fun t => (t, AL, AS)
  | .iadd, v :: w :: AS => ((wk_i v).bind fun t => (wk_i w).map fun u => wk_mi (wk_add u t)).map fun x => (pc + 1, AL, x :: AS)
  | .isub, v :: w :: AS => ((wk_i v).bind fun t => (wk_i w).map fun u => wk_mi (wk_sub u t)).map fun x => (pc + 1, AL, x :: AS)
  | .imul, v :: w :: AS => ((wk_i v).bind fun t => (wk_i w).map fun u => wk_mi (wk_mul u t)).map fun x => (pc + 1, AL, x :: AS)
  | .iand, v :: w :: AS => match v, w, mk with
    | .inl (.int 63), .inr (.inl (.arg 0)), some k => some (pc + 1, AL, .inl (.int k) :: AS)
    | v, w, _ => ((wk_i v).bind fun t => (wk_i w).map fun u => wk_mi (wk_o2 .iand u t)).map fun x => (pc + 1, AL, x :: AS)
  | .ior, v :: w :: AS => ((wk_i v).bind fun t => (wk_i w).map fun u => wk_mi (wk_o2 .ior u t)).map fun x => (pc + 1, AL, x :: AS)
  | .ishl, v :: w :: AS => ((wk_i v).bind fun t => (wk_i w).map fun u => wk_mi (wk_o2 .ishl u t)).map fun x => (pc + 1, AL, x :: AS)
  | .ishr, v :: w :: AS => ((wk_i v).bind fun t => (wk_i w).map fun u => wk_mi (wk_o2 .ishr u t)).map fun x => (pc + 1, AL, x :: AS)
  | .idiv, v :: w :: AS => match v, w with
    | .inl (.int y), .inl (.int x) => if y = 0 then none else some (pc + 1, AL, .inl (.int (x / y)) :: AS)
    | _, _ => none
  | .irem, v :: w :: AS => match v, w with
    | .inl (.int y), .inl (.int x) => if y = 0 then none else some (pc + 1, AL, .inl (.int (x - x / y * y)) :: AS)
    | _, _ => none
  | .ldiv, v :: w :: AS => match v, w with
    | .inl (.long y), .inl (.long x) => if y = 0 then none else some (pc + 1, AL, .inl (.long (x / y)) :: AS)
    | _, _ => none
  | .lrem, v :: w :: AS => match v, w with
    | .inl (.long y), .inl (.long x) => if y = 0 then none else some (pc + 1, AL, .inl (.long (x - x / y * y)) :: AS)
    | _, _ => none
  | .ladd, v :: w :: AS => ((wk_j v).bind fun t => (wk_j w).map fun u => wk_mj (wk_o2 .ladd u t)).map fun x => (pc + 1, AL, x :: AS)
  | .lmul, v :: w :: AS => ((wk_j v).bind fun t => (wk_j w).map fun u => wk_mj (wk_o2 .lmul u t)).map fun x => (pc + 1, AL, x :: AS)
  | .land, v :: w :: AS => ((wk_j v).bind fun t => (wk_j w).map fun u => wk_mj (wk_o2 .land u t)).map fun x => (pc + 1, AL, x :: AS)
  | .lor, v :: w :: AS => ((wk_j v).bind fun t => (wk_j w).map fun u => wk_mj (wk_o2 .lor u t)).map fun x => (pc + 1, AL, x :: AS)
  | .lshl, v :: w :: AS => ((wk_i v).bind fun t => (wk_j w).map fun u => wk_mj (wk_o2 .lshl u t)).map fun x => (pc + 1, AL, x :: AS)
  | .lshr, v :: w :: AS => ((wk_i v).bind fun t => (wk_j w).map fun u => wk_mj (wk_o2 .lshr u t)).map fun x => (pc + 1, AL, x :: AS)
  | .lushr, v :: w :: AS => ((wk_i v).bind fun t => (wk_j w).map fun u => wk_mj (wk_o2 .lushr u t)).map fun x => (pc + 1, AL, x :: AS)
  | .lcmp, v :: w :: AS => ((wk_j v).bind fun t => (wk_j w).map fun u => wk_mi (wk_o2 .lcmp u t)).map fun x => (pc + 1, AL, x :: AS)
  | .ineg, v :: AS => ((wk_i v).map fun t => wk_mi (wk_o1 .ineg t)).map fun x => (pc + 1, AL, x :: AS)
  | .i2l, v :: AS => ((wk_i v).map fun t => wk_mj (wk_o1 .i2l t)).map fun x => (pc + 1, AL, x :: AS)
  | .l2i, v :: AS => ((wk_j v).map fun t => wk_mi (wk_o1 .l2i t)).map fun x => (pc + 1, AL, x :: AS)
  | .dup, v :: AS => if wk_c1 v then some (pc + 1, AL, v :: v :: AS) else none
  | .dup_x1, v :: w :: AS => if wk_c1 v ∧ wk_c1 w then some (pc + 1, AL, v :: w :: v :: AS) else none
  | .dup2, v :: w :: AS => if wk_c1 v ∧ wk_c1 w then some (pc + 1, AL, v :: w :: v :: w :: AS) else none
  | .pop, v :: AS => if wk_c1 v then some (pc + 1, AL, AS) else none
  | .tableswitch d lo hi offs, .inl (.int x) :: AS => if x.toInt < lo ∨ hi < x.toInt then (wk_to pc d).map fun t => (t, AL, AS) else (offs[(x.toInt - lo).toNat]?.bind fun o => wk_to pc o).map fun t => (t, AL, AS)
  | _, _ => none
