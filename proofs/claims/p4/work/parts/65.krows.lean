/-! ===== rows in numbers, held against the rows of code ===== -/
def kd_cd (c : Nat) : ClassFile.Cond := match c with
  | 0 => .eq
  | 1 => .ne
  | 2 => .lt
  | 3 => .ge
  | 4 => .gt
  | _ => .le
def kd_isC (i : Instr) (x : Nat × Nat × Int) (a len : Nat) : Bool := match i with
  | .iconst k => Nat.beq len 1 && Nat.beq (kd_nb (Int32.ofInt k)) a
  | .bipush k => Nat.beq len 2 && Nat.beq (kd_nb (Int8.ofInt k).toInt32) a
  | .sipush k => Nat.beq len 3 && Nat.beq (kd_nb (Int16.ofInt k).toInt32) a
  | .ldc _ => Nat.beq len 2 && Nat.beq (kd_nb (Int32.ofInt x.2.2)) a
  | .ldc_w _ => Nat.beq len 3 && Nat.beq (kd_nb (Int32.ofInt x.2.2)) a
  | _ => false
def kd_isL (op : Nat) (i : Instr) (a len : Nat) : Bool := match op, i with
  | 2, .iload_n k => Nat.beq len 1 && Nat.beq k.val a
  | 2, .iload k => Nat.beq len 2 && Nat.beq k a
  | 3, .aload_n k => Nat.beq len 1 && Nat.beq k.val a
  | 3, .aload k => Nat.beq len 2 && Nat.beq k a
  | 4, .lload_n k => Nat.beq len 1 && Nat.beq k.val a
  | 4, .lload k => Nat.beq len 2 && Nat.beq k a
  | 5, .istore_n k => Nat.beq len 1 && Nat.beq k.val a
  | 5, .istore k => Nat.beq len 2 && Nat.beq k a
  | 6, .astore_n k => Nat.beq len 1 && Nat.beq k.val a
  | 6, .astore k => Nat.beq len 2 && Nat.beq k a
  | 7, .lstore_n k => Nat.beq len 1 && Nat.beq k.val a
  | 7, .lstore k => Nat.beq len 2 && Nat.beq k a
  | _, _ => false
def kd_isB (op : Nat) (i : Instr) : Bool := match op, i with
  | 22, .iadd => true
  | 23, .isub => true
  | 24, .imul => true
  | 25, .iand => true
  | 26, .ior => true
  | 27, .ixor => true
  | 28, .ishl => true
  | 29, .ishr => true
  | 30, .idiv => true
  | 31, .irem => true
  | 32, .ineg => true
  | 33, .i2l => true
  | 34, .l2i => true
  | 36, .ladd => true
  | 36, .lsub => true
  | 36, .lmul => true
  | 36, .lor => true
  | 37, .land => true
  | 38, .lshl => true
  | 38, .lshr => true
  | 38, .lushr => true
  | 39, .ldiv => true
  | 39, .lrem => true
  | 41, .dup => true
  | 42, .dup_x1 => true
  | 43, .dup2 => true
  | 44, .pop => true
  | 48, .iaload => true
  | 49, .baload => true
  | 50, .aaload => true
  | 51, .iastore => true
  | 52, .bastore => true
  | 53, .arraylength => true
  | _, _ => false
def kd_isJ (i : Instr) (x : Nat × Nat × Int) (a len : Nat) : Bool := match i with
  | .lconst k => Nat.beq len 1 && Nat.beq (kd_nj (Int64.ofNat k.val)) a
  | .ldc2_w _ => Nat.beq len 3 && Nat.beq (kd_nj (Int64.ofInt x.2.2)) a
  | _ => false
def kd_isS (i : Instr) (pc a b : Nat) (l : List Nat) : Bool := match i with
  | .tableswitch d lo hi offs => decide (wk_to pc d = some b) && (decide (lo + 2147483648 = (a : Int)) && (decide (hi + 1 = lo + (l.length : Int)) && decide (offs.toList.map (wk_to pc) = l.map some)))
  | _ => false
def kd_isF (op : Nat) (i : Instr) (x : Nat × Nat × Int) (a b c : Nat) : Bool := match op, i with
  | 46, .getfield _ => Nat.beq x.1 a && Nat.beq x.2.1 b
  | 47, .putfield _ => Nat.beq x.1 a && (Nat.beq x.2.1 b && Nat.beq x.2.2.toNat c)
  | _, _ => false
def kd_isM (i : Instr) (x : Nat × Nat × Int) (a b c : Nat) : Bool := wk_isI i x.1 && (Nat.beq x.2.1 a && match wk_mt a with
  | some M2 => Nat.beq (wk_argn x.1 (wk_Mn M2)) b && (bif Nat.beq x.1 0 then Nat.beq (wk_Mc M2) c && Nat.blt c 99 else Nat.beq c 99 && (Nat.beq x.1 1 || Nat.beq x.1 3))
  | none => false)
def kd_isR (M : wk_M) (i : Instr) (a : Nat) : Bool := match a, i with
  | 0, .ireturn => decide (wk_Mr M = some .int)
  | 1, .ireturn => decide (wk_Mr M = some .boolean)
  | 2, .lreturn => decide (wk_Mr M = some .long)
  | 3, .return_ => decide (wk_Mr M = none)
  | _, _ => false
def kd_is8 (i : Instr) (a b len : Nat) : Bool := match i with
  | .iinc k m => Nat.beq len 3 && (Nat.beq k a && Nat.beq (kd_nb (Int32.ofInt m)) b)
  | _ => false
def kd_isG (i : Instr) (pc a : Nat) : Bool := match i with
  | .goto off => decide (wk_to pc off = some a)
  | _ => false
def kd_isIf (i : Instr) (pc a cn len : Nat) : Bool := match i with
  | .ifCond cd off => decide (wk_to pc off = some a) && (decide (cd = kd_cd cn) && Nat.beq len 3)
  | _ => false
def kd_isIc (i : Instr) (pc a cn len : Nat) : Bool := match i with
  | .if_icmp cd off => decide (wk_to pc off = some a) && (decide (cd = kd_cd cn) && Nat.beq len 3)
  | _ => false
def kd_isLc (M : wk_M) (i : Instr) (pc a b len : Nat) : Bool := match i with
  | .lcmp => Nat.beq len 4 && match wk_fetch M (pc + 1) with
    | some (p2, .ifCond cd off, _, _, _, _, _) => Nat.beq p2 (pc + 1) && (decide (wk_to (pc + 1) off = some a) && decide (cd = kd_cd b))
    | _ => false
  | _ => false
def kd_isMa (i : Instr) (x : Nat × Nat × Int) (k len : Nat) : Bool := match i with
  | .invokestatic _ => Nat.beq x.1 k && Nat.beq len 3
  | _ => false
def kd_isx (M : wk_M) (pc op a b c len : Nat) (l : List Nat) (i : Instr) (x : Nat × Nat × Int) : Bool :=
  bif Nat.ble op 9 then (bif Nat.beq op 1 then kd_isC i x a len else bif Nat.ble op 7 then kd_isL op i a len else bif Nat.beq op 8 then kd_is8 i a b len else kd_isG i pc a)
  else bif Nat.ble op 15 then kd_isIf i pc a (op - 10) len
  else bif Nat.ble op 21 then kd_isIc i pc a (op - 16) len
  else bif Nat.beq op 35 then kd_isLc M i pc a b len
  else bif Nat.beq op 40 then kd_isJ i x a len
  else bif Nat.beq op 45 then kd_isS i pc a b l
  else bif Nat.ble op 45 then kd_isB op i && Nat.beq len 1
  else bif Nat.ble op 47 then kd_isF op i x a b c && Nat.beq len 3
  else bif Nat.ble op 53 then kd_isB op i && Nat.beq len 1
  else bif Nat.beq op 54 then kd_isM i x a b c
  else bif Nat.ble op 58 then kd_isMa i x (op - 50) len
  else kd_isR M i a
def kd_is (M : wk_M) (r : kd_X) : Bool := match r with
  | (pc, op, a, b, c, len, l) => match wk_fetch M pc with
    | some (p, i, _, x, _, _, _) => Nat.beq p pc && kd_isx M pc op a b c len l i x
    | none => false
def kd_isA2 (M : wk_M) (X : List (List kd_X)) : Bool := X.all fun r => r.all (kd_is M)
