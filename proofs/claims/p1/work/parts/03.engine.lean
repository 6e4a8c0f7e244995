/-! ===== THE ENGINE: a run of bytecode over known values, computed by the kernel; the script's ints as variables in a box ===== -/
/-- a value: an int within bounds, a long within bounds, a reference (null, or a cell's number), or (0, i) the int variable i, (1, i) it as a long, (2, _) the script -/
abbrev wk_V : Type := (Int × Int) ⊕ ((Int × Int) ⊕ (Option Nat ⊕ (Nat × Nat)))
/-- a cell: an array (its kind, its contents), an object (its class's number, its fields) -/
abbrev wk_C : Type := (Nat × List wk_V) ⊕ (Nat × List wk_V)
abbrev wk_L : Type := List (Nat × wk_V)
abbrev wk_I : Type := List (Int × Int)
/-- a row of code: its place, the instruction, its length, what it is linked to, where the words stand -/
abbrev wk_X : Type := Nat × Instr × Nat × (Nat × Nat × Int) × List Nat
/-- a method: its class's number, name, bytes, locals, what it returns, the cells and slots that it may make, parameters, code in rows of sixteen places -/
abbrev wk_M : Type := Nat × MethodName × ByteArray × Nat × Option FieldType × Nat × Nat × Nat × List (List wk_X)
def wk_Mc (M : wk_M) : Nat := M.1
def wk_My (M : wk_M) : MethodName := M.2.1
def wk_Mb (M : wk_M) : ByteArray := M.2.2.1
def wk_Ml (M : wk_M) : Nat := M.2.2.2.1
def wk_Mr (M : wk_M) : Option FieldType := M.2.2.2.2.1
def wk_Mk (M : wk_M) : Nat := M.2.2.2.2.2.1
def wk_Ms (M : wk_M) : Nat := M.2.2.2.2.2.2.1
def wk_Mn (M : wk_M) : Nat := M.2.2.2.2.2.2.2.1
def wk_Mx (M : wk_M) : List (List wk_X) := M.2.2.2.2.2.2.2.2
def wk_at {α : Type} : List α → Nat → Option α
  | [], _ => none
  | a :: _, 0 => some a
  | _ :: l, n + 1 => wk_at l n
theorem wk_at_eq {α : Type} : ∀ (l : List α) (n : Nat), wk_at l n = l[n]?
  | [], n => by simp [wk_at]
  | a :: l, 0 => by simp [wk_at]
  | a :: l, n + 1 => by simp [wk_at, wk_at_eq l n]
/-- the list with another element, made at once -/
def wk_put {α β : Type} : List α → Nat → α → (List α → β) → β
  | [], _, _, k => k []
  | _ :: l, 0, v, k => k (v :: l)
  | a :: l, n + 1, v, k => wk_put l n v (fun r => k (a :: r))
theorem wk_put_eq {α β : Type} : ∀ (l : List α) (n : Nat) (v : α) (k : List α → β), wk_put l n v k = k (l.set n v)
  | [], n, v, k => by simp [wk_put]
  | a :: l, 0, v, k => by simp [wk_put]
  | a :: l, n + 1, v, k => by simp [wk_put, wk_put_eq l n v]
def wk_fN {β : Type} (n : Nat) (k : Nat → β) : β := match n with
  | 0 => k 0
  | m + 1 => k (m + 1)
theorem wk_fN_eq {β : Type} (n : Nat) (k : Nat → β) : wk_fN n k = k n := by cases n <;> rfl
def wk_fI {β : Type} (x : Int) (k : Int → β) : β := match x with
  | .ofNat n => wk_fN n (fun n => k (.ofNat n))
  | .negSucc n => wk_fN n (fun n => k (.negSucc n))
theorem wk_fI_eq {β : Type} (x : Int) (k : Int → β) : wk_fI x k = k x := by cases x <;> simp [wk_fI, wk_fN_eq]
def wk_fV {β : Type} (v : wk_V) (k : wk_V → β) : β := match v with
  | .inl (a, b) => wk_fI a (fun a => wk_fI b (fun b => k (.inl (a, b))))
  | .inr (.inl (a, b)) => wk_fI a (fun a => wk_fI b (fun b => k (.inr (.inl (a, b)))))
  | .inr (.inr (.inl none)) => k (.inr (.inr (.inl none)))
  | .inr (.inr (.inl (some n))) => wk_fN n (fun n => k (.inr (.inr (.inl (some n)))))
  | .inr (.inr (.inr (t, i))) => k (.inr (.inr (.inr (t, i))))
theorem wk_fV_eq {β : Type} (v : wk_V) (k : wk_V → β) : wk_fV v k = k v := by
  rcases v with ⟨a, b⟩ | ⟨a, b⟩ | (_ | n) | ⟨t, i⟩ <;> simp [wk_fV, wk_fI_eq, wk_fN_eq]
def wk_fS {β : Type} (l : List wk_V) (k : List wk_V → β) : β := match l with
  | [] => k []
  | v :: r => wk_fV v (fun v => k (v :: r))
theorem wk_fS_eq {β : Type} (l : List wk_V) (k : List wk_V → β) : wk_fS l k = k l := by cases l <;> simp [wk_fS, wk_fV_eq]
def wk_fA {β : Type} (l : wk_L) (k : wk_L → β) : β := match l with
  | [] => k []
  | (i, v) :: r => wk_fV v (fun v => k ((i, v) :: r))
theorem wk_fA_eq {β : Type} (l : wk_L) (k : wk_L → β) : wk_fA l k = k l := by
  rcases l with _ | ⟨⟨i, v⟩, r⟩ <;> simp [wk_fA, wk_fV_eq]
/-- the box: bounds of an int, of a long -/
def wk_gi (iv : wk_I) (v : wk_V) : Option (Int × Int) := match v with
  | .inl p => some p
  | .inr (.inr (.inr (0, i))) => wk_at iv i
  | _ => none
def wk_gj (iv : wk_I) (v : wk_V) : Option (Int × Int) := match v with
  | .inr (.inl p) => some p
  | .inr (.inr (.inr (1, i))) => wk_at iv i
  | _ => none
def wk_tI : wk_V := .inl (-2147483648, 2147483647)
def wk_tJ : wk_V := .inr (.inl (-9223372036854775808, 9223372036854775807))
def wk_sI (x : Int32) : wk_V := .inl (x.toInt, x.toInt)
def wk_sJ (x : Int64) : wk_V := .inr (.inl (x.toInt, x.toInt))
/-- an operation on two ints, two longs, a long and an int: done on numbers, else anything -/
def wk_o2 (iv : wk_I) (F : Int32 → Int32 → Int32) (v w : wk_V) : Option wk_V := match wk_gi iv v, wk_gi iv w with
  | some p, some q => some (if p.1 = p.2 ∧ q.1 = q.2 then wk_sI (F (Int32.ofInt p.1) (Int32.ofInt q.1)) else wk_tI)
  | _, _ => none
def wk_o2j (iv : wk_I) (F : Int64 → Int64 → Int64) (v w : wk_V) : Option wk_V := match wk_gj iv v, wk_gj iv w with
  | some p, some q => some (if p.1 = p.2 ∧ q.1 = q.2 then wk_sJ (F (Int64.ofInt p.1) (Int64.ofInt q.1)) else wk_tJ)
  | _, _ => none
def wk_o2s (iv : wk_I) (F : Int64 → Int32 → Int64) (v w : wk_V) : Option wk_V := match wk_gj iv v, wk_gi iv w with
  | some p, some q => some (if p.1 = p.2 ∧ q.1 = q.2 then wk_sJ (F (Int64.ofInt p.1) (Int32.ofInt q.1)) else wk_tJ)
  | _, _ => none
def wk_d2 (iv : wk_I) (F : Int32 → Int32 → Int32) (v w : wk_V) : Option wk_V := match wk_gi iv v, wk_gi iv w with
  | some p, some q => if p.1 = p.2 ∧ q.1 = q.2 ∧ ¬ Int32.ofInt q.1 = 0 then some (wk_sI (F (Int32.ofInt p.1) (Int32.ofInt q.1))) else none
  | _, _ => none
def wk_d2j (iv : wk_I) (F : Int64 → Int64 → Int64) (v w : wk_V) : Option wk_V := match wk_gj iv v, wk_gj iv w with
  | some p, some q => if p.1 = p.2 ∧ q.1 = q.2 ∧ ¬ Int64.ofInt q.1 = 0 then some (wk_sJ (F (Int64.ofInt p.1) (Int64.ofInt q.1))) else none
  | _, _ => none
def wk_lc (iv : wk_I) (v w : wk_V) : Option wk_V := match wk_gj iv v, wk_gj iv w with
  | some p, some q => if q.2 < p.1 then some (.inl (1, 1)) else if p.2 < q.1 then some (.inl (-1, -1)) else if p.1 = p.2 ∧ q.1 = q.2 then some (.inl (0, 0)) else none
  | _, _ => none
def wk_lt (p q : Int × Int) : Option Bool := if p.2 < q.1 then some true else if q.2 ≤ p.1 then some false else none
def wk_eq (p q : Int × Int) : Option Bool := if p.1 = p.2 ∧ q.1 = q.2 ∧ p.1 = q.1 then some true else if p.2 < q.1 ∨ q.2 < p.1 then some false else none
def wk_cnd (c : ClassFile.Cond) (p q : Int × Int) : Option Bool := match c with
  | .eq => wk_eq p q
  | .ne => (wk_eq p q).map (fun r => !r)
  | .lt => wk_lt p q
  | .ge => (wk_lt p q).map (fun r => !r)
  | .gt => wk_lt q p
  | .le => (wk_lt q p).map (fun r => !r)
def wk_holds (c : ClassFile.Cond) (x y : Int32) : Prop := match c with
  | .eq => x = y
  | .ne => ¬ x = y
  | .lt => x < y
  | .ge => y ≤ x
  | .gt => y < x
  | .le => x ≤ y
def wk_to (pc : Nat) (off : Int) : Option Nat := match (pc : Int) + off with
  | .ofNat t => some t
  | _ => none
def wk_br (c : ClassFile.Cond) (pc : Nat) (off : Int) (p q : Option (Int × Int)) : Option Nat := match p, q, wk_to pc off with
  | some p, some q, some t => (wk_cnd c p q).map fun b => if b then t else pc + 3
  | _, _, _ => none
def wk_c1 : wk_V → Bool
  | .inl _ => true
  | .inr (.inr (.inl _)) => true
  | .inr (.inr (.inr (1, _))) => false
  | .inr (.inr (.inr _)) => true
  | _ => false
def wk_c2 : wk_V → Bool
  | .inr (.inl _) => true
  | .inr (.inr (.inr (1, _))) => true
  | _ => false
def wk_isr : wk_V → Bool
  | .inr (.inr (.inl (some _))) => true
  | .inr (.inr (.inr (2, _))) => true
  | _ => false
def wk_get : wk_L → Nat → Option wk_V
  | [], _ => none
  | (j, v) :: l, i => if Nat.beq j i then some v else wk_get l i
def wk_st1 (AL : wk_L) (i : Nat) (v : wk_V) : wk_L := (i, v) :: AL.filter (fun q => !(q.1 == i) && !(q.1 + 1 == i && wk_c2 q.2))
def wk_st2 (AL : wk_L) (i : Nat) (v : wk_V) : wk_L := (i, v) :: AL.filter (fun q => !(q.1 == i) && (!(q.1 == i + 1) && !(q.1 + 1 == i && wk_c2 q.2)))
/-- '& 63' of the variable 0 is the variable 5 -/
def wk_an (iv : wk_I) (v w : wk_V) : Option wk_V := match v, w with
  | .inl (63, 63), .inr (.inr (.inr (0, 0))) => some (.inr (.inr (.inr (0, 5))))
  | v, w => wk_o2 iv (fun a b => a &&& b) w v
def wk_il (iv : wk_I) (v : wk_V) : Option wk_V := match v with
  | .inr (.inr (.inr (0, i))) => some (.inr (.inr (.inr (1, i))))
  | v => (wk_gi iv v).map fun p => .inr (.inl p)
abbrev wk_P : Type := Nat × wk_L × List wk_V
/-- the instructions that leave the heap alone -/
def wk_pure (iv : wk_I) (nL : Nat) (i : Instr) (x : Int) (pc : Nat) (AL : wk_L) (AS : List wk_V) : Option wk_P :=
  match i, AS with
  | .iconst n, AS => some (pc + 1, AL, wk_sI (Int32.ofInt n) :: AS)
  | .bipush n, AS => some (pc + 2, AL, wk_sI (Int8.ofInt n).toInt32 :: AS)
  | .sipush n, AS => some (pc + 3, AL, wk_sI (Int16.ofInt n).toInt32 :: AS)
  | .lconst n, AS => some (pc + 1, AL, wk_sJ (Int64.ofNat n.val) :: AS)
  | .ldc _, AS => some (pc + 2, AL, wk_sI (Int32.ofInt x) :: AS)
  | .ldc_w _, AS => some (pc + 3, AL, wk_sI (Int32.ofInt x) :: AS)
  | .ldc2_w _, AS => some (pc + 3, AL, wk_sJ (Int64.ofInt x) :: AS)
  | .iload_n k, AS => (wk_get AL k.val).bind fun v => if (wk_gi iv v).isSome then some (pc + 1, AL, v :: AS) else none
  | .iload k, AS => (wk_get AL k).bind fun v => if (wk_gi iv v).isSome then some (pc + 2, AL, v :: AS) else none
  | .lload_n k, AS => (wk_get AL k.val).bind fun v => if (wk_gj iv v).isSome then some (pc + 1, AL, v :: AS) else none
  | .lload k, AS => (wk_get AL k).bind fun v => if (wk_gj iv v).isSome then some (pc + 2, AL, v :: AS) else none
  | .aload_n k, AS => (wk_get AL k.val).bind fun v => if wk_isr v then some (pc + 1, AL, v :: AS) else none
  | .aload k, AS => (wk_get AL k).bind fun v => if wk_isr v then some (pc + 2, AL, v :: AS) else none
  | .istore_n k, v :: AS => if (wk_gi iv v).isSome ∧ k.val < nL then some (pc + 1, wk_st1 AL k.val v, AS) else none
  | .istore k, v :: AS => if (wk_gi iv v).isSome ∧ k < nL then some (pc + 2, wk_st1 AL k v, AS) else none
  | .lstore_n k, v :: AS => if (wk_gj iv v).isSome ∧ k.val + 1 < nL then some (pc + 1, wk_st2 AL k.val v, AS) else none
  | .lstore k, v :: AS => if (wk_gj iv v).isSome ∧ k + 1 < nL then some (pc + 2, wk_st2 AL k v, AS) else none
  | .astore_n k, v :: AS => if wk_isr v ∧ k.val < nL then some (pc + 1, wk_st1 AL k.val v, AS) else none
  | .astore k, v :: AS => if wk_isr v ∧ k < nL then some (pc + 2, wk_st1 AL k v, AS) else none
  | .iinc k n, AS => (wk_get AL k).bind fun v => (wk_o2 iv (fun a b => a + b) v (wk_sI (Int32.ofInt n))).bind fun w => if k < nL then some (pc + 3, wk_st1 AL k w, AS) else none
  | .goto off, AS => (wk_to pc off).map fun t => (t, AL, AS)
  | .ifCond c off, v :: AS => (wk_br c pc off (wk_gi iv v) (some (0, 0))).map fun t => (t, AL, AS)
  | .if_icmp c off, v :: w :: AS => (wk_br c pc off (wk_gi iv w) (wk_gi iv v)).map fun t => (t, AL, AS)
  | .iadd, v :: w :: AS => (wk_o2 iv (fun a b => a + b) w v).map fun x => (pc + 1, AL, x :: AS)
  | .isub, v :: w :: AS => (wk_o2 iv (fun a b => a - b) w v).map fun x => (pc + 1, AL, x :: AS)
  | .imul, v :: w :: AS => (wk_o2 iv (fun a b => a * b) w v).map fun x => (pc + 1, AL, x :: AS)
  | .iand, v :: w :: AS => (wk_an iv v w).map fun x => (pc + 1, AL, x :: AS)
  | .ior, v :: w :: AS => (wk_o2 iv (fun a b => a ||| b) w v).map fun x => (pc + 1, AL, x :: AS)
  | .ixor, v :: w :: AS => (wk_o2 iv (fun a b => a ^^^ b) w v).map fun x => (pc + 1, AL, x :: AS)
  | .ishl, v :: w :: AS => (wk_o2 iv (fun a b => a <<< (b &&& 31)) w v).map fun x => (pc + 1, AL, x :: AS)
  | .ishr, v :: w :: AS => (wk_o2 iv (fun a b => a >>> (b &&& 31)) w v).map fun x => (pc + 1, AL, x :: AS)
  | .idiv, v :: w :: AS => (wk_d2 iv (fun a b => a / b) w v).map fun x => (pc + 1, AL, x :: AS)
  | .irem, v :: w :: AS => (wk_d2 iv (fun a b => a - a / b * b) w v).map fun x => (pc + 1, AL, x :: AS)
  | .ladd, v :: w :: AS => (wk_o2j iv (fun a b => a + b) w v).map fun x => (pc + 1, AL, x :: AS)
  | .lsub, v :: w :: AS => (wk_o2j iv (fun a b => a - b) w v).map fun x => (pc + 1, AL, x :: AS)
  | .lmul, v :: w :: AS => (wk_o2j iv (fun a b => a * b) w v).map fun x => (pc + 1, AL, x :: AS)
  | .land, v :: w :: AS => (wk_o2j iv (fun a b => a &&& b) w v).map fun x => (pc + 1, AL, x :: AS)
  | .lor, v :: w :: AS => (wk_o2j iv (fun a b => a ||| b) w v).map fun x => (pc + 1, AL, x :: AS)
  | .ldiv, v :: w :: AS => (wk_d2j iv (fun a b => a / b) w v).map fun x => (pc + 1, AL, x :: AS)
  | .lrem, v :: w :: AS => (wk_d2j iv (fun a b => a - a / b * b) w v).map fun x => (pc + 1, AL, x :: AS)
  | .lshl, v :: w :: AS => (wk_o2s iv (fun a b => a <<< (b.toInt64 &&& 63)) w v).map fun x => (pc + 1, AL, x :: AS)
  | .lshr, v :: w :: AS => (wk_o2s iv (fun a b => a >>> (b.toInt64 &&& 63)) w v).map fun x => (pc + 1, AL, x :: AS)
  | .lushr, v :: w :: AS => (wk_o2s iv (fun a b => (a.toUInt64 >>> (b.toInt64.toUInt64 &&& Int64.toUInt64 63)).toInt64) w v).map fun x => (pc + 1, AL, x :: AS)
  | .lcmp, v :: w :: AS => (wk_lc iv w v).map fun x => (pc + 1, AL, x :: AS)
  | .ineg, v :: AS => (wk_o2 iv (fun a _ => -a) v (.inl (0, 0))).map fun x => (pc + 1, AL, x :: AS)
  | .i2l, v :: AS => (wk_il iv v).map fun x => (pc + 1, AL, x :: AS)
  | .l2i, v :: AS => (wk_gj iv v).map fun p => (pc + 1, AL, (if p.1 = p.2 then wk_sI (Int64.ofInt p.1).toInt32 else wk_tI) :: AS)
  | .dup, v :: AS => if wk_c1 v then some (pc + 1, AL, v :: v :: AS) else none
  | .dup_x1, v :: w :: AS => if wk_c1 v ∧ wk_c1 w then some (pc + 1, AL, v :: w :: v :: AS) else none
  | .dup2, v :: w :: AS => if wk_c1 v ∧ wk_c1 w then some (pc + 1, AL, v :: w :: v :: w :: AS) else none
  | .pop, v :: AS => if wk_c1 v then some (pc + 1, AL, AS) else none
  | .tableswitch d lo hi offs, v :: AS => (wk_gi iv v).bind fun p => if p.1 = p.2 then (if p.1 < lo ∨ hi < p.1 then (wk_to pc d).map fun t => (t, AL, AS) else (offs[(p.1 - lo).toNat]?.bind fun o => wk_to pc o).map fun t => (t, AL, AS)) else if p.2 < lo ∨ hi < p.1 then (wk_to pc d).map fun t => (t, AL, AS) else none
  | _, _ => none
/-- an index, a length -/
def wk_nx (iv : wk_I) (v : wk_V) : Option Nat := match wk_gi iv v with
  | some (.ofNat a, .ofNat b) => if Nat.beq a b then some a else none
  | _ => none
def wk_obj (AH : List wk_C) (v : wk_V) : Option (Nat × Nat × List wk_V) := match v with
  | .inr (.inr (.inl (some k))) => match wk_at AH k with
    | some (.inr (ci, fs)) => some (k, ci, fs)
    | _ => none
  | _ => none
def wk_ary (AH : List wk_C) (v : wk_V) : Option (Nat × Nat × List wk_V) := match v with
  | .inr (.inr (.inl (some k))) => match wk_at AH k with
    | some (.inl (t, vs)) => some (k, t, vs)
    | _ => none
  | _ => none
def wk_scr (v : wk_V) : Bool := match v with
  | .inr (.inr (.inr (2, _))) => true
  | _ => false
/-- an array's kinds -/
def wk_ty : Nat → FieldType
  | 0 => .int
  | 1 => .boolean
  | 2 => .array .int
  | _ => .object "EvenSides$Told"
/-- may the value be put into a field of that kind -/
def wk_fit (iv : wk_I) (n : Nat) (v : wk_V) : Bool := match n with
  | 0 => (wk_gi iv v).isSome
  | 1 => match wk_gi iv v with
    | some (a, b) => decide (0 ≤ a) && decide (b ≤ 1)
    | none => false
  | 2 => (wk_gj iv v).isSome
  | 3 => match v with
    | .inr (.inr (.inl _)) => true
    | _ => false
  | _ => false
/-- the fields of a new object -/
def wk_zs : List (List wk_V) := wk_fc.map fun r => r.map fun n => match n with
  | 0 => .inl (0, 0)
  | 1 => .inl (0, 0)
  | 2 => .inr (.inl (0, 0))
  | _ => .inr (.inr (.inl none))
/-- what an instruction does to the heap: how far it goes, the stack, a cell written, cells made, how many, their slots -/
abbrev wk_H : Type := Nat × List wk_V × Option (Nat × wk_C) × List wk_C × Nat × Nat
def wk_h1 (d : Nat) (AS : List wk_V) : Option wk_H := some (d, AS, none, [], 0, 0)
def wk_hw (d : Nat) (AS : List wk_V) (k : Nat) (c : wk_C) : Option wk_H := some (d, AS, some (k, c), [], 0, 0)
def wk_getf (x : Nat × Nat × Int) (v : wk_V) (AS : List wk_V) (AH : List wk_C) : Option wk_H := match wk_obj AH v with
  | some (_, ci, fs) => if Nat.beq ci x.1 then (wk_at fs x.2.1).bind fun w => wk_h1 3 (w :: AS) else none
  | none => none
def wk_putf (iv : wk_I) (x : Nat × Nat × Int) (w v : wk_V) (AS : List wk_V) (AH : List wk_C) : Option wk_H := match wk_obj AH v with
  | some (k, ci, fs) => if Nat.beq ci x.1 && ((wk_at fs x.2.1).isSome && wk_fit iv x.2.2.toNat w) then wk_put fs x.2.1 w (fun fs => wk_hw 3 AS k (.inr (ci, fs))) else none
  | none => none
def wk_ild (Lz : Nat) (iv : wk_I) (v a : wk_V) (AS : List wk_V) (AH : List wk_C) : Option wk_H := match wk_nx iv v with
  | some j => if wk_scr a then (if Nat.blt j Lz then wk_h1 1 (.inr (.inr (.inr (0, j))) :: AS) else none) else match wk_ary AH a with
    | some (_, t, vs) => if Nat.beq t 0 then (wk_at vs j).bind fun w => wk_h1 1 (w :: AS) else none
    | none => none
  | none => none
def wk_bld (iv : wk_I) (v a : wk_V) (AS : List wk_V) (AH : List wk_C) : Option wk_H := match wk_nx iv v, wk_ary AH a with
  | some j, some (_, t, vs) => if Nat.beq t 1 then (wk_at vs j).bind fun w => wk_h1 1 (w :: AS) else none
  | _, _ => none
def wk_ald (iv : wk_I) (v a : wk_V) (AS : List wk_V) (AH : List wk_C) : Option wk_H := match wk_nx iv v, wk_ary AH a with
  | some j, some (_, t, vs) => if Nat.ble 2 t then (wk_at vs j).bind fun w => wk_h1 1 (w :: AS) else none
  | _, _ => none
def wk_ist (iv : wk_I) (w v a : wk_V) (AS : List wk_V) (AH : List wk_C) : Option wk_H := match wk_nx iv v, wk_ary AH a with
  | some j, some (k, t, vs) => if Nat.beq t 0 && ((wk_at vs j).isSome && (wk_gi iv w).isSome) then wk_put vs j w (fun vs => wk_hw 1 AS k (.inl (t, vs))) else none
  | _, _ => none
def wk_bst (iv : wk_I) (w v a : wk_V) (AS : List wk_V) (AH : List wk_C) : Option wk_H := match wk_nx iv v, wk_ary AH a with
  | some j, some (k, t, vs) => if Nat.beq t 1 && ((wk_at vs j).isSome && wk_fit iv 1 w) then wk_put vs j w (fun vs => wk_hw 1 AS k (.inl (t, vs))) else none
  | _, _ => none
def wk_ast (iv : wk_I) (w v a : wk_V) (AS : List wk_V) (AH : List wk_C) : Option wk_H := match wk_nx iv v, wk_ary AH a, wk_obj AH w with
  | some j, some (k, t, vs), some (_, ci, _) => if Nat.beq t 3 && (Nat.beq ci 7 && (wk_at vs j).isSome) then wk_put vs j w (fun vs => wk_hw 1 AS k (.inl (t, vs))) else none
  | _, _, _ => none
def wk_aln (Lz : Nat) (a : wk_V) (AS : List wk_V) (AH : List wk_C) : Option wk_H := if wk_scr a then wk_h1 1 (wk_sI (Int32.ofNat Lz) :: AS) else match wk_ary AH a with
  | some (_, _, vs) => wk_h1 1 (wk_sI (Int32.ofNat vs.length) :: AS)
  | none => none
def wk_new (x : Nat × Nat × Int) (AS : List wk_V) (AH : List wk_C) : Option wk_H := match wk_at wk_zs x.1 with
  | some fs => some (3, .inr (.inr (.inl (some AH.length))) :: AS, none, [.inr (x.1, fs)], 1, fs.length)
  | none => none
def wk_nwa (iv : wk_I) (ty : ArrayType) (v : wk_V) (AS : List wk_V) (AH : List wk_C) : Option wk_H := match wk_nx iv v, ty with
  | some n, .int => if Nat.ble n 100000 then some (2, .inr (.inr (.inl (some AH.length))) :: AS, none, [.inl (0, List.replicate n (.inl (0, 0)))], 1, n) else none
  | some n, .boolean => if Nat.ble n 100000 then some (2, .inr (.inr (.inl (some AH.length))) :: AS, none, [.inl (1, List.replicate n (.inl (0, 0)))], 1, n) else none
  | _, _ => none
def wk_nwq (iv : wk_I) (v : wk_V) (AS : List wk_V) (AH : List wk_C) : Option wk_H := match wk_nx iv v with
  | some n => if Nat.ble n 100000 then some (3, .inr (.inr (.inl (some AH.length))) :: AS, none, [.inl (3, List.replicate n (.inr (.inr (.inl none))))], 1, n) else none
  | none => none
def wk_mna (iv : wk_I) (v w : wk_V) (AS : List wk_V) (AH : List wk_C) : Option wk_H := match wk_nx iv v, wk_nx iv w with
  | some k, some n => if Nat.ble k 10000 && Nat.ble n 10000 then some (4, .inr (.inr (.inl (some AH.length))) :: AS, none, .inl (2, (List.range n).map fun j => .inr (.inr (.inl (some (AH.length + 1 + j))))) :: List.replicate n (.inl (0, List.replicate k (.inl (0, 0)))), 1 + n, n + n * k) else none
  | _, _ => none
def wk_heap (Lz : Nat) (iv : wk_I) (i : Instr) (x : Nat × Nat × Int) (AS : List wk_V) (AH : List wk_C) : Option wk_H :=
  match i, AS with
  | .getfield _, v :: AS => wk_getf x v AS AH
  | .putfield _, w :: v :: AS => wk_putf iv x w v AS AH
  | .iaload, v :: a :: AS => wk_ild Lz iv v a AS AH
  | .baload, v :: a :: AS => wk_bld iv v a AS AH
  | .aaload, v :: a :: AS => wk_ald iv v a AS AH
  | .iastore, w :: v :: a :: AS => wk_ist iv w v a AS AH
  | .bastore, w :: v :: a :: AS => wk_bst iv w v a AS AH
  | .aastore, w :: v :: a :: AS => wk_ast iv w v a AS AH
  | .arraylength, a :: AS => wk_aln Lz a AS AH
  | .new _, AS => wk_new x AS AH
  | .newarray ty, v :: AS => wk_nwa iv ty v AS AH
  | .anewarray _, v :: AS => wk_nwq iv v AS AH
  | .multianewarray _ 2, v :: w :: AS => wk_mna iv v w AS AH
  | _, _ => none
/-- a variable is to be cut into pieces -/
def wk_cv (lo hi : Int) : List (Int × Int) → Bool
  | [] => decide (hi < lo)
  | (a, b) :: r => decide (a ≤ lo) && (decide (hi ≤ b) || wk_cv (b + 1) hi r)
def wk_small (iv : wk_I) (v : wk_V) : Option (Nat × List (Int × Int)) := match v with
  | .inr (.inr (.inr (0, i))) => match wk_at iv i with
    | some (lo, hi) => if lo < hi ∧ hi ≤ lo + 16 then some (i, (List.range ((hi - lo).toNat + 1)).map fun k => (lo + (Int.ofNat k), lo + Int.ofNat k)) else none
    | none => none
  | _ => none
def wk_pcs (iv : wk_I) (v : wk_V) (q : Option (Int × Int)) : Option (Nat × List (Int × Int)) := match v, q with
  | .inr (.inr (.inr (t, i))), some (cl, ch) => if Nat.ble t 1 && decide (cl = ch) then match wk_at iv i with
      | some (lo, hi) => some (i, ((if lo < cl then [(lo, cl - 1)] else []) ++ (if lo ≤ cl ∧ cl ≤ hi then [(cl, cl)] else []) ++ (if cl < hi then [(cl + 1, hi)] else [])))
      | none => none
    else none
  | _, _ => none
/-- the pieces at a switch -/
def wk_psw (iv : wk_I) (v : wk_V) (lo hi : Int) : Option (Nat × List (Int × Int)) := match v with
  | .inr (.inr (.inr (0, i))) => match wk_at iv i with
    | some (a, b) => some (i, ((if a < lo then [(a, lo - 1)] else []) ++ ((List.range ((hi - lo).toNat + 1)).map fun k => (lo + Int.ofNat k, lo + Int.ofNat k)).filter (fun q => decide (a ≤ q.1) && decide (q.1 ≤ b)) ++ (if hi < b then [(if a ≤ hi then hi + 1 else a, b)] else [])))
    | none => none
  | _ => none
def wk_or {α : Type} (a b : Option α) : Option α := match a with
  | some x => some x
  | none => b
/-- where arithmetic wants a number; where a comparison isn't decided -/
def wk_need (iv : wk_I) (i : Instr) (AS : List wk_V) : Option (Nat × List (Int × Int)) := match i, AS with
  | .iadd, v :: w :: _ | .isub, v :: w :: _ | .imul, v :: w :: _ | .ishl, v :: w :: _ | .ishr, v :: w :: _ | .iand, v :: w :: _ | .ior, v :: w :: _ => wk_or (wk_small iv v) (wk_small iv w)
  | .iaload, v :: _ | .baload, v :: _ | .aaload, v :: _ => wk_small iv v
  | .iastore, _ :: v :: _ | .bastore, _ :: v :: _ | .aastore, _ :: v :: _ => wk_small iv v
  | _, _ => none
def wk_undec (iv : wk_I) (i : Instr) (AS : List wk_V) : Option (Nat × List (Int × Int)) := match i, AS with
  | .ifCond _ _, v :: _ => wk_pcs iv v (some (0, 0))
  | .if_icmp _ _, v :: w :: _ => wk_or (wk_pcs iv w (wk_gi iv v)) (wk_pcs iv v (wk_gi iv w))
  | .lcmp, v :: w :: _ => wk_or (wk_pcs iv w (wk_gj iv v)) (wk_pcs iv v (wk_gj iv w))
  | .tableswitch _ lo hi _, v :: _ => wk_psw iv v lo hi
  | _, _ => none
/-- a way's end: the box, what is returned, the heap -/
abbrev wk_F : Type := wk_I × Option wk_V × List wk_C
def wk_app {α : Type} (a b : Option (List α)) : Option (List α) := match a with
  | some x => match b with
    | some y => some (x ++ y)
    | none => none
  | none => none
def wk_cat : List wk_V → Nat
  | [] => 0
  | v :: l => (if wk_c2 v then 2 else 1) + wk_cat l
def wk_fetch (M : wk_M) (pc : Nat) : Option wk_X := match wk_at (wk_Mx M) (pc / 16) with
  | some r => r.find? (fun x => Nat.beq x.1 pc)
  | none => none
/-- what is returned -/
def wk_ret (iv : wk_I) (M : wk_M) (i : Instr) (AS : List wk_V) : Option (Option wk_V) := match i, wk_Mr M, AS with
  | .return_, none, [] => some none
  | .ireturn, some .int, [v] => if (wk_gi iv v).isSome then some (some v) else none
  | .ireturn, some .boolean, [v] => if wk_fit iv 1 v then some (some v) else none
  | .lreturn, some .long, [v] => if (wk_gj iv v).isSome then some (some v) else none
  | _, _, _ => none
/-- the arguments of a call: n of them, first first, and the rest of the stack -/
def wk_take : Nat → List wk_V → List wk_V → Option (List wk_V × List wk_V)
  | 0, AS, acc => some (acc, AS)
  | n + 1, v :: AS, acc => wk_take n AS (v :: acc)
  | _ + 1, [], _ => none
/-- how a call is made: 0 virtual, 1 static, 2 a constructor, 3 a nest mate's static, 4 Object's constructor, 5 arraycopy -/
def wk_argn (kd n : Nat) : Nat := match kd with
  | 0 => n + 1
  | 2 => n + 1
  | _ => n
def wk_cpy (vs us : List wk_V) (sp dp n : Nat) : List wk_V := us.take dp ++ ((vs.drop sp).take n ++ us.drop (dp + n))
def wk_copy (iv : wk_I) (AS : List wk_V) (AH : List wk_C) : Option wk_H := match AS with
  | n :: dp :: b :: sp :: a :: AS => match wk_nx iv n, wk_nx iv dp, wk_ary AH b, wk_nx iv sp, wk_ary AH a with
    | some n, some dp, some (k, t, us), some sp, some (_, t2, vs) => if Nat.beq t 0 && (Nat.beq t2 0 && (Nat.ble (sp + n) vs.length && (Nat.ble (dp + n) us.length && Nat.ble (wk_cat AS) 8))) then wk_hw 3 AS k (.inl (t, wk_cpy vs us sp dp n)) else none
    | _, _, _, _, _ => none
  | _ => none
def wk_isI (i : Instr) (kd : Nat) : Bool := match i, kd with
  | .invokevirtual _, 0 => true
  | .invokestatic _, 1 => true
  | .invokespecial _, 2 => true
  | .invokestatic _, 3 => true
  | _, _ => false
/-- a call's start: the method, the arguments, the rest of the stack -/
def wk_call (mt : Nat → Option wk_M) (i : Instr) (x : Nat × Nat × Int) (AS : List wk_V) (AH : List wk_C) : Option (wk_M × List wk_V × List wk_V) :=
  if wk_isI i x.1 then match mt x.2.1 with
    | some M => match wk_take (wk_argn x.1 (wk_Mn M)) AS [] with
      | some (av, r) => if Nat.ble (wk_cat r) 8 then (match x.1, av with
        | 0, v :: _ => match wk_obj AH v with
          | some (_, ci, _) => if Nat.beq ci (wk_Mc M) then some (M, av, r) else none
          | none => none
        | 0, [] => none
        | 2, v :: _ => if wk_isr v && !wk_scr v then some (M, av, r) else none
        | 2, [] => none
        | _, _ => some (M, av, r)) else none
      | none => none
    | none => none
  else none
def wk_oin (i : Instr) (x : Nat × Nat × Int) (AS : List wk_V) : Option wk_H := match i, x.1, AS with
  | .invokespecial _, 4, v :: AS => if wk_isr v && Nat.ble (wk_cat AS) 8 then wk_h1 3 AS else none
  | _, _, _ => none
def wk_isC (i : Instr) (x : Nat × Nat × Int) (AS : List wk_V) : Bool := match i, x.1 with
  | .invokestatic _, 5 => true
  | _, _ => false
/-- all that an instruction does to the heap alone -/
def wk_hp (Lz : Nat) (iv : wk_I) (i : Instr) (x : Nat × Nat × Int) (AS : List wk_V) (AH : List wk_C) : Option wk_H :=
  if wk_isC i x AS then wk_copy iv AS AH else wk_or (wk_oin i x AS) (wk_heap Lz iv i x AS AH)
def wk_wr {β : Type} (AH : List wk_C) (w : Option (Nat × wk_C)) (nw : List wk_C) (k : List wk_C → β) : β := match w with
  | some (n, c) => wk_put AH n c k
  | none => match nw with
    | [] => k AH
    | nw => k (AH ++ nw)
def wk_st (iv : wk_I) (v : Option wk_V) (r : List wk_V) : List wk_V := match v with
  | some v => v :: r
  | none => r
abbrev wk_K : Type := Nat → List wk_V → wk_I → List wk_C → Option (List wk_F)
/-- the run of a method's body: cut says where it stops, call what a callee does -/
noncomputable def wk_go (mt : Nat → Option wk_M) (Lz : Nat) (M : wk_M) (cut : wk_I → Nat → wk_L → List wk_V → List wk_C → Nat → Nat → Bool) (call : wk_K) (fuel : Nat) : wk_I → Nat → wk_L → List wk_V → List wk_C → Nat → Nat → Option (List wk_F) :=
  Nat.rec (fun _ _ _ _ _ _ _ => none) (fun _ go iv pc AL AS AH nc ns =>
    match cut iv pc AL AS AH nc ns with
    | true => some []
    | false => match wk_fetch M pc with
      | none => none
      | some (_, i, _, x, _) => match wk_need iv i AS with
        | some (v, ps) => match wk_at iv v with
          | some (lo, hi) => if wk_cv lo hi ps then ps.foldr (fun q acc => wk_app (wk_put iv v q (fun iv => go iv pc AL AS AH nc ns)) acc) (some []) else none
          | none => none
        | none => match wk_ret iv M i AS with
          | some r => some [(iv, r, AH)]
          | none => match wk_pure iv (wk_Ml M) i x.2.2 pc AL AS with
            | some (pc', AL', AS') => wk_fN pc' fun pc' => wk_fA AL' fun AL' => wk_fS AS' fun AS' => go iv pc' AL' AS' AH nc ns
            | none => match wk_hp Lz iv i x AS AH with
              | some (d, AS', w, nw, dc, ds) => if Nat.ble (nc + dc) (wk_Mk M) && Nat.ble (ns + ds) (wk_Ms M) then wk_wr AH w nw (fun AH' => wk_fN (pc + d) fun pc' => wk_fS AS' fun AS' => wk_fN (nc + dc) fun nc' => wk_fN (ns + ds) fun ns' => go iv pc' AL AS' AH' nc' ns') else none
              | none => match wk_call mt i x AS AH with
                | some (M2, av, r) => if Nat.ble (nc + wk_Mk M2) (wk_Mk M) && Nat.ble (ns + wk_Ms M2) (wk_Ms M) then match call x.2.1 av iv AH with
                    | some fs => fs.foldr (fun f acc => wk_app (wk_fN (pc + 3) fun pc' => wk_fN (nc + wk_Mk M2) fun nc' => wk_fN (ns + wk_Ms M2) fun ns' => go f.1 pc' AL (wk_st f.1 f.2.1 r) f.2.2 nc' ns') acc) (some [])
                    | none => none
                  else none
                | none => match wk_undec iv i AS with
                  | some (v, ps) => match wk_at iv v with
                    | some (lo, hi) => if wk_cv lo hi ps then ps.foldr (fun q acc => wk_app (wk_put iv v q (fun iv => go iv pc AL AS AH nc ns)) acc) (some []) else none
                    | none => none
                  | none => none) fuel
def wk_args : Nat → List wk_V → wk_L
  | _, [] => []
  | i, v :: vs => (i, v) :: wk_args (if wk_c2 v then i + 2 else i + 1) vs
/-- a method from its entry, its calls to a depth -/
noncomputable def wk_run (mt : Nat → Option wk_M) (Lz fuel : Nat) (d : Nat) : wk_K :=
  Nat.rec (fun _ _ _ _ => none) (fun _ run id av iv AH => match mt id with
    | some M => wk_go mt Lz M (fun _ _ _ _ _ _ _ => false) run fuel iv 0 (wk_args 0 av) [] AH 0 0
    | none => none) d
