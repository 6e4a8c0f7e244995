/-! ===== THE ENGINE: a run of bytecode over known values, computed by the kernel; the script's ints as variables in a box ===== -/
/-- a value: an int within bounds, a long within bounds, a reference (null, or a cell's number), or (0, i) the int variable i, (1, i) it as a long, (2, _) the script -/
abbrev wk_V : Type := (Int × Int) ⊕ ((Int × Int) ⊕ (Option Nat ⊕ (Nat × Nat)))
/-- a cell: an array (its kind, its contents), an object (its class's number, its fields) -/
abbrev wk_C : Type := (Nat × List wk_V) ⊕ (Nat × List wk_V)
abbrev wk_L : Type := List (Nat × wk_V)
abbrev wk_I : Type := List (Int × Int)
/-- a row of code: its place, the instruction, its length, what it is linked to, where the words stand -/
abbrev wk_X : Type := Nat × Instr × Nat × (Nat × Nat × Int) × List Nat
/-- a method: its class's number, name, bytes, locals, what it returns, the cells and slots that it may make, parameters, code in rows of sixteen places -/
abbrev wk_M : Type := Nat × MethodName × ByteArray × Nat × Option FieldType × Nat × Nat × Nat × List (List wk_X)
def wk_Mc (M : wk_M) : Nat := M.1
def wk_My (M : wk_M) : MethodName := M.2.1
def wk_Mb (M : wk_M) : ByteArray := M.2.2.1
def wk_Ml (M : wk_M) : Nat := M.2.2.2.1
def wk_Mr (M : wk_M) : Option FieldType := M.2.2.2.2.1
def wk_Mk (M : wk_M) : Nat := M.2.2.2.2.2.1
def wk_Ms (M : wk_M) : Nat := M.2.2.2.2.2.2.1
def wk_Mn (M : wk_M) : Nat := M.2.2.2.2.2.2.2.1
def wk_Mx (M : wk_M) : List (List wk_X) := M.2.2.2.2.2.2.2.2
def wk_at {α : Type} : List α → Nat → Option α
  | [], _ => none
  | a :: _, 0 => some a
  | _ :: l, n + 1 => wk_at l n
theorem wk_at_eq {α : Type} : ∀ (l : List α) (n : Nat), wk_at l n = l[n]?
  | [], n => by simp [wk_at]
  | a :: l, 0 => by simp [wk_at]
  | a :: l, n + 1 => by simp [wk_at, wk_at_eq l n]
/-- the list with another element, made at once -/
def wk_put {α β : Type} : List α → Nat → α → (List α → β) → β
  | [], _, _, k => k []
  | _ :: l, 0, v, k => k (v :: l)
  | a :: l, n + 1, v, k => wk_put l n v (fun r => k (a :: r))
theorem wk_put_eq {α β : Type} : ∀ (l : List α) (n : Nat) (v : α) (k : List α → β), wk_put l n v k = k (l.set n v)
  | [], n, v, k => by simp [wk_put]
  | a :: l, 0, v, k => by simp [wk_put]
  | a :: l, n + 1, v, k => by simp [wk_put, wk_put_eq l n v]
def wk_fN {β : Type} (n : Nat) (k : Nat → β) : β := match n with
  | 0 => k 0
  | m + 1 => k (m + 1)
theorem wk_fN_eq {β : Type} (n : Nat) (k : Nat → β) : wk_fN n k = k n := by cases n <;> rfl
def wk_fI {β : Type} (x : Int) (k : Int → β) : β := match x with
  | .ofNat n => wk_fN n (fun n => k (.ofNat n))
  | .negSucc n => wk_fN n (fun n => k (.negSucc n))
theorem wk_fI_eq {β : Type} (x : Int) (k : Int → β) : wk_fI x k = k x := by cases x <;> simp [wk_fI, wk_fN_eq]
def wk_fV {β : Type} (v : wk_V) (k : wk_V → β) : β := match v with
  | .inl (a, b) => wk_fI a (fun a => wk_fI b (fun b => k (.inl (a, b))))
  | .inr (.inl (a, b)) => wk_fI a (fun a => wk_fI b (fun b => k (.inr (.inl (a, b)))))
  | .inr (.inr (.inl none)) => k (.inr (.inr (.inl none)))
  | .inr (.inr (.inl (some n))) => wk_fN n (fun n => k (.inr (.inr (.inl (some n)))))
  | .inr (.inr (.inr (t, i))) => k (.inr (.inr (.inr (t, i))))
theorem wk_fV_eq {β : Type} (v : wk_V) (k : wk_V → β) : wk_fV v k = k v := by
  rcases v with ⟨a, b⟩ | ⟨a, b⟩ | (_ | n) | ⟨t, i⟩ <;> simp [wk_fV, wk_fI_eq, wk_fN_eq]
def wk_fS {β : Type} (l : List wk_V) (k : List wk_V → β) : β := match l with
  | [] => k []
  | v :: r => wk_fV v (fun v => k (v :: r))
theorem wk_fS_eq {β : Type} (l : List wk_V) (k : List wk_V → β) : wk_fS l k = k l := by cases l <;> simp [wk_fS, wk_fV_eq]
def wk_fA {β : Type} (l : wk_L) (k : wk_L → β) : β := match l with
  | [] => k []
  | (i, v) :: r => wk_fV v (fun v => k ((i, v) :: r))
theorem wk_fA_eq {β : Type} (l : wk_L) (k : wk_L → β) : wk_fA l k = k l := by
  rcases l with _ | ⟨⟨i, v⟩, r⟩ <;> simp [wk_fA, wk_fV_eq]
/-- the box: bounds of an int, of a long -/
def wk_gi (iv : wk_I) (v : wk_V) : Option (Int × Int) := match v with
  | .inl p => some p
  | .inr (.inr (.inr (0, i))) => wk_at iv i
  | _ => none
def wk_gj (iv : wk_I) (v : wk_V) : Option (Int × Int) := match v with
  | .inr (.inl p) => some p
  | .inr (.inr (.inr (1, i))) => wk_at iv i
  | _ => none
def wk_tI : wk_V := .inl (-2147483648, 2147483647)
def wk_tJ : wk_V := .inr (.inl (-9223372036854775808, 9223372036854775807))
def wk_sI (x : Int32) : wk_V := .inl (x.toInt, x.toInt)
def wk_sJ (x : Int64) : wk_V := .inr (.inl (x.toInt, x.toInt))
/-- an operation on two ints, two longs, a long and an int: done on numbers, else anything -/
def wk_o2 (iv : wk_I) (F : Int32 → Int32 → Int32) (v w : wk_V) : Option wk_V := match wk_gi iv v, wk_gi iv w with
  | some p, some q => some (if p.1 = p.2 ∧ q.1 = q.2 then wk_sI (F (Int32.ofInt p.1) (Int32.ofInt q.1)) else wk_tI)
  | _, _ => none
def wk_o2j (iv : wk_I) (F : Int64 → Int64 → Int64) (v w : wk_V) : Option wk_V := match wk_gj iv v, wk_gj iv w with
  | some p, some q => some (if p.1 = p.2 ∧ q.1 = q.2 then wk_sJ (F (Int64.ofInt p.1) (Int64.ofInt q.1)) else wk_tJ)
  | _, _ => none
def wk_o2s (iv : wk_I) (F : Int64 → Int32 → Int64) (v w : wk_V) : Option wk_V := match wk_gj iv v, wk_gi iv w with
  | some p, some q => some (if p.1 = p.2 ∧ q.1 = q.2 then wk_sJ (F (Int64.ofInt p.1) (Int32.ofInt q.1)) else wk_tJ)
  | _, _ => none
def wk_d2 (iv : wk_I) (F : Int32 → Int32 → Int32) (v w : wk_V) : Option wk_V := match wk_gi iv v, wk_gi iv w with
  | some p, some q => if p.1 = p.2 ∧ q.1 = q.2 ∧ ¬ Int32.ofInt q.1 = 0 then some (wk_sI (F (Int32.ofInt p.1) (Int32.ofInt q.1))) else none
  | _, _ => none
def wk_d2j (iv : wk_I) (F : Int64 → Int64 → Int64) (v w : wk_V) : Option wk_V := match wk_gj iv v, wk_gj iv w with
  | some p, some q => if p.1 = p.2 ∧ q.1 = q.2 ∧ ¬ Int64.ofInt q.1 = 0 then some (wk_sJ (F (Int64.ofInt p.1) (Int64.ofInt q.1))) else none
  | _, _ => none
def wk_lc (iv : wk_I) (v w : wk_V) : Option wk_V := match wk_gj iv v, wk_gj iv w with
  | some p, some q => if q.2 < p.1 then some (.inl (1, 1)) else if p.2 < q.1 then some (.inl (-1, -1)) else if p.1 = p.2 ∧ q.1 = q.2 then some (.inl (0, 0)) else none
  | _, _ => none
def wk_lt (p q : Int × Int) : Option Bool := if p.2 < q.1 then some true else if q.2 ≤ p.1 then some false else none
def wk_eq (p q : Int × Int) : Option Bool := if p.1 = p.2 ∧ q.1 = q.2 ∧ p.1 = q.1 then some true else if p.2 < q.1 ∨ q.2 < p.1 then some false else none
def wk_cnd (c : ClassFile.Cond) (p q : Int × Int) : Option Bool := match c with
  | .eq => wk_eq p q
  | .ne => (wk_eq p q).map (fun r => !r)
  | .lt => wk_lt p q
  | .ge => (wk_lt p q).map (fun r => !r)
  | .gt => wk_lt q p
  | .le => (wk_lt q p).map (fun r => !r)
def wk_holds (c : ClassFile.Cond) (x y : Int32) : Prop := match c with
  | .eq => x = y
  | .ne => ¬ x = y
  | .lt => x < y
  | .ge => y ≤ x
  | .gt => y < x
  | .le => x ≤ y
def wk_to (pc : Nat) (off : Int) : Option Nat := match (pc : Int) + off with
  | .ofNat t => some t
  | _ => none
def wk_br (c : ClassFile.Cond) (pc : Nat) (off : Int) (p q : Option (Int × Int)) : Option Nat := match p, q, wk_to pc off with
  | some p, some q, some t => (wk_cnd c p q).map fun b => if b then t else pc + 3
  | _, _, _ => none
def wk_c1 : wk_V → Bool
  | .inl _ => true
  | .inr (.inr (.inl _)) => true
  | .inr (.inr (.inr (1, _))) => false
  | .inr (.inr (.inr _)) => true
  | _ => false
def wk_c2 : wk_V → Bool
  | .inr (.inl _) => true
  | .inr (.inr (.inr (1, _))) => true
  | _ => false
def wk_isr : wk_V → Bool
  | .inr (.inr (.inl (some _))) => true
  | .inr (.inr (.inr (2, _))) => true
  | _ => false
def wk_get : wk_L → Nat → Option wk_V
  | [], _ => none
  | (j, v) :: l, i => if Nat.beq j i then some v else wk_get l i
def wk_st1 (AL : wk_L) (i : Nat) (v : wk_V) : wk_L := (i, v) :: AL.filter (fun q => !(q.1 == i) && !(q.1 + 1 == i && wk_c2 q.2))
def wk_st2 (AL : wk_L) (i : Nat) (v : wk_V) : wk_L := (i, v) :: AL.filter (fun q => !(q.1 == i) && (!(q.1 == i + 1) && !(q.1 + 1 == i && wk_c2 q.2)))
/-- '& 63' of the variable 0 is the variable 5 -/
def wk_an (iv : wk_I) (v w : wk_V) : Option wk_V := match v, w with
  | .inl (63, 63), .inr (.inr (.inr (0, 0))) => some (.inr (.inr (.inr (0, 5))))
  | v, w => wk_o2 iv (fun a b => a &&& b) w v
def wk_il (iv : wk_I) (v : wk_V) : Option wk_V := match v with
  | .inr (.inr (.inr (0, i))) => some (.inr (.inr (.inr (1, i))))
  | v => (wk_gi iv v).map fun p => .inr (.inl p)
abbrev wk_P : Type := Nat × wk_L × List wk_V
/-- the instructions that leave the heap alone -/
def wk_pure (iv : wk_I) (nL : Nat) (i : Instr) (x : Int) (pc : Nat) (AL : wk_L) (AS : List wk_V) : Option wk_P :=
  match i, AS with
  | .iconst n, AS => some (pc + 1, AL, wk_sI (Int32.ofInt n) :: AS)
  | .bipush n, AS => some (pc + 2, AL, wk_sI (Int8.ofInt n).toInt32 :: AS)
  | .sipush n, AS => some (pc + 3, AL, wk_sI (Int16.ofInt n).toInt32 :: AS)
  | .lconst n, AS => some (pc + 1, AL, wk_sJ (Int64.ofNat n.val) :: AS)
  | .ldc _, AS => some (pc + 2, AL, wk_sI (Int32.ofInt x) :: AS)
  | .ldc2_w _, AS => some (pc + 3, AL, wk_sJ (Int64.ofInt x) :: AS)
  | .iload_n k, AS => (wk_get AL k.val).bind fun v => if (wk_gi iv v).isSome then some (pc + 1, AL, v :: AS) else none
  | .iload k, AS => (wk_get AL k).bind fun v => if (wk_gi iv v).isSome then some (pc + 2, AL, v :: AS) else none
  | .lload_n k, AS => (wk_get AL k.val).bind fun v => if (wk_gj iv v).isSome then some (pc + 1, AL, v :: AS) else none
  | .lload k, AS => (wk_get AL k).bind fun v => if (wk_gj iv v).isSome then some (pc + 2, AL, v :: AS) else none
  | .aload_n k, AS => (wk_get AL k.val).bind fun v => if wk_isr v then some (pc + 1, AL, v :: AS) else none
  | .aload k, AS => (wk_get AL k).bind fun v => if wk_isr v then some (pc + 2, AL, v :: AS) else none
  | .istore_n k, v :: AS => if (wk_gi iv v).isSome ∧ k.val < nL then some (pc + 1, wk_st1 AL k.val v, AS) else none
  | .istore k, v :: AS => if (wk_gi iv v).isSome ∧ k < nL then some (pc + 2, wk_st1 AL k v, AS) else none
  | .lstore_n k, v :: AS => if (wk_gj iv v).isSome ∧ k.val + 1 < nL then some (pc + 1, wk_st2 AL k.val v, AS) else none
  | .lstore k, v :: AS => if (wk_gj iv v).isSome ∧ k + 1 < nL then some (pc + 2, wk_st2 AL k v, AS) else none
  | .astore_n k, v :: AS => if wk_isr v ∧ k.val < nL then some (pc + 1, wk_st1 AL k.val v, AS) else none
  | .astore k, v :: AS => if wk_isr v ∧ k < nL then some (pc + 2, wk_st1 AL k v, AS) else none
  | .iinc k n, AS => (wk_get AL k).bind fun v => (wk_o2 iv (fun a b => a + b) v (wk_sI (Int32.ofInt n))).bind fun w => if k < nL then some (pc + 3, wk_st1 AL k w, AS) else none
  | .goto off, AS => (wk_to pc off).map fun t => (t, AL, AS)
  | .ifCond c off, v :: AS => (wk_br c pc off (wk_gi iv v) (some (0, 0))).map fun t => (t, AL, AS)
  | .if_icmp c off, v :: w :: AS => (wk_br c pc off (wk_gi iv w) (wk_gi iv v)).map fun t => (t, AL, AS)
  | .iadd, v :: w :: AS => (wk_o2 iv (fun a b => a + b) w v).map fun x => (pc + 1, AL, x :: AS)
  | .isub, v :: w :: AS => (wk_o2 iv (fun a b => a - b) w v).map fun x => (pc + 1, AL, x :: AS)
  | .imul, v :: w :: AS => (wk_o2 iv (fun a b => a * b) w v).map fun x => (pc + 1, AL, x :: AS)
  | .iand, v :: w :: AS => (wk_an iv v w).map fun x => (pc + 1, AL, x :: AS)
  | .ior, v :: w :: AS => (wk_o2 iv (fun a b => a ||| b) w v).map fun x => (pc + 1, AL, x :: AS)
  | .ixor, v :: w :: AS => (wk_o2 iv (fun a b => a ^^^ b) w v).map fun x => (pc + 1, AL, x :: AS)
  | .ishl, v :: w :: AS => (wk_o2 iv (fun a b => a <<< (b &&& 31)) w v).map fun x => (pc + 1, AL, x :: AS)
  | .ishr, v :: w :: AS => (wk_o2 iv (fun a b => a >>> (b &&& 31)) w v).map fun x => (pc + 1, AL, x :: AS)
  | .idiv, v :: w :: AS => (wk_d2 iv (fun a b => a / b) w v).map fun x => (pc + 1, AL, x :: AS)
  | .irem, v :: w :: AS => (wk_d2 iv (fun a b => a - a / b * b) w v).map fun x => (pc + 1, AL, x :: AS)
  | .ladd, v :: w :: AS => (wk_o2j iv (fun a b => a + b) w v).map fun x => (pc + 1, AL, x :: AS)
  | .lsub, v :: w :: AS => (wk_o2j iv (fun a b => a - b) w v).map fun x => (pc + 1, AL, x :: AS)
  | .lmul, v :: w :: AS => (wk_o2j iv (fun a b => a * b) w v).map fun x => (pc + 1, AL, x :: AS)
  | .land, v :: w :: AS => (wk_o2j iv (fun a b => a &&& b) w v).map fun x => (pc + 1, AL, x :: AS)
  | .lor, v :: w :: AS => (wk_o2j iv (fun a b => a ||| b) w v).map fun x => (pc + 1, AL, x :: AS)
  | .ldiv, v :: w :: AS => (wk_d2j iv (fun a b => a / b) w v).map fun x => (pc + 1, AL, x :: AS)
  | .lrem, v :: w :: AS => (wk_d2j iv (fun a b => a - a / b * b) w v).map fun x => (pc + 1, AL, x :: AS)
  | .lshl, v :: w :: AS => (wk_o2s iv (fun a b => a <<< (b.toInt64 &&& 63)) w v).map fun x => (pc + 1, AL, x :: AS)
  | .lshr, v :: w :: AS => (wk_o2s iv (fun a b => a >>> (b.toInt64 &&& 63)) w v).map fun x => (pc + 1, AL, x :: AS)
  | .lcmp, v :: w :: AS => (wk_lc iv w v).map fun x => (pc + 1, AL, x :: AS)
  | .ineg, v :: AS => (wk_o2 iv (fun a _ => -a) v (.inl (0, 0))).map fun x => (pc + 1, AL, x :: AS)
  | .i2l, v :: AS => (wk_il iv v).map fun x => (pc + 1, AL, x :: AS)
  | .l2i, v :: AS => (wk_gj iv v).map fun p => (pc + 1, AL, (if p.1 = p.2 then wk_sI (Int64.ofInt p.1).toInt32 else wk_tI) :: AS)
  | .dup, v :: AS => if wk_c1 v then some (pc + 1, AL, v :: v :: AS) else none
  | .dup_x1, v :: w :: AS => if wk_c1 v ∧ wk_c1 w then some (pc + 1, AL, v :: w :: v :: AS) else none
  | .dup2, v :: w :: AS => if wk_c1 v ∧ wk_c1 w then some (pc + 1, AL, v :: w :: v :: w :: AS) else none
  | .pop, v :: AS => if wk_c1 v then some (pc + 1, AL, AS) else none
  | .tableswitch d lo hi offs, v :: AS => (wk_gi iv v).bind fun p => if p.1 = p.2 then (if p.1 < lo ∨ hi < p.1 then (wk_to pc d).map fun t => (t, AL, AS) else (offs[(p.1 - lo).toNat]?.bind fun o => wk_to pc o).map fun t => (t, AL, AS)) else if hi < p.1 then (wk_to pc d).map fun t => (t, AL, AS) else none
  | _, _ => none
/-- an index within -/
def wk_ix (iv : wk_I) (v : wk_V) (n : Nat) : Option Nat := match wk_gi iv v with
  | some (.ofNat a, b) => if b = .ofNat a ∧ a < n then some a else none
  | _ => none
def wk_obj (AH : List wk_C) : wk_V → Option (Nat × Nat × List wk_V)
  | .inr (.inr (.inl (some k))) => match wk_at AH k with
    | some (.inr (ci, fs)) => some (k, ci, fs)
    | _ => none
  | _ => none
def wk_ary (AH : List wk_C) : wk_V → Option (Nat × Nat × List wk_V)
  | .inr (.inr (.inl (some k))) => match wk_at AH k with
    | some (.inl (t, vs)) => some (k, t, vs)
    | _ => none
  | _ => none
/-- an array's kinds -/
def wk_ty : Nat → FieldType
  | 0 => .int
  | 1 => .boolean
  | 2 => .array .int
  | _ => .object "EvenSides$Told"
/-- a field's kind: may the value be put there -/
def wk_fit (iv : wk_I) (ty : FieldType) (v : wk_V) : Bool := match ty with
  | .int => (wk_gi iv v).isSome
  | .boolean => match wk_gi iv v with
    | some (a, b) => decide (0 ≤ a) && decide (b ≤ 1)
    | none => false
  | .long => (wk_gj iv v).isSome
  | .object _ => match v with
    | .inr (.inr (.inl _)) => true
    | _ => false
  | .array _ => match v with
    | .inr (.inr (.inl _)) => true
    | _ => false
  | _ => false
/-- what an instruction does to the heap: a cell written, cells made -/
abbrev wk_H : Type := Nat × List wk_V × Option (Nat × wk_C) × List wk_C × Nat × Nat
def wk_zero : FieldType → wk_V
  | .int | .boolean => .inl (0, 0)
  | .long => .inr (.inl (0, 0))
  | _ => .inr (.inr (.inl none))
