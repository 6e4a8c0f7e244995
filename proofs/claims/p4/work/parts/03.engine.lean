/-! ===== THE ENGINE: a run of bytecode over known values, computed by the kernel; the script's ints as variables in a box ===== -/
/-- a value: an int within bounds, a long within bounds, a reference (null, or a cell's number), or (0, i) the int variable i, (1, i) it as a long, (2, _) the script -/
abbrev wk_V : Type := (Int × Int) ⊕ ((Int × Int) ⊕ (Option Nat ⊕ (Nat × Nat)))
/-- a cell: an array (its kind, its length, its contents in rows of 32), an object (its class's number, its fields) -/
abbrev wk_C : Type := (Nat × Nat × List (List wk_V)) ⊕ (Nat × List wk_V)
/-- a heap: how many cells, the cells in rows of 32 -/
abbrev wk_A : Type := Nat × List (List wk_C)
abbrev wk_L : Type := List (Nat × wk_V)
abbrev wk_I : Type := List (Int × Int)
/-- a row of code: its place, the instruction, its length, what it is linked to, where the words stand, the short way's tag and number -/
abbrev wk_X : Type := Nat × Instr × Nat × (Nat × Nat × Int) × List Nat × Nat × Int
/-- a method: its class's number, name, bytes, locals, what it returns, the cells and slots that it may make, parameters, code in rows of sixteen places -/
abbrev wk_M : Type := Nat × MethodName × ByteArray × Nat × Option FieldType × Nat × Nat × Nat × List (List wk_X)
def wk_Mc (M : wk_M) : Nat := M.1
def wk_My (M : wk_M) : MethodName := M.2.1
def wk_Mb (M : wk_M) : ByteArray := M.2.2.1
def wk_Ml (M : wk_M) : Nat := M.2.2.2.1
def wk_Mr (M : wk_M) : Option FieldType := M.2.2.2.2.1
def wk_Mk (M : wk_M) : Nat := M.2.2.2.2.2.1
def wk_Ms (M : wk_M) : Nat := M.2.2.2.2.2.2.1
def wk_Mn (M : wk_M) : Nat := M.2.2.2.2.2.2.2.1
def wk_Mx (M : wk_M) : List (List wk_X) := M.2.2.2.2.2.2.2.2
def wk_at {α : Type} : List α → Nat → Option α
  | [], _ => none
  | a :: _, 0 => some a
  | _ :: l, n + 1 => wk_at l n
theorem wk_at_eq {α : Type} : ∀ (l : List α) (n : Nat), wk_at l n = l[n]?
  | [], n => by simp [wk_at]
  | a :: l, 0 => by simp [wk_at]
  | a :: l, n + 1 => by simp [wk_at, wk_at_eq l n]
/-- the list with another element, made at once -/
def wk_put {α β : Type} : List α → Nat → α → (List α → β) → β
  | [], _, _, k => k []
  | _ :: l, 0, v, k => k (v :: l)
  | a :: l, n + 1, v, k => wk_put l n v (fun r => k (a :: r))
theorem wk_put_eq {α β : Type} : ∀ (l : List α) (n : Nat) (v : α) (k : List α → β), wk_put l n v k = k (l.set n v)
  | [], n, v, k => by simp [wk_put]
  | a :: l, 0, v, k => by simp [wk_put]
  | a :: l, n + 1, v, k => by simp [wk_put, wk_put_eq l n v]
/-- rows of 32 -/
def wk_at2 {α : Type} (vs : List (List α)) (j : Nat) : Option α := match wk_at vs (j / 32) with
  | some r => wk_at r (j % 32)
  | none => none
def wk_put2 {α β : Type} (vs : List (List α)) (j : Nat) (w : α) (k : List (List α) → β) : β := match wk_at vs (j / 32) with
  | some r => wk_put r (j % 32) w (fun r => wk_put vs (j / 32) r k)
  | none => k vs
def wk_set2 {α : Type} (vs : List (List α)) (j : Nat) (w : α) : List (List α) := match vs[j / 32]? with
  | some r => vs.set (j / 32) (r.set (j % 32) w)
  | none => vs
theorem wk_put2_eq {α β : Type} (vs : List (List α)) (j : Nat) (w : α) (k : List (List α) → β) : wk_put2 vs j w k = k (wk_set2 vs j w) := by
  unfold wk_put2 wk_set2
  rw [wk_at_eq]
  cases vs[j / 32]? with
  | none => rfl
  | some r => simp only [wk_put_eq]
theorem wk_at2_eq {α : Type} (vs : List (List α)) (j : Nat) : wk_at2 vs j = (vs[j / 32]?).bind fun r => r[j % 32]? := by
  unfold wk_at2
  rw [wk_at_eq]
  cases vs[j / 32]? with
  | none => rfl
  | some r => simp only [wk_at_eq, Option.bind_some]
theorem wk_at2_set {α : Type} (vs : List (List α)) (j i : Nat) (w : α) (h : (wk_at2 vs j).isSome = true) : wk_at2 (wk_set2 vs j w) i = if i = j then some w else wk_at2 vs i := by
  rw [wk_at2_eq] at h
  rw [wk_at2_eq, wk_at2_eq]
  unfold wk_set2
  cases hr : vs[j / 32]? with
  | none => rw [hr] at h; cases h
  | some r =>
    rw [hr] at h
    simp only [Option.bind_some] at h
    have hl : j / 32 < vs.length := (List.getElem?_eq_some_iff.mp hr).1
    have hl2 : j % 32 < r.length := by
      obtain ⟨b, hb⟩ := Option.isSome_iff_exists.mp h
      exact (List.getElem?_eq_some_iff.mp hb).1
    simp only
    by_cases hd : i / 32 = j / 32
    · rw [hd, List.getElem?_set_self hl, hr]
      simp only [Option.bind_some]
      by_cases hm : i % 32 = j % 32
      · rw [hm, List.getElem?_set_self hl2, if_pos (by omega)]
      · rw [List.getElem?_set_ne (fun q => hm q.symm), if_neg (fun q => hm (by rw [q]))]
    · rw [List.getElem?_set_ne (fun q => hd q.symm), if_neg (fun q => hd (by rw [q]))]
def wk_fN {β : Type} (n : Nat) (k : Nat → β) : β := match n with
  | 0 => k 0
  | m + 1 => k (m + 1)
theorem wk_fN_eq {β : Type} (n : Nat) (k : Nat → β) : wk_fN n k = k n := by cases n <;> rfl
def wk_fI {β : Type} (x : Int) (k : Int → β) : β := match x with
  | .ofNat n => wk_fN n (fun n => k (.ofNat n))
  | .negSucc n => wk_fN n (fun n => k (.negSucc n))
theorem wk_fI_eq {β : Type} (x : Int) (k : Int → β) : wk_fI x k = k x := by cases x <;> simp [wk_fI, wk_fN_eq]
def wk_fV {β : Type} (v : wk_V) (k : wk_V → β) : β := match v with
  | .inl (a, b) => wk_fI a (fun a => wk_fI b (fun b => k (.inl (a, b))))
  | .inr (.inl (a, b)) => wk_fI a (fun a => wk_fI b (fun b => k (.inr (.inl (a, b)))))
  | .inr (.inr (.inl none)) => k (.inr (.inr (.inl none)))
  | .inr (.inr (.inl (some n))) => wk_fN n (fun n => k (.inr (.inr (.inl (some n)))))
  | .inr (.inr (.inr (t, i))) => k (.inr (.inr (.inr (t, i))))
theorem wk_fV_eq {β : Type} (v : wk_V) (k : wk_V → β) : wk_fV v k = k v := by
  rcases v with ⟨a, b⟩ | ⟨a, b⟩ | (_ | n) | ⟨t, i⟩ <;> simp [wk_fV, wk_fI_eq, wk_fN_eq]
def wk_fS {β : Type} (l : List wk_V) (k : List wk_V → β) : β := match l with
  | [] => k []
  | v :: r => wk_fV v (fun v => k (v :: r))
theorem wk_fS_eq {β : Type} (l : List wk_V) (k : List wk_V → β) : wk_fS l k = k l := by cases l <;> simp [wk_fS, wk_fV_eq]
def wk_fA {β : Type} (l : wk_L) (k : wk_L → β) : β := match l with
  | [] => k []
  | (i, v) :: r => wk_fV v (fun v => k ((i, v) :: r))
theorem wk_fA_eq {β : Type} (l : wk_L) (k : wk_L → β) : wk_fA l k = k l := by
  rcases l with _ | ⟨⟨i, v⟩, r⟩ <;> simp [wk_fA, wk_fV_eq]
/-- the box: bounds of an int, of a long -/
def wk_gi (iv : wk_I) (v : wk_V) : Option (Int × Int) := match v with
  | .inl p => some p
  | .inr (.inr (.inr (0, i))) => wk_at iv i
  | _ => none
def wk_gj (iv : wk_I) (v : wk_V) : Option (Int × Int) := match v with
  | .inr (.inl p) => some p
  | .inr (.inr (.inr (1, i))) => wk_at iv i
  | _ => none
def wk_tI : wk_V := .inl (-2147483648, 2147483647)
def wk_tJ : wk_V := .inr (.inl (-9223372036854775808, 9223372036854775807))
def wk_sI (x : Int32) : wk_V := .inl (x.toInt, x.toInt)
def wk_sJ (x : Int64) : wk_V := .inr (.inl (x.toInt, x.toInt))
/-- an operation on two ints, two longs, a long and an int: done on numbers, else anything -/
def wk_o2 (iv : wk_I) (F : Int32 → Int32 → Int32) (v w : wk_V) : Option wk_V := match wk_gi iv v, wk_gi iv w with
  | some p, some q => some (if p.1 = p.2 ∧ q.1 = q.2 then wk_sI (F (Int32.ofInt p.1) (Int32.ofInt q.1)) else wk_tI)
  | _, _ => none
def wk_o2j (iv : wk_I) (F : Int64 → Int64 → Int64) (v w : wk_V) : Option wk_V := match wk_gj iv v, wk_gj iv w with
  | some p, some q => some (if p.1 = p.2 ∧ q.1 = q.2 then wk_sJ (F (Int64.ofInt p.1) (Int64.ofInt q.1)) else wk_tJ)
  | _, _ => none
def wk_o2s (iv : wk_I) (F : Int64 → Int32 → Int64) (v w : wk_V) : Option wk_V := match wk_gj iv v, wk_gi iv w with
  | some p, some q => some (if p.1 = p.2 ∧ q.1 = q.2 then wk_sJ (F (Int64.ofInt p.1) (Int32.ofInt q.1)) else wk_tJ)
  | _, _ => none
def wk_d2 (iv : wk_I) (F : Int32 → Int32 → Int32) (v w : wk_V) : Option wk_V := match wk_gi iv v, wk_gi iv w with
  | some p, some q => if p.1 = p.2 ∧ q.1 = q.2 ∧ ¬ Int32.ofInt q.1 = 0 then some (wk_sI (F (Int32.ofInt p.1) (Int32.ofInt q.1))) else none
  | _, _ => none
def wk_d2j (iv : wk_I) (F : Int64 → Int64 → Int64) (v w : wk_V) : Option wk_V := match wk_gj iv v, wk_gj iv w with
  | some p, some q => if p.1 = p.2 ∧ q.1 = q.2 ∧ ¬ Int64.ofInt q.1 = 0 then some (wk_sJ (F (Int64.ofInt p.1) (Int64.ofInt q.1))) else none
  | _, _ => none
def wk_lc (iv : wk_I) (v w : wk_V) : Option wk_V := match wk_gj iv v, wk_gj iv w with
  | some p, some q => if q.2 < p.1 then some (.inl (1, 1)) else if p.2 < q.1 then some (.inl (-1, -1)) else if p.1 = p.2 ∧ q.1 = q.2 then some (.inl (0, 0)) else none
  | _, _ => none
def wk_lt (p q : Int × Int) : Option Bool := if p.2 < q.1 then some true else if q.2 ≤ p.1 then some false else none
def wk_eq (p q : Int × Int) : Option Bool := if p.1 = p.2 ∧ q.1 = q.2 ∧ p.1 = q.1 then some true else if p.2 < q.1 ∨ q.2 < p.1 then some false else none
def wk_cnd (c : ClassFile.Cond) (p q : Int × Int) : Option Bool := match c with
  | .eq => wk_eq p q
  | .ne => (wk_eq p q).map (fun r => !r)
  | .lt => wk_lt p q
  | .ge => (wk_lt p q).map (fun r => !r)
  | .gt => wk_lt q p
  | .le => (wk_lt q p).map (fun r => !r)
def wk_holds (c : ClassFile.Cond) (x y : Int32) : Prop := match c with
  | .eq => x = y
  | .ne => ¬ x = y
  | .lt => x < y
  | .ge => y ≤ x
  | .gt => y < x
  | .le => x ≤ y
def wk_to (pc : Nat) (off : Int) : Option Nat := match (pc : Int) + off with
  | .ofNat t => some t
  | _ => none
def wk_br (c : ClassFile.Cond) (pc : Nat) (off : Int) (p q : Option (Int × Int)) : Option Nat := match p, q, wk_to pc off with
  | some p, some q, some t => (wk_cnd c p q).map fun b => if b then t else pc + 3
  | _, _, _ => none
def wk_c1 : wk_V → Bool
  | .inl _ => true
  | .inr (.inr (.inl _)) => true
  | .inr (.inr (.inr (1, _))) => false
  | .inr (.inr (.inr _)) => true
  | _ => false
def wk_c2 : wk_V → Bool
  | .inr (.inl _) => true
  | .inr (.inr (.inr (1, _))) => true
  | _ => false
def wk_isr : wk_V → Bool
  | .inr (.inr (.inl (some _))) => true
  | .inr (.inr (.inr (_ + 2, _))) => true
  | _ => false
def wk_get : wk_L → Nat → Option wk_V
  | [], _ => none
  | (j, v) :: l, i => if Nat.beq j i then some v else wk_get l i
def wk_st1 (AL : wk_L) (i : Nat) (v : wk_V) : wk_L := (i, v) :: AL.filter (fun q => !(q.1 == i) && !(q.1 + 1 == i && wk_c2 q.2))
def wk_st2 (AL : wk_L) (i : Nat) (v : wk_V) : wk_L := (i, v) :: AL.filter (fun q => !(q.1 == i) && (!(q.1 == i + 1) && !(q.1 + 1 == i && wk_c2 q.2)))
/-- '& 63' of the variable 0 is the variable 5 -/
def wk_an (iv : wk_I) (v w : wk_V) : Option wk_V := match v, w with
  | .inl (63, 63), .inr (.inr (.inr (0, 0))) => some (.inr (.inr (.inr (0, 5))))
  | v, w => wk_o2 iv (fun a b => a &&& b) w v
def wk_il (iv : wk_I) (v : wk_V) : Option wk_V := match v with
  | .inr (.inr (.inr (0, i))) => some (.inr (.inr (.inr (1, i))))
  | v => (wk_gi iv v).map fun p => .inr (.inl p)
abbrev wk_P : Type := Nat × wk_L × List wk_V
/-- the instructions that leave the heap alone -/
def wk_pure (iv : wk_I) (nL : Nat) (i : Instr) (x : Int) (pc : Nat) (AL : wk_L) (AS : List wk_V) : Option wk_P :=
  match i, AS with
  | .iconst n, AS => some (pc + 1, AL, wk_sI (Int32.ofInt n) :: AS)
  | .bipush n, AS => some (pc + 2, AL, wk_sI (Int8.ofInt n).toInt32 :: AS)
  | .sipush n, AS => some (pc + 3, AL, wk_sI (Int16.ofInt n).toInt32 :: AS)
  | .lconst n, AS => some (pc + 1, AL, wk_sJ (Int64.ofNat n.val) :: AS)
  | .ldc _, AS => some (pc + 2, AL, wk_sI (Int32.ofInt x) :: AS)
  | .ldc_w _, AS => some (pc + 3, AL, wk_sI (Int32.ofInt x) :: AS)
  | .ldc2_w _, AS => some (pc + 3, AL, wk_sJ (Int64.ofInt x) :: AS)
  | .iload_n k, AS => (wk_get AL k.val).bind fun v => if (wk_gi iv v).isSome then some (pc + 1, AL, v :: AS) else none
  | .iload k, AS => (wk_get AL k).bind fun v => if (wk_gi iv v).isSome then some (pc + 2, AL, v :: AS) else none
  | .lload_n k, AS => (wk_get AL k.val).bind fun v => if (wk_gj iv v).isSome then some (pc + 1, AL, v :: AS) else none
  | .lload k, AS => (wk_get AL k).bind fun v => if (wk_gj iv v).isSome then some (pc + 2, AL, v :: AS) else none
  | .aload_n k, AS => (wk_get AL k.val).bind fun v => if wk_isr v then some (pc + 1, AL, v :: AS) else none
  | .aload k, AS => (wk_get AL k).bind fun v => if wk_isr v then some (pc + 2, AL, v :: AS) else none
  | .istore_n k, v :: AS => if (wk_gi iv v).isSome ∧ k.val < nL then some (pc + 1, wk_st1 AL k.val v, AS) else none
  | .istore k, v :: AS => if (wk_gi iv v).isSome ∧ k < nL then some (pc + 2, wk_st1 AL k v, AS) else none
  | .lstore_n k, v :: AS => if (wk_gj iv v).isSome ∧ k.val + 1 < nL then some (pc + 1, wk_st2 AL k.val v, AS) else none
  | .lstore k, v :: AS => if (wk_gj iv v).isSome ∧ k + 1 < nL then some (pc + 2, wk_st2 AL k v, AS) else none
  | .astore_n k, v :: AS => if wk_isr v ∧ k.val < nL then some (pc + 1, wk_st1 AL k.val v, AS) else none
  | .astore k, v :: AS => if wk_isr v ∧ k < nL then some (pc + 2, wk_st1 AL k v, AS) else none
  | .iinc k n, AS => (wk_get AL k).bind fun v => (wk_o2 iv (fun a b => a + b) v (wk_sI (Int32.ofInt n))).bind fun w => if k < nL then some (pc + 3, wk_st1 AL k w, AS) else none
  | .goto off, AS => (wk_to pc off).map fun t => (t, AL, AS)
  | .ifCond c off, v :: AS => (wk_br c pc off (wk_gi iv v) (some (0, 0))).map fun t => (t, AL, AS)
  | .if_icmp c off, v :: w :: AS => (wk_br c pc off (wk_gi iv w) (wk_gi iv v)).map fun t => (t, AL, AS)
  | .iadd, v :: w :: AS => (wk_o2 iv (fun a b => a + b) w v).map fun x => (pc + 1, AL, x :: AS)
  | .isub, v :: w :: AS => (wk_o2 iv (fun a b => a - b) w v).map fun x => (pc + 1, AL, x :: AS)
  | .imul, v :: w :: AS => (wk_o2 iv (fun a b => a * b) w v).map fun x => (pc + 1, AL, x :: AS)
  | .iand, v :: w :: AS => (wk_an iv v w).map fun x => (pc + 1, AL, x :: AS)
  | .ior, v :: w :: AS => (wk_o2 iv (fun a b => a ||| b) w v).map fun x => (pc + 1, AL, x :: AS)
  | .ixor, v :: w :: AS => (wk_o2 iv (fun a b => a ^^^ b) w v).map fun x => (pc + 1, AL, x :: AS)
  | .ishl, v :: w :: AS => (wk_o2 iv (fun a b => a <<< (b &&& 31)) w v).map fun x => (pc + 1, AL, x :: AS)
  | .ishr, v :: w :: AS => (wk_o2 iv (fun a b => a >>> (b &&& 31)) w v).map fun x => (pc + 1, AL, x :: AS)
  | .idiv, v :: w :: AS => (wk_d2 iv (fun a b => a / b) w v).map fun x => (pc + 1, AL, x :: AS)
  | .irem, v :: w :: AS => (wk_d2 iv (fun a b => a - a / b * b) w v).map fun x => (pc + 1, AL, x :: AS)
  | .ladd, v :: w :: AS => (wk_o2j iv (fun a b => a + b) w v).map fun x => (pc + 1, AL, x :: AS)
  | .lsub, v :: w :: AS => (wk_o2j iv (fun a b => a - b) w v).map fun x => (pc + 1, AL, x :: AS)
  | .lmul, v :: w :: AS => (wk_o2j iv (fun a b => a * b) w v).map fun x => (pc + 1, AL, x :: AS)
  | .land, v :: w :: AS => (wk_o2j iv (fun a b => a &&& b) w v).map fun x => (pc + 1, AL, x :: AS)
  | .lor, v :: w :: AS => (wk_o2j iv (fun a b => a ||| b) w v).map fun x => (pc + 1, AL, x :: AS)
  | .ldiv, v :: w :: AS => (wk_d2j iv (fun a b => a / b) w v).map fun x => (pc + 1, AL, x :: AS)
  | .lrem, v :: w :: AS => (wk_d2j iv (fun a b => a - a / b * b) w v).map fun x => (pc + 1, AL, x :: AS)
  | .lshl, v :: w :: AS => (wk_o2s iv (fun a b => a <<< (b.toInt64 &&& 63)) w v).map fun x => (pc + 1, AL, x :: AS)
  | .lshr, v :: w :: AS => (wk_o2s iv (fun a b => a >>> (b.toInt64 &&& 63)) w v).map fun x => (pc + 1, AL, x :: AS)
  | .lushr, v :: w :: AS => (wk_o2s iv (fun a b => (a.toUInt64 >>> (b.toInt64.toUInt64 &&& Int64.toUInt64 63)).toInt64) w v).map fun x => (pc + 1, AL, x :: AS)
  | .lcmp, v :: w :: AS => (wk_lc iv w v).map fun x => (pc + 1, AL, x :: AS)
  | .ineg, v :: AS => (wk_o2 iv (fun a _ => -a) v (.inl (0, 0))).map fun x => (pc + 1, AL, x :: AS)
  | .i2l, v :: AS => (wk_il iv v).map fun x => (pc + 1, AL, x :: AS)
  | .l2i, v :: AS => (wk_gj iv v).map fun p => (pc + 1, AL, (if p.1 = p.2 then wk_sI (Int64.ofInt p.1).toInt32 else wk_tI) :: AS)
  | .dup, v :: AS => if wk_c1 v then some (pc + 1, AL, v :: v :: AS) else none
  | .dup_x1, v :: w :: AS => if wk_c1 v ∧ wk_c1 w then some (pc + 1, AL, v :: w :: v :: AS) else none
  | .dup2, v :: w :: AS => if wk_c1 v ∧ wk_c1 w then some (pc + 1, AL, v :: w :: v :: w :: AS) else none
  | .pop, v :: AS => if wk_c1 v then some (pc + 1, AL, AS) else none
  | .tableswitch d lo hi offs, v :: AS => (wk_gi iv v).bind fun p => if p.1 = p.2 then (if p.1 < lo ∨ hi < p.1 then (wk_to pc d).map fun t => (t, AL, AS) else (offs[(p.1 - lo).toNat]?.bind fun o => wk_to pc o).map fun t => (t, AL, AS)) else if p.2 < lo ∨ hi < p.1 then (wk_to pc d).map fun t => (t, AL, AS) else none
  | _, _ => none
/-- an index, a length -/
def wk_nx (iv : wk_I) (v : wk_V) : Option Nat := match wk_gi iv v with
  | some (.ofNat a, .ofNat b) => if Nat.beq a b then some a else none
  | _ => none
/-- a cell of which something is known ((1000, _): of that one nothing is) -/
def wk_kn (c : wk_C) : Bool := match c with
  | .inl _ => true
  | .inr (ci, _) => bif Nat.beq ci 1000 then false else true
def wk_cell (AH : wk_A) (k : Nat) : Option wk_C := bif Nat.blt k AH.1 then (match wk_at2 AH.2 k with
  | some c => bif wk_kn c then some c else none
  | none => none) else none
def wk_obj (AH : wk_A) (v : wk_V) : Option (Nat × Nat × List wk_V) := match v with
  | .inr (.inr (.inl (some k))) => match wk_cell AH k with
    | some (.inr (ci, fs)) => some (k, ci, fs)
    | _ => none
  | _ => none
def wk_ary (AH : wk_A) (v : wk_V) : Option (Nat × Nat × Nat × List (List wk_V)) := match v with
  | .inr (.inr (.inl (some k))) => match wk_cell AH k with
    | some (.inl (t, n, vs)) => some (k, t, n, vs)
    | _ => none
  | _ => none
def wk_scr (v : wk_V) : Bool := match v with
  | .inr (.inr (.inr (2, _))) => true
  | _ => false
/-- an array's kinds -/
def wk_ty : Nat → FieldType
  | 0 => .int
  | 1 => .boolean
  | 2 => .array .int
  | _ => .object "EvenSides$Told"
/-- may the value be put into a field of that kind -/
def wk_fit (iv : wk_I) (n : Nat) (v : wk_V) : Bool := match n with
  | 0 => (wk_gi iv v).isSome
  | 1 => match wk_gi iv v with
    | some (a, b) => decide (0 ≤ a) && decide (b ≤ 1)
    | none => false
  | 2 => (wk_gj iv v).isSome
  | 3 => match v with
    | .inr (.inr (.inl _)) => true
    | _ => false
  | _ => false
/-- the fields of a new object -/
def wk_zs : List (List wk_V) := wk_fc.map fun r => r.map fun n => match n with
  | 0 => .inl (0, 0)
  | 1 => .inl (0, 0)
  | 2 => .inr (.inl (0, 0))
  | _ => .inr (.inr (.inl none))
/-- what an instruction does to the heap: how far it goes, the stack, a cell written, cells made, how many, their slots -/
abbrev wk_H : Type := Nat × List wk_V × Option (Nat × wk_C) × List wk_C × Nat × Nat
def wk_h1 (d : Nat) (AS : List wk_V) : Option wk_H := some (d, AS, none, [], 0, 0)
def wk_hw (d : Nat) (AS : List wk_V) (k : Nat) (c : wk_C) : Option wk_H := some (d, AS, some (k, c), [], 0, 0)
def wk_getf (x : Nat × Nat × Int) (v : wk_V) (AS : List wk_V) (AH : wk_A) : Option wk_H := match wk_obj AH v with
  | some (_, ci, fs) => bif Nat.beq ci x.1 then (match wk_at fs x.2.1 with
    | some w => wk_h1 3 (w :: AS)
    | none => none) else none
  | none => none
def wk_putf (iv : wk_I) (x : Nat × Nat × Int) (w v : wk_V) (AS : List wk_V) (AH : wk_A) : Option wk_H := match wk_obj AH v with
  | some (k, ci, fs) => bif Nat.beq ci x.1 && ((wk_at fs x.2.1).isSome && wk_fit iv x.2.2.toNat w) then wk_put fs x.2.1 w (fun fs => wk_hw 3 AS k (.inr (ci, fs))) else none
  | none => none
def wk_ild (Lz : Nat) (iv : wk_I) (v a : wk_V) (AS : List wk_V) (AH : wk_A) : Option wk_H := match wk_nx iv v with
  | some j => bif wk_scr a then (bif Nat.blt j Lz then wk_h1 1 (.inr (.inr (.inr (0, j))) :: AS) else none) else match wk_ary AH a with
    | some (_, t, n, vs) => bif Nat.beq t 0 && Nat.blt j n then (match wk_at2 vs j with
      | some w => wk_h1 1 (w :: AS)
      | none => none) else none
    | none => none
  | none => none
def wk_bld (iv : wk_I) (v a : wk_V) (AS : List wk_V) (AH : wk_A) : Option wk_H := match wk_nx iv v, wk_ary AH a with
  | some j, some (_, t, n, vs) => bif Nat.beq t 1 && Nat.blt j n then (match wk_at2 vs j with
    | some w => wk_h1 1 (w :: AS)
    | none => none) else none
  | _, _ => none
def wk_ald (iv : wk_I) (v a : wk_V) (AS : List wk_V) (AH : wk_A) : Option wk_H := match wk_nx iv v, wk_ary AH a with
  | some j, some (_, t, n, vs) => bif Nat.ble 2 t && Nat.blt j n then (match wk_at2 vs j with
    | some w => wk_h1 1 (w :: AS)
    | none => none) else none
  | _, _ => none
def wk_ist (iv : wk_I) (w v a : wk_V) (AS : List wk_V) (AH : wk_A) : Option wk_H := match wk_nx iv v, wk_ary AH a with
  | some j, some (k, t, n, vs) => bif Nat.beq t 0 && (Nat.blt j n && ((wk_at2 vs j).isSome && (wk_gi iv w).isSome)) then wk_put2 vs j w (fun vs => wk_hw 1 AS k (.inl (t, n, vs))) else none
  | _, _ => none
def wk_bst (iv : wk_I) (w v a : wk_V) (AS : List wk_V) (AH : wk_A) : Option wk_H := match wk_nx iv v, wk_ary AH a with
  | some j, some (k, t, n, vs) => bif Nat.beq t 1 && (Nat.blt j n && ((wk_at2 vs j).isSome && wk_fit iv 1 w)) then wk_put2 vs j w (fun vs => wk_hw 1 AS k (.inl (t, n, vs))) else none
  | _, _ => none
def wk_ast (iv : wk_I) (w v a : wk_V) (AS : List wk_V) (AH : wk_A) : Option wk_H := match wk_nx iv v, wk_ary AH a, wk_obj AH w with
  | some j, some (k, t, n, vs), some (_, ci, _) => bif Nat.beq t 3 && (Nat.beq ci 7 && (Nat.blt j n && (wk_at2 vs j).isSome)) then wk_put2 vs j w (fun vs => wk_hw 1 AS k (.inl (t, n, vs))) else none
  | _, _, _ => none
def wk_aln (Lz : Nat) (a : wk_V) (AS : List wk_V) (AH : wk_A) : Option wk_H := bif wk_scr a then wk_h1 1 (wk_sI (Int32.ofNat Lz) :: AS) else match wk_ary AH a with
  | some (_, _, n, _) => wk_h1 1 (wk_sI (Int32.ofNat n) :: AS)
  | none => none
def wk_new (x : Nat × Nat × Int) (AS : List wk_V) (AH : wk_A) : Option wk_H := match wk_at wk_zs x.1 with
  | some fs => some (3, .inr (.inr (.inl (some AH.1))) :: AS, none, [.inr (x.1, fs)], 1, fs.length)
  | none => none
/-- the contents of a new array -/
def wk_rep (n : Nat) (v : wk_V) : List (List wk_V) := List.replicate (n / 32 + 1) (List.replicate 32 v)
def wk_nwa (iv : wk_I) (ty : ArrayType) (v : wk_V) (AS : List wk_V) (AH : wk_A) : Option wk_H := match wk_nx iv v, ty with
  | some n, .int => bif Nat.ble n 100000 then some (2, .inr (.inr (.inl (some AH.1))) :: AS, none, [.inl (0, n, wk_rep n (.inl (0, 0)))], 1, n) else none
  | some n, .boolean => bif Nat.ble n 100000 then some (2, .inr (.inr (.inl (some AH.1))) :: AS, none, [.inl (1, n, wk_rep n (.inl (0, 0)))], 1, n) else none
  | _, _ => none
def wk_nwq (iv : wk_I) (v : wk_V) (AS : List wk_V) (AH : wk_A) : Option wk_H := match wk_nx iv v with
  | some n => bif Nat.ble n 100000 then some (3, .inr (.inr (.inl (some AH.1))) :: AS, none, [.inl (3, n, wk_rep n (.inr (.inr (.inl none))))], 1, n) else none
  | none => none
/-- the numbers of cells in a row, in rows of 32 -/
def wk_refs (b n : Nat) : List (List wk_V) := (List.range (n / 32 + 1)).map fun c => (List.range 32).map fun j => .inr (.inr (.inl (some (b + (32 * c + j)))))
def wk_mna (iv : wk_I) (v w : wk_V) (AS : List wk_V) (AH : wk_A) : Option wk_H := match wk_nx iv v, wk_nx iv w with
  | some k, some n => bif Nat.ble k 10000 && Nat.ble n 10000 then some (4, .inr (.inr (.inl (some AH.1))) :: AS, none, .inl (2, n, wk_refs (AH.1 + 1) n) :: List.replicate n (.inl (0, k, wk_rep k (.inl (0, 0)))), 1 + n, n + n * k) else none
  | _, _ => none
def wk_heap (Lz : Nat) (iv : wk_I) (i : Instr) (x : Nat × Nat × Int) (AS : List wk_V) (AH : wk_A) : Option wk_H :=
  match i, AS with
  | .getfield _, v :: AS => wk_getf x v AS AH
  | .putfield _, w :: v :: AS => wk_putf iv x w v AS AH
  | .iaload, v :: a :: AS => wk_ild Lz iv v a AS AH
  | .baload, v :: a :: AS => wk_bld iv v a AS AH
  | .aaload, v :: a :: AS => wk_ald iv v a AS AH
  | .iastore, w :: v :: a :: AS => wk_ist iv w v a AS AH
  | .bastore, w :: v :: a :: AS => wk_bst iv w v a AS AH
  | .aastore, w :: v :: a :: AS => wk_ast iv w v a AS AH
  | .arraylength, a :: AS => wk_aln Lz a AS AH
  | .new _, AS => wk_new x AS AH
  | .newarray ty, v :: AS => wk_nwa iv ty v AS AH
  | .anewarray _, v :: AS => wk_nwq iv v AS AH
  | .multianewarray _ 2, v :: w :: AS => wk_mna iv v w AS AH
  | _, _ => none
/-- a variable is to be cut into pieces -/
def wk_cv (lo hi : Int) : List (Int × Int) → Bool
  | [] => decide (hi < lo)
  | (a, b) :: r => decide (a ≤ lo) && (decide (hi ≤ b) || wk_cv (b + 1) hi r)
def wk_small (iv : wk_I) (v : wk_V) : Option (Nat × List (Int × Int)) := match v with
  | .inr (.inr (.inr (0, i))) => match wk_at iv i with
    | some (lo, hi) => if lo < hi ∧ hi ≤ lo + 16 then some (i, (List.range ((hi - lo).toNat + 1)).map fun k => (lo + (Int.ofNat k), lo + Int.ofNat k)) else none
    | none => none
  | _ => none
def wk_pcs (iv : wk_I) (v : wk_V) (q : Option (Int × Int)) : Option (Nat × List (Int × Int)) := match v, q with
  | .inr (.inr (.inr (t, i))), some (cl, ch) => if Nat.ble t 1 && decide (cl = ch) then match wk_at iv i with
      | some (lo, hi) => some (i, ((if lo < cl then [(lo, cl - 1)] else []) ++ (if lo ≤ cl ∧ cl ≤ hi then [(cl, cl)] else []) ++ (if cl < hi then [(cl + 1, hi)] else [])))
      | none => none
    else none
  | _, _ => none
/-- the pieces at a switch -/
def wk_psw (iv : wk_I) (v : wk_V) (lo hi : Int) : Option (Nat × List (Int × Int)) := match v with
  | .inr (.inr (.inr (0, i))) => match wk_at iv i with
    | some (a, b) => some (i, ((if a < lo then [(a, lo - 1)] else []) ++ ((List.range ((hi - lo).toNat + 1)).map fun k => (lo + Int.ofNat k, lo + Int.ofNat k)).filter (fun q => decide (a ≤ q.1) && decide (q.1 ≤ b)) ++ (if hi < b then [(if a ≤ hi then hi + 1 else a, b)] else [])))
    | none => none
  | _ => none
def wk_or {α : Type} (a b : Option α) : Option α := match a with
  | some x => some x
  | none => b
/-- where arithmetic wants a number; where a comparison isn't decided -/
def wk_need (iv : wk_I) (i : Instr) (AS : List wk_V) : Option (Nat × List (Int × Int)) := match i, AS with
  | .iadd, v :: w :: _ | .isub, v :: w :: _ | .imul, v :: w :: _ | .ishl, v :: w :: _ | .ishr, v :: w :: _ | .iand, v :: w :: _ | .ior, v :: w :: _ => wk_or (wk_small iv v) (wk_small iv w)
  | .iaload, v :: _ | .baload, v :: _ | .aaload, v :: _ => wk_small iv v
  | .iastore, _ :: v :: _ | .bastore, _ :: v :: _ | .aastore, _ :: v :: _ => wk_small iv v
  | _, _ => none
def wk_undec (iv : wk_I) (i : Instr) (AS : List wk_V) : Option (Nat × List (Int × Int)) := match i, AS with
  | .ifCond _ _, v :: _ => wk_pcs iv v (some (0, 0))
  | .if_icmp _ _, v :: w :: _ => wk_or (wk_pcs iv w (wk_gi iv v)) (wk_pcs iv v (wk_gi iv w))
  | .lcmp, v :: w :: _ => wk_or (wk_pcs iv w (wk_gj iv v)) (wk_pcs iv v (wk_gj iv w))
  | .tableswitch _ lo hi _, v :: _ => wk_psw iv v lo hi
  | _, _ => none
/-- a way's end: the box, what is returned, the heap, the cells written -/
abbrev wk_F : Type := wk_I × Option wk_V × wk_A × List Nat
def wk_app {α : Type} (a b : Option (List α)) : Option (List α) := match a with
  | some x => match b with
    | some y => some (x ++ y)
    | none => none
  | none => none
def wk_cat : List wk_V → Nat
  | [] => 0
  | v :: l => (if wk_c2 v then 2 else 1) + wk_cat l
def wk_fetch (M : wk_M) (pc : Nat) : Option wk_X := match wk_at (wk_Mx M) (pc / 16) with
  | some r => r.find? (fun x => Nat.beq x.1 pc)
  | none => none
/-- what is returned -/
def wk_ret (iv : wk_I) (M : wk_M) (i : Instr) (AS : List wk_V) : Option (Option wk_V) := match i, wk_Mr M, AS with
  | .return_, none, [] => some none
  | .ireturn, some .int, [v] => if (wk_gi iv v).isSome then some (some v) else none
  | .ireturn, some .boolean, [v] => if wk_fit iv 1 v then some (some v) else none
  | .lreturn, some .long, [v] => if (wk_gj iv v).isSome then some (some v) else none
  | _, _, _ => none
/-- the arguments of a call: n of them, first first, and the rest of the stack -/
def wk_take : Nat → List wk_V → List wk_V → Option (List wk_V × List wk_V)
  | 0, AS, acc => some (acc, AS)
  | n + 1, v :: AS, acc => wk_take n AS (v :: acc)
  | _ + 1, [], _ => none
/-- how a call is made: 0 virtual, 1 static, 2 a constructor, 3 a nest mate's static, 4 Object's constructor, 5 arraycopy -/
def wk_argn (kd n : Nat) : Nat := match kd with
  | 0 => n + 1
  | 2 => n + 1
  | _ => n
/-- arraycopy of a whole row -/
def wk_copy (iv : wk_I) (AS : List wk_V) (AH : wk_A) : Option wk_H := match AS with
  | n :: dp :: b :: sp :: a :: AS => match wk_nx iv n, wk_nx iv dp, wk_ary AH b, wk_nx iv sp, wk_ary AH a with
    | some n, some dp, some (k, t, nb, _), some sp, some (_, t2, na, vs) => bif Nat.beq t 0 && (Nat.beq t2 0 && (Nat.beq sp 0 && (Nat.beq dp 0 && (Nat.beq n na && (Nat.beq n nb && Nat.ble (wk_cat AS) 8))))) then wk_hw 3 AS k (.inl (t, nb, vs)) else none
    | _, _, _, _, _ => none
  | _ => none
def wk_isI (i : Instr) (kd : Nat) : Bool := match i, kd with
  | .invokevirtual _, 0 => true
  | .invokestatic _, 1 => true
  | .invokespecial _, 2 => true
  | .invokestatic _, 3 => true
  | _, _ => false
/-- a call's start: the method, the arguments, the rest of the stack -/
def wk_call (mt : Nat → Option wk_M) (i : Instr) (x : Nat × Nat × Int) (AS : List wk_V) (AH : wk_A) : Option (wk_M × List wk_V × List wk_V) :=
  if wk_isI i x.1 then match mt x.2.1 with
    | some M => match wk_take (wk_argn x.1 (wk_Mn M)) AS [] with
      | some (av, r) => if Nat.ble (wk_cat r) 8 then (match x.1, av with
        | 0, v :: _ => match wk_obj AH v with
          | some (_, ci, _) => if Nat.beq ci (wk_Mc M) then some (M, av, r) else none
          | none => none
        | 0, [] => none
        | 2, v :: _ => if wk_isr v && !wk_scr v then some (M, av, r) else none
        | 2, [] => none
        | _, _ => some (M, av, r)) else none
      | none => none
    | none => none
  else none
def wk_oin (i : Instr) (x : Nat × Nat × Int) (AS : List wk_V) : Option wk_H := match i, x.1, AS with
  | .invokespecial _, 4, v :: AS => if wk_isr v && Nat.ble (wk_cat AS) 8 then wk_h1 3 AS else none
  | _, _, _ => none
def wk_isC (i : Instr) (x : Nat × Nat × Int) (AS : List wk_V) : Bool := match i, x.1 with
  | .invokestatic _, 5 => true
  | _, _ => false
/-- Math.min, Math.abs of ints -/
def wk_mth (iv : wk_I) (i : Instr) (x : Nat × Nat × Int) (AS : List wk_V) : Option wk_H := match i, x.1, AS with
  | .invokestatic _, 6, v :: w :: AS => (wk_o2 iv (fun a b => if b < a then b else a) w v).bind fun u => if Nat.ble (wk_cat AS) 8 then wk_h1 3 (u :: AS) else none
  | .invokestatic _, 8, v :: w :: AS => (wk_o2 iv (fun a b => if a < b then b else a) w v).bind fun u => if Nat.ble (wk_cat AS) 8 then wk_h1 3 (u :: AS) else none
  | .invokestatic _, 7, v :: AS => (wk_o2 iv (fun a _ => if 0 ≤ a then a else 0 - a) v (.inl (0, 0))).bind fun u => if Nat.ble (wk_cat AS) 8 then wk_h1 3 (u :: AS) else none
  | _, _, _ => none
/-- all that an instruction does to the heap alone -/
def wk_hp (Lz : Nat) (iv : wk_I) (i : Instr) (x : Nat × Nat × Int) (AS : List wk_V) (AH : wk_A) : Option wk_H :=
  if wk_isC i x AS then wk_copy iv AS AH else wk_or (wk_oin i x AS) (wk_or (wk_mth iv i x AS) (wk_heap Lz iv i x AS AH))
/-- cells put behind the others -/
def wk_push {β : Type} : List wk_C → wk_A → (wk_A → β) → β
  | [], AH, k => k AH
  | c :: l, AH, k => wk_fN AH.1 fun n => wk_put2 AH.2 n c (fun r => wk_push l (n + 1, r) k)
def wk_wr {β : Type} (AH : wk_A) (w : Option (Nat × wk_C)) (nw : List wk_C) (k : wk_A → β) : β := match w with
  | some (n, c) => wk_put2 AH.2 n c (fun r => k (AH.1, r))
  | none => wk_push nw AH k
def wk_room (AH : wk_A) : List wk_C → Nat → Bool
  | [], _ => true
  | _ :: l, n => (wk_at2 AH.2 n).isSome && wk_room AH l (n + 1)
def wk_st (iv : wk_I) (v : Option wk_V) (r : List wk_V) : List wk_V := match v with
  | some v => v :: r
  | none => r
/-- the list of locals, made at once -/
def wk_fLs {β : Type} : wk_L → (wk_L → β) → β
  | [], k => k []
  | q :: l, k => wk_fLs l (fun r => k (q :: r))
theorem wk_fLs_eq {β : Type} : ∀ (l : wk_L) (k : wk_L → β), wk_fLs l k = k l
  | [], _ => rfl
  | q :: l, k => by simp [wk_fLs, wk_fLs_eq l]
def wk_in32 (r : Int) : Bool := decide (-2147483648 ≤ r) && decide (r ≤ 2147483647)
def wk_q1 (r : Int) (pc : Nat) (AL : wk_L) (AS : List wk_V) : Option wk_P := bif wk_in32 r then some (pc + 1, AL, .inl (r, r) :: AS) else none
/-- the short ways: tags -/
def wk_qload (g : wk_V → Bool) (a : Nat) (d pc : Nat) (AL : wk_L) (AS : List wk_V) : Option wk_P := match wk_get AL a with
  | some v => bif g v then some (pc + d, AL, v :: AS) else none
  | none => none
def wk_gii (v : wk_V) : Bool := match v with
  | .inl _ => true
  | _ => false
def wk_gjj (v : wk_V) : Bool := match v with
  | .inr (.inl _) => true
  | _ => false
def wk_qsti (a d pc nL : Nat) (AL : wk_L) (AS : List wk_V) : Option wk_P := match AS with
  | v :: AS => bif wk_gii v && Nat.blt a nL then wk_fLs (wk_st1 AL a v) (fun AL => some (pc + d, AL, AS)) else none
  | [] => none
def wk_qsta (a d pc nL : Nat) (AL : wk_L) (AS : List wk_V) : Option wk_P := match AS with
  | v :: AS => bif wk_isr v && Nat.blt a nL then wk_fLs (wk_st1 AL a v) (fun AL => some (pc + d, AL, AS)) else none
  | [] => none
def wk_qinc (k : Nat) (a : Int) (pc nL : Nat) (AL : wk_L) (AS : List wk_V) : Option wk_P := match wk_get AL k with
  | some (.inl (p, q)) => bif decide (p = q) && (wk_in32 (p + a) && Nat.blt k nL) then wk_fI (p + a) (fun r => wk_fLs (wk_st1 AL k (.inl (r, r))) (fun AL => some (pc + 3, AL, AS))) else none
  | _ => none
def wk_qif (c : ClassFile.Cond) (t : Nat) (pc : Nat) (AL : wk_L) (AS : List wk_V) : Option wk_P := match AS with
  | .inl p :: AS => match wk_cnd c p (0, 0) with
    | some true => some (t, AL, AS)
    | some false => some (pc + 3, AL, AS)
    | none => none
  | _ => none
def wk_qic (c : ClassFile.Cond) (t : Nat) (pc : Nat) (AL : wk_L) (AS : List wk_V) : Option wk_P := match AS with
  | .inl q :: .inl p :: AS => match wk_cnd c p q with
    | some true => some (t, AL, AS)
    | some false => some (pc + 3, AL, AS)
    | none => none
  | _ => none
def wk_qar (F : Int → Int → Int) (pc : Nat) (AL : wk_L) (AS : List wk_V) : Option wk_P := match AS with
  | .inl (c, d) :: .inl (a, b) :: AS => bif decide (a = b) && decide (c = d) then wk_q1 (F a c) pc AL AS else none
  | _ => none
def wk_qil (pc : Nat) (AL : wk_L) (AS : List wk_V) : Option wk_P := match AS with
  | .inl p :: AS => some (pc + 1, AL, .inr (.inl p) :: AS)
  | .inr (.inr (.inr (0, i))) :: AS => some (pc + 1, AL, .inr (.inr (.inr (1, i))) :: AS)
  | _ => none
def wk_qlc (iv : wk_I) (pc : Nat) (AL : wk_L) (AS : List wk_V) : Option wk_P := match AS with
  | v :: w :: AS => match wk_lc iv w v with
    | some x => some (pc + 1, AL, x :: AS)
    | none => none
  | _ => none
def wk_qdup (pc : Nat) (AL : wk_L) (AS : List wk_V) : Option wk_P := match AS with
  | v :: AS => bif wk_c1 v then some (pc + 1, AL, v :: v :: AS) else none
  | _ => none
def wk_qdup2 (pc : Nat) (AL : wk_L) (AS : List wk_V) : Option wk_P := match AS with
  | v :: w :: AS => bif wk_c1 v && wk_c1 w then some (pc + 1, AL, v :: w :: v :: w :: AS) else none
  | _ => none
/-- tags 1 .. 31: k a place or a target, a a number, d the length -/
def wk_t1 (t k d : Nat) (a : Int) (iv : wk_I) (nL pc : Nat) (AL : wk_L) (AS : List wk_V) : Option wk_P :=
  bif Nat.beq t 1 then some (pc + d, AL, .inl (a, a) :: AS) else bif Nat.beq t 2 then wk_qload wk_gii k d pc AL AS else bif Nat.beq t 3 then wk_qload wk_isr k d pc AL AS else none
def wk_t2 (t k d : Nat) (a : Int) (iv : wk_I) (nL pc : Nat) (AL : wk_L) (AS : List wk_V) : Option wk_P :=
  bif Nat.beq t 4 then wk_qload wk_gjj k d pc AL AS else bif Nat.beq t 5 then wk_qsti k d pc nL AL AS else bif Nat.beq t 6 then wk_qsta k d pc nL AL AS else bif Nat.beq t 7 then wk_qinc k a pc nL AL AS else none
def wk_t3 (t k d : Nat) (a : Int) (iv : wk_I) (nL pc : Nat) (AL : wk_L) (AS : List wk_V) : Option wk_P :=
  bif Nat.beq t 8 then some (k, AL, AS) else bif Nat.beq t 9 then wk_qif .eq k pc AL AS else bif Nat.beq t 10 then wk_qif .ne k pc AL AS else bif Nat.beq t 11 then wk_qif .lt k pc AL AS else none
def wk_t4 (t k d : Nat) (a : Int) (iv : wk_I) (nL pc : Nat) (AL : wk_L) (AS : List wk_V) : Option wk_P :=
  bif Nat.beq t 12 then wk_qif .ge k pc AL AS else bif Nat.beq t 13 then wk_qif .gt k pc AL AS else bif Nat.beq t 14 then wk_qif .le k pc AL AS else bif Nat.beq t 15 then wk_qic .eq k pc AL AS else none
def wk_t5 (t k d : Nat) (a : Int) (iv : wk_I) (nL pc : Nat) (AL : wk_L) (AS : List wk_V) : Option wk_P :=
  bif Nat.beq t 16 then wk_qic .ne k pc AL AS else bif Nat.beq t 17 then wk_qic .lt k pc AL AS else bif Nat.beq t 18 then wk_qic .ge k pc AL AS else bif Nat.beq t 19 then wk_qic .gt k pc AL AS else none
def wk_t6 (t k d : Nat) (a : Int) (iv : wk_I) (nL pc : Nat) (AL : wk_L) (AS : List wk_V) : Option wk_P :=
  bif Nat.beq t 20 then wk_qic .le k pc AL AS else bif Nat.beq t 21 then wk_qar (fun x y => x + y) pc AL AS else bif Nat.beq t 22 then wk_qar (fun x y => x - y) pc AL AS else bif Nat.beq t 23 then wk_qar (fun x y => x * y) pc AL AS else none
def wk_t7 (t k d : Nat) (a : Int) (iv : wk_I) (nL pc : Nat) (AL : wk_L) (AS : List wk_V) : Option wk_P :=
  bif Nat.beq t 24 then wk_qil pc AL AS else bif Nat.beq t 25 then wk_qlc iv pc AL AS else bif Nat.beq t 26 then wk_qdup pc AL AS else bif Nat.beq t 27 then wk_qdup2 pc AL AS else none
def wk_t8 (t k d : Nat) (a : Int) (iv : wk_I) (nL pc : Nat) (AL : wk_L) (AS : List wk_V) : Option wk_P :=
  bif Nat.beq t 28 then some (pc + d, AL, .inr (.inl (a, a)) :: AS) else none
def wk_u1 (t k d : Nat) (a : Int) (iv : wk_I) (nL pc : Nat) (AL : wk_L) (AS : List wk_V) : Option wk_P := bif Nat.blt t 4 then wk_t1 t k d a iv nL pc AL AS else wk_t2 t k d a iv nL pc AL AS
def wk_u2 (t k d : Nat) (a : Int) (iv : wk_I) (nL pc : Nat) (AL : wk_L) (AS : List wk_V) : Option wk_P := bif Nat.blt t 12 then wk_t3 t k d a iv nL pc AL AS else wk_t4 t k d a iv nL pc AL AS
def wk_u3 (t k d : Nat) (a : Int) (iv : wk_I) (nL pc : Nat) (AL : wk_L) (AS : List wk_V) : Option wk_P := bif Nat.blt t 20 then wk_t5 t k d a iv nL pc AL AS else wk_t6 t k d a iv nL pc AL AS
def wk_u4 (t k d : Nat) (a : Int) (iv : wk_I) (nL pc : Nat) (AL : wk_L) (AS : List wk_V) : Option wk_P := bif Nat.blt t 28 then wk_t7 t k d a iv nL pc AL AS else wk_t8 t k d a iv nL pc AL AS
def wk_v1 (t k d : Nat) (a : Int) (iv : wk_I) (nL pc : Nat) (AL : wk_L) (AS : List wk_V) : Option wk_P := bif Nat.blt t 8 then wk_u1 t k d a iv nL pc AL AS else wk_u2 t k d a iv nL pc AL AS
def wk_v2 (t k d : Nat) (a : Int) (iv : wk_I) (nL pc : Nat) (AL : wk_L) (AS : List wk_V) : Option wk_P := bif Nat.blt t 24 then wk_u3 t k d a iv nL pc AL AS else wk_u4 t k d a iv nL pc AL AS
def wk_fast (t k d : Nat) (a : Int) (iv : wk_I) (nL pc : Nat) (AL : wk_L) (AS : List wk_V) : Option wk_P := bif Nat.blt t 16 then wk_v1 t k d a iv nL pc AL AS else bif Nat.blt t 32 then wk_v2 t k d a iv nL pc AL AS else none
/-- the heap's short ways: tags 32 .. 39 -/
def wk_z1 (t Lz : Nat) (iv : wk_I) (x : Nat × Nat × Int) (AS : List wk_V) (AH : wk_A) : Option wk_H := match AS with
  | v :: AS => bif Nat.beq t 32 then wk_getf x v AS AH else bif Nat.beq t 33 then wk_aln Lz v AS AH else none
  | [] => none
def wk_z2 (t Lz : Nat) (iv : wk_I) (x : Nat × Nat × Int) (AS : List wk_V) (AH : wk_A) : Option wk_H := match AS with
  | w :: v :: AS => bif Nat.beq t 34 then wk_putf iv x w v AS AH else bif wk_gii w then (bif Nat.beq t 35 then wk_ild Lz iv w v AS AH else bif Nat.beq t 36 then wk_ald iv w v AS AH else none) else none
  | _ => none
def wk_z3 (t Lz : Nat) (iv : wk_I) (x : Nat × Nat × Int) (AS : List wk_V) (AH : wk_A) : Option wk_H := match AS with
  | w :: v :: a :: AS => bif wk_gii v then (bif Nat.beq t 37 then wk_ist iv w v a AS AH else none) else none
  | _ => none
def wk_hfast (t Lz : Nat) (iv : wk_I) (x : Nat × Nat × Int) (AS : List wk_V) (AH : wk_A) : Option wk_H := bif Nat.blt t 34 then wk_z1 t Lz iv x AS AH else bif Nat.blt t 37 then wk_z2 t Lz iv x AS AH else bif Nat.blt t 40 then wk_z3 t Lz iv x AS AH else none
abbrev wk_K : Type := Nat → List wk_V → wk_I → wk_A → Option (List wk_F)
/-- the cells written: one more, some more -/
def wk_mem : List Nat → Nat → Bool
  | [], _ => false
  | a :: l, n => bif Nat.beq a n then true else wk_mem l n
def wk_ins {β : Type} (wr : List Nat) (n : Nat) (k : List Nat → β) : β := bif wk_mem wr n then k wr else k (n :: wr)
def wk_adw {β : Type} (wr : List Nat) (w : Option (Nat × wk_C)) (k : List Nat → β) : β := match w with
  | some (n, _) => wk_ins wr n k
  | none => k wr
def wk_uni {β : Type} : List Nat → List Nat → (List Nat → β) → β
  | [], wr, k => k wr
  | a :: l, wr, k => wk_ins wr a (fun wr => wk_uni l wr k)
/-- cells made or written, then on -/
def wk_hgo (M : wk_M) (k : Nat → List wk_V → wk_A → Nat → Nat → List Nat → Option (List wk_F)) (pc : Nat) (AH : wk_A) (nc ns : Nat) (wr : List Nat) (r : wk_H) : Option (List wk_F) := match r with
  | (d, AS', w, nw, dc, ds) => bif Nat.ble (nc + dc) (wk_Mk M) && (Nat.ble (ns + ds) (wk_Ms M) && wk_room AH nw AH.1) then wk_wr AH w nw (fun AH' => wk_adw wr w fun wr' => wk_fN (pc + d) fun pc' => wk_fS AS' fun AS' => wk_fN (nc + dc) fun nc' => wk_fN (ns + ds) fun ns' => k pc' AS' AH' nc' ns' wr') else none
/-- a variable cut into pieces -/
def wk_cutv (go : wk_I → Option (List wk_F)) (iv : wk_I) (q : Nat × List (Int × Int)) : Option (List wk_F) := match wk_at iv q.1 with
  | some (lo, hi) => bif wk_cv lo hi q.2 then q.2.foldr (fun p acc => wk_app (wk_put iv q.1 p go) acc) (some []) else none
  | none => none
/-- a call -/
def wk_cgo (M : wk_M) (call : wk_K) (go : wk_I → Nat → List wk_V → wk_A → Nat → Nat → List Nat → Option (List wk_F)) (iv : wk_I) (pc id : Nat) (AH : wk_A) (nc ns : Nat) (wr : List Nat) (q : wk_M × List wk_V × List wk_V) : Option (List wk_F) :=
  bif Nat.ble (nc + wk_Mk q.1) (wk_Mk M) && Nat.ble (ns + wk_Ms q.1) (wk_Ms M) then match call id q.2.1 iv AH with
    | some fs => wk_fN (pc + 3) fun pc' => wk_fN (nc + wk_Mk q.1) fun nc' => wk_fN (ns + wk_Ms q.1) fun ns' => fs.foldr (fun f acc => wk_app (wk_uni f.2.2.2 wr fun wr' => go f.1 pc' (wk_st f.1 f.2.1 q.2.2) f.2.2.1 nc' ns' wr') acc) (some [])
    | none => none
  else none
abbrev wk_G : Type := wk_I → Nat → wk_L → List wk_V → wk_A → Nat → Nat → List Nat → Option (List wk_F)
/-- the long way of an instruction -/
def wk_slow (mt : Nat → Option wk_M) (Lz : Nat) (M : wk_M) (call : wk_K) (go : wk_G) (i : Instr) (x : Nat × Nat × Int) (iv : wk_I) (pc : Nat) (AL : wk_L) (AS : List wk_V) (AH : wk_A) (nc ns : Nat) (wr : List Nat) : Option (List wk_F) :=
  match wk_need iv i AS with
  | some q => wk_cutv (fun iv => go iv pc AL AS AH nc ns wr) iv q
  | none => match wk_ret iv M i AS with
    | some r => some [(iv, r, AH, wr)]
    | none => match wk_pure iv (wk_Ml M) i x.2.2 pc AL AS with
      | some (pc', AL', AS') => wk_fN pc' fun pc' => wk_fLs AL' fun AL' => wk_fA AL' fun AL' => wk_fS AS' fun AS' => go iv pc' AL' AS' AH nc ns wr
      | none => match wk_hp Lz iv i x AS AH with
        | some r => wk_hgo M (fun pc AS AH nc ns wr => go iv pc AL AS AH nc ns wr) pc AH nc ns wr r
        | none => match wk_call mt i x AS AH with
          | some q => wk_cgo M call (fun iv pc AS AH nc ns wr => go iv pc AL AS AH nc ns wr) iv pc x.2.1 AH nc ns wr q
          | none => match wk_undec iv i AS with
            | some q => wk_cutv (fun iv => go iv pc AL AS AH nc ns wr) iv q
            | none => none
/-- one instruction -/
def wk_one (mt : Nat → Option wk_M) (Lz : Nat) (M : wk_M) (call : wk_K) (go : wk_G) (row : wk_X) (iv : wk_I) (pc : Nat) (AL : wk_L) (AS : List wk_V) (AH : wk_A) (nc ns : Nat) (wr : List Nat) : Option (List wk_F) :=
  match row with
  | (_, i, n, x, _, t, a) => match wk_fast t (bif Nat.beq t 7 then x.1 else a.toNat) n a iv (wk_Ml M) pc AL AS with
    | some (pc', AL', AS') => wk_fN pc' fun pc' => wk_fS AS' fun AS' => go iv pc' AL' AS' AH nc ns wr
    | none => match wk_hfast t Lz iv x AS AH with
      | some r => wk_hgo M (fun pc AS AH nc ns wr => go iv pc AL AS AH nc ns wr) pc AH nc ns wr r
      | none => wk_slow mt Lz M call go i x iv pc AL AS AH nc ns wr
abbrev wk_Cu : Type := wk_I → Nat → wk_L → List wk_V → wk_A → Nat → Nat → List Nat → Bool
/-- the run of a method's body: cut says where it stops, call what a callee does -/
noncomputable def wk_go (mt : Nat → Option wk_M) (Lz : Nat) (M : wk_M) (cut : wk_Cu) (call : wk_K) (fuel : Nat) : wk_G :=
  Nat.rec (fun _ _ _ _ _ _ _ _ => none) (fun _ go iv pc AL AS AH nc ns wr =>
    bif cut iv pc AL AS AH nc ns wr then some [] else match wk_fetch M pc with
      | none => none
      | some row => wk_one mt Lz M call go row iv pc AL AS AH nc ns wr) fuel
def wk_args : Nat → List wk_V → wk_L
  | _, [] => []
  | i, v :: vs => (i, v) :: wk_args (if wk_c2 v then i + 2 else i + 1) vs
/-- a method from its entry, its calls to a depth -/
noncomputable def wk_run (mt : Nat → Option wk_M) (Lz fuel : Nat) (d : Nat) : wk_K :=
  Nat.rec (fun _ _ _ _ => none) (fun _ run id av iv AH => match mt id with
    | some M => bif Nat.ble (wk_cat av) (wk_Ml M) then wk_go mt Lz M (fun _ _ _ _ _ _ _ _ => false) run fuel iv 0 (wk_args 0 av) [] AH 0 0 [] else none
    | none => none) d
