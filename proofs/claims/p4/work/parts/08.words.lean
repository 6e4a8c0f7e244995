/-! ===== the words of a row of code ===== -/
def wk_nest : List Cond := lw_tbl.filter fun w => match w with
  | .methodLinkNest .. => true
  | _ => false
def wk_nst (n : Nat) (w : Cond) : Bool := decide (wk_nest[n]? = some w)
def wk_acn : MethodName := arraycopyName
/-- instructions that want no word -/
def wk_plain : Instr → Bool
  | .getfield _ | .putfield _ | .new _ | .newarray _ | .anewarray _ | .multianewarray _ _ | .ldc _ | .ldc_w _ | .ldc2_w _ | .invokevirtual _ | .invokestatic _ | .invokespecial _ => false
  | _ => true
def wk_okw (mt : Nat → Option wk_M) (y : MethodName) (i : Instr) (x : Nat × Nat × Int) (ws : List Nat) : Bool := match i, ws with
  | .getfield idx, [p] => match wk_fl[x.1]? with
    | some q => Nat.blt x.2.1 q.2.length && wk_has p (.fieldLink y.cls idx (wk_T q x.2.1).1 (wk_T q x.2.1).2.1 (wk_T q x.2.1).2.2.1)
    | none => false
  | .putfield idx, [p] => match wk_fl[x.1]? with
    | some q => Nat.blt x.2.1 q.2.length && (wk_has p (.fieldLink y.cls idx (wk_T q x.2.1).1 (wk_T q x.2.1).2.1 (wk_T q x.2.1).2.2.1) && ((!(wk_T q x.2.1).2.2.2 || (decide (y.name = "<init>") && decide ((wk_T q x.2.1).1 = y.cls))) && decide (((wk_fc[x.1]?).bind fun r => r[x.2.1]?) = some x.2.2.toNat)))
    | none => false
  | .new idx, [p1, p2, p3] => match wk_fl[x.1]? with
    | some q => wk_has p1 (.classLink y.cls idx q.1) && (wk_has p2 (.instantiable q.1 q.2.length) && wk_has p3 (.initialized q.1))
    | none => false
  | .newarray ty, [p] => wk_has p (.arrayClass (newarray.typeOf ty))
  | .anewarray idx, [p] => wk_has p (.classLink y.cls idx "EvenSides$Told")
  | .multianewarray idx _, [p1, p2] => wk_has p1 (.classLink y.cls idx ("[" ++ (FieldType.array .int).toString)) && wk_has p2 (.arrayClass .int)
  | .ldc idx, [p] => wk_has p (.constant y.cls idx (Int32.ofInt x.2.2))
  | .ldc_w idx, [p] => wk_has p (.constant y.cls idx (Int32.ofInt x.2.2))
  | .ldc2_w idx, [p] => wk_has p (.constantLong y.cls idx (Int64.ofInt x.2.2))
  | .invokevirtual idx, [p] => Nat.beq x.1 0 && match mt x.2.1 with
    | some M => wk_has p (.methodLink y.cls idx (wk_My M))
    | none => false
  | .invokestatic idx, [p] => match mt x.2.1 with
    | some M => (Nat.beq x.1 1 && wk_has p (.methodLink y.cls idx (wk_My M))) || (Nat.beq x.1 3 && wk_nst p (.methodLinkNest y.cls idx (wk_My M) "EvenSides"))
    | none => false
  | .invokestatic idx, [p1, p2, p3, p4] => match x.1 with
    | 5 => wk_has p1 (.methodLink y.cls idx wk_acn) && (wk_has p2 (.native wk_acn) && (wk_has p3 (.static wk_acn) && wk_has p4 (.initialized "java/lang/System")))
    | 6 => wk_has p1 (.methodLink y.cls idx Lib.Math.min.name) && (wk_has p2 (.code Lib.Math.min.name Lib.Math.min.code 2 (some .int)) && (wk_has p3 (.static Lib.Math.min.name) && wk_has p4 (.initialized "java/lang/Math")))
    | 7 => wk_has p1 (.methodLink y.cls idx Lib.Math.abs.name) && (wk_has p2 (.code Lib.Math.abs.name Lib.Math.abs.code 1 (some .int)) && (wk_has p3 (.static Lib.Math.abs.name) && wk_has p4 (.initialized "java/lang/Math")))
    | 8 => wk_has p1 (.methodLink y.cls idx Lib.Math.max.name) && (wk_has p2 (.code Lib.Math.max.name Lib.Math.max.code 2 (some .int)) && (wk_has p3 (.static Lib.Math.max.name) && wk_has p4 (.initialized "java/lang/Math")))
    | _ => false
  | .invokespecial idx, [p] => Nat.beq x.1 2 && match mt x.2.1 with
    | some M => wk_has p (.methodLink y.cls idx (wk_My M))
    | none => false
  | .invokespecial idx, [p1, p2, p3] => Nat.beq x.1 4 && (wk_has p1 (.methodLink y.cls idx Lib.objectInit) && (wk_has p2 (.instanceMethod Lib.objectInit) && wk_has p3 (.code Lib.objectInit ⟨#[0xb1]⟩ 1 none)))
  | i, [] => wk_plain i
  | _, _ => false
/-- what the tables say that the words in wk_tbl don't: it moves with the machine's tables -/
def wk_kk (D : va_G) (U : State) : Prop := va_K D wk_cl [] U ∧ (∀ (a : String) (i : Nat) (x : MethodName) (h : String), Cond.methodLinkNest a i x h ∈ wk_nest → va_Nw (.methodLinkNest a i x h) U) ∧ va_AO "EvenSides$Told" U ∧ (Cond.arrayOver (.array .int)).holds #[] U none U [] = true
theorem wk_kk_warm {D : va_G} {s U : State} (hW : s.WarmedH U.vm) (h : wk_kk D s) : wk_kk D U :=
  ⟨h.1.moved hW.alike, fun a i x hh q => (h.2.1 a i x hh q).warmM hW, h.2.2.1.moved hW.alike, Jvm.Stand.arrayOver_alikeB hW.alike h.2.2.2⟩
theorem wk_kk_same {D : va_G} {s U : State} (hv : s.vm = U.vm) (h : wk_kk D s) : wk_kk D U :=
  ⟨h.1.moved (by rw [← hv]; exact Vm.Alike.refl _), fun a i x hh q => (h.2.1 a i x hh q).same rfl hv, h.2.2.1.moved (by rw [← hv]; exact Vm.Alike.refl _), Jvm.Stand.arrayOver_alikeB (s := s) (by rw [← hv]; exact Vm.Alike.refl _) h.2.2.2⟩
/-! ===== the constants: texts, COMPACT_STRINGS, the formatter ===== -/
def wk_tx : List String := ["hard", "soft", "mule", "load", "door", "way", "lame", "ford", "ask", "drain", "stones", "hang", "take", "over", "swap", "stone", "drop", "go", "", "n", "nnn", "nhnn", "nnnn", "nn"]
def wk_sl : List Nat := [4, 4, 4, 4, 4, 3, 4, 4, 3, 5, 6, 4, 4, 4, 4, 5, 4, 2, 0, 1, 3, 4, 4, 2]
def wk_sb : List (List Int32) := [[104, 97, 114, 100], [115, 111, 102, 116], [109, 117, 108, 101], [108, 111, 97, 100], [100, 111, 111, 114], [119, 97, 121], [108, 97, 109, 101], [102, 111, 114, 100], [97, 115, 107], [100, 114, 97, 105, 110], [115, 116, 111, 110, 101, 115], [104, 97, 110, 103], [116, 97, 107, 101], [111, 118, 101, 114], [115, 119, 97, 112], [115, 116, 111, 110, 101], [100, 114, 111, 112], [103, 111], [], [110], [110, 110, 110], [110, 104, 110, 110], [110, 110, 110, 110], [110, 110]]
def wk_S (z : Nat → Nat) (A : Nat → Prop) (U : State) (H : Heap) : Prop :=
  vk_S 24 wk_sl wk_sb (fun i => z (i + 1)) (fun i => z (i + 101)) A U H ∧ (∀ i : Nat, i < 24 → vk_R "EvenSides$Reader" (97 + 2 * i) (wk_tx.getD i "") (z (i + 1)) U) ∧ va_Z "java/lang/String" "COMPACT_STRINGS" "Z" (.int 1) A U H ∧ (va_Z "jdk/internal/util/Preconditions" "SIOOBE_FORMATTER" "Ljava/util/function/BiFunction;" (.ref (z 200)) A U H ∨ va_Z "jdk/internal/util/Preconditions" "SIOOBE_FORMATTER" "Ljava/util/function/BiFunction;" .null A U H)
/-- the script and the constants -/
def wk_Xs (z : Nat → Nat) (Lz : Nat) (ρ : Nat → Int32) (A : Nat → Prop) (U : State) (H : Heap) : Prop := va_X (z 0) Lz ρ U H ∧ wk_S z A U H
theorem wk_Xs_warm {z : Nat → Nat} {Lz : Nat} {ρ : Nat → Int32} {A : Nat → Prop} {s U : State} {H : Heap} {locs : List Loc} (hW : s.WarmedH U.vm) (hS : va_S A s.heap H locs) (hz : z 0 < s.heap.size) (hzA : ¬ A (z 0)) (h : wk_Xs z Lz ρ A s s.heap) : wk_Xs z Lz ρ A U H :=
  ⟨(h.1.kept (hS.2.1 (z 0) hz hzA)).moved hW.alike, (h.2.1.kept hS.2.1).moved hW.alike, fun i hi => (h.2.2.1 i hi).warm hW, (h.2.2.2.1.kept hS.2.1).moved hW.alike, h.2.2.2.2.elim (fun q => Or.inl ((q.kept hS.2.1).moved hW.alike)) (fun q => Or.inr ((q.kept hS.2.1).moved hW.alike))⟩
theorem wk_Xs_same {z : Nat → Nat} {Lz : Nat} {ρ : Nat → Int32} {A : Nat → Prop} {s U : State} {H : Heap} (hv : U.vm = s.vm) (h : wk_Xs z Lz ρ A s H) : wk_Xs z Lz ρ A U H :=
  have ha : s.vm.Alike U.vm := by rw [hv]; exact Vm.Alike.refl _
  ⟨h.1.moved ha, h.2.1.moved ha, fun i hi => (h.2.2.1 i hi).same hv, h.2.2.2.1.moved ha, h.2.2.2.2.elim (fun q => Or.inl (q.moved ha)) (fun q => Or.inr (q.moved ha))⟩
