/-! ===== the words of a row of code ===== -/
def wk_nest : List Cond := lw_tbl.filter fun w => match w with
  | .methodLinkNest .. => true
  | _ => false
def wk_nst (n : Nat) (w : Cond) : Bool := decide (wk_nest[n]? = some w)
def wk_acn : MethodName := arraycopyName
/-- instructions that want no word -/
def wk_plain : Instr → Bool
  | .getfield _ | .putfield _ | .new _ | .newarray _ | .anewarray _ | .multianewarray _ _ | .ldc _ | .ldc_w _ | .ldc2_w _ | .invokevirtual _ | .invokestatic _ | .invokespecial _ => false
  | _ => true
def wk_okw (mt : Nat → Option wk_M) (y : MethodName) (i : Instr) (x : Nat × Nat × Int) (ws : List Nat) : Bool := match i, ws with
  | .getfield idx, [p] => match wk_fl[x.1]? with
    | some q => Nat.blt x.2.1 q.2.length && wk_has p (.fieldLink y.cls idx (wk_T q x.2.1).1 (wk_T q x.2.1).2.1 (wk_T q x.2.1).2.2.1)
    | none => false
  | .putfield idx, [p] => match wk_fl[x.1]? with
    | some q => Nat.blt x.2.1 q.2.length && (wk_has p (.fieldLink y.cls idx (wk_T q x.2.1).1 (wk_T q x.2.1).2.1 (wk_T q x.2.1).2.2.1) && ((!(wk_T q x.2.1).2.2.2 || (decide (y.name = "<init>") && decide ((wk_T q x.2.1).1 = y.cls))) && decide (((wk_fc[x.1]?).bind fun r => r[x.2.1]?) = some x.2.2.toNat)))
    | none => false
  | .new idx, [p1, p2, p3] => match wk_fl[x.1]? with
    | some q => wk_has p1 (.classLink y.cls idx q.1) && (wk_has p2 (.instantiable q.1 q.2.length) && wk_has p3 (.initialized q.1))
    | none => false
  | .newarray ty, [p] => wk_has p (.arrayClass (newarray.typeOf ty))
  | .anewarray idx, [p] => wk_has p (.classLink y.cls idx "EvenSides$Told")
  | .multianewarray idx _, [p1, p2] => wk_has p1 (.classLink y.cls idx ("[" ++ (FieldType.array .int).toString)) && wk_has p2 (.arrayClass .int)
  | .ldc idx, [p] => wk_has p (.constant y.cls idx (Int32.ofInt x.2.2))
  | .ldc_w idx, [p] => wk_has p (.constant y.cls idx (Int32.ofInt x.2.2))
  | .ldc2_w idx, [p] => wk_has p (.constantLong y.cls idx (Int64.ofInt x.2.2))
  | .invokevirtual idx, [p] => Nat.beq x.1 0 && match mt x.2.1 with
    | some M => wk_has p (.methodLink y.cls idx (wk_My M))
    | none => false
  | .invokestatic idx, [p] => match mt x.2.1 with
    | some M => (Nat.beq x.1 1 && wk_has p (.methodLink y.cls idx (wk_My M))) || (Nat.beq x.1 3 && wk_nst p (.methodLinkNest y.cls idx (wk_My M) "EvenSides"))
    | none => false
  | .invokestatic idx, [p1, p2, p3, p4] => match x.1 with
    | 5 => wk_has p1 (.methodLink y.cls idx wk_acn) && (wk_has p2 (.native wk_acn) && (wk_has p3 (.static wk_acn) && wk_has p4 (.initialized "java/lang/System")))
    | 6 => wk_has p1 (.methodLink y.cls idx Lib.Math.min.name) && (wk_has p2 (.code Lib.Math.min.name Lib.Math.min.code 2 (some .int)) && (wk_has p3 (.static Lib.Math.min.name) && wk_has p4 (.initialized "java/lang/Math")))
    | 7 => wk_has p1 (.methodLink y.cls idx Lib.Math.abs.name) && (wk_has p2 (.code Lib.Math.abs.name Lib.Math.abs.code 1 (some .int)) && (wk_has p3 (.static Lib.Math.abs.name) && wk_has p4 (.initialized "java/lang/Math")))
    | 8 => wk_has p1 (.methodLink y.cls idx Lib.Math.max.name) && (wk_has p2 (.code Lib.Math.max.name Lib.Math.max.code 2 (some .int)) && (wk_has p3 (.static Lib.Math.max.name) && wk_has p4 (.initialized "java/lang/Math")))
    | _ => false
  | .invokespecial idx, [p] => Nat.beq x.1 2 && match mt x.2.1 with
    | some M => wk_has p (.methodLink y.cls idx (wk_My M))
    | none => false
  | .invokespecial idx, [p1, p2, p3] => Nat.beq x.1 4 && (wk_has p1 (.methodLink y.cls idx Lib.objectInit) && (wk_has p2 (.instanceMethod Lib.objectInit) && wk_has p3 (.code Lib.objectInit ⟨#[0xb1]⟩ 1 none)))
  | i, [] => wk_plain i
  | _, _ => false
/-- what the tables say that the words in wk_tbl don't: it moves with the machine's tables -/
def wk_kk (D : va_G) (U : State) : Prop := va_K D wk_cl [] U ∧ (∀ (a : String) (i : Nat) (x : MethodName) (h : String), Cond.methodLinkNest a i x h ∈ wk_nest → va_Nw (.methodLinkNest a i x h) U) ∧ va_AO "EvenSides$Told" U ∧ (Cond.arrayOver (.array .int)).holds #[] U none U [] = true
theorem wk_kk_warm {D : va_G} {s U : State} (hW : s.WarmedH U.vm) (h : wk_kk D s) : wk_kk D U :=
  ⟨h.1.moved hW.alike, fun a i x hh q => (h.2.1 a i x hh q).warmM hW, h.2.2.1.moved hW.alike, Jvm.Stand.arrayOver_alikeB hW.alike h.2.2.2⟩
theorem wk_kk_same {D : va_G} {s U : State} (hv : s.vm = U.vm) (h : wk_kk D s) : wk_kk D U :=
  ⟨h.1.moved (by rw [← hv]; exact Vm.Alike.refl _), fun a i x hh q => (h.2.1 a i x hh q).same rfl hv, h.2.2.1.moved (by rw [← hv]; exact Vm.Alike.refl _), Jvm.Stand.arrayOver_alikeB (s := s) (by rw [← hv]; exact Vm.Alike.refl _) h.2.2.2⟩
