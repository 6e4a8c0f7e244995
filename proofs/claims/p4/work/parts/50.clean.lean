/-! ===== THE CLEAN LOGIC: states of plain numbers, a step a rule ===== -/
theorem wk_met_mono {l : Launch} {y : MethodName} {ws : List Cond} {rm : Room} {P P' : Array Value → State → Prop} {Q Q' : Array Value → State → Outcome → State → Prop} {mc ms : Nat} {free : Addr → Prop} (h : Met l y ws rm P Q mc ms free) (hP : ∀ a s, P' a s → P a s) (hQ : ∀ a (s : State) o (t : State), P' a s → s.WarmedH t.vm → Q a s o t → Q' a s o t) : Met l y ws rm P' Q' mc ms free := by
  intro p e ha hc hk s m args below hf happ hp hK
  obtain ⟨n, o, h1, h2, h3, h4, h5⟩ := h p e ha hc hk s m args below hf happ (hP _ _ hp) hK
  obtain ⟨L, ⟨g1, g2, g3⟩, g4⟩ := h5
  exact ⟨n, o, h1, h2, h3, hQ _ _ _ _ hp g2 h4, L, ⟨g1, g2, g3⟩, g4⟩
/-- a value: an int, a long, a reference (null, or a cell's number), the script -/
abbrev kc_V : Type := Int32 ⊕ (Int64 ⊕ (Option Nat ⊕ Nat))
abbrev kc_L : Type := List (Nat × kc_V)
/-- a heap: by cell and place -/
abbrev kc_H : Type := Nat → Nat → kc_V
def kc_e (v : kc_V) : wk_V := match v with
  | .inl a => .inl (a.toInt, a.toInt)
  | .inr (.inl b) => .inr (.inl (b.toInt, b.toInt))
  | .inr (.inr (.inl r)) => .inr (.inr (.inl r))
  | .inr (.inr (.inr i)) => .inr (.inr (.inr (i + 2, i)))
def kc_el (AL : kc_L) : wk_L := AL.map fun q => (q.1, kc_e q.2)
theorem kc_rho {as : List Nat} {z : Nat → Nat} {ρ ρ' : Nat → Int32} {v : kc_V} {x : Value} (h : wk_r as z ρ (kc_e v) x) : wk_r as z ρ' (kc_e v) x := by
  rcases v with a | b | (_ | r) | i
  · obtain ⟨i, h1, h2, h3⟩ := h
    exact ⟨i, h1, h2, h3⟩
  · obtain ⟨i, h1, h2, h3⟩ := h
    exact ⟨i, h1, h2, h3⟩
  · have h : x = .null := h
    exact h
  · obtain ⟨a, h1, h2⟩ := h
    exact ⟨a, h1, h2⟩
  · rcases i with _ | i
    · have h : x = .ref (z 0) := h
      exact h
    · have h : x = .ref (z (i + 1)) := h
      exact h
theorem kc_rhoS {as : List Nat} {z : Nat → Nat} {ρ ρ' : Nat → Int32} : ∀ {l : List kc_V} {m : List Value}, wk_f2 (wk_r as z ρ) (l.map kc_e) m → wk_f2 (wk_r as z ρ') (l.map kc_e) m
  | [], [], _ => trivial
  | [], _ :: _, h => h.elim
  | _ :: _, [], h => h.elim
  | _ :: _, _ :: _, h => ⟨kc_rho h.1, kc_rhoS h.2⟩
theorem kc_rhoL {as : List Nat} {z : Nat → Nat} {ρ ρ' : Nat → Int32} : ∀ {l : kc_L} {m : List (Nat × Value)}, wk_f2 (wk_rl as z ρ) (kc_el l) m → wk_f2 (wk_rl as z ρ') (kc_el l) m
  | [], [], _ => trivial
  | [], _ :: _, h => h.elim
  | _ :: _, [], h => h.elim
  | _ :: _, _ :: _, h => ⟨⟨h.1.1, kc_rho h.1.2⟩, kc_rhoL h.2⟩
/-- locals -/
def kc_get : kc_L → Nat → Option kc_V
  | [], _ => none
  | (j, v) :: l, i => if Nat.beq j i then some v else kc_get l i
theorem kc_get_e : ∀ (AL : kc_L) (i : Nat), wk_get (kc_el AL) i = (kc_get AL i).map kc_e
  | [], _ => rfl
  | (j, v) :: l, i => by
    show (if Nat.beq j i then some (kc_e v) else wk_get (kc_el l) i) = (if Nat.beq j i then some v else kc_get l i).map kc_e
    cases Nat.beq j i
    · exact kc_get_e l i
    · rfl
def kc_c2 (v : kc_V) : Bool := match v with
  | .inr (.inl _) => true
  | _ => false
theorem kc_c2_e (v : kc_V) : wk_c2 (kc_e v) = kc_c2 v := by
  rcases v with a | b | r | i <;> rfl
def kc_st1 (AL : kc_L) (i : Nat) (v : kc_V) : kc_L := (i, v) :: AL.filter (fun q => !(q.1 == i) && !(q.1 + 1 == i && kc_c2 q.2))
def kc_st2 (AL : kc_L) (i : Nat) (v : kc_V) : kc_L := (i, v) :: AL.filter (fun q => !(q.1 == i) && (!(q.1 == i + 1) && !(q.1 + 1 == i && kc_c2 q.2)))
theorem kc_fil (f : Nat × wk_V → Bool) (g : Nat × kc_V → Bool) (h : ∀ q, f (q.1, kc_e q.2) = g q) : ∀ AL : kc_L, (kc_el AL).filter f = kc_el (AL.filter g)
  | [] => rfl
  | q :: l => by
    show ((q.1, kc_e q.2) :: kc_el l).filter f = _
    cases hg : g q with
    | true =>
      rw [List.filter_cons_of_pos (by rw [h, hg]), List.filter_cons_of_pos (by rw [hg]), kc_fil f g h l]
      rfl
    | false =>
      rw [List.filter_cons_of_neg (by rw [h, hg]; decide), List.filter_cons_of_neg (by rw [hg]; decide), kc_fil f g h l]
theorem kc_st1_e (AL : kc_L) (i : Nat) (v : kc_V) : wk_st1 (kc_el AL) i (kc_e v) = kc_el (kc_st1 AL i v) := by
  unfold wk_st1 kc_st1
  rw [kc_fil _ _ (fun q => by rw [kc_c2_e])]
  rfl
theorem kc_st2_e (AL : kc_L) (i : Nat) (v : kc_V) : wk_st2 (kc_el AL) i (kc_e v) = kc_el (kc_st2 AL i v) := by
  unfold wk_st2 kc_st2
  rw [kc_fil _ _ (fun q => by rw [kc_c2_e])]
  rfl
/-- comparisons -/
def kc_cnd (c : ClassFile.Cond) (a b : Int) : Bool := match c with
  | .eq => decide (a = b)
  | .ne => !decide (a = b)
  | .lt => decide (a < b)
  | .ge => !decide (a < b)
  | .gt => decide (b < a)
  | .le => !decide (b < a)
theorem kc_cnd_e (c : ClassFile.Cond) (a b : Int) : wk_cnd c (a, a) (b, b) = some (kc_cnd c a b) := by
  have heq : wk_eq (a, a) (b, b) = some (decide (a = b)) := by
    unfold wk_eq
    by_cases h : a = b
    · subst h; simp
    · simp [h]; omega
  have hlt : ∀ a b : Int, wk_lt (a, a) (b, b) = some (decide (a < b)) := by
    intro a b
    unfold wk_lt
    by_cases h : a < b
    · simp [h]
    · have h2 : b ≤ a := by omega
      simp [h, h2]
  cases c <;> simp [wk_cnd, kc_cnd, heq, hlt]
def kc_lcmp (a b : Int64) : Int32 := if b.toInt < a.toInt then 1 else if a.toInt < b.toInt then -1 else 0
abbrev kc_P : Type := Nat × kc_L × List kc_V
def kc_o2 (F : Int32 → Int32 → Int32) (pc : Nat) (AL : kc_L) (AS : List kc_V) : Option kc_P := match AS with
  | .inl b :: .inl a :: AS => some (pc + 1, AL, .inl (F a b) :: AS)
  | _ => none
def kc_o2j (F : Int64 → Int64 → Int64) (pc : Nat) (AL : kc_L) (AS : List kc_V) : Option kc_P := match AS with
  | .inr (.inl b) :: .inr (.inl a) :: AS => some (pc + 1, AL, .inr (.inl (F a b)) :: AS)
  | _ => none
def kc_o2s (F : Int64 → Int32 → Int64) (pc : Nat) (AL : kc_L) (AS : List kc_V) : Option kc_P := match AS with
  | .inl b :: .inr (.inl a) :: AS => some (pc + 1, AL, .inr (.inl (F a b)) :: AS)
  | _ => none
def kc_d2 (F : Int32 → Int32 → Int32) (pc : Nat) (AL : kc_L) (AS : List kc_V) : Option kc_P := match AS with
  | .inl b :: .inl a :: AS => if b = 0 then none else some (pc + 1, AL, .inl (F a b) :: AS)
  | _ => none
def kc_d2j (F : Int64 → Int64 → Int64) (pc : Nat) (AL : kc_L) (AS : List kc_V) : Option kc_P := match AS with
  | .inr (.inl b) :: .inr (.inl a) :: AS => if b = 0 then none else some (pc + 1, AL, .inr (.inl (F a b)) :: AS)
  | _ => none
def kc_ldi (k d pc : Nat) (AL : kc_L) (AS : List kc_V) : Option kc_P := match kc_get AL k with
  | some (.inl a) => some (pc + d, AL, .inl a :: AS)
  | _ => none
def kc_ldj (k d pc : Nat) (AL : kc_L) (AS : List kc_V) : Option kc_P := match kc_get AL k with
  | some (.inr (.inl a)) => some (pc + d, AL, .inr (.inl a) :: AS)
  | _ => none
def kc_lda (k d pc : Nat) (AL : kc_L) (AS : List kc_V) : Option kc_P := match kc_get AL k with
  | some (.inr (.inr (.inl (some r)))) => some (pc + d, AL, .inr (.inr (.inl (some r))) :: AS)
  | some (.inr (.inr (.inr i))) => some (pc + d, AL, .inr (.inr (.inr i)) :: AS)
  | _ => none
def kc_sti (k d pc nL : Nat) (AL : kc_L) (AS : List kc_V) : Option kc_P := match AS with
  | .inl a :: AS => if k < nL then some (pc + d, kc_st1 AL k (.inl a), AS) else none
  | _ => none
def kc_stj (k d pc nL : Nat) (AL : kc_L) (AS : List kc_V) : Option kc_P := match AS with
  | .inr (.inl a) :: AS => if k + 1 < nL then some (pc + d, kc_st2 AL k (.inr (.inl a)), AS) else none
  | _ => none
def kc_sta (k d pc nL : Nat) (AL : kc_L) (AS : List kc_V) : Option kc_P := match AS with
  | .inr (.inr (.inl (some r))) :: AS => if k < nL then some (pc + d, kc_st1 AL k (.inr (.inr (.inl (some r)))), AS) else none
  | .inr (.inr (.inr i)) :: AS => if k < nL then some (pc + d, kc_st1 AL k (.inr (.inr (.inr i))), AS) else none
  | _ => none
def kc_bra (c : ClassFile.Cond) (off : Int) (pc : Nat) (AL : kc_L) (AS : List kc_V) (a b : Int) : Option kc_P := match wk_to pc off with
  | some t => some (if kc_cnd c a b then t else pc + 3, AL, AS)
  | none => none
/-- the instructions that leave the heap alone -/
def kc_pure (nL : Nat) (i : Instr) (x : Int) (pc : Nat) (AL : kc_L) (AS : List kc_V) : Option kc_P :=
  match i with
  | .iconst n => some (pc + 1, AL, .inl (Int32.ofInt n) :: AS)
  | .bipush n => some (pc + 2, AL, .inl (Int8.ofInt n).toInt32 :: AS)
  | .sipush n => some (pc + 3, AL, .inl (Int16.ofInt n).toInt32 :: AS)
  | .lconst n => some (pc + 1, AL, .inr (.inl (Int64.ofNat n.val)) :: AS)
  | .ldc _ => some (pc + 2, AL, .inl (Int32.ofInt x) :: AS)
  | .ldc_w _ => some (pc + 3, AL, .inl (Int32.ofInt x) :: AS)
  | .ldc2_w _ => some (pc + 3, AL, .inr (.inl (Int64.ofInt x)) :: AS)
  | .iload_n k => kc_ldi k.val 1 pc AL AS
  | .iload k => kc_ldi k 2 pc AL AS
  | .lload_n k => kc_ldj k.val 1 pc AL AS
  | .lload k => kc_ldj k 2 pc AL AS
  | .aload_n k => kc_lda k.val 1 pc AL AS
  | .aload k => kc_lda k 2 pc AL AS
  | .istore_n k => kc_sti k.val 1 pc nL AL AS
  | .istore k => kc_sti k 2 pc nL AL AS
  | .lstore_n k => kc_stj k.val 1 pc nL AL AS
  | .lstore k => kc_stj k 2 pc nL AL AS
  | .astore_n k => kc_sta k.val 1 pc nL AL AS
  | .astore k => kc_sta k 2 pc nL AL AS
  | .iinc k n => match kc_get AL k with
    | some (.inl a) => if k < nL then some (pc + 3, kc_st1 AL k (.inl (a + Int32.ofInt n)), AS) else none
    | _ => none
  | .goto off => match wk_to pc off with
    | some t => some (t, AL, AS)
    | none => none
  | .ifCond c off => match AS with
    | .inl a :: AS => kc_bra c off pc AL AS a.toInt 0
    | _ => none
  | .if_icmp c off => match AS with
    | .inl b :: .inl a :: AS => kc_bra c off pc AL AS a.toInt b.toInt
    | _ => none
  | .iadd => kc_o2 (fun a b => a + b) pc AL AS
  | .isub => kc_o2 (fun a b => a - b) pc AL AS
  | .imul => kc_o2 (fun a b => a * b) pc AL AS
  | .iand => kc_o2 (fun a b => a &&& b) pc AL AS
  | .ior => kc_o2 (fun a b => a ||| b) pc AL AS
  | .ixor => kc_o2 (fun a b => a ^^^ b) pc AL AS
  | .ishl => kc_o2 (fun a b => a <<< (b &&& 31)) pc AL AS
  | .ishr => kc_o2 (fun a b => a >>> (b &&& 31)) pc AL AS
  | .idiv => kc_d2 (fun a b => a / b) pc AL AS
  | .irem => kc_d2 (fun a b => a - a / b * b) pc AL AS
  | .ladd => kc_o2j (fun a b => a + b) pc AL AS
  | .lsub => kc_o2j (fun a b => a - b) pc AL AS
  | .lmul => kc_o2j (fun a b => a * b) pc AL AS
  | .land => kc_o2j (fun a b => a &&& b) pc AL AS
  | .lor => kc_o2j (fun a b => a ||| b) pc AL AS
  | .ldiv => kc_d2j (fun a b => a / b) pc AL AS
  | .lrem => kc_d2j (fun a b => a - a / b * b) pc AL AS
  | .lshl => kc_o2s (fun a b => a <<< (b.toInt64 &&& 63)) pc AL AS
  | .lshr => kc_o2s (fun a b => a >>> (b.toInt64 &&& 63)) pc AL AS
  | .lushr => kc_o2s (fun a b => (a.toUInt64 >>> (b.toInt64.toUInt64 &&& Int64.toUInt64 63)).toInt64) pc AL AS
  | .lcmp => match AS with
    | .inr (.inl b) :: .inr (.inl a) :: AS => some (pc + 1, AL, .inl (kc_lcmp a b) :: AS)
    | _ => none
  | .ineg => match AS with
    | .inl a :: AS => some (pc + 1, AL, .inl (-a) :: AS)
    | _ => none
  | .i2l => match AS with
    | .inl a :: AS => some (pc + 1, AL, .inr (.inl a.toInt64) :: AS)
    | _ => none
  | .l2i => match AS with
    | .inr (.inl a) :: AS => some (pc + 1, AL, .inl a.toInt32 :: AS)
    | _ => none
  | .dup => match AS with
    | v :: AS => if wk_c1 (kc_e v) then some (pc + 1, AL, v :: v :: AS) else none
    | _ => none
  | .dup_x1 => match AS with
    | v :: w :: AS => if wk_c1 (kc_e v) ∧ wk_c1 (kc_e w) then some (pc + 1, AL, v :: w :: v :: AS) else none
    | _ => none
  | .dup2 => match AS with
    | v :: w :: AS => if wk_c1 (kc_e v) ∧ wk_c1 (kc_e w) then some (pc + 1, AL, v :: w :: v :: w :: AS) else none
    | _ => none
  | .pop => match AS with
    | v :: AS => if wk_c1 (kc_e v) then some (pc + 1, AL, AS) else none
    | _ => none
  | .tableswitch d lo hi offs => match AS with
    | .inl a :: AS => if a.toInt < lo ∨ hi < a.toInt then (wk_to pc d).map fun t => (t, AL, AS) else (offs[(a.toInt - lo).toNat]?.bind fun o => wk_to pc o).map fun t => (t, AL, AS)
    | _ => none
  | _ => none
def kc_eP (P : kc_P) : wk_P := (P.1, kc_el P.2.1, P.2.2.map kc_e)
theorem kc_o2_e {F : Int32 → Int32 → Int32} {pc : Nat} {AL : kc_L} {AS : List kc_V} {P : kc_P} (h : kc_o2 F pc AL AS = some P) : ∃ a b AS', AS = .inl b :: .inl a :: AS' ∧ (wk_o2 [] F (kc_e (.inl a)) (kc_e (.inl b))).map (fun x => ((pc + 1, kc_el AL, x :: AS'.map kc_e) : wk_P)) = some (kc_eP P) := by
  unfold kc_o2 at h
  split at h
  · cases h
    rename_i b a AS'
    refine ⟨a, b, AS', rfl, ?_⟩
    simp [wk_o2, wk_gi, kc_e, kc_eP, wk_sI, Int32.ofInt_toInt]
  · cases h
theorem kc_o2j_e {F : Int64 → Int64 → Int64} {pc : Nat} {AL : kc_L} {AS : List kc_V} {P : kc_P} (h : kc_o2j F pc AL AS = some P) : ∃ a b AS', AS = .inr (.inl b) :: .inr (.inl a) :: AS' ∧ (wk_o2j [] F (kc_e (.inr (.inl a))) (kc_e (.inr (.inl b)))).map (fun x => ((pc + 1, kc_el AL, x :: AS'.map kc_e) : wk_P)) = some (kc_eP P) := by
  unfold kc_o2j at h
  split at h
  · cases h
    rename_i b a AS'
    refine ⟨a, b, AS', rfl, ?_⟩
    simp [wk_o2j, wk_gj, kc_e, kc_eP, wk_sJ, Int64.ofInt_toInt]
  · cases h
theorem kc_o2s_e {F : Int64 → Int32 → Int64} {pc : Nat} {AL : kc_L} {AS : List kc_V} {P : kc_P} (h : kc_o2s F pc AL AS = some P) : ∃ a b AS', AS = .inl b :: .inr (.inl a) :: AS' ∧ (wk_o2s [] F (kc_e (.inr (.inl a))) (kc_e (.inl b))).map (fun x => ((pc + 1, kc_el AL, x :: AS'.map kc_e) : wk_P)) = some (kc_eP P) := by
  unfold kc_o2s at h
  split at h
  · cases h
    rename_i b a AS'
    refine ⟨a, b, AS', rfl, ?_⟩
    simp [wk_o2s, wk_gj, wk_gi, kc_e, kc_eP, wk_sJ, Int64.ofInt_toInt, Int32.ofInt_toInt]
  · cases h
theorem kc_d2_e {F : Int32 → Int32 → Int32} {pc : Nat} {AL : kc_L} {AS : List kc_V} {P : kc_P} (h : kc_d2 F pc AL AS = some P) : ∃ a b AS', AS = .inl b :: .inl a :: AS' ∧ (wk_d2 [] F (kc_e (.inl a)) (kc_e (.inl b))).map (fun x => ((pc + 1, kc_el AL, x :: AS'.map kc_e) : wk_P)) = some (kc_eP P) := by
  unfold kc_d2 at h
  split at h
  · split at h
    · cases h
    · cases h
      rename_i b a AS' hb
      refine ⟨a, b, AS', rfl, ?_⟩
      simp [wk_d2, wk_gi, kc_e, kc_eP, wk_sI, Int32.ofInt_toInt, hb]
  · cases h
theorem kc_d2j_e {F : Int64 → Int64 → Int64} {pc : Nat} {AL : kc_L} {AS : List kc_V} {P : kc_P} (h : kc_d2j F pc AL AS = some P) : ∃ a b AS', AS = .inr (.inl b) :: .inr (.inl a) :: AS' ∧ (wk_d2j [] F (kc_e (.inr (.inl a))) (kc_e (.inr (.inl b)))).map (fun x => ((pc + 1, kc_el AL, x :: AS'.map kc_e) : wk_P)) = some (kc_eP P) := by
  unfold kc_d2j at h
  split at h
  · split at h
    · cases h
    · cases h
      rename_i b a AS' hb
      refine ⟨a, b, AS', rfl, ?_⟩
      simp [wk_d2j, wk_gj, kc_e, kc_eP, wk_sJ, Int64.ofInt_toInt, hb]
  · cases h
theorem kc_ldi_e {k d pc : Nat} {AL : kc_L} {AS : List kc_V} {P : kc_P} (h : kc_ldi k d pc AL AS = some P) : ((wk_get (kc_el AL) k).bind fun v => if (wk_gi [] v).isSome then some ((pc + d, kc_el AL, v :: AS.map kc_e) : wk_P) else none) = some (kc_eP P) := by
  unfold kc_ldi at h
  rw [kc_get_e]
  split at h
  · rename_i a hg
    cases h
    rw [hg]
    rfl
  · cases h
theorem kc_ldj_e {k d pc : Nat} {AL : kc_L} {AS : List kc_V} {P : kc_P} (h : kc_ldj k d pc AL AS = some P) : ((wk_get (kc_el AL) k).bind fun v => if (wk_gj [] v).isSome then some ((pc + d, kc_el AL, v :: AS.map kc_e) : wk_P) else none) = some (kc_eP P) := by
  unfold kc_ldj at h
  rw [kc_get_e]
  split at h
  · rename_i a hg
    cases h
    rw [hg]
    rfl
  · cases h
theorem kc_lda_e {k d pc : Nat} {AL : kc_L} {AS : List kc_V} {P : kc_P} (h : kc_lda k d pc AL AS = some P) : ((wk_get (kc_el AL) k).bind fun v => if wk_isr v then some ((pc + d, kc_el AL, v :: AS.map kc_e) : wk_P) else none) = some (kc_eP P) := by
  unfold kc_lda at h
  rw [kc_get_e]
  split at h
  · rename_i a hg
    cases h
    rw [hg]
    rfl
  · rename_i hg
    cases h
    rw [hg]
    rfl
  · cases h
theorem kc_sti_e {k d pc nL : Nat} {AL : kc_L} {AS : List kc_V} {P : kc_P} (h : kc_sti k d pc nL AL AS = some P) : ∃ v AS', AS = v :: AS' ∧ (if (wk_gi [] (kc_e v)).isSome ∧ k < nL then some ((pc + d, wk_st1 (kc_el AL) k (kc_e v), AS'.map kc_e) : wk_P) else none) = some (kc_eP P) := by
  unfold kc_sti at h
  split at h
  · rename_i a AS'
    split at h
    · cases h
      rename_i hk
      refine ⟨_, AS', rfl, ?_⟩
      rw [if_pos ⟨rfl, hk⟩, kc_st1_e]
      rfl
    · cases h
  · cases h
theorem kc_stj_e {k d pc nL : Nat} {AL : kc_L} {AS : List kc_V} {P : kc_P} (h : kc_stj k d pc nL AL AS = some P) : ∃ v AS', AS = v :: AS' ∧ (if (wk_gj [] (kc_e v)).isSome ∧ k + 1 < nL then some ((pc + d, wk_st2 (kc_el AL) k (kc_e v), AS'.map kc_e) : wk_P) else none) = some (kc_eP P) := by
  unfold kc_stj at h
  split at h
  · rename_i a AS'
    split at h
    · cases h
      rename_i hk
      refine ⟨_, AS', rfl, ?_⟩
      rw [if_pos ⟨rfl, hk⟩, kc_st2_e]
      rfl
    · cases h
  · cases h
theorem kc_sta_e {k d pc nL : Nat} {AL : kc_L} {AS : List kc_V} {P : kc_P} (h : kc_sta k d pc nL AL AS = some P) : ∃ v AS', AS = v :: AS' ∧ (if wk_isr (kc_e v) ∧ k < nL then some ((pc + d, wk_st1 (kc_el AL) k (kc_e v), AS'.map kc_e) : wk_P) else none) = some (kc_eP P) := by
  unfold kc_sta at h
  split at h
  · rename_i a AS'
    split at h
    · cases h
      rename_i hk
      refine ⟨_, AS', rfl, ?_⟩
      rw [if_pos ⟨rfl, hk⟩, kc_st1_e]
      rfl
    · cases h
  · rename_i AS'
    split at h
    · cases h
      rename_i hk
      refine ⟨_, AS', rfl, ?_⟩
      rw [if_pos ⟨rfl, hk⟩, kc_st1_e]
      rfl
    · cases h
  · cases h
theorem kc_bra_e {c : ClassFile.Cond} {off : Int} {pc : Nat} {AL : kc_L} {AS : List kc_V} {a b : Int} {P : kc_P} (h : kc_bra c off pc AL AS a b = some P) : (wk_br c pc off (some (a, a)) (some (b, b))).map (fun t => ((t, kc_el AL, AS.map kc_e) : wk_P)) = some (kc_eP P) := by
  unfold kc_bra at h
  unfold wk_br
  split at h
  · rename_i t ht
    cases h
    rw [ht]
    simp only [kc_cnd_e, Option.map_some]
    rfl
  · cases h
set_option maxHeartbeats 4000000 in
theorem kc_pure_e {nL : Nat} {i : Instr} {x : Int} {pc : Nat} {AL : kc_L} {AS : List kc_V} {P : kc_P} (h : kc_pure nL i x pc AL AS = some P) : wk_pure [] nL i x pc (kc_el AL) (AS.map kc_e) = some (kc_eP P) := by
  cases i with
  | iconst k => cases h; rfl
  | bipush k => cases h; rfl
  | sipush k => cases h; rfl
  | lconst k => cases h; rfl
  | ldc k => cases h; rfl
  | ldc_w k => cases h; rfl
  | ldc2_w k => cases h; rfl
  | iload_n k => exact kc_ldi_e h
  | iload k => exact kc_ldi_e h
  | lload_n k => exact kc_ldj_e h
  | lload k => exact kc_ldj_e h
  | aload_n k => exact kc_lda_e h
  | aload k => exact kc_lda_e h
  | istore_n k => obtain ⟨v, AS', rfl, hh⟩ := kc_sti_e h; exact hh
  | istore k => obtain ⟨v, AS', rfl, hh⟩ := kc_sti_e h; exact hh
  | lstore_n k => obtain ⟨v, AS', rfl, hh⟩ := kc_stj_e h; exact hh
  | lstore k => obtain ⟨v, AS', rfl, hh⟩ := kc_stj_e h; exact hh
  | astore_n k => obtain ⟨v, AS', rfl, hh⟩ := kc_sta_e h; exact hh
  | astore k => obtain ⟨v, AS', rfl, hh⟩ := kc_sta_e h; exact hh
  | iinc k n =>
    have h : (match kc_get AL k with
      | some (.inl a) => if k < nL then some (pc + 3, kc_st1 AL k (.inl (a + Int32.ofInt n)), AS) else none
      | _ => none) = some P := h
    show ((wk_get (kc_el AL) k).bind fun v => (wk_o2 [] (fun a b => a + b) v (wk_sI (Int32.ofInt n))).bind fun w => if k < nL then some ((pc + 3, wk_st1 (kc_el AL) k w, AS.map kc_e) : wk_P) else none) = some (kc_eP P)
    rw [kc_get_e]
    split at h
    · rename_i a hg
      split at h
      · rename_i hk
        cases h
        rw [hg]
        simp only [Option.map_some, Option.bind_some]
        have e : wk_o2 [] (fun a b => a + b) (kc_e (.inl a)) (wk_sI (Int32.ofInt n)) = some (kc_e (.inl (a + Int32.ofInt n))) := by
          simp [wk_o2, wk_gi, kc_e, wk_sI, Int32.ofInt_toInt]
        rw [e]
        simp only [Option.bind_some]
        rw [if_pos hk, kc_st1_e]
        rfl
      · cases h
    · cases h
  | goto off =>
    have h : (match wk_to pc off with
      | some t => some (t, AL, AS)
      | none => none) = some P := h
    show ((wk_to pc off).map fun t => ((t, kc_el AL, AS.map kc_e) : wk_P)) = some (kc_eP P)
    split at h
    · rename_i t ht
      cases h
      rw [ht]
      rfl
    · cases h
  | ifCond c off =>
    rcases AS with _ | ⟨a | b | r | q, AS⟩
    · cases h
    · exact kc_bra_e h
    · cases h
    · cases h
    · cases h
  | if_icmp c off =>
    rcases AS with _ | ⟨b | b | r | q, _ | ⟨a | a | r2 | q2, AS⟩⟩
    · cases h
    · cases h
    · exact kc_bra_e h
    all_goals cases h
  | iadd => obtain ⟨a, b, AS', rfl, hh⟩ := kc_o2_e (F := fun a b => a + b) h; exact hh
  | isub => obtain ⟨a, b, AS', rfl, hh⟩ := kc_o2_e (F := fun a b => a - b) h; exact hh
  | imul => obtain ⟨a, b, AS', rfl, hh⟩ := kc_o2_e (F := fun a b => a * b) h; exact hh
  | iand =>
    obtain ⟨a, b, AS', rfl, hh⟩ := kc_o2_e (F := fun a b => a &&& b) h
    show (wk_an [] (kc_e (.inl b)) (kc_e (.inl a))).map (fun x => ((pc + 1, kc_el AL, x :: AS'.map kc_e) : wk_P)) = _
    have e : wk_an [] (kc_e (.inl b)) (kc_e (.inl a)) = wk_o2 [] (fun a b => a &&& b) (kc_e (.inl a)) (kc_e (.inl b)) := by
      unfold wk_an
      split
      · rename_i h1 h2
        cases h2
      · rfl
    rw [e]
    exact hh
  | ior => obtain ⟨a, b, AS', rfl, hh⟩ := kc_o2_e (F := fun a b => a ||| b) h; exact hh
  | ixor => obtain ⟨a, b, AS', rfl, hh⟩ := kc_o2_e (F := fun a b => a ^^^ b) h; exact hh
  | ishl => obtain ⟨a, b, AS', rfl, hh⟩ := kc_o2_e (F := fun a b => a <<< (b &&& 31)) h; exact hh
  | ishr => obtain ⟨a, b, AS', rfl, hh⟩ := kc_o2_e (F := fun a b => a >>> (b &&& 31)) h; exact hh
  | idiv => obtain ⟨a, b, AS', rfl, hh⟩ := kc_d2_e (F := fun a b => a / b) h; exact hh
  | irem => obtain ⟨a, b, AS', rfl, hh⟩ := kc_d2_e (F := fun a b => a - a / b * b) h; exact hh
  | ladd => obtain ⟨a, b, AS', rfl, hh⟩ := kc_o2j_e (F := fun a b => a + b) h; exact hh
  | lsub => obtain ⟨a, b, AS', rfl, hh⟩ := kc_o2j_e (F := fun a b => a - b) h; exact hh
  | lmul => obtain ⟨a, b, AS', rfl, hh⟩ := kc_o2j_e (F := fun a b => a * b) h; exact hh
  | land => obtain ⟨a, b, AS', rfl, hh⟩ := kc_o2j_e (F := fun a b => a &&& b) h; exact hh
  | lor => obtain ⟨a, b, AS', rfl, hh⟩ := kc_o2j_e (F := fun a b => a ||| b) h; exact hh
  | ldiv => obtain ⟨a, b, AS', rfl, hh⟩ := kc_d2j_e (F := fun a b => a / b) h; exact hh
  | lrem => obtain ⟨a, b, AS', rfl, hh⟩ := kc_d2j_e (F := fun a b => a - a / b * b) h; exact hh
  | lshl => obtain ⟨a, b, AS', rfl, hh⟩ := kc_o2s_e (F := fun a b => a <<< (b.toInt64 &&& 63)) h; exact hh
  | lshr => obtain ⟨a, b, AS', rfl, hh⟩ := kc_o2s_e (F := fun a b => a >>> (b.toInt64 &&& 63)) h; exact hh
  | lushr => obtain ⟨a, b, AS', rfl, hh⟩ := kc_o2s_e (F := fun a b => (a.toUInt64 >>> (b.toInt64.toUInt64 &&& Int64.toUInt64 63)).toInt64) h; exact hh
  | lcmp =>
    rcases AS with _ | ⟨b | b | r | q, _ | ⟨a | a | r2 | q2, AS⟩⟩
    all_goals first | cases h; done | skip
    cases h
    show (wk_lc [] (kc_e (.inr (.inl a))) (kc_e (.inr (.inl b)))).map (fun x => ((pc + 1, kc_el AL, x :: AS.map kc_e) : wk_P)) = _
    have e : wk_lc [] (kc_e (.inr (.inl a))) (kc_e (.inr (.inl b))) = some (kc_e (.inl (kc_lcmp a b))) := by
      unfold wk_lc kc_lcmp
      simp only [wk_gj, kc_e]
      by_cases h1 : b.toInt < a.toInt
      · rw [if_pos h1, if_pos h1]; rfl
      · rw [if_neg h1, if_neg h1]
        by_cases h2 : a.toInt < b.toInt
        · rw [if_pos h2, if_pos h2]; rfl
        · rw [if_neg h2, if_neg h2, if_pos (by simp)]; rfl
    rw [e]
    rfl
  | ineg =>
    rcases AS with _ | ⟨a | b | r | q, AS⟩
    all_goals first | cases h; done | skip
    cases h
    show (wk_o2 [] (fun a _ => -a) (kc_e (.inl a)) (.inl (0, 0))).map (fun x => ((pc + 1, kc_el AL, x :: AS.map kc_e) : wk_P)) = _
    simp [wk_o2, wk_gi, kc_e, kc_eP, wk_sI, Int32.ofInt_toInt]
  | i2l =>
    rcases AS with _ | ⟨a | b | r | q, AS⟩
    all_goals first | cases h; done | skip
    cases h
    show some ((pc + 1, kc_el AL, .inr (.inl (a.toInt, a.toInt)) :: AS.map kc_e) : wk_P) = _
    simp [kc_eP, kc_e, Int32.toInt_toInt64]
  | l2i =>
    rcases AS with _ | ⟨a | b | r | q, AS⟩
    all_goals first | cases h; done | skip
    cases h
    show some ((pc + 1, kc_el AL, (if b.toInt = b.toInt then wk_sI (Int64.ofInt b.toInt).toInt32 else wk_tI) :: AS.map kc_e) : wk_P) = _
    rw [if_pos rfl, Int64.ofInt_toInt]
    rfl
  | dup =>
    rcases AS with _ | ⟨v, AS⟩
    · cases h
    · have h : (if wk_c1 (kc_e v) then some (pc + 1, AL, v :: v :: AS) else none) = some P := h
      show (if wk_c1 (kc_e v) then some ((pc + 1, kc_el AL, kc_e v :: kc_e v :: AS.map kc_e) : wk_P) else none) = _
      split at h
      · rename_i hc
        cases h
        rw [if_pos hc]
        rfl
      · cases h
  | dup_x1 =>
    rcases AS with _ | ⟨v, _ | ⟨w, AS⟩⟩
    · cases h
    · cases h
    · have h : (if wk_c1 (kc_e v) ∧ wk_c1 (kc_e w) then some (pc + 1, AL, v :: w :: v :: AS) else none) = some P := h
      show (if wk_c1 (kc_e v) ∧ wk_c1 (kc_e w) then some ((pc + 1, kc_el AL, kc_e v :: kc_e w :: kc_e v :: AS.map kc_e) : wk_P) else none) = _
      split at h
      · rename_i hc
        cases h
        rw [if_pos hc]
        rfl
      · cases h
  | dup2 =>
    rcases AS with _ | ⟨v, _ | ⟨w, AS⟩⟩
    · cases h
    · cases h
    · have h : (if wk_c1 (kc_e v) ∧ wk_c1 (kc_e w) then some (pc + 1, AL, v :: w :: v :: w :: AS) else none) = some P := h
      show (if wk_c1 (kc_e v) ∧ wk_c1 (kc_e w) then some ((pc + 1, kc_el AL, kc_e v :: kc_e w :: kc_e v :: kc_e w :: AS.map kc_e) : wk_P) else none) = _
      split at h
      · rename_i hc
        cases h
        rw [if_pos hc]
        rfl
      · cases h
  | pop =>
    rcases AS with _ | ⟨v, AS⟩
    · cases h
    · have h : (if wk_c1 (kc_e v) then some (pc + 1, AL, AS) else none) = some P := h
      show (if wk_c1 (kc_e v) then some ((pc + 1, kc_el AL, AS.map kc_e) : wk_P) else none) = _
      split at h
      · rename_i hc
        cases h
        rw [if_pos hc]
        rfl
      · cases h
  | tableswitch d lo hi offs =>
    rcases AS with _ | ⟨a | b | r | q, AS⟩
    all_goals first | cases h; done | skip
    have h : (if a.toInt < lo ∨ hi < a.toInt then (wk_to pc d).map fun t => (t, AL, AS) else (offs[(a.toInt - lo).toNat]?.bind fun o => wk_to pc o).map fun t => (t, AL, AS)) = some P := h
    show (if a.toInt = a.toInt then (if a.toInt < lo ∨ hi < a.toInt then (wk_to pc d).map fun t => ((t, kc_el AL, AS.map kc_e) : wk_P) else (offs[(a.toInt - lo).toNat]?.bind fun o => wk_to pc o).map fun t => (t, kc_el AL, AS.map kc_e)) else if a.toInt < lo ∨ hi < a.toInt then (wk_to pc d).map fun t => (t, kc_el AL, AS.map kc_e) else none) = _
    rw [if_pos rfl]
    split at h
    · rename_i hc
      rw [if_pos hc]
      cases ht : wk_to pc d with
      | none => rw [ht] at h; cases h
      | some t => rw [ht] at h; cases h; rfl
    · rename_i hc
      rw [if_neg hc]
      cases ht : (offs[(a.toInt - lo).toNat]?.bind fun o => wk_to pc o) with
      | none => rw [ht] at h; cases h
      | some t => rw [ht] at h; cases h; rfl
  | _ => exact wk_no h
