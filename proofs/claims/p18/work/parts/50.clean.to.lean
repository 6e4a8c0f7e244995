section
-- 50.clean
/-! ===== THE CLEAN LOGIC: states of plain numbers, a step a rule ===== -/
theorem wk_met_mono {l : Launch} {y : MethodName} {ws : List Cond} {rm : Room} {P P' : Array Value → State → Prop} {Q Q' : Array Value → State → Outcome → State → Prop} {mc ms : Nat} {free : Addr → Prop} (h : Met l y ws rm P Q mc ms free) (hP : ∀ a s, P' a s → P a s) (hQ : ∀ a (s : State) o (t : State), P' a s → s.WarmedH t.vm → Q a s o t → Q' a s o t) : Met l y ws rm P' Q' mc ms free := by
  intro p e ha hc hk s m args below hf happ hp hK
  obtain ⟨n, o, h1, h2, h3, h4, h5⟩ := h p e ha hc hk s m args below hf happ (hP _ _ hp) hK
  obtain ⟨L, ⟨g1, g2, g3⟩, g4⟩ := h5
  exact ⟨n, o, h1, h2, h3, hQ _ _ _ _ hp g2 h4, L, ⟨g1, g2, g3⟩, g4⟩
/-- a value: an int, a long, a reference (null, or a cell's number), the script -/
abbrev kc_V : Type := Int32 ⊕ (Int64 ⊕ (Option Nat ⊕ Nat))
abbrev kc_L : Type := List (Nat × kc_V)
/-- a heap: by cell and place -/
abbrev kc_H : Type := Nat → Nat → kc_V
def kc_e (v : kc_V) : wk_V := match v with
  | .inl a => .inl (a.toInt, a.toInt)
  | .inr (.inl b) => .inr (.inl (b.toInt, b.toInt))
  | .inr (.inr (.inl r)) => .inr (.inr (.inl r))
  | .inr (.inr (.inr i)) => .inr (.inr (.inr (i + 2, i)))
def kc_el (AL : kc_L) : wk_L := AL.map fun q => (q.1, kc_e q.2)
theorem kc_rho {as : List Nat} {z : Nat → Nat} {ρ ρ' : Nat → Int32} {v : kc_V} {x : Value} (h : wk_r as z ρ (kc_e v) x) : wk_r as z ρ' (kc_e v) x := by
  rcases v with a | b | (_ | r) | i
  · obtain ⟨i, h1, h2, h3⟩ := h
    exact ⟨i, h1, h2, h3⟩
  · obtain ⟨i, h1, h2, h3⟩ := h
    exact ⟨i, h1, h2, h3⟩
  · have h : x = .null := h
    exact h
  · obtain ⟨a, h1, h2⟩ := h
    exact ⟨a, h1, h2⟩
  · rcases i with _ | i
    · have h : x = .ref (z 0) := h
      exact h
    · have h : x = .ref (z (i + 1)) := h
      exact h
theorem kc_rhoS {as : List Nat} {z : Nat → Nat} {ρ ρ' : Nat → Int32} : ∀ {l : List kc_V} {m : List Value}, wk_f2 (wk_r as z ρ) (l.map kc_e) m → wk_f2 (wk_r as z ρ') (l.map kc_e) m
  | [], [], _ => trivial
  | [], _ :: _, h => h.elim
  | _ :: _, [], h => h.elim
  | _ :: _, _ :: _, h => ⟨kc_rho h.1, kc_rhoS h.2⟩
theorem kc_rhoL {as : List Nat} {z : Nat → Nat} {ρ ρ' : Nat → Int32} : ∀ {l : kc_L} {m : List (Nat × Value)}, wk_f2 (wk_rl as z ρ) (kc_el l) m → wk_f2 (wk_rl as z ρ') (kc_el l) m
  | [], [], _ => trivial
  | [], _ :: _, h => h.elim
  | _ :: _, [], h => h.elim
  | _ :: _, _ :: _, h => ⟨⟨h.1.1, kc_rho h.1.2⟩, kc_rhoL h.2⟩
/-- locals -/
def kc_get : kc_L → Nat → Option kc_V
  | [], _ => none
  | (j, v) :: l, i => if Nat.beq j i then some v else kc_get l i
theorem kc_get_e : ∀ (AL : kc_L) (i : Nat), wk_get (kc_el AL) i = (kc_get AL i).map kc_e
  | [], _ => rfl
  | (j, v) :: l, i => by
    show (if Nat.beq j i then some (kc_e v) else wk_get (kc_el l) i) = (if Nat.beq j i then some v else kc_get l i).map kc_e
    cases Nat.beq j i
    · exact kc_get_e l i
    · rfl
def kc_c2 (v : kc_V) : Bool := match v with
  | .inr (.inl _) => true
  | _ => false
theorem kc_c2_e (v : kc_V) : wk_c2 (kc_e v) = kc_c2 v := by
  rcases v with a | b | r | i <;> rfl
def kc_st1 (AL : kc_L) (i : Nat) (v : kc_V) : kc_L := (i, v) :: AL.filter (fun q => !(q.1 == i) && !(q.1 + 1 == i && kc_c2 q.2))
def kc_st2 (AL : kc_L) (i : Nat) (v : kc_V) : kc_L := (i, v) :: AL.filter (fun q => !(q.1 == i) && (!(q.1 == i + 1) && !(q.1 + 1 == i && kc_c2 q.2)))
theorem kc_fil (f : Nat × wk_V → Bool) (g : Nat × kc_V → Bool) (h : ∀ q, f (q.1, kc_e q.2) = g q) : ∀ AL : kc_L, (kc_el AL).filter f = kc_el (AL.filter g)
  | [] => rfl
  | q :: l => by
    show ((q.1, kc_e q.2) :: kc_el l).filter f = _
    cases hg : g q with
    | true =>
      rw [List.filter_cons_of_pos (by rw [h, hg]), List.filter_cons_of_pos (by rw [hg]), kc_fil f g h l]
      rfl
    | false =>
      rw [List.filter_cons_of_neg (by rw [h, hg]; decide), List.filter_cons_of_neg (by rw [hg]; decide), kc_fil f g h l]
theorem kc_st1_e (AL : kc_L) (i : Nat) (v : kc_V) : wk_st1 (kc_el AL) i (kc_e v) = kc_el (kc_st1 AL i v) := by
  unfold wk_st1 kc_st1
  rw [kc_fil _ _ (fun q => by rw [kc_c2_e])]
  rfl
theorem kc_st2_e (AL : kc_L) (i : Nat) (v : kc_V) : wk_st2 (kc_el AL) i (kc_e v) = kc_el (kc_st2 AL i v) := by
  unfold wk_st2 kc_st2
  rw [kc_fil _ _ (fun q => by rw [kc_c2_e])]
  rfl
/-- comparisons -/
def kc_cnd (c : ClassFile.Cond) (a b : Int) : Bool := match c with
  | .eq => decide (a = b)
  | .ne => !decide (a = b)
  | .lt => decide (a < b)
  | .ge => !decide (a < b)
  | .gt => decide (b < a)
  | .le => !decide (b < a)
theorem kc_cnd_e (c : ClassFile.Cond) (a b : Int) : wk_cnd c (a, a) (b, b) = some (kc_cnd c a b) := by
  have heq : wk_eq (a, a) (b, b) = some (decide (a = b)) := by
    unfold wk_eq
    by_cases h : a = b
    · subst h; simp
    · simp [h]; omega
  have hlt : ∀ a b : Int, wk_lt (a, a) (b, b) = some (decide (a < b)) := by
    intro a b
    unfold wk_lt
    by_cases h : a < b
    · simp [h]
    · have h2 : b ≤ a := by omega
      simp [h, h2]
  cases c <;> simp [wk_cnd, kc_cnd, heq, hlt]
def kc_lcmp (a b : Int64) : Int32 := if b.toInt < a.toInt then 1 else if a.toInt < b.toInt then -1 else 0
abbrev kc_P : Type := Nat × kc_L × List kc_V
def kc_o2 (F : Int32 → Int32 → Int32) (pc : Nat) (AL : kc_L) (AS : List kc_V) : Option kc_P := match AS with
  | .inl b :: .inl a :: AS => some (pc + 1, AL, .inl (F a b) :: AS)
  | _ => none
def kc_o2j (F : Int64 → Int64 → Int64) (pc : Nat) (AL : kc_L) (AS : List kc_V) : Option kc_P := match AS with
  | .inr (.inl b) :: .inr (.inl a) :: AS => some (pc + 1, AL, .inr (.inl (F a b)) :: AS)
  | _ => none
def kc_o2s (F : Int64 → Int32 → Int64) (pc : Nat) (AL : kc_L) (AS : List kc_V) : Option kc_P := match AS with
  | .inl b :: .inr (.inl a) :: AS => some (pc + 1, AL, .inr (.inl (F a b)) :: AS)
  | _ => none
def kc_d2 (F : Int32 → Int32 → Int32) (pc : Nat) (AL : kc_L) (AS : List kc_V) : Option kc_P := match AS with
  | .inl b :: .inl a :: AS => if b = 0 then none else some (pc + 1, AL, .inl (F a b) :: AS)
  | _ => none
def kc_d2j (F : Int64 → Int64 → Int64) (pc : Nat) (AL : kc_L) (AS : List kc_V) : Option kc_P := match AS with
  | .inr (.inl b) :: .inr (.inl a) :: AS => if b = 0 then none else some (pc + 1, AL, .inr (.inl (F a b)) :: AS)
  | _ => none
def kc_ldi (k d pc : Nat) (AL : kc_L) (AS : List kc_V) : Option kc_P := match kc_get AL k with
  | some (.inl a) => some (pc + d, AL, .inl a :: AS)
  | _ => none
def kc_ldj (k d pc : Nat) (AL : kc_L) (AS : List kc_V) : Option kc_P := match kc_get AL k with
  | some (.inr (.inl a)) => some (pc + d, AL, .inr (.inl a) :: AS)
  | _ => none
def kc_lda (k d pc : Nat) (AL : kc_L) (AS : List kc_V) : Option kc_P := match kc_get AL k with
  | some (.inr (.inr (.inl (some r)))) => some (pc + d, AL, .inr (.inr (.inl (some r))) :: AS)
  | some (.inr (.inr (.inr i))) => some (pc + d, AL, .inr (.inr (.inr i)) :: AS)
  | _ => none
def kc_sti (k d pc nL : Nat) (AL : kc_L) (AS : List kc_V) : Option kc_P := match AS with
  | .inl a :: AS => if k < nL then some (pc + d, kc_st1 AL k (.inl a), AS) else none
  | _ => none
def kc_stj (k d pc nL : Nat) (AL : kc_L) (AS : List kc_V) : Option kc_P := match AS with
  | .inr (.inl a) :: AS => if k + 1 < nL then some (pc + d, kc_st2 AL k (.inr (.inl a)), AS) else none
  | _ => none
def kc_sta (k d pc nL : Nat) (AL : kc_L) (AS : List kc_V) : Option kc_P := match AS with
  | .inr (.inr (.inl (some r))) :: AS => if k < nL then some (pc + d, kc_st1 AL k (.inr (.inr (.inl (some r)))), AS) else none
  | .inr (.inr (.inr i)) :: AS => if k < nL then some (pc + d, kc_st1 AL k (.inr (.inr (.inr i))), AS) else none
  | _ => none
def kc_bra (c : ClassFile.Cond) (off : Int) (pc : Nat) (AL : kc_L) (AS : List kc_V) (a b : Int) : Option kc_P := match wk_to pc off with
  | some t => some (if kc_cnd c a b then t else pc + 3, AL, AS)
  | none => none
/-- the instructions that leave the heap alone -/
def kc_pure (nL : Nat) (i : Instr) (x : Int) (pc : Nat) (AL : kc_L) (AS : List kc_V) : Option kc_P :=
  match i with
  | .iconst n => some (pc + 1, AL, .inl (Int32.ofInt n) :: AS)
  | .bipush n => some (pc + 2, AL, .inl (Int8.ofInt n).toInt32 :: AS)
  | .sipush n => some (pc + 3, AL, .inl (Int16.ofInt n).toInt32 :: AS)
  | .lconst n => some (pc + 1, AL, .inr (.inl (Int64.ofNat n.val)) :: AS)
  | .ldc _ => some (pc + 2, AL, .inl (Int32.ofInt x) :: AS)
  | .ldc_w _ => some (pc + 3, AL, .inl (Int32.ofInt x) :: AS)
  | .ldc2_w _ => some (pc + 3, AL, .inr (.inl (Int64.ofInt x)) :: AS)
  | .iload_n k => kc_ldi k.val 1 pc AL AS
  | .iload k => kc_ldi k 2 pc AL AS
  | .lload_n k => kc_ldj k.val 1 pc AL AS
  | .lload k => kc_ldj k 2 pc AL AS
  | .aload_n k => kc_lda k.val 1 pc AL AS
  | .aload k => kc_lda k 2 pc AL AS
  | .istore_n k => kc_sti k.val 1 pc nL AL AS
  | .istore k => kc_sti k 2 pc nL AL AS
  | .lstore_n k => kc_stj k.val 1 pc nL AL AS
  | .lstore k => kc_stj k 2 pc nL AL AS
  | .astore_n k => kc_sta k.val 1 pc nL AL AS
  | .astore k => kc_sta k 2 pc nL AL AS
  | .iinc k n => match kc_get AL k with
    | some (.inl a) => if k < nL then some (pc + 3, kc_st1 AL k (.inl (a + Int32.ofInt n)), AS) else none
    | _ => none
  | .goto off => match wk_to pc off with
    | some t => some (t, AL, AS)
    | none => none
  | .ifCond c off => match AS with
    | .inl a :: AS => kc_bra c off pc AL AS a.toInt 0
    | _ => none
  | .if_icmp c off => match AS with
    | .inl b :: .inl a :: AS => kc_bra c off pc AL AS a.toInt b.toInt
    | _ => none
  | .iadd => kc_o2 (fun a b => a + b) pc AL AS
  | .isub => kc_o2 (fun a b => a - b) pc AL AS
  | .imul => kc_o2 (fun a b => a * b) pc AL AS
  | .iand => kc_o2 (fun a b => a &&& b) pc AL AS
  | .ior => kc_o2 (fun a b => a ||| b) pc AL AS
  | .ixor => kc_o2 (fun a b => a ^^^ b) pc AL AS
  | .ishl => kc_o2 (fun a b => a <<< (b &&& 31)) pc AL AS
  | .ishr => kc_o2 (fun a b => a >>> (b &&& 31)) pc AL AS
  | .idiv => kc_d2 (fun a b => a / b) pc AL AS
  | .irem => kc_d2 (fun a b => a - a / b * b) pc AL AS
  | .ladd => kc_o2j (fun a b => a + b) pc AL AS
  | .lsub => kc_o2j (fun a b => a - b) pc AL AS
  | .lmul => kc_o2j (fun a b => a * b) pc AL AS
  | .land => kc_o2j (fun a b => a &&& b) pc AL AS
  | .lor => kc_o2j (fun a b => a ||| b) pc AL AS
  | .ldiv => kc_d2j (fun a b => a / b) pc AL AS
  | .lrem => kc_d2j (fun a b => a - a / b * b) pc AL AS
  | .lshl => kc_o2s (fun a b => a <<< (b.toInt64 &&& 63)) pc AL AS
  | .lshr => kc_o2s (fun a b => a >>> (b.toInt64 &&& 63)) pc AL AS
  | .lushr => kc_o2s (fun a b => (a.toUInt64 >>> (b.toInt64.toUInt64 &&& Int64.toUInt64 63)).toInt64) pc AL AS
  | .lcmp => match AS with
    | .inr (.inl b) :: .inr (.inl a) :: AS => some (pc + 1, AL, .inl (kc_lcmp a b) :: AS)
    | _ => none
  | .ineg => match AS with
    | .inl a :: AS => some (pc + 1, AL, .inl (-a) :: AS)
    | _ => none
  | .i2l => match AS with
    | .inl a :: AS => some (pc + 1, AL, .inr (.inl a.toInt64) :: AS)
    | _ => none
  | .l2i => match AS with
    | .inr (.inl a) :: AS => some (pc + 1, AL, .inl a.toInt32 :: AS)
    | _ => none
  | .dup => match AS with
    | v :: AS => if wk_c1 (kc_e v) then some (pc + 1, AL, v :: v :: AS) else none
    | _ => none
  | .dup_x1 => match AS with
    | v :: w :: AS => if wk_c1 (kc_e v) ∧ wk_c1 (kc_e w) then some (pc + 1, AL, v :: w :: v :: AS) else none
    | _ => none
  | .dup2 => match AS with
    | v :: w :: AS => if wk_c1 (kc_e v) ∧ wk_c1 (kc_e w) then some (pc + 1, AL, v :: w :: v :: w :: AS) else none
    | _ => none
  | .pop => match AS with
    | v :: AS => if wk_c1 (kc_e v) then some (pc + 1, AL, AS) else none
    | _ => none
  | .tableswitch d lo hi offs => match AS with
    | .inl a :: AS => if a.toInt < lo ∨ hi < a.toInt then (wk_to pc d).map fun t => (t, AL, AS) else (offs[(a.toInt - lo).toNat]?.bind fun o => wk_to pc o).map fun t => (t, AL, AS)
    | _ => none
  | _ => none
def kc_eP (P : kc_P) : wk_P := (P.1, kc_el P.2.1, P.2.2.map kc_e)
theorem kc_o2_e {F : Int32 → Int32 → Int32} {pc : Nat} {AL : kc_L} {AS : List kc_V} {P : kc_P} (h : kc_o2 F pc AL AS = some P) : ∃ a b AS', AS = .inl b :: .inl a :: AS' ∧ (wk_o2 [] F (kc_e (.inl a)) (kc_e (.inl b))).map (fun x => ((pc + 1, kc_el AL, x :: AS'.map kc_e) : wk_P)) = some (kc_eP P) := by
  unfold kc_o2 at h
  split at h
  · cases h
    rename_i b a AS'
    refine ⟨a, b, AS', rfl, ?_⟩
    simp [wk_o2, wk_gi, kc_e, kc_eP, wk_sI, Int32.ofInt_toInt]
  · cases h
theorem kc_o2j_e {F : Int64 → Int64 → Int64} {pc : Nat} {AL : kc_L} {AS : List kc_V} {P : kc_P} (h : kc_o2j F pc AL AS = some P) : ∃ a b AS', AS = .inr (.inl b) :: .inr (.inl a) :: AS' ∧ (wk_o2j [] F (kc_e (.inr (.inl a))) (kc_e (.inr (.inl b)))).map (fun x => ((pc + 1, kc_el AL, x :: AS'.map kc_e) : wk_P)) = some (kc_eP P) := by
  unfold kc_o2j at h
  split at h
  · cases h
    rename_i b a AS'
    refine ⟨a, b, AS', rfl, ?_⟩
    simp [wk_o2j, wk_gj, kc_e, kc_eP, wk_sJ, Int64.ofInt_toInt]
  · cases h
theorem kc_o2s_e {F : Int64 → Int32 → Int64} {pc : Nat} {AL : kc_L} {AS : List kc_V} {P : kc_P} (h : kc_o2s F pc AL AS = some P) : ∃ a b AS', AS = .inl b :: .inr (.inl a) :: AS' ∧ (wk_o2s [] F (kc_e (.inr (.inl a))) (kc_e (.inl b))).map (fun x => ((pc + 1, kc_el AL, x :: AS'.map kc_e) : wk_P)) = some (kc_eP P) := by
  unfold kc_o2s at h
  split at h
  · cases h
    rename_i b a AS'
    refine ⟨a, b, AS', rfl, ?_⟩
    simp [wk_o2s, wk_gj, wk_gi, kc_e, kc_eP, wk_sJ, Int64.ofInt_toInt, Int32.ofInt_toInt]
  · cases h
theorem kc_d2_e {F : Int32 → Int32 → Int32} {pc : Nat} {AL : kc_L} {AS : List kc_V} {P : kc_P} (h : kc_d2 F pc AL AS = some P) : ∃ a b AS', AS = .inl b :: .inl a :: AS' ∧ (wk_d2 [] F (kc_e (.inl a)) (kc_e (.inl b))).map (fun x => ((pc + 1, kc_el AL, x :: AS'.map kc_e) : wk_P)) = some (kc_eP P) := by
  unfold kc_d2 at h
  split at h
  · split at h
    · cases h
    · cases h
      rename_i b a AS' hb
      refine ⟨a, b, AS', rfl, ?_⟩
      simp [wk_d2, wk_gi, kc_e, kc_eP, wk_sI, Int32.ofInt_toInt, hb]
  · cases h
theorem kc_d2j_e {F : Int64 → Int64 → Int64} {pc : Nat} {AL : kc_L} {AS : List kc_V} {P : kc_P} (h : kc_d2j F pc AL AS = some P) : ∃ a b AS', AS = .inr (.inl b) :: .inr (.inl a) :: AS' ∧ (wk_d2j [] F (kc_e (.inr (.inl a))) (kc_e (.inr (.inl b)))).map (fun x => ((pc + 1, kc_el AL, x :: AS'.map kc_e) : wk_P)) = some (kc_eP P) := by
  unfold kc_d2j at h
  split at h
  · split at h
    · cases h
    · cases h
      rename_i b a AS' hb
      refine ⟨a, b, AS', rfl, ?_⟩
      simp [wk_d2j, wk_gj, kc_e, kc_eP, wk_sJ, Int64.ofInt_toInt, hb]
  · cases h
theorem kc_ldi_e {k d pc : Nat} {AL : kc_L} {AS : List kc_V} {P : kc_P} (h : kc_ldi k d pc AL AS = some P) : ((wk_get (kc_el AL) k).bind fun v => if (wk_gi [] v).isSome then some ((pc + d, kc_el AL, v :: AS.map kc_e) : wk_P) else none) = some (kc_eP P) := by
  unfold kc_ldi at h
  rw [kc_get_e]
  split at h
  · rename_i a hg
    cases h
    rw [hg]
    rfl
  · cases h
theorem kc_ldj_e {k d pc : Nat} {AL : kc_L} {AS : List kc_V} {P : kc_P} (h : kc_ldj k d pc AL AS = some P) : ((wk_get (kc_el AL) k).bind fun v => if (wk_gj [] v).isSome then some ((pc + d, kc_el AL, v :: AS.map kc_e) : wk_P) else none) = some (kc_eP P) := by
  unfold kc_ldj at h
  rw [kc_get_e]
  split at h
  · rename_i a hg
    cases h
    rw [hg]
    rfl
  · cases h
theorem kc_lda_e {k d pc : Nat} {AL : kc_L} {AS : List kc_V} {P : kc_P} (h : kc_lda k d pc AL AS = some P) : ((wk_get (kc_el AL) k).bind fun v => if wk_isr v then some ((pc + d, kc_el AL, v :: AS.map kc_e) : wk_P) else none) = some (kc_eP P) := by
  unfold kc_lda at h
  rw [kc_get_e]
  split at h
  · rename_i a hg
    cases h
    rw [hg]
    rfl
  · rename_i hg
    cases h
    rw [hg]
    rfl
  · cases h
theorem kc_sti_e {k d pc nL : Nat} {AL : kc_L} {AS : List kc_V} {P : kc_P} (h : kc_sti k d pc nL AL AS = some P) : ∃ v AS', AS = v :: AS' ∧ (if (wk_gi [] (kc_e v)).isSome ∧ k < nL then some ((pc + d, wk_st1 (kc_el AL) k (kc_e v), AS'.map kc_e) : wk_P) else none) = some (kc_eP P) := by
  unfold kc_sti at h
  split at h
  · rename_i a AS'
    split at h
    · cases h
      rename_i hk
      refine ⟨_, AS', rfl, ?_⟩
      rw [if_pos ⟨rfl, hk⟩, kc_st1_e]
      rfl
    · cases h
  · cases h
theorem kc_stj_e {k d pc nL : Nat} {AL : kc_L} {AS : List kc_V} {P : kc_P} (h : kc_stj k d pc nL AL AS = some P) : ∃ v AS', AS = v :: AS' ∧ (if (wk_gj [] (kc_e v)).isSome ∧ k + 1 < nL then some ((pc + d, wk_st2 (kc_el AL) k (kc_e v), AS'.map kc_e) : wk_P) else none) = some (kc_eP P) := by
  unfold kc_stj at h
  split at h
  · rename_i a AS'
    split at h
    · cases h
      rename_i hk
      refine ⟨_, AS', rfl, ?_⟩
      rw [if_pos ⟨rfl, hk⟩, kc_st2_e]
      rfl
    · cases h
  · cases h
theorem kc_sta_e {k d pc nL : Nat} {AL : kc_L} {AS : List kc_V} {P : kc_P} (h : kc_sta k d pc nL AL AS = some P) : ∃ v AS', AS = v :: AS' ∧ (if wk_isr (kc_e v) ∧ k < nL then some ((pc + d, wk_st1 (kc_el AL) k (kc_e v), AS'.map kc_e) : wk_P) else none) = some (kc_eP P) := by
  unfold kc_sta at h
  split at h
  · rename_i a AS'
    split at h
    · cases h
      rename_i hk
      refine ⟨_, AS', rfl, ?_⟩
      rw [if_pos ⟨rfl, hk⟩, kc_st1_e]
      rfl
    · cases h
  · rename_i AS'
    split at h
    · cases h
      rename_i hk
      refine ⟨_, AS', rfl, ?_⟩
      rw [if_pos ⟨rfl, hk⟩, kc_st1_e]
      rfl
    · cases h
  · cases h
theorem kc_bra_e {c : ClassFile.Cond} {off : Int} {pc : Nat} {AL : kc_L} {AS : List kc_V} {a b : Int} {P : kc_P} (h : kc_bra c off pc AL AS a b = some P) : (wk_br c pc off (some (a, a)) (some (b, b))).map (fun t => ((t, kc_el AL, AS.map kc_e) : wk_P)) = some (kc_eP P) := by
  unfold kc_bra at h
  unfold wk_br
  split at h
  · rename_i t ht
    cases h
    rw [ht]
    simp only [kc_cnd_e, Option.map_some]
    rfl
  · cases h
set_option maxHeartbeats 4000000 in
theorem kc_pure_e {nL : Nat} {i : Instr} {x : Int} {pc : Nat} {AL : kc_L} {AS : List kc_V} {P : kc_P} (h : kc_pure nL i x pc AL AS = some P) : wk_pure [] nL i x pc (kc_el AL) (AS.map kc_e) = some (kc_eP P) := by
  cases i with
  | iconst k => cases h; rfl
  | bipush k => cases h; rfl
  | sipush k => cases h; rfl
  | lconst k => cases h; rfl
  | ldc k => cases h; rfl
  | ldc_w k => cases h; rfl
  | ldc2_w k => cases h; rfl
  | iload_n k => exact kc_ldi_e h
  | iload k => exact kc_ldi_e h
  | lload_n k => exact kc_ldj_e h
  | lload k => exact kc_ldj_e h
  | aload_n k => exact kc_lda_e h
  | aload k => exact kc_lda_e h
  | istore_n k => obtain ⟨v, AS', rfl, hh⟩ := kc_sti_e h; exact hh
  | istore k => obtain ⟨v, AS', rfl, hh⟩ := kc_sti_e h; exact hh
  | lstore_n k => obtain ⟨v, AS', rfl, hh⟩ := kc_stj_e h; exact hh
  | lstore k => obtain ⟨v, AS', rfl, hh⟩ := kc_stj_e h; exact hh
  | astore_n k => obtain ⟨v, AS', rfl, hh⟩ := kc_sta_e h; exact hh
  | astore k => obtain ⟨v, AS', rfl, hh⟩ := kc_sta_e h; exact hh
  | iinc k n =>
    have h : (match kc_get AL k with
      | some (.inl a) => if k < nL then some (pc + 3, kc_st1 AL k (.inl (a + Int32.ofInt n)), AS) else none
      | _ => none) = some P := h
    show ((wk_get (kc_el AL) k).bind fun v => (wk_o2 [] (fun a b => a + b) v (wk_sI (Int32.ofInt n))).bind fun w => if k < nL then some ((pc + 3, wk_st1 (kc_el AL) k w, AS.map kc_e) : wk_P) else none) = some (kc_eP P)
    rw [kc_get_e]
    split at h
    · rename_i a hg
      split at h
      · rename_i hk
        cases h
        rw [hg]
        simp only [Option.map_some, Option.bind_some]
        have e : wk_o2 [] (fun a b => a + b) (kc_e (.inl a)) (wk_sI (Int32.ofInt n)) = some (kc_e (.inl (a + Int32.ofInt n))) := by
          simp [wk_o2, wk_gi, kc_e, wk_sI, Int32.ofInt_toInt]
        rw [e]
        simp only [Option.bind_some]
        rw [if_pos hk, kc_st1_e]
        rfl
      · cases h
    · cases h
  | goto off =>
    have h : (match wk_to pc off with
      | some t => some (t, AL, AS)
      | none => none) = some P := h
    show ((wk_to pc off).map fun t => ((t, kc_el AL, AS.map kc_e) : wk_P)) = some (kc_eP P)
    split at h
    · rename_i t ht
      cases h
      rw [ht]
      rfl
    · cases h
  | ifCond c off =>
    rcases AS with _ | ⟨a | b | r | q, AS⟩
    · cases h
    · exact kc_bra_e h
    · cases h
    · cases h
    · cases h
  | if_icmp c off =>
    rcases AS with _ | ⟨b | b | r | q, _ | ⟨a | a | r2 | q2, AS⟩⟩
    · cases h
    · cases h
    · exact kc_bra_e h
    all_goals cases h
  | iadd => obtain ⟨a, b, AS', rfl, hh⟩ := kc_o2_e (F := fun a b => a + b) h; exact hh
  | isub => obtain ⟨a, b, AS', rfl, hh⟩ := kc_o2_e (F := fun a b => a - b) h; exact hh
  | imul => obtain ⟨a, b, AS', rfl, hh⟩ := kc_o2_e (F := fun a b => a * b) h; exact hh
  | iand =>
    obtain ⟨a, b, AS', rfl, hh⟩ := kc_o2_e (F := fun a b => a &&& b) h
    show (wk_an [] (kc_e (.inl b)) (kc_e (.inl a))).map (fun x => ((pc + 1, kc_el AL, x :: AS'.map kc_e) : wk_P)) = _
    have e : wk_an [] (kc_e (.inl b)) (kc_e (.inl a)) = wk_o2 [] (fun a b => a &&& b) (kc_e (.inl a)) (kc_e (.inl b)) := by
      unfold wk_an
      split
      · rename_i h1 h2
        cases h2
      · rfl
    rw [e]
    exact hh
  | ior => obtain ⟨a, b, AS', rfl, hh⟩ := kc_o2_e (F := fun a b => a ||| b) h; exact hh
  | ixor => obtain ⟨a, b, AS', rfl, hh⟩ := kc_o2_e (F := fun a b => a ^^^ b) h; exact hh
  | ishl => obtain ⟨a, b, AS', rfl, hh⟩ := kc_o2_e (F := fun a b => a <<< (b &&& 31)) h; exact hh
  | ishr => obtain ⟨a, b, AS', rfl, hh⟩ := kc_o2_e (F := fun a b => a >>> (b &&& 31)) h; exact hh
  | idiv => obtain ⟨a, b, AS', rfl, hh⟩ := kc_d2_e (F := fun a b => a / b) h; exact hh
  | irem => obtain ⟨a, b, AS', rfl, hh⟩ := kc_d2_e (F := fun a b => a - a / b * b) h; exact hh
  | ladd => obtain ⟨a, b, AS', rfl, hh⟩ := kc_o2j_e (F := fun a b => a + b) h; exact hh
  | lsub => obtain ⟨a, b, AS', rfl, hh⟩ := kc_o2j_e (F := fun a b => a - b) h; exact hh
  | lmul => obtain ⟨a, b, AS', rfl, hh⟩ := kc_o2j_e (F := fun a b => a * b) h; exact hh
  | land => obtain ⟨a, b, AS', rfl, hh⟩ := kc_o2j_e (F := fun a b => a &&& b) h; exact hh
  | lor => obtain ⟨a, b, AS', rfl, hh⟩ := kc_o2j_e (F := fun a b => a ||| b) h; exact hh
  | ldiv => obtain ⟨a, b, AS', rfl, hh⟩ := kc_d2j_e (F := fun a b => a / b) h; exact hh
  | lrem => obtain ⟨a, b, AS', rfl, hh⟩ := kc_d2j_e (F := fun a b => a - a / b * b) h; exact hh
  | lshl => obtain ⟨a, b, AS', rfl, hh⟩ := kc_o2s_e (F := fun a b => a <<< (b.toInt64 &&& 63)) h; exact hh
  | lshr => obtain ⟨a, b, AS', rfl, hh⟩ := kc_o2s_e (F := fun a b => a >>> (b.toInt64 &&& 63)) h; exact hh
  | lushr => obtain ⟨a, b, AS', rfl, hh⟩ := kc_o2s_e (F := fun a b => (a.toUInt64 >>> (b.toInt64.toUInt64 &&& Int64.toUInt64 63)).toInt64) h; exact hh
  | lcmp =>
    rcases AS with _ | ⟨b | b | r | q, _ | ⟨a | a | r2 | q2, AS⟩⟩
    all_goals first | cases h; done | skip
    cases h
    show (wk_lc [] (kc_e (.inr (.inl a))) (kc_e (.inr (.inl b)))).map (fun x => ((pc + 1, kc_el AL, x :: AS.map kc_e) : wk_P)) = _
    have e : wk_lc [] (kc_e (.inr (.inl a))) (kc_e (.inr (.inl b))) = some (kc_e (.inl (kc_lcmp a b))) := by
      unfold wk_lc kc_lcmp
      simp only [wk_gj, kc_e]
      by_cases h1 : b.toInt < a.toInt
      · rw [if_pos h1, if_pos h1]; rfl
      · rw [if_neg h1, if_neg h1]
        by_cases h2 : a.toInt < b.toInt
        · rw [if_pos h2, if_pos h2]; rfl
        · rw [if_neg h2, if_neg h2, if_pos (by simp)]; rfl
    rw [e]
    rfl
  | ineg =>
    rcases AS with _ | ⟨a | b | r | q, AS⟩
    all_goals first | cases h; done | skip
    cases h
    show (wk_o2 [] (fun a _ => -a) (kc_e (.inl a)) (.inl (0, 0))).map (fun x => ((pc + 1, kc_el AL, x :: AS.map kc_e) : wk_P)) = _
    simp [wk_o2, wk_gi, kc_e, kc_eP, wk_sI, Int32.ofInt_toInt]
  | i2l =>
    rcases AS with _ | ⟨a | b | r | q, AS⟩
    all_goals first | cases h; done | skip
    cases h
    show some ((pc + 1, kc_el AL, .inr (.inl (a.toInt, a.toInt)) :: AS.map kc_e) : wk_P) = _
    simp [kc_eP, kc_e, Int32.toInt_toInt64]
  | l2i =>
    rcases AS with _ | ⟨a | b | r | q, AS⟩
    all_goals first | cases h; done | skip
    cases h
    show some ((pc + 1, kc_el AL, (if b.toInt = b.toInt then wk_sI (Int64.ofInt b.toInt).toInt32 else wk_tI) :: AS.map kc_e) : wk_P) = _
    rw [if_pos rfl, Int64.ofInt_toInt]
    rfl
  | dup =>
    rcases AS with _ | ⟨v, AS⟩
    · cases h
    · have h : (if wk_c1 (kc_e v) then some (pc + 1, AL, v :: v :: AS) else none) = some P := h
      show (if wk_c1 (kc_e v) then some ((pc + 1, kc_el AL, kc_e v :: kc_e v :: AS.map kc_e) : wk_P) else none) = _
      split at h
      · rename_i hc
        cases h
        rw [if_pos hc]
        rfl
      · cases h
  | dup_x1 =>
    rcases AS with _ | ⟨v, _ | ⟨w, AS⟩⟩
    · cases h
    · cases h
    · have h : (if wk_c1 (kc_e v) ∧ wk_c1 (kc_e w) then some (pc + 1, AL, v :: w :: v :: AS) else none) = some P := h
      show (if wk_c1 (kc_e v) ∧ wk_c1 (kc_e w) then some ((pc + 1, kc_el AL, kc_e v :: kc_e w :: kc_e v :: AS.map kc_e) : wk_P) else none) = _
      split at h
      · rename_i hc
        cases h
        rw [if_pos hc]
        rfl
      · cases h
  | dup2 =>
    rcases AS with _ | ⟨v, _ | ⟨w, AS⟩⟩
    · cases h
    · cases h
    · have h : (if wk_c1 (kc_e v) ∧ wk_c1 (kc_e w) then some (pc + 1, AL, v :: w :: v :: w :: AS) else none) = some P := h
      show (if wk_c1 (kc_e v) ∧ wk_c1 (kc_e w) then some ((pc + 1, kc_el AL, kc_e v :: kc_e w :: kc_e v :: kc_e w :: AS.map kc_e) : wk_P) else none) = _
      split at h
      · rename_i hc
        cases h
        rw [if_pos hc]
        rfl
      · cases h
  | pop =>
    rcases AS with _ | ⟨v, AS⟩
    · cases h
    · have h : (if wk_c1 (kc_e v) then some (pc + 1, AL, AS) else none) = some P := h
      show (if wk_c1 (kc_e v) then some ((pc + 1, kc_el AL, AS.map kc_e) : wk_P) else none) = _
      split at h
      · rename_i hc
        cases h
        rw [if_pos hc]
        rfl
      · cases h
  | tableswitch d lo hi offs =>
    rcases AS with _ | ⟨a | b | r | q, AS⟩
    all_goals first | cases h; done | skip
    have h : (if a.toInt < lo ∨ hi < a.toInt then (wk_to pc d).map fun t => (t, AL, AS) else (offs[(a.toInt - lo).toNat]?.bind fun o => wk_to pc o).map fun t => (t, AL, AS)) = some P := h
    show (if a.toInt = a.toInt then (if a.toInt < lo ∨ hi < a.toInt then (wk_to pc d).map fun t => ((t, kc_el AL, AS.map kc_e) : wk_P) else (offs[(a.toInt - lo).toNat]?.bind fun o => wk_to pc o).map fun t => (t, kc_el AL, AS.map kc_e)) else if a.toInt < lo ∨ hi < a.toInt then (wk_to pc d).map fun t => (t, kc_el AL, AS.map kc_e) else none) = _
    rw [if_pos rfl]
    split at h
    · rename_i hc
      rw [if_pos hc]
      cases ht : wk_to pc d with
      | none => rw [ht] at h; cases h
      | some t => rw [ht] at h; cases h; rfl
    · rename_i hc
      rw [if_neg hc]
      cases ht : (offs[(a.toInt - lo).toNat]?.bind fun o => wk_to pc o) with
      | none => rw [ht] at h; cases h
      | some t => rw [ht] at h; cases h; rfl
  | _ => exact wk_no h
end
section
-- 51.cheap
/-! ===== the clean logic: the heap ===== -/
def kc_sh : List (List (Nat × Nat × Nat)) := [[(1, 8, 13), (1, 7, 13), (0, 2, 6), (0, 0, 6), (0, 0, 6), (0, 0, 6), (0, 0, 6), (0, 0, 6), (0, 0, 6), (0, 0, 6), (0, 0, 6), (0, 2, 3), (0, 0, 5), (0, 0, 5), (0, 0, 5), (0, 2, 10), (0, 0, 7), (0, 0, 7), (0, 0, 7), (0, 0, 7), (0, 0, 7), (0, 0, 7), (0, 0, 7), (0, 0, 7), (0, 0, 7), (0, 0, 7), (0, 0, 2), (0, 0, 5), (0, 2, 2), (0, 0, 240), (0, 0, 240), (0, 0, 2)],
  [(1, 7, 13), (0, 2, 6), (0, 0, 6), (0, 0, 6), (0, 0, 6), (0, 0, 6), (0, 0, 6), (0, 0, 6), (0, 0, 6), (0, 0, 6), (0, 2, 3), (0, 0, 5), (0, 0, 5), (0, 0, 5), (0, 2, 10), (0, 0, 7), (0, 0, 7), (0, 0, 7), (0, 0, 7), (0, 0, 7), (0, 0, 7), (0, 0, 7), (0, 0, 7), (0, 0, 7), (0, 0, 7), (0, 0, 2), (0, 0, 5), (0, 2, 2), (0, 0, 240), (0, 0, 240), (0, 0, 2), (0, 3, 2)],
  [(1, 7, 13), (0, 2, 6), (0, 0, 6), (0, 0, 6), (0, 0, 6), (0, 0, 6), (0, 0, 6), (0, 0, 6), (0, 0, 6), (0, 0, 6), (0, 2, 3), (0, 0, 5), (0, 0, 5), (0, 0, 5), (0, 2, 10), (0, 0, 7), (0, 0, 7), (0, 0, 7), (0, 0, 7), (0, 0, 7), (0, 0, 7), (0, 0, 7), (0, 0, 7), (0, 0, 7), (0, 0, 7), (0, 0, 2), (0, 0, 5), (0, 2, 2), (0, 0, 240), (0, 0, 240), (0, 0, 2), (1, 7, 13)],
  [(0, 2, 6), (0, 0, 6), (0, 0, 6), (0, 0, 6), (0, 0, 6), (0, 0, 6), (0, 0, 6), (0, 0, 6), (0, 0, 6), (0, 2, 3), (0, 0, 5), (0, 0, 5), (0, 0, 5), (0, 2, 10), (0, 0, 7), (0, 0, 7), (0, 0, 7), (0, 0, 7), (0, 0, 7), (0, 0, 7), (0, 0, 7), (0, 0, 7), (0, 0, 7), (0, 0, 7), (0, 0, 2), (0, 0, 5), (0, 2, 2), (0, 0, 240), (0, 0, 240), (0, 0, 2), (0, 1, 2), (1, 4, 9)],
  [(0, 0, 60), (0, 2, 60), (0, 0, 4), (0, 0, 4), (0, 0, 4), (0, 0, 4), (0, 0, 4), (0, 0, 4), (0, 0, 4), (0, 0, 4), (0, 0, 4), (0, 0, 4), (0, 0, 4), (0, 0, 4), (0, 0, 4), (0, 0, 4), (0, 0, 4), (0, 0, 4), (0, 0, 4), (0, 0, 4), (0, 0, 4), (0, 0, 4), (0, 0, 4), (0, 0, 4), (0, 0, 4), (0, 0, 4), (0, 0, 4), (0, 0, 4), (0, 0, 4), (0, 0, 4), (0, 0, 4), (0, 0, 4)],
  [(0, 0, 4), (0, 0, 4), (0, 0, 4), (0, 0, 4), (0, 0, 4), (0, 0, 4), (0, 0, 4), (0, 0, 4), (0, 0, 4), (0, 0, 4), (0, 0, 4), (0, 0, 4), (0, 0, 4), (0, 0, 4), (0, 0, 4), (0, 0, 4), (0, 0, 4), (0, 0, 4), (0, 0, 4), (0, 0, 4), (0, 0, 4), (0, 0, 4), (0, 0, 4), (0, 0, 4), (0, 0, 4), (0, 0, 4), (0, 0, 4), (0, 0, 4), (0, 0, 4), (0, 0, 4), (1, 0, 15), (0, 0, 10)],
  [(0, 0, 6), (0, 0, 6), (0, 2, 6), (0, 0, 3), (0, 0, 3), (0, 0, 3), (0, 0, 3), (0, 0, 3), (0, 0, 3), (0, 0, 6), (0, 0, 3), (0, 0, 10), (1, 3, 8), (0, 0, 5), (0, 0, 10), (0, 0, 10), (0, 2, 10), (0, 0, 5), (0, 0, 5), (0, 0, 5), (0, 0, 5), (0, 0, 5), (0, 0, 5), (0, 0, 5), (0, 0, 5), (0, 0, 5), (0, 0, 5), (0, 0, 6), (1, 6, 14), (0, 0, 10), (0, 0, 10), (0, 0, 3)],
  [(0, 2, 5), (0, 0, 6), (0, 0, 6), (0, 0, 6), (0, 0, 6), (0, 0, 6), (0, 2, 5), (0, 0, 6), (0, 0, 6), (0, 0, 6), (0, 0, 6), (0, 0, 6), (0, 2, 11), (0, 0, 5), (0, 0, 5), (0, 0, 5), (0, 0, 5), (0, 0, 5), (0, 0, 5), (0, 0, 5), (0, 0, 5), (0, 0, 5), (0, 0, 5), (0, 0, 5), (0, 0, 19), (0, 0, 19), (1, 5, 7), (0, 0, 5), (0, 0, 5), (1, 2, 4), (0, 0, 20), (1, 1, 6)],
  [(0, 0, 6), (0, 0, 2), (0, 0, 64), (1, 9, 49), (0, 0, 650), (0, 0, 1300), (0, 1, 2), (0, 0, 650), (0, 0, 240), (0, 0, 1200), (0, 0, 10), (0, 0, 18), (0, 0, 6), (0, 0, 6), (0, 0, 6), (0, 0, 3), (0, 0, 10), (0, 0, 10), (0, 0, 10), (0, 1, 10), (0, 0, 6), (0, 0, 6), (0, 0, 10), (0, 0, 10), (0, 0, 5), (0, 0, 5), (0, 0, 5), (0, 0, 1331), (0, 0, 1331), (0, 0, 19), (0, 0, 19), (0, 0, 10)],
  [(0, 0, 10)]]
def kc_N : Nat := 289
/-- a cell's shape: (0, kind, length) an array, (1, class, fields) an object -/
def kc_shp (k : Nat) : Option (Nat × Nat × Nat) := wk_at2 kc_sh k
def kc_rows (f : Nat → kc_V) (n : Nat) : List (List wk_V) := (List.range (n / 32 + 1)).map fun r => (List.range 32).map fun j => kc_e (f (32 * r + j))
theorem kc_rows_at (f : Nat → kc_V) (n j : Nat) (h : j ≤ n) : wk_at2 (kc_rows f n) j = some (kc_e (f j)) := by
  rw [wk_at2_eq]
  unfold kc_rows
  have h1 : j / 32 < n / 32 + 1 := by omega
  have h2 : j % 32 < 32 := Nat.mod_lt _ (by decide)
  rw [List.getElem?_map, List.getElem?_range h1]
  simp only [Option.map_some, Option.bind_some]
  rw [List.getElem?_map, List.getElem?_range h2]
  simp only [Option.map_some]
  rw [Nat.div_add_mod]
theorem kc_rows_r (f : Nat → kc_V) (n j : Nat) {v : wk_V} (h : wk_at2 (kc_rows f n) j = some v) : v = kc_e (f j) := by
  rw [wk_at2_eq] at h
  unfold kc_rows at h
  rw [List.getElem?_map] at h
  cases h1 : (List.range (n / 32 + 1))[j / 32]? with
  | none => rw [h1] at h; cases h
  | some r =>
    rw [h1] at h
    have e1 : r = j / 32 := (List.getElem?_eq_some_iff.mp h1).2 ▸ by rw [List.getElem_range]
    simp only [Option.map_some, Option.bind_some, List.getElem?_map] at h
    cases h2 : (List.range 32)[j % 32]? with
    | none => rw [h2] at h; cases h
    | some q =>
      rw [h2] at h
      have e2 : q = j % 32 := (List.getElem?_eq_some_iff.mp h2).2 ▸ by rw [List.getElem_range]
      simp only [Option.map_some, Option.some.injEq] at h
      rw [← h, e1, e2, Nat.div_add_mod]
def kc_C (h : kc_H) (k : Nat) : wk_C := match kc_shp k with
  | some (0, t, n) => .inl (t, n, kc_rows (h k) n)
  | some (_ + 1, ci, nf) => .inr (ci, (List.range nf).map fun j => kc_e (h k j))
  | none => .inr (1000, [])
def kc_A (h : kc_H) : wk_A := (kc_N, (List.range 10).map fun r => (List.range 32).map fun j => kc_C h (32 * r + j))
theorem kc_A_at (h : kc_H) (k : Nat) (hk : k < kc_N) : wk_at2 (kc_A h).2 k = some (kc_C h k) := by
  rw [wk_at2_eq]
  unfold kc_A
  have hk : k < 289 := hk
  have h1 : k / 32 < 10 := by omega
  have h2 : k % 32 < 32 := Nat.mod_lt _ (by decide)
  simp only
  rw [List.getElem?_map, List.getElem?_range h1]
  simp only [Option.map_some, Option.bind_some]
  rw [List.getElem?_map, List.getElem?_range h2]
  simp only [Option.map_some]
  rw [Nat.div_add_mod]
def kc_ix (v : kc_V) (n : Nat) : Option Nat := match v with
  | .inl a => if 0 ≤ a.toInt ∧ a.toInt < (n : Int) then some a.toInt.toNat else none
  | _ => none
theorem kc_ix_e {v : kc_V} {n j : Nat} (h : kc_ix v n = some j) : wk_nx [] (kc_e v) = some j ∧ j < n := by
  rcases v with a | b | r | i
  · have h : (if 0 ≤ a.toInt ∧ a.toInt < (n : Int) then some a.toInt.toNat else none) = some j := h
    split at h
    · rename_i hc
      cases h
      refine ⟨?_, by omega⟩
      show (match some (a.toInt, a.toInt) with
        | some (.ofNat a, .ofNat b) => if Nat.beq a b then some a else none
        | _ => none) = some a.toInt.toNat
      obtain ⟨n0, hn0⟩ := Int.eq_ofNat_of_zero_le hc.1
      rw [hn0]
      simp
    · cases h
  all_goals cases h
def kc_obj (v : kc_V) (ci f : Nat) : Option Nat := match v with
  | .inr (.inr (.inl (some k))) => match kc_shp k with
    | some (1, c, nf) => if k < kc_N ∧ c = ci ∧ ¬ c = 1000 ∧ f < nf then some k else none
    | _ => none
  | _ => none
theorem kc_obj_e {v : kc_V} {ci f k : Nat} (h : kc_obj v ci f = some k) : ∃ nf, v = .inr (.inr (.inl (some k))) ∧ kc_shp k = some (1, ci, nf) ∧ k < kc_N ∧ ¬ ci = 1000 ∧ f < nf := by
  unfold kc_obj at h
  split at h
  · split at h
    · rename_i k0 c nf hs
      split at h
      · rename_i hc
        cases h
        obtain ⟨h1, rfl, h2, h3⟩ := hc
        exact ⟨nf, rfl, hs, h1, h2, h3⟩
      · cases h
    · cases h
  · cases h
def kc_ary (v : kc_V) : Option (Nat × Nat × Nat) := match v with
  | .inr (.inr (.inl (some k))) => match kc_shp k with
    | some (0, t, n) => if k < kc_N then some (k, t, n) else none
    | _ => none
  | _ => none
theorem kc_ary_e {v : kc_V} {k t n : Nat} (h : kc_ary v = some (k, t, n)) : v = .inr (.inr (.inl (some k))) ∧ kc_shp k = some (0, t, n) ∧ k < kc_N := by
  unfold kc_ary at h
  split at h
  · split at h
    · rename_i k0 t0 n0 hs
      split at h
      · rename_i hc
        cases h
        exact ⟨rfl, hs, hc⟩
      · cases h
    · cases h
  · cases h
theorem kc_C_o {h : kc_H} {k ci nf : Nat} (hs : kc_shp k = some (1, ci, nf)) : kc_C h k = .inr (ci, (List.range nf).map fun j => kc_e (h k j)) := by
  unfold kc_C
  rw [hs]
theorem kc_C_a {h : kc_H} {k t n : Nat} (hs : kc_shp k = some (0, t, n)) : kc_C h k = .inl (t, n, kc_rows (h k) n) := by
  unfold kc_C
  rw [hs]
theorem kc_wobj {h : kc_H} {k ci nf : Nat} (hs : kc_shp k = some (1, ci, nf)) (hk : k < kc_N) (hc : ¬ ci = 1000) : wk_obj (kc_A h) (.inr (.inr (.inl (some k)))) = some (k, ci, (List.range nf).map fun j => kc_e (h k j)) := by
  show (match wk_cell (kc_A h) k with
    | some (.inr (ci, fs)) => some (k, ci, fs)
    | _ => none) = _
  have e : wk_cell (kc_A h) k = some (.inr (ci, (List.range nf).map fun j => kc_e (h k j))) := by
    unfold wk_cell
    rw [show Nat.blt k (kc_A h).1 = true from Nat.ble_eq_true_of_le hk, kc_A_at h k hk, kc_C_o hs]
    simp only [cond_true]
    rw [show wk_kn (.inr (ci, (List.range nf).map fun j => kc_e (h k j))) = true by
      show (bif Nat.beq ci 1000 then false else true) = true
      cases hb : Nat.beq ci 1000 with
      | true => exact absurd (Nat.eq_of_beq_eq_true hb) hc
      | false => rfl]
    rfl
  rw [e]
theorem kc_wary {h : kc_H} {k t n : Nat} (hs : kc_shp k = some (0, t, n)) (hk : k < kc_N) : wk_ary (kc_A h) (.inr (.inr (.inl (some k)))) = some (k, t, n, kc_rows (h k) n) := by
  show (match wk_cell (kc_A h) k with
    | some (.inl (t, n, vs)) => some (k, t, n, vs)
    | _ => none) = _
  have e : wk_cell (kc_A h) k = some (.inl (t, n, kc_rows (h k) n)) := by
    unfold wk_cell
    rw [show Nat.blt k (kc_A h).1 = true from Nat.ble_eq_true_of_le hk, kc_A_at h k hk, kc_C_a hs]
    rfl
  rw [e]
def kc_upd (h : kc_H) (k j : Nat) (w : kc_V) : kc_H := fun k' j' => if k' = k ∧ j' = j then w else h k' j'
def kc_cpy (h : kc_H) (b a m : Nat) : kc_H := fun k' j' => if k' = b ∧ j' < m then h a j' else h k' j'
/-- what an instruction does with the heap: how far it goes, the stack, the heap -/
def kc_heap (Lz : Nat) (sc : Nat → Int32) (i : Instr) (x : Nat × Nat × Int) (AS : List kc_V) (h : kc_H) : Option (Nat × List kc_V × kc_H) := match i, AS with
  | .getfield _, v :: AS => (kc_obj v x.1 x.2.1).map fun k => (3, h k x.2.1 :: AS, h)
  | .putfield _, w :: v :: AS => (kc_obj v x.1 x.2.1).bind fun k => if wk_fit [] x.2.2.toNat (kc_e w) then some (3, AS, kc_upd h k x.2.1 w) else none
  | .iaload, v :: .inr (.inr (.inr 0)) :: AS => (kc_ix v Lz).map fun j => (1, .inl (sc j) :: AS, h)
  | .iaload, v :: a :: AS => (kc_ary a).bind fun q => if q.2.1 = 0 then (kc_ix v q.2.2).map fun j => (1, h q.1 j :: AS, h) else none
  | .baload, v :: a :: AS => (kc_ary a).bind fun q => if q.2.1 = 1 then (kc_ix v q.2.2).map fun j => (1, h q.1 j :: AS, h) else none
  | .aaload, v :: a :: AS => (kc_ary a).bind fun q => if 2 ≤ q.2.1 then (kc_ix v q.2.2).map fun j => (1, h q.1 j :: AS, h) else none
  | .iastore, .inl w :: v :: a :: AS => (kc_ary a).bind fun q => if q.2.1 = 0 then (kc_ix v q.2.2).map fun j => (1, AS, kc_upd h q.1 j (.inl w)) else none
  | .bastore, w :: v :: a :: AS => (kc_ary a).bind fun q => if q.2.1 = 1 ∧ wk_fit [] 1 (kc_e w) then (kc_ix v q.2.2).map fun j => (1, AS, kc_upd h q.1 j w) else none
  | .arraylength, .inr (.inr (.inr 0)) :: AS => some (1, .inl (Int32.ofNat Lz) :: AS, h)
  | .arraylength, a :: AS => (kc_ary a).map fun q => (1, .inl (Int32.ofNat q.2.2) :: AS, h)
  | .invokestatic _, .inl n :: .inl dp :: b :: .inl sp :: a :: AS => if x.1 = 5 then (kc_ary b).bind fun q => (kc_ary a).bind fun q2 => if q.2.1 = 0 ∧ q2.2.1 = 0 ∧ n.toInt = (q.2.2 : Int) ∧ q2.2.2 = q.2.2 ∧ dp.toInt = 0 ∧ sp.toInt = 0 ∧ wk_cat (AS.map kc_e) ≤ 8 then some (3, AS, kc_cpy h q.1 q2.1 q.2.2) else none else none
  | _, _ => none
/-- min, abs, max -/
def kc_math (i : Instr) (x : Nat × Nat × Int) (AS : List kc_V) : Option (List kc_V) := match i, AS with
  | .invokestatic _, .inl b :: AS => if wk_cat (AS.map kc_e) ≤ 9 then (if x.1 = 7 then (if wk_cat (AS.map kc_e) ≤ 8 then some (.inl (if 0 ≤ b then b else 0 - b) :: AS) else none) else if x.1 = 6 then (match AS with
    | .inl a :: AS => if wk_cat (AS.map kc_e) ≤ 8 then some (.inl (if b < a then b else a) :: AS) else none
    | _ => none) else if x.1 = 8 then (match AS with
    | .inl a :: AS => if wk_cat (AS.map kc_e) ≤ 8 then some (.inl (if a < b then b else a) :: AS) else none
    | _ => none) else none) else none
  | _, _ => none
section KCH
variable {D : va_G} {A : Nat → Prop} {U : State} {as : List Nat} {z : Nat → Nat} {ρ : Nat → Int32} {ws : va_W} {H : Heap}
/-- a cell's meaning is kept -/
theorem kc_hr_of {h h' : kc_H} {k : Nat} {c' : wk_C} (hk : k < kc_N) (hr : wk_hr D A U as z ρ (wk_wr1 (kc_A h) (some (k, c')) []) ws H) (ho : ∀ j, ¬ j = k → kc_C h' j = kc_C h j) (he : ∀ e, wk_e U as z ρ c' e → wk_e U as z ρ (kc_C h' k) e) : wk_hr D A U as z ρ (kc_A h') ws H := by
  have hr : wk_hr D A U as z ρ ((kc_A h).1, wk_set2 (kc_A h).2 k c') ws H := hr
  refine ⟨hr.1, hr.2.1, hr.2.2.1, hr.2.2.2.1, fun j c hj hc => ?_⟩
  have hj : j < kc_N := hj
  rw [kc_A_at h' j hj] at hc
  cases hc
  have hat : wk_at2 (wk_set2 (kc_A h).2 k c') j = if j = k then some c' else some (kc_C h j) := by
    rw [wk_at2_set _ _ _ _ (by rw [kc_A_at h k hk]; rfl), kc_A_at h j hj]
  by_cases e : j = k
  · subst e
    rw [if_pos rfl] at hat
    obtain ⟨a, e, g1, g2⟩ := hr.2.2.2.2 j c' hj hat
    exact ⟨a, e, g1, he e g2⟩
  · rw [if_neg e] at hat
    obtain ⟨a, e2, g1, g2⟩ := hr.2.2.2.2 j _ hj hat
    exact ⟨a, e2, g1, by rw [ho j e]; exact g2⟩
theorem kc_C_ne {h h' : kc_H} {j : Nat} (hh : ∀ i, h' j i = h j i) : kc_C h' j = kc_C h j := by
  unfold kc_C
  have e : h' j = h j := funext hh
  rw [e]
theorem kc_hr_a {h h' : kc_H} {k t n : Nat} {vs : List (List wk_V)} (hs : kc_shp k = some (0, t, n)) (hk : k < kc_N) (hr : wk_hr D A U as z ρ (wk_wr1 (kc_A h) (some (k, .inl (t, n, vs))) []) ws H) (ho : ∀ j i, ¬ j = k → h' j i = h j i) (hv : ∀ j, j < n → wk_at2 vs j = some (kc_e (h' k j))) : wk_hr D A U as z ρ (kc_A h') ws H := by
  refine kc_hr_of hk hr (fun j hj => kc_C_ne (fun i => ho j i hj)) (fun e he => ?_)
  rw [kc_C_a hs]
  obtain ⟨cA, d, e1, e2, e3, e4⟩ := he
  refine ⟨cA, d, e1, e2, e3, ?_⟩
  by_cases ht : t < 2
  · obtain ⟨f, f1, f2⟩ := (wk_arr_i ht).mp e4
    refine (wk_arr_i ht).mpr ⟨f, f1, fun j v hj hv2 => ?_⟩
    rw [kc_rows_r _ _ _ hv2]
    exact f2 j _ hj (hv j hj)
  · obtain ⟨f, f1, f2⟩ := (wk_arr_q ht).mp e4
    refine (wk_arr_q ht).mpr ⟨f, f1, fun j v hj hv2 => ?_⟩
    rw [kc_rows_r _ _ _ hv2]
    exact f2 j _ hj (hv j hj)
theorem kc_hr_o {h h' : kc_H} {k ci nf : Nat} {fs : List wk_V} (hs : kc_shp k = some (1, ci, nf)) (hk : k < kc_N) (hr : wk_hr D A U as z ρ (wk_wr1 (kc_A h) (some (k, .inr (ci, fs))) []) ws H) (ho : ∀ j i, ¬ j = k → h' j i = h j i) (hv : fs = (List.range nf).map fun j => kc_e (h' k j)) : wk_hr D A U as z ρ (kc_A h') ws H := by
  refine kc_hr_of hk hr (fun j hj => kc_C_ne (fun i => ho j i hj)) (fun e he => ?_)
  rw [kc_C_o hs, ← hv]
  exact he
end KCH
theorem kc_upd_o {h : kc_H} {k f : Nat} {w : kc_V} (j i : Nat) (hj : ¬ j = k) : kc_upd h k f w j i = h j i := by
  unfold kc_upd
  rw [if_neg (fun q => hj q.1)]
theorem kc_upd_i {h : kc_H} {k f : Nat} {w : kc_V} (i : Nat) : kc_upd h k f w k i = if i = f then w else h k i := by
  unfold kc_upd
  by_cases e : i = f
  · rw [if_pos ⟨rfl, e⟩, if_pos e]
  · rw [if_neg (fun q => e q.2), if_neg e]
end
section
-- 52.ccall
/-! ===== the clean logic: a call, over any contract ===== -/
def kc_B (B : Option Value → State → Prop) (A : Nat → Prop) : Array Value → State → Outcome → State → Prop := fun _ st oc t => (∃ rx : Option Value, oc = .returned rx ∧ B rx t) ∧ va_F A st t
section KCC
variable {p : Program} {l : Launch} {e : Env} {R : Room} {s : State} {m : MethodId} {args : Array Value} {below : List Frame} {meth : Method} {c : Code} {H : Heap} {locs : List Loc} {cells slots : Nat} {Q : State → Prop}
variable {pc : Nat} {ls : Array Slot} {rest st0 : List Value} {a : Array Value} {A : Nat → Prop} {mc ms : Nat} {B : Option Value → State → Prop}
theorem kc_after (hr : va_Run p l e R s m args below meth c H locs cells slots mc ms (F0 m pc ls st0) rest (kc_B B A a) A) (hS : va_S A s.heap H locs)
    (kk : ∀ (rx : Option Value) (t : State) (locs1 : List Loc), B rx t → t.vm.Alike s.vm → va_S A s.heap t.heap locs1 → W p l e R s m args below meth c t.heap locs1 (cells + mc) (slots + ms) Q (F0 m (pc + 3) ls (rx.toList ++ rest))) : W p l e R s m args below meth c H locs cells slots Q (F0 m pc ls st0) := by
  intro T hT X
  obtain ⟨v, st₀, t, T', L, h0, X', hL, e1, e2, ⟨⟨rx, hv, hB⟩, hz, hk⟩, st⟩ := hr T hT X
  cases hv
  rw [h0] at hz hk
  have hal : t.vm.Alike s.vm := by rw [← e2]; exact X'.warmed.alike.symm
  obtain ⟨t2, a1, b1⟩ := kk v t (locs ++ L) hB hal
    ⟨Nat.le_trans hS.1 hz, fun q h1 h2 => by rw [hk q (Nat.lt_of_lt_of_le h1 hS.1) h2]; exact hS.2.1 q h1 h2, fun q hq => by
      rcases List.mem_append.mp hq with h | h
      · exact hS.2.2 q h
      · exact hL q h⟩ T' e1 X'
  exact ⟨t2, st t2 a1, b1⟩
end KCC
section KCCL
variable {p : Program} {l : Launch} {e : Env} {R : Room} {s : State} {m : MethodId} {args : Array Value} {below : List Frame} {meth : Method} {c : Code} {H : Heap} {locs : List Loc} {cells slots : Nat} {Q : State → Prop}
variable {cc : ByteArray} {pc : Nat} {ls : Array Slot} {y : MethodName} {nL Lz : Nat} {z : Nat → Nat} {D : va_G} {A : Nat → Prop} {as : List Nat} {ρ : Nat → Int32} {iv : wk_I} {AS : List wk_V} {AH : wk_A} {ws : va_W} {st : List Value} {x : Nat × Nat × Int} {mt : Nat → Option wk_M} {mw : wk_W}
theorem kc_call_ok (C : wk_cx p s m args meth c cc y nL D A z Lz ρ) (hmt : ∀ id M, mt id = some M → wk_okm mt mw id M = true) {i : Instr} {n : Nat} {wd : List Nat} {lv : List (Nat × Value)} (hd : decode cc pc = .ok (i, n)) (hlk : wk_lk i n = true) (hw : wk_okw mt y i x wd = true) (hoc : wk_okc mw i x = true) {M2 : wk_M} {av r : List wk_V} {B : Option Value → State → Prop} {d : Nat} (hc : wk_call mt i x AS AH = some (M2, av, r)) (hl : lv_has ls nL lv)
    (hM : ∀ vals, wk_f2 (wk_r as z ρ) av vals → Met l (wk_My M2) (wk_ws M2) (wk_rm M2 d) (wk_Pc D A z Lz ρ vals AH as ws) (kc_B B A) (wk_Mk M2) (wk_Ms M2) A)
    (hfr : d + 2 ≤ R.frames) (hlo : 300 + 200 * d ≤ R.locals) (hcells : cells + wk_Mk M2 ≤ R.cells) (hslots : slots + wk_Ms M2 ≤ R.slots) (hr : wk_hr D A s as z ρ AH ws H) (hS : va_S A s.heap H locs) (hs : wk_f2 (wk_r as z ρ) AS st)
    (kk : ∀ (rx : Option Value) (t : State) (locs1 : List Loc) (rest : List Value), wk_f2 (wk_r as z ρ) r rest → B rx t → t.vm.Alike s.vm → va_S A s.heap t.heap locs1 → W p l e R s m args below meth c t.heap locs1 (cells + wk_Mk M2) (slots + wk_Ms M2) Q (F0 m (pc + 3) ls (rx.toList ++ rest))) : W p l e R s m args below meth c H locs cells slots Q (F0 m pc ls st) := by
  have hCpre := fun vals U hU hW => wk_pre_U (AH := AH) (as := as) (H := H) (ws := ws) C hr hS vals U hU hW
  obtain ⟨hx, hb, hml, hown, hts, hK, hA, -⟩ := C
  unfold wk_call at hc
  cases hI : wk_isI i x.1 with
  | false => rw [hI] at hc; cases hc
  | true =>
    rw [hI] at hc
    simp only [if_true] at hc
    cases hm : mt x.2.1 with
    | none => rw [hm] at hc; cases hc
    | some M =>
      rw [hm] at hc
      simp only at hc
      cases ht : wk_take (wk_argn x.1 (wk_Mn M)) AS [] with
      | none => rw [ht] at hc; cases hc
      | some q =>
        obtain ⟨av0, r0⟩ := q
        rw [ht] at hc
        simp only at hc
        cases hcat : Nat.ble (wk_cat r0) 8 with
        | false => rw [hcat] at hc; cases hc
        | true =>
          rw [hcat] at hc
          simp only [if_true] at hc
          have hok := hmt _ _ hm
          unfold wk_okm at hok
          simp only [Bool.and_eq_true, decide_eq_true_eq] at hok
          obtain ⟨ok1, ⟨ok2, ok3, ok4⟩, ok5, ok6, -⟩ := hok
          have ok5 := Nat.le_of_ble_eq_true ok5
          have hR : (wk_rm M d).frames + 1 ≤ R.frames ∧ 8 + (wk_Ml M + 11) + (wk_rm M d).locals ≤ R.locals := ⟨by show d + 1 + 1 ≤ _; omega, by show 8 + (wk_Ml M + 11) + (100 + 200 * d) ≤ _; omega⟩
          obtain ⟨pre, e1, e2, e3⟩ := wk_take_r _ _ _ _ _ ht
          rw [List.append_nil] at e1
          subst e1
          rw [e2] at hs
          obtain ⟨m1, m2, rfl, hs1, hs2⟩ := wk_f2_split hs
          have hv := wk_f2_rev hs1
          rw [List.reverse_reverse] at hv
          have hsum : (m2.map fun v => v.category).sum ≤ 8 := by rw [← wk_cat_r hs2]; exact Nat.le_of_ble_eq_true hcat
          have hlenv := wk_f2_len hv
          rw [e3] at hlenv
          unfold wk_isI at hI
          split at hI
          · -- virtual
            rename_i idx ek
            rw [ek] at hc e3 hlenv
            obtain rfl := Nat.eq_of_beq_eq_true hlk
            have hk : Nat.beq (mw x.2.1).1 0 = true := by
              have h : (match Instr.invokevirtual idx, x.1 with
                | .invokevirtual _, 0 => Nat.beq (mw x.2.1).1 0
                | .invokestatic _, 1 => Nat.beq (mw x.2.1).1 1
                | .invokestatic _, 3 => Nat.beq (mw x.2.1).1 1
                | .invokespecial _, 2 => Nat.beq (mw x.2.1).1 2
                | _, _ => true) = true := hoc
              rw [ek] at h
              exact h
            rcases av0 with _ | ⟨v0, av1⟩
            · cases hc
            · simp only at hc
              cases hob : wk_obj AH v0 with
              | none => rw [hob] at hc; cases hc
              | some q =>
                obtain ⟨k0, ci, fs0⟩ := q
                rw [hob] at hc
                simp only at hc
                cases hci : Nat.beq ci (wk_Mc M) with
                | false => rw [hci] at hc; cases hc
                | true =>
                  rw [hci] at hc
                  cases hc
                  obtain rfl := Nat.eq_of_beq_eq_true hci
                  obtain ⟨b0, As, e4, hb0, hAs⟩ := wk_f2_cons hv
                  obtain ⟨a0, vs0, rfl, g1, g2, -⟩ := wk_obj_r hr hob hb0
                  have em : m1 = As.reverse ++ [.ref a0] := by
                    have := congrArg List.reverse e4
                    rw [List.reverse_reverse, List.reverse_cons] at this
                    exact this
                  subst em
                  rw [e4] at hv hlenv
                  obtain ⟨o1, o2, o3, o4, o5⟩ := wk_okk_0 ok6 (Nat.eq_of_beq_eq_true hk)
                  match wd, hw with
                  | [q1], hw =>
                    have hw : (Nat.beq x.1 0 && match mt x.2.1 with
                      | some M => wk_has q1 (.methodLink y.cls idx (wk_My M))
                      | none => false) = true := hw
                    rw [hm, Bool.and_eq_true] at hw
                    have hlink := wk_has_in hw.2
                    obtain ⟨qc, hqc1, hqc2⟩ := Option.map_eq_some_iff.mp o5
                    have hcl : wk_cl[wk_Mc M2]? = some (qc.1, wk_T qc, qc.2.length) := by unfold wk_cl; rw [List.getElem?_map, hqc1]; rfl
                    have hrecv := va_recv hK.1 hr.1 hcl g1
                    rw [hqc2] at hrecv
                    rw [List.append_assoc]
                    refine kc_after (rest := m2) (va_runV (As := As) (rest := m2) ⟨hx, hb, hml, hown, hts⟩ (hM _ hv) (cwV (wk_Mn M2) hts (wk_gd (fun w hw => ?_)) rfl rfl rfl ⟨rfl, ok2, ok3, ok4⟩ hR) ⟨wk_blind, hrecv, fun U hU hW => hCpre _ U hU hW⟩ rfl ?_ hl.1 rfl (lv_room hsum) hd ⟨hcells, hslots⟩) hS (fun rx t locs1 h1 h2 h3 => kk rx t locs1 m2 hs2 h1 h2 h3)
                    · unfold wsV at hw
                      simp only [List.cons_append, List.nil_append, List.mem_cons] at hw
                      rcases hw with rfl | rfl | rfl | rfl | hw
                      · exact hlink
                      · exact o3
                      · exact o4
                      · exact o2
                      · exact wk_ws_in o1 w hw
                    · have : wk_Mn M2 + 1 = As.length + 1 := hlenv
                      omega
                  | [], hw => cases hw
                  | _ :: _ :: _, hw => cases hw
          · -- static
            rename_i idx ek
            rw [ek] at hc e3 hlenv
            obtain rfl := Nat.eq_of_beq_eq_true hlk
            have hk : Nat.beq (mw x.2.1).1 1 = true := by
              have h : (match Instr.invokestatic idx, x.1 with
                | .invokevirtual _, 0 => Nat.beq (mw x.2.1).1 0
                | .invokestatic _, 1 => Nat.beq (mw x.2.1).1 1
                | .invokestatic _, 3 => Nat.beq (mw x.2.1).1 1
                | .invokespecial _, 2 => Nat.beq (mw x.2.1).1 2
                | _, _ => true) = true := hoc
              rw [ek] at h
              exact h
            cases hc
            obtain ⟨o1, o2, o3⟩ := wk_okk_1 ok6 (Nat.eq_of_beq_eq_true hk)
            match wd, hw with
            | [q1], hw =>
              have hw : (match mt x.2.1 with
                | some M => (Nat.beq x.1 1 && wk_has q1 (.methodLink y.cls idx (wk_My M))) || (Nat.beq x.1 3 && wk_nst q1 (.methodLinkNest y.cls idx (wk_My M) "EvenSides"))
                | none => false) = true := hw
              rw [hm, ek] at hw
              simp only [Bool.or_eq_true, Bool.and_eq_true] at hw
              have hw := hw.resolve_right (fun q => absurd q.1 (by decide))
              have hlink := wk_has_in hw.2
              have em : m1 = m1.reverse.reverse := (List.reverse_reverse m1).symm
              refine kc_after (rest := m2) (va_runS (As := m1.reverse) (rest := m2) ⟨hx, hb, hml, hown, hts⟩ (hM _ hv) (va_cwS (wk_Mn M2) hts (wk_gd (fun w hw => ?_)) rfl rfl rfl ⟨ok2, ok3, ok4⟩ hR) ⟨wk_blind, fun U hU hW => hCpre _ U hU hW⟩ rfl ?_ hl.1 (by show m1 ++ m2 = _; rw [List.reverse_reverse]) (lv_room hsum) hd ⟨hcells, hslots⟩) hS (fun rx t locs1 h1 h2 h3 => kk rx t locs1 m2 hs2 h1 h2 h3)
              · unfold va_wsS at hw
                simp only [List.cons_append, List.nil_append, List.mem_cons] at hw
                rcases hw with rfl | rfl | rfl | hw
                · exact hlink
                · exact o3
                · exact o2
                · exact wk_ws_in o1 w hw
              · exact hlenv.symm
            | [q1, q2, q3, q4], hw =>
              have hw : (match x.1 with
                | 5 => wk_has q1 (.methodLink y.cls idx wk_acn) && (wk_has q2 (.native wk_acn) && (wk_has q3 (.static wk_acn) && wk_has q4 (.initialized "java/lang/System")))
                | 6 => wk_has q1 (.methodLink y.cls idx Lib.Math.min.name) && (wk_has q2 (.code Lib.Math.min.name Lib.Math.min.code 2 (some .int)) && (wk_has q3 (.static Lib.Math.min.name) && wk_has q4 (.initialized "java/lang/Math")))
                | 7 => wk_has q1 (.methodLink y.cls idx Lib.Math.abs.name) && (wk_has q2 (.code Lib.Math.abs.name Lib.Math.abs.code 1 (some .int)) && (wk_has q3 (.static Lib.Math.abs.name) && wk_has q4 (.initialized "java/lang/Math")))
                | 8 => wk_has q1 (.methodLink y.cls idx Lib.Math.max.name) && (wk_has q2 (.code Lib.Math.max.name Lib.Math.max.code 2 (some .int)) && (wk_has q3 (.static Lib.Math.max.name) && wk_has q4 (.initialized "java/lang/Math")))
                | _ => false) = true := hw
              rw [ek] at hw
              cases hw
            | [], hw => cases hw
            | [_, _], hw => cases hw
            | [_, _, _], hw => cases hw
            | _ :: _ :: _ :: _ :: _ :: _, hw => cases hw
          · -- a constructor
            rename_i idx ek
            rw [ek] at hc e3 hlenv
            obtain rfl := Nat.eq_of_beq_eq_true hlk
            have hk : Nat.beq (mw x.2.1).1 2 = true := by
              have h : (match Instr.invokespecial idx, x.1 with
                | .invokevirtual _, 0 => Nat.beq (mw x.2.1).1 0
                | .invokestatic _, 1 => Nat.beq (mw x.2.1).1 1
                | .invokestatic _, 3 => Nat.beq (mw x.2.1).1 1
                | .invokespecial _, 2 => Nat.beq (mw x.2.1).1 2
                | _, _ => true) = true := hoc
              rw [ek] at h
              exact h
            rcases av0 with _ | ⟨v0, av1⟩
            · cases hc
            · simp only at hc
              cases hisr : (wk_isr v0 && !wk_scr v0) with
              | false => rw [hisr] at hc; cases hc
              | true =>
                rw [hisr] at hc
                cases hc
                rw [Bool.and_eq_true] at hisr
                obtain ⟨b0, As, e4, hb0, hAs⟩ := wk_f2_cons hv
                obtain ⟨a0, rfl⟩ := wk_isr_r hisr.1 hb0
                have em : m1 = As.reverse ++ [.ref a0] := by
                  have := congrArg List.reverse e4
                  rw [List.reverse_reverse, List.reverse_cons] at this
                  exact this
                subst em
                rw [e4] at hv hlenv
                obtain ⟨o1, o2, o3, o4, o5⟩ := wk_okk_2 ok6 (Nat.eq_of_beq_eq_true hk)
                match wd, hw with
                | [q1], hw =>
                  have hw : (Nat.beq x.1 2 && match mt x.2.1 with
                    | some M => wk_has q1 (.methodLink y.cls idx (wk_My M))
                    | none => false) = true := hw
                  rw [hm, Bool.and_eq_true] at hw
                  have hlink := wk_has_in hw.2
                  rw [List.append_assoc]
                  refine kc_after (rest := m2) (va_runI (As := As) (rest := m2) ⟨hx, hb, hml, hown, hts⟩ (hM _ hv) (cwI (wk_Mn M2) hts (wk_gd (wk_ws_in o1)) (by unfold wk_ws; rw [o5]) rfl rfl (hts _ o2) (hts _ hlink) (hts _ o3) o4 ⟨ok2, ok3, ok4⟩ hR) ⟨wk_blind, fun U hU hW => hCpre _ U hU hW⟩ rfl ?_ hl.1 rfl (lv_room hsum) hd ⟨hcells, hslots⟩) hS (fun rx t locs1 h1 h2 h3 => kk rx t locs1 m2 hs2 h1 h2 h3)
                  have : wk_Mn M2 + 1 = As.length + 1 := hlenv
                  omega
                | [_, _, _], hw =>
                  have hw : (Nat.beq x.1 4 && _) = true := hw
                  rw [Bool.and_eq_true, ek] at hw
                  exact absurd hw.1 (by decide)
                | [], hw => cases hw
                | [_, _], hw => cases hw
                | _ :: _ :: _ :: _ :: _, hw => cases hw
          · -- a nest mate's
            rename_i idx ek
            rw [ek] at hc e3 hlenv
            obtain rfl := Nat.eq_of_beq_eq_true hlk
            have hk : Nat.beq (mw x.2.1).1 1 = true := by
              have h : (match Instr.invokestatic idx, x.1 with
                | .invokevirtual _, 0 => Nat.beq (mw x.2.1).1 0
                | .invokestatic _, 1 => Nat.beq (mw x.2.1).1 1
                | .invokestatic _, 3 => Nat.beq (mw x.2.1).1 1
                | .invokespecial _, 2 => Nat.beq (mw x.2.1).1 2
                | _, _ => true) = true := hoc
              rw [ek] at h
              exact h
            cases hc
            obtain ⟨o1, o2, o3⟩ := wk_okk_1 ok6 (Nat.eq_of_beq_eq_true hk)
            match wd, hw with
            | [q1], hw =>
              have hw : (match mt x.2.1 with
                | some M => (Nat.beq x.1 1 && wk_has q1 (.methodLink y.cls idx (wk_My M))) || (Nat.beq x.1 3 && wk_nst q1 (.methodLinkNest y.cls idx (wk_My M) "EvenSides"))
                | none => false) = true := hw
              rw [hm, ek] at hw
              simp only [Bool.or_eq_true, Bool.and_eq_true] at hw
              have hw := hw.resolve_left (fun q => absurd q.1 (by decide))
              have hn9 := hw.2
              unfold wk_nst at hn9
              rw [decide_eq_true_eq] at hn9
              have hnest : va_Nw (.methodLinkNest y.cls idx (wk_My M2) "EvenSides") s := hK.2.1 _ _ _ _ (List.mem_of_getElem? hn9)
              refine kc_after (rest := m2) (va_runSN (As := m1.reverse) (rest := m2) ⟨hx, hb, hml, hown, hts⟩ (hM _ hv) ⟨va_cnB (wk_Mn M2) hts (wk_gd (wk_ws_in o1)) rfl rfl rfl hnest (hts _ o2) ⟨ok2, ok3, ok4⟩ hR, hts _ o3, trivial⟩ ⟨wk_blind, fun U hU hW => hCpre _ U hU hW⟩ rfl ?_ hl.1 (by show m1 ++ m2 = _; rw [List.reverse_reverse]) (lv_room hsum) hd ⟨hcells, hslots⟩) hS (fun rx t locs1 h1 h2 h3 => kk rx t locs1 m2 hs2 h1 h2 h3)
              exact hlenv.symm
            | [q1, q2, q3, q4], hw =>
              have hw : (match x.1 with
                | 5 => wk_has q1 (.methodLink y.cls idx wk_acn) && (wk_has q2 (.native wk_acn) && (wk_has q3 (.static wk_acn) && wk_has q4 (.initialized "java/lang/System")))
                | 6 => wk_has q1 (.methodLink y.cls idx Lib.Math.min.name) && (wk_has q2 (.code Lib.Math.min.name Lib.Math.min.code 2 (some .int)) && (wk_has q3 (.static Lib.Math.min.name) && wk_has q4 (.initialized "java/lang/Math")))
                | 7 => wk_has q1 (.methodLink y.cls idx Lib.Math.abs.name) && (wk_has q2 (.code Lib.Math.abs.name Lib.Math.abs.code 1 (some .int)) && (wk_has q3 (.static Lib.Math.abs.name) && wk_has q4 (.initialized "java/lang/Math")))
                | 8 => wk_has q1 (.methodLink y.cls idx Lib.Math.max.name) && (wk_has q2 (.code Lib.Math.max.name Lib.Math.max.code 2 (some .int)) && (wk_has q3 (.static Lib.Math.max.name) && wk_has q4 (.initialized "java/lang/Math")))
                | _ => false) = true := hw
              rw [ek] at hw
              cases hw
            | [], hw => cases hw
            | [_, _], hw => cases hw
            | [_, _, _], hw => cases hw
            | _ :: _ :: _ :: _ :: _ :: _, hw => cases hw
          · cases hI
end KCCL
end
section
-- 53.cev
/-! ===== the clean logic: what is said of the machine at a place; the rules ===== -/
/-- launch, tables, free addresses, the script's address and length, the script -/
abbrev kc_G : Type := Launch × va_G × (Nat → Prop) × (Nat → Nat) × Nat × (Nat → Int32)
def kc_gD (g : kc_G) : va_G := g.2.1
def kc_gA (g : kc_G) : Nat → Prop := g.2.2.1
def kc_gz (g : kc_G) : Nat → Nat := g.2.2.2.1
def kc_gL (g : kc_G) : Nat := g.2.2.2.2.1
def kc_gs (g : kc_G) : Nat → Int32 := g.2.2.2.2.2
def kc_fix (g : kc_G) (d : Nat) (M : wk_M) (p : Program) (R : Room) (s : State) (m : MethodId) (args : Array Value) (meth : Method) (c : Code) : Prop :=
  wk_cx p s m args meth c (wk_Mb M) (wk_My M) (wk_Ml M) (kc_gD g) (kc_gA g) (kc_gz g) (kc_gL g) (kc_gs g) ∧ meth.sig.returnType = wk_Mr M ∧ meth.locks = false ∧ d + 1 ≤ R.frames ∧ 100 + 200 * d ≤ R.locals ∧ ∀ r ∈ wk_Mx M, ∀ row ∈ r, wk_okx wk_mt wk_mw (wk_My M) (wk_Mb M) row = true
/-- what is returned, and the heap -/
def kc_Bq (g : kc_G) (Q : Option kc_V → kc_H → Prop) (as : List Nat) : Option Value → State → Prop := fun rx t =>
  ∃ (rv : Option kc_V) (h : kc_H) (ws : va_W), Q rv h ∧ wk_rv as (kc_gz g) (kc_gs g) (rv.map kc_e) rx ∧ wk_hr (kc_gD g) (kc_gA g) t as (kc_gz g) (kc_gs g) (kc_A h) ws t.heap
def kc_Ev (g : kc_G) (d : Nat) (M : wk_M) (Q : Option kc_V → kc_H → Prop) (pc : Nat) (AL : kc_L) (AS : List kc_V) (h : kc_H) : Prop :=
  ∀ (p : Program) (e : Env) (R : Room) (s : State) (m : MethodId) (args : Array Value) (below : List Frame) (meth : Method) (c : Code) (as : List Nat), kc_fix g d M p R s m args meth c → ∀ (H : Heap) (locs : List Loc) (ws : va_W) (ls : Array Slot) (lv : List (Nat × Value)) (st : List Value), va_S (kc_gA g) s.heap H locs → wk_hr (kc_gD g) (kc_gA g) s as (kc_gz g) (kc_gs g) (kc_A h) ws H → lv_has ls (wk_Ml M) lv → wk_f2 (wk_rl as (kc_gz g) (kc_gs g)) (kc_el AL) lv → wk_f2 (wk_r as (kc_gz g) (kc_gs g)) (AS.map kc_e) st → W p g.1 e R s m args below meth c H locs 0 0 (MQ below (kc_B (kc_Bq g Q as) (kc_gA g)) args s 0 0 (kc_gA g)) (F0 m pc ls st)
section KCE
variable {g : kc_G} {d : Nat} {M : wk_M} {Q : Option kc_V → kc_H → Prop} {pc : Nat} {AL : kc_L} {AS : List kc_V} {h : kc_H} {i : Instr} {n : Nat} {x : Nat × Nat × Int} {wd : List Nat} {t : Nat} {a : Int}
theorem kc_row {p : Program} {R : Room} {s : State} {m : MethodId} {args : Array Value} {meth : Method} {c : Code} (hF : kc_fix g d M p R s m args meth c) (hf : wk_fetch M pc = some (pc, i, n, x, wd, t, a)) : decode (wk_Mb M) pc = .ok (i, n) ∧ wk_lk i n = true ∧ wk_okw wk_mt (wk_My M) i x wd = true ∧ wk_okt i x pc t a = true ∧ wk_okc wk_mw i x = true := by
  obtain ⟨e0, r0, hr0, hrow0⟩ := wk_fetch_r hf
  have hok := hF.2.2.2.2.2 r0 hr0 _ hrow0
  unfold wk_okx at hok
  simp only [Bool.and_eq_true, decide_eq_true_eq] at hok
  exact hok
set_option maxHeartbeats 1000000 in
theorem kc_pure_ok (hf : wk_fetch M pc = some (pc, i, n, x, wd, t, a)) {P : kc_P} (hp : kc_pure (wk_Ml M) i x.2.2 pc AL AS = some P) (k : kc_Ev g d M Q P.1 P.2.1 P.2.2 h) : kc_Ev g d M Q pc AL AS h := by
  intro p e R s m args below meth c as hF H locs ws ls lv st hS hr hl ha hs
  obtain ⟨hd, hlk, hw, hot, hoc⟩ := kc_row hF hf
  have C := hF.1
  obtain ⟨hx, hb, hml, hown, hts, hK, hA, hname, hX, hz, hzA, hLz⟩ := id C
  have hc1 : ∀ idx, i = .ldc idx ∨ i = .ldc_w idx → (Jvm.Cond.constant (wk_My M).cls idx (Int32.ofInt x.2.2)).before args s = true := by
    intro idx hi
    rcases hi with rfl | rfl
    · match wd, hw with
      | [q1], hw => exact hts _ (wk_has_in hw)
      | [], hw => cases hw
      | _ :: _ :: _, hw => cases hw
    · match wd, hw with
      | [q1], hw => exact hts _ (wk_has_in hw)
      | [], hw => cases hw
      | _ :: _ :: _, hw => cases hw
  have hc2 : ∀ idx, i = .ldc2_w idx → (Jvm.Cond.constantLong (wk_My M).cls idx (Int64.ofInt x.2.2)).before args s = true := by
    rintro idx rfl
    match wd, hw with
    | [q1], hw => exact hts _ (wk_has_in hw)
    | [], hw => cases hw
    | _ :: _ :: _, hw => cases hw
  have hbx : wk_bx (fun _ => 0) ([] : wk_I) := fun j q hj => by simp at hj
  exact wk_pure_ok (ρ := fun _ => 0) (iv := []) hx hb hown hd hlk hc1 hc2 hbx (by decide) (kc_pure_e hp) hl (kc_rhoL ha) (kc_rhoS hs) (fun ls' lv' st' hl' ha' hs' => k p e R s m args below meth c as hF H locs ws ls' lv' st' hS hr hl' (kc_rhoL ha') (kc_rhoS hs'))
theorem kc_same {D : va_G} {A : Nat → Prop} {U : State} {as more : List Nat} {z : Nat → Nat} {ρ : Nat → Int32} {ws : va_W} {H : Heap} {AH : wk_A} {ws0 : va_W} {H0 : Heap} (h0 : wk_hr D A U as z ρ (kc_A h) ws0 H0) (hr : wk_hr D A U (as ++ more) z ρ AH ws H) (hn : AH.1 = kc_N) : more = [] := by
  have e1 := congrArg List.length hr.2.2.2.1
  have e2 := congrArg List.length h0.2.2.2.1
  have e3 := h0.2.2.1
  have e4 := hr.2.2.1
  rw [List.length_map, List.length_append] at e1
  rw [List.length_map] at e2
  have e5 : (kc_A h).1 = kc_N := rfl
  exact List.length_eq_zero_iff.mp (by omega)
/-- a step over the heap, out of the engine's -/
theorem kc_hp_ok (hf : wk_fetch M pc = some (pc, i, n, x, wd, t, a)) {r : wk_H} (hp : wk_hp (kc_gL g) [] i x (AS.map kc_e) (kc_A h) = some r) (hnew : r.2.2.2 = ([], 0, 0))
    (k : ∀ (D : va_G) (A : Nat → Prop) (U : State) (as : List Nat) (z : Nat → Nat) (ws : va_W) (H : Heap) (st : List Value), wk_hr D A U as z (kc_gs g) (wk_wr1 (kc_A h) r.2.2.1 []) ws H → wk_f2 (wk_r as z (kc_gs g)) r.2.1 st → ∃ (AS' : List kc_V) (h' : kc_H), wk_hr D A U as z (kc_gs g) (kc_A h') ws H ∧ wk_f2 (wk_r as z (kc_gs g)) (AS'.map kc_e) st ∧ kc_Ev g d M Q (pc + r.1) AL AS' h') : kc_Ev g d M Q pc AL AS h := by
  intro p e R s m args below meth c as hF H locs ws ls lv st hS hr hl ha hs
  obtain ⟨hd, hlk, hw, hot, hoc⟩ := kc_row hF hf
  have hbx : wk_bx (kc_gs g) ([] : wk_I) := fun j q hj => by simp at hj
  obtain ⟨dd, AS2, w, nw, dc, ds⟩ := r
  cases hnew
  refine wk_hp_ok hF.1 hbx hd hlk hw hp hl (Nat.le_trans (by omega) hF.2.2.2.1) (Nat.le_trans (by omega) hF.2.2.2.2.1) rfl (Nat.zero_le _) (Nat.zero_le _) hr hS hs (fun H' locs' more ws' st' hS' hr' hs' hsame => ?_)
  have hmore : more = [] := by
    refine kc_same hr hr' ?_
    cases w <;> rfl
  subst hmore
  rw [List.append_nil] at hr' hs'
  obtain ⟨AS', h', g1, g2, g3⟩ := k _ _ _ _ _ _ _ _ hr' hs'
  exact g3 p e R s m args below meth c as hF H' locs' ws' ls lv st' hS' g1 hl ha g2
end KCE
end
section
-- 54.crules
/-! ===== the clean logic: the rules of the heap, of returns, of calls ===== -/
theorem kc_rg (f : Nat → wk_V) (nf j : Nat) (h : j < nf) : wk_at ((List.range nf).map f) j = some (f j) := by
  rw [wk_at_eq, List.getElem?_map, List.getElem?_range h]
  rfl
theorem kc_blt {a b : Nat} (h : a < b) : Nat.blt a b = true := Nat.ble_eq_true_of_le h
theorem kc_beq (a : Nat) : Nat.beq a a = true := Nat.beq_refl a
section KCR
variable {g : kc_G} {d : Nat} {M : wk_M} {Q : Option kc_V → kc_H → Prop} {pc : Nat} {AL : kc_L} {AS AS' : List kc_V} {h h' : kc_H} {i : Instr} {n : Nat} {x : Nat × Nat × Int} {wd : List Nat} {t : Nat} {a : Int} {dd : Nat}
set_option maxHeartbeats 4000000 in
theorem kc_heap_ok (hf : wk_fetch M pc = some (pc, i, n, x, wd, t, a)) (hp : kc_heap (kc_gL g) (kc_gs g) i x AS h = some (dd, AS', h')) (k : kc_Ev g d M Q (pc + dd) AL AS' h') : kc_Ev g d M Q pc AL AS h := by
  unfold kc_heap at hp
  split at hp
  · rename_i idx v AS
    cases ho : kc_obj v x.1 x.2.1 with
    | none => rw [ho] at hp; cases hp
    | some k0 =>
      rw [ho] at hp
      cases hp
      obtain ⟨nf, rfl, hs, hk, hc, hlt⟩ := kc_obj_e ho
      refine kc_hp_ok (r := (3, kc_e (h k0 x.2.1) :: AS.map kc_e, none, [], 0, 0)) hf ?_ rfl (fun D A U as z ws H st hr hst => ⟨h k0 x.2.1 :: AS, h, hr, hst, k⟩)
      show wk_getf x (.inr (.inr (.inl (some k0)))) (AS.map kc_e) (kc_A h) = _
      unfold wk_getf
      rw [kc_wobj hs hk hc]
      simp only [kc_beq, cond_true, kc_rg _ _ _ hlt]
      rfl
  · rename_i idx w v AS
    cases ho : kc_obj v x.1 x.2.1 with
    | none => rw [ho] at hp; cases hp
    | some k0 =>
      rw [ho] at hp
      simp only [Option.bind_some] at hp
      split at hp
      · rename_i hfit
        cases hp
        obtain ⟨nf, rfl, hs, hk, hc, hlt⟩ := kc_obj_e ho
        refine kc_hp_ok (r := (3, AS'.map kc_e, some (k0, .inr (x.1, ((List.range nf).map fun j => kc_e (h k0 j)).set x.2.1 (kc_e w))), [], 0, 0)) hf ?_ rfl (fun D A U as z ws H st hr hst => ⟨AS', _, kc_hr_o hs hk hr (fun j i hj => kc_upd_o j i hj) ?_, hst, k⟩)
        · show wk_putf [] x (kc_e w) (.inr (.inr (.inl (some k0)))) (AS'.map kc_e) (kc_A h) = _
          unfold wk_putf
          rw [kc_wobj hs hk hc]
          simp only [kc_beq, kc_rg _ _ _ hlt, Option.isSome_some, Bool.true_and, hfit, cond_true, wk_put_eq]
          rfl
        · refine List.ext_getElem? fun j => ?_
          rw [List.getElem?_set, List.length_map, List.length_range]
          by_cases hj : j < nf
          · rw [List.getElem?_map, List.getElem?_range hj, List.getElem?_map, List.getElem?_range hj]
            simp only [Option.map_some, kc_upd_i]
            by_cases e : x.2.1 = j
            · rw [if_pos e, if_pos (by omega), if_pos e.symm]
            · rw [if_neg e, if_neg (fun q => e q.symm)]
          · rw [List.getElem?_eq_none (by rw [List.length_map, List.length_range]; omega), List.getElem?_eq_none (by rw [List.length_map, List.length_range]; omega), if_neg (by omega)]
      · cases hp
  · rename_i v AS
    cases hi : kc_ix v (kc_gL g) with
    | none => rw [hi] at hp; cases hp
    | some j =>
      rw [hi] at hp
      cases hp
      obtain ⟨h1, h2⟩ := kc_ix_e hi
      refine kc_hp_ok (r := (1, .inr (.inr (.inr (0, j))) :: AS.map kc_e, none, [], 0, 0)) hf ?_ rfl (fun D A U as z ws H st hr hst => ⟨.inl (kc_gs g j) :: AS, h, hr, ?_, k⟩)
      · show wk_ild (kc_gL g) [] (kc_e v) (.inr (.inr (.inr (2, 0)))) (AS.map kc_e) (kc_A h) = _
        unfold wk_ild
        rw [h1]
        simp only [wk_scr, cond_true, kc_blt h2]
        rfl
      · obtain ⟨y0, st1, rfl, hv, hs1⟩ := wk_f2_cons hst
        have hv : y0 = .int (kc_gs g j) := hv
        subst hv
        exact ⟨⟨_, rfl, Int.le_refl _, Int.le_refl _⟩, hs1⟩
  · rename_i v q AS hne
    cases ho : kc_ary q with
    | none => rw [ho] at hp; cases hp
    | some r0 =>
      obtain ⟨k0, t0, n0⟩ := r0
      rw [ho] at hp
      simp only [Option.bind_some] at hp
      split at hp
      · rename_i ht
        cases hi : kc_ix v n0 with
        | none => rw [hi] at hp; cases hp
        | some j =>
          rw [hi] at hp
          cases hp
          obtain ⟨rfl, hs, hk⟩ := kc_ary_e ho
          obtain ⟨h1, h2⟩ := kc_ix_e hi
          refine kc_hp_ok (r := (1, kc_e (h k0 j) :: AS.map kc_e, none, [], 0, 0)) hf ?_ rfl (fun D A U as z ws H st hr hst => ⟨h k0 j :: AS, h, hr, hst, k⟩)
          show wk_ild (kc_gL g) [] (kc_e v) (.inr (.inr (.inl (some k0)))) (AS.map kc_e) (kc_A h) = _
          unfold wk_ild
          rw [h1, kc_wary hs hk, ht]
          simp only [wk_scr, cond_false, kc_beq, kc_blt h2, Bool.true_and, cond_true, kc_rows_at _ _ _ (Nat.le_of_lt h2)]
          rfl
      · cases hp
  · rename_i v q AS
    cases ho : kc_ary q with
    | none => rw [ho] at hp; cases hp
    | some r0 =>
      obtain ⟨k0, t0, n0⟩ := r0
      rw [ho] at hp
      simp only [Option.bind_some] at hp
      split at hp
      · rename_i ht
        cases hi : kc_ix v n0 with
        | none => rw [hi] at hp; cases hp
        | some j =>
          rw [hi] at hp
          cases hp
          obtain ⟨rfl, hs, hk⟩ := kc_ary_e ho
          obtain ⟨h1, h2⟩ := kc_ix_e hi
          refine kc_hp_ok (r := (1, kc_e (h k0 j) :: AS.map kc_e, none, [], 0, 0)) hf ?_ rfl (fun D A U as z ws H st hr hst => ⟨h k0 j :: AS, h, hr, hst, k⟩)
          show wk_bld [] (kc_e v) (.inr (.inr (.inl (some k0)))) (AS.map kc_e) (kc_A h) = _
          unfold wk_bld
          rw [h1, kc_wary hs hk, ht]
          simp only [kc_beq, kc_blt h2, Bool.true_and, cond_true, kc_rows_at _ _ _ (Nat.le_of_lt h2)]
          rfl
      · cases hp
  · rename_i v q AS
    cases ho : kc_ary q with
    | none => rw [ho] at hp; cases hp
    | some r0 =>
      obtain ⟨k0, t0, n0⟩ := r0
      rw [ho] at hp
      simp only [Option.bind_some] at hp
      split at hp
      · rename_i ht
        cases hi : kc_ix v n0 with
        | none => rw [hi] at hp; cases hp
        | some j =>
          rw [hi] at hp
          cases hp
          obtain ⟨rfl, hs, hk⟩ := kc_ary_e ho
          obtain ⟨h1, h2⟩ := kc_ix_e hi
          refine kc_hp_ok (r := (1, kc_e (h k0 j) :: AS.map kc_e, none, [], 0, 0)) hf ?_ rfl (fun D A U as z ws H st hr hst => ⟨h k0 j :: AS, h, hr, hst, k⟩)
          show wk_ald [] (kc_e v) (.inr (.inr (.inl (some k0)))) (AS.map kc_e) (kc_A h) = _
          unfold wk_ald
          rw [h1, kc_wary hs hk]
          simp only [show Nat.ble 2 t0 = true from Nat.ble_eq_true_of_le ht, kc_blt h2, Bool.true_and, cond_true, kc_rows_at _ _ _ (Nat.le_of_lt h2)]
          rfl
      · cases hp
  · rename_i w v q AS
    cases ho : kc_ary q with
    | none => rw [ho] at hp; cases hp
    | some r0 =>
      obtain ⟨k0, t0, n0⟩ := r0
      rw [ho] at hp
      simp only [Option.bind_some] at hp
      split at hp
      · rename_i ht
        cases hi : kc_ix v n0 with
        | none => rw [hi] at hp; cases hp
        | some j =>
          rw [hi] at hp
          cases hp
          obtain ⟨rfl, hs, hk⟩ := kc_ary_e ho
          obtain ⟨h1, h2⟩ := kc_ix_e hi
          have hat := kc_rows_at (h k0) n0 j (Nat.le_of_lt h2)
          refine kc_hp_ok (r := (1, AS'.map kc_e, some (k0, .inl (t0, n0, wk_set2 (kc_rows (h k0) n0) j (kc_e (.inl w)))), [], 0, 0)) hf ?_ rfl (fun D A U as z ws H st hr hst => ⟨AS', _, kc_hr_a hs hk hr (fun j i hj => kc_upd_o j i hj) (fun j2 hj2 => ?_), hst, k⟩)
          · show wk_ist [] (kc_e (.inl w)) (kc_e v) (.inr (.inr (.inl (some k0)))) (AS'.map kc_e) (kc_A h) = _
            unfold wk_ist
            rw [h1, kc_wary hs hk, ht]
            simp only [kc_beq, kc_blt h2, Bool.true_and, hat, Option.isSome_some, show (wk_gi [] (kc_e (.inl w))).isSome = true from rfl, cond_true, wk_put2_eq]
            rfl
          · rw [wk_at2_set _ _ _ _ (by rw [hat]; rfl), kc_upd_i]
            by_cases e : j2 = j
            · rw [if_pos e, if_pos e]
            · rw [if_neg e, if_neg e]
              exact kc_rows_at _ _ _ (Nat.le_of_lt hj2)
      · cases hp
  · rename_i w v q AS
    cases ho : kc_ary q with
    | none => rw [ho] at hp; cases hp
    | some r0 =>
      obtain ⟨k0, t0, n0⟩ := r0
      rw [ho] at hp
      simp only [Option.bind_some] at hp
      split at hp
      · rename_i ht
        obtain ⟨ht, hfit⟩ := ht
        cases hi : kc_ix v n0 with
        | none => rw [hi] at hp; cases hp
        | some j =>
          rw [hi] at hp
          cases hp
          obtain ⟨rfl, hs, hk⟩ := kc_ary_e ho
          obtain ⟨h1, h2⟩ := kc_ix_e hi
          have hat := kc_rows_at (h k0) n0 j (Nat.le_of_lt h2)
          refine kc_hp_ok (r := (1, AS'.map kc_e, some (k0, .inl (t0, n0, wk_set2 (kc_rows (h k0) n0) j (kc_e w))), [], 0, 0)) hf ?_ rfl (fun D A U as z ws H st hr hst => ⟨AS', _, kc_hr_a hs hk hr (fun j i hj => kc_upd_o j i hj) (fun j2 hj2 => ?_), hst, k⟩)
          · show wk_bst [] (kc_e w) (kc_e v) (.inr (.inr (.inl (some k0)))) (AS'.map kc_e) (kc_A h) = _
            unfold wk_bst
            rw [h1, kc_wary hs hk, ht]
            simp only [kc_beq, kc_blt h2, Bool.true_and, hat, Option.isSome_some, hfit, cond_true, wk_put2_eq]
            rfl
          · rw [wk_at2_set _ _ _ _ (by rw [hat]; rfl), kc_upd_i]
            by_cases e : j2 = j
            · rw [if_pos e, if_pos e]
            · rw [if_neg e, if_neg e]
              exact kc_rows_at _ _ _ (Nat.le_of_lt hj2)
      · cases hp
  · rename_i AS
    cases hp
    refine kc_hp_ok (r := (1, wk_sI (Int32.ofNat (kc_gL g)) :: AS.map kc_e, none, [], 0, 0)) hf ?_ rfl (fun D A U as z ws H st hr hst => ⟨.inl (Int32.ofNat (kc_gL g)) :: AS, h, hr, hst, k⟩)
    rfl
  · rename_i q AS hne
    cases ho : kc_ary q with
    | none => rw [ho] at hp; cases hp
    | some r0 =>
      obtain ⟨k0, t0, n0⟩ := r0
      rw [ho] at hp
      cases hp
      obtain ⟨rfl, hs, hk⟩ := kc_ary_e ho
      refine kc_hp_ok (r := (1, wk_sI (Int32.ofNat n0) :: AS.map kc_e, none, [], 0, 0)) hf ?_ rfl (fun D A U as z ws H st hr hst => ⟨.inl (Int32.ofNat n0) :: AS, h, hr, hst, k⟩)
      show wk_aln (kc_gL g) (.inr (.inr (.inl (some k0)))) (AS.map kc_e) (kc_A h) = _
      unfold wk_aln
      rw [kc_wary hs hk]
      rfl
  · rename_i idx nn dp b sp q AS
    split at hp
    · rename_i h5
      cases ho : kc_ary b with
      | none => rw [ho] at hp; cases hp
      | some r0 =>
        obtain ⟨k0, t0, n0⟩ := r0
        rw [ho] at hp
        simp only [Option.bind_some] at hp
        cases ho2 : kc_ary q with
        | none => rw [ho2] at hp; cases hp
        | some r1 =>
          obtain ⟨k1, t1, n1⟩ := r1
          rw [ho2] at hp
          simp only [Option.bind_some] at hp
          split at hp
          · rename_i hc
            obtain ⟨e1, e2, e3, e4, e5, e6, e7⟩ := hc
            cases hp
            obtain ⟨rfl, hs, hk⟩ := kc_ary_e ho
            obtain ⟨rfl, hs1, hk1⟩ := kc_ary_e ho2
            subst e1 e2 e4
            refine kc_hp_ok (r := (3, AS'.map kc_e, some (k0, .inl (0, n1, kc_rows (h k1) n1)), [], 0, 0)) hf ?_ rfl (fun D A U as z ws H st hr hst => ⟨AS', _, kc_hr_a hs hk hr (fun j i hj => if_neg (fun q => hj q.1)) (fun j2 hj2 => ?_), hst, k⟩)
            · have hn : wk_nx [] (kc_e (.inl nn)) = some n1 := by
                show (match some (nn.toInt, nn.toInt) with
                  | some (.ofNat a, .ofNat b) => if Nat.beq a b then some a else none
                  | _ => none) = some n1
                rw [e3]
                simp
              have hd0 : wk_nx [] (kc_e (.inl dp)) = some 0 := by
                show (match some (dp.toInt, dp.toInt) with
                  | some (.ofNat a, .ofNat b) => if Nat.beq a b then some a else none
                  | _ => none) = some 0
                rw [e5]
                rfl
              have hs0 : wk_nx [] (kc_e (.inl sp)) = some 0 := by
                show (match some (sp.toInt, sp.toInt) with
                  | some (.ofNat a, .ofNat b) => if Nat.beq a b then some a else none
                  | _ => none) = some 0
                rw [e6]
                rfl
              have hC : wk_isC (.invokestatic idx) x ((kc_e (.inl nn)) :: (kc_e (.inl dp)) :: (.inr (.inr (.inl (some k0)))) :: (kc_e (.inl sp)) :: (.inr (.inr (.inl (some k1)))) :: AS'.map kc_e) = true := by
                show (match Instr.invokestatic idx, x.1 with
                  | .invokestatic _, 5 => true
                  | _, _ => false) = true
                rw [h5]
                rfl
              show wk_hp (kc_gL g) [] (.invokestatic idx) x ((kc_e (.inl nn)) :: (kc_e (.inl dp)) :: (.inr (.inr (.inl (some k0)))) :: (kc_e (.inl sp)) :: (.inr (.inr (.inl (some k1)))) :: AS'.map kc_e) (kc_A h) = _
              unfold wk_hp
              rw [hC, if_pos rfl]
              unfold wk_copy
              simp only [hn, hd0, hs0, kc_wary hs hk, kc_wary hs1 hk1, kc_beq, Bool.true_and, show Nat.ble (wk_cat (AS'.map kc_e)) 8 = true from Nat.ble_eq_true_of_le e7, cond_true]
              rfl
            · have e : kc_cpy h k0 k1 n1 k0 j2 = h k1 j2 := if_pos ⟨rfl, hj2⟩
              show wk_at2 (kc_rows (h k1) n1) j2 = some (kc_e (kc_cpy h k0 k1 n1 k0 j2))
              rw [e]
              exact kc_rows_at _ _ _ (Nat.le_of_lt hj2)
          · cases hp
    · cases hp
  · cases hp
theorem kc_math_ok (hf : wk_fetch M pc = some (pc, i, n, x, wd, t, a)) (hp : kc_math i x AS = some AS') (k : kc_Ev g d M Q (pc + 3) AL AS' h) : kc_Ev g d M Q pc AL AS h := by
  unfold kc_math at hp
  split at hp
  · rename_i idx b AS
    split at hp
    · split at hp
      · rename_i h7
        split at hp
        · rename_i hc
          cases hp
          refine kc_hp_ok (r := (3, kc_e (.inl (if 0 ≤ b then b else 0 - b)) :: AS.map kc_e, none, [], 0, 0)) hf ?_ rfl (fun D A U as z ws H st hr hst => ⟨.inl (if 0 ≤ b then b else 0 - b) :: AS, h, hr, hst, k⟩)
          have hC : wk_isC (.invokestatic idx) x (kc_e (.inl b) :: AS.map kc_e) = false := by
            show (match Instr.invokestatic idx, x.1 with
              | .invokestatic _, 5 => true
              | _, _ => false) = false
            rw [h7]
            rfl
          have hm : wk_mth [] (.invokestatic idx) x (kc_e (.inl b) :: AS.map kc_e) = some (3, kc_e (.inl (if 0 ≤ b then b else 0 - b)) :: AS.map kc_e, none, [], 0, 0) := by
            unfold wk_mth
            rw [h7]
            simp [wk_o2, wk_gi, kc_e, wk_sI, Int32.ofInt_toInt, wk_h1, show Nat.ble (wk_cat (AS.map kc_e)) 8 = true from Nat.ble_eq_true_of_le hc]
          have ho : wk_oin (.invokestatic idx) x (kc_e (.inl b) :: AS.map kc_e) = none := rfl
          show wk_hp (kc_gL g) [] (.invokestatic idx) x (kc_e (.inl b) :: AS.map kc_e) (kc_A h) = _
          unfold wk_hp
          rw [hC, hm, ho]
          rfl
        · cases hp
      · rename_i h7
        split at hp
        · rename_i h6
          split at hp
          · rename_i a AS hle9
            split at hp
            · rename_i hc
              cases hp
              refine kc_hp_ok (r := (3, kc_e (.inl (if b < a then b else a)) :: AS.map kc_e, none, [], 0, 0)) hf ?_ rfl (fun D A U as z ws H st hr hst => ⟨.inl (if b < a then b else a) :: AS, h, hr, hst, k⟩)
              have hC : wk_isC (.invokestatic idx) x (kc_e (.inl b) :: kc_e (.inl a) :: AS.map kc_e) = false := by
                show (match Instr.invokestatic idx, x.1 with
                  | .invokestatic _, 5 => true
                  | _, _ => false) = false
                rw [h6]
                rfl
              have hm : wk_mth [] (.invokestatic idx) x (kc_e (.inl b) :: kc_e (.inl a) :: AS.map kc_e) = some (3, kc_e (.inl (if b < a then b else a)) :: AS.map kc_e, none, [], 0, 0) := by
                unfold wk_mth
                rw [h6]
                simp [wk_o2, wk_gi, kc_e, wk_sI, Int32.ofInt_toInt, wk_h1, show Nat.ble (wk_cat (AS.map kc_e)) 8 = true from Nat.ble_eq_true_of_le hc]
              have ho : wk_oin (.invokestatic idx) x (kc_e (.inl b) :: kc_e (.inl a) :: AS.map kc_e) = none := rfl
              show wk_hp (kc_gL g) [] (.invokestatic idx) x (kc_e (.inl b) :: kc_e (.inl a) :: AS.map kc_e) (kc_A h) = _
              unfold wk_hp
              rw [hC, hm, ho]
              rfl
            · cases hp
          · cases hp
        · rename_i h6
          split at hp
          · rename_i h8
            split at hp
            · rename_i a AS hle9
              split at hp
              · rename_i hc
                cases hp
                refine kc_hp_ok (r := (3, kc_e (.inl (if a < b then b else a)) :: AS.map kc_e, none, [], 0, 0)) hf ?_ rfl (fun D A U as z ws H st hr hst => ⟨.inl (if a < b then b else a) :: AS, h, hr, hst, k⟩)
                have hC : wk_isC (.invokestatic idx) x (kc_e (.inl b) :: kc_e (.inl a) :: AS.map kc_e) = false := by
                  show (match Instr.invokestatic idx, x.1 with
                    | .invokestatic _, 5 => true
                    | _, _ => false) = false
                  rw [h8]
                  rfl
                have hm : wk_mth [] (.invokestatic idx) x (kc_e (.inl b) :: kc_e (.inl a) :: AS.map kc_e) = some (3, kc_e (.inl (if a < b then b else a)) :: AS.map kc_e, none, [], 0, 0) := by
                  unfold wk_mth
                  rw [h8]
                  simp [wk_o2, wk_gi, kc_e, wk_sI, Int32.ofInt_toInt, wk_h1, show Nat.ble (wk_cat (AS.map kc_e)) 8 = true from Nat.ble_eq_true_of_le hc]
                have ho : wk_oin (.invokestatic idx) x (kc_e (.inl b) :: kc_e (.inl a) :: AS.map kc_e) = none := rfl
                show wk_hp (kc_gL g) [] (.invokestatic idx) x (kc_e (.inl b) :: kc_e (.inl a) :: AS.map kc_e) (kc_A h) = _
                unfold wk_hp
                rw [hC, hm, ho]
                rfl
              · cases hp
            · cases hp
          · cases hp
    · cases hp
  · cases hp
end KCR
end
section
-- 55.ccon
/-! ===== the clean logic: returns, calls, contracts ===== -/
def kc_Con (g : kc_G) (d id : Nat) (av : List kc_V) (h : kc_H) (Q : Option kc_V → kc_H → Prop) : Prop :=
  ∃ M, wk_mt id = some M ∧ wk_Mk M = 0 ∧ wk_Ms M = 0 ∧ ∃ d2, d2 + 1 ≤ d ∧ ∀ (as : List Nat) (ws : va_W) (vals : List Value), wk_f2 (wk_r as (kc_gz g) (kc_gs g)) (av.map kc_e) vals → Met g.1 (wk_My M) (wk_ws M) (wk_rm M d2) (wk_Pc (kc_gD g) (kc_gA g) (kc_gz g) (kc_gL g) (kc_gs g) vals (kc_A h) as ws) (kc_B (kc_Bq g Q as) (kc_gA g)) 0 0 (kc_gA g)
theorem kc_Con_le {g : kc_G} {d d' id : Nat} {av : List kc_V} {h : kc_H} {Q : Option kc_V → kc_H → Prop} (hc : kc_Con g d id av h Q) (hd : d ≤ d') : kc_Con g d' id av h Q := by
  obtain ⟨M, h1, h2, h3, d2, h4, h5⟩ := hc
  exact ⟨M, h1, h2, h3, d2, Nat.le_trans h4 hd, h5⟩
theorem kc_Bq_mono {g : kc_G} {Q Q' : Option kc_V → kc_H → Prop} {as : List Nat} (hQ : ∀ rv h, Q rv h → Q' rv h) {rx : Option Value} {t : State} (h : kc_Bq g Q as rx t) : kc_Bq g Q' as rx t := by
  obtain ⟨rv, h0, ws, h1, h2⟩ := h
  exact ⟨rv, h0, ws, hQ _ _ h1, h2⟩
theorem kc_Con_mono {g : kc_G} {d id : Nat} {av : List kc_V} {h : kc_H} {Q Q' : Option kc_V → kc_H → Prop} (hc : kc_Con g d id av h Q) (hQ : ∀ rv h, Q rv h → Q' rv h) : kc_Con g d id av h Q' := by
  obtain ⟨M, h1, h2, h3, d2, h4, h5⟩ := hc
  refine ⟨M, h1, h2, h3, d2, h4, fun as ws vals hv => wk_met_mono (h5 as ws vals hv) (fun _ _ q => q) (fun a s o t _ _ q => ?_)⟩
  obtain ⟨⟨rx, q1, q2⟩, q3⟩ := q
  exact ⟨⟨rx, q1, kc_Bq_mono hQ q2⟩, q3⟩
def kc_take : Nat → List kc_V → List kc_V → Option (List kc_V × List kc_V)
  | 0, AS, acc => some (acc, AS)
  | n + 1, v :: AS, acc => kc_take n AS (v :: acc)
  | _ + 1, [], _ => none
theorem kc_take_e : ∀ (n : Nat) (AS acc av r : List kc_V), kc_take n AS acc = some (av, r) → wk_take n (AS.map kc_e) (acc.map kc_e) = some (av.map kc_e, r.map kc_e)
  | 0, AS, acc, av, r, h => by cases h; rfl
  | n + 1, v :: AS, acc, av, r, h => kc_take_e n AS (v :: acc) av r h
  | n + 1, [], acc, av, r, h => by cases h
/-- a call's start -/
def kc_cl (i : Instr) (x : Nat × Nat × Int) (AS : List kc_V) : Option (wk_M × List kc_V × List kc_V) :=
  if wk_isI i x.1 then match wk_mt x.2.1 with
    | some M => match kc_take (wk_argn x.1 (wk_Mn M)) AS [] with
      | some (av, r) => if wk_cat (r.map kc_e) ≤ 8 then (match x.1 with
        | 0 => match av with
          | v :: _ => if (kc_obj v (wk_Mc M) 0).isSome then some (M, av, r) else none
          | [] => none
        | 1 => some (M, av, r)
        | 3 => some (M, av, r)
        | _ => none) else none
      | none => none
    | none => none
  else none
theorem kc_cl_e {i : Instr} {x : Nat × Nat × Int} {AS : List kc_V} {h : kc_H} {M : wk_M} {av r : List kc_V} (hc : kc_cl i x AS = some (M, av, r)) : wk_call wk_mt i x (AS.map kc_e) (kc_A h) = some (M, av.map kc_e, r.map kc_e) := by
  unfold kc_cl at hc
  unfold wk_call
  split at hc
  · rename_i hI
    rw [if_pos hI]
    cases hm : wk_mt x.2.1 with
    | none => rw [hm] at hc; cases hc
    | some M0 =>
      rw [hm] at hc
      simp only at hc ⊢
      cases ht : kc_take (wk_argn x.1 (wk_Mn M0)) AS [] with
      | none => rw [ht] at hc; cases hc
      | some q =>
        obtain ⟨av0, r0⟩ := q
        rw [ht] at hc
        rw [show wk_take (wk_argn x.1 (wk_Mn M0)) (AS.map kc_e) [] = some (av0.map kc_e, r0.map kc_e) from kc_take_e _ _ _ _ _ ht]
        simp only at hc ⊢
        split at hc
        · rename_i h8
          rw [if_pos (Nat.ble_eq_true_of_le h8)]
          split at hc
          · rename_i e0
            split at hc
            · rename_i v av1
              split at hc
              · rename_i ho
                cases hc
                obtain ⟨k0, hk0⟩ := Option.isSome_iff_exists.mp ho
                obtain ⟨nf, rfl, hs, hk, hci, -⟩ := kc_obj_e hk0
                rw [e0]
                simp only [List.map_cons]
                rw [show wk_obj (kc_A h) (kc_e (.inr (.inr (.inl (some k0))))) = _ from kc_wobj hs hk hci]
                simp
              · cases hc
            · cases hc
          · rename_i e0
            cases hc
            rw [e0]
            cases av <;> rfl
          · rename_i e0
            cases hc
            rw [e0]
            cases av <;> rfl
          · cases hc
        · cases hc
  · cases hc
theorem kc_cl_m {i : Instr} {x : Nat × Nat × Int} {AS : List kc_V} {M : wk_M} {av r : List kc_V} (hc : kc_cl i x AS = some (M, av, r)) : wk_mt x.2.1 = some M := wk_call_m (kc_cl_e (h := fun _ _ => .inl 0) hc)
section KCK
variable {g : kc_G} {d : Nat} {M : wk_M} {Q : Option kc_V → kc_H → Prop} {pc : Nat} {AL : kc_L} {AS AS' : List kc_V} {h h' : kc_H} {i : Instr} {n : Nat} {x : Nat × Nat × Int} {wd : List Nat} {t : Nat} {a : Int} {dd : Nat}
theorem kc_call_rule (hf : wk_fetch M pc = some (pc, i, n, x, wd, t, a)) {M2 : wk_M} {av r : List kc_V} {Q2 : Option kc_V → kc_H → Prop} (hc : kc_cl i x AS = some (M2, av, r)) (hCon : kc_Con g d x.2.1 av h Q2) (k : ∀ rv h', Q2 rv h' → kc_Ev g d M Q (pc + 3) AL (rv.toList ++ r) h') : kc_Ev g d M Q pc AL AS h := by
  intro p e R s m args below meth c as hF H locs ws ls lv st hS hr hl ha hs
  obtain ⟨hd, hlk, hw, hot, hoc⟩ := kc_row hF hf
  obtain ⟨M3, m1, m2, m3, d2, hd2, hMet⟩ := hCon
  cases (kc_cl_m hc).symm.trans m1
  have key := kc_call_ok (l := g.1) (e := e) (R := R) (below := below) (cells := 0) (slots := 0) (Q := MQ below (kc_B (kc_Bq g Q as) (kc_gA g)) args s 0 0 (kc_gA g)) (d := d2) (B := kc_Bq g Q2 as) (AH := kc_A h) hF.1 wk_mt_ok hd hlk hw hoc (kc_cl_e hc) hl (fun vals hv => by rw [m2, m3]; exact hMet as ws vals hv) (by have := hF.2.2.2.1; omega) (by have := hF.2.2.2.2.1; omega) (by rw [m2]; exact Nat.zero_le _) (by rw [m3]; exact Nat.zero_le _) hr hS hs
  rw [m2, m3] at key
  refine key (fun rx t locs1 rest hrest hB hal hS1 => ?_)
  obtain ⟨rv, h1, ws1, q1, q2, q3⟩ := hB
  refine k rv h1 q1 p e R s m args below meth c as hF t.heap locs1 ws1 ls lv _ hS1 (wk_hr_moved hal q3) hl ha ?_
  cases rv with
  | none =>
    cases rx with
    | none => exact hrest
    | some _ => exact q2.elim
  | some v =>
    cases rx with
    | none => exact q2.elim
    | some xv => exact ⟨q2, hrest⟩
theorem kc_ret_ok (hf : wk_fetch M pc = some (pc, i, n, x, wd, t, a)) {rv : Option kc_V} (hp : wk_ret [] M i (AS.map kc_e) = some (rv.map kc_e)) (hQ : Q rv h) : kc_Ev g d M Q pc AL AS h := by
  intro p e R s m args below meth c as hF H locs ws ls lv st hS hr hl ha hs
  obtain ⟨hd, hlk, hw, hot, hoc⟩ := kc_row hF hf
  obtain ⟨⟨hx, hb, -⟩, hret, hlocks, -⟩ := hF
  have hbx : wk_bx (kc_gs g) ([] : wk_I) := fun j q hj => by simp at hj
  have fin : ∀ (rx : Option Value), wk_rv as (kc_gz g) (kc_gs g) (rv.map kc_e) rx → ∀ t : State, t.heap = H → s.WarmedH t.vm → kc_B (kc_Bq g Q as) (kc_gA g) args s (.returned rx) t := fun rx hrx t ht hW =>
    ⟨⟨rx, rfl, rv, h, ws, hQ, hrx, by rw [ht]; exact wk_hr_moved hW.alike hr⟩, hS.F ht⟩
  unfold wk_ret at hp
  split at hp
  · rename_i hm hn
    obtain rfl := Nat.eq_of_beq_eq_true hlk
    have hAS : AS = [] := List.map_eq_nil_iff.mp hn
    subst hAS
    have := wk_f2_nil hs
    subst this
    cases rv with
    | none => exact W.vret hx hb (hret.trans hm) (fin none trivial) hS.2.2 hd hlocks
    | some v => cases hp
  · rename_i v hm hn
    rcases AS with _ | ⟨v0, _ | ⟨v1, AS⟩⟩
    · cases hn
    · obtain ⟨y0, st1, rfl, hv, hs1⟩ := wk_f2_cons hs
      have := wk_f2_nil hs1
      subst this
      cases hn
      obtain rfl := Nat.eq_of_beq_eq_true hlk
      split at hp
      · rename_i hg
        obtain ⟨q, hq⟩ := Option.isSome_iff_exists.mp hg
        obtain ⟨i0, rfl, -⟩ := wk_gi_r hbx hq hv
        exact W.iret hx hb (hret.trans hm) (fin _ (by rw [← Option.some.inj hp]; exact hv)) hS.2.2 hd hlocks
      · cases hp
    · cases hn
  · rename_i v hm hn
    rcases AS with _ | ⟨v0, _ | ⟨v1, AS⟩⟩
    · cases hn
    · obtain ⟨y0, st1, rfl, hv, hs1⟩ := wk_f2_cons hs
      have := wk_f2_nil hs1
      subst this
      cases hn
      obtain rfl := Nat.eq_of_beq_eq_true hlk
      split at hp
      · rename_i hg
        have hi : ∃ i0 : Int32, y0 = .int i0 := by
          have hg2 := hg
          unfold wk_fit at hg2
          cases hgi : wk_gi [] (kc_e v0) with
          | none => rw [hgi] at hg2; cases hg2
          | some q =>
            obtain ⟨i0, e0, -⟩ := wk_gi_r hbx hgi hv
            exact ⟨i0, e0⟩
        obtain ⟨i0, rfl⟩ := hi
        exact W.zret hx hb (hret.trans hm) (wk_fit_r (ty := .boolean) hbx hg hv).1 (fin _ (by rw [← Option.some.inj hp]; exact hv)) hS.2.2 hd hlocks
      · cases hp
    · cases hn
  · rename_i v hm hn
    rcases AS with _ | ⟨v0, _ | ⟨v1, AS⟩⟩
    · cases hn
    · obtain ⟨y0, st1, rfl, hv, hs1⟩ := wk_f2_cons hs
      have := wk_f2_nil hs1
      subst this
      cases hn
      obtain rfl := Nat.eq_of_beq_eq_true hlk
      split at hp
      · rename_i hg
        obtain ⟨q, hq⟩ := Option.isSome_iff_exists.mp hg
        obtain ⟨i0, rfl, -⟩ := wk_gj_r hbx hq hv
        exact W.lret hx hb (hret.trans hm) (fin _ (by rw [← Option.some.inj hp]; exact hv)) hS.2.2 hd hlocks
      · cases hp
    · cases hn
  · cases hp
def kc_args : Nat → List kc_V → kc_L
  | _, [] => []
  | i, v :: vs => (i, v) :: kc_args (if kc_c2 v then i + 2 else i + 1) vs
theorem kc_args_e : ∀ (j : Nat) (av : List kc_V), kc_el (kc_args j av) = wk_args j (av.map kc_e)
  | _, [] => rfl
  | j, v :: vs => by
    show (j, kc_e v) :: kc_el (kc_args (if kc_c2 v then j + 2 else j + 1) vs) = (j, kc_e v) :: wk_args (if wk_c2 (kc_e v) then j + 2 else j + 1) (vs.map kc_e)
    rw [kc_c2_e, kc_args_e]
/-- the free addresses don't hold the script; the script is no longer than an int says -/
def kc_ok (g : kc_G) : Prop := ¬ kc_gA g (kc_gz g 0) ∧ kc_gL g < 2 ^ 31
/-- a contract, out of the body -/
theorem kc_Con_new {id : Nat} {av : List kc_V} (hg : kc_ok g) (hm : wk_mt id = some M) (hk : wk_Mk M = 0) (hss : wk_Ms M = 0) (hcat : wk_cat (av.map kc_e) ≤ wk_Ml M) (k : kc_Ev g d M Q 0 (kc_args 0 av) [] h) : kc_Con g (d + 1) id av h Q := by
  refine ⟨M, hm, hk, hss, d, Nat.le_refl _, fun as ws vals hv => ?_⟩
  have hok := wk_mt_ok _ _ hm
  unfold wk_okm at hok
  simp only [Bool.and_eq_true, decide_eq_true_eq] at hok
  obtain ⟨ok1, ⟨ok2, ok3, ok4⟩, ok5, ok6, ok7⟩ := hok
  have hM : ∀ r ∈ wk_Mx M, ∀ row ∈ r, wk_okx wk_mt wk_mw (wk_My M) (wk_Mb M) row = true := fun r hr row hrow => List.all_eq_true.mp (List.all_eq_true.mp ok7 r hr) row hrow
  refine Met.ofW (cc := wk_Mb M) (maxL := wk_Ml M) (ret := wk_Mr M) ok1 rfl ?_
  intro p e s m args below meth c s₁ B hml hP
  obtain ⟨rfl, hK, hX, hz, hA, hr⟩ := hP
  have hts : ∀ w ∈ wk_tbl, w.before vals.toArray s = true := fun w hw => atoms_spec (ws := wk_ws M) B.pre w (List.mem_cons_of_mem _ hw)
  have hown : s.vm.findClass (wk_My M).cls = some m.cls := findClass_of_methodNamed B.named
  have hname : meth.name = (wk_My M).name := (name_of_methodNamed B.named B.method).1
  have C : wk_cx p s m vals.toArray meth c (wk_Mb M) (wk_My M) (wk_Ml M) (kc_gD g) (kc_gA g) (kc_gz g) (kc_gL g) (kc_gs g) := ⟨B.exec, B.bytes, hml, hown, hts, hK, hA, hname, hX, hz, hg.1, hg.2⟩
  have hlen : (lg_sl vals).length ≤ wk_Ml M := by rw [wk_slen, ← wk_cat_r hv]; exact hcat
  rw [lg_entry_eq]
  have hl := lv_entry vals (n := wk_Ml M) hlen
  exact k p e (headSpec (wk_ws M) (wk_rm M d)).room s m vals.toArray below meth c as ⟨C, B.returns, B.notSynchronized, Nat.le_refl _, Nat.le_refl _, hM⟩ s.heap [] ws _ _ [] va_S.rf hr hl (by rw [kc_args_e]; exact wk_args_r 0 hv) trivial
end KCK
end
section
-- 56.cstr
/-! ===== the clean logic: texts (constants), and the JDK's members that read them ===== -/
/-- a text; its bytes; the formatter -/
def ks_s (i : Nat) : kc_V := .inr (.inr (.inr (i + 1)))
def ks_b (i : Nat) : kc_V := .inr (.inr (.inr (i + 101)))
def ks_f : kc_V := .inr (.inr (.inr 200))
def ks_L (i : Nat) : Nat := wk_sl.getD i 0
def ks_c (i j : Nat) : Int32 := (wk_sb.getD i []).getD j 0
section KSR
variable {g : kc_G} {d : Nat} {M : wk_M} {Q : Option kc_V → kc_H → Prop} {pc : Nat} {AL : kc_L} {AS : List kc_V} {h : kc_H}
theorem ks_ldc {i : Nat} (hi : i < 24) (hy : (wk_My M).cls = "EvenSides$Reader") (hd : decode (wk_Mb M) pc = .ok (.ldc (97 + 2 * i), 2)) (k : kc_Ev g d M Q (pc + 2) AL (ks_s i :: AS) h) : kc_Ev g d M Q pc AL AS h := by
  intro p e R s m args below meth c as hF H locs ws ls lv st hS hr hl ha hs
  obtain ⟨hx, hb, hml, hown, hts, hK, hA, hname, hX, hz, hzA, hLz⟩ := hF.1
  rw [hy] at hown
  exact va_ldcS hx hb hown (hX.2.2.1 i hi) hd (k p e R s m args below meth c as hF H locs ws ls lv _ hS hr hl ha ⟨rfl, hs⟩)
theorem ks_getv {i idx q : Nat} (hi : i < 24) (hd : decode (wk_Mb M) pc = .ok (.getfield idx, 3)) (hw : wk_has q (.fieldLink (wk_My M).cls idx "java/lang/String" "value" "[B") = true) (k : kc_Ev g d M Q (pc + 3) AL (ks_b i :: AS) h) : kc_Ev g d M Q pc AL (ks_s i :: AS) h := by
  intro p e R s m args below meth c as hF H locs ws ls lv st hS hr hl ha hs
  obtain ⟨hx, hb, hml, hown, hts, hK, hA, hname, hX, hz, hzA, hLz⟩ := hF.1
  obtain ⟨y0, st1, rfl, hv, hs1⟩ := wk_f2_cons hs
  have hv : y0 = .ref (kc_gz g (i + 1)) := hv
  subst hv
  exact vk_getf hx hb (hX.2.1.1 i hi).2.2.1 hS hown (hts _ (wk_has_in hw)) (fun x q => q) hd (k p e R s m args below meth c as hF H locs ws ls lv _ hS hr hl ha ⟨rfl, hs1⟩)
theorem ks_getc {i idx q : Nat} (hi : i < 24) (hd : decode (wk_Mb M) pc = .ok (.getfield idx, 3)) (hw : wk_has q (.fieldLink (wk_My M).cls idx "java/lang/String" "coder" "B") = true) (k : kc_Ev g d M Q (pc + 3) AL (.inl 0 :: AS) h) : kc_Ev g d M Q pc AL (ks_s i :: AS) h := by
  intro p e R s m args below meth c as hF H locs ws ls lv st hS hr hl ha hs
  obtain ⟨hx, hb, hml, hown, hts, hK, hA, hname, hX, hz, hzA, hLz⟩ := hF.1
  obtain ⟨y0, st1, rfl, hv, hs1⟩ := wk_f2_cons hs
  have hv : y0 = .ref (kc_gz g (i + 1)) := hv
  subst hv
  exact vk_getf hx hb (hX.2.1.1 i hi).2.1 hS hown (hts _ (wk_has_in hw)) (fun x q => q) hd (k p e R s m args below meth c as hF H locs ws ls lv _ hS hr hl ha ⟨wk_sI_r 0, hs1⟩)
theorem ks_len {i : Nat} (hi : i < 24) (hd : decode (wk_Mb M) pc = .ok (.arraylength, 1)) (k : kc_Ev g d M Q (pc + 1) AL (.inl (Int32.ofNat (ks_L i)) :: AS) h) : kc_Ev g d M Q pc AL (ks_b i :: AS) h := by
  intro p e R s m args below meth c as hF H locs ws ls lv st hS hr hl ha hs
  obtain ⟨hx, hb, hml, hown, hts, hK, hA, hname, hX, hz, hzA, hLz⟩ := hF.1
  obtain ⟨y0, st1, rfl, hv, hs1⟩ := wk_f2_cons hs
  have hv : y0 = .ref (kc_gz g (i + 101)) := hv
  subst hv
  exact va_tlen hx hb (hX.2.1.1 i hi).2.2.2 hS rfl hd (k p e R s m args below meth c as hF H locs ws ls lv _ hS hr hl ha ⟨wk_sI_r _, hs1⟩)
theorem ks_bal {i : Nat} {j : Int32} (hi : i < 24) (hj : vp_in j (ks_L i)) (hd : decode (wk_Mb M) pc = .ok (.baload, 1)) (k : kc_Ev g d M Q (pc + 1) AL (.inl (ks_c i j.toNatClampNeg) :: AS) h) : kc_Ev g d M Q pc AL (.inl j :: ks_b i :: AS) h := by
  intro p e R s m args below meth c as hF H locs ws ls lv st hS hr hl ha hs
  obtain ⟨hx, hb, hml, hown, hts, hK, hA, hname, hX, hz, hzA, hLz⟩ := hF.1
  obtain ⟨y1, st0, rfl, hj1, hs0⟩ := wk_f2_cons hs
  obtain ⟨y0, st1, rfl, hv, hs1⟩ := wk_f2_cons hs0
  have hv : y0 = .ref (kc_gz g (i + 101)) := hv
  subst hv
  obtain ⟨j1, rfl, a1, a2⟩ := hj1
  obtain rfl : j1 = j := Int32.toInt_inj.mp (Int.le_antisymm a2 a1)
  exact va_tb hx hb (hX.2.1.1 i hi).2.2.2 hS hj rfl hd (k p e R s m args below meth c as hF H locs ws ls lv _ hS hr hl ha ⟨wk_sI_r _, hs1⟩)
theorem ks_getcs {idx q : Nat} (hd : decode (wk_Mb M) pc = .ok (.getstatic idx, 3)) (hw : wk_has q (.fieldLink (wk_My M).cls idx "java/lang/String" "COMPACT_STRINGS" "Z") = true) (k : kc_Ev g d M Q (pc + 3) AL (.inl 1 :: AS) h) : kc_Ev g d M Q pc AL AS h := by
  intro p e R s m args below meth c as hF H locs ws ls lv st hS hr hl ha hs
  obtain ⟨hx, hb, hml, hown, hts, hK, hA, hname, hX, hz, hzA, hLz⟩ := hF.1
  exact va_gets hx hb hX.2.2.2.1 hS hown (hts _ (wk_has_in hw)) (fun x q => q) hd (k p e R s m args below meth c as hF H locs ws ls lv _ hS hr hl ha ⟨wk_sI_r 1, hs⟩)
theorem ks_getfm {idx q : Nat} (hd : decode (wk_Mb M) pc = .ok (.getstatic idx, 3)) (hw : wk_has q (.fieldLink (wk_My M).cls idx "jdk/internal/util/Preconditions" "SIOOBE_FORMATTER" "Ljava/util/function/BiFunction;") = true) (k : ∀ w : kc_V, w = ks_f ∨ w = .inr (.inr (.inl none)) → kc_Ev g d M Q (pc + 3) AL (w :: AS) h) : kc_Ev g d M Q pc AL AS h := by
  intro p e R s m args below meth c as hF H locs ws ls lv st hS hr hl ha hs
  obtain ⟨hx, hb, hml, hown, hts, hK, hA, hname, hX, hz, hzA, hLz⟩ := hF.1
  rcases hX.2.2.2.2 with hZ | hZ
  · exact va_gets hx hb hZ hS hown (hts _ (wk_has_in hw)) (fun x q => q) hd (k _ (Or.inl rfl) p e R s m args below meth c as hF H locs ws ls lv _ hS hr hl ha ⟨rfl, hs⟩)
  · exact va_gets hx hb hZ hS hown (hts _ (wk_has_in hw)) (fun x q => q) hd (k _ (Or.inr rfl) p e R s m args below meth c as hF H locs ws ls lv _ hS hr hl ha ⟨rfl, hs⟩)
theorem ks_i2c {x v : Int32} (hv : (x.toUInt32 % 65536).toInt32 = v) (hd : decode (wk_Mb M) pc = .ok (.i2c, 1)) (k : kc_Ev g d M Q (pc + 1) AL (.inl v :: AS) h) : kc_Ev g d M Q pc AL (.inl x :: AS) h := by
  intro p e R s m args below meth c as hF H locs ws ls lv st hS hr hl ha hs
  obtain ⟨hx, hb, hml, hown, hts, hK, hA, hname, hX, hz, hzA, hLz⟩ := hF.1
  obtain ⟨y1, st0, rfl, hj1, hs0⟩ := wk_f2_cons hs
  obtain ⟨j1, rfl, a1, a2⟩ := hj1
  obtain rfl : j1 = x := Int32.toInt_inj.mp (Int.le_antisymm a2 a1)
  exact lv_i2c hx hb hd hv (k p e R s m args below meth c as hF H locs ws ls lv _ hS hr hl ha ⟨wk_sI_r _, hs0⟩)
theorem ks_pop2 {x : Int64} (hd : decode (wk_Mb M) pc = .ok (.pop2, 1)) (k : kc_Ev g d M Q (pc + 1) AL AS h) : kc_Ev g d M Q pc AL (.inr (.inl x) :: AS) h := by
  intro p e R s m args below meth c as hF H locs ws ls lv st hS hr hl ha hs
  obtain ⟨hx, hb, hml, hown, hts, hK, hA, hname, hX, hz, hzA, hLz⟩ := hF.1
  obtain ⟨y1, st0, rfl, hj1, hs0⟩ := wk_f2_cons hs
  obtain ⟨j1, rfl, a1, a2⟩ := hj1
  exact lv_pop2_2 hx hb hd rfl (k p e R s m args below meth c as hF H locs ws ls lv _ hS hr hl ha hs0)
/-- a byte, a char is returned -/
theorem ks_retn {v : Int32} {ty : FieldType} (hm : wk_Mr M = some ty) (hn : narrow ty (.int v) = .int v) (hd : decode (wk_Mb M) pc = .ok (.ireturn, 1)) (hQ : Q (some (.inl v)) h) : kc_Ev g d M Q pc AL [.inl v] h := by
  intro p e R s m args below meth c as hF H locs ws ls lv st hS hr hl ha hs
  obtain ⟨⟨hx, hb, -⟩, hret, hlocks, -⟩ := hF
  obtain ⟨y1, st0, rfl, hj1, hs0⟩ := wk_f2_cons hs
  have := wk_f2_nil hs0
  subst this
  obtain ⟨j1, rfl, a1, a2⟩ := hj1
  obtain rfl : j1 = v := Int32.toInt_inj.mp (Int.le_antisymm a2 a1)
  exact W.zret hx hb (hret.trans hm) hn (fun t ht hW => ⟨⟨_, rfl, some (.inl j1), h, ws, hQ, (show wk_rv as (kc_gz g) (kc_gs g) (some (kc_e (.inl j1))) (some (.int j1)) from wk_sI_r (as := as) (z := kc_gz g) (ρ := kc_gs g) j1), by rw [ht]; exact wk_hr_moved hW.alike hr⟩, hS.F ht⟩) hS.2.2 hd hlocks
/-- a text is returned -/
theorem ks_reta {i : Nat} {n : String} (hm : wk_Mr M = some (.object n)) (hd : decode (wk_Mb M) pc = .ok (.areturn, 1)) (hQ : Q (some (ks_s i)) h) : kc_Ev g d M Q pc AL [ks_s i] h := by
  intro p e R s m args below meth c as hF H locs ws ls lv st hS hr hl ha hs
  obtain ⟨⟨hx, hb, -⟩, hret, hlocks, -⟩ := hF
  obtain ⟨y1, st0, rfl, hv, hs0⟩ := wk_f2_cons hs
  have := wk_f2_nil hs0
  subst this
  have hv : y1 = .ref (kc_gz g (i + 1)) := hv
  subst hv
  exact W.aret hx hb (hret.trans hm) (Or.inl ⟨n, rfl⟩) (Or.inr ⟨_, rfl⟩) (fun t ht hW => ⟨⟨_, rfl, some (ks_s i), h, ws, hQ, rfl, by rw [ht]; exact wk_hr_moved hW.alike hr⟩, hS.F ht⟩) hS.2.2 hd hlocks
/-- a contract of a member that has no number -/
def ks_Con (g : kc_G) (d : Nat) (M : wk_M) (av : List kc_V) (h : kc_H) (Q : Option kc_V → kc_H → Prop) : Prop := ∀ (as : List Nat) (ws : va_W) (vals : List Value), wk_f2 (wk_r as (kc_gz g) (kc_gs g)) (av.map kc_e) vals → Met g.1 (wk_My M) (wk_ws M) (wk_rm M d) (wk_Pc (kc_gD g) (kc_gA g) (kc_gz g) (kc_gL g) (kc_gs g) vals (kc_A h) as ws) (kc_B (kc_Bq g Q as) (kc_gA g)) 0 0 (kc_gA g)
/-- its words and rows -/
def ks_ok (M : wk_M) (a b : Nat) : Bool := plainName (wk_My M).cls && (decide ((wk_My M).cls ≠ "java/lang/invoke/MethodHandle" ∧ (wk_My M).cls ≠ "java/lang/invoke/VarHandle" ∧ (parseMethodDescriptor (wk_My M).desc).map (fun d => d.parameters.length) = some (wk_Mn M)) && (Nat.ble (wk_Ml M) 100 && ((wk_has a (.code (wk_My M) (wk_Mb M) (wk_Ml M) (wk_Mr M)) && wk_has b (.initialized (wk_My M).cls)) && (wk_Mx M).all fun r => r.all (wk_okx wk_mt wk_mw (wk_My M) (wk_Mb M)))))
theorem ks_new {a b : Nat} {av : List kc_V} (hg : kc_ok g) (hok : ks_ok M a b = true) (hk : wk_Mk M = 0) (hss : wk_Ms M = 0) (hcat : wk_cat (av.map kc_e) ≤ wk_Ml M) (k : kc_Ev g d M Q 0 (kc_args 0 av) [] h) : ks_Con g d M av h Q := by
  intro as ws vals hv
  unfold ks_ok at hok
  simp only [Bool.and_eq_true, decide_eq_true_eq] at hok
  obtain ⟨ok1, ⟨ok2, ok3, ok4⟩, ok5, ⟨ok6, ok8⟩, ok7⟩ := hok
  have hM : ∀ r ∈ wk_Mx M, ∀ row ∈ r, wk_okx wk_mt wk_mw (wk_My M) (wk_Mb M) row = true := fun r hr row hrow => List.all_eq_true.mp (List.all_eq_true.mp ok7 r hr) row hrow
  refine Met.ofW (cc := wk_Mb M) (maxL := wk_Ml M) (ret := wk_Mr M) ok1 rfl ?_
  intro p e s m args below meth c s₁ B hml hP
  obtain ⟨rfl, hK, hX, hz, hA, hr⟩ := hP
  have hts : ∀ w ∈ wk_tbl, w.before vals.toArray s = true := fun w hw => atoms_spec (ws := wk_ws M) B.pre w (List.mem_cons_of_mem _ hw)
  have hown : s.vm.findClass (wk_My M).cls = some m.cls := findClass_of_methodNamed B.named
  have hname : meth.name = (wk_My M).name := (name_of_methodNamed B.named B.method).1
  have C : wk_cx p s m vals.toArray meth c (wk_Mb M) (wk_My M) (wk_Ml M) (kc_gD g) (kc_gA g) (kc_gz g) (kc_gL g) (kc_gs g) := ⟨B.exec, B.bytes, hml, hown, hts, hK, hA, hname, hX, hz, hg.1, hg.2⟩
  have hlen : (lg_sl vals).length ≤ wk_Ml M := by rw [wk_slen, ← wk_cat_r hv]; exact hcat
  rw [lg_entry_eq]
  have hl := lv_entry vals (n := wk_Ml M) hlen
  exact k p e (headSpec (wk_ws M) (wk_rm M d)).room s m vals.toArray below meth c as ⟨C, B.returns, B.notSynchronized, Nat.le_refl _, Nat.le_refl _, hM⟩ s.heap [] ws _ _ [] va_S.rf hr hl (by rw [kc_args_e]; exact wk_args_r 0 hv) trivial
/-- a call of an instance's member: the receiver is a text -/
theorem ks_callV {M2 : wk_M} {i idx a b q1 q2 q3 : Nat} {av r : List kc_V} {Q2 : Option kc_V → kc_H → Prop} (hi : i < 24) (hd : decode (wk_Mb M) pc = .ok (.invokevirtual idx, 3)) (hy : (wk_My M2).cls = "java/lang/String") (hw1 : wk_has q1 (.methodLink (wk_My M).cls idx (wk_My M2)) = true) (hw2 : wk_has q2 (.instanceMethod (wk_My M2)) = true) (hw3 : wk_has q3 (.selects (wk_My M2).cls (wk_My M2) (wk_My M2)) = true)
    (hok : ks_ok M2 a b = true) (hk : wk_Mk M2 = 0) (hss : wk_Ms M2 = 0) (hn : av.length = wk_Mn M2) (hcat : wk_cat (r.map kc_e) ≤ 8) (hCon : ks_Con g d M2 (ks_s i :: av) h Q2) (k : ∀ rv h', Q2 rv h' → kc_Ev g (d + 1) M Q (pc + 3) AL (rv.toList ++ r) h') : kc_Ev g (d + 1) M Q pc AL (av.reverse ++ ks_s i :: r) h := by
  intro p e R s m args below meth c as hF H locs ws ls lv st hS hr hl ha hs
  have hCpre := fun vals U hU hW => wk_pre_U (AH := kc_A h) (as := as) (H := H) (ws := ws) hF.1 hr hS vals U hU hW
  obtain ⟨hx, hb, hml, hown, hts, hK, hA, hname, hX, hz, hzA, hLz⟩ := hF.1
  unfold ks_ok at hok
  simp only [Bool.and_eq_true, decide_eq_true_eq] at hok
  obtain ⟨ok1, ⟨ok2, ok3, ok4⟩, ok5, ⟨ok6, ok8⟩, ok7⟩ := hok
  have ok5 := Nat.le_of_ble_eq_true ok5
  have hfr := hF.2.2.2.1
  have hlo := hF.2.2.2.2.1
  have hR : (wk_rm M2 d).frames + 1 ≤ R.frames ∧ 8 + (wk_Ml M2 + 11) + (wk_rm M2 d).locals ≤ R.locals := ⟨by show d + 1 + 1 ≤ _; omega, by show 8 + (wk_Ml M2 + 11) + (100 + 200 * d) ≤ _; omega⟩
  rw [List.map_append, List.map_cons, List.map_reverse] at hs
  obtain ⟨m1, m2, rfl, hs1, hs2⟩ := wk_f2_split hs
  obtain ⟨y0, rest, rfl, hv0, hs3⟩ := wk_f2_cons hs2
  have hv0 : y0 = .ref (kc_gz g (i + 1)) := hv0
  subst hv0
  have hv := wk_f2_rev hs1
  rw [List.reverse_reverse] at hv
  have hsum : (rest.map fun v => v.category).sum ≤ 8 := by rw [← wk_cat_r hs3]; exact hcat
  have hlenv := wk_f2_len hv
  rw [List.length_map, hn] at hlenv
  have hrecv := vk_recv hX.2.1 hi hS
  have hMet := hCon as ws (.ref (kc_gz g (i + 1)) :: m1.reverse) ⟨rfl, hv⟩
  have em : m1 ++ Value.ref (kc_gz g (i + 1)) :: rest = m1.reverse.reverse ++ Value.ref (kc_gz g (i + 1)) :: rest := by rw [List.reverse_reverse]
  rw [em]
  refine kc_after (rest := rest) (va_runV (As := m1.reverse) (rest := rest) (C := "java/lang/String") ⟨hx, hb, hml, hown, hts⟩ hMet (cwV (wk_Mn M2) hts (wk_gd (fun w hw => ?_)) rfl hk hss ⟨hy, ok2, ok3, ok4⟩ hR) ⟨wk_blind, hrecv, fun U hU hW => hCpre _ U hU hW⟩ rfl hlenv.symm hl.1 rfl (lv_room hsum) hd ⟨Nat.zero_le _, Nat.zero_le _⟩) hS (fun rx t locs1 h1 h2 h3 => ?_)
  · unfold wsV at hw
    simp only [List.cons_append, List.nil_append, List.mem_cons] at hw
    rcases hw with rfl | rfl | rfl | rfl | hw
    · exact wk_has_in hw1
    · exact wk_has_in hw2
    · rw [← hy]; exact wk_has_in hw3
    · rw [← hy]; exact wk_has_in ok8
    · exact wk_ws_in (wk_has_in ok6) w hw
  · obtain ⟨rv, h1', ws1, g1, g2, g3⟩ := h1
    refine k rv h1' g1 p e R s m args below meth c as hF t.heap locs1 ws1 ls lv _ h3 (wk_hr_moved h2 g3) hl ha ?_
    cases rv with
    | none =>
      cases rx with
      | none => exact hs3
      | some _ => exact g2.elim
    | some v =>
      cases rx with
      | none => exact g2.elim
      | some xv => exact ⟨g2, hs3⟩
/-- a call of a static member -/
theorem ks_callS {M2 : wk_M} {idx a b q1 q2 : Nat} {av r : List kc_V} {Q2 : Option kc_V → kc_H → Prop} (hd : decode (wk_Mb M) pc = .ok (.invokestatic idx, 3)) (hw1 : wk_has q1 (.methodLink (wk_My M).cls idx (wk_My M2)) = true) (hw2 : wk_has q2 (.static (wk_My M2)) = true)
    (hok : ks_ok M2 a b = true) (hk : wk_Mk M2 = 0) (hss : wk_Ms M2 = 0) (hn : av.length = wk_Mn M2) (hcat : wk_cat (r.map kc_e) ≤ 8) (hCon : ks_Con g d M2 av h Q2) (k : ∀ rv h', Q2 rv h' → kc_Ev g (d + 1) M Q (pc + 3) AL (rv.toList ++ r) h') : kc_Ev g (d + 1) M Q pc AL (av.reverse ++ r) h := by
  intro p e R s m args below meth c as hF H locs ws ls lv st hS hr hl ha hs
  have hCpre := fun vals U hU hW => wk_pre_U (AH := kc_A h) (as := as) (H := H) (ws := ws) hF.1 hr hS vals U hU hW
  obtain ⟨hx, hb, hml, hown, hts, hK, hA, hname, hX, hz, hzA, hLz⟩ := hF.1
  unfold ks_ok at hok
  simp only [Bool.and_eq_true, decide_eq_true_eq] at hok
  obtain ⟨ok1, ⟨ok2, ok3, ok4⟩, ok5, ⟨ok6, ok8⟩, ok7⟩ := hok
  have ok5 := Nat.le_of_ble_eq_true ok5
  have hfr := hF.2.2.2.1
  have hlo := hF.2.2.2.2.1
  have hR : (wk_rm M2 d).frames + 1 ≤ R.frames ∧ 8 + (wk_Ml M2 + 11) + (wk_rm M2 d).locals ≤ R.locals := ⟨by show d + 1 + 1 ≤ _; omega, by show 8 + (wk_Ml M2 + 11) + (100 + 200 * d) ≤ _; omega⟩
  rw [List.map_append, List.map_reverse] at hs
  obtain ⟨m1, rest, rfl, hs1, hs3⟩ := wk_f2_split hs
  have hv := wk_f2_rev hs1
  rw [List.reverse_reverse] at hv
  have hsum : (rest.map fun v => v.category).sum ≤ 8 := by rw [← wk_cat_r hs3]; exact hcat
  have hlenv := wk_f2_len hv
  rw [List.length_map, hn] at hlenv
  have hMet := hCon as ws m1.reverse hv
  refine kc_after (rest := rest) (va_runS (As := m1.reverse) (rest := rest) ⟨hx, hb, hml, hown, hts⟩ hMet (va_cwS (wk_Mn M2) hts (wk_gd (fun w hw => ?_)) rfl hk hss ⟨ok2, ok3, ok4⟩ hR) ⟨wk_blind, fun U hU hW => hCpre _ U hU hW⟩ rfl hlenv.symm hl.1 (by show m1 ++ rest = _; rw [List.reverse_reverse]) (lv_room hsum) hd ⟨Nat.zero_le _, Nat.zero_le _⟩) hS (fun rx t locs1 h1 h2 h3 => ?_)
  · unfold va_wsS at hw
    simp only [List.cons_append, List.nil_append, List.mem_cons] at hw
    rcases hw with rfl | rfl | rfl | hw
    · exact wk_has_in hw1
    · exact wk_has_in hw2
    · exact wk_has_in ok8
    · exact wk_ws_in (wk_has_in ok6) w hw
  · obtain ⟨rv, h1', ws1, g1, g2, g3⟩ := h1
    refine k rv h1' g1 p e R s m args below meth c as hF t.heap locs1 ws1 ls lv _ h3 (wk_hr_moved h2 g3) hl ha ?_
    cases rv with
    | none =>
      cases rx with
      | none => exact hs3
      | some _ => exact g2.elim
    | some v =>
      cases rx with
      | none => exact g2.elim
      | some xv => exact ⟨g2, hs3⟩
end KSR
end
section
-- 57.cjdk
/-! ===== the JDK's members over the texts ===== -/
theorem ks_st {g : kc_G} {d : Nat} {M : wk_M} {Q : Option kc_V → kc_H → Prop} {pc : Nat} {L L' : kc_L} {S S' : List kc_V} {h : kc_H} {i : Instr} {n : Nat} {x : Nat × Nat × Int} {wd : List Nat} {t : Nat} {a : Int} (pc' : Nat) (hf : wk_fetch M pc = some (pc, i, n, x, wd, t, a)) (hp : kc_pure (wk_Ml M) i x.2.2 pc L S = some (pc', L', S')) (k : kc_Ev g d M Q pc' L' S' h) : kc_Ev g d M Q pc L S h := kc_pure_ok hf hp k
def ks_m0 : wk_M := (0, ⟨"java/lang/String", "coder", "()B"⟩, prog_13_method_152_code, 1, (some FieldType.byte), 0, 0, 0, [[(3, .ifCond .eq 10, 3, (0, 0, 0), [], 40, 0), (6, .aload_n 0, 1, (0, 0, 0), [], 40, 0), (10, .goto 4, 3, (0, 0, 0), [], 40, 0), (13, .iconst 1, 1, (0, 0, 0), [], 40, 0)]])
def ks_m1 : wk_M := (0, ⟨"java/lang/String", "isLatin1", "()Z"⟩, prog_13_method_154_code, 1, (some FieldType.boolean), 0, 0, 0, [[(3, .ifCond .eq 14, 3, (0, 0, 0), [], 40, 0), (6, .aload_n 0, 1, (0, 0, 0), [], 40, 0), (10, .ifCond .ne 7, 3, (0, 0, 0), [], 40, 0), (13, .iconst 1, 1, (0, 0, 0), [], 40, 0), (14, .goto 4, 3, (0, 0, 0), [], 40, 0)], [(17, .iconst 0, 1, (0, 0, 0), [], 40, 0), (18, .ireturn, 1, (0, 0, 0), [], 40, 0)]])
def ks_m2 : wk_M := (0, ⟨"java/lang/String", "length", "()I"⟩, prog_13_method_54_code, 1, (some FieldType.int), 0, 0, 0, [[(0, .aload_n 0, 1, (0, 0, 0), [], 40, 0), (5, .aload_n 0, 1, (0, 0, 0), [], 40, 0), (9, .ishr, 1, (0, 0, 0), [], 40, 0), (10, .ireturn, 1, (0, 0, 0), [], 40, 0)]])
def ks_m3 : wk_M := (0, ⟨"jdk/internal/util/Preconditions", "checkIndex", "(IILjava/util/function/BiFunction;)I"⟩, prog_18_method_11_code, 3, (some FieldType.int), 0, 0, 3, [[(0, .iload_n 0, 1, (0, 0, 0), [], 40, 0), (1, .ifCond .lt 8, 3, (0, 0, 0), [], 40, 0), (4, .iload_n 0, 1, (0, 0, 0), [], 40, 0), (5, .iload_n 1, 1, (0, 0, 0), [], 40, 0), (6, .if_icmp .lt 10, 3, (0, 0, 0), [], 40, 0)], [(16, .iload_n 0, 1, (0, 0, 0), [], 40, 0), (17, .ireturn, 1, (0, 0, 0), [], 40, 0)]])
def ks_m4 : wk_M := (0, ⟨"java/lang/String", "checkIndex", "(II)V"⟩, prog_13_method_155_code, 2, none, 0, 0, 2, [[(0, .iload_n 0, 1, (0, 0, 0), [], 40, 0), (1, .iload_n 1, 1, (0, 0, 0), [], 40, 0), (8, .pop, 1, (0, 0, 0), [], 40, 0), (9, .return_, 1, (0, 0, 0), [], 40, 0)]])
def ks_m5 : wk_M := (0, ⟨"java/lang/StringLatin1", "charAt", "([BI)C"⟩, prog_14_method_2_code, 2, (some FieldType.char), 0, 0, 2, [[(0, .iload_n 1, 1, (0, 0, 0), [], 40, 0), (1, .aload_n 0, 1, (0, 0, 0), [], 40, 0), (6, .aload_n 0, 1, (0, 0, 0), [], 40, 0), (7, .iload_n 1, 1, (0, 0, 0), [], 40, 0), (9, .sipush 255, 3, (0, 0, 0), [], 40, 0), (12, .iand, 1, (0, 0, 0), [], 40, 0)]])
def ks_m6 : wk_M := (0, ⟨"java/lang/String", "charAt", "(I)C"⟩, prog_13_method_56_code, 2, (some FieldType.char), 0, 0, 1, [[(0, .aload_n 0, 1, (0, 0, 0), [], 40, 0), (4, .ifCond .eq 12, 3, (0, 0, 0), [], 40, 0), (7, .aload_n 0, 1, (0, 0, 0), [], 40, 0), (11, .iload_n 1, 1, (0, 0, 0), [], 40, 0)]])
theorem ks_o0 : ks_ok ks_m0 710 124 = true := by decide +kernel
theorem ks_o1 : ks_ok ks_m1 720 124 = true := by decide +kernel
theorem ks_o2 : ks_ok ks_m2 706 124 = true := by decide +kernel
theorem ks_o3 : ks_ok ks_m3 731 126 = true := by decide +kernel
theorem ks_o4 : ks_ok ks_m4 726 124 = true := by decide +kernel
theorem ks_o5 : ks_ok ks_m5 723 125 = true := by decide +kernel
theorem ks_o6 : ks_ok ks_m6 716 124 = true := by decide +kernel
/-- returns an int, and leaves the heap alone -/
def ks_R (v : Int32) (h : kc_H) : Option kc_V → kc_H → Prop := fun rv h' => rv = some (.inl v) ∧ h' = h
section KSJ
variable {g : kc_G} {d : Nat} {h : kc_H}
theorem ks_c0 (hg : kc_ok g) {i : Nat} (hi : i < 24) : ks_Con g d ks_m0 [ks_s i] h (ks_R 0 h) := by
  refine ks_new hg ks_o0 rfl rfl (show 1 ≤ 1 by decide) ?_
  refine ks_getcs (idx := 38) (q := 711) (by decide +kernel) (by decide +kernel) ?_
  refine ks_st 6 rfl rfl ?_
  refine ks_st 7 rfl rfl ?_
  refine ks_getc (i := i) (idx := 15) (q := 1912) hi (by decide +kernel) (by decide +kernel) ?_
  refine ks_st 14 rfl rfl ?_
  exact ks_retn (v := 0) rfl rfl (by decide +kernel) ⟨rfl, rfl⟩
theorem ks_c1 (hg : kc_ok g) {i : Nat} (hi : i < 24) : ks_Con g d ks_m1 [ks_s i] h (ks_R 1 h) := by
  refine ks_new hg ks_o1 rfl rfl (show 1 ≤ 1 by decide) ?_
  refine ks_getcs (idx := 38) (q := 711) (by decide +kernel) (by decide +kernel) ?_
  refine ks_st 6 rfl rfl ?_
  refine ks_st 7 rfl rfl ?_
  refine ks_getc (i := i) (idx := 15) (q := 1912) hi (by decide +kernel) (by decide +kernel) ?_
  refine ks_st 13 rfl rfl ?_
  refine ks_st 14 rfl rfl ?_
  refine ks_st 18 rfl rfl ?_
  exact kc_ret_ok rfl (rv := some (.inl (Int32.ofInt 1))) rfl ⟨rfl, rfl⟩
theorem ks_sh : ∀ i, i < 24 → Int32.ofNat (ks_L i) >>> ((0 : Int32) &&& 31) = Int32.ofNat (ks_L i) := by decide +kernel
/-- length() -/
theorem ks_c2 (hg : kc_ok g) {i : Nat} (hi : i < 24) : ks_Con g (d + 1) ks_m2 [ks_s i] h (ks_R (Int32.ofNat (ks_L i)) h) := by
  refine ks_new hg ks_o2 rfl rfl (show 1 ≤ 1 by decide) ?_
  refine ks_st 1 rfl rfl ?_
  refine ks_getv (i := i) (idx := 9) (q := 1911) hi (by decide +kernel) (by decide +kernel) ?_
  refine ks_len (i := i) hi (by decide +kernel) ?_
  refine ks_st 6 rfl rfl ?_
  refine ks_callV (M2 := ks_m0) (i := i) (idx := 335) (q1 := 707) (q2 := 708) (q3 := 709) (av := []) (r := [.inl (Int32.ofNat (ks_L i))]) hi (by decide +kernel) rfl (by decide +kernel) (by decide +kernel) (by decide +kernel) ks_o0 rfl rfl rfl (show 1 ≤ 8 by decide) (ks_c0 hg hi) (fun rv h' hq => ?_)
  obtain ⟨rfl, rfl⟩ := hq
  refine ks_st 10 rfl rfl ?_
  exact kc_ret_ok rfl (rv := some (.inl (Int32.ofNat (ks_L i) >>> ((0 : Int32) &&& 31)))) rfl ⟨by rw [ks_sh i hi], rfl⟩
theorem ks_c3 (hg : kc_ok g) {w : kc_V} (hw : w = ks_f ∨ w = .inr (.inr (.inl none))) {j n : Int32} (h1 : ¬ kc_cnd .lt j.toInt 0 = true) (h2 : kc_cnd .lt j.toInt n.toInt = true) : ks_Con g d ks_m3 [.inl j, .inl n, w] h (ks_R j h) := by
  refine ks_new hg ks_o3 rfl rfl (by rcases hw with rfl | rfl <;> exact (show 3 ≤ 3 by decide)) ?_
  have hwd : kc_args 0 [.inl j, .inl n, w] = [(0, .inl j), (1, .inl n), (2, w)] := rfl
  rw [hwd]
  refine ks_st 1 rfl rfl ?_
  refine ks_st (if kc_cnd .lt j.toInt 0 then 9 else 4) rfl rfl ?_
  rw [if_neg h1]
  refine ks_st 5 rfl rfl ?_
  refine ks_st 6 rfl rfl ?_
  refine ks_st (if kc_cnd .lt j.toInt n.toInt then 16 else 9) rfl rfl ?_
  rw [if_pos h2]
  refine ks_st 17 rfl rfl ?_
  exact kc_ret_ok rfl (rv := some (.inl j)) rfl ⟨rfl, rfl⟩
theorem ks_c4 (hg : kc_ok g) {j n : Int32} (h1 : ¬ kc_cnd .lt j.toInt 0 = true) (h2 : kc_cnd .lt j.toInt n.toInt = true) : ks_Con g (d + 1) ks_m4 [.inl j, .inl n] h (fun rv h' => rv = none ∧ h' = h) := by
  refine ks_new hg ks_o4 rfl rfl (show 2 ≤ 2 by decide) ?_
  refine ks_st 1 rfl rfl ?_
  refine ks_st 2 rfl rfl ?_
  refine ks_getfm (idx := 1053) (q := 727) (by decide +kernel) (by decide +kernel) (fun w hw => ?_)
  refine ks_callS (M2 := ks_m3) (idx := 1059) (q1 := 729) (q2 := 730) (av := [.inl j, .inl n, w]) (r := []) (by decide +kernel) (by decide +kernel) (by decide +kernel) ks_o3 rfl rfl rfl (show 0 ≤ 8 by decide) (ks_c3 hg hw h1 h2) (fun rv h' hq => ?_)
  obtain ⟨rfl, rfl⟩ := hq
  refine ks_st 9 rfl rfl ?_
  exact kc_ret_ok rfl (rv := none) rfl ⟨rfl, rfl⟩
theorem ks_in : ∀ i, i < 24 → ∀ k, k < ks_L i → ¬ (Int32.ofNat k < 0 ∨ ks_L i ≤ (Int32.ofNat k).toNatClampNeg) ∧ kc_cnd .lt (Int32.ofNat k).toInt 0 = false ∧ kc_cnd .lt (Int32.ofNat k).toInt (Int32.ofNat (ks_L i)).toInt = true ∧ (((ks_c i (Int32.ofNat k).toNatClampNeg &&& (Int16.ofInt 255).toInt32).toUInt32 % 65536).toInt32 = ks_c i k) ∧ (ks_c i k).toUInt32.toUInt16.toUInt32.toInt32 = ks_c i k := by decide +kernel
theorem ks_c5 (hg : kc_ok g) {i k : Nat} (hi : i < 24) (hk : k < ks_L i) : ks_Con g (d + 2) ks_m5 [ks_b i, .inl (Int32.ofNat k)] h (ks_R (ks_c i k) h) := by
  obtain ⟨a1, a2, a3, a4, a5⟩ := ks_in i hi k hk
  refine ks_new hg ks_o5 rfl rfl (show 2 ≤ 2 by decide) ?_
  refine ks_st 1 rfl rfl ?_
  refine ks_st 2 rfl rfl ?_
  refine ks_len (i := i) hi (by decide +kernel) ?_
  refine ks_callS (M2 := ks_m4) (idx := 9) (q1 := 724) (q2 := 725) (av := [.inl (Int32.ofNat k), .inl (Int32.ofNat (ks_L i))]) (r := []) (by decide +kernel) (by decide +kernel) (by decide +kernel) ks_o4 rfl rfl rfl (show 0 ≤ 8 by decide) (ks_c4 hg (by rw [a2]; decide) a3) (fun rv h' hq => ?_)
  obtain ⟨rfl, rfl⟩ := hq
  refine ks_st 7 rfl rfl ?_
  refine ks_st 8 rfl rfl ?_
  refine ks_bal (i := i) (j := Int32.ofNat k) hi a1 (by decide +kernel) ?_
  refine ks_st 12 rfl rfl ?_
  refine ks_st 13 rfl rfl ?_
  refine ks_i2c a4 (by decide +kernel) ?_
  exact ks_retn (v := ks_c i k) rfl (by show Value.int _ = Value.int _; rw [a5]) (by decide +kernel) ⟨rfl, rfl⟩
/-- charAt(k) -/
theorem ks_c6 (hg : kc_ok g) {i k : Nat} (hi : i < 24) (hk : k < ks_L i) : ks_Con g (d + 3) ks_m6 [ks_s i, .inl (Int32.ofNat k)] h (ks_R (ks_c i k) h) := by
  obtain ⟨a1, a2, a3, a4, a5⟩ := ks_in i hi k hk
  refine ks_new hg ks_o6 rfl rfl (show 2 ≤ 2 by decide) ?_
  refine ks_st 1 rfl rfl ?_
  refine ks_callV (M2 := ks_m1) (i := i) (idx := 492) (q1 := 717) (q2 := 718) (q3 := 719) (av := []) (r := []) hi (by decide +kernel) rfl (by decide +kernel) (by decide +kernel) (by decide +kernel) ks_o1 rfl rfl rfl (show 0 ≤ 8 by decide) (ks_c1 hg hi) (fun rv h' hq => ?_)
  obtain ⟨rfl, rfl⟩ := hq
  refine ks_st 7 rfl rfl ?_
  refine ks_st 8 rfl rfl ?_
  refine ks_getv (i := i) (idx := 9) (q := 1911) hi (by decide +kernel) (by decide +kernel) ?_
  refine ks_st 12 rfl rfl ?_
  refine ks_callS (M2 := ks_m5) (idx := 495) (q1 := 721) (q2 := 722) (av := [ks_b i, .inl (Int32.ofNat k)]) (r := []) (by decide +kernel) (by decide +kernel) (by decide +kernel) ks_o5 rfl rfl rfl (show 0 ≤ 8 by decide) (ks_c5 hg hi hk) (fun rv h' hq => ?_)
  obtain ⟨rfl, rfl⟩ := hq
  exact ks_retn (v := ks_c i k) rfl (by show Value.int _ = Value.int _; rw [a5]) (by decide +kernel) ⟨rfl, rfl⟩
/-! as steps -/
variable {M : wk_M} {Q : Option kc_V → kc_H → Prop} {pc : Nat} {AL : kc_L} {r : List kc_V}
theorem ks_length (hg : kc_ok g) {i : Nat} (hi : i < 24) (hM : (wk_My M).cls = "EvenSides$Reader") (hd : decode (wk_Mb M) pc = .ok (.invokevirtual 64, 3)) (hcat : wk_cat (r.map kc_e) ≤ 8) (k : kc_Ev g (d + 2) M Q (pc + 3) AL (.inl (Int32.ofNat (ks_L i)) :: r) h) : kc_Ev g (d + 2) M Q pc AL (ks_s i :: r) h := by
  refine ks_callV (M2 := ks_m2) (i := i) (idx := 64) (q1 := 703) (q2 := 704) (q3 := 705) (av := []) (r := r) hi hd rfl (by rw [hM]; decide +kernel) (by decide +kernel) (by decide +kernel) ks_o2 rfl rfl rfl hcat (ks_c2 hg hi) (fun rv h' hq => ?_)
  obtain ⟨rfl, rfl⟩ := hq
  exact k
theorem ks_charAt (hg : kc_ok g) {i j : Nat} (hi : i < 24) (hj : j < ks_L i) (hM : (wk_My M).cls = "EvenSides$Reader") (hd : decode (wk_Mb M) pc = .ok (.invokevirtual 69, 3)) (hcat : wk_cat (r.map kc_e) ≤ 8) (k : kc_Ev g (d + 4) M Q (pc + 3) AL (.inl (ks_c i j) :: r) h) : kc_Ev g (d + 4) M Q pc AL (.inl (Int32.ofNat j) :: ks_s i :: r) h := by
  refine ks_callV (M2 := ks_m6) (i := i) (idx := 69) (q1 := 713) (q2 := 714) (q3 := 715) (av := [.inl (Int32.ofNat j)]) (r := r) hi hd rfl (by rw [hM]; decide +kernel) (by decide +kernel) (by decide +kernel) ks_o6 rfl rfl rfl hcat (ks_c6 hg hi hj) (fun rv h' hq => ?_)
  obtain ⟨rfl, rfl⟩ := hq
  exact k
end KSJ
end
section
-- 60.kdom
/-! ===== THE SECOND ENGINE: intervals, named values, facts about cells, stations with a measure; run by the kernel over the clean logic ===== -/
/-- a value: (0, lo, hi) an int within bounds (each number plus 2^31), (1, j, k) the variable j plus k (2^31 is none), (2, lo, hi) a long within bounds (plus 2^63), (3, a, b) a reference to one of the cells a .. b, (5, _, _) the script, (6, j, k) as 1 but a long; else nothing is known -/
abbrev kd_V : Type := Nat × Nat × Nat
/-- the box: bounds of the variables, the newest first -/
abbrev kd_I : Type := List (Nat × Nat)
/-- what is known of places: cell, place, value -/
abbrev kd_F : Type := List (Nat × Nat × kd_V)
/-- what was written: cells from, to, places from, to -/
abbrev kd_W : Type := List (Nat × Nat × Nat × Nat)
/-- a row: place, operation, three numbers, length, targets -/
abbrev kd_X : Type := Nat × Nat × Nat × Nat × Nat × Nat × List Nat
def kd_B : Nat := 2147483648
def kd_M : Nat := 4294967295
def kd_C : Nat := 9223372036854775808
def kd_J : Nat := 18446744073709551615
def kd_tI : kd_V := (0, 0, 4294967295)
def kd_tJ : kd_V := (2, 0, 18446744073709551615)
def kd_at (iv : kd_I) (n j : Nat) : Option (Nat × Nat) := bif Nat.blt j n then wk_at iv (n - 1 - j) else none
/-- bounds of an int -/
def kd_bd (iv : kd_I) (n : Nat) (v : kd_V) (k : Nat → Nat → Bool) : Bool := match v with
  | (t, a, b) => bif Nat.beq t 0 then k a b else bif Nat.beq t 1 then (match kd_at iv n a with
    | some (l, h) => bif Nat.ble kd_B (l + b) then wk_fN (l + b - kd_B) fun l => wk_fN (h + b - kd_B) fun h => k l h else false
    | none => false) else false
/-- bounds of a long -/
def kd_bj (iv : kd_I) (n : Nat) (v : kd_V) (k : Nat → Nat → Bool) : Bool := match v with
  | (t, a, b) => bif Nat.beq t 2 then k a b else bif Nat.beq t 6 then (match kd_at iv n a with
    | some (l, h) => bif Nat.ble kd_B (l + b) then wk_fN (l + b + kd_C - kd_B - kd_B) fun l => wk_fN (h + b + kd_C - kd_B - kd_B) fun h => k l h else false
    | none => false) else false
/-- below a closed value -/
def kd_le (iv : kd_I) (n : Nat) (v w : kd_V) : Bool := match w with
  | (t, a, b) => bif Nat.beq t 0 then kd_bd iv n v (fun l h => Nat.ble a l && Nat.ble h b) else bif Nat.beq t 2 then kd_bj iv n v (fun l h => Nat.ble a l && Nat.ble h b) else bif Nat.beq t 3 then (match v with
    | (s, c, d) => Nat.beq s 3 && (Nat.ble a c && Nat.ble d b)) else bif Nat.beq t 5 then (match v with
    | (s, _, _) => Nat.beq s 5) else false
def kd_fV (v : kd_V) (k : kd_V → Bool) : Bool := match v with
  | (t, a, b) => wk_fN a fun a => wk_fN b fun b => k (t, a, b)
/-- a value gets a name -/
def kd_nm (iv : kd_I) (n : Nat) (v : kd_V) (k : kd_I → Nat → kd_V → Bool) : Bool := match v with
  | (t, a, b) => bif Nat.beq t 0 && Nat.blt a b then wk_fN n fun n => k ((a, b) :: iv) (n + 1) (1, n, kd_B) else k iv n (t, a, b)
/-- narrower bounds for a value's variable -/
def kd_rf (iv : kd_I) (n : Nat) (v : kd_V) (lo hi : Nat) (k : kd_I → Bool) : Bool := match v with
  | (t, j, o) => bif Nat.beq t 1 && Nat.blt j n then wk_fN (lo + kd_B - o) fun lo => wk_fN (hi + kd_B - o) fun hi => wk_put iv (n - 1 - j) (lo, hi) k else k iv
def kd_rj (iv : kd_I) (n : Nat) (v : kd_V) (lo hi : Nat) (k : kd_I → Bool) : Bool := match v with
  | (t, j, o) => bif Nat.beq t 6 && (Nat.blt j n && Nat.ble (kd_C - kd_B) lo) then wk_fN (lo - (kd_C - kd_B) + kd_B - o) fun lo => wk_fN (hi - (kd_C - kd_B) + kd_B - o) fun hi => wk_put iv (n - 1 - j) (lo, hi) k else k iv
def kd_mn (a b : Nat) : Nat := bif Nat.ble a b then a else b
def kd_mx (a b : Nat) : Nat := bif Nat.ble a b then b else a
abbrev kd_4 : Type := Nat → Nat → Nat → Nat → Bool
def kd_clt (l1 h1 l2 h2 : Nat) (kt kf : kd_4) : Bool := bif Nat.blt h1 l2 then kt l1 h1 l2 h2 else bif Nat.ble h2 l1 then kf l1 h1 l2 h2 else kt l1 (kd_mn h1 (h2 - 1)) (kd_mx l2 (l1 + 1)) h2 && kf (kd_mx l1 l2) h1 l2 (kd_mn h2 h1)
def kd_ceq (l1 h1 l2 h2 : Nat) (kt kf : kd_4) : Bool := bif Nat.beq l1 h1 && (Nat.beq l2 h2 && Nat.beq l1 l2) then kt l1 h1 l2 h2 else bif Nat.blt h1 l2 || Nat.blt h2 l1 then kf l1 h1 l2 h2 else kt (kd_mx l1 l2) (kd_mn h1 h2) (kd_mx l1 l2) (kd_mn h1 h2) && (bif Nat.beq l2 h2 then (bif Nat.beq l1 l2 then kf (l1 + 1) h1 l2 h2 else bif Nat.beq h1 l2 then kf l1 (h1 - 1) l2 h2 else kf l1 h1 l2 h2) else bif Nat.beq l1 h1 then (bif Nat.beq l2 l1 then kf l1 h1 (l2 + 1) h2 else bif Nat.beq h2 l1 then kf l1 h1 l2 (h2 - 1) else kf l1 h1 l2 h2) else kf l1 h1 l2 h2)
/-- conditions: 0 eq, 1 ne, 2 lt, 3 ge, 4 gt, 5 le -/
def kd_cmp (c l1 h1 l2 h2 : Nat) (kt kf : kd_4) : Bool :=
  bif Nat.ble c 1 then (bif Nat.beq c 0 then kd_ceq l1 h1 l2 h2 kt kf else kd_ceq l1 h1 l2 h2 kf kt)
  else bif Nat.ble c 3 then (bif Nat.beq c 2 then kd_clt l1 h1 l2 h2 kt kf else kd_clt l1 h1 l2 h2 kf kt)
  else (bif Nat.beq c 4 then kd_clt l2 h2 l1 h1 (fun a b c d => kt c d a b) (fun a b c d => kf c d a b) else kd_clt l2 h2 l1 h1 (fun a b c d => kf c d a b) (fun a b c d => kt c d a b))
/-- a branch on two ints -/
def kd_br (c : Nat) (iv : kd_I) (n : Nat) (v w : kd_V) (kt kf : kd_I → Bool) : Bool := kd_bd iv n v fun l1 h1 => kd_bd iv n w fun l2 h2 => kd_cmp c l1 h1 l2 h2 (fun a b c d => kd_rf iv n v a b fun iv => kd_rf iv n w c d kt) (fun a b c d => kd_rf iv n v a b fun iv => kd_rf iv n w c d kf)
def kd_brj (c : Nat) (iv : kd_I) (n : Nat) (v w : kd_V) (kt kf : kd_I → Bool) : Bool := kd_bj iv n v fun l1 h1 => kd_bj iv n w fun l2 h2 => kd_cmp c l1 h1 l2 h2 (fun a b c d => kd_rj iv n v a b fun iv => kd_rj iv n w c d kt) (fun a b c d => kd_rj iv n v a b fun iv => kd_rj iv n w c d kf)
/-- every number of a row of them -/
def kd_each (f : Nat → Bool) : Nat → Nat → Bool
  | 0, _ => true
  | m + 1, a => f a && wk_fN (a + 1) fun a => kd_each f m a
/-- a variable of few values, one after another -/
def kd_cut (few : Nat) (iv : kd_I) (n : Nat) (v : kd_V) (k : kd_I → Bool) : Bool := match v with
  | (t, j, _) => bif Nat.beq t 1 then (match kd_at iv n j with
    | some (l, h) => bif Nat.blt l h && Nat.blt (h - l) few then kd_each (fun a => wk_put iv (n - 1 - j) (a, a) k) (h - l + 1) l else k iv
    | none => false) else k iv
/-! arithmetic on bounds (each plus 2^31) -/
def kd_fit (lo hi : Nat) (k : kd_V → Bool) : Bool := wk_fN lo fun lo => wk_fN hi fun hi => k (0, lo, hi)
/-- bounds that are known with 2^31 added twice -/
def kd_fit2 (lo hi : Nat) (k : kd_V → Bool) : Bool := bif Nat.ble kd_B lo && Nat.ble hi (kd_M + kd_B) then kd_fit (lo - kd_B) (hi - kd_B) k else k kd_tI
def kd_add (iv : kd_I) (n : Nat) (v w : kd_V) (k : kd_V → Bool) : Bool := kd_bd iv n v fun l1 h1 => kd_bd iv n w fun l2 h2 =>
  bif Nat.beq l2 h2 && Nat.beq v.1 1 then (bif Nat.ble kd_B (l1 + l2) && (Nat.ble (h1 + l2) (kd_M + kd_B) && Nat.ble kd_B (v.2.2 + l2)) then wk_fN (v.2.2 + l2 - kd_B) fun o => k (1, v.2.1, o) else k kd_tI)
  else bif Nat.beq l1 h1 && Nat.beq w.1 1 then (bif Nat.ble kd_B (l2 + l1) && (Nat.ble (h2 + l1) (kd_M + kd_B) && Nat.ble kd_B (w.2.2 + l1)) then wk_fN (w.2.2 + l1 - kd_B) fun o => k (1, w.2.1, o) else k kd_tI)
  else kd_fit2 (l1 + l2) (h1 + h2) k
def kd_sub (iv : kd_I) (n : Nat) (v w : kd_V) (k : kd_V → Bool) : Bool := kd_bd iv n v fun l1 h1 => kd_bd iv n w fun l2 h2 =>
  bif Nat.beq l2 h2 && Nat.beq v.1 1 then (bif Nat.ble l2 (l1 + kd_B) && (Nat.ble (h1 + kd_B) (kd_M + l2) && Nat.ble l2 (v.2.2 + kd_B)) then wk_fN (v.2.2 + kd_B - l2) fun o => k (1, v.2.1, o) else k kd_tI)
  else bif Nat.ble h2 (l1 + kd_B) && Nat.ble (h1 + kd_B) (kd_M + l2) then kd_fit (l1 + kd_B - h2) (h1 + kd_B - l2) k else k kd_tI
/-- one number out of two, by the operation itself -/
def kd_nb (x : Int32) : Nat := (x.toInt + 2147483648).toNat
def kd_ofN (l : Nat) : Int32 := Int32.ofInt ((l : Int) - 2147483648)
def kd_1 (G : Int32 → Int32 → Int32) (l1 l2 : Nat) (k : kd_V → Bool) : Bool := wk_fN (kd_nb (G (kd_ofN l1) (kd_ofN l2))) fun a => k (0, a, a)
def kd_one (l1 h1 l2 h2 : Nat) : Bool := Nat.beq l1 h1 && Nat.beq l2 h2
/-- numbers that are not below 0 -/
def kd_pos (l : Nat) : Bool := Nat.ble kd_B l
def kd_mul (l1 h1 l2 h2 : Nat) (k : kd_V → Bool) : Bool := bif kd_pos l1 && kd_pos l2 then (bif Nat.ble ((h1 - kd_B) * (h2 - kd_B)) 2147483647 then kd_fit ((l1 - kd_B) * (l2 - kd_B) + kd_B) ((h1 - kd_B) * (h2 - kd_B) + kd_B) k else k kd_tI) else bif kd_one l1 h1 l2 h2 then kd_1 (fun a b => a * b) l1 l2 k else k kd_tI
def kd_and (l1 h1 l2 h2 : Nat) (k : kd_V → Bool) : Bool := bif kd_one l1 h1 l2 h2 then kd_1 (fun a b => a &&& b) l1 l2 k else bif kd_pos l2 then k (0, kd_B, h2) else bif kd_pos l1 then k (0, kd_B, h1) else k kd_tI
def kd_pw (n : Nat) : Nat := 2 ^ (Nat.log2 n + 1) - 1
def kd_or (l1 h1 l2 h2 : Nat) (k : kd_V → Bool) : Bool := bif kd_one l1 h1 l2 h2 then kd_1 (fun a b => a ||| b) l1 l2 k else bif kd_pos l1 && (kd_pos l2 && Nat.ble (kd_pw (kd_mx (h1 - kd_B) (h2 - kd_B))) 2147483647) then kd_fit kd_B (kd_pw (kd_mx (h1 - kd_B) (h2 - kd_B)) + kd_B) k else k kd_tI
def kd_xor (l1 h1 l2 h2 : Nat) (k : kd_V → Bool) : Bool := bif kd_one l1 h1 l2 h2 then kd_1 (fun a b => a ^^^ b) l1 l2 k else k kd_tI
def kd_shl (l1 h1 l2 h2 : Nat) (k : kd_V → Bool) : Bool := bif kd_one l1 h1 l2 h2 then kd_1 (fun a b => a <<< (b &&& 31)) l1 l2 k else k kd_tI
def kd_shr (l1 h1 l2 h2 : Nat) (k : kd_V → Bool) : Bool := bif kd_one l1 h1 l2 h2 then kd_1 (fun a b => a >>> (b &&& 31)) l1 l2 k else bif kd_pos l2 && (Nat.beq l2 h2 && Nat.ble (l2 - kd_B) 30) then kd_fit (l1 / 2 ^ (l2 - kd_B) + (kd_B - kd_B / 2 ^ (l2 - kd_B))) (h1 / 2 ^ (l2 - kd_B) + (kd_B - kd_B / 2 ^ (l2 - kd_B))) k else k kd_tI
def kd_div (l1 h1 l2 h2 : Nat) (k : kd_V → Bool) : Bool := bif Nat.blt kd_B l2 then (bif kd_pos l1 && Nat.beq l2 h2 then kd_fit ((l1 - kd_B) / (l2 - kd_B) + kd_B) ((h1 - kd_B) / (l2 - kd_B) + kd_B) k else k kd_tI) else false
def kd_rem (l1 h1 l2 h2 : Nat) (k : kd_V → Bool) : Bool := bif Nat.blt kd_B l2 then (bif kd_one l1 h1 l2 h2 then kd_1 (fun a b => a - a / b * b) l1 l2 k else bif kd_pos l1 then wk_fN (h2 - 1) (fun h => k (0, kd_B, h)) else k kd_tI) else false
def kd_neg (l h : Nat) (k : kd_V → Bool) : Bool := bif Nat.blt 0 l then kd_fit (kd_B + kd_B - h) (kd_B + kd_B - l) k else k kd_tI
def kd_b2 (iv : kd_I) (n : Nat) (v w : kd_V) (f : Nat → Nat → Nat → Nat → (kd_V → Bool) → Bool) (k : kd_V → Bool) : Bool := kd_bd iv n v fun l1 h1 => kd_bd iv n w fun l2 h2 => f l1 h1 l2 h2 k
/-- int to long, long to int -/
def kd_il (iv : kd_I) (n : Nat) (v : kd_V) (k : kd_V → Bool) : Bool := bif Nat.beq v.1 1 then kd_bd iv n v (fun _ _ => k (6, v.2.1, v.2.2)) else kd_bd iv n v fun l h => wk_fN (l + (kd_C - kd_B)) fun l => wk_fN (h + (kd_C - kd_B)) fun h => k (2, l, h)
def kd_li (iv : kd_I) (n : Nat) (v : kd_V) (k : kd_V → Bool) : Bool := bif Nat.beq v.1 6 then kd_bj iv n v (fun l h => bif Nat.ble (kd_C - kd_B) l && Nat.ble h (kd_C - kd_B + kd_M) then k (1, v.2.1, v.2.2) else false) else kd_bj iv n v fun l h => bif Nat.ble (kd_C - kd_B) l && Nat.ble h (kd_C - kd_B + kd_M) then kd_fit (l - (kd_C - kd_B)) (h - (kd_C - kd_B)) k else k kd_tI
/-- and of two longs -/
def kd_landj (l1 h1 l2 h2 : Nat) (k : kd_V → Bool) : Bool := bif Nat.ble kd_C l2 then k (2, kd_C, h2) else bif Nat.ble kd_C l1 then k (2, kd_C, h1) else k kd_tJ
end
section
-- 61.knum
/-! ===== the second engine's numbers are right ===== -/
theorem kd_nb_i (x : Int32) : (kd_nb x : Int) = x.toInt + 2147483648 := by
  have := Int32.minValue_le_toInt x
  have e : Int32.minValue.toInt = -2147483648 := by decide
  unfold kd_nb
  omega
theorem kd_nb_M (x : Int32) : kd_nb x ≤ 4294967295 := by
  have h1 := kd_nb_i x
  have h2 := Int32.toInt_le x
  have e : Int32.maxValue.toInt = 2147483647 := by decide
  omega
theorem kd_ofN_r {x : Int32} {l : Nat} (h : kd_nb x = l) : kd_ofN l = x := by
  have h1 := kd_nb_i x
  unfold kd_ofN
  rw [show (l : Int) - 2147483648 = x.toInt by omega, Int32.ofInt_toInt]
theorem kd_toI {r : Int} (h1 : -2147483648 ≤ r) (h2 : r ≤ 2147483647) : (Int32.ofInt r).toInt = r := wk_in32_r (by
  unfold wk_in32
  simp [h1, h2])
theorem kd_add_i {x y : Int32} (h1 : -2147483648 ≤ x.toInt + y.toInt) (h2 : x.toInt + y.toInt ≤ 2147483647) : (x + y).toInt = x.toInt + y.toInt := by
  have e : x + y = Int32.ofInt (x.toInt + y.toInt) := by rw [Int32.ofInt_add, Int32.ofInt_toInt, Int32.ofInt_toInt]
  rw [e, kd_toI h1 h2]
theorem kd_sub_i {x y : Int32} (h1 : -2147483648 ≤ x.toInt - y.toInt) (h2 : x.toInt - y.toInt ≤ 2147483647) : (x - y).toInt = x.toInt - y.toInt := by
  have e : x - y = Int32.ofInt (x.toInt - y.toInt) := by rw [Int32.ofInt_sub, Int32.ofInt_toInt, Int32.ofInt_toInt]
  rw [e, kd_toI h1 h2]
theorem kd_mul_i {x y : Int32} (h1 : -2147483648 ≤ x.toInt * y.toInt) (h2 : x.toInt * y.toInt ≤ 2147483647) : (x * y).toInt = x.toInt * y.toInt := by
  have e : x * y = Int32.ofInt (x.toInt * y.toInt) := by rw [Int32.ofInt_mul, Int32.ofInt_toInt, Int32.ofInt_toInt]
  rw [e, kd_toI h1 h2]
theorem kd_neg_i {x : Int32} (h1 : -2147483648 < x.toInt) : (-x).toInt = -x.toInt := by
  have h2 := Int32.toInt_le x
  have e0 : Int32.maxValue.toInt = 2147483647 := by decide
  have e : -x = Int32.ofInt (-x.toInt) := by rw [Int32.ofInt_neg, Int32.ofInt_toInt]
  rw [e, kd_toI (by omega) (by omega)]
/-- numbers not below 0, by their bits -/
theorem kd_tn {x : Int32} (h : 0 ≤ x.toInt) : (x.toBitVec.toNat : Int) = x.toInt := by
  have e : x.toInt = x.toBitVec.toInt := rfl
  rw [e] at h ⊢
  rw [BitVec.toInt_eq_toNat_cond] at h ⊢
  have := x.toBitVec.isLt
  split
  · rfl
  · rename_i hc
    rw [if_neg hc] at h
    omega
theorem kd_tn2 {x : Int32} (h : x.toBitVec.toNat < 2147483648) : x.toInt = (x.toBitVec.toNat : Int) := by
  have e : x.toInt = x.toBitVec.toInt := rfl
  rw [e, BitVec.toInt_eq_toNat_cond, if_pos (by omega)]
theorem kd_and_i {x y : Int32} (h : 0 ≤ y.toInt) : 0 ≤ (x &&& y).toInt ∧ (x &&& y).toInt ≤ y.toInt := by
  have hy := kd_tn h
  have h2 := Int32.toInt_le y
  have e0 : Int32.maxValue.toInt = 2147483647 := by decide
  have hb : (x &&& y).toBitVec.toNat ≤ y.toBitVec.toNat := by
    rw [Int32.toBitVec_and, BitVec.toNat_and]
    exact Nat.and_le_right
  rw [kd_tn2 (x := x &&& y) (by omega)]
  omega
theorem kd_and_i2 {x y : Int32} (h : 0 ≤ x.toInt) : 0 ≤ (x &&& y).toInt ∧ (x &&& y).toInt ≤ x.toInt := by
  have hy := kd_tn h
  have h2 := Int32.toInt_le x
  have e0 : Int32.maxValue.toInt = 2147483647 := by decide
  have hb : (x &&& y).toBitVec.toNat ≤ x.toBitVec.toNat := by
    rw [Int32.toBitVec_and, BitVec.toNat_and]
    exact Nat.and_le_left
  rw [kd_tn2 (x := x &&& y) (by omega)]
  omega
theorem kd_or_i {x y : Int32} {m : Nat} (hx : 0 ≤ x.toInt) (hy : 0 ≤ y.toInt) (hm : 2 ^ m ≤ 2147483648) (h1 : x.toInt < ((2 ^ m : Nat) : Int)) (h2 : y.toInt < ((2 ^ m : Nat) : Int)) : 0 ≤ (x ||| y).toInt ∧ (x ||| y).toInt < ((2 ^ m : Nat) : Int) := by
  have ex := kd_tn hx
  have ey := kd_tn hy
  have hb : (x ||| y).toBitVec.toNat < 2 ^ m := by
    rw [Int32.toBitVec_or, BitVec.toNat_or]
    exact Nat.or_lt_two_pow (by omega) (by omega)
  rw [kd_tn2 (x := x ||| y) (by omega)]
  omega
theorem kd_sh : ∀ n, n < 32 → ((kd_ofN (n + 2147483648) &&& 31).toBitVec.smod 32).toNat = n := by decide +kernel
theorem kd_shr_i {x y : Int32} {s : Nat} (hy : y.toInt = (s : Int)) (hs : s < 32) : (x >>> (y &&& 31)).toInt = x.toInt / ((2 ^ s : Nat) : Int) := by
  have ey : y = kd_ofN (s + 2147483648) := by
    refine (kd_ofN_r ?_).symm
    have := kd_nb_i y
    omega
  have e : (x >>> (y &&& 31)).toInt = (x.toBitVec.sshiftRight ((y &&& 31).toBitVec.smod 32).toNat).toInt := rfl
  rw [e, ey, kd_sh s hs, BitVec.toInt_sshiftRight, Int.shiftRight_eq_div_pow]
  rfl
theorem kd_div_i {x y : Int32} (hx : 0 ≤ x.toInt) (hy : 0 < y.toInt) : (x / y).toInt = x.toInt / y.toInt := by
  have h2 := Int32.toInt_le x
  have e0 : Int32.maxValue.toInt = 2147483647 := by decide
  have h3 : 0 ≤ x.toInt / y.toInt := Int.ediv_nonneg hx (by omega)
  have h4 : x.toInt / y.toInt ≤ x.toInt := Int.ediv_le_self _ hx
  rw [Int32.toInt_div, Int.tdiv_eq_ediv_of_nonneg hx]
  rw [Int.bmod_eq_of_le (by omega) (by omega)]
theorem kd_rem_i {x y : Int32} (hx : 0 ≤ x.toInt) (hy : 0 < y.toInt) : (x - x / y * y).toInt = x.toInt % y.toInt := by
  have h2 := Int32.toInt_le x
  have e0 : Int32.maxValue.toInt = 2147483647 := by decide
  have hd := kd_div_i hx hy
  have h3 : 0 ≤ x.toInt / y.toInt := Int.ediv_nonneg hx (by omega)
  have h5 := Int.emod_add_mul_ediv x.toInt y.toInt
  have h6 := Int.emod_nonneg x.toInt (show y.toInt ≠ 0 by omega)
  have h7 : 0 ≤ x.toInt / y.toInt * y.toInt := Int.mul_nonneg h3 (by omega)
  have h8 : x.toInt / y.toInt * y.toInt = y.toInt * (x.toInt / y.toInt) := Int.mul_comm _ _
  have hm : (x / y * y).toInt = x.toInt / y.toInt * y.toInt := by
    rw [kd_mul_i (by rw [hd]; omega) (by rw [hd]; omega), hd]
  rw [kd_sub_i (by rw [hm]; omega) (by rw [hm]; omega), hm]
  omega
/-! longs -/
def kd_nj (y : Int64) : Nat := (y.toInt + 9223372036854775808).toNat
theorem kd_nj_i (x : Int64) : (kd_nj x : Int) = x.toInt + 9223372036854775808 := by
  have := Int64.minValue_le_toInt x
  have e : Int64.minValue.toInt = -9223372036854775808 := by decide
  unfold kd_nj
  omega
theorem kd_nj_J (x : Int64) : kd_nj x ≤ 18446744073709551615 := by
  have h1 := kd_nj_i x
  have h2 := Int64.toInt_le x
  have e : Int64.maxValue.toInt = 9223372036854775807 := by decide
  omega
theorem kd_tnj {x : Int64} (h : 0 ≤ x.toInt) : (x.toBitVec.toNat : Int) = x.toInt := by
  have e : x.toInt = x.toBitVec.toInt := rfl
  rw [e] at h ⊢
  rw [BitVec.toInt_eq_toNat_cond] at h ⊢
  have := x.toBitVec.isLt
  split
  · rfl
  · rename_i hc
    rw [if_neg hc] at h
    omega
theorem kd_tnj2 {x : Int64} (h : x.toBitVec.toNat < 9223372036854775808) : x.toInt = (x.toBitVec.toNat : Int) := by
  have e : x.toInt = x.toBitVec.toInt := rfl
  rw [e, BitVec.toInt_eq_toNat_cond, if_pos (by omega)]
theorem kd_landj_i {x y : Int64} (h : 0 ≤ y.toInt) : 0 ≤ (x &&& y).toInt ∧ (x &&& y).toInt ≤ y.toInt := by
  have hy := kd_tnj h
  have h2 := Int64.toInt_le y
  have e0 : Int64.maxValue.toInt = 9223372036854775807 := by decide
  have hb : (x &&& y).toBitVec.toNat ≤ y.toBitVec.toNat := by
    rw [Int64.toBitVec_and, BitVec.toNat_and]
    exact Nat.and_le_right
  rw [kd_tnj2 (x := x &&& y) (by omega)]
  omega
theorem kd_landj_i2 {x y : Int64} (h : 0 ≤ x.toInt) : 0 ≤ (x &&& y).toInt ∧ (x &&& y).toInt ≤ x.toInt := by
  have hy := kd_tnj h
  have h2 := Int64.toInt_le x
  have e0 : Int64.maxValue.toInt = 9223372036854775807 := by decide
  have hb : (x &&& y).toBitVec.toNat ≤ x.toBitVec.toNat := by
    rw [Int64.toBitVec_and, BitVec.toNat_and]
    exact Nat.and_le_left
  rw [kd_tnj2 (x := x &&& y) (by omega)]
  omega
theorem kd_l2i_i {x : Int64} (h1 : -2147483648 ≤ x.toInt) (h2 : x.toInt ≤ 2147483647) : x.toInt32.toInt = x.toInt := by
  rw [Int64.toInt_toInt32, Int.bmod_eq_of_le (by omega) (by omega)]
end
