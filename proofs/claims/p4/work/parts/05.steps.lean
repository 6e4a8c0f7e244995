/-! ===== the engine's steps that leave the heap alone, over the machine ===== -/
/-- lengths -/
def wk_lk : Instr → Nat → Bool
  | .bipush _, n | .iload _, n | .lload _, n | .aload _, n | .istore _, n | .lstore _, n | .astore _, n | .newarray _, n | .ldc _, n => Nat.beq n 2
  | .sipush _, n | .iinc _ _, n | .goto _, n | .ifCond _ _, n | .if_icmp _ _, n | .ldc2_w _, n | .ldc_w _, n | .getfield _, n | .putfield _, n | .new _, n | .anewarray _, n => Nat.beq n 3
  | .invokespecial _, n | .invokestatic _, n | .invokevirtual _, n => Nat.beq n 3
  | .multianewarray _ _, n => Nat.beq n 4
  | .tableswitch .., _ => true
  | _, n => Nat.beq n 1
section WKS
variable {p : Program} {l : Launch} {e : Env} {R : Room} {s : State} {m : MethodId} {args : Array Value} {below : List Frame} {meth : Method} {c : Code} {H : Heap} {locs : List Loc} {cells slots : Nat} {Q : State → Prop}
variable {cc : ByteArray} {pc : Nat} {ls : Array Slot} {rest : List Value}
theorem wk_if (hx : p.tables.exec = Jvm.exec) (hb : c.code = cc) {cd : ClassFile.Cond} {x : Int32} {off : Int} {tgt : Nat} (hd : decode cc pc = .ok (.ifCond cd off, 3)) (ht : (pc : Int) + off = (tgt : Int))
    (k1 : wk_holds cd x 0 → W p l e R s m args below meth c H locs cells slots Q (F0 m tgt ls rest)) (k2 : ¬ wk_holds cd x 0 → W p l e R s m args below meth c H locs cells slots Q (F0 m (pc + 3) ls rest)) : W p l e R s m args below meth c H locs cells slots Q (F0 m pc ls (.int x :: rest)) := by
  cases cd with
  | eq => exact lv_if_eq hx hb hd ht k1 k2
  | ne => exact lv_if_ne hx hb hd ht k1 (fun h => k2 (fun q => q h))
  | lt => exact lv_if_lt hx hb hd ht k1 k2
  | ge => exact lv_if_ge hx hb hd ht k1 k2
  | gt => exact lv_if_gt hx hb hd ht k1 k2
  | le => exact lv_if_le hx hb hd ht k1 k2
theorem wk_icmp (hx : p.tables.exec = Jvm.exec) (hb : c.code = cc) {cd : ClassFile.Cond} {x y : Int32} {off : Int} {tgt : Nat} (hd : decode cc pc = .ok (.if_icmp cd off, 3)) (ht : (pc : Int) + off = (tgt : Int))
    (k1 : wk_holds cd x y → W p l e R s m args below meth c H locs cells slots Q (F0 m tgt ls rest)) (k2 : ¬ wk_holds cd x y → W p l e R s m args below meth c H locs cells slots Q (F0 m (pc + 3) ls rest)) : W p l e R s m args below meth c H locs cells slots Q (F0 m pc ls (.int y :: .int x :: rest)) := by
  cases cd with
  | eq => exact lv_icmp_eq hx hb hd ht k1 k2
  | ne => exact lv_icmp_ne hx hb hd ht k1 (fun h => k2 (fun q => q h))
  | lt => exact lv_icmp_lt hx hb hd ht k1 k2
  | ge => exact lv_icmp_ge hx hb hd ht k1 k2
  | gt => exact lv_icmp_gt hx hb hd ht k1 k2
  | le => exact lv_icmp_le hx hb hd ht k1 k2
variable {as : List Nat} {z : Nat → Nat} {ρ : Nat → Int32} {iv : wk_I} {AL AL' : wk_L} {AS AS' : List wk_V} {pc' : Nat} {nL : Nat}
abbrev wk_go1 (p : Program) (l : Launch) (e : Env) (R : Room) (s : State) (m : MethodId) (args : Array Value) (below : List Frame) (meth : Method) (c : Code) (H : Heap) (locs : List Loc) (cells slots : Nat) (Q : State → Prop) (as : List Nat) (z : Nat → Nat) (ρ : Nat → Int32) (nL pc' : Nat) (AL' : wk_L) (AS' : List wk_V) : Prop :=
  ∀ (ls' : Array Slot) (lv' : List (Nat × Value)) (st' : List Value), lv_has ls' nL lv' → wk_f2 (wk_rl as z ρ) AL' lv' → wk_f2 (wk_r as z ρ) AS' st' → W p l e R s m args below meth c H locs cells slots Q (F0 m pc' ls' st')
theorem wk_bin {F : Int32 → Int32 → Int32} {v w : wk_V} {lv : List (Nat × Value)} {st : List Value} (hbx : wk_bx ρ iv) (hp : (wk_o2 iv F w v).map (fun x => ((pc + 1, AL, x :: AS) : wk_P)) = some (pc', AL', AS')) (hs : wk_f2 (wk_r as z ρ) (v :: w :: AS) st) (hl : lv_has ls nL lv) (ha : wk_f2 (wk_rl as z ρ) AL lv)
    (row : ∀ (a b : Int32) (r : List Value), W p l e R s m args below meth c H locs cells slots Q (F0 m (pc + 1) ls (.int (F a b) :: r)) → W p l e R s m args below meth c H locs cells slots Q (F0 m pc ls (.int b :: .int a :: r)))
    (kk : wk_go1 p l e R s m args below meth c H locs cells slots Q as z ρ nL pc' AL' AS') : W p l e R s m args below meth c H locs cells slots Q (F0 m pc ls st) := by
  obtain ⟨y, st1, rfl, hv, hs1⟩ := wk_f2_cons hs
  obtain ⟨x, st2, rfl, hw, hs2⟩ := wk_f2_cons hs1
  cases ho : wk_o2 iv F w v with
  | none => rw [ho] at hp; cases hp
  | some u =>
    rw [ho] at hp
    cases hp
    obtain ⟨a, b, rfl, rfl, hu⟩ := wk_o2_r hbx ho hw hv
    exact row a b st2 (kk ls lv _ hl ha ⟨hu, hs2⟩)
theorem wk_binj {F : Int64 → Int64 → Int64} {v w : wk_V} {lv : List (Nat × Value)} {st : List Value} (hbx : wk_bx ρ iv) (hp : (wk_o2j iv F w v).map (fun x => ((pc + 1, AL, x :: AS) : wk_P)) = some (pc', AL', AS')) (hs : wk_f2 (wk_r as z ρ) (v :: w :: AS) st) (hl : lv_has ls nL lv) (ha : wk_f2 (wk_rl as z ρ) AL lv)
    (row : ∀ (a b : Int64) (r : List Value), W p l e R s m args below meth c H locs cells slots Q (F0 m (pc + 1) ls (.long (F a b) :: r)) → W p l e R s m args below meth c H locs cells slots Q (F0 m pc ls (.long b :: .long a :: r)))
    (kk : wk_go1 p l e R s m args below meth c H locs cells slots Q as z ρ nL pc' AL' AS') : W p l e R s m args below meth c H locs cells slots Q (F0 m pc ls st) := by
  obtain ⟨y, st1, rfl, hv, hs1⟩ := wk_f2_cons hs
  obtain ⟨x, st2, rfl, hw, hs2⟩ := wk_f2_cons hs1
  cases ho : wk_o2j iv F w v with
  | none => rw [ho] at hp; cases hp
  | some u =>
    rw [ho] at hp
    cases hp
    obtain ⟨a, b, rfl, rfl, hu⟩ := wk_o2j_r hbx ho hw hv
    exact row a b st2 (kk ls lv _ hl ha ⟨hu, hs2⟩)
theorem wk_bins {F : Int64 → Int32 → Int64} {v w : wk_V} {lv : List (Nat × Value)} {st : List Value} (hbx : wk_bx ρ iv) (hp : (wk_o2s iv F w v).map (fun x => ((pc + 1, AL, x :: AS) : wk_P)) = some (pc', AL', AS')) (hs : wk_f2 (wk_r as z ρ) (v :: w :: AS) st) (hl : lv_has ls nL lv) (ha : wk_f2 (wk_rl as z ρ) AL lv)
    (row : ∀ (a : Int64) (b : Int32) (r : List Value), W p l e R s m args below meth c H locs cells slots Q (F0 m (pc + 1) ls (.long (F a b) :: r)) → W p l e R s m args below meth c H locs cells slots Q (F0 m pc ls (.int b :: .long a :: r)))
    (kk : wk_go1 p l e R s m args below meth c H locs cells slots Q as z ρ nL pc' AL' AS') : W p l e R s m args below meth c H locs cells slots Q (F0 m pc ls st) := by
  obtain ⟨y, st1, rfl, hv, hs1⟩ := wk_f2_cons hs
  obtain ⟨x, st2, rfl, hw, hs2⟩ := wk_f2_cons hs1
  cases ho : wk_o2s iv F w v with
  | none => rw [ho] at hp; cases hp
  | some u =>
    rw [ho] at hp
    cases hp
    obtain ⟨a, b, rfl, rfl, hu⟩ := wk_o2s_r hbx ho hw hv
    exact row a b st2 (kk ls lv _ hl ha ⟨hu, hs2⟩)
theorem wk_bind {F : Int32 → Int32 → Int32} {v w : wk_V} {lv : List (Nat × Value)} {st : List Value} (hbx : wk_bx ρ iv) (hp : (wk_d2 iv F w v).map (fun x => ((pc + 1, AL, x :: AS) : wk_P)) = some (pc', AL', AS')) (hs : wk_f2 (wk_r as z ρ) (v :: w :: AS) st) (hl : lv_has ls nL lv) (ha : wk_f2 (wk_rl as z ρ) AL lv)
    (row : ∀ (a b : Int32) (r : List Value), ¬ b = 0 → W p l e R s m args below meth c H locs cells slots Q (F0 m (pc + 1) ls (.int (F a b) :: r)) → W p l e R s m args below meth c H locs cells slots Q (F0 m pc ls (.int b :: .int a :: r)))
    (kk : wk_go1 p l e R s m args below meth c H locs cells slots Q as z ρ nL pc' AL' AS') : W p l e R s m args below meth c H locs cells slots Q (F0 m pc ls st) := by
  obtain ⟨y, st1, rfl, hv, hs1⟩ := wk_f2_cons hs
  obtain ⟨x, st2, rfl, hw, hs2⟩ := wk_f2_cons hs1
  cases ho : wk_d2 iv F w v with
  | none => rw [ho] at hp; cases hp
  | some u =>
    rw [ho] at hp
    cases hp
    obtain ⟨a, b, rfl, rfl, hne, hu⟩ := wk_d2_r hbx ho hw hv
    exact row a b st2 hne (kk ls lv _ hl ha ⟨hu, hs2⟩)
theorem wk_bindj {F : Int64 → Int64 → Int64} {v w : wk_V} {lv : List (Nat × Value)} {st : List Value} (hbx : wk_bx ρ iv) (hp : (wk_d2j iv F w v).map (fun x => ((pc + 1, AL, x :: AS) : wk_P)) = some (pc', AL', AS')) (hs : wk_f2 (wk_r as z ρ) (v :: w :: AS) st) (hl : lv_has ls nL lv) (ha : wk_f2 (wk_rl as z ρ) AL lv)
    (row : ∀ (a b : Int64) (r : List Value), ¬ b = 0 → W p l e R s m args below meth c H locs cells slots Q (F0 m (pc + 1) ls (.long (F a b) :: r)) → W p l e R s m args below meth c H locs cells slots Q (F0 m pc ls (.long b :: .long a :: r)))
    (kk : wk_go1 p l e R s m args below meth c H locs cells slots Q as z ρ nL pc' AL' AS') : W p l e R s m args below meth c H locs cells slots Q (F0 m pc ls st) := by
  obtain ⟨y, st1, rfl, hv, hs1⟩ := wk_f2_cons hs
  obtain ⟨x, st2, rfl, hw, hs2⟩ := wk_f2_cons hs1
  cases ho : wk_d2j iv F w v with
  | none => rw [ho] at hp; cases hp
  | some u =>
    rw [ho] at hp
    cases hp
    obtain ⟨a, b, rfl, rfl, hne, hu⟩ := wk_d2j_r hbx ho hw hv
    exact row a b st2 hne (kk ls lv _ hl ha ⟨hu, hs2⟩)
theorem wk_ldi {k d : Nat} {lv : List (Nat × Value)} {st : List Value} (hbx : wk_bx ρ iv) (hp : ((wk_get AL k).bind fun v => if (wk_gi iv v).isSome then some ((pc + d, AL, v :: AS) : wk_P) else none) = some (pc', AL', AS')) (hs : wk_f2 (wk_r as z ρ) AS st) (hl : lv_has ls nL lv) (ha : wk_f2 (wk_rl as z ρ) AL lv)
    (row : ∀ (a : Int32), ls[k]? = some (.val (.int a)) → W p l e R s m args below meth c H locs cells slots Q (F0 m (pc + d) ls (.int a :: st)) → W p l e R s m args below meth c H locs cells slots Q (F0 m pc ls st))
    (kk : wk_go1 p l e R s m args below meth c H locs cells slots Q as z ρ nL pc' AL' AS') : W p l e R s m args below meth c H locs cells slots Q (F0 m pc ls st) := by
  cases hg : wk_get AL k with
  | none => rw [hg] at hp; cases hp
  | some v =>
    rw [hg] at hp
    simp only [Option.bind_some] at hp
    split at hp
    · cases hp
      rename_i hi
      obtain ⟨q, hq⟩ := Option.isSome_iff_exists.mp hi
      obtain ⟨x, h1, h2⟩ := wk_get_r (nL := nL) hl.2.2 ha hg
      obtain ⟨a, rfl, -⟩ := wk_gi_r hbx hq h2
      exact row a h1 (kk ls lv _ hl ha ⟨h2, hs⟩)
    · cases hp
theorem wk_ldj {k d : Nat} {lv : List (Nat × Value)} {st : List Value} (hbx : wk_bx ρ iv) (hp : ((wk_get AL k).bind fun v => if (wk_gj iv v).isSome then some ((pc + d, AL, v :: AS) : wk_P) else none) = some (pc', AL', AS')) (hs : wk_f2 (wk_r as z ρ) AS st) (hl : lv_has ls nL lv) (ha : wk_f2 (wk_rl as z ρ) AL lv)
    (row : ∀ (a : Int64), ls[k]? = some (.val (.long a)) → W p l e R s m args below meth c H locs cells slots Q (F0 m (pc + d) ls (.long a :: st)) → W p l e R s m args below meth c H locs cells slots Q (F0 m pc ls st))
    (kk : wk_go1 p l e R s m args below meth c H locs cells slots Q as z ρ nL pc' AL' AS') : W p l e R s m args below meth c H locs cells slots Q (F0 m pc ls st) := by
  cases hg : wk_get AL k with
  | none => rw [hg] at hp; cases hp
  | some v =>
    rw [hg] at hp
    simp only [Option.bind_some] at hp
    split at hp
    · cases hp
      rename_i hi
      obtain ⟨q, hq⟩ := Option.isSome_iff_exists.mp hi
      obtain ⟨x, h1, h2⟩ := wk_get_r (nL := nL) hl.2.2 ha hg
      obtain ⟨a, rfl, -⟩ := wk_gj_r hbx hq h2
      exact row a h1 (kk ls lv _ hl ha ⟨h2, hs⟩)
    · cases hp
theorem wk_lda {k d : Nat} {lv : List (Nat × Value)} {st : List Value} (hp : ((wk_get AL k).bind fun v => if wk_isr v then some ((pc + d, AL, v :: AS) : wk_P) else none) = some (pc', AL', AS')) (hs : wk_f2 (wk_r as z ρ) AS st) (hl : lv_has ls nL lv) (ha : wk_f2 (wk_rl as z ρ) AL lv)
    (row : ∀ (a : Nat), ls[k]? = some (.val (.ref a)) → W p l e R s m args below meth c H locs cells slots Q (F0 m (pc + d) ls (.ref a :: st)) → W p l e R s m args below meth c H locs cells slots Q (F0 m pc ls st))
    (kk : wk_go1 p l e R s m args below meth c H locs cells slots Q as z ρ nL pc' AL' AS') : W p l e R s m args below meth c H locs cells slots Q (F0 m pc ls st) := by
  cases hg : wk_get AL k with
  | none => rw [hg] at hp; cases hp
  | some v =>
    rw [hg] at hp
    simp only [Option.bind_some] at hp
    split at hp
    · cases hp
      rename_i hi
      obtain ⟨x, h1, h2⟩ := wk_get_r (nL := nL) hl.2.2 ha hg
      obtain ⟨a, rfl⟩ := wk_isr_r hi h2
      exact row a h1 (kk ls lv _ hl ha ⟨h2, hs⟩)
    · cases hp
theorem wk_sti {k d : Nat} {v : wk_V} {lv : List (Nat × Value)} {st : List Value} (hbx : wk_bx ρ iv) (hp : (if (wk_gi iv v).isSome ∧ k < nL then some ((pc + d, wk_st1 AL k v, AS) : wk_P) else none) = some (pc', AL', AS')) (hs : wk_f2 (wk_r as z ρ) (v :: AS) st) (hl : lv_has ls nL lv) (ha : wk_f2 (wk_rl as z ρ) AL lv)
    (row : ∀ (a : Int32) (lv' : List (Nat × Value)) (r : List Value), k < nL → (k, Value.int a) :: lv.filter (fun q => !(q.1 == k) && !(q.1 + 1 == k && q.2.category == 2)) = lv' → (∀ ls', lv_has ls' nL lv' → W p l e R s m args below meth c H locs cells slots Q (F0 m (pc + d) ls' r)) → W p l e R s m args below meth c H locs cells slots Q (F0 m pc ls (.int a :: r)))
    (kk : wk_go1 p l e R s m args below meth c H locs cells slots Q as z ρ nL pc' AL' AS') : W p l e R s m args below meth c H locs cells slots Q (F0 m pc ls st) := by
  obtain ⟨x, st1, rfl, hv, hs1⟩ := wk_f2_cons hs
  split at hp
  · cases hp
    rename_i hi
    obtain ⟨q, hq⟩ := Option.isSome_iff_exists.mp hi.1
    obtain ⟨a, rfl, -⟩ := wk_gi_r hbx hq hv
    exact row a _ st1 hi.2 rfl (fun ls' hl' => kk ls' _ st1 hl' (wk_st1_r ha hv) hs1)
  · cases hp
theorem wk_sta {k d : Nat} {v : wk_V} {lv : List (Nat × Value)} {st : List Value} (hp : (if wk_isr v ∧ k < nL then some ((pc + d, wk_st1 AL k v, AS) : wk_P) else none) = some (pc', AL', AS')) (hs : wk_f2 (wk_r as z ρ) (v :: AS) st) (hl : lv_has ls nL lv) (ha : wk_f2 (wk_rl as z ρ) AL lv)
    (row : ∀ (a : Nat) (lv' : List (Nat × Value)) (r : List Value), k < nL → (k, Value.ref a) :: lv.filter (fun q => !(q.1 == k) && !(q.1 + 1 == k && q.2.category == 2)) = lv' → (∀ ls', lv_has ls' nL lv' → W p l e R s m args below meth c H locs cells slots Q (F0 m (pc + d) ls' r)) → W p l e R s m args below meth c H locs cells slots Q (F0 m pc ls (.ref a :: r)))
    (kk : wk_go1 p l e R s m args below meth c H locs cells slots Q as z ρ nL pc' AL' AS') : W p l e R s m args below meth c H locs cells slots Q (F0 m pc ls st) := by
  obtain ⟨x, st1, rfl, hv, hs1⟩ := wk_f2_cons hs
  split at hp
  · cases hp
    rename_i hi
    obtain ⟨a, rfl⟩ := wk_isr_r hi.1 hv
    exact row a _ st1 hi.2 rfl (fun ls' hl' => kk ls' _ st1 hl' (wk_st1_r ha hv) hs1)
  · cases hp
theorem wk_stj {k d : Nat} {v : wk_V} {lv : List (Nat × Value)} {st : List Value} (hbx : wk_bx ρ iv) (hp : (if (wk_gj iv v).isSome ∧ k + 1 < nL then some ((pc + d, wk_st2 AL k v, AS) : wk_P) else none) = some (pc', AL', AS')) (hs : wk_f2 (wk_r as z ρ) (v :: AS) st) (hl : lv_has ls nL lv) (ha : wk_f2 (wk_rl as z ρ) AL lv)
    (row : ∀ (a : Int64) (lv' : List (Nat × Value)) (r : List Value), k + 1 < nL → (k, Value.long a) :: lv.filter (fun q => !(q.1 == k) && (!(q.1 == k + 1) && !(q.1 + 1 == k && q.2.category == 2))) = lv' → (∀ ls', lv_has ls' nL lv' → W p l e R s m args below meth c H locs cells slots Q (F0 m (pc + d) ls' r)) → W p l e R s m args below meth c H locs cells slots Q (F0 m pc ls (.long a :: r)))
    (kk : wk_go1 p l e R s m args below meth c H locs cells slots Q as z ρ nL pc' AL' AS') : W p l e R s m args below meth c H locs cells slots Q (F0 m pc ls st) := by
  obtain ⟨x, st1, rfl, hv, hs1⟩ := wk_f2_cons hs
  split at hp
  · cases hp
    rename_i hi
    obtain ⟨q, hq⟩ := Option.isSome_iff_exists.mp hi.1
    obtain ⟨a, rfl, -⟩ := wk_gj_r hbx hq hv
    exact row a _ st1 hi.2 rfl (fun ls' hl' => kk ls' _ st1 hl' (wk_st2_r ha hv) hs1)
  · cases hp
end WKS
