/-! ===== the constants at the law's start ===== -/
def kn_t (i : Nat) : Term := .string "EvenSides$Reader" (97 + 2 * i)
theorem kn_ref {args : Array Value} {s : State} {t : Term} (h : (Cond.isRef t).before args s = true) : t.eval args s none [] s = some .null ∨ ∃ a, t.eval args s none [] s = some (.ref a) := by
  cases hv : t.eval args s none [] s with
  | none => simp [Cond.before, Cond.holds, Cond.value, hv] at h
  | some w =>
    cases w <;> simp_all [Cond.before, Cond.holds, Cond.value]
theorem kn_ex : ∀ i, i < 24 → Cond.exactly (kn_t i) "java/lang/String" ∈ flatC (Jvm.Cond.and given_1 narrow_1) := by decide +kernel
theorem kn_co : ∀ i, i < 24 → Cond.eq (.field (kn_t i) "java/lang/String" "coder" "B") (.int 0) ∈ flatC (Jvm.Cond.and given_1 narrow_1) := by decide +kernel
theorem kn_ar : ∀ i, i < 24 → Cond.arrayOf (.field (kn_t i) "java/lang/String" "value" "[B") .byte ∈ flatC (Jvm.Cond.and given_1 narrow_1) := by decide +kernel
theorem kn_le : ∀ i, i < 24 → Cond.eq (.length (.field (kn_t i) "java/lang/String" "value" "[B")) (.int (Int32.ofNat (wk_sl.getD i 0))) ∈ flatC (Jvm.Cond.and given_1 narrow_1) := by decide +kernel
theorem kn_el : ∀ i, i < 24 → ∀ j, j < wk_sl.getD i 0 → Cond.eq (.elem (.field (kn_t i) "java/lang/String" "value" "[B") (.int (Int32.ofNat j))) (.int ((wk_sb.getD i []).getD j 0)) ∈ flatC (Jvm.Cond.and given_1 narrow_1) := by decide +kernel
theorem kn_ne : ∀ i, i < 24 → ∀ j, j < 24 → i ≠ j → (Cond.not (Cond.eq (kn_t i) (kn_t j)) ∈ flatC (Jvm.Cond.and given_1 narrow_1) ∨ Cond.not (Cond.eq (kn_t j) (kn_t i)) ∈ flatC (Jvm.Cond.and given_1 narrow_1)) := by decide +kernel
theorem kn_sr : ∀ i, i < 24 → Cond.stringRef "EvenSides$Reader" (97 + 2 * i) (wk_tx.getD i "") ∈ lw_tbl := by decide +kernel
theorem kn_S {args : Array Value} {s : State} {A : Nat → Prop} (h : (Jvm.Cond.and given_1 narrow_1).before args s = true) (hts : ∀ w ∈ lw_tbl, w.before args s = true) (hA : ∀ a : Nat, a < s.heap.size → ¬ A a) (b : Nat) : ∃ z : Nat → Nat, z 0 = b ∧ wk_S z A s s.heap := by
  have hs := flat_of_before _ h
  obtain ⟨adK, adV, hS, hev⟩ := vk_Sof (args := args) (s := s) (N := 24) (tm := kn_t) (len := wk_sl) (byt := wk_sb) (A := A) (by decide) (fun i hi => hs _ (kn_ex i hi)) (fun i hi => hs _ (kn_co i hi)) (fun i hi => hs _ (kn_ar i hi)) (fun i hi => hs _ (kn_le i hi)) (fun i hi j hj => hs _ (kn_el i hi j hj)) (fun i j hi hj hij => by
    rcases kn_ne i hi j hj hij with q | q
    · exact Or.inl (hs _ q)
    · exact Or.inr (hs _ q)) hA
  have hfm := kn_ref (hs (Cond.isRef (.static "jdk/internal/util/Preconditions" "SIOOBE_FORMATTER" "Ljava/util/function/BiFunction;")) (by decide +kernel))
  have hc : (Term.static "java/lang/String" "COMPACT_STRINGS" "Z").eval args s none [] s = some (.int 1) := va_eqi (hs _ (by decide +kernel))
  obtain ⟨f, hf⟩ : ∃ f, (Term.static "jdk/internal/util/Preconditions" "SIOOBE_FORMATTER" "Ljava/util/function/BiFunction;").eval args s none [] s = some .null ∨ (Term.static "jdk/internal/util/Preconditions" "SIOOBE_FORMATTER" "Ljava/util/function/BiFunction;").eval args s none [] s = some (.ref f) := by
    rcases hfm with q | ⟨f, q⟩
    · exact ⟨0, Or.inl q⟩
    · exact ⟨f, Or.inr q⟩
  refine ⟨fun k => if k = 0 then b else if k < 100 then adK (k - 1) else if k < 200 then adV (k - 101) else f, rfl, ⟨?_, ?_⟩, ?_, ?_, ?_⟩
  · intro i hi
    have e := hS.1 i hi
    show va_O "java/lang/String" (if i + 1 = 0 then b else if i + 1 < 100 then adK (i + 1 - 1) else if i + 1 < 200 then adV (i + 1 - 101) else f) A s s.heap ∧ va_OF "java/lang/String" "coder" "B" (.int 0) (if i + 1 = 0 then b else if i + 1 < 100 then adK (i + 1 - 1) else if i + 1 < 200 then adV (i + 1 - 101) else f) A s s.heap ∧ va_OF "java/lang/String" "value" "[B" (.ref (if i + 101 = 0 then b else if i + 101 < 100 then adK (i + 101 - 1) else if i + 101 < 200 then adV (i + 101 - 101) else f)) (if i + 1 = 0 then b else if i + 1 < 100 then adK (i + 1 - 1) else if i + 1 < 200 then adV (i + 1 - 101) else f) A s s.heap ∧ va_T .byte (if i + 101 = 0 then b else if i + 101 < 100 then adK (i + 101 - 1) else if i + 101 < 200 then adV (i + 101 - 101) else f) (wk_sl.getD i 0) (fun j => .int ((wk_sb.getD i []).getD j 0)) A s s.heap
    rw [if_neg (by omega), if_pos (by omega), if_neg (by omega), if_neg (by omega), if_pos (by omega), Nat.add_sub_cancel, Nat.add_sub_cancel]
    exact e
  · intro i j hi hj e
    have e : (if i + 1 = 0 then b else if i + 1 < 100 then adK (i + 1 - 1) else if i + 1 < 200 then adV (i + 1 - 101) else f) = (if j + 1 = 0 then b else if j + 1 < 100 then adK (j + 1 - 1) else if j + 1 < 200 then adV (j + 1 - 101) else f) := e
    rw [if_neg (by omega), if_pos (by omega), if_neg (by omega), if_pos (by omega), Nat.add_sub_cancel, Nat.add_sub_cancel] at e
    exact hS.2 i j hi hj e
  · intro i hi
    show vk_R "EvenSides$Reader" (97 + 2 * i) (wk_tx.getD i "") (if i + 1 = 0 then b else if i + 1 < 100 then adK (i + 1 - 1) else if i + 1 < 200 then adV (i + 1 - 101) else f) s
    rw [if_neg (by omega), if_pos (by omega), Nat.add_sub_cancel]
    exact vk_R.of (hts _ (kn_sr i hi)) (hev i hi)
  · exact va_Zof (hts _ (List.mem_of_getElem? (i := 712) (by decide +kernel))) (hts _ (List.mem_of_getElem? (i := 124) (by decide +kernel))) hc hA
  · rcases hf with hf | hf
    · exact Or.inr (va_Zof (hts _ (List.mem_of_getElem? (i := 728) (by decide +kernel))) (hts _ (List.mem_of_getElem? (i := 126) (by decide +kernel))) hf hA)
    · exact Or.inl (va_Zof (hts _ (List.mem_of_getElem? (i := 728) (by decide +kernel))) (hts _ (List.mem_of_getElem? (i := 126) (by decide +kernel))) hf hA)
