/-! ===== the constants at the law's start ===== -/
def kn_t (i : Nat) : Term := .string "EvenSides$Reader" (97 + 2 * i)
theorem kn_ref {args : Array Value} {s : State} {t : Term} (h : (Cond.isRef t).before args s = true) : t.eval args s none [] s = some .null ∨ ∃ a, t.eval args s none [] s = some (.ref a) := by
  cases hv : t.eval args s none [] s with
  | none => simp [Cond.before, Cond.holds, Cond.value, hv] at h
  | some w =>
    cases w <;> simp_all [Cond.before, Cond.holds, Cond.value]
theorem kn_ex : ∀ i, i < 24 → Cond.exactly (kn_t i) "java/lang/String" ∈ flatC (Jvm.Cond.and given_1 narrow_1) := by decide +kernel
theorem kn_co : ∀ i, i < 24 → Cond.eq (.field (kn_t i) "java/lang/String" "coder" "B") (.int 0) ∈ flatC (Jvm.Cond.and given_1 narrow_1) := by decide +kernel
theorem kn_ar : ∀ i, i < 24 → Cond.arrayOf (.field (kn_t i) "java/lang/String" "value" "[B") .byte ∈ flatC (Jvm.Cond.and given_1 narrow_1) := by decide +kernel
theorem kn_le : ∀ i, i < 24 → Cond.eq (.length (.field (kn_t i) "java/lang/String" "value" "[B")) (.int (Int32.ofNat (wk_sl.getD i 0))) ∈ flatC (Jvm.Cond.and given_1 narrow_1) := by decide +kernel
theorem kn_el : ∀ i, i < 24 → ∀ j, j < wk_sl.getD i 0 → Cond.eq (.elem (.field (kn_t i) "java/lang/String" "value" "[B") (.int (Int32.ofNat j))) (.int ((wk_sb.getD i []).getD j 0)) ∈ flatC (Jvm.Cond.and given_1 narrow_1) := by decide +kernel
def kn_tab : List (List Nat) := [[0, 466, 414, 415, 416, 417, 418, 419, 420, 421, 422, 423, 424, 425, 426, 427, 428, 429, 430, 431, 432, 433, 434, 435], [466, 0, 444, 445, 446, 447, 448, 449, 450, 451, 452, 453, 454, 455, 456, 457, 458, 459, 460, 461, 462, 463, 464, 465], [414, 444, 0, 25, 34, 43, 54, 66, 78, 93, 110, 126, 143, 161, 180, 201, 222, 242, 261, 282, 306, 332, 359, 385], [415, 445, 25, 0, 35, 44, 55, 67, 79, 94, 111, 127, 144, 162, 181, 202, 223, 243, 262, 283, 307, 333, 360, 386], [416, 446, 34, 35, 0, 45, 56, 68, 80, 95, 112, 128, 145, 163, 182, 203, 224, 244, 263, 284, 308, 334, 361, 387], [417, 447, 43, 44, 45, 0, 57, 69, 81, 96, 113, 129, 146, 164, 183, 204, 225, 245, 264, 285, 309, 335, 362, 388], [418, 448, 54, 55, 56, 57, 0, 70, 82, 97, 114, 130, 147, 165, 184, 205, 226, 246, 265, 286, 310, 336, 363, 389], [419, 449, 66, 67, 68, 69, 70, 0, 83, 98, 115, 131, 148, 166, 185, 206, 227, 247, 266, 287, 311, 337, 364, 390], [420, 450, 78, 79, 80, 81, 82, 83, 0, 99, 116, 132, 149, 167, 186, 207, 228, 248, 267, 288, 312, 338, 365, 391], [421, 451, 93, 94, 95, 96, 97, 98, 99, 0, 117, 133, 150, 168, 187, 208, 229, 249, 268, 289, 313, 339, 366, 392], [422, 452, 110, 111, 112, 113, 114, 115, 116, 117, 0, 134, 151, 169, 188, 209, 230, 250, 269, 290, 314, 340, 367, 393], [423, 453, 126, 127, 128, 129, 130, 131, 132, 133, 134, 0, 152, 170, 189, 210, 231, 251, 270, 291, 315, 341, 368, 394], [424, 454, 143, 144, 145, 146, 147, 148, 149, 150, 151, 152, 0, 171, 190, 211, 232, 252, 271, 292, 316, 342, 369, 395], [425, 455, 161, 162, 163, 164, 165, 166, 167, 168, 169, 170, 171, 0, 191, 212, 233, 253, 272, 293, 317, 343, 370, 396], [426, 456, 180, 181, 182, 183, 184, 185, 186, 187, 188, 189, 190, 191, 0, 213, 234, 254, 273, 294, 318, 344, 371, 397], [427, 457, 201, 202, 203, 204, 205, 206, 207, 208, 209, 210, 211, 212, 213, 0, 235, 255, 274, 295, 319, 345, 372, 398], [428, 458, 222, 223, 224, 225, 226, 227, 228, 229, 230, 231, 232, 233, 234, 235, 0, 256, 275, 296, 320, 346, 373, 399], [429, 459, 242, 243, 244, 245, 246, 247, 248, 249, 250, 251, 252, 253, 254, 255, 256, 0, 276, 297, 321, 347, 374, 400], [430, 460, 261, 262, 263, 264, 265, 266, 267, 268, 269, 270, 271, 272, 273, 274, 275, 276, 0, 298, 322, 348, 375, 401], [431, 461, 282, 283, 284, 285, 286, 287, 288, 289, 290, 291, 292, 293, 294, 295, 296, 297, 298, 0, 323, 349, 376, 402], [432, 462, 306, 307, 308, 309, 310, 311, 312, 313, 314, 315, 316, 317, 318, 319, 320, 321, 322, 323, 0, 350, 377, 403], [433, 463, 332, 333, 334, 335, 336, 337, 338, 339, 340, 341, 342, 343, 344, 345, 346, 347, 348, 349, 350, 0, 378, 404], [434, 464, 359, 360, 361, 362, 363, 364, 365, 366, 367, 368, 369, 370, 371, 372, 373, 374, 375, 376, 377, 378, 0, 405], [435, 465, 385, 386, 387, 388, 389, 390, 391, 392, 393, 394, 395, 396, 397, 398, 399, 400, 401, 402, 403, 404, 405, 0]]
def kn_q (i j : Nat) : Nat := (kn_tab.getD i []).getD j 0
theorem kn_pq : ∀ i, i < 24 → ∀ j, j < 24 → i < j → ((flatC (Jvm.Cond.and given_1 narrow_1))[kn_q i j]? = some (Cond.not (Cond.eq (kn_t i) (kn_t j))) ∨ (flatC (Jvm.Cond.and given_1 narrow_1))[kn_q i j]? = some (Cond.not (Cond.eq (kn_t j) (kn_t i)))) := by decide +kernel
theorem kn_ne : ∀ i, i < 24 → ∀ j, j < 24 → i ≠ j → (Cond.not (Cond.eq (kn_t i) (kn_t j)) ∈ flatC (Jvm.Cond.and given_1 narrow_1) ∨ Cond.not (Cond.eq (kn_t j) (kn_t i)) ∈ flatC (Jvm.Cond.and given_1 narrow_1)) := by
  intro i hi j hj hij
  rcases Nat.lt_or_gt_of_ne hij with q | q
  · rcases kn_pq i hi j hj q with e | e
    · exact Or.inl (List.mem_of_getElem? e)
    · exact Or.inr (List.mem_of_getElem? e)
  · rcases kn_pq j hj i hi q with e | e
    · exact Or.inr (List.mem_of_getElem? e)
    · exact Or.inl (List.mem_of_getElem? e)
theorem kn_sr : ∀ i, i < 24 → Cond.stringRef "EvenSides$Reader" (97 + 2 * i) (wk_tx.getD i "") ∈ lw_tbl := by decide +kernel
theorem kn_S {args : Array Value} {s : State} {A : Nat → Prop} (h : (Jvm.Cond.and given_1 narrow_1).before args s = true) (hts : ∀ w ∈ lw_tbl, w.before args s = true) (hA : ∀ a : Nat, a < s.heap.size → ¬ A a) (b : Nat) : ∃ z : Nat → Nat, z 0 = b ∧ wk_S z A s s.heap := by
  have hs := flat_of_before _ h
  obtain ⟨adK, adV, hS, hev⟩ := vk_Sof (args := args) (s := s) (N := 24) (tm := kn_t) (len := wk_sl) (byt := wk_sb) (A := A) (by decide) (fun i hi => hs _ (kn_ex i hi)) (fun i hi => hs _ (kn_co i hi)) (fun i hi => hs _ (kn_ar i hi)) (fun i hi => hs _ (kn_le i hi)) (fun i hi j hj => hs _ (kn_el i hi j hj)) (fun i j hi hj hij => by
    rcases kn_ne i hi j hj hij with q | q
    · exact Or.inl (hs _ q)
    · exact Or.inr (hs _ q)) hA
  have hfm := kn_ref (hs (Cond.isRef (.static "jdk/internal/util/Preconditions" "SIOOBE_FORMATTER" "Ljava/util/function/BiFunction;")) (by decide +kernel))
  have hc : (Term.static "java/lang/String" "COMPACT_STRINGS" "Z").eval args s none [] s = some (.int 1) := va_eqi (hs _ (by decide +kernel))
  obtain ⟨f, hf⟩ : ∃ f, (Term.static "jdk/internal/util/Preconditions" "SIOOBE_FORMATTER" "Ljava/util/function/BiFunction;").eval args s none [] s = some .null ∨ (Term.static "jdk/internal/util/Preconditions" "SIOOBE_FORMATTER" "Ljava/util/function/BiFunction;").eval args s none [] s = some (.ref f) := by
    rcases hfm with q | ⟨f, q⟩
    · exact ⟨0, Or.inl q⟩
    · exact ⟨f, Or.inr q⟩
  refine ⟨fun k => if k = 0 then b else if k < 100 then adK (k - 1) else if k < 200 then adV (k - 101) else f, rfl, ⟨?_, ?_⟩, ?_, ?_, ?_⟩
  · intro i hi
    have e := hS.1 i hi
    show va_O "java/lang/String" (if i + 1 = 0 then b else if i + 1 < 100 then adK (i + 1 - 1) else if i + 1 < 200 then adV (i + 1 - 101) else f) A s s.heap ∧ va_OF "java/lang/String" "coder" "B" (.int 0) (if i + 1 = 0 then b else if i + 1 < 100 then adK (i + 1 - 1) else if i + 1 < 200 then adV (i + 1 - 101) else f) A s s.heap ∧ va_OF "java/lang/String" "value" "[B" (.ref (if i + 101 = 0 then b else if i + 101 < 100 then adK (i + 101 - 1) else if i + 101 < 200 then adV (i + 101 - 101) else f)) (if i + 1 = 0 then b else if i + 1 < 100 then adK (i + 1 - 1) else if i + 1 < 200 then adV (i + 1 - 101) else f) A s s.heap ∧ va_T .byte (if i + 101 = 0 then b else if i + 101 < 100 then adK (i + 101 - 1) else if i + 101 < 200 then adV (i + 101 - 101) else f) (wk_sl.getD i 0) (fun j => .int ((wk_sb.getD i []).getD j 0)) A s s.heap
    rw [if_neg (by omega), if_pos (by omega), if_neg (by omega), if_neg (by omega), if_pos (by omega), Nat.add_sub_cancel, Nat.add_sub_cancel]
    exact e
  · intro i j hi hj e
    have e : (if i + 1 = 0 then b else if i + 1 < 100 then adK (i + 1 - 1) else if i + 1 < 200 then adV (i + 1 - 101) else f) = (if j + 1 = 0 then b else if j + 1 < 100 then adK (j + 1 - 1) else if j + 1 < 200 then adV (j + 1 - 101) else f) := e
    rw [if_neg (by omega), if_pos (by omega), if_neg (by omega), if_pos (by omega), Nat.add_sub_cancel, Nat.add_sub_cancel] at e
    exact hS.2 i j hi hj e
  · intro i hi
    show vk_R "EvenSides$Reader" (97 + 2 * i) (wk_tx.getD i "") (if i + 1 = 0 then b else if i + 1 < 100 then adK (i + 1 - 1) else if i + 1 < 200 then adV (i + 1 - 101) else f) s
    rw [if_neg (by omega), if_pos (by omega), Nat.add_sub_cancel]
    exact vk_R.of (hts _ (kn_sr i hi)) (hev i hi)
  · exact va_Zof (hts _ (List.mem_of_getElem? (i := 712) (by decide +kernel))) (hts _ (List.mem_of_getElem? (i := 124) (by decide +kernel))) hc hA
  · rcases hf with hf | hf
    · exact Or.inr (va_Zof (hts _ (List.mem_of_getElem? (i := 728) (by decide +kernel))) (hts _ (List.mem_of_getElem? (i := 126) (by decide +kernel))) hf hA)
    · exact Or.inl (va_Zof (hts _ (List.mem_of_getElem? (i := 728) (by decide +kernel))) (hts _ (List.mem_of_getElem? (i := 126) (by decide +kernel))) hf hA)
