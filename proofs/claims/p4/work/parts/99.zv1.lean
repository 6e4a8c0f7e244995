/-! ===== all told alike at the start ===== -/
def fh_B (j : Nat) : Int32 := match kh0 260 j with
  | .inl a => a
  | _ => 0
theorem fh_1 : ∀ j, j < 650 → (!(fu_t j) || (decide (kh0 (1 + (fu_p j).1) (fu_p j).2 = .inl (fh_B j)) && decide (kh0 260 j = .inl (fh_B j)))) = true := by decide +kernel
theorem fh_C : fu_C fh_B 1 kh0 := fun j hj ht => by
  have h := fh_1 j hj
  rw [ht] at h
  simp only [Bool.not_true, Bool.false_or, Bool.and_eq_true, decide_eq_true_eq] at h
  exact h.1
theorem fh_R : fu_B fh_B kh0 := fun j hj ht => by
  have h := fh_1 j hj
  rw [ht] at h
  simp only [Bool.not_true, Bool.false_or, Bool.and_eq_true, decide_eq_true_eq] at h
  exact h.2
theorem fh_Inv : fu_I kh0 := ⟨kh_wt, ⟨fh_B, fh_C, fh_R⟩, Or.inl (by decide +kernel), Or.inl (by decide +kernel), by decide +kernel, kh_I (by decide +kernel), kh_I (by decide +kernel), kh_I (by decide +kernel)⟩
