/-! ===== mule, load: answers alike ===== -/
theorem ku_Xmule {g : kc_G} {h : kc_H} {a b c : Int32} (hg : kc_ok g) (hI : kInv h) : kc_Con g 30 32 [.inr (.inr (.inl (some 0))), .inl a, .inl b, .inl c] h (fun rv h1 => ∃ z : Int32, rv = some (.inl z) ∧ kc_Con g 30 34 [.inr (.inr (.inl (some 259))), .inl a, .inl b, .inl c] h1 (fun rv2 h2 => rv2 = some (.inl z) ∧ kInv h2)) := by
  obtain ⟨D, M, L, hC⟩ := ku_C hI.1
  refine kc_Con_mono (kc_Con_le (kv_Xtmule hg hI.1 hC) (by decide)) (fun rv h1 hq => ?_)
  obtain ⟨z, rfl, ez, hw1, fr1, hq⟩ := hq
  have hR1 := ku_R (h1 := h1) hI hC (fun i hi => fr1 260 i (fun q hm => by simp only [List.mem_cons, List.not_mem_nil, or_false] at hm; rcases hm with rfl | rfl <;> exact kb_inr (by (try dsimp only); omega)))
  refine ⟨z, rfl, kc_Con_mono (kc_Con_le (kv_Xrmule hg hw1 hR1) (by decide)) (fun rv h2 hq2 => ?_)⟩
  obtain ⟨z2, rfl, ez2, hw2, fr2, hq2⟩ := hq2
  refine ⟨by rw [Int32.toInt_inj.mp (ez2.trans ez.symm)], ?_⟩
  have hs : ku_s h h2 1 := by
    intro c i hq
    rw [fr2 c i (fun q hm => by
      simp only [List.mem_cons, List.not_mem_nil, or_false] at hm
      rcases hm with rfl | rfl <;> exact kb_inr (by (try dsimp only); omega))]
    exact fr1 c i (fun q hm => by
      simp only [List.mem_cons, List.not_mem_nil, or_false] at hm
      rcases hm with rfl | rfl <;> exact kb_inr (by (try dsimp only); omega))
  rcases hq with ⟨k, -, e1⟩ | ⟨k, -, e1⟩
  · rcases hq2 with ⟨k2, -, e2⟩ | ⟨k2, -, e2⟩
    · refine ku_cnt hI hw2 (i0 := 1) (by decide) hs ?_
      rw [fr2 1 1 (fun q hm => by simp only [List.mem_cons, List.not_mem_nil, or_false] at hm; rcases hm with rfl | rfl <;> exact kb_inr (by (try dsimp only); omega)), e1, e2]
    · exact absurd k k2
  · rcases hq2 with ⟨k2, -, e2⟩ | ⟨k2, -, e2⟩
    · exact absurd k2 k
    · rw [e2, e1]
      exact hI
theorem ku_Xload {g : kc_G} {h : kc_H} {a b c e : Int32} (hg : kc_ok g) (hI : kInv h) : kc_Con g 30 41 [.inr (.inr (.inl (some 0))), .inl a, .inl b, .inl c, .inl e] h (fun rv h1 => ∃ z : Int32, rv = some (.inl z) ∧ kc_Con g 30 43 [.inr (.inr (.inl (some 259))), .inl a, .inl b, .inl c, .inl e] h1 (fun rv2 h2 => rv2 = some (.inl z) ∧ kInv h2)) := by
  obtain ⟨D, M, L, hC⟩ := ku_C hI.1
  refine kc_Con_mono (kc_Con_le (kv_Xtload hg hI.1 hC) (by decide)) (fun rv h1 hq => ?_)
  obtain ⟨z, rfl, ez, hw1, fr1, hq⟩ := hq
  have hR1 := ku_R (h1 := h1) hI hC (fun i hi => fr1 260 i (fun q hm => by simp only [List.mem_cons, List.not_mem_nil, or_false] at hm; rcases hm with rfl | rfl <;> exact kb_inr (by (try dsimp only); omega)))
  refine ⟨z, rfl, kc_Con_mono (kc_Con_le (kv_Xrload hg hw1 hR1) (by decide)) (fun rv h2 hq2 => ?_)⟩
  obtain ⟨z2, rfl, ez2, hw2, fr2, hq2⟩ := hq2
  refine ⟨by rw [Int32.toInt_inj.mp (ez2.trans ez.symm)], ?_⟩
  have hs : ku_s h h2 2 := by
    intro c i hq
    rw [fr2 c i (fun q hm => by
      simp only [List.mem_cons, List.not_mem_nil, or_false] at hm
      rcases hm with rfl | rfl <;> exact kb_inr (by (try dsimp only); omega))]
    exact fr1 c i (fun q hm => by
      simp only [List.mem_cons, List.not_mem_nil, or_false] at hm
      rcases hm with rfl | rfl <;> exact kb_inr (by (try dsimp only); omega))
  rcases hq with ⟨k, -, e1⟩ | ⟨k, -, e1⟩
  · rcases hq2 with ⟨k2, -, e2⟩ | ⟨k2, -, e2⟩
    · refine ku_cnt hI hw2 (i0 := 2) (by decide) hs ?_
      rw [fr2 1 2 (fun q hm => by simp only [List.mem_cons, List.not_mem_nil, or_false] at hm; rcases hm with rfl | rfl <;> exact kb_inr (by (try dsimp only); omega)), e1, e2]
    · exact absurd k k2
  · rcases hq2 with ⟨k2, -, e2⟩ | ⟨k2, -, e2⟩
    · exact absurd k2 k
    · rw [e2, e1]
      exact hI
