/-! ===== image, from: alike ===== -/
theorem ku_k126 : ∀ i, i < 2 → kd_rn (kd_ty 126) i = some (0, 2147483648, 2147483649) := by decide +kernel
theorem ku_kb {h : kc_H} (hw : kd_wt kd_ty h) {i : Nat} (hi : i < 2) : ∃ b : Bool, h 126 i = .inl (kp_b b) := kw_bool (hw _ _ _ (ku_k126 i hi))
theorem ku_image0 {g : kc_G} {h : kc_H} (hg : kc_ok g) (hI : kInv h) : kc_Con g 30 157 [.inr (.inr (.inl (some 0))), .inl (Int32.ofNat 0)] h (fun rv h1 => (∃ z : Int32, rv = some (.inl z)) ∧ kc_Con g 30 158 [.inr (.inr (.inl (some 259))), .inl (Int32.ofNat 0)] h1 kQi) := by
  refine kc_Con_mono (kc_Con_le (ks_image0 (d := 0) hg hI.1) (by decide)) (fun rv h1 hq => ?_)
  obtain ⟨hz, hh1⟩ := hq
  refine ⟨hz, ?_⟩
  have hw1 : kd_wt kd_ty h1 := by rw [hh1]; exact kz_wtb (ku_k126 0 (by decide)) (kt_K_wt hI.1 kt_ty1_64)
  have key := kz_image (d := 0) (h := h1) (i := 0) hg (by decide) (fun k hk => kz_int_r hw1 (kz_k260 k hk).1)
  rw [kz_wid hw1] at key
  refine kc_Con_mono (kc_Con_le key (by decide)) (fun rv h2 hq2 => ?_)
  obtain ⟨rfl, hh2⟩ := hq2
  refine ⟨⟨_, rfl⟩, ?_⟩
  have hw2 : kd_wt kd_ty h2 := by
    rw [hh2]
    exact kz_wtb (kz_k262 0 (by decide)) (kz_cp_wt hw1 (fun j hj => by
      obtain ⟨-, a1, a2, -⟩ := kz_k260 j hj
      rw [Nat.zero_add]
      first | exact a1 | (rw [show 650 * 0 + j = j from by omega]; exact a1)))
  have f1 : ∀ c k, ¬ (64 ≤ c ∧ c < 95) → ¬ c = 126 → h1 c k = h c k := fun c k q1 q2 => by
    rw [hh1, kj_uo q2]
    unfold kt_K
    rw [if_neg (by omega)]
  have f2 : ∀ c k, ¬ (c = 261 ∧ 0 ≤ k ∧ k < 650) → ¬ c = 262 → h2 c k = h1 c k := fun c k q1 q2 => by
    rw [hh2, kj_uo q2]
    unfold kz_cp
    rw [if_neg (by omega)]
  have g1 : ∀ k, k < 31 → ∀ m, m < kt_ln k → h1 (64 + k) m = h (1 + k) m := fun k hk m hm => by
    rw [hh1, kj_uo (by omega)]
    unfold kt_K
    rw [show 64 + k - 64 = k from by omega, if_pos ⟨by omega, by omega, hm⟩]
  have g2 : ∀ m, m < 650 → h2 261 (0 + m) = h 260 m := fun m hm => by
    rw [hh2, kj_uo (by decide)]
    unfold kz_cp
    rw [if_pos ⟨rfl, by omega, by omega⟩, f1 260 _ (by omega) (by omega), show 0 + (0 + m - 650 * 0) = m from by omega]
  obtain ⟨-, ⟨⟨r0, r1, r2, r3, r4⟩, b1, b2, b3⟩, hL, c1, c2⟩ := id hI
  have mine : kR1 h2 64 92 94 261 0 := by
    refine ⟨?_, ?_, ?_, ?_, fun j hj => ?_⟩
    · rw [f2 64 0 (by omega) (by omega), g1 0 (by decide) 0 (by decide), show (0 : Nat) = 0 + 0 from rfl, g2 0 (by decide)]; exact r0
    · rw [f2 64 1 (by omega) (by omega), g1 0 (by decide) 1 (by decide), g2 1 (by decide)]; exact r1
    · rw [f2 64 2 (by omega) (by omega), g1 0 (by decide) 2 (by decide), g2 2 (by decide)]; exact r2
    · rw [f2 94 0 (by omega) (by omega), g1 30 (by decide) 0 (by decide), g2 160 (by decide)]; exact r3
    · rw [f2 92 j (by omega) (by omega), g1 28 (by decide) j hj, show 0 + 170 + j = 0 + (170 + j) from by omega, g2 (170 + j) (by omega)]
      have := r4 j hj
      rw [Nat.zero_add] at this
      exact this
  have other : kR1 h2 95 123 125 261 650 := by
    have e : ∀ c k, (95 ≤ c ∧ c ≤ 125) ∨ (c = 261 ∧ ¬ (0 ≤ k ∧ k < 650)) → h2 c k = h c k := fun c k q => by
      rw [f2 c k (by omega) (by omega), f1 c k (by omega) (by omega)]
    exact kR1_eq (fun k _ => e _ _ (by omega)) (fun k _ => e _ _ (by omega)) (e _ _ (by omega)) (e _ _ (by omega)) (fun j _ => e _ _ (by omega)) (fun j _ => e _ _ (by omega)) b2
  have mineI : kI h2 261 0 := by
    obtain ⟨n, l, a1, a2, a3, a4⟩ := hL
    refine ⟨n, l, a1, ?_, fun k hk => ⟨(a3 k hk).1, (a3 k hk).2.1, ?_⟩, a4⟩
    · rw [g2 3 (by decide)]; rw [Nat.zero_add] at a2; exact a2
    · rw [show 0 + 150 + k = 0 + (150 + k) from by omega, g2 (150 + k) (by omega)]
      have := (a3 k hk).2.2
      rw [Nat.zero_add] at this
      exact this
  have otherI : kI h2 261 650 := kI_eq (by rw [f2 _ _ (by omega) (by omega), f1 _ _ (by omega) (by omega)]) (fun k hk => by rw [f2 _ _ (by omega) (by omega), f1 _ _ (by omega) (by omega)]) c2
  have now : ∀ c k, c < 63 ∨ c = 260 → h2 c k = h c k := fun c k q => by rw [f2 c k (by omega) (by omega), f1 c k (by omega) (by omega)]
  refine ⟨hw2, ⟨kR1_eq (fun k _ => now _ _ (by omega)) (fun k _ => now _ _ (by omega)) (now _ _ (by omega)) (now _ _ (by omega)) (fun j _ => now _ _ (by omega)) (fun j _ => now _ _ (by omega)) ⟨r0, r1, r2, r3, r4⟩, mine, other, fun k hk => ?_⟩, kI_eq (now _ _ (by omega)) (fun k _ => now _ _ (by omega)) hL, mineI, otherI⟩
  have w1 : ∀ k, ¬ k = 0 → h1 126 k = h 126 k := fun k q => by
    rw [hh1]
    unfold kc_upd
    rw [if_neg (by omega)]
    unfold kt_K
    rw [if_neg (by omega)]
  have w2 : ∀ k, ¬ k = 0 → h2 262 k = h1 262 k := fun k q => by
    rw [hh2]
    unfold kc_upd
    rw [if_neg (by omega)]
    exact kz_n (by decide)
  rw [f2 126 k (by omega) (by omega)]
  by_cases e : k = 0
  · subst e
    rw [hh1, hh2]
    exact (if_pos ⟨rfl, rfl⟩).trans (if_pos ⟨rfl, rfl⟩).symm
  · rw [w1 k e, w2 k e, f1 262 k (by omega) (by omega)]
    exact b3 k hk
theorem ku_from0 {g : kc_G} {h : kc_H} (hg : kc_ok g) (hI : kInv h) : kc_Con g 30 159 [.inr (.inr (.inl (some 0))), .inl (Int32.ofNat 0)] h (fun rv h1 => (∃ z : Int32, rv = some (.inl z)) ∧ kc_Con g 30 160 [.inr (.inr (.inl (some 259))), .inl (Int32.ofNat 0)] h1 kQi) := by
  obtain ⟨bo, eb⟩ := ku_kb hI.1 (i := 0) (by decide)
  obtain ⟨-, ⟨r, b1, b2, b3⟩, hL, c1, c2⟩ := id hI
  refine kc_Con_mono (kc_Con_le (ks_from0 (d := 0) hg hI.1 eb) (by decide)) (fun rv h1 hq => ?_)
  obtain ⟨hz, hq⟩ := hq
  refine ⟨hz, ?_⟩
  have hw1 : kd_wt kd_ty h1 := by
    rcases hq with ⟨-, rfl⟩ | ⟨-, rfl⟩
    · exact kt_K_wt hI.1 kt_ty64_1
    · exact hI.1
  have f1 : ∀ c k, ¬ (1 ≤ c ∧ c < 32) → h1 c k = h c k := fun c k q1 => by
    rcases hq with ⟨-, rfl⟩ | ⟨-, rfl⟩
    · unfold kt_K
      rw [if_neg (by omega)]
    · rfl
  have eb1 : h1 262 0 = .inl (kp_b bo) := by
    rw [f1 262 0 (by omega), ← b3 0 (by decide)]
    exact eb
  have hty : ∀ j, j < 650 → kd_rn (kd_ty 261) (650 * 0 + j) = kd_rn (kd_ty 260) j := fun j hj => by
    obtain ⟨-, a1, a2, -⟩ := kz_k260 j hj
    rw [show 650 * 0 + j = j from by omega]; exact a1
  have key := kz_from (d := 0) (h := h1) (i := 0) (b := bo) hg (by decide) eb1 (fun k hk => kz_int_r hw1 (by rw [hty k hk]; exact (kz_k260 k hk).1))
  rw [kz_wid hw1] at key
  refine kc_Con_mono (kc_Con_le key (by decide)) (fun rv h2 hq2 => ?_)
  rcases hq with ⟨eb0, hh1⟩ | ⟨eb0, rfl⟩
  · rcases hq2 with ⟨-, rfl, hh2⟩ | ⟨eb2, -, -⟩
    · refine ⟨⟨_, rfl⟩, ?_⟩
      have hw2 : kd_wt kd_ty h2 := by
        rw [hh2]
        exact kz_cp_wt hw1 (fun j hj => by rw [hty j hj, Nat.zero_add])
      have f2 : ∀ c k, ¬ (c = 260 ∧ k < 650) → h2 c k = h1 c k := fun c k q1 => by
        rw [hh2]
        unfold kz_cp
        rw [if_neg (by omega)]
      have g1 : ∀ k, k < 31 → ∀ m, m < kt_ln k → h1 (1 + k) m = h (64 + k) m := fun k hk m hm => by
        rw [hh1]
        unfold kt_K
        rw [show 1 + k - 1 = k from by omega, if_pos ⟨by omega, by omega, hm⟩]
      have g2 : ∀ m, m < 650 → h2 260 m = h 261 (0 + m) := fun m hm => by
        rw [hh2]
        unfold kz_cp
        rw [if_pos ⟨rfl, by omega, by omega⟩, f1 261 _ (by omega), show 650 * 0 + (m - 0) = 0 + m from by omega]
      obtain ⟨r0, r1, r2, r3, r4⟩ := b1
      refine kInv_now hI hw2 (fun c k q1 q2 => by rw [f2 c k (by omega), f1 c k (by omega)]) (fun c k q => by rw [f2 c k (by omega), f1 c k (by omega)]) ⟨?_, ?_, ?_, ?_, fun j hj => ?_⟩ ?_
      · rw [f2 1 0 (by omega), g1 0 (by decide) 0 (by decide), g2 0 (by decide)]; exact r0
      · rw [f2 1 1 (by omega), g1 0 (by decide) 1 (by decide), g2 (0 + 1) (by decide)]; exact r1
      · rw [f2 1 2 (by omega), g1 0 (by decide) 2 (by decide), g2 (0 + 2) (by decide)]; exact r2
      · rw [f2 31 0 (by omega), g1 30 (by decide) 0 (by decide), g2 (0 + 160) (by decide)]; exact r3
      · rw [f2 29 j (by omega), g1 28 (by decide) j hj, g2 (0 + 170 + j) (by omega), show 0 + (0 + 170 + j) = 0 + 170 + j from by omega]
        exact r4 j hj
      · obtain ⟨n, l, a1, a2, a3, a4⟩ := c1
        refine ⟨n, l, a1, ?_, fun k hk => ⟨(a3 k hk).1, (a3 k hk).2.1, ?_⟩, a4⟩
        · rw [g2 (0 + 3) (by decide)]; exact a2
        · rw [g2 (0 + 150 + k) (by omega), show 0 + (0 + 150 + k) = 0 + 150 + k from by omega]
          exact (a3 k hk).2.2
    · rw [eb0] at eb2
      cases eb2
  · rcases hq2 with ⟨eb2, -, -⟩ | ⟨-, rfl, rfl⟩
    · rw [eb0] at eb2
      cases eb2
    · exact ⟨⟨_, rfl⟩, hI⟩
theorem ku_image1 {g : kc_G} {h : kc_H} (hg : kc_ok g) (hI : kInv h) : kc_Con g 30 157 [.inr (.inr (.inl (some 0))), .inl (Int32.ofNat 1)] h (fun rv h1 => (∃ z : Int32, rv = some (.inl z)) ∧ kc_Con g 30 158 [.inr (.inr (.inl (some 259))), .inl (Int32.ofNat 1)] h1 kQi) := by
  refine kc_Con_mono (kc_Con_le (ks_image1 (d := 0) hg hI.1) (by decide)) (fun rv h1 hq => ?_)
  obtain ⟨hz, hh1⟩ := hq
  refine ⟨hz, ?_⟩
  have hw1 : kd_wt kd_ty h1 := by rw [hh1]; exact kz_wtb (ku_k126 1 (by decide)) (kt_K_wt hI.1 kt_ty1_95)
  have key := kz_image (d := 0) (h := h1) (i := 1) hg (by decide) (fun k hk => kz_int_r hw1 (kz_k260 k hk).1)
  rw [kz_wid hw1] at key
  refine kc_Con_mono (kc_Con_le key (by decide)) (fun rv h2 hq2 => ?_)
  obtain ⟨rfl, hh2⟩ := hq2
  refine ⟨⟨_, rfl⟩, ?_⟩
  have hw2 : kd_wt kd_ty h2 := by
    rw [hh2]
    exact kz_wtb (kz_k262 1 (by decide)) (kz_cp_wt hw1 (fun j hj => by
      obtain ⟨-, a1, a2, -⟩ := kz_k260 j hj
      rw [Nat.zero_add]
      exact a2))
  have f1 : ∀ c k, ¬ (95 ≤ c ∧ c < 126) → ¬ c = 126 → h1 c k = h c k := fun c k q1 q2 => by
    rw [hh1, kj_uo q2]
    unfold kt_K
    rw [if_neg (by omega)]
  have f2 : ∀ c k, ¬ (c = 261 ∧ 650 ≤ k ∧ k < 1300) → ¬ c = 262 → h2 c k = h1 c k := fun c k q1 q2 => by
    rw [hh2, kj_uo q2]
    unfold kz_cp
    rw [if_neg (by omega)]
  have g1 : ∀ k, k < 31 → ∀ m, m < kt_ln k → h1 (95 + k) m = h (1 + k) m := fun k hk m hm => by
    rw [hh1, kj_uo (by omega)]
    unfold kt_K
    rw [show 95 + k - 95 = k from by omega, if_pos ⟨by omega, by omega, hm⟩]
  have g2 : ∀ m, m < 650 → h2 261 (650 + m) = h 260 m := fun m hm => by
    rw [hh2, kj_uo (by decide)]
    unfold kz_cp
    rw [if_pos ⟨rfl, by omega, by omega⟩, f1 260 _ (by omega) (by omega), show 0 + (650 + m - 650 * 1) = m from by omega]
  obtain ⟨-, ⟨⟨r0, r1, r2, r3, r4⟩, b1, b2, b3⟩, hL, c1, c2⟩ := id hI
  have mine : kR1 h2 95 123 125 261 650 := by
    refine ⟨?_, ?_, ?_, ?_, fun j hj => ?_⟩
    · rw [f2 95 0 (by omega) (by omega), g1 0 (by decide) 0 (by decide), show (650 : Nat) = 650 + 0 from rfl, g2 0 (by decide)]; exact r0
    · rw [f2 95 1 (by omega) (by omega), g1 0 (by decide) 1 (by decide), g2 1 (by decide)]; exact r1
    · rw [f2 95 2 (by omega) (by omega), g1 0 (by decide) 2 (by decide), g2 2 (by decide)]; exact r2
    · rw [f2 125 0 (by omega) (by omega), g1 30 (by decide) 0 (by decide), g2 160 (by decide)]; exact r3
    · rw [f2 123 j (by omega) (by omega), g1 28 (by decide) j hj, show 650 + 170 + j = 650 + (170 + j) from by omega, g2 (170 + j) (by omega)]
      have := r4 j hj
      rw [Nat.zero_add] at this
      exact this
  have other : kR1 h2 64 92 94 261 0 := by
    have e : ∀ c k, (64 ≤ c ∧ c ≤ 94) ∨ (c = 261 ∧ ¬ (650 ≤ k ∧ k < 1300)) → h2 c k = h c k := fun c k q => by
      rw [f2 c k (by omega) (by omega), f1 c k (by omega) (by omega)]
    exact kR1_eq (fun k _ => e _ _ (by omega)) (fun k _ => e _ _ (by omega)) (e _ _ (by omega)) (e _ _ (by omega)) (fun j _ => e _ _ (by omega)) (fun j _ => e _ _ (by omega)) b1
  have mineI : kI h2 261 650 := by
    obtain ⟨n, l, a1, a2, a3, a4⟩ := hL
    refine ⟨n, l, a1, ?_, fun k hk => ⟨(a3 k hk).1, (a3 k hk).2.1, ?_⟩, a4⟩
    · rw [g2 3 (by decide)]; rw [Nat.zero_add] at a2; exact a2
    · rw [show 650 + 150 + k = 650 + (150 + k) from by omega, g2 (150 + k) (by omega)]
      have := (a3 k hk).2.2
      rw [Nat.zero_add] at this
      exact this
  have otherI : kI h2 261 0 := kI_eq (by rw [f2 _ _ (by omega) (by omega), f1 _ _ (by omega) (by omega)]) (fun k hk => by rw [f2 _ _ (by omega) (by omega), f1 _ _ (by omega) (by omega)]) c1
  have now : ∀ c k, c < 63 ∨ c = 260 → h2 c k = h c k := fun c k q => by rw [f2 c k (by omega) (by omega), f1 c k (by omega) (by omega)]
  refine ⟨hw2, ⟨kR1_eq (fun k _ => now _ _ (by omega)) (fun k _ => now _ _ (by omega)) (now _ _ (by omega)) (now _ _ (by omega)) (fun j _ => now _ _ (by omega)) (fun j _ => now _ _ (by omega)) ⟨r0, r1, r2, r3, r4⟩, other, mine, fun k hk => ?_⟩, kI_eq (now _ _ (by omega)) (fun k _ => now _ _ (by omega)) hL, otherI, mineI⟩
  have w1 : ∀ k, ¬ k = 1 → h1 126 k = h 126 k := fun k q => by
    rw [hh1]
    unfold kc_upd
    rw [if_neg (by omega)]
    unfold kt_K
    rw [if_neg (by omega)]
  have w2 : ∀ k, ¬ k = 1 → h2 262 k = h1 262 k := fun k q => by
    rw [hh2]
    unfold kc_upd
    rw [if_neg (by omega)]
    exact kz_n (by decide)
  rw [f2 126 k (by omega) (by omega)]
  by_cases e : k = 1
  · subst e
    rw [hh1, hh2]
    exact (if_pos ⟨rfl, rfl⟩).trans (if_pos ⟨rfl, rfl⟩).symm
  · rw [w1 k e, w2 k e, f1 262 k (by omega) (by omega)]
    exact b3 k hk
theorem ku_from1 {g : kc_G} {h : kc_H} (hg : kc_ok g) (hI : kInv h) : kc_Con g 30 159 [.inr (.inr (.inl (some 0))), .inl (Int32.ofNat 1)] h (fun rv h1 => (∃ z : Int32, rv = some (.inl z)) ∧ kc_Con g 30 160 [.inr (.inr (.inl (some 259))), .inl (Int32.ofNat 1)] h1 kQi) := by
  obtain ⟨bo, eb⟩ := ku_kb hI.1 (i := 1) (by decide)
  obtain ⟨-, ⟨r, b1, b2, b3⟩, hL, c1, c2⟩ := id hI
  refine kc_Con_mono (kc_Con_le (ks_from1 (d := 0) hg hI.1 eb) (by decide)) (fun rv h1 hq => ?_)
  obtain ⟨hz, hq⟩ := hq
  refine ⟨hz, ?_⟩
  have hw1 : kd_wt kd_ty h1 := by
    rcases hq with ⟨-, rfl⟩ | ⟨-, rfl⟩
    · exact kt_K_wt hI.1 kt_ty95_1
    · exact hI.1
  have f1 : ∀ c k, ¬ (1 ≤ c ∧ c < 32) → h1 c k = h c k := fun c k q1 => by
    rcases hq with ⟨-, rfl⟩ | ⟨-, rfl⟩
    · unfold kt_K
      rw [if_neg (by omega)]
    · rfl
  have eb1 : h1 262 1 = .inl (kp_b bo) := by
    rw [f1 262 1 (by omega), ← b3 1 (by decide)]
    exact eb
  have hty : ∀ j, j < 650 → kd_rn (kd_ty 261) (650 * 1 + j) = kd_rn (kd_ty 260) j := fun j hj => by
    obtain ⟨-, a1, a2, -⟩ := kz_k260 j hj
    exact a2
  have key := kz_from (d := 0) (h := h1) (i := 1) (b := bo) hg (by decide) eb1 (fun k hk => kz_int_r hw1 (by rw [hty k hk]; exact (kz_k260 k hk).1))
  rw [kz_wid hw1] at key
  refine kc_Con_mono (kc_Con_le key (by decide)) (fun rv h2 hq2 => ?_)
  rcases hq with ⟨eb0, hh1⟩ | ⟨eb0, rfl⟩
  · rcases hq2 with ⟨-, rfl, hh2⟩ | ⟨eb2, -, -⟩
    · refine ⟨⟨_, rfl⟩, ?_⟩
      have hw2 : kd_wt kd_ty h2 := by
        rw [hh2]
        exact kz_cp_wt hw1 (fun j hj => by rw [hty j hj, Nat.zero_add])
      have f2 : ∀ c k, ¬ (c = 260 ∧ k < 650) → h2 c k = h1 c k := fun c k q1 => by
        rw [hh2]
        unfold kz_cp
        rw [if_neg (by omega)]
      have g1 : ∀ k, k < 31 → ∀ m, m < kt_ln k → h1 (1 + k) m = h (95 + k) m := fun k hk m hm => by
        rw [hh1]
        unfold kt_K
        rw [show 1 + k - 1 = k from by omega, if_pos ⟨by omega, by omega, hm⟩]
      have g2 : ∀ m, m < 650 → h2 260 m = h 261 (650 + m) := fun m hm => by
        rw [hh2]
        unfold kz_cp
        rw [if_pos ⟨rfl, by omega, by omega⟩, f1 261 _ (by omega), show 650 * 1 + (m - 0) = 650 + m from by omega]
      obtain ⟨r0, r1, r2, r3, r4⟩ := b2
      refine kInv_now hI hw2 (fun c k q1 q2 => by rw [f2 c k (by omega), f1 c k (by omega)]) (fun c k q => by rw [f2 c k (by omega), f1 c k (by omega)]) ⟨?_, ?_, ?_, ?_, fun j hj => ?_⟩ ?_
      · rw [f2 1 0 (by omega), g1 0 (by decide) 0 (by decide), g2 0 (by decide)]; exact r0
      · rw [f2 1 1 (by omega), g1 0 (by decide) 1 (by decide), g2 (0 + 1) (by decide)]; exact r1
      · rw [f2 1 2 (by omega), g1 0 (by decide) 2 (by decide), g2 (0 + 2) (by decide)]; exact r2
      · rw [f2 31 0 (by omega), g1 30 (by decide) 0 (by decide), g2 (0 + 160) (by decide)]; exact r3
      · rw [f2 29 j (by omega), g1 28 (by decide) j hj, g2 (0 + 170 + j) (by omega), show 650 + (0 + 170 + j) = 650 + 170 + j from by omega]
        exact r4 j hj
      · obtain ⟨n, l, a1, a2, a3, a4⟩ := c2
        refine ⟨n, l, a1, ?_, fun k hk => ⟨(a3 k hk).1, (a3 k hk).2.1, ?_⟩, a4⟩
        · rw [g2 (0 + 3) (by decide)]; exact a2
        · rw [g2 (0 + 150 + k) (by omega), show 650 + (0 + 150 + k) = 650 + 150 + k from by omega]
          exact (a3 k hk).2.2
    · rw [eb0] at eb2
      cases eb2
  · rcases hq2 with ⟨eb2, -, -⟩ | ⟨-, rfl, rfl⟩
    · rw [eb0] at eb2
      cases eb2
    · exact ⟨⟨_, rfl⟩, hI⟩
theorem ku_image {g : kc_G} {h : kc_H} {a : Int32} (hg : kc_ok g) (hI : kInv h) : kc_Con g 30 157 [.inr (.inr (.inl (some 0))), .inl a] h (fun rv h1 => (∃ z : Int32, rv = some (.inl z)) ∧ kc_Con g 30 158 [.inr (.inr (.inl (some 259))), .inl a] h1 kQi) := by
  have alo := kv_lo a
  have ahi := kv_hi a
  rcases (show (0 ≤ a.toInt ∧ a.toInt ≤ 1) ∨ a.toInt < 0 ∨ 1 < a.toInt by omega) with k | k | k
  · obtain ⟨x, x1, -, rfl⟩ := ku_nat (u := 1) k.1 (by omega)
    rcases (show x = 0 ∨ x = 1 by omega) with rfl | rfl
    · exact ku_image0 hg hI
    · exact ku_image1 hg hI
  · refine kc_Con_mono (kc_Con_le (kO_ii (kd_h157tl hg) (by decide +kernel) hI ⟨⟨0, rfl, by decide, by decide⟩, kv_gi (by omega) (by omega), trivial⟩ (fun q hq => by cases hq)) (by decide)) (fun rv h1 hq => ⟨hq.1, ?_⟩)
    exact kc_Con_le (kO_ii (kd_h158a hg) (by decide +kernel) hq.2 ⟨⟨259, rfl, by decide, by decide⟩, kv_gi (by omega) (by omega), trivial⟩ (fun q hq => by cases hq)) (by decide)
  · refine kc_Con_mono (kc_Con_le (kO_ii (kd_h157th hg) (by decide +kernel) hI ⟨⟨0, rfl, by decide, by decide⟩, kv_gi (by omega) (by omega), trivial⟩ (fun q hq => by cases hq)) (by decide)) (fun rv h1 hq => ⟨hq.1, ?_⟩)
    exact kc_Con_le (kO_ii (kd_h158b hg) (by decide +kernel) hq.2 ⟨⟨259, rfl, by decide, by decide⟩, kv_gi (by omega) (by omega), trivial⟩ (fun q hq => by cases hq)) (by decide)
theorem ku_from {g : kc_G} {h : kc_H} {a : Int32} (hg : kc_ok g) (hI : kInv h) : kc_Con g 30 159 [.inr (.inr (.inl (some 0))), .inl a] h (fun rv h1 => (∃ z : Int32, rv = some (.inl z)) ∧ kc_Con g 30 160 [.inr (.inr (.inl (some 259))), .inl a] h1 kQi) := by
  have alo := kv_lo a
  have ahi := kv_hi a
  rcases (show (0 ≤ a.toInt ∧ a.toInt ≤ 1) ∨ a.toInt < 0 ∨ 1 < a.toInt by omega) with k | k | k
  · obtain ⟨x, x1, -, rfl⟩ := ku_nat (u := 1) k.1 (by omega)
    rcases (show x = 0 ∨ x = 1 by omega) with rfl | rfl
    · exact ku_from0 hg hI
    · exact ku_from1 hg hI
  · refine kc_Con_mono (kc_Con_le (kO_ii (kd_h159tl hg) (by decide +kernel) hI ⟨⟨0, rfl, by decide, by decide⟩, kv_gi (by omega) (by omega), trivial⟩ (fun q hq => by cases hq)) (by decide)) (fun rv h1 hq => ⟨hq.1, ?_⟩)
    exact kc_Con_le (kO_ii (kd_h160a hg) (by decide +kernel) hq.2 ⟨⟨259, rfl, by decide, by decide⟩, kv_gi (by omega) (by omega), trivial⟩ (fun q hq => by cases hq)) (by decide)
  · refine kc_Con_mono (kc_Con_le (kO_ii (kd_h159th hg) (by decide +kernel) hI ⟨⟨0, rfl, by decide, by decide⟩, kv_gi (by omega) (by omega), trivial⟩ (fun q hq => by cases hq)) (by decide)) (fun rv h1 hq => ⟨hq.1, ?_⟩)
    exact kc_Con_le (kO_ii (kd_h160b hg) (by decide +kernel) hq.2 ⟨⟨259, rfl, by decide, by decide⟩, kv_gi (by omega) (by omega), trivial⟩ (fun q hq => by cases hq)) (by decide)
