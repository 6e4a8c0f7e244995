/-! ===== the second engine's arithmetic is right ===== -/
abbrev kd_rs (n : Nat) (ρ : Nat → Nat) (x : kc_V) (k : kd_V → Bool) : Prop := ∃ u, kd_g n ρ u x ∧ k u = true
theorem kd_bif {c A B : Bool} (h : (bif c then A else B) = true) : (c = true ∧ A = true) ∨ (c = false ∧ B = true) := by
  cases c
  · exact Or.inr ⟨rfl, h⟩
  · exact Or.inl ⟨rfl, h⟩
theorem kd_cf {A B : Bool} (h : (bif false then A else B) = true) : B = true := h
theorem kd_ct {A B : Bool} (h : (bif true then A else B) = true) : A = true := h
section KDA
variable {n : Nat} {ρ : Nat → Nat} {iv : kd_I} {v w : kd_V} {x y : kc_V} {a b : Int32} {l1 h1 l2 h2 : Nat} {k : kd_V → Bool}
theorem kd_top_r {x : Int32} (h : k kd_tI = true) : kd_rs n ρ (.inl x) k := ⟨kd_tI, ⟨x, rfl, Nat.zero_le _, kd_nb_M x⟩, h⟩
theorem kd_topj_r {x : Int64} (h : k kd_tJ = true) : kd_rs n ρ (.inr (.inl x)) k := ⟨kd_tJ, ⟨x, rfl, Nat.zero_le _, kd_nj_J x⟩, h⟩
theorem kd_fit_r {x : Int32} {lo hi : Nat} (h : kd_fit lo hi k = true) (g1 : lo ≤ kd_nb x) (g2 : kd_nb x ≤ hi) : kd_rs n ρ (.inl x) k := by
  unfold kd_fit at h
  simp only [wk_fN_eq] at h
  exact ⟨(0, lo, hi), ⟨x, rfl, g1, g2⟩, h⟩
theorem kd_1_r {G : Int32 → Int32 → Int32} (h : kd_1 G l1 l2 k = true) (e1 : kd_nb a = l1) (e2 : kd_nb b = l2) : kd_rs n ρ (.inl (G a b)) k := by
  unfold kd_1 at h
  rw [kd_ofN_r e1, kd_ofN_r e2, wk_fN_eq] at h
  exact ⟨(0, kd_nb (G a b), kd_nb (G a b)), ⟨_, rfl, Nat.le_refl _, Nat.le_refl _⟩, h⟩
theorem kd_one_r (h : kd_one l1 h1 l2 h2 = true) (a1 : l1 ≤ kd_nb a) (a2 : kd_nb a ≤ h1) (b1 : l2 ≤ kd_nb b) (b2 : kd_nb b ≤ h2) : kd_nb a = l1 ∧ kd_nb b = l2 := by
  unfold kd_one at h
  rw [Bool.and_eq_true] at h
  have e1 := Nat.eq_of_beq_eq_true h.1
  have e2 := Nat.eq_of_beq_eq_true h.2
  omega
theorem kd_b2_r {f : Nat → Nat → Nat → Nat → (kd_V → Bool) → Bool} (h : kd_b2 iv n v w f k = true) (hb : kd_bx ρ iv n) (hv : kd_g n ρ v x) (hw : kd_g n ρ w y) : ∃ (a b : Int32) (l1 h1 l2 h2 : Nat), x = .inl a ∧ y = .inl b ∧ l1 ≤ kd_nb a ∧ kd_nb a ≤ h1 ∧ l2 ≤ kd_nb b ∧ kd_nb b ≤ h2 ∧ f l1 h1 l2 h2 k = true := by
  unfold kd_b2 at h
  obtain ⟨a, l1, u1, rfl, a1, a2, h⟩ := kd_bd_r h hb hv
  obtain ⟨b, l2, u2, rfl, b1, b2, h⟩ := kd_bd_r h hb hw
  exact ⟨a, b, l1, u1, l2, u2, rfl, rfl, a1, a2, b1, b2, h⟩
theorem kd_nb_add (h1 : 2147483648 ≤ kd_nb a + kd_nb b) (h2 : kd_nb a + kd_nb b ≤ 4294967295 + 2147483648) : kd_nb (a + b) + 2147483648 = kd_nb a + kd_nb b := by
  have ea := kd_nb_i a
  have eb := kd_nb_i b
  have e := kd_nb_i (a + b)
  rw [kd_add_i (by omega) (by omega)] at e
  omega
theorem kd_nb_sub (h1 : kd_nb b ≤ kd_nb a + 2147483648) (h2 : kd_nb a + 2147483648 ≤ 4294967295 + kd_nb b) : kd_nb (a - b) + kd_nb b = kd_nb a + 2147483648 := by
  have ea := kd_nb_i a
  have eb := kd_nb_i b
  have e := kd_nb_i (a - b)
  rw [kd_sub_i (by omega) (by omega)] at e
  omega
theorem kd_var {v : kd_V} {a : Int32} (h : Nat.beq v.1 1 = true) (hv : kd_g n ρ v (.inl a)) : v.2.1 < n ∧ kd_nb a + 2147483648 = ρ v.2.1 + v.2.2 := by
  obtain ⟨t, j, o⟩ := v
  obtain rfl := Nat.eq_of_beq_eq_true h
  obtain ⟨h1, z, h2, h3⟩ := hv
  cases h2
  exact ⟨h1, h3⟩
theorem kd_add_r (h : kd_add iv n v w k = true) (hb : kd_bx ρ iv n) (hv : kd_g n ρ v x) (hw : kd_g n ρ w y) : ∃ a b : Int32, x = .inl a ∧ y = .inl b ∧ kd_rs n ρ (.inl (a + b)) k := by
  unfold kd_add kd_fit2 at h
  generalize hB : kd_B = B at h
  generalize hM : kd_M = MM at h
  generalize hC : kd_C = CC at h
  have eB : B = 2147483648 := hB.symm
  have eM : MM = 4294967295 := hM.symm
  have eC : CC = 9223372036854775808 := hC.symm
  obtain ⟨a, l1, u1, rfl, a1, a2, h⟩ := kd_bd_r h hb hv
  obtain ⟨b, l2, u2, rfl, b1, b2, h⟩ := kd_bd_r h hb hw
  refine ⟨a, b, rfl, rfl, ?_⟩
  cases c1 : Nat.beq l2 u2 && Nat.beq v.1 1 with
  | true =>
    rw [c1] at h
    rw [Bool.and_eq_true] at c1
    have e2 := Nat.eq_of_beq_eq_true c1.1
    obtain ⟨hj, ej⟩ := kd_var c1.2 hv
    (try simp only [cond_true] at h)
    cases c2 : Nat.ble B (l1 + l2) && (Nat.ble (u1 + l2) (MM + B) && Nat.ble B (v.2.2 + l2)) with
    | false => rw [c2] at h; exact kd_top_r (kd_cf h)
    | true =>
      rw [c2] at h
      simp only [Bool.and_eq_true] at c2
      have d1 := Nat.le_of_ble_eq_true c2.1
      have d2 := Nat.le_of_ble_eq_true c2.2.1
      have d3 := Nat.le_of_ble_eq_true c2.2.2
      simp only [cond_true, wk_fN_eq] at h
      have := kd_nb_add (a := a) (b := b) (by omega) (by omega)
      exact ⟨(1, v.2.1, v.2.2 + l2 - B), ⟨hj, _, rfl, by omega⟩, h⟩
  | false =>
    rw [c1] at h
    simp only [cond_false] at h
    cases c3 : Nat.beq l1 u1 && Nat.beq w.1 1 with
    | true =>
      rw [c3] at h
      rw [Bool.and_eq_true] at c3
      have e2 := Nat.eq_of_beq_eq_true c3.1
      obtain ⟨hj, ej⟩ := kd_var c3.2 hw
      (try simp only [cond_true] at h)
      cases c2 : Nat.ble B (l2 + l1) && (Nat.ble (u2 + l1) (MM + B) && Nat.ble B (w.2.2 + l1)) with
      | false => rw [c2] at h; exact kd_top_r (kd_cf h)
      | true =>
        rw [c2] at h
        simp only [Bool.and_eq_true] at c2
        have d1 := Nat.le_of_ble_eq_true c2.1
        have d2 := Nat.le_of_ble_eq_true c2.2.1
        have d3 := Nat.le_of_ble_eq_true c2.2.2
        simp only [cond_true, wk_fN_eq] at h
        have := kd_nb_add (a := a) (b := b) (by omega) (by omega)
        exact ⟨(1, w.2.1, w.2.2 + l1 - B), ⟨hj, _, rfl, by omega⟩, h⟩
    | false =>
      rw [c3] at h
      simp only [cond_false] at h
      cases c2 : Nat.ble B (l1 + l2) && Nat.ble (u1 + u2) (MM + B) with
      | false => rw [c2] at h; exact kd_top_r (kd_cf h)
      | true =>
        rw [c2] at h
        simp only [Bool.and_eq_true] at c2
        have d1 := Nat.le_of_ble_eq_true c2.1
        have d2 := Nat.le_of_ble_eq_true c2.2
        have := kd_nb_add (a := a) (b := b) (by omega) (by omega)
        (try replace h := kd_ct h)
        exact kd_fit_r h (by omega) (by omega)
theorem kd_sub_r (h : kd_sub iv n v w k = true) (hb : kd_bx ρ iv n) (hv : kd_g n ρ v x) (hw : kd_g n ρ w y) : ∃ a b : Int32, x = .inl a ∧ y = .inl b ∧ kd_rs n ρ (.inl (a - b)) k := by
  unfold kd_sub at h
  generalize hB : kd_B = B at h
  generalize hM : kd_M = MM at h
  generalize hC : kd_C = CC at h
  have eB : B = 2147483648 := hB.symm
  have eM : MM = 4294967295 := hM.symm
  have eC : CC = 9223372036854775808 := hC.symm
  obtain ⟨a, l1, u1, rfl, a1, a2, h⟩ := kd_bd_r h hb hv
  obtain ⟨b, l2, u2, rfl, b1, b2, h⟩ := kd_bd_r h hb hw
  refine ⟨a, b, rfl, rfl, ?_⟩
  cases c1 : Nat.beq l2 u2 && Nat.beq v.1 1 with
  | true =>
    rw [c1] at h
    rw [Bool.and_eq_true] at c1
    have e2 := Nat.eq_of_beq_eq_true c1.1
    obtain ⟨hj, ej⟩ := kd_var c1.2 hv
    (try simp only [cond_true] at h)
    cases c2 : Nat.ble l2 (l1 + B) && (Nat.ble (u1 + B) (MM + l2) && Nat.ble l2 (v.2.2 + B)) with
    | false => rw [c2] at h; exact kd_top_r (kd_cf h)
    | true =>
      rw [c2] at h
      simp only [Bool.and_eq_true] at c2
      have d1 := Nat.le_of_ble_eq_true c2.1
      have d2 := Nat.le_of_ble_eq_true c2.2.1
      have d3 := Nat.le_of_ble_eq_true c2.2.2
      simp only [cond_true, wk_fN_eq] at h
      have := kd_nb_sub (a := a) (b := b) (by omega) (by omega)
      exact ⟨(1, v.2.1, v.2.2 + B - l2), ⟨hj, _, rfl, by omega⟩, h⟩
  | false =>
    rw [c1] at h
    simp only [cond_false] at h
    cases c2 : Nat.ble u2 (l1 + B) && Nat.ble (u1 + B) (MM + l2) with
    | false => rw [c2] at h; exact kd_top_r (kd_cf h)
    | true =>
      rw [c2] at h
      simp only [Bool.and_eq_true] at c2
      have d1 := Nat.le_of_ble_eq_true c2.1
      have d2 := Nat.le_of_ble_eq_true c2.2
      have := kd_nb_sub (a := a) (b := b) (by omega) (by omega)
      (try replace h := kd_ct h)
      exact kd_fit_r h (by omega) (by omega)
theorem kd_pos_r {l : Nat} (h : kd_pos l = true) : 2147483648 ≤ l := Nat.le_of_ble_eq_true h
theorem kd_mul_r (h : kd_mul l1 h1 l2 h2 k = true) (a1 : l1 ≤ kd_nb a) (a2 : kd_nb a ≤ h1) (b1 : l2 ≤ kd_nb b) (b2 : kd_nb b ≤ h2) : kd_rs n ρ (.inl (a * b)) k := by
  unfold kd_mul at h
  generalize hB : kd_B = B at h
  have eB : B = 2147483648 := hB.symm
  rcases kd_bif h with ⟨c1, h⟩ | ⟨c1, h⟩
  · rw [Bool.and_eq_true] at c1
    have d1 := kd_pos_r c1.1
    have d2 := kd_pos_r c1.2
    rcases kd_bif h with ⟨c2, h⟩ | ⟨c2, h⟩
    · have d3 := Nat.le_of_ble_eq_true c2
      obtain ⟨p, hp⟩ : ∃ p : Nat, kd_nb a = p + B := ⟨kd_nb a - B, by omega⟩
      obtain ⟨q, hq⟩ : ∃ q : Nat, kd_nb b = q + B := ⟨kd_nb b - B, by omega⟩
      have ea := kd_nb_i a
      have eb := kd_nb_i b
      have e := kd_nb_i (a * b)
      have xa : a.toInt = (p : Int) := by omega
      have xb : b.toInt = (q : Int) := by omega
      have m1 : p * q ≤ (h1 - B) * (h2 - B) := Nat.mul_le_mul (by omega) (by omega)
      have m2 : (l1 - B) * (l2 - B) ≤ p * q := Nat.mul_le_mul (by omega) (by omega)
      have hmul : (a * b).toInt = ((p * q : Nat) : Int) := by
        rw [kd_mul_i (by rw [xa, xb, ← Int.natCast_mul]; omega) (by rw [xa, xb, ← Int.natCast_mul]; omega), xa, xb, Int.natCast_mul]
      rw [hmul] at e
      exact kd_fit_r h (by omega) (by omega)
    · exact kd_top_r h
  · rcases kd_bif h with ⟨c2, h⟩ | ⟨c2, h⟩
    · obtain ⟨e1, e2⟩ := kd_one_r c2 a1 a2 b1 b2
      exact kd_1_r (G := fun a b => a * b) h e1 e2
    · exact kd_top_r h
theorem kd_and_r (h : kd_and l1 h1 l2 h2 k = true) (a1 : l1 ≤ kd_nb a) (a2 : kd_nb a ≤ h1) (b1 : l2 ≤ kd_nb b) (b2 : kd_nb b ≤ h2) : kd_rs n ρ (.inl (a &&& b)) k := by
  unfold kd_and at h
  generalize hB : kd_B = B at h
  generalize hM : kd_M = MM at h
  generalize hC : kd_C = CC at h
  have eB : B = 2147483648 := hB.symm
  have eM : MM = 4294967295 := hM.symm
  have eC : CC = 9223372036854775808 := hC.symm
  have ea := kd_nb_i a
  have eb := kd_nb_i b
  have e := kd_nb_i (a &&& b)
  cases c1 : kd_one l1 h1 l2 h2 with
  | true =>
    rw [c1] at h
    simp only [cond_true] at h
    obtain ⟨e1, e2⟩ := kd_one_r c1 a1 a2 b1 b2
    exact kd_1_r (G := fun a b => a &&& b) h e1 e2
  | false =>
    rw [c1] at h
    simp only [cond_false] at h
    cases c2 : kd_pos l2 with
    | true =>
      rw [c2] at h
      have d1 := kd_pos_r c2
      have := kd_and_i (x := a) (y := b) (by omega)
      exact ⟨(0, B, h2), ⟨_, rfl, by omega, by omega⟩, h⟩
    | false =>
      rw [c2] at h
      simp only [cond_false] at h
      cases c3 : kd_pos l1 with
      | true =>
        rw [c3] at h
        have d1 := kd_pos_r c3
        have := kd_and_i2 (x := a) (y := b) (by omega)
        exact ⟨(0, B, h1), ⟨_, rfl, by omega, by omega⟩, h⟩
      | false => rw [c3] at h; exact kd_top_r (kd_cf h)
theorem kd_or_r (h : kd_or l1 h1 l2 h2 k = true) (a1 : l1 ≤ kd_nb a) (a2 : kd_nb a ≤ h1) (b1 : l2 ≤ kd_nb b) (b2 : kd_nb b ≤ h2) : kd_rs n ρ (.inl (a ||| b)) k := by
  unfold kd_or at h
  generalize hB : kd_B = B at h
  generalize hM : kd_M = MM at h
  generalize hC : kd_C = CC at h
  have eB : B = 2147483648 := hB.symm
  have eM : MM = 4294967295 := hM.symm
  have eC : CC = 9223372036854775808 := hC.symm
  have ea := kd_nb_i a
  have eb := kd_nb_i b
  have e := kd_nb_i (a ||| b)
  cases c1 : kd_one l1 h1 l2 h2 with
  | true =>
    rw [c1] at h
    simp only [cond_true] at h
    obtain ⟨e1, e2⟩ := kd_one_r c1 a1 a2 b1 b2
    exact kd_1_r (G := fun a b => a ||| b) h e1 e2
  | false =>
    rw [c1] at h
    simp only [cond_false] at h
    cases c2 : kd_pos l1 && (kd_pos l2 && Nat.ble (kd_pw (kd_mx (h1 - B) (h2 - B))) 2147483647) with
    | false => rw [c2] at h; exact kd_top_r (kd_cf h)
    | true =>
      rw [c2] at h
      simp only [Bool.and_eq_true] at c2
      have d1 := kd_pos_r c2.1
      have d2 := kd_pos_r c2.2.1
      have d3 := Nat.le_of_ble_eq_true c2.2.2
      rw [kd_mx_r] at d3 h
      unfold kd_pw at d3 h
      have hlt := Nat.lt_log2_self (n := max (h1 - B) (h2 - B))
      have := kd_or_i (x := a) (y := b) (m := Nat.log2 (max (h1 - B) (h2 - B)) + 1) (by omega) (by omega) (by omega) (by omega) (by omega)
      (try replace h := kd_ct h)
      exact kd_fit_r h (by omega) (by omega)
theorem kd_xor_r (h : kd_xor l1 h1 l2 h2 k = true) (a1 : l1 ≤ kd_nb a) (a2 : kd_nb a ≤ h1) (b1 : l2 ≤ kd_nb b) (b2 : kd_nb b ≤ h2) : kd_rs n ρ (.inl (a ^^^ b)) k := by
  unfold kd_xor at h
  cases c1 : kd_one l1 h1 l2 h2 with
  | true =>
    rw [c1] at h
    simp only [cond_true] at h
    obtain ⟨e1, e2⟩ := kd_one_r c1 a1 a2 b1 b2
    exact kd_1_r (G := fun a b => a ^^^ b) h e1 e2
  | false => rw [c1] at h; exact kd_top_r (kd_cf h)
theorem kd_shl_r (h : kd_shl l1 h1 l2 h2 k = true) (a1 : l1 ≤ kd_nb a) (a2 : kd_nb a ≤ h1) (b1 : l2 ≤ kd_nb b) (b2 : kd_nb b ≤ h2) : kd_rs n ρ (.inl (a <<< (b &&& 31))) k := by
  unfold kd_shl at h
  cases c1 : kd_one l1 h1 l2 h2 with
  | true =>
    rw [c1] at h
    simp only [cond_true] at h
    obtain ⟨e1, e2⟩ := kd_one_r c1 a1 a2 b1 b2
    exact kd_1_r (G := fun a b => a <<< (b &&& 31)) h e1 e2
  | false => rw [c1] at h; exact kd_top_r (kd_cf h)
theorem kd_shr_r (h : kd_shr l1 h1 l2 h2 k = true) (a1 : l1 ≤ kd_nb a) (a2 : kd_nb a ≤ h1) (b1 : l2 ≤ kd_nb b) (b2 : kd_nb b ≤ h2) : kd_rs n ρ (.inl (a >>> (b &&& 31))) k := by
  unfold kd_shr at h
  generalize hB : kd_B = B at h
  have eB : B = 2147483648 := hB.symm
  rcases kd_bif h with ⟨c1, h⟩ | ⟨c1, h⟩
  · obtain ⟨e1, e2⟩ := kd_one_r c1 a1 a2 b1 b2
    exact kd_1_r (G := fun a b => a >>> (b &&& 31)) h e1 e2
  · rcases kd_bif h with ⟨c2, h⟩ | ⟨c2, h⟩
    · simp only [Bool.and_eq_true] at c2
      have d1 := kd_pos_r c2.1
      have d2 := Nat.eq_of_beq_eq_true c2.2.1
      have d3 := Nat.le_of_ble_eq_true c2.2.2
      have ea := kd_nb_i a
      have eb := kd_nb_i b
      have e := kd_nb_i (a >>> (b &&& 31))
      obtain ⟨s, hs⟩ : ∃ s : Nat, l2 - B = s := ⟨_, rfl⟩
      rw [hs] at h d3
      rw [kd_shr_i (s := s) (by omega) (by omega)] at e
      have hdv : B = 2 ^ s * (B / 2 ^ s) := by
        have : ∀ s : Nat, s < 31 → (2147483648 : Nat) = 2 ^ s * (2147483648 / 2 ^ s) := by decide +kernel
        rw [eB]
        exact this s (by omega)
      have hp : 0 < 2 ^ s := Nat.pow_pos (by decide)
      generalize 2 ^ s = P at *
      generalize B / P = E at *
      have hE : E ≤ B := by
        rw [hdv]
        exact Nat.le_mul_of_pos_left _ hp
      have key : ((kd_nb a / P : Nat) : Int) = a.toInt / (P : Int) + (E : Int) := by
        have e1 : ((kd_nb a / P : Nat) : Int) = (kd_nb a : Int) / (P : Int) := Int.natCast_ediv _ _
        rw [e1, ea, show (2147483648 : Int) = (P : Int) * (E : Int) by rw [← Int.natCast_mul, ← hdv, eB]; rfl, Int.add_mul_ediv_left _ _ (by omega)]
      have m1 : l1 / P ≤ kd_nb a / P := Nat.div_le_div_right a1
      have m2 : kd_nb a / P ≤ h1 / P := Nat.div_le_div_right a2
      exact kd_fit_r h (by omega) (by omega)
    · exact kd_top_r h
theorem kd_div_r (h : kd_div l1 h1 l2 h2 k = true) (a1 : l1 ≤ kd_nb a) (a2 : kd_nb a ≤ h1) (b1 : l2 ≤ kd_nb b) (b2 : kd_nb b ≤ h2) : ¬ b = 0 ∧ kd_rs n ρ (.inl (a / b)) k := by
  unfold kd_div at h
  generalize hB : kd_B = B at h
  have eB : B = 2147483648 := hB.symm
  obtain ⟨c0, h⟩ := kd_bt h
  have d0 := wk_blt c0
  have ea := kd_nb_i a
  have eb := kd_nb_i b
  have e := kd_nb_i (a / b)
  refine ⟨fun q => by subst q; have : (0 : Int32).toInt = 0 := rfl; omega, ?_⟩
  rcases kd_bif h with ⟨c1, h⟩ | ⟨c1, h⟩
  · rw [Bool.and_eq_true] at c1
    have d1 := kd_pos_r c1.1
    have d2 := Nat.eq_of_beq_eq_true c1.2
    rw [kd_div_i (by omega) (by omega)] at e
    obtain ⟨p, hp⟩ : ∃ p : Nat, kd_nb a = p + B := ⟨kd_nb a - B, by omega⟩
    obtain ⟨q, hq⟩ : ∃ q : Nat, kd_nb b = q + B := ⟨kd_nb b - B, by omega⟩
    have key : a.toInt / b.toInt = ((p / q : Nat) : Int) := by
      rw [show a.toInt = (p : Int) by omega, show b.toInt = (q : Int) by omega, Int.natCast_ediv]
    rw [key] at e
    have eq : l2 - B = q := by omega
    rw [eq] at h
    have m1 : (l1 - B) / q ≤ p / q := Nat.div_le_div_right (by omega)
    have m2 : p / q ≤ (h1 - B) / q := Nat.div_le_div_right (by omega)
    exact kd_fit_r h (by omega) (by omega)
  · exact kd_top_r h
theorem kd_rem_r (h : kd_rem l1 h1 l2 h2 k = true) (a1 : l1 ≤ kd_nb a) (a2 : kd_nb a ≤ h1) (b1 : l2 ≤ kd_nb b) (b2 : kd_nb b ≤ h2) : ¬ b = 0 ∧ kd_rs n ρ (.inl (a - a / b * b)) k := by
  unfold kd_rem at h
  generalize hB : kd_B = B at h
  generalize hM : kd_M = MM at h
  generalize hC : kd_C = CC at h
  have eB : B = 2147483648 := hB.symm
  have eM : MM = 4294967295 := hM.symm
  have eC : CC = 9223372036854775808 := hC.symm
  obtain ⟨c0, h⟩ := kd_bt h
  have d0 := wk_blt c0
  have ea := kd_nb_i a
  have eb := kd_nb_i b
  have e := kd_nb_i (a - a / b * b)
  refine ⟨fun q => by subst q; have : (0 : Int32).toInt = 0 := rfl; omega, ?_⟩
  cases c1 : kd_one l1 h1 l2 h2 with
  | true =>
    rw [c1] at h
    simp only [cond_true] at h
    obtain ⟨e1, e2⟩ := kd_one_r c1 a1 a2 b1 b2
    exact kd_1_r (G := fun a b => a - a / b * b) h e1 e2
  | false =>
    rw [c1] at h
    simp only [cond_false] at h
    cases c2 : kd_pos l1 with
    | false => rw [c2] at h; exact kd_top_r (kd_cf h)
    | true =>
      rw [c2] at h
      have d1 := kd_pos_r c2
      simp only [cond_true, wk_fN_eq] at h
      rw [kd_rem_i (by omega) (by omega)] at e
      have r1 := Int.emod_nonneg a.toInt (show b.toInt ≠ 0 by omega)
      have r2 := Int.emod_lt_of_pos a.toInt (show 0 < b.toInt by omega)
      exact ⟨(0, B, h2 - 1), ⟨_, rfl, by omega, by omega⟩, h⟩
theorem kd_neg_r (h : kd_neg l1 h1 k = true) (a1 : l1 ≤ kd_nb a) (a2 : kd_nb a ≤ h1) : kd_rs n ρ (.inl (-a)) k := by
  unfold kd_neg at h
  generalize hB : kd_B = B at h
  generalize hM : kd_M = MM at h
  generalize hC : kd_C = CC at h
  have eB : B = 2147483648 := hB.symm
  have eM : MM = 4294967295 := hM.symm
  have eC : CC = 9223372036854775808 := hC.symm
  have ea := kd_nb_i a
  have e := kd_nb_i (-a)
  cases c1 : Nat.blt 0 l1 with
  | false => rw [c1] at h; exact kd_top_r (kd_cf h)
  | true =>
    rw [c1] at h
    have d1 := wk_blt c1
    (try simp only [cond_true] at h)
    rw [kd_neg_i (by omega)] at e
    (try replace h := kd_ct h)
    exact kd_fit_r h (by omega) (by omega)
theorem kd_il_r (h : kd_il iv n v k = true) (hb : kd_bx ρ iv n) (hv : kd_g n ρ v x) : ∃ a : Int32, x = .inl a ∧ kd_rs n ρ (.inr (.inl a.toInt64)) k := by
  unfold kd_il at h
  generalize hB : kd_B = B at h
  generalize hM : kd_M = MM at h
  generalize hC : kd_C = CC at h
  have eB : B = 2147483648 := hB.symm
  have eM : MM = 4294967295 := hM.symm
  have eC : CC = 9223372036854775808 := hC.symm
  cases c1 : Nat.beq v.1 1 with
  | true =>
    rw [c1] at h
    simp only [cond_true, cond_false] at h
    obtain ⟨a, l1, u1, rfl, a1, a2, h⟩ := kd_bd_r h hb hv
    obtain ⟨hj, ej⟩ := kd_var c1 hv
    have ea := kd_nb_i a
    exact ⟨a, rfl, (6, v.2.1, v.2.2), ⟨hj, _, rfl, by rw [Int32.toInt_toInt64]; omega⟩, h⟩
  | false =>
    rw [c1] at h
    simp only [cond_true, cond_false] at h
    obtain ⟨a, l1, u1, rfl, a1, a2, h⟩ := kd_bd_r h hb hv
    simp only [wk_fN_eq] at h
    have ea := kd_nb_i a
    have ej := kd_nj_i a.toInt64
    rw [Int32.toInt_toInt64] at ej
    exact ⟨a, rfl, (2, l1 + (CC - B), u1 + (CC - B)), ⟨_, rfl, by omega, by omega⟩, h⟩
theorem kd_li_r (h : kd_li iv n v k = true) (hb : kd_bx ρ iv n) (hv : kd_g n ρ v x) : ∃ a : Int64, x = .inr (.inl a) ∧ kd_rs n ρ (.inl a.toInt32) k := by
  unfold kd_li at h
  generalize hB : kd_B = B at h
  generalize hM : kd_M = MM at h
  generalize hC : kd_C = CC at h
  have eB : B = 2147483648 := hB.symm
  have eM : MM = 4294967295 := hM.symm
  have eC : CC = 9223372036854775808 := hC.symm
  cases c1 : Nat.beq v.1 6 with
  | true =>
    rw [c1] at h
    simp only [cond_true, cond_false] at h
    obtain ⟨a, l1, u1, rfl, a1, a2, h⟩ := kd_bj_r h hb hv
    obtain ⟨c2, h⟩ := kd_bt h
    rw [Bool.and_eq_true] at c2
    have d1 := Nat.le_of_ble_eq_true c2.1
    have d2 := Nat.le_of_ble_eq_true c2.2
    obtain ⟨t, j, o⟩ := v
    obtain rfl := Nat.eq_of_beq_eq_true c1
    obtain ⟨hj, z, e1, e2⟩ := hv
    cases e1
    have ej := kd_nj_i a
    have ea := kd_nb_i a.toInt32
    rw [kd_l2i_i (by omega) (by omega)] at ea
    exact ⟨a, rfl, (1, j, o), ⟨hj, _, rfl, by omega⟩, h⟩
  | false =>
    rw [c1] at h
    simp only [cond_true, cond_false] at h
    obtain ⟨a, l1, u1, rfl, a1, a2, h⟩ := kd_bj_r h hb hv
    refine ⟨a, rfl, ?_⟩
    cases c2 : Nat.ble (CC - B) l1 && Nat.ble u1 (CC - B + MM) with
    | false => rw [c2] at h; exact kd_top_r (kd_cf h)
    | true =>
      rw [c2] at h
      rw [Bool.and_eq_true] at c2
      have d1 := Nat.le_of_ble_eq_true c2.1
      have d2 := Nat.le_of_ble_eq_true c2.2
      have ej := kd_nj_i a
      have ea := kd_nb_i a.toInt32
      rw [kd_l2i_i (by omega) (by omega)] at ea
      (try replace h := kd_ct h)
      exact kd_fit_r h (by omega) (by omega)
theorem kd_landj_r {a b : Int64} (h : kd_landj l1 h1 l2 h2 k = true) (a1 : l1 ≤ kd_nj a) (a2 : kd_nj a ≤ h1) (b1 : l2 ≤ kd_nj b) (b2 : kd_nj b ≤ h2) : kd_rs n ρ (.inr (.inl (a &&& b))) k := by
  unfold kd_landj at h
  generalize hB : kd_B = B at h
  generalize hM : kd_M = MM at h
  generalize hC : kd_C = CC at h
  have eB : B = 2147483648 := hB.symm
  have eM : MM = 4294967295 := hM.symm
  have eC : CC = 9223372036854775808 := hC.symm
  have ea := kd_nj_i a
  have eb := kd_nj_i b
  have e := kd_nj_i (a &&& b)
  cases c2 : Nat.ble CC l2 with
  | true =>
    rw [c2] at h
    have d1 := Nat.le_of_ble_eq_true c2
    have := kd_landj_i (x := a) (y := b) (by omega)
    exact ⟨(2, CC, h2), ⟨_, rfl, by omega, by omega⟩, h⟩
  | false =>
    rw [c2] at h
    simp only [cond_false] at h
    cases c3 : Nat.ble CC l1 with
    | true =>
      rw [c3] at h
      have d1 := Nat.le_of_ble_eq_true c3
      have := kd_landj_i2 (x := a) (y := b) (by omega)
      exact ⟨(2, CC, h1), ⟨_, rfl, by omega, by omega⟩, h⟩
    | false => rw [c3] at h; exact kd_topj_r (kd_cf h)
end KDA
