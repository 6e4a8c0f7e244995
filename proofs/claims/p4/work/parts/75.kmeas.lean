/-! ===== stations: the measure falls; a contract out of an entry and stations ===== -/
def kd_K : Nat := 4294967296
def kd_nu : List Nat → Nat
  | [] => 0
  | v :: r => v * kd_K ^ r.length + kd_nu r
theorem kd_nu_lt : ∀ l : List Nat, (∀ v ∈ l, v < kd_K) → kd_nu l < kd_K ^ l.length
  | [], _ => by show 0 < 1; decide
  | v :: r, h => by
    have ih := kd_nu_lt r (fun u hu => h u (List.mem_cons_of_mem _ hu))
    have hv := h v List.mem_cons_self
    show v * kd_K ^ r.length + kd_nu r < kd_K ^ (r.length + 1)
    rw [Nat.pow_succ, Nat.mul_comm (kd_K ^ r.length) kd_K]
    have : (v + 1) * kd_K ^ r.length ≤ kd_K * kd_K ^ r.length := Nat.mul_le_mul_right _ hv
    rw [Nat.add_mul, Nat.one_mul] at this
    omega
theorem kd_nu_fst {v0 v1 : Nat} {r0 r1 : List Nat} (hl : r0.length = r1.length) (h1 : ∀ v ∈ r1, v < kd_K) (hv : v1 < v0) : kd_nu (v1 :: r1) < kd_nu (v0 :: r0) := by
  have h2 := kd_nu_lt r1 h1
  show v1 * kd_K ^ r1.length + kd_nu r1 < v0 * kd_K ^ r0.length + kd_nu r0
  rw [hl]
  have : (v1 + 1) * kd_K ^ r1.length ≤ v0 * kd_K ^ r1.length := Nat.mul_le_mul_right _ hv
  rw [Nat.add_mul, Nat.one_mul] at this
  omega
theorem kd_nu_snd {v : Nat} {r0 r1 : List Nat} (hl : r0.length = r1.length) (h : kd_nu r1 < kd_nu r0) : kd_nu (v :: r1) < kd_nu (v :: r0) := by
  show v * kd_K ^ r1.length + kd_nu r1 < v * kd_K ^ r0.length + kd_nu r0
  rw [hl]
  omega
/-- the number that a part of a measure is -/
def kd_cn (ρ : Nat → Nat) (w : kd_V) : Nat := if w.1 = 1 then ρ w.2.1 + w.2.2 - 2147483648 else w.2.1
def kd_cv (ρ : Nat → Nat) (q : Nat × kd_V) : Nat := if q.1 = 0 then 4294967295 - kd_cn ρ q.2 else kd_cn ρ q.2
def kd_mok (n : Nat) : List (Nat × kd_V) → Bool
  | [] => true
  | (_, (t, a, b)) :: r => (bif Nat.beq t 1 then Nat.beq b kd_B && Nat.blt a n else Nat.beq t 0 && (Nat.beq a b && Nat.ble a kd_M)) && kd_mok n r
/-- a value that is the number m -/
def kd_vm (n : Nat) (ρ : Nat → Nat) (iv : kd_I) (v : kd_V) (m : Nat) : Prop := (∀ k : Nat → Nat → Bool, kd_bd iv n v k = true → ∃ l h, l ≤ m ∧ m ≤ h ∧ k l h = true) ∧ (v.1 = 1 → m + 2147483648 = ρ v.2.1 + v.2.2) ∧ (v.1 = 0 → v.2.1 ≤ m ∧ m ≤ v.2.2)
section KDM3
variable {n : Nat} {ρ : Nat → Nat} {iv : kd_I}
theorem kd_vm_g (hb : kd_bx ρ iv n) {v : kd_V} {z : Int32} (hv : kd_g n ρ v (.inl z)) : kd_vm n ρ iv v (kd_nb z) := by
  refine ⟨fun k hk => ?_, fun e => ?_, fun e => ?_⟩
  · obtain ⟨a, l, u, e1, e2, e3, e4⟩ := kd_bd_r hk hb hv
    cases e1
    exact ⟨l, u, e2, e3, e4⟩
  · obtain ⟨t, a, b⟩ := v
    simp only at e
    subst e
    obtain ⟨-, y, e1, e2⟩ := hv
    cases e1
    exact e2
  · obtain ⟨t, a, b⟩ := v
    simp only at e
    subst e
    obtain ⟨y, e1, e2, e3⟩ := hv
    cases e1
    exact ⟨e2, e3⟩
theorem kd_vm_c {c : Nat} : kd_vm n ρ iv (0, c, c) c := ⟨fun k hk => ⟨c, c, Nat.le_refl _, Nat.le_refl _, hk⟩, fun e => (by cases e), fun _ => ⟨Nat.le_refl _, Nat.le_refl _⟩⟩
theorem kd_vm_v (hb : kd_bx ρ iv n) {j : Nat} : kd_vm n ρ iv (1, j, kd_B) (ρ j) := by
  refine ⟨fun k hk => ?_, fun _ => rfl, fun e => (by cases e)⟩
  have hk : (match kd_at iv n j with
    | some (l, h) => bif Nat.ble kd_B (l + kd_B) then wk_fN (l + kd_B - kd_B) fun l => wk_fN (h + kd_B - kd_B) fun h => k l h else false
    | none => false) = true := hk
  cases ha : kd_at iv n j with
  | none => rw [ha] at hk; cases hk
  | some q =>
    obtain ⟨l, h⟩ := q
    rw [ha] at hk
    obtain ⟨-, hk⟩ := kd_bt hk
    simp only [wk_fN_eq, Nat.add_sub_cancel] at hk
    obtain ⟨b1, b2⟩ := hb.2 _ _ _ ha
    exact ⟨l, h, b1, b2, hk⟩
theorem kd_ltv_r {v u : kd_V} {m0 m1 : Nat} (h : kd_ltv iv n v u = true) (h0 : kd_vm n ρ iv v m0) (h1 : kd_vm n ρ iv u m1) : m0 < m1 := by
  unfold kd_ltv at h
  rcases kd_bif h with ⟨c, h⟩ | ⟨-, h⟩
  · simp only [Bool.and_eq_true] at c
    have e1 := h0.2.1 (Nat.eq_of_beq_eq_true c.1)
    have e2 := h1.2.1 (Nat.eq_of_beq_eq_true c.2.1)
    have e3 := Nat.eq_of_beq_eq_true c.2.2
    have e4 := wk_blt h
    rw [e3] at e1
    omega
  · obtain ⟨l, u1, a1, a2, h⟩ := h0.1 _ h
    obtain ⟨l2, u2, a3, a4, h⟩ := h1.1 _ h
    have := wk_blt h
    omega
theorem kd_same_r {v u : kd_V} {m0 m1 : Nat} (hq : kd_qv v u = true) (hs : (Nat.beq v.1 1 || (Nat.beq v.1 0 && Nat.beq v.2.1 v.2.2)) = true) (h0 : kd_vm n ρ iv v m0) (h1 : kd_vm n ρ iv u m1) : m0 = m1 := by
  obtain rfl := kd_qv_r hq
  rw [Bool.or_eq_true] at hs
  rcases hs with hs | hs
  · have hs := Nat.eq_of_beq_eq_true hs
    have e1 := h0.2.1 hs
    have e2 := h1.2.1 hs
    omega
  · rw [Bool.and_eq_true] at hs
    have e0 := Nat.eq_of_beq_eq_true hs.1
    have e3 := Nat.eq_of_beq_eq_true hs.2
    have e1 := h0.2.2 e0
    have e2 := h1.2.2 e0
    omega
theorem kd_cn_le {σ : Nat → Nat} {n2 : Nat} {sub : List kd_V} (hJ : kd_jj n ρ sub σ) (hset : ∀ j, j < n2 → ∃ u, sub[j]? = some u ∧ ¬ u.1 = 9) : ∀ (mu : List (Nat × kd_V)), kd_mok n2 mu = true → ∀ q ∈ mu, kd_cn σ q.2 ≤ 4294967295
  | [], _, q, hq => by cases hq
  | (d0, t, a, b) :: r, h, q, hq => by
    have h : ((bif Nat.beq t 1 then Nat.beq b kd_B && Nat.blt a n2 else Nat.beq t 0 && (Nat.beq a b && Nat.ble a kd_M)) && kd_mok n2 r) = true := h
    rw [Bool.and_eq_true] at h
    rcases List.mem_cons.mp hq with rfl | hq
    · rcases kd_bif h.1 with ⟨c, h1⟩ | ⟨c, h1⟩
      · obtain rfl := Nat.eq_of_beq_eq_true c
        rw [Bool.and_eq_true] at h1
        have e1 := Nat.eq_of_beq_eq_true h1.1
        obtain ⟨u, s1, s2⟩ := hset a (wk_blt h1.2)
        obtain ⟨z, -, q2⟩ := hJ a u s1 s2
        have := kd_nb_M z
        have eB : kd_B = 2147483648 := rfl
        unfold kd_cn
        simp only [if_true]
        omega
      · simp only [Bool.and_eq_true] at h1
        have e1 := Nat.le_of_ble_eq_true h1.2.2
        have e0 := Nat.eq_of_beq_eq_true h1.1
        subst e0
        exact e1
    · exact kd_cn_le hJ hset r h.2 q hq
theorem kd_cv_K {σ : Nat → Nat} {q : Nat × kd_V} (h : kd_cn σ q.2 ≤ 4294967295) : kd_cv σ q < kd_K := by
  unfold kd_cv kd_K
  split <;> omega
theorem kd_lx_r (hb : kd_bx ρ iv n) {σ : Nat → Nat} {n2 : Nat} {sub : List kd_V} (hJ : kd_jj n ρ sub σ) (hset : ∀ j, j < n2 → ∃ u, sub[j]? = some u ∧ ¬ u.1 = 9) : ∀ (mu mu2 : List (Nat × kd_V)), kd_lx iv n sub mu mu2 = true → kd_mok n mu = true → kd_mok n2 mu2 = true → mu.length = mu2.length ∧ kd_nu (mu2.map (kd_cv σ)) < kd_nu (mu.map (kd_cv ρ))
  | [], _, h, _, _ => by cases h
  | _ :: _, [], h, _, _ => by cases h
  | (d0, v0) :: r0, (d1, w1) :: r1, h, hm0, hm1 => by
    have h : (Nat.beq d0 d1 && (bif (bif Nat.beq d0 0 then kd_ltv iv n v0 (kd_ins sub w1) else kd_ltv iv n (kd_ins sub w1) v0) then Nat.beq r0.length r1.length else bif kd_qv v0 (kd_ins sub w1) && (Nat.beq v0.1 1 || (Nat.beq v0.1 0 && Nat.beq v0.2.1 v0.2.2)) then kd_lx iv n sub r0 r1 else false)) = true := h
    rw [Bool.and_eq_true] at h
    obtain ⟨hd, hz⟩ := h
    obtain rfl := Nat.eq_of_beq_eq_true hd
    have eB : kd_B = 2147483648 := rfl
    have hm1all := kd_cn_le hJ hset _ hm1
    have tail : ∀ v ∈ r1.map (kd_cv σ), v < kd_K := fun v hv => by
      obtain ⟨q, q1, rfl⟩ := List.mem_map.mp hv
      exact kd_cv_K (hm1all q (List.mem_cons_of_mem _ q1))
    have hM := hm1all (d0, w1) List.mem_cons_self
    -- the numbers
    have vm0 : kd_vm n ρ iv v0 (kd_cn ρ v0) := by
      obtain ⟨t, a, b⟩ := v0
      have hm0 : ((bif Nat.beq t 1 then Nat.beq b kd_B && Nat.blt a n else Nat.beq t 0 && (Nat.beq a b && Nat.ble a kd_M)) && kd_mok n r0) = true := hm0
      rw [Bool.and_eq_true] at hm0
      rcases kd_bif hm0.1 with ⟨c, h1⟩ | ⟨c, h1⟩
      · obtain rfl := Nat.eq_of_beq_eq_true c
        rw [Bool.and_eq_true] at h1
        obtain rfl := Nat.eq_of_beq_eq_true h1.1
        have e : kd_cn ρ (1, a, kd_B) = ρ a := by
          unfold kd_cn
          simp only [if_true]
          omega
        rw [e]
        exact kd_vm_v hb
      · simp only [Bool.and_eq_true] at h1
        obtain rfl := Nat.eq_of_beq_eq_true h1.1
        obtain rfl := Nat.eq_of_beq_eq_true h1.2.1
        exact kd_vm_c
    have vm1 : kd_vm n ρ iv (kd_ins sub w1) (kd_cn σ w1) := by
      obtain ⟨t, a, b⟩ := w1
      have hm1 : ((bif Nat.beq t 1 then Nat.beq b kd_B && Nat.blt a n2 else Nat.beq t 0 && (Nat.beq a b && Nat.ble a kd_M)) && kd_mok n2 r1) = true := hm1
      rw [Bool.and_eq_true] at hm1
      rcases kd_bif hm1.1 with ⟨c, h1⟩ | ⟨c, h1⟩
      · obtain rfl := Nat.eq_of_beq_eq_true c
        rw [Bool.and_eq_true] at h1
        obtain rfl := Nat.eq_of_beq_eq_true h1.1
        obtain ⟨u, s1, s2⟩ := hset a (wk_blt h1.2)
        obtain ⟨z, q1, q2⟩ := hJ a u s1 s2
        have e : kd_cn σ (1, a, kd_B) = kd_nb z := by
          unfold kd_cn
          simp only [if_true]
          omega
        have e2 : kd_ins sub (1, a, kd_B) = u := by
          show (match wk_at sub a with
            | some u => u
            | none => (9, 0, 0)) = u
          rw [wk_at_eq, s1]
        rw [e, e2]
        exact kd_vm_g hb q1
      · simp only [Bool.and_eq_true] at h1
        obtain rfl := Nat.eq_of_beq_eq_true h1.1
        obtain rfl := Nat.eq_of_beq_eq_true h1.2.1
        exact kd_vm_c
    rcases kd_bif hz with ⟨hlt, hl⟩ | ⟨-, h2⟩
    · have hl := Nat.eq_of_beq_eq_true hl
      refine ⟨by simp [hl], ?_⟩
      show kd_nu (kd_cv σ (d0, w1) :: r1.map (kd_cv σ)) < kd_nu (kd_cv ρ (d0, v0) :: r0.map (kd_cv ρ))
      refine kd_nu_fst (by rw [List.length_map, List.length_map, hl]) tail ?_
      unfold kd_cv
      simp only
      rcases kd_bif hlt with ⟨c, q⟩ | ⟨c, q⟩
      · have c := Nat.eq_of_beq_eq_true c
        have := kd_ltv_r q vm0 vm1
        rw [if_pos c, if_pos c]
        simp only at hM
        omega
      · have c := kd_nbeq c
        have := kd_ltv_r q vm1 vm0
        rw [if_neg c, if_neg c]
        exact this
    · obtain ⟨c, h3⟩ := kd_bt h2
      rw [Bool.and_eq_true] at c
      have e := kd_same_r c.1 c.2 vm0 vm1
      have hm0' : kd_mok n r0 = true := by
        obtain ⟨t, a, b⟩ := v0
        have hm0 : ((bif Nat.beq t 1 then Nat.beq b kd_B && Nat.blt a n else Nat.beq t 0 && (Nat.beq a b && Nat.ble a kd_M)) && kd_mok n r0) = true := hm0
        rw [Bool.and_eq_true] at hm0
        exact hm0.2
      have hm1' : kd_mok n2 r1 = true := by
        obtain ⟨t, a, b⟩ := w1
        have hm1 : ((bif Nat.beq t 1 then Nat.beq b kd_B && Nat.blt a n2 else Nat.beq t 0 && (Nat.beq a b && Nat.ble a kd_M)) && kd_mok n2 r1) = true := hm1
        rw [Bool.and_eq_true] at hm1
        exact hm1.2
      obtain ⟨l1, l2⟩ := kd_lx_r hb hJ hset r0 r1 h3 hm0' hm1'
      refine ⟨by simp [l1], ?_⟩
      show kd_nu (kd_cv σ (d0, w1) :: r1.map (kd_cv σ)) < kd_nu (kd_cv ρ (d0, v0) :: r0.map (kd_cv ρ))
      have ecv : kd_cv σ (d0, w1) = kd_cv ρ (d0, v0) := by
        unfold kd_cv
        simp only
        rw [e]
      rw [ecv]
      exact kd_nu_snd (by rw [List.length_map, List.length_map, l1]) l2
end KDM3
