section
-- 62.kmean
/-! ===== what the second engine's values mean ===== -/
def kd_g (n : Nat) (ρ : Nat → Nat) (v : kd_V) (x : kc_V) : Prop := match v with
  | (0, lo, hi) => ∃ a : Int32, x = .inl a ∧ lo ≤ kd_nb a ∧ kd_nb a ≤ hi
  | (1, j, k) => j < n ∧ ∃ a : Int32, x = .inl a ∧ kd_nb a + 2147483648 = ρ j + k
  | (2, lo, hi) => ∃ a : Int64, x = .inr (.inl a) ∧ lo ≤ kd_nj a ∧ kd_nj a ≤ hi
  | (3, lo, hi) => ∃ k : Nat, x = .inr (.inr (.inl (some k))) ∧ lo ≤ k ∧ k ≤ hi
  | (5, _, _) => x = .inr (.inr (.inr 0))
  | (6, j, k) => j < n ∧ ∃ a : Int64, x = .inr (.inl a) ∧ a.toInt + 4294967296 = (ρ j : Int) + k
  | _ => True
def kd_ag (n : Nat) (ρ ρ' : Nat → Nat) : Prop := ∀ j, j < n → ρ' j = ρ j
def kd_bx (ρ : Nat → Nat) (iv : kd_I) (n : Nat) : Prop := iv.length = n ∧ ∀ j l h, kd_at iv n j = some (l, h) → l ≤ ρ j ∧ ρ j ≤ h
theorem kd_ag_rf {n : Nat} {ρ : Nat → Nat} : kd_ag n ρ ρ := fun _ _ => rfl
theorem kd_ag_tr {n n' : Nat} {ρ ρ' ρ'' : Nat → Nat} (h1 : kd_ag n ρ ρ') (h2 : kd_ag n' ρ' ρ'') (hn : n ≤ n') : kd_ag n ρ ρ'' := fun j hj => (h2 j (Nat.lt_of_lt_of_le hj hn)).trans (h1 j hj)
theorem kd_g_ag {n n' : Nat} {ρ ρ' : Nat → Nat} {v : kd_V} {x : kc_V} (h : kd_g n ρ v x) (ha : kd_ag n ρ ρ') (hn : n ≤ n') : kd_g n' ρ' v x := by
  obtain ⟨t, a, b⟩ := v
  match t, h with
  | 0, h => exact h
  | 1, h =>
    obtain ⟨h1, h2⟩ := h
    refine ⟨Nat.lt_of_lt_of_le h1 hn, ?_⟩
    rw [ha _ h1]
    exact h2
  | 2, h => exact h
  | 3, h => exact h
  | 4, _ => trivial
  | 5, h => exact h
  | 6, h =>
    obtain ⟨h1, h2⟩ := h
    refine ⟨Nat.lt_of_lt_of_le h1 hn, ?_⟩
    rw [ha _ h1]
    exact h2
  | _ + 7, _ => trivial
theorem kd_bt {b : Bool} {x : Bool} (h : (bif b then x else false) = true) : b = true ∧ x = true := by
  cases b
  · cases h
  · exact ⟨rfl, h⟩
section KDM
variable {n : Nat} {ρ : Nat → Nat} {iv : kd_I} {v w : kd_V} {x y : kc_V}
theorem kd_bd_r {k : Nat → Nat → Bool} (h : kd_bd iv n v k = true) (hb : kd_bx ρ iv n) (hv : kd_g n ρ v x) : ∃ (a : Int32) (l u : Nat), x = .inl a ∧ l ≤ kd_nb a ∧ kd_nb a ≤ u ∧ k l u = true := by
  obtain ⟨t, a, b⟩ := v
  unfold kd_bd at h
  simp only at h
  cases h0 : Nat.beq t 0 with
  | true =>
    rw [h0] at h
    obtain rfl := Nat.eq_of_beq_eq_true h0
    obtain ⟨z, h1, h2, h3⟩ := hv
    exact ⟨z, a, b, h1, h2, h3, h⟩
  | false =>
    rw [h0] at h
    simp only [cond_false] at h
    cases h1 : Nat.beq t 1 with
    | false => rw [h1] at h; cases h
    | true =>
      rw [h1] at h
      obtain rfl := Nat.eq_of_beq_eq_true h1
      simp only [cond_true] at h
      cases hat : kd_at iv n a with
      | none => rw [hat] at h; cases h
      | some q =>
        obtain ⟨l, u⟩ := q
        rw [hat] at h
        obtain ⟨g1, g2⟩ := kd_bt h
        simp only [wk_fN_eq] at g2
        have g1 := Nat.le_of_ble_eq_true g1
        obtain ⟨hj, z, e1, e2⟩ := hv
        obtain ⟨b1, b2⟩ := hb.2 _ _ _ hat
        unfold kd_B at g1 g2
        exact ⟨z, _, _, e1, by omega, by omega, g2⟩
theorem kd_bj_r {k : Nat → Nat → Bool} (h : kd_bj iv n v k = true) (hb : kd_bx ρ iv n) (hv : kd_g n ρ v x) : ∃ (a : Int64) (l u : Nat), x = .inr (.inl a) ∧ l ≤ kd_nj a ∧ kd_nj a ≤ u ∧ k l u = true := by
  obtain ⟨t, a, b⟩ := v
  unfold kd_bj at h
  simp only at h
  cases h0 : Nat.beq t 2 with
  | true =>
    rw [h0] at h
    obtain rfl := Nat.eq_of_beq_eq_true h0
    obtain ⟨z, h1, h2, h3⟩ := hv
    exact ⟨z, a, b, h1, h2, h3, h⟩
  | false =>
    rw [h0] at h
    simp only [cond_false] at h
    cases h1 : Nat.beq t 6 with
    | false => rw [h1] at h; cases h
    | true =>
      rw [h1] at h
      obtain rfl := Nat.eq_of_beq_eq_true h1
      simp only [cond_true] at h
      cases hat : kd_at iv n a with
      | none => rw [hat] at h; cases h
      | some q =>
        obtain ⟨l, u⟩ := q
        rw [hat] at h
        obtain ⟨g1, g2⟩ := kd_bt h
        simp only [wk_fN_eq] at g2
        obtain ⟨hj, z, e1, e2⟩ := hv
        obtain ⟨b1, b2⟩ := hb.2 _ _ _ hat
        have e3 := kd_nj_i z
        unfold kd_B kd_C at g2
        exact ⟨z, _, _, e1, by omega, by omega, g2⟩
theorem kd_le_r (h : kd_le iv n v w = true) (hb : kd_bx ρ iv n) (hv : kd_g n ρ v x) {n' : Nat} {ρ' : Nat → Nat} : kd_g n' ρ' w x := by
  obtain ⟨t, a, b⟩ := w
  unfold kd_le at h
  simp only at h
  cases h0 : Nat.beq t 0 with
  | true =>
    rw [h0] at h
    simp only [cond_true] at h
    obtain rfl := Nat.eq_of_beq_eq_true h0
    obtain ⟨z, l, u, e1, e2, e3, e4⟩ := kd_bd_r h hb hv
    rw [Bool.and_eq_true] at e4
    exact ⟨z, e1, Nat.le_trans (Nat.le_of_ble_eq_true e4.1) e2, Nat.le_trans e3 (Nat.le_of_ble_eq_true e4.2)⟩
  | false =>
    rw [h0] at h
    simp only [cond_false] at h
    cases h2 : Nat.beq t 2 with
    | true =>
      rw [h2] at h
      simp only [cond_true] at h
      obtain rfl := Nat.eq_of_beq_eq_true h2
      obtain ⟨z, l, u, e1, e2, e3, e4⟩ := kd_bj_r h hb hv
      rw [Bool.and_eq_true] at e4
      exact ⟨z, e1, Nat.le_trans (Nat.le_of_ble_eq_true e4.1) e2, Nat.le_trans e3 (Nat.le_of_ble_eq_true e4.2)⟩
    | false =>
      rw [h2] at h
      simp only [cond_false] at h
      cases h3 : Nat.beq t 3 with
      | true =>
        rw [h3] at h
        obtain rfl := Nat.eq_of_beq_eq_true h3
        obtain ⟨s, c, d⟩ := v
        simp only [cond_true, Bool.and_eq_true] at h
        obtain ⟨q1, q2, q3⟩ := h
        obtain rfl := Nat.eq_of_beq_eq_true q1
        obtain ⟨k, e1, e2, e3⟩ := hv
        exact ⟨k, e1, Nat.le_trans (Nat.le_of_ble_eq_true q2) e2, Nat.le_trans e3 (Nat.le_of_ble_eq_true q3)⟩
      | false =>
        rw [h3] at h
        simp only [cond_false] at h
        cases h5 : Nat.beq t 5 with
        | false => rw [h5] at h; cases h
        | true =>
          rw [h5] at h
          obtain rfl := Nat.eq_of_beq_eq_true h5
          obtain ⟨s, c, d⟩ := v
          simp only [cond_true] at h
          obtain rfl := Nat.eq_of_beq_eq_true h
          exact hv
/-- the box with one more variable -/
theorem kd_bx_new (hb : kd_bx ρ iv n) {a b z : Nat} (h1 : a ≤ z) (h2 : z ≤ b) : kd_ag n ρ (fun j => if j = n then z else ρ j) ∧ kd_bx (fun j => if j = n then z else ρ j) ((a, b) :: iv) (n + 1) := by
  refine ⟨fun j hj => if_neg (by omega), by simp [hb.1], fun j l u hat => ?_⟩
  unfold kd_at at hat
  cases hj : Nat.blt j (n + 1) with
  | false => rw [hj] at hat; cases hat
  | true =>
    rw [hj] at hat
    have hj := wk_blt hj
    simp only [cond_true] at hat
    by_cases e : j = n
    · subst e
      rw [show j + 1 - 1 - j = 0 by omega] at hat
      cases hat
      simp only [if_true]
      exact ⟨h1, h2⟩
    · rw [show n + 1 - 1 - j = (n - 1 - j) + 1 by omega] at hat
      simp only [if_neg e]
      refine hb.2 j l u ?_
      unfold kd_at
      rw [kc_blt (show j < n by omega)]
      exact hat
theorem kd_nm_r {k : kd_I → Nat → kd_V → Bool} (h : kd_nm iv n v k = true) (hb : kd_bx ρ iv n) (hv : kd_g n ρ v x) : ∃ (ρ' : Nat → Nat) (iv' : kd_I) (n' : Nat) (v' : kd_V), kd_ag n ρ ρ' ∧ n ≤ n' ∧ kd_bx ρ' iv' n' ∧ kd_g n' ρ' v' x ∧ k iv' n' v' = true := by
  obtain ⟨t, a, b⟩ := v
  unfold kd_nm at h
  simp only at h
  cases hc : Nat.beq t 0 && Nat.blt a b with
  | false =>
    rw [hc] at h
    exact ⟨ρ, iv, n, _, kd_ag_rf, Nat.le_refl _, hb, hv, h⟩
  | true =>
    rw [hc] at h
    rw [Bool.and_eq_true] at hc
    obtain rfl := Nat.eq_of_beq_eq_true hc.1
    simp only [cond_true, wk_fN_eq] at h
    obtain ⟨z, e1, e2, e3⟩ := hv
    obtain ⟨g1, g2⟩ := kd_bx_new hb e2 e3
    refine ⟨_, _, _, (1, n, kd_B), g1, Nat.le_succ _, g2, ⟨Nat.lt_succ_self _, z, e1, ?_⟩, h⟩
    simp only [if_true]
    rfl
/-- narrower bounds of one variable -/
theorem kd_bx_put (hb : kd_bx ρ iv n) {j lo hi : Nat} (hj : j < n) (h1 : lo ≤ ρ j) (h2 : ρ j ≤ hi) : kd_bx ρ (iv.set (n - 1 - j) (lo, hi)) n := by
  refine ⟨by rw [List.length_set]; exact hb.1, fun j2 l u hat => ?_⟩
  unfold kd_at at hat
  cases hj2 : Nat.blt j2 n with
  | false => rw [hj2] at hat; cases hat
  | true =>
    rw [hj2] at hat
    have hlt := wk_blt hj2
    simp only [cond_true] at hat
    rw [wk_at_eq, List.getElem?_set] at hat
    by_cases e : j2 = j
    · subst e
      rw [if_pos rfl, if_pos (by rw [hb.1]; omega)] at hat
      cases hat
      exact ⟨h1, h2⟩
    · rw [if_neg (by omega)] at hat
      refine hb.2 j2 l u ?_
      unfold kd_at
      rw [hj2, wk_at_eq]
      exact hat
theorem kd_rf_r {k : kd_I → Bool} {lo hi : Nat} {a : Int32} (h : kd_rf iv n v lo hi k = true) (hb : kd_bx ρ iv n) (hv : kd_g n ρ v (.inl a)) (h1 : lo ≤ kd_nb a) (h2 : kd_nb a ≤ hi) : ∃ iv', kd_bx ρ iv' n ∧ k iv' = true := by
  obtain ⟨t, j, o⟩ := v
  unfold kd_rf at h
  simp only at h
  cases hc : Nat.beq t 1 && Nat.blt j n with
  | false =>
    rw [hc] at h
    exact ⟨iv, hb, h⟩
  | true =>
    rw [hc] at h
    rw [Bool.and_eq_true] at hc
    obtain rfl := Nat.eq_of_beq_eq_true hc.1
    simp only [cond_true, wk_fN_eq, wk_put_eq] at h
    obtain ⟨hj, z, e1, e2⟩ := hv
    cases e1
    unfold kd_B at h
    exact ⟨_, kd_bx_put hb hj (by omega) (by omega), h⟩
theorem kd_rj_r {k : kd_I → Bool} {lo hi : Nat} {a : Int64} (h : kd_rj iv n v lo hi k = true) (hb : kd_bx ρ iv n) (hv : kd_g n ρ v (.inr (.inl a))) (h1 : lo ≤ kd_nj a) (h2 : kd_nj a ≤ hi) : ∃ iv', kd_bx ρ iv' n ∧ k iv' = true := by
  obtain ⟨t, j, o⟩ := v
  unfold kd_rj at h
  simp only at h
  cases hc : Nat.beq t 6 && (Nat.blt j n && Nat.ble (kd_C - kd_B) lo) with
  | false =>
    rw [hc] at h
    exact ⟨iv, hb, h⟩
  | true =>
    rw [hc] at h
    simp only [Bool.and_eq_true] at hc
    obtain ⟨c1, c2, c3⟩ := hc
    obtain rfl := Nat.eq_of_beq_eq_true c1
    have c3 := Nat.le_of_ble_eq_true c3
    simp only [cond_true, wk_fN_eq, wk_put_eq] at h
    obtain ⟨hj, z, e1, e2⟩ := hv
    cases e1
    have e3 := kd_nj_i a
    unfold kd_B kd_C at h c3
    exact ⟨_, kd_bx_put hb hj (by omega) (by omega), h⟩
end KDM
/-! comparisons -/
def kd_cc (c : Nat) (x y : Nat) : Bool := bif Nat.ble c 1 then (bif Nat.beq c 0 then decide (x = y) else !decide (x = y)) else bif Nat.ble c 3 then (bif Nat.beq c 2 then decide (x < y) else !decide (x < y)) else (bif Nat.beq c 4 then decide (y < x) else !decide (y < x))
theorem kd_mn_r (a b : Nat) : kd_mn a b = min a b := by
  unfold kd_mn
  cases h : Nat.ble a b with
  | true => have := Nat.le_of_ble_eq_true h; simp only [cond_true]; omega
  | false => have := Nat.not_le.mp (fun q => Bool.false_ne_true (h.symm.trans (Nat.ble_eq_true_of_le q))); simp only [cond_false]; omega
theorem kd_mx_r (a b : Nat) : kd_mx a b = max a b := by
  unfold kd_mx
  cases h : Nat.ble a b with
  | true => have := Nat.le_of_ble_eq_true h; simp only [cond_true]; omega
  | false => have := Nat.not_le.mp (fun q => Bool.false_ne_true (h.symm.trans (Nat.ble_eq_true_of_le q))); simp only [cond_false]; omega
theorem kd_nble {a b : Nat} (h : Nat.ble a b = false) : b < a := Nat.not_le.mp (fun q => Bool.false_ne_true (h.symm.trans (Nat.ble_eq_true_of_le q)))
theorem kd_nbeq {a b : Nat} (h : Nat.beq a b = false) : a ≠ b := fun e => by
  subst e
  rw [kc_beq] at h
  cases h
abbrev kd_in4 (x y : Nat) (k : kd_4) : Prop := ∃ a b c d, a ≤ x ∧ x ≤ b ∧ c ≤ y ∧ y ≤ d ∧ k a b c d = true
theorem kd_clt_r {l1 h1 l2 h2 x y : Nat} {kt kf : kd_4} (h : kd_clt l1 h1 l2 h2 kt kf = true) (a1 : l1 ≤ x) (a2 : x ≤ h1) (b1 : l2 ≤ y) (b2 : y ≤ h2) : if x < y then kd_in4 x y kt else kd_in4 x y kf := by
  unfold kd_clt at h
  cases c1 : Nat.blt h1 l2 with
  | true =>
    rw [c1] at h
    have := wk_blt c1
    rw [if_pos (by omega)]
    exact ⟨_, _, _, _, a1, a2, b1, b2, h⟩
  | false =>
    rw [c1] at h
    simp only [cond_false] at h
    cases c2 : Nat.ble h2 l1 with
    | true =>
      rw [c2] at h
      have := Nat.le_of_ble_eq_true c2
      rw [if_neg (by omega)]
      exact ⟨_, _, _, _, a1, a2, b1, b2, h⟩
    | false =>
      rw [c2] at h
      simp only [cond_false, Bool.and_eq_true, kd_mn_r, kd_mx_r] at h
      by_cases hc : x < y
      · rw [if_pos hc]
        exact ⟨_, _, _, _, a1, by omega, by omega, b2, h.1⟩
      · rw [if_neg hc]
        exact ⟨_, _, _, _, by omega, a2, b1, by omega, h.2⟩
theorem kd_ceq_r {l1 h1 l2 h2 x y : Nat} {kt kf : kd_4} (h : kd_ceq l1 h1 l2 h2 kt kf = true) (a1 : l1 ≤ x) (a2 : x ≤ h1) (b1 : l2 ≤ y) (b2 : y ≤ h2) : if x = y then kd_in4 x y kt else kd_in4 x y kf := by
  unfold kd_ceq at h
  cases c1 : Nat.beq l1 h1 && (Nat.beq l2 h2 && Nat.beq l1 l2) with
  | true =>
    rw [c1] at h
    simp only [Bool.and_eq_true] at c1
    have e1 := Nat.eq_of_beq_eq_true c1.1
    have e2 := Nat.eq_of_beq_eq_true c1.2.1
    have e3 := Nat.eq_of_beq_eq_true c1.2.2
    rw [if_pos (by omega)]
    exact ⟨_, _, _, _, a1, a2, b1, b2, h⟩
  | false =>
    rw [c1] at h
    simp only [cond_false] at h
    cases c2 : Nat.blt h1 l2 || Nat.blt h2 l1 with
    | true =>
      rw [c2] at h
      rw [Bool.or_eq_true] at c2
      have : ¬ x = y := by
        rcases c2 with c2 | c2
        · have := wk_blt c2; omega
        · have := wk_blt c2; omega
      rw [if_neg this]
      exact ⟨_, _, _, _, a1, a2, b1, b2, h⟩
    | false =>
      rw [c2] at h
      simp only [cond_false, Bool.and_eq_true, kd_mn_r, kd_mx_r] at h
      obtain ⟨ht, hf⟩ := h
      by_cases hc : x = y
      · rw [if_pos hc]
        exact ⟨_, _, _, _, by omega, by omega, by omega, by omega, ht⟩
      · rw [if_neg hc]
        cases d1 : Nat.beq l2 h2 with
        | true =>
          rw [d1] at hf
          have e1 := Nat.eq_of_beq_eq_true d1
          simp only [cond_true] at hf
          cases d2 : Nat.beq l1 l2 with
          | true =>
            rw [d2] at hf
            have e2 := Nat.eq_of_beq_eq_true d2
            exact ⟨_, _, _, _, by omega, a2, b1, b2, hf⟩
          | false =>
            rw [d2] at hf
            simp only [cond_false] at hf
            cases d3 : Nat.beq h1 l2 with
            | true =>
              rw [d3] at hf
              have e2 := Nat.eq_of_beq_eq_true d3
              exact ⟨_, _, _, _, a1, by omega, b1, b2, hf⟩
            | false =>
              rw [d3] at hf
              exact ⟨_, _, _, _, a1, a2, b1, b2, hf⟩
        | false =>
          rw [d1] at hf
          simp only [cond_false] at hf
          cases d0 : Nat.beq l1 h1 with
          | true =>
            rw [d0] at hf
            have e1 := Nat.eq_of_beq_eq_true d0
            simp only [cond_true] at hf
            cases d2 : Nat.beq l2 l1 with
            | true =>
              rw [d2] at hf
              have e2 := Nat.eq_of_beq_eq_true d2
              exact ⟨_, _, _, _, a1, a2, by omega, b2, hf⟩
            | false =>
              rw [d2] at hf
              simp only [cond_false] at hf
              cases d3 : Nat.beq h2 l1 with
              | true =>
                rw [d3] at hf
                have e2 := Nat.eq_of_beq_eq_true d3
                exact ⟨_, _, _, _, a1, a2, b1, by omega, hf⟩
              | false =>
                rw [d3] at hf
                exact ⟨_, _, _, _, a1, a2, b1, b2, hf⟩
          | false =>
            rw [d0] at hf
            exact ⟨_, _, _, _, a1, a2, b1, b2, hf⟩
theorem kd_in4_sw {x y : Nat} {k : kd_4} (h : kd_in4 y x (fun a b c d => k c d a b)) : kd_in4 x y k := by
  obtain ⟨a, b, c, d, h1, h2, h3, h4, h5⟩ := h
  exact ⟨c, d, a, b, h3, h4, h1, h2, h5⟩
theorem kd_cmp_r {c l1 h1 l2 h2 x y : Nat} {kt kf : kd_4} (h : kd_cmp c l1 h1 l2 h2 kt kf = true) (a1 : l1 ≤ x) (a2 : x ≤ h1) (b1 : l2 ≤ y) (b2 : y ≤ h2) : if kd_cc c x y then kd_in4 x y kt else kd_in4 x y kf := by
  unfold kd_cmp at h
  unfold kd_cc
  cases c1 : Nat.ble c 1 with
  | true =>
    rw [c1] at h
    simp only [cond_true] at h ⊢
    cases c2 : Nat.beq c 0 with
    | true =>
      rw [c2] at h
      have := kd_ceq_r h a1 a2 b1 b2
      simpa using this
    | false =>
      rw [c2] at h
      have := kd_ceq_r h a1 a2 b1 b2
      by_cases e : x = y
      · rw [if_pos e] at this
        simpa [e] using this
      · rw [if_neg e] at this
        simpa [e] using this
  | false =>
    rw [c1] at h
    simp only [cond_false] at h ⊢
    cases c2 : Nat.ble c 3 with
    | true =>
      rw [c2] at h
      simp only [cond_true] at h ⊢
      cases c3 : Nat.beq c 2 with
      | true =>
        rw [c3] at h
        have := kd_clt_r h a1 a2 b1 b2
        simpa using this
      | false =>
        rw [c3] at h
        have := kd_clt_r h a1 a2 b1 b2
        by_cases e : x < y
        · rw [if_pos e] at this
          simp only [cond_false, e, decide_true, Bool.not_true, Bool.false_eq_true, if_false]
          exact this
        · rw [if_neg e] at this
          simp only [cond_false, e, decide_false, Bool.not_false, if_true]
          exact this
    | false =>
      rw [c2] at h
      simp only [cond_false] at h ⊢
      cases c3 : Nat.beq c 4 with
      | true =>
        rw [c3] at h
        simp only [cond_true, cond_false] at h
        have := kd_clt_r h b1 b2 a1 a2
        by_cases e : y < x
        · rw [if_pos e] at this
          simp only [cond_true, e, decide_true, if_true]
          exact kd_in4_sw this
        · rw [if_neg e] at this
          simp only [cond_true, e, decide_false, Bool.false_eq_true, if_false]
          exact kd_in4_sw this
      | false =>
        rw [c3] at h
        simp only [cond_true, cond_false] at h
        have := kd_clt_r h b1 b2 a1 a2
        by_cases e : y < x
        · rw [if_pos e] at this
          simp only [cond_false, e, decide_true, Bool.not_true, Bool.false_eq_true, if_false]
          exact kd_in4_sw this
        · rw [if_neg e] at this
          simp only [cond_false, e, decide_false, Bool.not_false, if_true]
          exact kd_in4_sw this
section KDM2
variable {n : Nat} {ρ : Nat → Nat} {iv : kd_I} {v w : kd_V} {x y : kc_V}
theorem kd_br_r {c : Nat} {kt kf : kd_I → Bool} (h : kd_br c iv n v w kt kf = true) (hb : kd_bx ρ iv n) (hv : kd_g n ρ v x) (hw : kd_g n ρ w y) : ∃ a b : Int32, x = .inl a ∧ y = .inl b ∧ ∃ iv', kd_bx ρ iv' n ∧ (if kd_cc c (kd_nb a) (kd_nb b) then kt iv' else kf iv') = true := by
  unfold kd_br at h
  obtain ⟨a, l1, u1, rfl, a1, a2, h⟩ := kd_bd_r h hb hv
  obtain ⟨b, l2, u2, rfl, b1, b2, h⟩ := kd_bd_r h hb hw
  refine ⟨a, b, rfl, rfl, ?_⟩
  have hc := kd_cmp_r h a1 a2 b1 b2
  cases e : kd_cc c (kd_nb a) (kd_nb b) with
  | true =>
    rw [e] at hc
    simp only [if_true] at hc ⊢
    obtain ⟨p, q, r, s, g1, g2, g3, g4, g5⟩ := hc
    obtain ⟨iv1, i1, g5⟩ := kd_rf_r g5 hb hv g1 g2
    exact kd_rf_r g5 i1 hw g3 g4
  | false =>
    rw [e] at hc
    simp only [Bool.false_eq_true, if_false] at hc ⊢
    obtain ⟨p, q, r, s, g1, g2, g3, g4, g5⟩ := hc
    obtain ⟨iv1, i1, g5⟩ := kd_rf_r g5 hb hv g1 g2
    exact kd_rf_r g5 i1 hw g3 g4
theorem kd_brj_r {c : Nat} {kt kf : kd_I → Bool} (h : kd_brj c iv n v w kt kf = true) (hb : kd_bx ρ iv n) (hv : kd_g n ρ v x) (hw : kd_g n ρ w y) : ∃ a b : Int64, x = .inr (.inl a) ∧ y = .inr (.inl b) ∧ ∃ iv', kd_bx ρ iv' n ∧ (if kd_cc c (kd_nj a) (kd_nj b) then kt iv' else kf iv') = true := by
  unfold kd_brj at h
  obtain ⟨a, l1, u1, rfl, a1, a2, h⟩ := kd_bj_r h hb hv
  obtain ⟨b, l2, u2, rfl, b1, b2, h⟩ := kd_bj_r h hb hw
  refine ⟨a, b, rfl, rfl, ?_⟩
  have hc := kd_cmp_r h a1 a2 b1 b2
  cases e : kd_cc c (kd_nj a) (kd_nj b) with
  | true =>
    rw [e] at hc
    simp only [if_true] at hc ⊢
    obtain ⟨p, q, r, s, g1, g2, g3, g4, g5⟩ := hc
    obtain ⟨iv1, i1, g5⟩ := kd_rj_r g5 hb hv g1 g2
    exact kd_rj_r g5 i1 hw g3 g4
  | false =>
    rw [e] at hc
    simp only [Bool.false_eq_true, if_false] at hc ⊢
    obtain ⟨p, q, r, s, g1, g2, g3, g4, g5⟩ := hc
    obtain ⟨iv1, i1, g5⟩ := kd_rj_r g5 hb hv g1 g2
    exact kd_rj_r g5 i1 hw g3 g4
theorem kd_each_r {f : Nat → Bool} : ∀ (m a : Nat), kd_each f m a = true → ∀ z, a ≤ z → z < a + m → f z = true
  | 0, a, _, z, h1, h2 => by omega
  | m + 1, a, h, z, h1, h2 => by
    have h : (f a && wk_fN (a + 1) fun a => kd_each f m a) = true := h
    rw [wk_fN_eq, Bool.and_eq_true] at h
    by_cases e : z = a
    · subst e
      exact h.1
    · exact kd_each_r m (a + 1) h.2 z (by omega) (by omega)
theorem kd_cut_r {few : Nat} {k : kd_I → Bool} (h : kd_cut few iv n v k = true) (hb : kd_bx ρ iv n) : ∃ iv', kd_bx ρ iv' n ∧ k iv' = true := by
  obtain ⟨t, j, o⟩ := v
  unfold kd_cut at h
  simp only at h
  cases h1 : Nat.beq t 1 with
  | false =>
    rw [h1] at h
    exact ⟨iv, hb, h⟩
  | true =>
    rw [h1] at h
    simp only [cond_true] at h
    cases hat : kd_at iv n j with
    | none => rw [hat] at h; cases h
    | some q =>
      obtain ⟨l, u⟩ := q
      rw [hat] at h
      simp only at h
      cases hc : Nat.blt l u && Nat.blt (u - l) few with
      | false =>
        rw [hc] at h
        exact ⟨iv, hb, h⟩
      | true =>
        rw [hc] at h
        rw [Bool.and_eq_true] at hc
        have c1 := wk_blt hc.1
        obtain ⟨b1, b2⟩ := hb.2 _ _ _ hat
        have hj : j < n := by
          unfold kd_at at hat
          cases hj : Nat.blt j n with
          | false => rw [hj] at hat; cases hat
          | true => exact wk_blt hj
        have := kd_each_r _ _ h (ρ j) b1 (by omega)
        rw [wk_put_eq] at this
        exact ⟨_, kd_bx_put hb hj (Nat.le_refl _) (Nat.le_refl _), this⟩
end KDM2
end
section
-- 63.karith
/-! ===== the second engine's arithmetic is right ===== -/
abbrev kd_rs (n : Nat) (ρ : Nat → Nat) (x : kc_V) (k : kd_V → Bool) : Prop := ∃ u, kd_g n ρ u x ∧ k u = true
theorem kd_bif {c A B : Bool} (h : (bif c then A else B) = true) : (c = true ∧ A = true) ∨ (c = false ∧ B = true) := by
  cases c
  · exact Or.inr ⟨rfl, h⟩
  · exact Or.inl ⟨rfl, h⟩
theorem kd_cf {A B : Bool} (h : (bif false then A else B) = true) : B = true := h
theorem kd_ct {A B : Bool} (h : (bif true then A else B) = true) : A = true := h
section KDA
variable {n : Nat} {ρ : Nat → Nat} {iv : kd_I} {v w : kd_V} {x y : kc_V} {a b : Int32} {l1 h1 l2 h2 : Nat} {k : kd_V → Bool}
theorem kd_top_r {x : Int32} (h : k kd_tI = true) : kd_rs n ρ (.inl x) k := ⟨kd_tI, ⟨x, rfl, Nat.zero_le _, kd_nb_M x⟩, h⟩
theorem kd_topj_r {x : Int64} (h : k kd_tJ = true) : kd_rs n ρ (.inr (.inl x)) k := ⟨kd_tJ, ⟨x, rfl, Nat.zero_le _, kd_nj_J x⟩, h⟩
theorem kd_fit_r {x : Int32} {lo hi : Nat} (h : kd_fit lo hi k = true) (g1 : lo ≤ kd_nb x) (g2 : kd_nb x ≤ hi) : kd_rs n ρ (.inl x) k := by
  unfold kd_fit at h
  simp only [wk_fN_eq] at h
  exact ⟨(0, lo, hi), ⟨x, rfl, g1, g2⟩, h⟩
theorem kd_1_r {G : Int32 → Int32 → Int32} (h : kd_1 G l1 l2 k = true) (e1 : kd_nb a = l1) (e2 : kd_nb b = l2) : kd_rs n ρ (.inl (G a b)) k := by
  unfold kd_1 at h
  rw [kd_ofN_r e1, kd_ofN_r e2, wk_fN_eq] at h
  exact ⟨(0, kd_nb (G a b), kd_nb (G a b)), ⟨_, rfl, Nat.le_refl _, Nat.le_refl _⟩, h⟩
theorem kd_one_r (h : kd_one l1 h1 l2 h2 = true) (a1 : l1 ≤ kd_nb a) (a2 : kd_nb a ≤ h1) (b1 : l2 ≤ kd_nb b) (b2 : kd_nb b ≤ h2) : kd_nb a = l1 ∧ kd_nb b = l2 := by
  unfold kd_one at h
  rw [Bool.and_eq_true] at h
  have e1 := Nat.eq_of_beq_eq_true h.1
  have e2 := Nat.eq_of_beq_eq_true h.2
  omega
theorem kd_b2_r {f : Nat → Nat → Nat → Nat → (kd_V → Bool) → Bool} (h : kd_b2 iv n v w f k = true) (hb : kd_bx ρ iv n) (hv : kd_g n ρ v x) (hw : kd_g n ρ w y) : ∃ (a b : Int32) (l1 h1 l2 h2 : Nat), x = .inl a ∧ y = .inl b ∧ l1 ≤ kd_nb a ∧ kd_nb a ≤ h1 ∧ l2 ≤ kd_nb b ∧ kd_nb b ≤ h2 ∧ f l1 h1 l2 h2 k = true := by
  unfold kd_b2 at h
  obtain ⟨a, l1, u1, rfl, a1, a2, h⟩ := kd_bd_r h hb hv
  obtain ⟨b, l2, u2, rfl, b1, b2, h⟩ := kd_bd_r h hb hw
  exact ⟨a, b, l1, u1, l2, u2, rfl, rfl, a1, a2, b1, b2, h⟩
theorem kd_nb_add (h1 : 2147483648 ≤ kd_nb a + kd_nb b) (h2 : kd_nb a + kd_nb b ≤ 4294967295 + 2147483648) : kd_nb (a + b) + 2147483648 = kd_nb a + kd_nb b := by
  have ea := kd_nb_i a
  have eb := kd_nb_i b
  have e := kd_nb_i (a + b)
  rw [kd_add_i (by omega) (by omega)] at e
  omega
theorem kd_nb_sub (h1 : kd_nb b ≤ kd_nb a + 2147483648) (h2 : kd_nb a + 2147483648 ≤ 4294967295 + kd_nb b) : kd_nb (a - b) + kd_nb b = kd_nb a + 2147483648 := by
  have ea := kd_nb_i a
  have eb := kd_nb_i b
  have e := kd_nb_i (a - b)
  rw [kd_sub_i (by omega) (by omega)] at e
  omega
theorem kd_var {v : kd_V} {a : Int32} (h : Nat.beq v.1 1 = true) (hv : kd_g n ρ v (.inl a)) : v.2.1 < n ∧ kd_nb a + 2147483648 = ρ v.2.1 + v.2.2 := by
  obtain ⟨t, j, o⟩ := v
  obtain rfl := Nat.eq_of_beq_eq_true h
  obtain ⟨h1, z, h2, h3⟩ := hv
  cases h2
  exact ⟨h1, h3⟩
theorem kd_add_r (h : kd_add iv n v w k = true) (hb : kd_bx ρ iv n) (hv : kd_g n ρ v x) (hw : kd_g n ρ w y) : ∃ a b : Int32, x = .inl a ∧ y = .inl b ∧ kd_rs n ρ (.inl (a + b)) k := by
  unfold kd_add kd_fit2 at h
  generalize hB : kd_B = B at h
  generalize hM : kd_M = MM at h
  generalize hC : kd_C = CC at h
  have eB : B = 2147483648 := hB.symm
  have eM : MM = 4294967295 := hM.symm
  have eC : CC = 9223372036854775808 := hC.symm
  obtain ⟨a, l1, u1, rfl, a1, a2, h⟩ := kd_bd_r h hb hv
  obtain ⟨b, l2, u2, rfl, b1, b2, h⟩ := kd_bd_r h hb hw
  refine ⟨a, b, rfl, rfl, ?_⟩
  cases c1 : Nat.beq l2 u2 && Nat.beq v.1 1 with
  | true =>
    rw [c1] at h
    rw [Bool.and_eq_true] at c1
    have e2 := Nat.eq_of_beq_eq_true c1.1
    obtain ⟨hj, ej⟩ := kd_var c1.2 hv
    (try simp only [cond_true] at h)
    cases c2 : Nat.ble B (l1 + l2) && (Nat.ble (u1 + l2) (MM + B) && Nat.ble B (v.2.2 + l2)) with
    | false => rw [c2] at h; exact kd_top_r (kd_cf h)
    | true =>
      rw [c2] at h
      simp only [Bool.and_eq_true] at c2
      have d1 := Nat.le_of_ble_eq_true c2.1
      have d2 := Nat.le_of_ble_eq_true c2.2.1
      have d3 := Nat.le_of_ble_eq_true c2.2.2
      simp only [cond_true, wk_fN_eq] at h
      have := kd_nb_add (a := a) (b := b) (by omega) (by omega)
      exact ⟨(1, v.2.1, v.2.2 + l2 - B), ⟨hj, _, rfl, by omega⟩, h⟩
  | false =>
    rw [c1] at h
    simp only [cond_false] at h
    cases c3 : Nat.beq l1 u1 && Nat.beq w.1 1 with
    | true =>
      rw [c3] at h
      rw [Bool.and_eq_true] at c3
      have e2 := Nat.eq_of_beq_eq_true c3.1
      obtain ⟨hj, ej⟩ := kd_var c3.2 hw
      (try simp only [cond_true] at h)
      cases c2 : Nat.ble B (l2 + l1) && (Nat.ble (u2 + l1) (MM + B) && Nat.ble B (w.2.2 + l1)) with
      | false => rw [c2] at h; exact kd_top_r (kd_cf h)
      | true =>
        rw [c2] at h
        simp only [Bool.and_eq_true] at c2
        have d1 := Nat.le_of_ble_eq_true c2.1
        have d2 := Nat.le_of_ble_eq_true c2.2.1
        have d3 := Nat.le_of_ble_eq_true c2.2.2
        simp only [cond_true, wk_fN_eq] at h
        have := kd_nb_add (a := a) (b := b) (by omega) (by omega)
        exact ⟨(1, w.2.1, w.2.2 + l1 - B), ⟨hj, _, rfl, by omega⟩, h⟩
    | false =>
      rw [c3] at h
      simp only [cond_false] at h
      cases c2 : Nat.ble B (l1 + l2) && Nat.ble (u1 + u2) (MM + B) with
      | false => rw [c2] at h; exact kd_top_r (kd_cf h)
      | true =>
        rw [c2] at h
        simp only [Bool.and_eq_true] at c2
        have d1 := Nat.le_of_ble_eq_true c2.1
        have d2 := Nat.le_of_ble_eq_true c2.2
        have := kd_nb_add (a := a) (b := b) (by omega) (by omega)
        (try replace h := kd_ct h)
        exact kd_fit_r h (by omega) (by omega)
theorem kd_sub_r (h : kd_sub iv n v w k = true) (hb : kd_bx ρ iv n) (hv : kd_g n ρ v x) (hw : kd_g n ρ w y) : ∃ a b : Int32, x = .inl a ∧ y = .inl b ∧ kd_rs n ρ (.inl (a - b)) k := by
  unfold kd_sub at h
  generalize hB : kd_B = B at h
  generalize hM : kd_M = MM at h
  generalize hC : kd_C = CC at h
  have eB : B = 2147483648 := hB.symm
  have eM : MM = 4294967295 := hM.symm
  have eC : CC = 9223372036854775808 := hC.symm
  obtain ⟨a, l1, u1, rfl, a1, a2, h⟩ := kd_bd_r h hb hv
  obtain ⟨b, l2, u2, rfl, b1, b2, h⟩ := kd_bd_r h hb hw
  refine ⟨a, b, rfl, rfl, ?_⟩
  cases c1 : Nat.beq l2 u2 && Nat.beq v.1 1 with
  | true =>
    rw [c1] at h
    rw [Bool.and_eq_true] at c1
    have e2 := Nat.eq_of_beq_eq_true c1.1
    obtain ⟨hj, ej⟩ := kd_var c1.2 hv
    (try simp only [cond_true] at h)
    cases c2 : Nat.ble l2 (l1 + B) && (Nat.ble (u1 + B) (MM + l2) && Nat.ble l2 (v.2.2 + B)) with
    | false => rw [c2] at h; exact kd_top_r (kd_cf h)
    | true =>
      rw [c2] at h
      simp only [Bool.and_eq_true] at c2
      have d1 := Nat.le_of_ble_eq_true c2.1
      have d2 := Nat.le_of_ble_eq_true c2.2.1
      have d3 := Nat.le_of_ble_eq_true c2.2.2
      simp only [cond_true, wk_fN_eq] at h
      have := kd_nb_sub (a := a) (b := b) (by omega) (by omega)
      exact ⟨(1, v.2.1, v.2.2 + B - l2), ⟨hj, _, rfl, by omega⟩, h⟩
  | false =>
    rw [c1] at h
    simp only [cond_false] at h
    cases c2 : Nat.ble u2 (l1 + B) && Nat.ble (u1 + B) (MM + l2) with
    | false => rw [c2] at h; exact kd_top_r (kd_cf h)
    | true =>
      rw [c2] at h
      simp only [Bool.and_eq_true] at c2
      have d1 := Nat.le_of_ble_eq_true c2.1
      have d2 := Nat.le_of_ble_eq_true c2.2
      have := kd_nb_sub (a := a) (b := b) (by omega) (by omega)
      (try replace h := kd_ct h)
      exact kd_fit_r h (by omega) (by omega)
theorem kd_pos_r {l : Nat} (h : kd_pos l = true) : 2147483648 ≤ l := Nat.le_of_ble_eq_true h
theorem kd_mul_r (h : kd_mul l1 h1 l2 h2 k = true) (a1 : l1 ≤ kd_nb a) (a2 : kd_nb a ≤ h1) (b1 : l2 ≤ kd_nb b) (b2 : kd_nb b ≤ h2) : kd_rs n ρ (.inl (a * b)) k := by
  unfold kd_mul at h
  generalize hB : kd_B = B at h
  have eB : B = 2147483648 := hB.symm
  rcases kd_bif h with ⟨c1, h⟩ | ⟨c1, h⟩
  · rw [Bool.and_eq_true] at c1
    have d1 := kd_pos_r c1.1
    have d2 := kd_pos_r c1.2
    rcases kd_bif h with ⟨c2, h⟩ | ⟨c2, h⟩
    · have d3 := Nat.le_of_ble_eq_true c2
      obtain ⟨p, hp⟩ : ∃ p : Nat, kd_nb a = p + B := ⟨kd_nb a - B, by omega⟩
      obtain ⟨q, hq⟩ : ∃ q : Nat, kd_nb b = q + B := ⟨kd_nb b - B, by omega⟩
      have ea := kd_nb_i a
      have eb := kd_nb_i b
      have e := kd_nb_i (a * b)
      have xa : a.toInt = (p : Int) := by omega
      have xb : b.toInt = (q : Int) := by omega
      have m1 : p * q ≤ (h1 - B) * (h2 - B) := Nat.mul_le_mul (by omega) (by omega)
      have m2 : (l1 - B) * (l2 - B) ≤ p * q := Nat.mul_le_mul (by omega) (by omega)
      have hmul : (a * b).toInt = ((p * q : Nat) : Int) := by
        rw [kd_mul_i (by rw [xa, xb, ← Int.natCast_mul]; omega) (by rw [xa, xb, ← Int.natCast_mul]; omega), xa, xb, Int.natCast_mul]
      rw [hmul] at e
      exact kd_fit_r h (by omega) (by omega)
    · exact kd_top_r h
  · rcases kd_bif h with ⟨c2, h⟩ | ⟨c2, h⟩
    · obtain ⟨e1, e2⟩ := kd_one_r c2 a1 a2 b1 b2
      exact kd_1_r (G := fun a b => a * b) h e1 e2
    · exact kd_top_r h
theorem kd_and_r (h : kd_and l1 h1 l2 h2 k = true) (a1 : l1 ≤ kd_nb a) (a2 : kd_nb a ≤ h1) (b1 : l2 ≤ kd_nb b) (b2 : kd_nb b ≤ h2) : kd_rs n ρ (.inl (a &&& b)) k := by
  unfold kd_and at h
  generalize hB : kd_B = B at h
  generalize hM : kd_M = MM at h
  generalize hC : kd_C = CC at h
  have eB : B = 2147483648 := hB.symm
  have eM : MM = 4294967295 := hM.symm
  have eC : CC = 9223372036854775808 := hC.symm
  have ea := kd_nb_i a
  have eb := kd_nb_i b
  have e := kd_nb_i (a &&& b)
  cases c1 : kd_one l1 h1 l2 h2 with
  | true =>
    rw [c1] at h
    simp only [cond_true] at h
    obtain ⟨e1, e2⟩ := kd_one_r c1 a1 a2 b1 b2
    exact kd_1_r (G := fun a b => a &&& b) h e1 e2
  | false =>
    rw [c1] at h
    simp only [cond_false] at h
    cases c2 : kd_pos l2 with
    | true =>
      rw [c2] at h
      have d1 := kd_pos_r c2
      have := kd_and_i (x := a) (y := b) (by omega)
      exact ⟨(0, B, h2), ⟨_, rfl, by omega, by omega⟩, h⟩
    | false =>
      rw [c2] at h
      simp only [cond_false] at h
      cases c3 : kd_pos l1 with
      | true =>
        rw [c3] at h
        have d1 := kd_pos_r c3
        have := kd_and_i2 (x := a) (y := b) (by omega)
        exact ⟨(0, B, h1), ⟨_, rfl, by omega, by omega⟩, h⟩
      | false => rw [c3] at h; exact kd_top_r (kd_cf h)
theorem kd_or_r (h : kd_or l1 h1 l2 h2 k = true) (a1 : l1 ≤ kd_nb a) (a2 : kd_nb a ≤ h1) (b1 : l2 ≤ kd_nb b) (b2 : kd_nb b ≤ h2) : kd_rs n ρ (.inl (a ||| b)) k := by
  unfold kd_or at h
  generalize hB : kd_B = B at h
  generalize hM : kd_M = MM at h
  generalize hC : kd_C = CC at h
  have eB : B = 2147483648 := hB.symm
  have eM : MM = 4294967295 := hM.symm
  have eC : CC = 9223372036854775808 := hC.symm
  have ea := kd_nb_i a
  have eb := kd_nb_i b
  have e := kd_nb_i (a ||| b)
  cases c1 : kd_one l1 h1 l2 h2 with
  | true =>
    rw [c1] at h
    simp only [cond_true] at h
    obtain ⟨e1, e2⟩ := kd_one_r c1 a1 a2 b1 b2
    exact kd_1_r (G := fun a b => a ||| b) h e1 e2
  | false =>
    rw [c1] at h
    simp only [cond_false] at h
    cases c2 : kd_pos l1 && (kd_pos l2 && Nat.ble (kd_pw (kd_mx (h1 - B) (h2 - B))) 2147483647) with
    | false => rw [c2] at h; exact kd_top_r (kd_cf h)
    | true =>
      rw [c2] at h
      simp only [Bool.and_eq_true] at c2
      have d1 := kd_pos_r c2.1
      have d2 := kd_pos_r c2.2.1
      have d3 := Nat.le_of_ble_eq_true c2.2.2
      rw [kd_mx_r] at d3 h
      unfold kd_pw at d3 h
      have hlt := Nat.lt_log2_self (n := max (h1 - B) (h2 - B))
      have := kd_or_i (x := a) (y := b) (m := Nat.log2 (max (h1 - B) (h2 - B)) + 1) (by omega) (by omega) (by omega) (by omega) (by omega)
      (try replace h := kd_ct h)
      exact kd_fit_r h (by omega) (by omega)
theorem kd_xor_r (h : kd_xor l1 h1 l2 h2 k = true) (a1 : l1 ≤ kd_nb a) (a2 : kd_nb a ≤ h1) (b1 : l2 ≤ kd_nb b) (b2 : kd_nb b ≤ h2) : kd_rs n ρ (.inl (a ^^^ b)) k := by
  unfold kd_xor at h
  cases c1 : kd_one l1 h1 l2 h2 with
  | true =>
    rw [c1] at h
    simp only [cond_true] at h
    obtain ⟨e1, e2⟩ := kd_one_r c1 a1 a2 b1 b2
    exact kd_1_r (G := fun a b => a ^^^ b) h e1 e2
  | false => rw [c1] at h; exact kd_top_r (kd_cf h)
theorem kd_shl_r (h : kd_shl l1 h1 l2 h2 k = true) (a1 : l1 ≤ kd_nb a) (a2 : kd_nb a ≤ h1) (b1 : l2 ≤ kd_nb b) (b2 : kd_nb b ≤ h2) : kd_rs n ρ (.inl (a <<< (b &&& 31))) k := by
  unfold kd_shl at h
  cases c1 : kd_one l1 h1 l2 h2 with
  | true =>
    rw [c1] at h
    simp only [cond_true] at h
    obtain ⟨e1, e2⟩ := kd_one_r c1 a1 a2 b1 b2
    exact kd_1_r (G := fun a b => a <<< (b &&& 31)) h e1 e2
  | false => rw [c1] at h; exact kd_top_r (kd_cf h)
theorem kd_shr_r (h : kd_shr l1 h1 l2 h2 k = true) (a1 : l1 ≤ kd_nb a) (a2 : kd_nb a ≤ h1) (b1 : l2 ≤ kd_nb b) (b2 : kd_nb b ≤ h2) : kd_rs n ρ (.inl (a >>> (b &&& 31))) k := by
  unfold kd_shr at h
  generalize hB : kd_B = B at h
  have eB : B = 2147483648 := hB.symm
  rcases kd_bif h with ⟨c1, h⟩ | ⟨c1, h⟩
  · obtain ⟨e1, e2⟩ := kd_one_r c1 a1 a2 b1 b2
    exact kd_1_r (G := fun a b => a >>> (b &&& 31)) h e1 e2
  · rcases kd_bif h with ⟨c2, h⟩ | ⟨c2, h⟩
    · simp only [Bool.and_eq_true] at c2
      have d1 := kd_pos_r c2.1
      have d2 := Nat.eq_of_beq_eq_true c2.2.1
      have d3 := Nat.le_of_ble_eq_true c2.2.2
      have ea := kd_nb_i a
      have eb := kd_nb_i b
      have e := kd_nb_i (a >>> (b &&& 31))
      obtain ⟨s, hs⟩ : ∃ s : Nat, l2 - B = s := ⟨_, rfl⟩
      rw [hs] at h d3
      rw [kd_shr_i (s := s) (by omega) (by omega)] at e
      have hdv : B = 2 ^ s * (B / 2 ^ s) := by
        have : ∀ s : Nat, s < 31 → (2147483648 : Nat) = 2 ^ s * (2147483648 / 2 ^ s) := by decide +kernel
        rw [eB]
        exact this s (by omega)
      have hp : 0 < 2 ^ s := Nat.pow_pos (by decide)
      generalize 2 ^ s = P at *
      generalize B / P = E at *
      have hE : E ≤ B := by
        rw [hdv]
        exact Nat.le_mul_of_pos_left _ hp
      have key : ((kd_nb a / P : Nat) : Int) = a.toInt / (P : Int) + (E : Int) := by
        have e1 : ((kd_nb a / P : Nat) : Int) = (kd_nb a : Int) / (P : Int) := Int.natCast_ediv _ _
        rw [e1, ea, show (2147483648 : Int) = (P : Int) * (E : Int) by rw [← Int.natCast_mul, ← hdv, eB]; rfl, Int.add_mul_ediv_left _ _ (by omega)]
      have m1 : l1 / P ≤ kd_nb a / P := Nat.div_le_div_right a1
      have m2 : kd_nb a / P ≤ h1 / P := Nat.div_le_div_right a2
      exact kd_fit_r h (by omega) (by omega)
    · exact kd_top_r h
theorem kd_div_r (h : kd_div l1 h1 l2 h2 k = true) (a1 : l1 ≤ kd_nb a) (a2 : kd_nb a ≤ h1) (b1 : l2 ≤ kd_nb b) (b2 : kd_nb b ≤ h2) : ¬ b = 0 ∧ kd_rs n ρ (.inl (a / b)) k := by
  unfold kd_div at h
  generalize hB : kd_B = B at h
  have eB : B = 2147483648 := hB.symm
  obtain ⟨c0, h⟩ := kd_bt h
  have d0 := wk_blt c0
  have ea := kd_nb_i a
  have eb := kd_nb_i b
  have e := kd_nb_i (a / b)
  refine ⟨fun q => by subst q; have : (0 : Int32).toInt = 0 := rfl; omega, ?_⟩
  rcases kd_bif h with ⟨c1, h⟩ | ⟨c1, h⟩
  · rw [Bool.and_eq_true] at c1
    have d1 := kd_pos_r c1.1
    have d2 := Nat.eq_of_beq_eq_true c1.2
    rw [kd_div_i (by omega) (by omega)] at e
    obtain ⟨p, hp⟩ : ∃ p : Nat, kd_nb a = p + B := ⟨kd_nb a - B, by omega⟩
    obtain ⟨q, hq⟩ : ∃ q : Nat, kd_nb b = q + B := ⟨kd_nb b - B, by omega⟩
    have key : a.toInt / b.toInt = ((p / q : Nat) : Int) := by
      rw [show a.toInt = (p : Int) by omega, show b.toInt = (q : Int) by omega, Int.natCast_ediv]
    rw [key] at e
    have eq : l2 - B = q := by omega
    rw [eq] at h
    have m1 : (l1 - B) / q ≤ p / q := Nat.div_le_div_right (by omega)
    have m2 : p / q ≤ (h1 - B) / q := Nat.div_le_div_right (by omega)
    exact kd_fit_r h (by omega) (by omega)
  · exact kd_top_r h
theorem kd_rem_r (h : kd_rem l1 h1 l2 h2 k = true) (a1 : l1 ≤ kd_nb a) (a2 : kd_nb a ≤ h1) (b1 : l2 ≤ kd_nb b) (b2 : kd_nb b ≤ h2) : ¬ b = 0 ∧ kd_rs n ρ (.inl (a - a / b * b)) k := by
  unfold kd_rem at h
  generalize hB : kd_B = B at h
  generalize hM : kd_M = MM at h
  generalize hC : kd_C = CC at h
  have eB : B = 2147483648 := hB.symm
  have eM : MM = 4294967295 := hM.symm
  have eC : CC = 9223372036854775808 := hC.symm
  obtain ⟨c0, h⟩ := kd_bt h
  have d0 := wk_blt c0
  have ea := kd_nb_i a
  have eb := kd_nb_i b
  have e := kd_nb_i (a - a / b * b)
  refine ⟨fun q => by subst q; have : (0 : Int32).toInt = 0 := rfl; omega, ?_⟩
  cases c1 : kd_one l1 h1 l2 h2 with
  | true =>
    rw [c1] at h
    simp only [cond_true] at h
    obtain ⟨e1, e2⟩ := kd_one_r c1 a1 a2 b1 b2
    exact kd_1_r (G := fun a b => a - a / b * b) h e1 e2
  | false =>
    rw [c1] at h
    simp only [cond_false] at h
    cases c2 : kd_pos l1 with
    | false => rw [c2] at h; exact kd_top_r (kd_cf h)
    | true =>
      rw [c2] at h
      have d1 := kd_pos_r c2
      simp only [cond_true, wk_fN_eq] at h
      rw [kd_rem_i (by omega) (by omega)] at e
      have r1 := Int.emod_nonneg a.toInt (show b.toInt ≠ 0 by omega)
      have r2 := Int.emod_lt_of_pos a.toInt (show 0 < b.toInt by omega)
      exact ⟨(0, B, h2 - 1), ⟨_, rfl, by omega, by omega⟩, h⟩
theorem kd_neg_r (h : kd_neg l1 h1 k = true) (a1 : l1 ≤ kd_nb a) (a2 : kd_nb a ≤ h1) : kd_rs n ρ (.inl (-a)) k := by
  unfold kd_neg at h
  generalize hB : kd_B = B at h
  generalize hM : kd_M = MM at h
  generalize hC : kd_C = CC at h
  have eB : B = 2147483648 := hB.symm
  have eM : MM = 4294967295 := hM.symm
  have eC : CC = 9223372036854775808 := hC.symm
  have ea := kd_nb_i a
  have e := kd_nb_i (-a)
  cases c1 : Nat.blt 0 l1 with
  | false => rw [c1] at h; exact kd_top_r (kd_cf h)
  | true =>
    rw [c1] at h
    have d1 := wk_blt c1
    (try simp only [cond_true] at h)
    rw [kd_neg_i (by omega)] at e
    (try replace h := kd_ct h)
    exact kd_fit_r h (by omega) (by omega)
theorem kd_il_r (h : kd_il iv n v k = true) (hb : kd_bx ρ iv n) (hv : kd_g n ρ v x) : ∃ a : Int32, x = .inl a ∧ kd_rs n ρ (.inr (.inl a.toInt64)) k := by
  unfold kd_il at h
  generalize hB : kd_B = B at h
  generalize hM : kd_M = MM at h
  generalize hC : kd_C = CC at h
  have eB : B = 2147483648 := hB.symm
  have eM : MM = 4294967295 := hM.symm
  have eC : CC = 9223372036854775808 := hC.symm
  cases c1 : Nat.beq v.1 1 with
  | true =>
    rw [c1] at h
    simp only [cond_true, cond_false] at h
    obtain ⟨a, l1, u1, rfl, a1, a2, h⟩ := kd_bd_r h hb hv
    obtain ⟨hj, ej⟩ := kd_var c1 hv
    have ea := kd_nb_i a
    exact ⟨a, rfl, (6, v.2.1, v.2.2), ⟨hj, _, rfl, by rw [Int32.toInt_toInt64]; omega⟩, h⟩
  | false =>
    rw [c1] at h
    simp only [cond_true, cond_false] at h
    obtain ⟨a, l1, u1, rfl, a1, a2, h⟩ := kd_bd_r h hb hv
    simp only [wk_fN_eq] at h
    have ea := kd_nb_i a
    have ej := kd_nj_i a.toInt64
    rw [Int32.toInt_toInt64] at ej
    exact ⟨a, rfl, (2, l1 + (CC - B), u1 + (CC - B)), ⟨_, rfl, by omega, by omega⟩, h⟩
theorem kd_li_r (h : kd_li iv n v k = true) (hb : kd_bx ρ iv n) (hv : kd_g n ρ v x) : ∃ a : Int64, x = .inr (.inl a) ∧ kd_rs n ρ (.inl a.toInt32) k := by
  unfold kd_li at h
  generalize hB : kd_B = B at h
  generalize hM : kd_M = MM at h
  generalize hC : kd_C = CC at h
  have eB : B = 2147483648 := hB.symm
  have eM : MM = 4294967295 := hM.symm
  have eC : CC = 9223372036854775808 := hC.symm
  cases c1 : Nat.beq v.1 6 with
  | true =>
    rw [c1] at h
    simp only [cond_true, cond_false] at h
    obtain ⟨a, l1, u1, rfl, a1, a2, h⟩ := kd_bj_r h hb hv
    obtain ⟨c2, h⟩ := kd_bt h
    rw [Bool.and_eq_true] at c2
    have d1 := Nat.le_of_ble_eq_true c2.1
    have d2 := Nat.le_of_ble_eq_true c2.2
    obtain ⟨t, j, o⟩ := v
    obtain rfl := Nat.eq_of_beq_eq_true c1
    obtain ⟨hj, z, e1, e2⟩ := hv
    cases e1
    have ej := kd_nj_i a
    have ea := kd_nb_i a.toInt32
    rw [kd_l2i_i (by omega) (by omega)] at ea
    exact ⟨a, rfl, (1, j, o), ⟨hj, _, rfl, by omega⟩, h⟩
  | false =>
    rw [c1] at h
    simp only [cond_true, cond_false] at h
    obtain ⟨a, l1, u1, rfl, a1, a2, h⟩ := kd_bj_r h hb hv
    refine ⟨a, rfl, ?_⟩
    cases c2 : Nat.ble (CC - B) l1 && Nat.ble u1 (CC - B + MM) with
    | false => rw [c2] at h; exact kd_top_r (kd_cf h)
    | true =>
      rw [c2] at h
      rw [Bool.and_eq_true] at c2
      have d1 := Nat.le_of_ble_eq_true c2.1
      have d2 := Nat.le_of_ble_eq_true c2.2
      have ej := kd_nj_i a
      have ea := kd_nb_i a.toInt32
      rw [kd_l2i_i (by omega) (by omega)] at ea
      (try replace h := kd_ct h)
      exact kd_fit_r h (by omega) (by omega)
theorem kd_landj_r {a b : Int64} (h : kd_landj l1 h1 l2 h2 k = true) (a1 : l1 ≤ kd_nj a) (a2 : kd_nj a ≤ h1) (b1 : l2 ≤ kd_nj b) (b2 : kd_nj b ≤ h2) : kd_rs n ρ (.inr (.inl (a &&& b))) k := by
  unfold kd_landj at h
  generalize hB : kd_B = B at h
  generalize hM : kd_M = MM at h
  generalize hC : kd_C = CC at h
  have eB : B = 2147483648 := hB.symm
  have eM : MM = 4294967295 := hM.symm
  have eC : CC = 9223372036854775808 := hC.symm
  have ea := kd_nj_i a
  have eb := kd_nj_i b
  have e := kd_nj_i (a &&& b)
  cases c2 : Nat.ble CC l2 with
  | true =>
    rw [c2] at h
    have d1 := Nat.le_of_ble_eq_true c2
    have := kd_landj_i (x := a) (y := b) (by omega)
    exact ⟨(2, CC, h2), ⟨_, rfl, by omega, by omega⟩, h⟩
  | false =>
    rw [c2] at h
    simp only [cond_false] at h
    cases c3 : Nat.ble CC l1 with
    | true =>
      rw [c3] at h
      have d1 := Nat.le_of_ble_eq_true c3
      have := kd_landj_i2 (x := a) (y := b) (by omega)
      exact ⟨(2, CC, h1), ⟨_, rfl, by omega, by omega⟩, h⟩
    | false => rw [c3] at h; exact kd_topj_r (kd_cf h)
end KDA
end
section
-- 64.kgo
/-! ===== the second engine's run ===== -/
/-- a cell's kinds: how many places, the value -/
abbrev kd_T : Type := Nat → List (Nat × kd_V)
def kd_rn : List (Nat × kd_V) → Nat → Option kd_V
  | [], _ => none
  | (m, v) :: r, i => bif Nat.blt i m then some v else kd_rn r (i - m)
def kd_jn (v w : kd_V) : kd_V := match v, w with
  | (t, a, b), (s, c, d) => bif Nat.beq t s && (Nat.beq t 0 || (Nat.beq t 2 || Nat.beq t 3)) then (t, kd_mn a c, kd_mx b d) else (9, 0, 0)
/-- the places lo .. hi together -/
def kd_rgj : List (Nat × kd_V) → Nat → Nat → Option kd_V
  | [], _, _ => none
  | (m, v) :: r, lo, hi => bif Nat.blt hi m then some v else bif Nat.ble m lo then kd_rgj r (lo - m) (hi - m) else match kd_rgj r 0 (hi - m) with
    | some w => some (kd_jn v w)
    | none => none
/-- the same of cells in a row -/
def kd_rgc (ty : kd_T) : Nat → Nat → Nat → Nat → Option kd_V
  | 0, _, _, _ => none
  | m + 1, c, lo, hi => match kd_rgj (ty c) lo hi with
    | none => none
    | some v => bif Nat.beq m 0 then some v else match kd_rgc ty m (c + 1) lo hi with
      | some w => some (kd_jn v w)
      | none => none
/-- below the kinds of the places lo .. hi -/
def kd_rle (iv : kd_I) (n : Nat) (v : kd_V) : List (Nat × kd_V) → Nat → Nat → Bool
  | [], _, _ => false
  | (m, w) :: r, lo, hi => bif Nat.ble m lo then kd_rle iv n v r (lo - m) (hi - m) else kd_le iv n v w && (bif Nat.blt hi m then true else kd_rle iv n v r 0 (hi - m))
def kd_fa : kd_F → Nat → Nat → Option kd_V
  | [], _, _ => none
  | (c, i, v) :: r, c0, i0 => bif Nat.beq c c0 && Nat.beq i i0 then some v else kd_fa r c0 i0
def kd_inr (c c1 c2 i i1 i2 : Nat) : Bool := Nat.ble c1 c && (Nat.ble c c2 && (Nat.ble i1 i && Nat.ble i i2))
/-- what is known but of these places -/
def kd_kl : kd_F → Nat → Nat → Nat → Nat → (kd_F → Bool) → Bool
  | [], _, _, _, _, k => k []
  | (c, i, v) :: r, c1, c2, i1, i2, k => bif kd_inr c c1 c2 i i1 i2 then kd_kl r c1 c2 i1 i2 k else kd_kl r c1 c2 i1 i2 (fun r => k ((c, i, v) :: r))
def kd_klW : kd_W → kd_F → (kd_F → Bool) → Bool
  | [], F, k => k F
  | (c1, c2, i1, i2) :: r, F, k => kd_kl F c1 c2 i1 i2 (fun F => kd_klW r F k)
def kd_cov : kd_W → Nat → Nat → Nat → Nat → Bool
  | [], _, _, _, _ => false
  | (a, b, x, y) :: r, c1, c2, i1, i2 => bif Nat.ble a c1 && (Nat.ble c2 b && (Nat.ble x i1 && Nat.ble i2 y)) then true else kd_cov r c1 c2 i1 i2
def kd_adw (W : kd_W) (c1 c2 i1 i2 : Nat) : kd_W := bif kd_cov W c1 c2 i1 i2 then W else (c1, c2, i1, i2) :: W
def kd_aw (W : kd_W) (c1 c2 i1 i2 : Nat) (k : kd_W → Bool) : Bool := bif kd_cov W c1 c2 i1 i2 then k W else k ((c1, c2, i1, i2) :: W)
def kd_awW : kd_W → kd_W → (kd_W → Bool) → Bool
  | [], W, k => k W
  | (c1, c2, i1, i2) :: r, W, k => kd_aw W c1 c2 i1 i2 (fun W => kd_awW r W k)
abbrev kd_KF : Type := kd_I → Nat → kd_F → kd_V → Bool
/-- a value gets a name, and the place is known by it -/
def kd_nmF (iv : kd_I) (n : Nat) (F : kd_F) (c i : Nat) (v : kd_V) (k : kd_KF) : Bool := bif Nat.beq v.1 0 && Nat.blt v.2.1 v.2.2 then kd_nm iv n v (fun iv n v => k iv n ((c, i, v) :: F) v) else k iv n F v
def kd_ld (ty : kd_T) (iv : kd_I) (n : Nat) (F : kd_F) (c1 c2 i1 i2 : Nat) (k : kd_KF) : Bool :=
  bif Nat.beq c1 c2 && Nat.beq i1 i2 then (match kd_fa F c1 i1 with
    | some v => kd_nmF iv n F c1 i1 v k
    | none => match kd_rn (ty c1) i1 with
      | some v => kd_nmF iv n F c1 i1 v k
      | none => false)
  else match kd_rgc ty (c2 - c1 + 1) c1 i1 i2 with
    | some v => kd_fV v fun v => kd_nm iv n v (fun iv n v => k iv n F v)
    | none => false
def kd_sto (ty : kd_T) (iv : kd_I) (n : Nat) (F : kd_F) (W : kd_W) (c1 c2 i1 i2 : Nat) (v : kd_V) (k : kd_I → Nat → kd_F → kd_W → Bool) : Bool :=
  bif kd_each (fun c => kd_rle iv n v (ty c) i1 i2) (c2 - c1 + 1) c1 then kd_kl F c1 c2 i1 i2 fun F => kd_aw W c1 c2 i1 i2 fun W => (bif Nat.beq c1 c2 && Nat.beq i1 i2 then kd_nm iv n v (fun iv n v => k iv n ((c1, i1, v) :: F) W) else k iv n F W) else false
/-- shapes -/
def kd_shA (p : Nat → Bool) (hi c : Nat) : Bool := match kc_shp c with
  | some (s, t, m) => Nat.beq s 0 && (p t && (Nat.blt hi m && Nat.blt c kc_N))
  | none => false
def kd_shO (ci f c : Nat) : Bool := match kc_shp c with
  | some (s, t, m) => Nat.beq s 1 && (Nat.beq t ci && (Nat.blt f m && (Nat.blt c kc_N && Nat.blt t 1000)))
  | none => false
def kd_ix (iv : kd_I) (n : Nat) (v : kd_V) (k : Nat → Nat → Bool) : Bool := kd_bd iv n v fun l h => bif Nat.ble kd_B l then wk_fN (l - kd_B) fun l => wk_fN (h - kd_B) fun h => k l h else false
def kd_rf3 (v : kd_V) (k : Nat → Nat → Bool) : Bool := match v with
  | (t, a, b) => bif Nat.beq t 3 && Nat.ble a b then k a b else false
def kd_get (AL : List kd_V) (i : Nat) (p : Nat → Bool) (k : kd_V → Bool) : Bool := match wk_at AL i with
  | some (t, a, b) => bif p t then k (t, a, b) else false
  | none => false
def kd_lj (t : Nat) : Bool := Nat.beq t 2 || Nat.beq t 6
def kd_okp (AL : List kd_V) (i : Nat) : Bool := bif Nat.beq i 0 then true else match wk_at AL (i - 1) with
  | some (t, _, _) => bif kd_lj t then false else true
  | none => true
def kd_st1 (nL : Nat) (AL : List kd_V) (i : Nat) (v : kd_V) (k : List kd_V → Bool) : Bool := bif Nat.blt i nL && kd_okp AL i then wk_put AL i v k else false
def kd_st2 (nL : Nat) (AL : List kd_V) (i : Nat) (v : kd_V) (k : List kd_V → Bool) : Bool := bif Nat.blt (i + 1) nL && kd_okp AL i then wk_put AL i v (fun AL => wk_put AL (i + 1) (9, 0, 0) k) else false
def kd_isI (t : Nat) : Bool := Nat.ble t 1
def kd_isA (t : Nat) : Bool := Nat.beq t 3 || Nat.beq t 5
abbrev kd_Go : Type := Nat → kd_I → Nat → List kd_V → List kd_V → kd_F → kd_W → Bool
abbrev kd_R : Type := kd_I → Nat → Option kd_V → kd_F → kd_W → Bool
abbrev kd_Cl : Type := Nat → List kd_V → kd_I → Nat → kd_F → kd_W → kd_R → Bool
/-- a binary operation: what it does with two values -/
def kd_bin (go : kd_V → kd_V → (kd_V → Bool) → Bool) (AS : List kd_V) (k : List kd_V → Bool) : Bool := match AS with
  | w :: v :: AS => go v w (fun u => k (u :: AS))
  | _ => false
/-- operations 22 .. 32 on ints -/
def kd_ar (op : Nat) (iv : kd_I) (n : Nat) (v w : kd_V) (k : kd_V → Bool) : Bool :=
  bif Nat.ble op 24 then (bif Nat.beq op 22 then kd_add iv n v w k else bif Nat.beq op 23 then kd_sub iv n v w k else kd_b2 iv n v w kd_mul k)
  else bif Nat.ble op 27 then (bif Nat.beq op 25 then kd_b2 iv n v w kd_and k else bif Nat.beq op 26 then kd_b2 iv n v w kd_or k else kd_b2 iv n v w kd_xor k)
  else bif Nat.ble op 29 then (bif Nat.beq op 28 then kd_b2 iv n v w kd_shl k else kd_b2 iv n v w kd_shr k)
  else (bif Nat.beq op 30 then kd_b2 iv n v w kd_div k else kd_b2 iv n v w kd_rem k)
/-- where values of few kinds are cut -/
def kd_few (op : Nat) : Nat := bif Nat.ble op 23 then 0 else bif Nat.beq op 24 then 16 else bif Nat.beq op 25 then 8 else bif Nat.ble op 28 then 16 else 0
def kd_two (op : Nat) (iv : kd_I) (n : Nat) (AS : List kd_V) (k : kd_I → List kd_V → Bool) : Bool := match AS with
  | w :: v :: AS => kd_cut (kd_few op) iv n v (fun iv => kd_cut (kd_few op) iv n w (fun iv => kd_ar op iv n v w (fun u => k iv (u :: AS))))
  | _ => false
/-- the targets of a switch, one after another -/
def kd_sw (f : Nat → kd_I → Bool) (iv : kd_I) (n : Nat) (v : kd_V) (l h : Nat) : List Nat → Nat → Bool
  | [], _ => true
  | t :: r, a => (bif Nat.ble l a && Nat.ble a h then kd_rf iv n v a a (fun iv => f t iv) else true) && wk_fN (a + 1) (fun a => kd_sw f iv n v l h r a)
def kd_c1 (t : Nat) : Bool := Nat.ble t 1 || (Nat.beq t 3 || Nat.beq t 5)
def kd_cat : List kd_V → Nat
  | [] => 0
  | (t, _, _) :: l => (bif kd_c1 t then 1 else 2) + kd_cat l
def kd_tk : Nat → List kd_V → List kd_V → (List kd_V → List kd_V → Bool) → Bool
  | 0, AS, acc, k => k acc AS
  | m + 1, v :: AS, acc, k => kd_tk m AS (v :: acc) k
  | _ + 1, [], _, _ => false
/-- operations 41 .. 44 on the stack -/
def kd_stk (op : Nat) (AS : List kd_V) (k : List kd_V → Bool) : Bool := match AS with
  | [] => false
  | v :: AS => bif kd_c1 v.1 then (bif Nat.beq op 41 then k (v :: v :: AS) else bif Nat.beq op 44 then k AS else match AS with
    | [] => false
    | w :: AS => bif kd_c1 w.1 then (bif Nat.beq op 42 then k (v :: w :: v :: AS) else k (v :: w :: v :: w :: AS)) else false) else false
/-- operations 36, 38, 39, 37 on longs -/
def kd_lg (op : Nat) (iv : kd_I) (n : Nat) (v w : kd_V) (k : kd_V → Bool) : Bool :=
  bif Nat.ble op 37 then kd_bj iv n v (fun l1 h1 => kd_bj iv n w (fun l2 h2 => bif Nat.beq op 36 then k kd_tJ else kd_landj l1 h1 l2 h2 k))
  else bif Nat.beq op 38 then kd_bj iv n v (fun _ _ => kd_bd iv n w (fun _ _ => k kd_tJ))
  else kd_bj iv n v (fun _ _ => kd_bj iv n w (fun l2 _ => bif Nat.blt kd_C l2 then k kd_tJ else false))
/-- operations 56 .. 58 -/
def kd_mth (op : Nat) (iv : kd_I) (n : Nat) (AS : List kd_V) (k : List kd_V → Bool) : Bool := match AS with
  | [] => false
  | w :: AS => bif Nat.beq op 57 then (bif Nat.ble (kd_cat AS) 8 then kd_bd iv n w (fun l h => bif Nat.ble kd_B l then k ((0, l, h) :: AS) else k (kd_tI :: AS)) else false) else match AS with
    | [] => false
    | v :: AS => bif Nat.ble (kd_cat AS) 8 then kd_bd iv n v (fun l1 h1 => kd_bd iv n w (fun l2 h2 => bif Nat.beq op 56 then kd_fit (kd_mn l1 l2) (kd_mn h1 h2) (fun u => k (u :: AS)) else kd_fit (kd_mx l1 l2) (kd_mx h1 h2) (fun u => k (u :: AS)))) else false
/-- may the value be put into a field of that kind: 0 an int, 1 a boolean, 2 a long, 3 a reference -/
def kd_fk (c : Nat) (iv : kd_I) (n : Nat) (w : kd_V) : Bool := bif Nat.beq c 1 then kd_le iv n w (0, 2147483648, 2147483649) else bif Nat.beq c 0 then kd_bd iv n w (fun _ _ => true) else bif Nat.beq c 2 then kd_bj iv n w (fun _ _ => true) else bif Nat.beq c 3 then Nat.beq w.1 3 else false
/-- operations 46 .. 53 on cells -/
def kd_cel (ty : kd_T) (op a b c : Nat) (iv : kd_I) (n : Nat) (AS : List kd_V) (F : kd_F) (W : kd_W) (k : kd_I → Nat → List kd_V → kd_F → kd_W → Bool) : Bool := match AS with
  | [] => false
  | w :: AS =>
    bif Nat.beq op 46 then kd_rf3 w (fun c1 c2 => bif kd_each (kd_shO a b) (c2 - c1 + 1) c1 then kd_ld ty iv n F c1 c2 b b (fun iv n F v => k iv n (v :: AS) F W) else false)
    else bif Nat.beq op 53 then kd_rf3 w (fun c1 c2 => match kc_shp c1 with
      | some (_, _, m) => bif Nat.blt m 1000000 && (Nat.beq c1 c2 && kd_shA (fun _ => true) (m - 1) c1) then wk_fN (m + kd_B) (fun m => k iv n ((0, m, m) :: AS) F W) else false
      | none => false)
    else match AS with
    | [] => false
    | v :: AS =>
      bif Nat.beq op 47 then (bif kd_fk c iv n w then kd_rf3 v (fun c1 c2 => bif kd_each (kd_shO a b) (c2 - c1 + 1) c1 then kd_sto ty iv n F W c1 c2 b b w (fun iv n F W => k iv n AS F W) else false) else false)
      else bif Nat.ble op 50 then kd_rf3 v (fun c1 c2 => kd_ix iv n w (fun i1 i2 => bif kd_each (kd_shA (fun t => bif Nat.beq op 48 then Nat.beq t 0 else bif Nat.beq op 49 then Nat.beq t 1 else Nat.ble 2 t) i2) (c2 - c1 + 1) c1 then kd_ld ty iv n F c1 c2 i1 i2 (fun iv n F v => k iv n (v :: AS) F W) else false))
      else match AS with
      | [] => false
      | q :: AS => kd_rf3 q (fun c1 c2 => kd_ix iv n v (fun i1 i2 => bif kd_fk (op - 51) iv n w && kd_each (kd_shA (fun t => Nat.beq t (op - 51)) i2) (c2 - c1 + 1) c1 then kd_sto ty iv n F W c1 c2 i1 i2 w (fun iv n F W => k iv n AS F W) else false))
/-- arraycopy of whole rows -/
def kd_tq (a b : List (Nat × kd_V)) : Bool := match a, b with
  | [], [] => true
  | (m, v) :: r, (q, w) :: s => Nat.beq m q && (kd_le [] 0 v w && kd_tq r s)
  | _, _ => false
def kd_len (c : Nat) : Nat := match kc_shp c with
  | some (_, _, q) => q
  | none => 0
def kd_cpy (ty : kd_T) (iv : kd_I) (n : Nat) (AS : List kd_V) (F : kd_F) (W : kd_W) (k : List kd_V → kd_F → kd_W → Bool) : Bool := match AS with
  | m :: dp :: b :: sp :: a :: AS => kd_rf3 a (fun a1 a2 => kd_rf3 b (fun b1 b2 => wk_fN (kd_len b1) (fun q => bif Nat.beq a1 a2 && Nat.beq b1 b2 then (bif kd_shA (fun t => Nat.beq t 0) (q - 1) a1 && kd_shA (fun t => Nat.beq t 0) (q - 1) b1 then (bif Nat.beq (kd_len a1) q && Nat.blt 0 q then (bif kd_le iv n m (0, q + kd_B, q + kd_B) && (kd_le iv n dp (0, 2147483648, 2147483648) && kd_le iv n sp (0, 2147483648, 2147483648)) then (bif Nat.ble (kd_cat AS) 8 && kd_tq (ty a1) (ty b1) then kd_kl F b1 b1 0 (q - 1) (fun F => kd_aw W b1 b1 0 (q - 1) (fun W => k AS F W)) else false) else false) else false) else false) else false)))
  | _ => false
def kd_fnd : List kd_X → Nat → Option kd_X
  | [], _ => none
  | x :: r, pc => bif Nat.beq x.1 pc then some x else kd_fnd r pc
theorem kd_fnd_r : ∀ {l : List kd_X} {pc : Nat} {x : kd_X}, kd_fnd l pc = some x → x.1 = pc ∧ x ∈ l
  | [], _, _, h => by cases h
  | y :: r, pc, x, h => by
    unfold kd_fnd at h
    cases hb : Nat.beq y.1 pc with
    | true =>
      rw [hb] at h
      cases h
      exact ⟨Nat.eq_of_beq_eq_true hb, List.mem_cons_self⟩
    | false =>
      rw [hb] at h
      obtain ⟨h1, h2⟩ := kd_fnd_r h
      exact ⟨h1, List.mem_cons_of_mem _ h2⟩
def kd_fetch (X : List (List kd_X)) (pc : Nat) : Option kd_X := match wk_at X (pc / 16) with
  | some r => kd_fnd r pc
  | none => none
/-- what is returned: a 0 an int, 1 a boolean, 2 a long, 3 nothing -/
def kd_rt (a : Nat) (iv : kd_I) (n : Nat) (AS : List kd_V) (F : kd_F) (W : kd_W) (ret : kd_R) : Bool := match AS with
  | [] => bif Nat.beq a 3 then ret iv n none F W else false
  | [v] => bif Nat.blt a 3 && kd_fk a iv n v then ret iv n (some v) F W else false
  | _ => false
/-- one row -/
def kd_row (ty : kd_T) (nL : Nat) (call : kd_Cl) (ret : kd_R) (go : kd_Go) (x : kd_X) (iv : kd_I) (n : Nat) (AL AS : List kd_V) (F : kd_F) (W : kd_W) : Bool := match x with
  | (pc, op, a, b, c, len, l) =>
    bif Nat.ble op 9 then (
      bif Nat.ble op 4 then (
        bif Nat.beq op 1 then wk_fN (pc + len) (fun pc => go pc iv n AL ((0, a, a) :: AS) F W)
        else kd_get AL a (fun t => bif Nat.beq op 2 then kd_isI t else bif Nat.beq op 3 then kd_isA t else kd_lj t) (fun v => wk_fN (pc + len) (fun pc => go pc iv n AL (v :: AS) F W)))
      else bif Nat.ble op 7 then (match AS with
        | [] => false
        | v :: AS => bif (bif Nat.beq op 5 then kd_isI v.1 else bif Nat.beq op 6 then kd_isA v.1 else kd_lj v.1) then (bif Nat.beq op 7 then kd_st2 nL AL a v (fun AL => wk_fN (pc + len) (fun pc => go pc iv n AL AS F W)) else kd_nm iv n v (fun iv n v => kd_st1 nL AL a v (fun AL => wk_fN (pc + len) (fun pc => go pc iv n AL AS F W)))) else false)
      else bif Nat.beq op 8 then kd_get AL a kd_isI (fun v => kd_add iv n v (0, b, b) (fun v => kd_st1 nL AL a v (fun AL => wk_fN (pc + len) (fun pc => go pc iv n AL AS F W))))
      else go a iv n AL AS F W)
    else bif Nat.ble op 21 then (
      bif Nat.ble op 15 then (match AS with
        | [] => false
        | v :: AS => kd_br (op - 10) iv n v (0, 2147483648, 2147483648) (fun iv => go a iv n AL AS F W) (fun iv => wk_fN (pc + len) (fun pc => go pc iv n AL AS F W)))
      else (match AS with
        | w :: v :: AS => kd_br (op - 16) iv n v w (fun iv => go a iv n AL AS F W) (fun iv => wk_fN (pc + len) (fun pc => go pc iv n AL AS F W))
        | _ => false))
    else bif Nat.ble op 31 then kd_two op iv n AS (fun iv AS => wk_fN (pc + len) (fun pc => go pc iv n AL AS F W))
    else bif Nat.ble op 40 then (
      bif Nat.ble op 34 then (match AS with
        | [] => false
        | v :: AS => (bif Nat.beq op 32 then kd_bd iv n v (fun l h => kd_neg l h (fun u => wk_fN (pc + len) (fun pc => go pc iv n AL (u :: AS) F W))) else bif Nat.beq op 33 then kd_il iv n v (fun u => wk_fN (pc + len) (fun pc => go pc iv n AL (u :: AS) F W)) else kd_li iv n v (fun u => wk_fN (pc + len) (fun pc => go pc iv n AL (u :: AS) F W))))
      else bif Nat.beq op 35 then (match AS with
        | w :: v :: AS => kd_brj b iv n v w (fun iv => go a iv n AL AS F W) (fun iv => wk_fN (pc + len) (fun pc => go pc iv n AL AS F W))
        | _ => false)
      else bif Nat.beq op 40 then wk_fN (pc + len) (fun pc => go pc iv n AL ((2, a, a) :: AS) F W)
      else kd_bin (kd_lg op iv n) AS (fun AS => wk_fN (pc + len) (fun pc => go pc iv n AL AS F W)))
    else bif Nat.ble op 45 then (
      bif Nat.ble op 44 then kd_stk op AS (fun AS => wk_fN (pc + len) (fun pc => go pc iv n AL AS F W))
      else (match AS with
        | [] => false
        | v :: AS => kd_bd iv n v (fun lo hi => kd_sw (fun t iv => go t iv n AL AS F W) iv n v lo hi l a && (bif Nat.ble a lo && Nat.blt hi (a + l.length) then true else go b iv n AL AS F W))))
    else bif Nat.ble op 53 then kd_cel ty op a b c iv n AS F W (fun iv n AS F W => wk_fN (pc + len) (fun pc => go pc iv n AL AS F W))
    else bif Nat.beq op 54 then kd_tk b AS [] (fun av AS => bif Nat.ble (kd_cat AS) 8 && (bif Nat.beq c 99 then true else match av with
      | (t, c1, c2) :: _ => Nat.beq t 3 && (Nat.ble c1 c2 && kd_each (kd_shO c 0) (c2 - c1 + 1) c1)
      | [] => false) then call a av iv n F W (fun iv n rv F W => wk_fN (pc + 3) (fun pc => go pc iv n AL (match rv with
      | some v => v :: AS
      | none => AS) F W)) else false)
    else bif Nat.beq op 55 then kd_cpy ty iv n AS F W (fun AS F W => wk_fN (pc + len) (fun pc => go pc iv n AL AS F W))
    else bif Nat.ble op 58 then kd_mth op iv n AS (fun AS => wk_fN (pc + len) (fun pc => go pc iv n AL AS F W))
    else kd_rt a iv n AS F W ret
/-! the same row, chosen by its operation first: little is copied a step -/
abbrev kd_Arm : Type := kd_T → Nat → kd_Cl → kd_R → kd_Go → Nat → Nat → Nat → Nat → Nat → Nat → List Nat → kd_I → Nat → List kd_V → List kd_V → kd_F → kd_W → Bool
def kd_a1 (ty : kd_T) (nL : Nat) (call : kd_Cl) (ret : kd_R) (go : kd_Go) (pc op a b c len : Nat) (l : List Nat) (iv : kd_I) (n : Nat) (AL AS : List kd_V) (F : kd_F) (W : kd_W) : Bool := wk_fN (pc + len) (fun pc => go pc iv n AL ((0, a, a) :: AS) F W)
def kd_a2 (ty : kd_T) (nL : Nat) (call : kd_Cl) (ret : kd_R) (go : kd_Go) (pc op a b c len : Nat) (l : List Nat) (iv : kd_I) (n : Nat) (AL AS : List kd_V) (F : kd_F) (W : kd_W) : Bool := kd_get AL a (fun t => bif Nat.beq op 2 then kd_isI t else bif Nat.beq op 3 then kd_isA t else kd_lj t) (fun v => wk_fN (pc + len) (fun pc => go pc iv n AL (v :: AS) F W))
def kd_a5 (ty : kd_T) (nL : Nat) (call : kd_Cl) (ret : kd_R) (go : kd_Go) (pc op a b c len : Nat) (l : List Nat) (iv : kd_I) (n : Nat) (AL AS : List kd_V) (F : kd_F) (W : kd_W) : Bool := match AS with
  | [] => false
  | v :: AS => bif (bif Nat.beq op 5 then kd_isI v.1 else bif Nat.beq op 6 then kd_isA v.1 else kd_lj v.1) then (bif Nat.beq op 7 then kd_st2 nL AL a v (fun AL => wk_fN (pc + len) (fun pc => go pc iv n AL AS F W)) else kd_nm iv n v (fun iv n v => kd_st1 nL AL a v (fun AL => wk_fN (pc + len) (fun pc => go pc iv n AL AS F W)))) else false
def kd_a8 (ty : kd_T) (nL : Nat) (call : kd_Cl) (ret : kd_R) (go : kd_Go) (pc op a b c len : Nat) (l : List Nat) (iv : kd_I) (n : Nat) (AL AS : List kd_V) (F : kd_F) (W : kd_W) : Bool := kd_get AL a kd_isI (fun v => kd_add iv n v (0, b, b) (fun v => kd_st1 nL AL a v (fun AL => wk_fN (pc + len) (fun pc => go pc iv n AL AS F W))))
def kd_a9 (ty : kd_T) (nL : Nat) (call : kd_Cl) (ret : kd_R) (go : kd_Go) (pc op a b c len : Nat) (l : List Nat) (iv : kd_I) (n : Nat) (AL AS : List kd_V) (F : kd_F) (W : kd_W) : Bool := go a iv n AL AS F W
def kd_a10 (ty : kd_T) (nL : Nat) (call : kd_Cl) (ret : kd_R) (go : kd_Go) (pc op a b c len : Nat) (l : List Nat) (iv : kd_I) (n : Nat) (AL AS : List kd_V) (F : kd_F) (W : kd_W) : Bool := match AS with
  | [] => false
  | v :: AS => kd_br (op - 10) iv n v (0, 2147483648, 2147483648) (fun iv => go a iv n AL AS F W) (fun iv => wk_fN (pc + len) (fun pc => go pc iv n AL AS F W))
def kd_a16 (ty : kd_T) (nL : Nat) (call : kd_Cl) (ret : kd_R) (go : kd_Go) (pc op a b c len : Nat) (l : List Nat) (iv : kd_I) (n : Nat) (AL AS : List kd_V) (F : kd_F) (W : kd_W) : Bool := match AS with
  | w :: v :: AS => kd_br (op - 16) iv n v w (fun iv => go a iv n AL AS F W) (fun iv => wk_fN (pc + len) (fun pc => go pc iv n AL AS F W))
  | _ => false
def kd_a22 (ty : kd_T) (nL : Nat) (call : kd_Cl) (ret : kd_R) (go : kd_Go) (pc op a b c len : Nat) (l : List Nat) (iv : kd_I) (n : Nat) (AL AS : List kd_V) (F : kd_F) (W : kd_W) : Bool := kd_two op iv n AS (fun iv AS => wk_fN (pc + len) (fun pc => go pc iv n AL AS F W))
def kd_a32 (ty : kd_T) (nL : Nat) (call : kd_Cl) (ret : kd_R) (go : kd_Go) (pc op a b c len : Nat) (l : List Nat) (iv : kd_I) (n : Nat) (AL AS : List kd_V) (F : kd_F) (W : kd_W) : Bool := match AS with
  | [] => false
  | v :: AS => (bif Nat.beq op 32 then kd_bd iv n v (fun l h => kd_neg l h (fun u => wk_fN (pc + len) (fun pc => go pc iv n AL (u :: AS) F W))) else bif Nat.beq op 33 then kd_il iv n v (fun u => wk_fN (pc + len) (fun pc => go pc iv n AL (u :: AS) F W)) else kd_li iv n v (fun u => wk_fN (pc + len) (fun pc => go pc iv n AL (u :: AS) F W)))
def kd_a35 (ty : kd_T) (nL : Nat) (call : kd_Cl) (ret : kd_R) (go : kd_Go) (pc op a b c len : Nat) (l : List Nat) (iv : kd_I) (n : Nat) (AL AS : List kd_V) (F : kd_F) (W : kd_W) : Bool := match AS with
  | w :: v :: AS => kd_brj b iv n v w (fun iv => go a iv n AL AS F W) (fun iv => wk_fN (pc + len) (fun pc => go pc iv n AL AS F W))
  | _ => false
def kd_a40 (ty : kd_T) (nL : Nat) (call : kd_Cl) (ret : kd_R) (go : kd_Go) (pc op a b c len : Nat) (l : List Nat) (iv : kd_I) (n : Nat) (AL AS : List kd_V) (F : kd_F) (W : kd_W) : Bool := wk_fN (pc + len) (fun pc => go pc iv n AL ((2, a, a) :: AS) F W)
def kd_a36 (ty : kd_T) (nL : Nat) (call : kd_Cl) (ret : kd_R) (go : kd_Go) (pc op a b c len : Nat) (l : List Nat) (iv : kd_I) (n : Nat) (AL AS : List kd_V) (F : kd_F) (W : kd_W) : Bool := kd_bin (kd_lg op iv n) AS (fun AS => wk_fN (pc + len) (fun pc => go pc iv n AL AS F W))
def kd_a41 (ty : kd_T) (nL : Nat) (call : kd_Cl) (ret : kd_R) (go : kd_Go) (pc op a b c len : Nat) (l : List Nat) (iv : kd_I) (n : Nat) (AL AS : List kd_V) (F : kd_F) (W : kd_W) : Bool := kd_stk op AS (fun AS => wk_fN (pc + len) (fun pc => go pc iv n AL AS F W))
def kd_a45 (ty : kd_T) (nL : Nat) (call : kd_Cl) (ret : kd_R) (go : kd_Go) (pc op a b c len : Nat) (l : List Nat) (iv : kd_I) (n : Nat) (AL AS : List kd_V) (F : kd_F) (W : kd_W) : Bool := match AS with
  | [] => false
  | v :: AS => kd_bd iv n v (fun lo hi => kd_sw (fun t iv => go t iv n AL AS F W) iv n v lo hi l a && (bif Nat.ble a lo && Nat.blt hi (a + l.length) then true else go b iv n AL AS F W))
def kd_a46 (ty : kd_T) (nL : Nat) (call : kd_Cl) (ret : kd_R) (go : kd_Go) (pc op a b c len : Nat) (l : List Nat) (iv : kd_I) (n : Nat) (AL AS : List kd_V) (F : kd_F) (W : kd_W) : Bool := kd_cel ty op a b c iv n AS F W (fun iv n AS F W => wk_fN (pc + len) (fun pc => go pc iv n AL AS F W))
def kd_a54 (ty : kd_T) (nL : Nat) (call : kd_Cl) (ret : kd_R) (go : kd_Go) (pc op a b c len : Nat) (l : List Nat) (iv : kd_I) (n : Nat) (AL AS : List kd_V) (F : kd_F) (W : kd_W) : Bool := kd_tk b AS [] (fun av AS => bif Nat.ble (kd_cat AS) 8 && (bif Nat.beq c 99 then true else match av with
  | (t, c1, c2) :: _ => Nat.beq t 3 && (Nat.ble c1 c2 && kd_each (kd_shO c 0) (c2 - c1 + 1) c1)
  | [] => false) then call a av iv n F W (fun iv n rv F W => wk_fN (pc + 3) (fun pc => go pc iv n AL (match rv with
  | some v => v :: AS
  | none => AS) F W)) else false)
def kd_a55 (ty : kd_T) (nL : Nat) (call : kd_Cl) (ret : kd_R) (go : kd_Go) (pc op a b c len : Nat) (l : List Nat) (iv : kd_I) (n : Nat) (AL AS : List kd_V) (F : kd_F) (W : kd_W) : Bool := kd_cpy ty iv n AS F W (fun AS F W => wk_fN (pc + len) (fun pc => go pc iv n AL AS F W))
def kd_a56 (ty : kd_T) (nL : Nat) (call : kd_Cl) (ret : kd_R) (go : kd_Go) (pc op a b c len : Nat) (l : List Nat) (iv : kd_I) (n : Nat) (AL AS : List kd_V) (F : kd_F) (W : kd_W) : Bool := kd_mth op iv n AS (fun AS => wk_fN (pc + len) (fun pc => go pc iv n AL AS F W))
def kd_a59 (ty : kd_T) (nL : Nat) (call : kd_Cl) (ret : kd_R) (go : kd_Go) (pc op a b c len : Nat) (l : List Nat) (iv : kd_I) (n : Nat) (AL AS : List kd_V) (F : kd_F) (W : kd_W) : Bool := kd_rt a iv n AS F W ret
def kd_sel1 (op : Nat) : kd_Arm := bif Nat.ble op 4 then (bif Nat.beq op 1 then kd_a1 else kd_a2) else bif Nat.ble op 7 then kd_a5 else bif Nat.beq op 8 then kd_a8 else kd_a9
def kd_sel2 (op : Nat) : kd_Arm := bif Nat.ble op 15 then kd_a10 else kd_a16
def kd_sel3 (op : Nat) : kd_Arm := bif Nat.ble op 34 then kd_a32 else bif Nat.beq op 35 then kd_a35 else bif Nat.beq op 40 then kd_a40 else kd_a36
def kd_sel4 (op : Nat) : kd_Arm := bif Nat.ble op 44 then kd_a41 else kd_a45
def kd_sel5 (op : Nat) : kd_Arm := bif Nat.beq op 54 then kd_a54 else bif Nat.beq op 55 then kd_a55 else bif Nat.ble op 58 then kd_a56 else kd_a59
def kd_sel (op : Nat) : kd_Arm := bif Nat.ble op 31 then (bif Nat.ble op 9 then kd_sel1 op else bif Nat.ble op 21 then kd_sel2 op else kd_a22) else bif Nat.ble op 53 then (bif Nat.ble op 45 then (bif Nat.ble op 40 then kd_sel3 op else kd_sel4 op) else kd_a46) else kd_sel5 op
def kd_rowf (ty : kd_T) (nL : Nat) (call : kd_Cl) (ret : kd_R) (go : kd_Go) (x : kd_X) (iv : kd_I) (n : Nat) (AL AS : List kd_V) (F : kd_F) (W : kd_W) : Bool := match x with
  | (pc, op, a, b, c, len, l) => kd_sel op ty nL call ret go pc op a b c len l iv n AL AS F W
theorem kd_ble_tr {op a b : Nat} (h : Nat.ble op a = true) (hab : a ≤ b) : Nat.ble op b = true := Nat.ble_eq.mpr (Nat.le_trans (Nat.le_of_ble_eq_true h) hab)
theorem kd_ble_fa {op a b : Nat} (h : Nat.ble op b = false) (hab : a ≤ b) : Nat.ble op a = false := by
  cases hb : Nat.ble op a with
  | false => rfl
  | true => rw [kd_ble_tr hb hab] at h; cases h
theorem kd_rowf_eq (ty : kd_T) (nL : Nat) (call : kd_Cl) (ret : kd_R) (go : kd_Go) (x : kd_X) (iv : kd_I) (n : Nat) (AL AS : List kd_V) (F : kd_F) (W : kd_W) : kd_rowf ty nL call ret go x iv n AL AS F W = kd_row ty nL call ret go x iv n AL AS F W := by
  obtain ⟨pc, op, a, b, c, len, l⟩ := x
  show kd_sel op ty nL call ret go pc op a b c len l iv n AL AS F W = _
  unfold kd_sel kd_row
  simp only
  cases h31 : Nat.ble op 31 with
  | true =>
    cases h9 : Nat.ble op 9 with
    | true =>
      unfold kd_sel1
      cases h4 : Nat.ble op 4 with
      | true => cases h1 : Nat.beq op 1 <;> rfl
      | false =>
        cases h7 : Nat.ble op 7 with
        | true => rfl
        | false => cases h8 : Nat.beq op 8 <;> rfl
    | false =>
      cases h21 : Nat.ble op 21 with
      | true =>
        unfold kd_sel2
        cases h15 : Nat.ble op 15 <;> rfl
      | false => rfl
  | false =>
    rw [kd_ble_fa h31 (by decide : 9 ≤ 31), kd_ble_fa h31 (by decide : 21 ≤ 31)]
    cases h53 : Nat.ble op 53 with
    | true =>
      cases h45 : Nat.ble op 45 with
      | true =>
        cases h40 : Nat.ble op 40 with
        | true =>
          unfold kd_sel3
          cases h34 : Nat.ble op 34 with
          | true => rfl
          | false =>
            cases h35 : Nat.beq op 35 with
            | true => rfl
            | false => cases h40b : Nat.beq op 40 <;> rfl
        | false =>
          unfold kd_sel4
          cases h44 : Nat.ble op 44 <;> rfl
      | false =>
        rw [kd_ble_fa h45 (by decide : 40 ≤ 45)]
        rfl
    | false =>
      rw [kd_ble_fa h53 (by decide : 40 ≤ 53), kd_ble_fa h53 (by decide : 45 ≤ 53)]
      unfold kd_sel5
      cases h54 : Nat.beq op 54 with
      | true => rfl
      | false =>
        cases h55 : Nat.beq op 55 with
        | true => rfl
        | false => cases h58 : Nat.ble op 58 <;> rfl
/-- stations are met where the stack is empty alone -/
def kd_ct0 (AS : List kd_V) (b : Bool) : Bool := match AS with
  | [] => b
  | _ :: _ => false
theorem kd_ct0_r {AS : List kd_V} {b : Bool} (h : kd_ct0 AS b = true) : b = true := by
  cases AS with
  | nil => exact h
  | cons _ _ => cases h
/-! the same once more, by plain recursors: few steps for the kernel -/
noncomputable def wr_at {α : Type} (l : List α) : Nat → Option α := @List.rec α (fun _ => Nat → Option α) (fun _ => none) (fun a _ ih n => @Nat.rec (fun _ => Option α) (some a) (fun m _ => ih m) n) l
theorem wr_at_eq {α : Type} : ∀ (l : List α) (n : Nat), wr_at l n = wk_at l n
  | [], _ => rfl
  | _ :: _, 0 => rfl
  | _ :: l, n + 1 => wr_at_eq l n
noncomputable def wr_put (v : kd_V) (l : List kd_V) : Nat → (List kd_V → Bool) → Bool := @List.rec kd_V (fun _ => Nat → (List kd_V → Bool) → Bool) (fun _ k => k []) (fun a l ih n k => @Nat.rec (fun _ => Bool) (k (v :: l)) (fun m _ => ih m (fun r => k (a :: r))) n) l
theorem wr_put_eq (v : kd_V) : ∀ (l : List kd_V) (n : Nat) (k : List kd_V → Bool), wr_put v l n k = wk_put l n v k
  | [], _, _ => rfl
  | _ :: _, 0, _ => rfl
  | a :: l, n + 1, k => wr_put_eq v l n (fun r => k (a :: r))
noncomputable def wr_puti (v : Nat × Nat) (l : kd_I) : Nat → (kd_I → Bool) → Bool := @List.rec (Nat × Nat) (fun _ => Nat → (kd_I → Bool) → Bool) (fun _ k => k []) (fun a l ih n k => @Nat.rec (fun _ => Bool) (k (v :: l)) (fun m _ => ih m (fun r => k (a :: r))) n) l
theorem wr_puti_eq (v : Nat × Nat) : ∀ (l : kd_I) (n : Nat) (k : kd_I → Bool), wr_puti v l n k = wk_put l n v k
  | [], _, _ => rfl
  | _ :: _, 0, _ => rfl
  | a :: l, n + 1, k => wr_puti_eq v l n (fun r => k (a :: r))
noncomputable def wr_fN (n : Nat) (k : Nat → Bool) : Bool := @Nat.rec (fun _ => Bool) (k 0) (fun m _ => k (Nat.succ m)) n
theorem wr_fN_eq (n : Nat) (k : Nat → Bool) : wr_fN n k = wk_fN n k := by cases n <;> rfl
noncomputable def wr_fnd (pc : Nat) (l : List kd_X) : Option kd_X := @List.rec kd_X (fun _ => Option kd_X) none (fun x _ ih => @Bool.rec (fun _ => Option kd_X) ih (some x) (Nat.beq x.1 pc)) l
theorem wr_fnd_eq (pc : Nat) : ∀ l : List kd_X, wr_fnd pc l = kd_fnd l pc
  | [] => rfl
  | x :: l => by
    show @Bool.rec (fun _ => Option kd_X) (wr_fnd pc l) (some x) (Nat.beq x.1 pc) = (bif Nat.beq x.1 pc then some x else kd_fnd l pc)
    rw [wr_fnd_eq pc l]
    cases Nat.beq x.1 pc <;> rfl
noncomputable def wr_fetch (X : List (List kd_X)) (pc : Nat) : Option kd_X := @Option.rec (List kd_X) (fun _ => Option kd_X) none (fun r => wr_fnd pc r) (wr_at X (Nat.div pc 16))
theorem wr_fetch_eq (X : List (List kd_X)) (pc : Nat) : wr_fetch X pc = kd_fetch X pc := by
  unfold wr_fetch kd_fetch
  rw [wr_at_eq, show Nat.div pc 16 = pc / 16 from rfl]
  cases wk_at X (pc / 16) with
  | none => rfl
  | some r => exact wr_fnd_eq pc r
noncomputable def wr_ct0 (AS : List kd_V) (b : Bool) : Bool := @List.rec kd_V (fun _ => Bool) b (fun _ _ _ => false) AS
theorem wr_ct0_eq (AS : List kd_V) (b : Bool) : wr_ct0 AS b = kd_ct0 AS b := by cases AS <;> rfl
noncomputable def wr_get (AL : List kd_V) (i : Nat) (p : Nat → Bool) (k : kd_V → Bool) : Bool := @Option.rec kd_V (fun _ => Bool) false (fun v => @Bool.rec (fun _ => Bool) false (k v) (p v.1)) (wr_at AL i)
theorem wr_get_eq (AL : List kd_V) (i : Nat) (p : Nat → Bool) (k : kd_V → Bool) : wr_get AL i p k = kd_get AL i p k := by
  unfold wr_get kd_get
  rw [wr_at_eq]
  cases wk_at AL i with
  | none => rfl
  | some v =>
    obtain ⟨t, a, b⟩ := v
    show @Bool.rec (fun _ => Bool) false (k (t, a, b)) (p t) = (bif p t then k (t, a, b) else false)
    cases p t <;> rfl
noncomputable def wr_okp (AL : List kd_V) (i : Nat) : Bool := @Nat.rec (fun _ => Bool) true (fun m _ => @Option.rec kd_V (fun _ => Bool) true (fun v => @Bool.rec (fun _ => Bool) true false (kd_lj v.1)) (wr_at AL m)) i
theorem wr_okp_eq (AL : List kd_V) (i : Nat) : wr_okp AL i = kd_okp AL i := by
  cases i with
  | zero => rfl
  | succ m =>
    show @Option.rec kd_V (fun _ => Bool) true (fun v => @Bool.rec (fun _ => Bool) true false (kd_lj v.1)) (wr_at AL m) = (match wk_at AL m with
      | some (t, _, _) => bif kd_lj t then false else true
      | none => true)
    rw [wr_at_eq]
    cases wk_at AL m with
    | none => rfl
    | some v =>
      obtain ⟨t, a, b⟩ := v
      show @Bool.rec (fun _ => Bool) true false (kd_lj t) = (bif kd_lj t then false else true)
      cases kd_lj t <;> rfl
noncomputable def wr_st1 (nL : Nat) (AL : List kd_V) (i : Nat) (v : kd_V) (k : List kd_V → Bool) : Bool := @Bool.rec (fun _ => Bool) false (@Bool.rec (fun _ => Bool) false (wr_put v AL i k) (wr_okp AL i)) (Nat.ble (Nat.succ i) nL)
theorem wr_st1_eq (nL : Nat) (AL : List kd_V) (i : Nat) (v : kd_V) (k : List kd_V → Bool) : wr_st1 nL AL i v k = kd_st1 nL AL i v k := by
  unfold wr_st1 kd_st1
  rw [wr_put_eq, wr_okp_eq, show Nat.blt i nL = Nat.ble (Nat.succ i) nL from rfl]
  cases Nat.ble (Nat.succ i) nL with
  | false => rfl
  | true => cases kd_okp AL i <;> rfl
noncomputable def wr_nm (iv : kd_I) (n : Nat) (v : kd_V) (k : kd_I → Nat → kd_V → Bool) : Bool := @Bool.rec (fun _ => Bool) (k iv n v) (@Bool.rec (fun _ => Bool) (k iv n v) (wr_fN n fun n => k ((v.2.1, v.2.2) :: iv) (Nat.succ n) (1, n, kd_B)) (Nat.ble (Nat.succ v.2.1) v.2.2)) (Nat.beq v.1 0)
theorem wr_nm_eq (iv : kd_I) (n : Nat) (v : kd_V) (k : kd_I → Nat → kd_V → Bool) : wr_nm iv n v k = kd_nm iv n v k := by
  obtain ⟨t, a, b⟩ := v
  unfold wr_nm kd_nm
  rw [wr_fN_eq]
  show @Bool.rec (fun _ => Bool) (k iv n (t, a, b)) (@Bool.rec (fun _ => Bool) (k iv n (t, a, b)) (wk_fN n fun n => k ((a, b) :: iv) (n + 1) (1, n, kd_B)) (Nat.blt a b)) (Nat.beq t 0) = (bif Nat.beq t 0 && Nat.blt a b then wk_fN n fun n => k ((a, b) :: iv) (n + 1) (1, n, kd_B) else k iv n (t, a, b))
  cases Nat.beq t 0 with
  | false => rfl
  | true => cases Nat.blt a b <;> rfl
/-! the arms -/
noncomputable def wr_a1 (ty : kd_T) (nL : Nat) (call : kd_Cl) (ret : kd_R) (go : kd_Go) (pc op a b c len : Nat) (l : List Nat) (iv : kd_I) (n : Nat) (AL AS : List kd_V) (F : kd_F) (W : kd_W) : Bool := wr_fN (Nat.add pc len) (fun pc => go pc iv n AL ((0, a, a) :: AS) F W)
noncomputable def wr_a2 (ty : kd_T) (nL : Nat) (call : kd_Cl) (ret : kd_R) (go : kd_Go) (pc op a b c len : Nat) (l : List Nat) (iv : kd_I) (n : Nat) (AL AS : List kd_V) (F : kd_F) (W : kd_W) : Bool := wr_get AL a (fun t => @Bool.rec (fun _ => Bool) (@Bool.rec (fun _ => Bool) (kd_lj t) (kd_isA t) (Nat.beq op 3)) (kd_isI t) (Nat.beq op 2)) (fun v => wr_fN (Nat.add pc len) (fun pc => go pc iv n AL (v :: AS) F W))
noncomputable def wr_a5 (ty : kd_T) (nL : Nat) (call : kd_Cl) (ret : kd_R) (go : kd_Go) (pc op a b c len : Nat) (l : List Nat) (iv : kd_I) (n : Nat) (AL AS : List kd_V) (F : kd_F) (W : kd_W) : Bool := @List.rec kd_V (fun _ => Bool) false (fun v AS _ => @Bool.rec (fun _ => Bool) (kd_a5 ty nL call ret go pc op a b c len l iv n AL (v :: AS) F W) (@Bool.rec (fun _ => Bool) false (wr_nm iv n v (fun iv n v => wr_st1 nL AL a v (fun AL => wr_fN (Nat.add pc len) (fun pc => go pc iv n AL AS F W)))) (kd_isI v.1)) (Nat.beq op 5)) AS
noncomputable def wr_a8 (ty : kd_T) (nL : Nat) (call : kd_Cl) (ret : kd_R) (go : kd_Go) (pc op a b c len : Nat) (l : List Nat) (iv : kd_I) (n : Nat) (AL AS : List kd_V) (F : kd_F) (W : kd_W) : Bool := wr_get AL a kd_isI (fun v => kd_add iv n v (0, b, b) (fun v => wr_st1 nL AL a v (fun AL => wr_fN (Nat.add pc len) (fun pc => go pc iv n AL AS F W))))
noncomputable def wr_a10 (ty : kd_T) (nL : Nat) (call : kd_Cl) (ret : kd_R) (go : kd_Go) (pc op a b c len : Nat) (l : List Nat) (iv : kd_I) (n : Nat) (AL AS : List kd_V) (F : kd_F) (W : kd_W) : Bool := @List.rec kd_V (fun _ => Bool) false (fun v AS _ => kd_br (Nat.sub op 10) iv n v (0, 2147483648, 2147483648) (fun iv => go a iv n AL AS F W) (fun iv => wr_fN (Nat.add pc len) (fun pc => go pc iv n AL AS F W))) AS
noncomputable def wr_a16 (ty : kd_T) (nL : Nat) (call : kd_Cl) (ret : kd_R) (go : kd_Go) (pc op a b c len : Nat) (l : List Nat) (iv : kd_I) (n : Nat) (AL AS : List kd_V) (F : kd_F) (W : kd_W) : Bool := @List.rec kd_V (fun _ => Bool) false (fun w AS _ => @List.rec kd_V (fun _ => Bool) false (fun v AS _ => kd_br (Nat.sub op 16) iv n v w (fun iv => go a iv n AL AS F W) (fun iv => wr_fN (Nat.add pc len) (fun pc => go pc iv n AL AS F W))) AS) AS
/-- cells: each operation for itself -/
def wr_c46 (ty : kd_T) (a b : Nat) (iv : kd_I) (n : Nat) (w : kd_V) (AS : List kd_V) (F : kd_F) (W : kd_W) (k : kd_I → Nat → List kd_V → kd_F → kd_W → Bool) : Bool := kd_rf3 w (fun c1 c2 => bif kd_each (kd_shO a b) (c2 - c1 + 1) c1 then kd_ld ty iv n F c1 c2 b b (fun iv n F v => k iv n (v :: AS) F W) else false)
def wr_c47 (ty : kd_T) (a b c : Nat) (iv : kd_I) (n : Nat) (w v : kd_V) (AS : List kd_V) (F : kd_F) (W : kd_W) (k : kd_I → Nat → List kd_V → kd_F → kd_W → Bool) : Bool := bif kd_fk c iv n w then kd_rf3 v (fun c1 c2 => bif kd_each (kd_shO a b) (c2 - c1 + 1) c1 then kd_sto ty iv n F W c1 c2 b b w (fun iv n F W => k iv n AS F W) else false) else false
def wr_c48 (ty : kd_T) (op : Nat) (iv : kd_I) (n : Nat) (w v : kd_V) (AS : List kd_V) (F : kd_F) (W : kd_W) (k : kd_I → Nat → List kd_V → kd_F → kd_W → Bool) : Bool := kd_rf3 v (fun c1 c2 => kd_ix iv n w (fun i1 i2 => bif kd_each (kd_shA (fun t => bif Nat.beq op 48 then Nat.beq t 0 else bif Nat.beq op 49 then Nat.beq t 1 else Nat.ble 2 t) i2) (c2 - c1 + 1) c1 then kd_ld ty iv n F c1 c2 i1 i2 (fun iv n F v => k iv n (v :: AS) F W) else false))
def wr_c51 (ty : kd_T) (op : Nat) (iv : kd_I) (n : Nat) (w v q : kd_V) (AS : List kd_V) (F : kd_F) (W : kd_W) (k : kd_I → Nat → List kd_V → kd_F → kd_W → Bool) : Bool := kd_rf3 q (fun c1 c2 => kd_ix iv n v (fun i1 i2 => bif kd_fk (op - 51) iv n w && kd_each (kd_shA (fun t => Nat.beq t (op - 51)) i2) (c2 - c1 + 1) c1 then kd_sto ty iv n F W c1 c2 i1 i2 w (fun iv n F W => k iv n AS F W) else false))
noncomputable def wr_cel (ty : kd_T) (op a b c : Nat) (iv : kd_I) (n : Nat) (AS : List kd_V) (F : kd_F) (W : kd_W) (k : kd_I → Nat → List kd_V → kd_F → kd_W → Bool) : Bool := @List.rec kd_V (fun _ => Bool) false (fun w AS _ => @Bool.rec (fun _ => Bool) (@Bool.rec (fun _ => Bool) (@List.rec kd_V (fun _ => Bool) false (fun v AS _ => @Bool.rec (fun _ => Bool) (@Bool.rec (fun _ => Bool) (@List.rec kd_V (fun _ => Bool) false (fun q AS _ => wr_c51 ty op iv n w v q AS F W k) AS) (wr_c48 ty op iv n w v AS F W k) (Nat.ble op 50)) (wr_c47 ty a b c iv n w v AS F W k) (Nat.beq op 47)) AS) (kd_cel ty op a b c iv n (w :: AS) F W k) (Nat.beq op 53)) (wr_c46 ty a b iv n w AS F W k) (Nat.beq op 46)) AS
theorem wr_cel_eq (ty : kd_T) (op a b c : Nat) (iv : kd_I) (n : Nat) (AS : List kd_V) (F : kd_F) (W : kd_W) (k : kd_I → Nat → List kd_V → kd_F → kd_W → Bool) : wr_cel ty op a b c iv n AS F W k = kd_cel ty op a b c iv n AS F W k := by
  cases AS with
  | nil => rfl
  | cons w AS =>
    show @Bool.rec (fun _ => Bool) (@Bool.rec (fun _ => Bool) (@List.rec kd_V (fun _ => Bool) false (fun v AS _ => @Bool.rec (fun _ => Bool) (@Bool.rec (fun _ => Bool) (@List.rec kd_V (fun _ => Bool) false (fun q AS _ => wr_c51 ty op iv n w v q AS F W k) AS) (wr_c48 ty op iv n w v AS F W k) (Nat.ble op 50)) (wr_c47 ty a b c iv n w v AS F W k) (Nat.beq op 47)) AS) (kd_cel ty op a b c iv n (w :: AS) F W k) (Nat.beq op 53)) (wr_c46 ty a b iv n w AS F W k) (Nat.beq op 46) = _
    cases h46 : Nat.beq op 46 with
    | true =>
      obtain rfl := Nat.eq_of_beq_eq_true h46
      rfl
    | false =>
      cases h53 : Nat.beq op 53 with
      | true => rfl
      | false =>
        unfold kd_cel
        simp only [h46, h53, cond_false]
        cases AS with
        | nil => rfl
        | cons v AS =>
          simp only
          cases h47 : Nat.beq op 47 with
          | true => rfl
          | false =>
            cases h50 : Nat.ble op 50 with
            | true => rfl
            | false =>
              cases AS with
              | nil => rfl
              | cons q AS => rfl
noncomputable def wr_a46 (ty : kd_T) (nL : Nat) (call : kd_Cl) (ret : kd_R) (go : kd_Go) (pc op a b c len : Nat) (l : List Nat) (iv : kd_I) (n : Nat) (AL AS : List kd_V) (F : kd_F) (W : kd_W) : Bool := wr_cel ty op a b c iv n AS F W (fun iv n AS F W => wr_fN (Nat.add pc len) (fun pc => go pc iv n AL AS F W))
noncomputable def wr_sel (op : Nat) : kd_Arm :=
  @Bool.rec (fun _ => kd_Arm)
    (@Bool.rec (fun _ => kd_Arm)
      (@Bool.rec (fun _ => kd_Arm) (kd_sel op) wr_a46 (@Bool.rec (fun _ => Bool) (Nat.ble op 53) false (Nat.ble op 45)))
      (@Bool.rec (fun _ => kd_Arm)
        (@Bool.rec (fun _ => kd_Arm) wr_a16 wr_a10 (Nat.ble op 15))
        (@Bool.rec (fun _ => kd_Arm) (@Bool.rec (fun _ => kd_Arm) kd_a9 wr_a8 (Nat.beq op 8)) wr_a5 (Nat.ble op 7))
        (Nat.ble op 9))
      (Nat.ble op 21))
    (@Bool.rec (fun _ => kd_Arm) wr_a2 wr_a1 (Nat.beq op 1))
    (Nat.ble op 4)
noncomputable def wr_row (ty : kd_T) (nL : Nat) (call : kd_Cl) (ret : kd_R) (go : kd_Go) (x : kd_X) (iv : kd_I) (n : Nat) (AL AS : List kd_V) (F : kd_F) (W : kd_W) : Bool := wr_sel x.2.1 ty nL call ret go x.1 x.2.1 x.2.2.1 x.2.2.2.1 x.2.2.2.2.1 x.2.2.2.2.2.1 x.2.2.2.2.2.2 iv n AL AS F W
theorem wr_row_eq (ty : kd_T) (nL : Nat) (call : kd_Cl) (ret : kd_R) (go : kd_Go) (x : kd_X) (iv : kd_I) (n : Nat) (AL AS : List kd_V) (F : kd_F) (W : kd_W) : wr_row ty nL call ret go x iv n AL AS F W = kd_row ty nL call ret go x iv n AL AS F W := by
  rw [← kd_rowf_eq]
  obtain ⟨pc, op, a, b, c, len, l⟩ := x
  show wr_sel op ty nL call ret go pc op a b c len l iv n AL AS F W = kd_sel op ty nL call ret go pc op a b c len l iv n AL AS F W
  unfold wr_sel
  cases h4 : Nat.ble op 4 with
  | true =>
    unfold kd_sel kd_sel1
    rw [kd_ble_tr h4 (by decide : 4 ≤ 31), kd_ble_tr h4 (by decide : 4 ≤ 9), h4]
    cases h1 : Nat.beq op 1 with
    | true => exact wr_fN_eq _ _
    | false =>
      show wr_a2 ty nL call ret go pc op a b c len l iv n AL AS F W = kd_a2 ty nL call ret go pc op a b c len l iv n AL AS F W
      unfold wr_a2 kd_a2
      simp only [wr_get_eq, wr_fN_eq]
      congr 1
      funext t
      cases Nat.beq op 2 with
      | true => rfl
      | false => cases Nat.beq op 3 <;> rfl
  | false =>
    cases h21 : Nat.ble op 21 with
    | true =>
      have h31 := kd_ble_tr h21 (by decide : 21 ≤ 31)
      unfold kd_sel
      rw [h31]
      cases h9 : Nat.ble op 9 with
      | true =>
        unfold kd_sel1
        rw [h4]
        cases h7 : Nat.ble op 7 with
        | true =>
          show wr_a5 ty nL call ret go pc op a b c len l iv n AL AS F W = kd_a5 ty nL call ret go pc op a b c len l iv n AL AS F W
          cases AS with
          | nil => rfl
          | cons v AS =>
            show @Bool.rec (fun _ => Bool) (kd_a5 ty nL call ret go pc op a b c len l iv n AL (v :: AS) F W) (@Bool.rec (fun _ => Bool) false (wr_nm iv n v (fun iv n v => wr_st1 nL AL a v (fun AL => wr_fN (Nat.add pc len) (fun pc => go pc iv n AL AS F W)))) (kd_isI v.1)) (Nat.beq op 5) = _
            cases h5 : Nat.beq op 5 with
            | false => rfl
            | true =>
              obtain rfl := Nat.eq_of_beq_eq_true h5
              simp only [wr_nm_eq, wr_st1_eq, wr_fN_eq]
              show @Bool.rec (fun _ => Bool) false (kd_nm iv n v (fun iv n v => kd_st1 nL AL a v (fun AL => wk_fN (pc + len) (fun pc => go pc iv n AL AS F W)))) (kd_isI v.1) = (bif kd_isI v.1 then kd_nm iv n v (fun iv n v => kd_st1 nL AL a v (fun AL => wk_fN (pc + len) (fun pc => go pc iv n AL AS F W))) else false)
              cases kd_isI v.1 <;> rfl
        | false =>
          cases h8 : Nat.beq op 8 with
          | true =>
            show wr_a8 ty nL call ret go pc op a b c len l iv n AL AS F W = kd_a8 ty nL call ret go pc op a b c len l iv n AL AS F W
            unfold wr_a8 kd_a8
            simp only [wr_get_eq, wr_st1_eq, wr_fN_eq]
            rfl
          | false => rfl
      | false =>
        show @Bool.rec (fun _ => kd_Arm) wr_a16 wr_a10 (Nat.ble op 15) ty nL call ret go pc op a b c len l iv n AL AS F W = (bif Nat.ble op 21 then kd_sel2 op else kd_a22) ty nL call ret go pc op a b c len l iv n AL AS F W
        rw [h21]
        show _ = kd_sel2 op ty nL call ret go pc op a b c len l iv n AL AS F W
        unfold kd_sel2
        cases h15 : Nat.ble op 15 with
        | true =>
          show wr_a10 ty nL call ret go pc op a b c len l iv n AL AS F W = kd_a10 ty nL call ret go pc op a b c len l iv n AL AS F W
          cases AS with
          | nil => rfl
          | cons v AS =>
            show kd_br (op - 10) iv n v (0, 2147483648, 2147483648) (fun iv => go a iv n AL AS F W) (fun iv => wr_fN (pc + len) (fun pc => go pc iv n AL AS F W)) = kd_br (op - 10) iv n v (0, 2147483648, 2147483648) (fun iv => go a iv n AL AS F W) (fun iv => wk_fN (pc + len) (fun pc => go pc iv n AL AS F W))
            simp only [wr_fN_eq]
        | false =>
          show wr_a16 ty nL call ret go pc op a b c len l iv n AL AS F W = kd_a16 ty nL call ret go pc op a b c len l iv n AL AS F W
          cases AS with
          | nil => rfl
          | cons w AS =>
            cases AS with
            | nil => rfl
            | cons v AS =>
              show kd_br (op - 16) iv n v w (fun iv => go a iv n AL AS F W) (fun iv => wr_fN (pc + len) (fun pc => go pc iv n AL AS F W)) = kd_br (op - 16) iv n v w (fun iv => go a iv n AL AS F W) (fun iv => wk_fN (pc + len) (fun pc => go pc iv n AL AS F W))
              simp only [wr_fN_eq]
    | false =>
      cases h45 : Nat.ble op 45 with
      | true => rfl
      | false =>
        cases h53 : Nat.ble op 53 with
        | false => rfl
        | true =>
          show wr_a46 ty nL call ret go pc op a b c len l iv n AL AS F W = kd_sel op ty nL call ret go pc op a b c len l iv n AL AS F W
          unfold kd_sel
          rw [kd_ble_fa h45 (by decide : 31 ≤ 45), h53, h45]
          show wr_a46 ty nL call ret go pc op a b c len l iv n AL AS F W = kd_a46 ty nL call ret go pc op a b c len l iv n AL AS F W
          unfold wr_a46 kd_a46
          simp only [wr_cel_eq, wr_fN_eq]
          rfl
noncomputable def wr_step (ty : kd_T) (X : List (List kd_X)) (nL : Nat) (call : kd_Cl) (ret : kd_R) (b : Bool) (go : kd_Go) (pc : Nat) (iv : kd_I) (n : Nat) (AL AS : List kd_V) (F : kd_F) (W : kd_W) : Bool := @Bool.rec (fun _ => Bool) (@Option.rec kd_X (fun _ => Bool) false (fun x => wr_row ty nL call ret go x iv n AL AS F W) (wr_fetch X pc)) true (wr_ct0 AS b)
theorem wr_step_eq (ty : kd_T) (X : List (List kd_X)) (nL : Nat) (call : kd_Cl) (ret : kd_R) (b : Bool) (go : kd_Go) (pc : Nat) (iv : kd_I) (n : Nat) (AL AS : List kd_V) (F : kd_F) (W : kd_W) : wr_step ty X nL call ret b go pc iv n AL AS F W = (bif kd_ct0 AS b then true else match kd_fetch X pc with
    | none => false
    | some x => kd_row ty nL call ret go x iv n AL AS F W) := by
  unfold wr_step
  rw [wr_ct0_eq, wr_fetch_eq]
  cases kd_ct0 AS b with
  | true => rfl
  | false =>
    cases kd_fetch X pc with
    | none => rfl
    | some x => exact wr_row_eq ty nL call ret go x iv n AL AS F W
abbrev kd_Cu : Type := Nat → kd_I → Nat → List kd_V → List kd_V → kd_F → kd_W → Bool
noncomputable def kd_go (ty : kd_T) (X : List (List kd_X)) (nL : Nat) (cut : kd_Cu) (call : kd_Cl) (ret : kd_R) (fuel : Nat) : kd_Go :=
  Nat.rec (fun _ _ _ _ _ _ _ => false) (fun _ go pc iv n AL AS F W => wr_step ty X nL call ret (cut pc iv n AL AS F W) go pc iv n AL AS F W) fuel
end
section
-- 65.krows
/-! ===== rows in numbers, held against the rows of code ===== -/
def kd_cd (c : Nat) : ClassFile.Cond := match c with
  | 0 => .eq
  | 1 => .ne
  | 2 => .lt
  | 3 => .ge
  | 4 => .gt
  | _ => .le
def kd_isC (i : Instr) (x : Nat × Nat × Int) (a len : Nat) : Bool := match i with
  | .iconst k => Nat.beq len 1 && Nat.beq (kd_nb (Int32.ofInt k)) a
  | .bipush k => Nat.beq len 2 && Nat.beq (kd_nb (Int8.ofInt k).toInt32) a
  | .sipush k => Nat.beq len 3 && Nat.beq (kd_nb (Int16.ofInt k).toInt32) a
  | .ldc _ => Nat.beq len 2 && Nat.beq (kd_nb (Int32.ofInt x.2.2)) a
  | .ldc_w _ => Nat.beq len 3 && Nat.beq (kd_nb (Int32.ofInt x.2.2)) a
  | _ => false
def kd_isL (op : Nat) (i : Instr) (a len : Nat) : Bool := match op, i with
  | 2, .iload_n k => Nat.beq len 1 && Nat.beq k.val a
  | 2, .iload k => Nat.beq len 2 && Nat.beq k a
  | 3, .aload_n k => Nat.beq len 1 && Nat.beq k.val a
  | 3, .aload k => Nat.beq len 2 && Nat.beq k a
  | 4, .lload_n k => Nat.beq len 1 && Nat.beq k.val a
  | 4, .lload k => Nat.beq len 2 && Nat.beq k a
  | 5, .istore_n k => Nat.beq len 1 && Nat.beq k.val a
  | 5, .istore k => Nat.beq len 2 && Nat.beq k a
  | 6, .astore_n k => Nat.beq len 1 && Nat.beq k.val a
  | 6, .astore k => Nat.beq len 2 && Nat.beq k a
  | 7, .lstore_n k => Nat.beq len 1 && Nat.beq k.val a
  | 7, .lstore k => Nat.beq len 2 && Nat.beq k a
  | _, _ => false
def kd_isB (op : Nat) (i : Instr) : Bool := match op, i with
  | 22, .iadd => true
  | 23, .isub => true
  | 24, .imul => true
  | 25, .iand => true
  | 26, .ior => true
  | 27, .ixor => true
  | 28, .ishl => true
  | 29, .ishr => true
  | 30, .idiv => true
  | 31, .irem => true
  | 32, .ineg => true
  | 33, .i2l => true
  | 34, .l2i => true
  | 36, .ladd => true
  | 36, .lsub => true
  | 36, .lmul => true
  | 36, .lor => true
  | 37, .land => true
  | 38, .lshl => true
  | 38, .lshr => true
  | 38, .lushr => true
  | 39, .ldiv => true
  | 39, .lrem => true
  | 41, .dup => true
  | 42, .dup_x1 => true
  | 43, .dup2 => true
  | 44, .pop => true
  | 48, .iaload => true
  | 49, .baload => true
  | 50, .aaload => true
  | 51, .iastore => true
  | 52, .bastore => true
  | 53, .arraylength => true
  | _, _ => false
def kd_isJ (i : Instr) (x : Nat × Nat × Int) (a len : Nat) : Bool := match i with
  | .lconst k => Nat.beq len 1 && Nat.beq (kd_nj (Int64.ofNat k.val)) a
  | .ldc2_w _ => Nat.beq len 3 && Nat.beq (kd_nj (Int64.ofInt x.2.2)) a
  | _ => false
def kd_isS (i : Instr) (pc a b : Nat) (l : List Nat) : Bool := match i with
  | .tableswitch d lo hi offs => decide (wk_to pc d = some b) && (decide (lo + 2147483648 = (a : Int)) && (decide (hi + 1 = lo + (l.length : Int)) && decide (offs.toList.map (wk_to pc) = l.map some)))
  | _ => false
def kd_isF (op : Nat) (i : Instr) (x : Nat × Nat × Int) (a b c : Nat) : Bool := match op, i with
  | 46, .getfield _ => Nat.beq x.1 a && Nat.beq x.2.1 b
  | 47, .putfield _ => Nat.beq x.1 a && (Nat.beq x.2.1 b && Nat.beq x.2.2.toNat c)
  | _, _ => false
def kd_isM (i : Instr) (x : Nat × Nat × Int) (a b c : Nat) : Bool := wk_isI i x.1 && (Nat.beq x.2.1 a && match wk_mt a with
  | some M2 => Nat.beq (wk_argn x.1 (wk_Mn M2)) b && (bif Nat.beq x.1 0 then Nat.beq (wk_Mc M2) c && Nat.blt c 99 else Nat.beq c 99 && (Nat.beq x.1 1 || Nat.beq x.1 3))
  | none => false)
def kd_isR (M : wk_M) (i : Instr) (a : Nat) : Bool := match a, i with
  | 0, .ireturn => decide (wk_Mr M = some .int)
  | 1, .ireturn => decide (wk_Mr M = some .boolean)
  | 2, .lreturn => decide (wk_Mr M = some .long)
  | 3, .return_ => decide (wk_Mr M = none)
  | _, _ => false
def kd_is8 (i : Instr) (a b len : Nat) : Bool := match i with
  | .iinc k m => Nat.beq len 3 && (Nat.beq k a && Nat.beq (kd_nb (Int32.ofInt m)) b)
  | _ => false
def kd_isG (i : Instr) (pc a : Nat) : Bool := match i with
  | .goto off => decide (wk_to pc off = some a)
  | _ => false
def kd_isIf (i : Instr) (pc a cn len : Nat) : Bool := match i with
  | .ifCond cd off => decide (wk_to pc off = some a) && (decide (cd = kd_cd cn) && Nat.beq len 3)
  | _ => false
def kd_isIc (i : Instr) (pc a cn len : Nat) : Bool := match i with
  | .if_icmp cd off => decide (wk_to pc off = some a) && (decide (cd = kd_cd cn) && Nat.beq len 3)
  | _ => false
def kd_isLc (M : wk_M) (i : Instr) (pc a b len : Nat) : Bool := match i with
  | .lcmp => Nat.beq len 4 && match wk_fetch M (pc + 1) with
    | some (p2, .ifCond cd off, _, _, _, _, _) => Nat.beq p2 (pc + 1) && (decide (wk_to (pc + 1) off = some a) && decide (cd = kd_cd b))
    | _ => false
  | _ => false
def kd_isMa (i : Instr) (x : Nat × Nat × Int) (k len : Nat) : Bool := match i with
  | .invokestatic _ => Nat.beq x.1 k && Nat.beq len 3
  | _ => false
def kd_isx (M : wk_M) (pc op a b c len : Nat) (l : List Nat) (i : Instr) (x : Nat × Nat × Int) : Bool :=
  bif Nat.ble op 9 then (bif Nat.beq op 1 then kd_isC i x a len else bif Nat.ble op 7 then kd_isL op i a len else bif Nat.beq op 8 then kd_is8 i a b len else kd_isG i pc a)
  else bif Nat.ble op 15 then kd_isIf i pc a (op - 10) len
  else bif Nat.ble op 21 then kd_isIc i pc a (op - 16) len
  else bif Nat.beq op 35 then kd_isLc M i pc a b len
  else bif Nat.beq op 40 then kd_isJ i x a len
  else bif Nat.beq op 45 then kd_isS i pc a b l
  else bif Nat.ble op 45 then kd_isB op i && Nat.beq len 1
  else bif Nat.ble op 47 then kd_isF op i x a b c && Nat.beq len 3
  else bif Nat.ble op 53 then kd_isB op i && Nat.beq len 1
  else bif Nat.beq op 54 then kd_isM i x a b c
  else bif Nat.ble op 58 then kd_isMa i x (op - 50) len
  else kd_isR M i a
def kd_is (M : wk_M) (r : kd_X) : Bool := match r with
  | (pc, op, a, b, c, len, l) => match wk_fetch M pc with
    | some (p, i, _, x, _, _, _) => Nat.beq p pc && kd_isx M pc op a b c len l i x
    | none => false
def kd_isA2 (M : wk_M) (X : List (List kd_X)) : Bool := X.all fun r => r.all (kd_is M)
end
section
-- 66.kstate
/-! ===== what a state of the second engine means ===== -/
def kd_kn (t : Nat) : Bool := Nat.ble t 3 || (Nat.beq t 5 || Nat.beq t 6)
def kd_gL (n : Nat) (ρ : Nat → Nat) (AL : List kd_V) (L : kc_L) : Prop := ∀ i v, AL[i]? = some v → kd_kn v.1 = true → ∃ x, kc_get L i = some x ∧ kd_g n ρ v x
def kd_gF (n : Nat) (ρ : Nat → Nat) (F : kd_F) (h : kc_H) : Prop := ∀ q ∈ F, kd_g n ρ q.2.2 (h q.1 q.2.1)
def kd_wt (ty : kd_T) (h : kc_H) : Prop := ∀ c i v, kd_rn (ty c) i = some v → kd_g 0 (fun _ => 0) v (h c i)
def kd_fr (W : kd_W) (h0 h : kc_H) : Prop := ∀ c i, (∀ q ∈ W, kd_inr c q.1 q.2.1 i q.2.2.1 q.2.2.2 = false) → h c i = h0 c i
def kd_rv (n : Nat) (ρ : Nat → Nat) (rv : Option kd_V) (xr : Option kc_V) : Prop := match rv, xr with
  | none, none => True
  | some v, some x => kd_g n ρ v x
  | _, _ => False
theorem kd_g0 {n : Nat} {ρ : Nat → Nat} {v : kd_V} {x : kc_V} (h : kd_g 0 (fun _ => 0) v x) : kd_g n ρ v x := kd_g_ag h (fun j hj => absurd hj (Nat.not_lt_zero j)) (Nat.zero_le _)
theorem kd_gL_ag {n n' : Nat} {ρ ρ' : Nat → Nat} {AL : List kd_V} {L : kc_L} (h : kd_gL n ρ AL L) (ha : kd_ag n ρ ρ') (hn : n ≤ n') : kd_gL n' ρ' AL L := fun i v h1 h2 => by
  obtain ⟨x, e1, e2⟩ := h i v h1 h2
  exact ⟨x, e1, kd_g_ag e2 ha hn⟩
theorem kd_gS_ag {n n' : Nat} {ρ ρ' : Nat → Nat} {AS : List kd_V} {S : List kc_V} (h : wk_f2 (kd_g n ρ) AS S) (ha : kd_ag n ρ ρ') (hn : n ≤ n') : wk_f2 (kd_g n' ρ') AS S := wk_f2_mono (fun _ _ q => kd_g_ag q ha hn) h
theorem kd_gF_ag {n n' : Nat} {ρ ρ' : Nat → Nat} {F : kd_F} {h : kc_H} (hf : kd_gF n ρ F h) (ha : kd_ag n ρ ρ') (hn : n ≤ n') : kd_gF n' ρ' F h := fun q hq => kd_g_ag (hf q hq) ha hn
section KDS
variable {n : Nat} {ρ : Nat → Nat} {iv : kd_I} {v w : kd_V} {x y : kc_V} {AL : List kd_V} {L : kc_L} {F : kd_F} {h h0 : kc_H} {W : kd_W} {ty : kd_T}
theorem kd_isI_r (h : kd_isI v.1 = true) (hv : kd_g n ρ v x) : ∃ a : Int32, x = .inl a := by
  obtain ⟨t, a, b⟩ := v
  have h := Nat.le_of_ble_eq_true h
  match t, h, hv with
  | 0, _, hv => obtain ⟨z, e, -⟩ := hv; exact ⟨z, e⟩
  | 1, _, hv => obtain ⟨-, z, e, -⟩ := hv; exact ⟨z, e⟩
  | _ + 2, h, _ => exact absurd h (by simp)
theorem kd_isA_r (h : kd_isA v.1 = true) (hv : kd_g n ρ v x) : (∃ k : Nat, x = .inr (.inr (.inl (some k)))) ∨ x = .inr (.inr (.inr 0)) := by
  obtain ⟨t, a, b⟩ := v
  unfold kd_isA at h
  rw [Bool.or_eq_true] at h
  rcases h with h | h
  · obtain rfl : t = 3 := Nat.eq_of_beq_eq_true h
    obtain ⟨k, e, -⟩ := hv
    exact Or.inl ⟨k, e⟩
  · obtain rfl : t = 5 := Nat.eq_of_beq_eq_true h
    exact Or.inr hv
theorem kd_lj_r (h : kd_lj v.1 = true) (hv : kd_g n ρ v x) : ∃ a : Int64, x = .inr (.inl a) := by
  obtain ⟨t, a, b⟩ := v
  unfold kd_lj at h
  rw [Bool.or_eq_true] at h
  rcases h with h | h
  · obtain rfl : t = 2 := Nat.eq_of_beq_eq_true h
    obtain ⟨z, e, -⟩ := hv
    exact ⟨z, e⟩
  · obtain rfl : t = 6 := Nat.eq_of_beq_eq_true h
    obtain ⟨-, z, e, -⟩ := hv
    exact ⟨z, e⟩
theorem kd_c1_r (h : kd_c1 v.1 = true) (hv : kd_g n ρ v x) : wk_c1 (kc_e x) = true ∧ kc_c2 x = false := by
  unfold kd_c1 at h
  rw [Bool.or_eq_true] at h
  rcases h with h | h
  · obtain ⟨a, rfl⟩ := kd_isI_r (v := v) h hv
    exact ⟨rfl, rfl⟩
  · rcases kd_isA_r (v := v) h hv with ⟨k, rfl⟩ | rfl
    · exact ⟨rfl, rfl⟩
    · exact ⟨rfl, rfl⟩
theorem kd_nlj {t : Nat} (hk : kd_kn t = true) (hl : kd_lj t = false) : kd_c1 t = true := by
  unfold kd_kn at hk
  unfold kd_lj at hl
  unfold kd_c1
  match t, hk, hl with
  | 0, _, _ => rfl
  | 1, _, _ => rfl
  | 2, _, hl => cases hl
  | 3, _, _ => rfl
  | 4, hk, _ => cases hk
  | 5, _, _ => rfl
  | 6, _, hl => cases hl
  | _ + 7, hk, _ => cases hk
theorem kd_get_r {i : Nat} {p : Nat → Bool} {k : kd_V → Bool} (h : kd_get AL i p k = true) (hp : ∀ t, p t = true → kd_kn t = true) (hL : kd_gL n ρ AL L) : ∃ v x, kc_get L i = some x ∧ kd_g n ρ v x ∧ p v.1 = true ∧ k v = true := by
  unfold kd_get at h
  rw [wk_at_eq] at h
  cases ha : AL[i]? with
  | none => rw [ha] at h; cases h
  | some q =>
    obtain ⟨t, a, b⟩ := q
    rw [ha] at h
    obtain ⟨h1, h2⟩ := kd_bt h
    obtain ⟨x, e1, e2⟩ := hL i _ ha (hp t h1)
    exact ⟨_, x, e1, e2, h1, h2⟩
theorem kc_get_f (f : Nat × kc_V → Bool) : ∀ (L : kc_L) (j : Nat) (x : kc_V), kc_get L j = some x → (∀ q : Nat × kc_V, q.1 = j → q.2 = x → f q = true) → kc_get (L.filter f) j = some x
  | [], _, _, h, _ => by cases h
  | (i, v) :: L, j, x, h, hf => by
    have h : (if Nat.beq i j then some v else kc_get L j) = some x := h
    cases hb : Nat.beq i j with
    | true =>
      rw [hb] at h
      simp only [if_true, Option.some.injEq] at h
      rw [List.filter_cons_of_pos (hf (i, v) (Nat.eq_of_beq_eq_true hb) h)]
      show (if Nat.beq i j then some v else kc_get (L.filter f) j) = some x
      rw [hb, if_pos rfl, h]
    | false =>
      rw [hb] at h
      simp only [Bool.false_eq_true, if_false] at h
      have ih := kc_get_f f L j x h hf
      cases hq : f (i, v) with
      | false => rw [List.filter_cons_of_neg (by rw [hq]; decide)]; exact ih
      | true =>
        rw [List.filter_cons_of_pos hq]
        show (if Nat.beq i j then some v else kc_get (L.filter f) j) = some x
        rw [hb, if_neg (by decide)]
        exact ih
theorem kd_okp_r {i j : Nat} (h : kd_okp AL i = true) (hj : j + 1 = i) {w : kd_V} (hw : AL[j]? = some w) : kd_lj w.1 = false := by
  unfold kd_okp at h
  cases h0 : Nat.beq i 0 with
  | true => have := Nat.eq_of_beq_eq_true h0; omega
  | false =>
    rw [h0] at h
    rw [show i - 1 = j by omega, wk_at_eq, hw] at h
    obtain ⟨t, a, b⟩ := w
    simp only [cond_false] at h
    cases hl : kd_lj t with
    | true => rw [hl] at h; cases h
    | false => rfl
theorem kd_st1_r {nL i : Nat} {k : List kd_V → Bool} (h : kd_st1 nL AL i v k = true) (hL : kd_gL n ρ AL L) (hv : kd_g n ρ v x) (hx : kc_c2 x = false) : i < nL ∧ ∃ AL', kd_gL n ρ AL' (kc_st1 L i x) ∧ k AL' = true := by
  unfold kd_st1 at h
  obtain ⟨h1, h2⟩ := kd_bt h
  rw [Bool.and_eq_true] at h1
  rw [wk_put_eq] at h2
  refine ⟨wk_blt h1.1, _, fun j w hj hk => ?_, h2⟩
  rw [List.getElem?_set] at hj
  by_cases e : i = j
  · subst e
    rw [if_pos rfl] at hj
    split at hj
    · cases hj
      refine ⟨x, ?_, hv⟩
      show (if Nat.beq i i then some x else _) = some x
      rw [kc_beq, if_pos rfl]
    · cases hj
  · rw [if_neg e] at hj
    obtain ⟨y, e1, e2⟩ := hL j w hj hk
    refine ⟨y, ?_, e2⟩
    show (if Nat.beq i j then some x else _) = some y
    have hb : Nat.beq i j = false := by
      cases hb : Nat.beq i j with
      | true => exact absurd (Nat.eq_of_beq_eq_true hb) e
      | false => rfl
    rw [hb, if_neg (by decide)]
    refine kc_get_f _ L j y e1 (fun q q1 q2 => ?_)
    rw [q1, q2]
    have n1 : (j == i) = false := by simp; omega
    rw [n1]
    by_cases e3 : j + 1 = i
    · have := kd_c1_r (kd_nlj hk (kd_okp_r h1.2 e3 hj)) e2
      rw [this.2]
      simp
    · have n2 : (j + 1 == i) = false := by simp; omega
      rw [n2]
      rfl
theorem kd_st2_r {nL i : Nat} {k : List kd_V → Bool} (h : kd_st2 nL AL i v k = true) (hL : kd_gL n ρ AL L) (hv : kd_g n ρ v x) : i + 1 < nL ∧ ∃ AL', kd_gL n ρ AL' (kc_st2 L i x) ∧ k AL' = true := by
  unfold kd_st2 at h
  obtain ⟨h1, h2⟩ := kd_bt h
  rw [Bool.and_eq_true] at h1
  rw [wk_put_eq, wk_put_eq] at h2
  refine ⟨wk_blt h1.1, _, fun j w hj hk => ?_, h2⟩
  rw [List.getElem?_set] at hj
  by_cases e0 : i + 1 = j
  · rw [if_pos e0] at hj
    split at hj
    · cases hj
      cases hk
    · cases hj
  · rw [if_neg e0, List.getElem?_set] at hj
    by_cases e : i = j
    · subst e
      rw [if_pos rfl] at hj
      split at hj
      · cases hj
        refine ⟨x, ?_, hv⟩
        show (if Nat.beq i i then some x else _) = some x
        rw [kc_beq, if_pos rfl]
      · cases hj
    · rw [if_neg e] at hj
      obtain ⟨y, e1, e2⟩ := hL j w hj hk
      refine ⟨y, ?_, e2⟩
      show (if Nat.beq i j then some x else _) = some y
      have hb : Nat.beq i j = false := by
        cases hb : Nat.beq i j with
        | true => exact absurd (Nat.eq_of_beq_eq_true hb) e
        | false => rfl
      rw [hb, if_neg (by decide)]
      refine kc_get_f _ L j y e1 (fun q q1 q2 => ?_)
      rw [q1, q2]
      have n1 : (j == i) = false := by simp; omega
      have n3 : (j == i + 1) = false := by simp; omega
      rw [n1, n3]
      by_cases e3 : j + 1 = i
      · have := kd_c1_r (kd_nlj hk (kd_okp_r h1.2 e3 hj)) e2
        rw [this.2]
        simp
      · have n2 : (j + 1 == i) = false := by simp; omega
        rw [n2]
        rfl
/-! places -/
theorem kd_jn_l (h : kd_g n ρ v x) : kd_g n ρ (kd_jn v w) x := by
  obtain ⟨t, a, b⟩ := v
  obtain ⟨s, c, d⟩ := w
  show kd_g n ρ (bif Nat.beq t s && (Nat.beq t 0 || (Nat.beq t 2 || Nat.beq t 3)) then (t, kd_mn a c, kd_mx b d) else (9, 0, 0)) x
  cases hc : Nat.beq t s && (Nat.beq t 0 || (Nat.beq t 2 || Nat.beq t 3)) with
  | false => exact trivial
  | true =>
    simp only [cond_true, kd_mn_r, kd_mx_r]
    simp only [Bool.and_eq_true, Bool.or_eq_true] at hc
    rcases hc.2 with h2 | h2 | h2
    · obtain rfl : t = 0 := Nat.eq_of_beq_eq_true h2
      obtain ⟨z, e1, e2, e3⟩ := h
      exact ⟨z, e1, by omega, by omega⟩
    · obtain rfl : t = 2 := Nat.eq_of_beq_eq_true h2
      obtain ⟨z, e1, e2, e3⟩ := h
      exact ⟨z, e1, by omega, by omega⟩
    · obtain rfl : t = 3 := Nat.eq_of_beq_eq_true h2
      obtain ⟨z, e1, e2, e3⟩ := h
      exact ⟨z, e1, by omega, by omega⟩
theorem kd_jn_r (h : kd_g n ρ w x) : kd_g n ρ (kd_jn v w) x := by
  obtain ⟨t, a, b⟩ := v
  obtain ⟨s, c, d⟩ := w
  show kd_g n ρ (bif Nat.beq t s && (Nat.beq t 0 || (Nat.beq t 2 || Nat.beq t 3)) then (t, kd_mn a c, kd_mx b d) else (9, 0, 0)) x
  cases hc : Nat.beq t s && (Nat.beq t 0 || (Nat.beq t 2 || Nat.beq t 3)) with
  | false => exact trivial
  | true =>
    simp only [cond_true, kd_mn_r, kd_mx_r]
    simp only [Bool.and_eq_true, Bool.or_eq_true] at hc
    obtain rfl := Nat.eq_of_beq_eq_true hc.1
    rcases hc.2 with h2 | h2 | h2
    · obtain rfl : t = 0 := Nat.eq_of_beq_eq_true h2
      obtain ⟨z, e1, e2, e3⟩ := h
      exact ⟨z, e1, by omega, by omega⟩
    · obtain rfl : t = 2 := Nat.eq_of_beq_eq_true h2
      obtain ⟨z, e1, e2, e3⟩ := h
      exact ⟨z, e1, by omega, by omega⟩
    · obtain rfl : t = 3 := Nat.eq_of_beq_eq_true h2
      obtain ⟨z, e1, e2, e3⟩ := h
      exact ⟨z, e1, by omega, by omega⟩
theorem kd_rgj_r : ∀ (r : List (Nat × kd_V)) (lo hi : Nat) (u : kd_V), kd_rgj r lo hi = some u → ∀ i, lo ≤ i → i ≤ hi → ∃ t, kd_rn r i = some t ∧ ∀ x : kc_V, kd_g n ρ t x → kd_g n ρ u x
  | [], _, _, _, h, _, _, _ => by cases h
  | (m, v) :: r, lo, hi, u, h, i, h1, h2 => by
    have h : (bif Nat.blt hi m then some v else bif Nat.ble m lo then kd_rgj r (lo - m) (hi - m) else match kd_rgj r 0 (hi - m) with
      | some w => some (kd_jn v w)
      | none => none) = some u := h
    show ∃ t, (bif Nat.blt i m then some v else kd_rn r (i - m)) = some t ∧ _
    cases c1 : Nat.blt hi m with
    | true =>
      rw [c1] at h
      cases h
      have := wk_blt c1
      rw [kc_blt (show i < m by omega)]
      exact ⟨v, rfl, fun x hx => hx⟩
    | false =>
      rw [c1] at h
      simp only [cond_false] at h
      have c1 : ¬ hi < m := fun q => by rw [kc_blt q] at c1; cases c1
      cases c2 : Nat.ble m lo with
      | true =>
        rw [c2] at h
        have := Nat.le_of_ble_eq_true c2
        have hb : Nat.blt i m = false := by
          cases hb : Nat.blt i m with
          | true => have := wk_blt hb; omega
          | false => rfl
        rw [hb]
        exact kd_rgj_r r _ _ u h (i - m) (by omega) (by omega)
      | false =>
        rw [c2] at h
        simp only [cond_false] at h
        cases hr : kd_rgj r 0 (hi - m) with
        | none => rw [hr] at h; cases h
        | some w =>
          rw [hr] at h
          cases h
          cases hb : Nat.blt i m with
          | true => exact ⟨v, rfl, fun x hx => kd_jn_l hx⟩
          | false =>
            have hb : ¬ i < m := fun q => by rw [kc_blt q] at hb; cases hb
            obtain ⟨t, e1, e2⟩ := kd_rgj_r r _ _ w hr (i - m) (by omega) (by omega)
            exact ⟨t, e1, fun x hx => kd_jn_r (e2 x hx)⟩
theorem kd_rgc_r (hw : kd_wt ty h) : ∀ (m c lo hi : Nat) (u : kd_V), kd_rgc ty m c lo hi = some u → ∀ c0 i, c ≤ c0 → c0 < c + m → lo ≤ i → i ≤ hi → kd_g n ρ u (h c0 i)
  | 0, c, _, _, _, h, _, _, _, _, _, _ => by cases h
  | m + 1, c, lo, hi, u, hh, c0, i, h1, h2, h3, h4 => by
    have hh : (match kd_rgj (ty c) lo hi with
      | none => none
      | some v => bif Nat.beq m 0 then some v else match kd_rgc ty m (c + 1) lo hi with
        | some w => some (kd_jn v w)
        | none => none) = some u := hh
    cases hr : kd_rgj (ty c) lo hi with
    | none => rw [hr] at hh; cases hh
    | some v =>
      rw [hr] at hh
      simp only at hh
      have first : c0 = c → kd_g n ρ v (h c0 i) := fun e => by
        subst e
        obtain ⟨t, e1, e2⟩ := kd_rgj_r (n := n) (ρ := ρ) (ty c0) lo hi v hr i h3 h4
        exact e2 _ (kd_g0 (hw c0 i t e1))
      cases hm : Nat.beq m 0 with
      | true =>
        rw [hm] at hh
        cases hh
        have := Nat.eq_of_beq_eq_true hm
        exact first (by omega)
      | false =>
        rw [hm] at hh
        simp only [cond_false] at hh
        cases hc : kd_rgc ty m (c + 1) lo hi with
        | none => rw [hc] at hh; cases hh
        | some w =>
          rw [hc] at hh
          cases hh
          by_cases e : c0 = c
          · exact kd_jn_l (first e)
          · exact kd_jn_r (kd_rgc_r hw m (c + 1) lo hi w hc c0 i (by omega) (by omega) h3 h4)
theorem kd_rle_r (hb : kd_bx ρ iv n) (hv : kd_g n ρ v x) : ∀ (r : List (Nat × kd_V)) (lo hi : Nat), kd_rle iv n v r lo hi = true → ∀ i t, lo ≤ i → i ≤ hi → kd_rn r i = some t → kd_g 0 (fun _ => 0) t x
  | [], _, _, h, _, _, _, _, _ => by cases h
  | (m, w) :: r, lo, hi, h, i, t, h1, h2, h3 => by
    have h : (bif Nat.ble m lo then kd_rle iv n v r (lo - m) (hi - m) else kd_le iv n v w && (bif Nat.blt hi m then true else kd_rle iv n v r 0 (hi - m))) = true := h
    have h3 : (bif Nat.blt i m then some w else kd_rn r (i - m)) = some t := h3
    cases c1 : Nat.ble m lo with
    | true =>
      rw [c1] at h
      have := Nat.le_of_ble_eq_true c1
      have hb2 : Nat.blt i m = false := by
        cases hb2 : Nat.blt i m with
        | true => have := wk_blt hb2; omega
        | false => rfl
      rw [hb2] at h3
      exact kd_rle_r hb hv r _ _ h (i - m) t (by omega) (by omega) h3
    | false =>
      rw [c1] at h
      simp only [cond_false, Bool.and_eq_true] at h
      cases hb2 : Nat.blt i m with
      | true =>
        rw [hb2] at h3
        cases h3
        exact kd_le_r h.1 hb hv
      | false =>
        rw [hb2] at h3
        have hb3 : ¬ i < m := fun q => by rw [kc_blt q] at hb2; cases hb2
        have h4 := h.2
        cases c2 : Nat.blt hi m with
        | true => have := wk_blt c2; omega
        | false =>
          rw [c2] at h4
          exact kd_rle_r hb hv r _ _ h4 (i - m) t (by omega) (by omega) h3
theorem kd_fa_r : ∀ (F : kd_F) (c i : Nat) (u : kd_V), kd_fa F c i = some u → (c, i, u) ∈ F
  | [], _, _, _, h => by cases h
  | (c0, i0, v0) :: r, c, i, u, h => by
    have h : (bif Nat.beq c0 c && Nat.beq i0 i then some v0 else kd_fa r c i) = some u := h
    cases hc : Nat.beq c0 c && Nat.beq i0 i with
    | true =>
      rw [hc] at h
      cases h
      rw [Bool.and_eq_true] at hc
      rw [Nat.eq_of_beq_eq_true hc.1, Nat.eq_of_beq_eq_true hc.2]
      exact List.mem_cons_self
    | false =>
      rw [hc] at h
      exact List.mem_cons_of_mem _ (kd_fa_r r c i u h)
theorem kd_kl_r {c1 c2 i1 i2 : Nat} : ∀ (F : kd_F) (k : kd_F → Bool), kd_kl F c1 c2 i1 i2 k = true → ∃ F', (∀ q ∈ F', q ∈ F ∧ kd_inr q.1 c1 c2 q.2.1 i1 i2 = false) ∧ k F' = true
  | [], k, h => ⟨[], fun q hq => (by cases hq), h⟩
  | (c, i, v) :: r, k, h => by
    have h : (bif kd_inr c c1 c2 i i1 i2 then kd_kl r c1 c2 i1 i2 k else kd_kl r c1 c2 i1 i2 (fun r => k ((c, i, v) :: r))) = true := h
    cases hc : kd_inr c c1 c2 i i1 i2 with
    | true =>
      rw [hc] at h
      obtain ⟨F', h1, h2⟩ := kd_kl_r r k h
      exact ⟨F', fun q hq => ⟨List.mem_cons_of_mem _ (h1 q hq).1, (h1 q hq).2⟩, h2⟩
    | false =>
      rw [hc] at h
      obtain ⟨F', h1, h2⟩ := kd_kl_r r _ h
      refine ⟨(c, i, v) :: F', fun q hq => ?_, h2⟩
      rcases List.mem_cons.mp hq with rfl | hq
      · exact ⟨List.mem_cons_self, hc⟩
      · exact ⟨List.mem_cons_of_mem _ (h1 q hq).1, (h1 q hq).2⟩
theorem kd_klW_r : ∀ (W : kd_W) (F : kd_F) (k : kd_F → Bool), kd_klW W F k = true → ∃ F', (∀ q ∈ F', q ∈ F ∧ ∀ r ∈ W, kd_inr q.1 r.1 r.2.1 q.2.1 r.2.2.1 r.2.2.2 = false) ∧ k F' = true
  | [], F, k, h => ⟨F, fun q hq => ⟨hq, fun r hr => (by cases hr)⟩, h⟩
  | (c1, c2, i1, i2) :: r, F, k, h => by
    obtain ⟨F1, a1, a2⟩ := kd_kl_r F _ h
    obtain ⟨F2, b1, b2⟩ := kd_klW_r r F1 k a2
    refine ⟨F2, fun q hq => ⟨(a1 q (b1 q hq).1).1, fun s hs => ?_⟩, b2⟩
    rcases List.mem_cons.mp hs with rfl | hs
    · exact (a1 q (b1 q hq).1).2
    · exact (b1 q hq).2 s hs
theorem kd_inr_r {c c1 c2 i i1 i2 : Nat} : kd_inr c c1 c2 i i1 i2 = true ↔ c1 ≤ c ∧ c ≤ c2 ∧ i1 ≤ i ∧ i ≤ i2 := by
  unfold kd_inr
  simp only [Bool.and_eq_true, Nat.ble_eq]
theorem kd_cov_r : ∀ (W : kd_W) (c1 c2 i1 i2 : Nat), kd_cov W c1 c2 i1 i2 = true → ∃ q ∈ W, ∀ c i, c1 ≤ c → c ≤ c2 → i1 ≤ i → i ≤ i2 → kd_inr c q.1 q.2.1 i q.2.2.1 q.2.2.2 = true
  | [], _, _, _, _, h => by cases h
  | (a, b, x, y) :: r, c1, c2, i1, i2, h => by
    have h : (bif Nat.ble a c1 && (Nat.ble c2 b && (Nat.ble x i1 && Nat.ble i2 y)) then true else kd_cov r c1 c2 i1 i2) = true := h
    cases hc : Nat.ble a c1 && (Nat.ble c2 b && (Nat.ble x i1 && Nat.ble i2 y)) with
    | true =>
      simp only [Bool.and_eq_true, Nat.ble_eq] at hc
      exact ⟨_, List.mem_cons_self, fun c i h1 h2 h3 h4 => kd_inr_r.mpr (by simp only; omega)⟩
    | false =>
      rw [hc] at h
      obtain ⟨q, q1, q2⟩ := kd_cov_r r c1 c2 i1 i2 h
      exact ⟨q, List.mem_cons_of_mem _ q1, q2⟩
/-- what is written is told -/
theorem kd_aw_r {c1 c2 i1 i2 : Nat} {k : kd_W → Bool} (hk : kd_aw W c1 c2 i1 i2 k = true) : ∃ W', k W' = true ∧ (∀ q ∈ W, q ∈ W') ∧ ∀ c i, c1 ≤ c → c ≤ c2 → i1 ≤ i → i ≤ i2 → ∃ q ∈ W', kd_inr c q.1 q.2.1 i q.2.2.1 q.2.2.2 = true := by
  unfold kd_aw at hk
  cases hc : kd_cov W c1 c2 i1 i2 with
  | true =>
    rw [hc] at hk
    obtain ⟨q, q1, q2⟩ := kd_cov_r W c1 c2 i1 i2 hc
    exact ⟨W, hk, fun q hq => hq, fun c i h1 h2 h3 h4 => ⟨q, q1, q2 c i h1 h2 h3 h4⟩⟩
  | false =>
    rw [hc] at hk
    exact ⟨_, hk, fun q hq => List.mem_cons_of_mem _ hq, fun c i h1 h2 h3 h4 => ⟨_, List.mem_cons_self, kd_inr_r.mpr ⟨h1, h2, h3, h4⟩⟩⟩
theorem kd_awW_r : ∀ (V W : kd_W) (k : kd_W → Bool), kd_awW V W k = true → ∃ W', k W' = true ∧ (∀ q ∈ W, q ∈ W') ∧ ∀ r ∈ V, ∀ c i, kd_inr c r.1 r.2.1 i r.2.2.1 r.2.2.2 = true → ∃ q ∈ W', kd_inr c q.1 q.2.1 i q.2.2.1 q.2.2.2 = true
  | [], W, k, h => ⟨W, h, fun q hq => hq, fun r hr => (by cases hr)⟩
  | (c1, c2, i1, i2) :: V, W, k, h => by
    obtain ⟨W1, a1, a2, a3⟩ := kd_aw_r (W := W) h
    obtain ⟨W2, b1, b2, b3⟩ := kd_awW_r V W1 k a1
    refine ⟨W2, b1, fun q hq => b2 q (a2 q hq), fun r hr c i hi => ?_⟩
    rcases List.mem_cons.mp hr with rfl | hr
    · obtain ⟨q1, q2, q3, q4⟩ := kd_inr_r.mp hi
      obtain ⟨q, g1, g2⟩ := a3 c i q1 q2 q3 q4
      exact ⟨q, b2 q g1, g2⟩
    · exact b3 r hr c i hi
/-- a heap that differs from another only at places that are told -/
theorem kd_fr_step {W' : kd_W} {h' : kc_H} (hf : kd_fr W h0 h) (h1 : ∀ q ∈ W, q ∈ W') (h2 : ∀ c i, ¬ h' c i = h c i → ∃ q ∈ W', kd_inr c q.1 q.2.1 i q.2.2.1 q.2.2.2 = true) : kd_fr W' h0 h' := fun c i hq => by
  by_cases e : h' c i = h c i
  · rw [e]
    exact hf c i (fun q hq2 => hq q (h1 q hq2))
  · obtain ⟨q, q1, q2⟩ := h2 c i e
    rw [hq q q1] at q2
    cases q2
end KDS
end
section
-- 67.kcells
/-! ===== the second engine's loads and stores ===== -/
section KDL
variable {n : Nat} {ρ : Nat → Nat} {iv : kd_I} {v w : kd_V} {x y : kc_V} {F : kd_F} {h h0 : kc_H} {W : kd_W} {ty : kd_T}
theorem kd_nmF_r {c i : Nat} {k : kd_KF} (hk : kd_nmF iv n F c i v k = true) (hb : kd_bx ρ iv n) (hF : kd_gF n ρ F h) (hv : kd_g n ρ v (h c i)) : ∃ (ρ' : Nat → Nat) (iv' : kd_I) (n' : Nat) (F' : kd_F) (v' : kd_V), kd_ag n ρ ρ' ∧ n ≤ n' ∧ kd_bx ρ' iv' n' ∧ kd_gF n' ρ' F' h ∧ kd_g n' ρ' v' (h c i) ∧ k iv' n' F' v' = true := by
  unfold kd_nmF at hk
  rcases kd_bif hk with ⟨-, hk⟩ | ⟨-, hk⟩
  · obtain ⟨ρ', iv', n', v', a1, a2, a3, a4, a5⟩ := kd_nm_r hk hb hv
    refine ⟨ρ', iv', n', _, v', a1, a2, a3, fun q hq => ?_, a4, a5⟩
    rcases List.mem_cons.mp hq with rfl | hq
    · exact a4
    · exact kd_g_ag (hF q hq) a1 a2
  · exact ⟨ρ, iv, n, F, v, kd_ag_rf, Nat.le_refl _, hb, hF, hv, hk⟩
theorem kd_fV_r {k : kd_V → Bool} (h : kd_fV v k = true) : k v = true := by
  obtain ⟨t, a, b⟩ := v
  unfold kd_fV at h
  simp only [wk_fN_eq] at h
  exact h
theorem kd_ld_r {c1 c2 i1 i2 c i : Nat} {k : kd_KF} (hk : kd_ld ty iv n F c1 c2 i1 i2 k = true) (hb : kd_bx ρ iv n) (hF : kd_gF n ρ F h) (hw : kd_wt ty h) (h1 : c1 ≤ c) (h2 : c ≤ c2) (h3 : i1 ≤ i) (h4 : i ≤ i2) : ∃ (ρ' : Nat → Nat) (iv' : kd_I) (n' : Nat) (F' : kd_F) (v' : kd_V), kd_ag n ρ ρ' ∧ n ≤ n' ∧ kd_bx ρ' iv' n' ∧ kd_gF n' ρ' F' h ∧ kd_g n' ρ' v' (h c i) ∧ k iv' n' F' v' = true := by
  unfold kd_ld at hk
  rcases kd_bif hk with ⟨hc, hk⟩ | ⟨-, hk⟩
  · rw [Bool.and_eq_true] at hc
    have e1 := Nat.eq_of_beq_eq_true hc.1
    have e2 := Nat.eq_of_beq_eq_true hc.2
    obtain rfl : c1 = c := by omega
    obtain rfl : i1 = i := by omega
    cases hf : kd_fa F c1 i1 with
    | some u =>
      rw [hf] at hk
      exact kd_nmF_r hk hb hF (hF _ (kd_fa_r F c1 i1 u hf))
    | none =>
      rw [hf] at hk
      simp only at hk
      cases hr : kd_rn (ty c1) i1 with
      | none => rw [hr] at hk; cases hk
      | some u =>
        rw [hr] at hk
        exact kd_nmF_r hk hb hF (kd_g0 (hw c1 i1 u hr))
  · cases hr : kd_rgc ty (c2 - c1 + 1) c1 i1 i2 with
    | none => rw [hr] at hk; cases hk
    | some u =>
      rw [hr] at hk
      have hk := kd_fV_r hk
      obtain ⟨ρ', iv', n', v', a1, a2, a3, a4, a5⟩ := kd_nm_r hk hb (kd_rgc_r hw _ _ _ _ u hr c i h1 (by omega) h3 h4)
      exact ⟨ρ', iv', n', F, v', a1, a2, a3, kd_gF_ag hF a1 a2, a4, a5⟩
theorem kd_upd_wt {c i : Nat} (hw : kd_wt ty h) (hv : ∀ t, kd_rn (ty c) i = some t → kd_g 0 (fun _ => 0) t x) : kd_wt ty (kc_upd h c i x) := fun c2 i2 t ht => by
  by_cases e : c2 = c ∧ i2 = i
  · obtain ⟨rfl, rfl⟩ := e
    have e2 : kc_upd h c2 i2 x c2 i2 = x := by rw [kc_upd_i, if_pos rfl]
    rw [e2]
    exact hv t ht
  · have e2 : kc_upd h c i x c2 i2 = h c2 i2 := by unfold kc_upd; rw [if_neg e]
    rw [e2]
    exact hw c2 i2 t ht
theorem kd_sto_r {c1 c2 i1 i2 c i : Nat} {k : kd_I → Nat → kd_F → kd_W → Bool} (hk : kd_sto ty iv n F W c1 c2 i1 i2 v k = true) (hb : kd_bx ρ iv n) (hv : kd_g n ρ v x) (hF : kd_gF n ρ F h) (hw : kd_wt ty h) (hf : kd_fr W h0 h) (h1 : c1 ≤ c) (h2 : c ≤ c2) (h3 : i1 ≤ i) (h4 : i ≤ i2) : ∃ (ρ' : Nat → Nat) (iv' : kd_I) (n' : Nat) (F' : kd_F) (W' : kd_W), kd_ag n ρ ρ' ∧ n ≤ n' ∧ kd_bx ρ' iv' n' ∧ kd_gF n' ρ' F' (kc_upd h c i x) ∧ kd_wt ty (kc_upd h c i x) ∧ kd_fr W' h0 (kc_upd h c i x) ∧ k iv' n' F' W' = true := by
  unfold kd_sto at hk
  obtain ⟨g1, hk⟩ := kd_bt hk
  have hty : kd_wt ty (kc_upd h c i x) := kd_upd_wt hw (fun t ht => kd_rle_r hb hv (ty c) i1 i2 (kd_each_r _ _ g1 c h1 (by omega)) i t h3 h4 ht)
  obtain ⟨F1, f1, hk⟩ := kd_kl_r F _ hk
  obtain ⟨W1, hk, w1, w2⟩ := kd_aw_r (W := W) hk
  have hF1 : kd_gF n ρ F1 (kc_upd h c i x) := fun q hq => by
    obtain ⟨q1, q2⟩ := f1 q hq
    have e : kc_upd h c i x q.1 q.2.1 = h q.1 q.2.1 := by
      unfold kc_upd
      rw [if_neg]
      rintro ⟨e1, e2⟩
      rw [e1, e2, kd_inr_r.mpr ⟨h1, h2, h3, h4⟩] at q2
      cases q2
    rw [e]
    exact hF q q1
  have hfr : kd_fr W1 h0 (kc_upd h c i x) := kd_fr_step hf w1 (fun c0 i0 hne => by
    have : c0 = c ∧ i0 = i := by
      refine Classical.byContradiction fun q => hne ?_
      unfold kc_upd
      rw [if_neg q]
    obtain ⟨rfl, rfl⟩ := this
    exact w2 c0 i0 h1 h2 h3 h4)
  rcases kd_bif hk with ⟨hc, hk⟩ | ⟨-, hk⟩
  · rw [Bool.and_eq_true] at hc
    have e1 := Nat.eq_of_beq_eq_true hc.1
    have e2 := Nat.eq_of_beq_eq_true hc.2
    obtain rfl : c1 = c := by omega
    obtain rfl : i1 = i := by omega
    obtain ⟨ρ', iv', n', v', a1, a2, a3, a4, a5⟩ := kd_nm_r hk hb hv
    refine ⟨ρ', iv', n', _, W1, a1, a2, a3, fun q hq => ?_, hty, hfr, a5⟩
    rcases List.mem_cons.mp hq with rfl | hq
    · have e : kc_upd h c1 i1 x c1 i1 = x := by rw [kc_upd_i, if_pos rfl]
      rw [e]
      exact a4
    · exact kd_g_ag (hF1 q hq) a1 a2
  · exact ⟨ρ, iv, n, F1, W1, kd_ag_rf, Nat.le_refl _, hb, hF1, hty, hfr, hk⟩
theorem kd_ix_r {k : Nat → Nat → Bool} (hk : kd_ix iv n v k = true) (hb : kd_bx ρ iv n) (hv : kd_g n ρ v x) : ∃ (a : Int32) (l u : Nat), x = .inl a ∧ 0 ≤ a.toInt ∧ l ≤ a.toInt.toNat ∧ a.toInt.toNat ≤ u ∧ k l u = true := by
  unfold kd_ix at hk
  generalize hB : kd_B = B at hk
  have eB : B = 2147483648 := hB.symm
  obtain ⟨a, l, u, rfl, a1, a2, hk⟩ := kd_bd_r hk hb hv
  obtain ⟨c1, hk⟩ := kd_bt hk
  have c1 := Nat.le_of_ble_eq_true c1
  simp only [wk_fN_eq] at hk
  have ea := kd_nb_i a
  exact ⟨a, l - B, u - B, rfl, by omega, by omega, by omega, hk⟩
theorem kd_rf3_r {k : Nat → Nat → Bool} (hk : kd_rf3 v k = true) (hv : kd_g n ρ v x) : ∃ c a b : Nat, x = .inr (.inr (.inl (some c))) ∧ a ≤ c ∧ c ≤ b ∧ k a b = true := by
  obtain ⟨t, a, b⟩ := v
  have hk : (bif Nat.beq t 3 && Nat.ble a b then k a b else false) = true := hk
  obtain ⟨c1, hk2⟩ := kd_bt hk
  rw [Bool.and_eq_true] at c1
  obtain rfl : t = 3 := Nat.eq_of_beq_eq_true c1.1
  obtain ⟨c, e1, e2, e3⟩ := hv
  exact ⟨c, a, b, e1, e2, e3, hk2⟩
theorem kd_shA_r {p : Nat → Bool} {hi c : Nat} (hk : kd_shA p hi c = true) : ∃ t m, kc_shp c = some (0, t, m) ∧ p t = true ∧ hi < m ∧ c < kc_N := by
  unfold kd_shA at hk
  cases hs : kc_shp c with
  | none => rw [hs] at hk; cases hk
  | some q =>
    obtain ⟨s, t, m⟩ := q
    rw [hs] at hk
    simp only [Bool.and_eq_true] at hk
    obtain ⟨k1, k2, k3, k4⟩ := hk
    obtain rfl := Nat.eq_of_beq_eq_true k1
    exact ⟨t, m, rfl, k2, wk_blt k3, wk_blt k4⟩
theorem kd_shO_r {ci f c : Nat} (hk : kd_shO ci f c = true) : kc_obj (.inr (.inr (.inl (some c)))) ci f = some c := by
  unfold kd_shO at hk
  cases hs : kc_shp c with
  | none => rw [hs] at hk; cases hk
  | some q =>
    obtain ⟨s, t, m⟩ := q
    rw [hs] at hk
    simp only [Bool.and_eq_true] at hk
    obtain ⟨k1, k2, k3, k4, k5⟩ := hk
    obtain rfl := Nat.eq_of_beq_eq_true k1
    obtain rfl := Nat.eq_of_beq_eq_true k2
    have k3 := wk_blt k3
    have k4 := wk_blt k4
    have k5 := wk_blt k5
    unfold kc_obj
    simp only [hs]
    rw [if_pos ⟨k4, trivial, by omega, k3⟩]
theorem kd_ary_r {c t m : Nat} (hs : kc_shp c = some (0, t, m)) (hc : c < kc_N) : kc_ary (.inr (.inr (.inl (some c)))) = some (c, t, m) := by
  unfold kc_ary
  simp only [hs]
  rw [if_pos hc]
theorem kd_ixc {a : Int32} {m u : Nat} (h0 : 0 ≤ a.toInt) (h1 : a.toInt.toNat ≤ u) (h2 : u < m) : kc_ix (.inl a) m = some a.toInt.toNat := by
  unfold kc_ix
  simp only
  rw [if_pos ⟨h0, by omega⟩]
end KDL
end
section
-- 68.krow
/-! ===== a row of the second engine is right ===== -/
def kd_says (g : kc_G) (d : Nat) (M : wk_M) (Q : Option kc_V → kc_H → Prop) (ty : kd_T) (h0 : kc_H) (ρ0 : Nat → Nat) (n0 : Nat) (pc : Nat) (iv : kd_I) (n : Nat) (AL AS : List kd_V) (F : kd_F) (W : kd_W) : Prop :=
  n0 ≤ n → ∀ (ρ : Nat → Nat) (L : kc_L) (S : List kc_V) (h : kc_H), kd_ag n0 ρ0 ρ → kd_bx ρ iv n → kd_gL n ρ AL L → wk_f2 (kd_g n ρ) AS S → kd_gF n ρ F h → kd_wt ty h → kd_fr W h0 h → kc_Ev g d M Q pc L S h
/-- what a call must be good for -/
def kd_good (g : kc_G) (d : Nat) (ty : kd_T) (h0 : kc_H) (call : kd_Cl) : Prop := ∀ id av iv n F W k, call id av iv n F W k = true → ∀ (ρ : Nat → Nat) (xs : List kc_V) (h : kc_H), kd_bx ρ iv n → wk_f2 (kd_g n ρ) av xs → kd_gF n ρ F h → kd_wt ty h → kd_fr W h0 h →
  kc_Con g d id xs h (fun xr h' => ∃ (ρ' : Nat → Nat) (iv' : kd_I) (n' : Nat) (rv : Option kd_V) (F' : kd_F) (W' : kd_W), kd_ag n ρ ρ' ∧ n ≤ n' ∧ kd_bx ρ' iv' n' ∧ kd_rv n' ρ' rv xr ∧ kd_gF n' ρ' F' h' ∧ kd_wt ty h' ∧ kd_fr W' h0 h' ∧ k iv' n' rv F' W' = true)
def kd_rgood (Q : Option kc_V → kc_H → Prop) (ty : kd_T) (h0 : kc_H) (ρ0 : Nat → Nat) (n0 : Nat) (ret : kd_R) : Prop := ∀ iv n rv F W, ret iv n rv F W = true → n0 ≤ n → ∀ (ρ : Nat → Nat) (xr : Option kc_V) (h : kc_H), kd_ag n0 ρ0 ρ → kd_bx ρ iv n → kd_rv n ρ rv xr → kd_gF n ρ F h → kd_wt ty h → kd_fr W h0 h → Q xr h
theorem kd_bN {b c : Bool} {A B : Bool} (h : (bif b then A else B) = true) : (b = true ∧ A = true) ∨ (b = false ∧ B = true) := kd_bif h
section KDR
variable {g : kc_G} {d : Nat} {M : wk_M} {Q : Option kc_V → kc_H → Prop} {ty : kd_T} {h0 : kc_H} {ρ0 : Nat → Nat} {n0 : Nat} {call : kd_Cl} {ret : kd_R} {go : kd_Go} {pc op a b c len : Nat} {l : List Nat} {iv : kd_I} {n : Nat} {AL AS : List kd_V} {F : kd_F} {W : kd_W} {i : Instr} {nn : Nat} {x : Nat × Nat × Int} {wd : List Nat} {t : Nat} {q : Int}
/-- constants -/
theorem kd_isC_r (h : kd_isC i x a len = true) (nL pc : Nat) (L : kc_L) (S : List kc_V) : ∃ z : Int32, kd_nb z = a ∧ kc_pure nL i x.2.2 pc L S = some (pc + len, L, .inl z :: S) := by
  unfold kd_isC at h
  split at h
  all_goals first | (cases h; done) | (rw [Bool.and_eq_true] at h; obtain ⟨h1, h2⟩ := h; obtain rfl := Nat.eq_of_beq_eq_true h1; exact ⟨_, Nat.eq_of_beq_eq_true h2, rfl⟩)
theorem kd_isJ_r (h : kd_isJ i x a len = true) (nL pc : Nat) (L : kc_L) (S : List kc_V) : ∃ z : Int64, kd_nj z = a ∧ kc_pure nL i x.2.2 pc L S = some (pc + len, L, .inr (.inl z) :: S) := by
  unfold kd_isJ at h
  split at h
  all_goals first | (cases h; done) | (rw [Bool.and_eq_true] at h; obtain ⟨h1, h2⟩ := h; obtain rfl := Nat.eq_of_beq_eq_true h1; exact ⟨_, Nat.eq_of_beq_eq_true h2, rfl⟩)
theorem kd_isL2_r (h : kd_isL 2 i a len = true) (nL pc : Nat) (L : kc_L) (S : List kc_V) {z : Int32} (hg : kc_get L a = some (.inl z)) : kc_pure nL i x.2.2 pc L S = some (pc + len, L, .inl z :: S) := by
  unfold kd_isL at h
  split at h
  all_goals first | (cases h; done) | (rename_i e0; cases e0; done) | skip
  all_goals (rw [Bool.and_eq_true] at h; obtain ⟨h1, h2⟩ := h; obtain rfl := Nat.eq_of_beq_eq_true h1; obtain rfl := Nat.eq_of_beq_eq_true h2; simp only [kc_pure, kc_ldi, hg])
theorem kd_isL4_r (h : kd_isL 4 i a len = true) (nL pc : Nat) (L : kc_L) (S : List kc_V) {z : Int64} (hg : kc_get L a = some (.inr (.inl z))) : kc_pure nL i x.2.2 pc L S = some (pc + len, L, .inr (.inl z) :: S) := by
  unfold kd_isL at h
  split at h
  all_goals first | (cases h; done) | (rename_i e0; cases e0; done) | skip
  all_goals (rw [Bool.and_eq_true] at h; obtain ⟨h1, h2⟩ := h; obtain rfl := Nat.eq_of_beq_eq_true h1; obtain rfl := Nat.eq_of_beq_eq_true h2; simp only [kc_pure, kc_ldj, hg])
theorem kd_isL3_r (h : kd_isL 3 i a len = true) (nL pc : Nat) (L : kc_L) (S : List kc_V) {z : kc_V} (hz : (∃ k : Nat, z = .inr (.inr (.inl (some k)))) ∨ z = .inr (.inr (.inr 0))) (hg : kc_get L a = some z) : kc_pure nL i x.2.2 pc L S = some (pc + len, L, z :: S) := by
  unfold kd_isL at h
  split at h
  all_goals first | (cases h; done) | (rename_i e0; cases e0; done) | skip
  all_goals (rw [Bool.and_eq_true] at h; obtain ⟨h1, h2⟩ := h; obtain rfl := Nat.eq_of_beq_eq_true h1; obtain rfl := Nat.eq_of_beq_eq_true h2; rcases hz with ⟨k, rfl⟩ | rfl <;> simp only [kc_pure, kc_lda, hg])
theorem kd_isL5_r (h : kd_isL 5 i a len = true) {nL : Nat} (pc : Nat) (L : kc_L) (S : List kc_V) {z : Int32} (ha : a < nL) : kc_pure nL i x.2.2 pc L (.inl z :: S) = some (pc + len, kc_st1 L a (.inl z), S) := by
  unfold kd_isL at h
  split at h
  all_goals first | (cases h; done) | (rename_i e0; cases e0; done) | skip
  all_goals (rw [Bool.and_eq_true] at h; obtain ⟨h1, h2⟩ := h; obtain rfl := Nat.eq_of_beq_eq_true h1; obtain rfl := Nat.eq_of_beq_eq_true h2; simp only [kc_pure, kc_sti, ha, if_true])
theorem kd_isL6_r (h : kd_isL 6 i a len = true) {nL : Nat} (pc : Nat) (L : kc_L) (S : List kc_V) {z : kc_V} (hz : (∃ k : Nat, z = .inr (.inr (.inl (some k)))) ∨ z = .inr (.inr (.inr 0))) (ha : a < nL) : kc_pure nL i x.2.2 pc L (z :: S) = some (pc + len, kc_st1 L a z, S) := by
  unfold kd_isL at h
  split at h
  all_goals first | (cases h; done) | (rename_i e0; cases e0; done) | skip
  all_goals (rw [Bool.and_eq_true] at h; obtain ⟨h1, h2⟩ := h; obtain rfl := Nat.eq_of_beq_eq_true h1; obtain rfl := Nat.eq_of_beq_eq_true h2; rcases hz with ⟨k, rfl⟩ | rfl <;> simp only [kc_pure, kc_sta, ha, if_true])
theorem kd_isL7_r (h : kd_isL 7 i a len = true) {nL : Nat} (pc : Nat) (L : kc_L) (S : List kc_V) {z : Int64} (ha : a + 1 < nL) : kc_pure nL i x.2.2 pc L (.inr (.inl z) :: S) = some (pc + len, kc_st2 L a (.inr (.inl z)), S) := by
  unfold kd_isL at h
  split at h
  all_goals first | (cases h; done) | (rename_i e0; cases e0; done) | skip
  all_goals (rw [Bool.and_eq_true] at h; obtain ⟨h1, h2⟩ := h; obtain rfl := Nat.eq_of_beq_eq_true h1; obtain rfl := Nat.eq_of_beq_eq_true h2; simp only [kc_pure, kc_stj, ha, if_true])
/-- comparisons -/
theorem kd_cc_i (cn : Nat) (hc : cn ≤ 5) (z y : Int32) : kd_cc cn (kd_nb z) (kd_nb y) = kc_cnd (kd_cd cn) z.toInt y.toInt := by
  have e1 := kd_nb_i z
  have e2 := kd_nb_i y
  have q1 : (kd_nb z = kd_nb y) ↔ (z.toInt = y.toInt) := by omega
  have q2 : (kd_nb z < kd_nb y) ↔ (z.toInt < y.toInt) := by omega
  have q3 : (kd_nb y < kd_nb z) ↔ (y.toInt < z.toInt) := by omega
  match cn, hc with
  | 0, _ => show decide (kd_nb z = kd_nb y) = decide (z.toInt = y.toInt); exact decide_eq_decide.mpr q1
  | 1, _ => show (!decide (kd_nb z = kd_nb y)) = (!decide (z.toInt = y.toInt)); rw [decide_eq_decide.mpr q1]
  | 2, _ => show decide (kd_nb z < kd_nb y) = decide (z.toInt < y.toInt); exact decide_eq_decide.mpr q2
  | 3, _ => show (!decide (kd_nb z < kd_nb y)) = (!decide (z.toInt < y.toInt)); rw [decide_eq_decide.mpr q2]
  | 4, _ => show decide (kd_nb y < kd_nb z) = decide (y.toInt < z.toInt); exact decide_eq_decide.mpr q3
  | 5, _ => show (!decide (kd_nb y < kd_nb z)) = (!decide (y.toInt < z.toInt)); rw [decide_eq_decide.mpr q3]
  | _ + 6, h => exact absurd h (by omega)
theorem kd_cc_j (cn : Nat) (hc : cn ≤ 5) (z y : Int64) : kd_cc cn (kd_nj z) (kd_nj y) = kc_cnd (kd_cd cn) (kc_lcmp z y).toInt 0 := by
  have e1 := kd_nj_i z
  have e2 := kd_nj_i y
  have q1 : (kd_nj z = kd_nj y) ↔ ((kc_lcmp z y).toInt = 0) := by
    unfold kc_lcmp
    split
    · rename_i h; constructor
      · intro q; omega
      · intro q; exact absurd q (by decide)
    · split
      · rename_i h; constructor
        · intro q; omega
        · intro q; exact absurd q (by decide)
      · constructor
        · intro _; rfl
        · intro _; omega
  have q2 : (kd_nj z < kd_nj y) ↔ ((kc_lcmp z y).toInt < 0) := by
    unfold kc_lcmp
    split
    · rename_i h; constructor
      · intro q; omega
      · intro q; exact absurd q (by decide)
    · split
      · rename_i h; constructor
        · intro _; decide
        · intro _; omega
      · constructor
        · intro q; omega
        · intro q; exact absurd q (by decide)
  have q3 : (kd_nj y < kd_nj z) ↔ (0 < (kc_lcmp z y).toInt) := by
    unfold kc_lcmp
    split
    · rename_i h; constructor
      · intro _; decide
      · intro _; omega
    · split
      · rename_i h; constructor
        · intro q; omega
        · intro q; exact absurd q (by decide)
      · constructor
        · intro q; omega
        · intro q; exact absurd q (by decide)
  match cn, hc with
  | 0, _ => show decide (kd_nj z = kd_nj y) = decide ((kc_lcmp z y).toInt = 0); exact decide_eq_decide.mpr q1
  | 1, _ => show (!decide (kd_nj z = kd_nj y)) = (!decide ((kc_lcmp z y).toInt = 0)); rw [decide_eq_decide.mpr q1]
  | 2, _ => show decide (kd_nj z < kd_nj y) = decide ((kc_lcmp z y).toInt < 0); exact decide_eq_decide.mpr q2
  | 3, _ => show (!decide (kd_nj z < kd_nj y)) = (!decide ((kc_lcmp z y).toInt < 0)); rw [decide_eq_decide.mpr q2]
  | 4, _ => show decide (kd_nj y < kd_nj z) = decide (0 < (kc_lcmp z y).toInt); exact decide_eq_decide.mpr q3
  | 5, _ => show (!decide (kd_nj y < kd_nj z)) = (!decide (0 < (kc_lcmp z y).toInt)); rw [decide_eq_decide.mpr q3]
  | _ + 6, h => exact absurd h (by omega)
end KDR
end
