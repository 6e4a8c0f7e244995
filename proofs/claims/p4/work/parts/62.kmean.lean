/-! ===== what the second engine's values mean ===== -/
def kd_g (n : Nat) (ρ : Nat → Nat) (v : kd_V) (x : kc_V) : Prop := match v with
  | (0, lo, hi) => ∃ a : Int32, x = .inl a ∧ lo ≤ kd_nb a ∧ kd_nb a ≤ hi
  | (1, j, k) => j < n ∧ ∃ a : Int32, x = .inl a ∧ kd_nb a + 2147483648 = ρ j + k
  | (2, lo, hi) => ∃ a : Int64, x = .inr (.inl a) ∧ lo ≤ kd_nj a ∧ kd_nj a ≤ hi
  | (3, lo, hi) => ∃ k : Nat, x = .inr (.inr (.inl (some k))) ∧ lo ≤ k ∧ k ≤ hi
  | (5, _, _) => x = .inr (.inr (.inr 0))
  | (6, j, k) => j < n ∧ ∃ a : Int64, x = .inr (.inl a) ∧ a.toInt + 4294967296 = (ρ j : Int) + k
  | _ => True
def kd_ag (n : Nat) (ρ ρ' : Nat → Nat) : Prop := ∀ j, j < n → ρ' j = ρ j
def kd_bx (ρ : Nat → Nat) (iv : kd_I) (n : Nat) : Prop := iv.length = n ∧ ∀ j l h, kd_at iv n j = some (l, h) → l ≤ ρ j ∧ ρ j ≤ h
theorem kd_ag_rf {n : Nat} {ρ : Nat → Nat} : kd_ag n ρ ρ := fun _ _ => rfl
theorem kd_ag_tr {n n' : Nat} {ρ ρ' ρ'' : Nat → Nat} (h1 : kd_ag n ρ ρ') (h2 : kd_ag n' ρ' ρ'') (hn : n ≤ n') : kd_ag n ρ ρ'' := fun j hj => (h2 j (Nat.lt_of_lt_of_le hj hn)).trans (h1 j hj)
theorem kd_g_ag {n n' : Nat} {ρ ρ' : Nat → Nat} {v : kd_V} {x : kc_V} (h : kd_g n ρ v x) (ha : kd_ag n ρ ρ') (hn : n ≤ n') : kd_g n' ρ' v x := by
  obtain ⟨t, a, b⟩ := v
  match t, h with
  | 0, h => exact h
  | 1, h =>
    obtain ⟨h1, h2⟩ := h
    refine ⟨Nat.lt_of_lt_of_le h1 hn, ?_⟩
    rw [ha _ h1]
    exact h2
  | 2, h => exact h
  | 3, h => exact h
  | 4, _ => trivial
  | 5, h => exact h
  | 6, h =>
    obtain ⟨h1, h2⟩ := h
    refine ⟨Nat.lt_of_lt_of_le h1 hn, ?_⟩
    rw [ha _ h1]
    exact h2
  | _ + 7, _ => trivial
theorem kd_bt {b : Bool} {x : Bool} (h : (bif b then x else false) = true) : b = true ∧ x = true := by
  cases b
  · cases h
  · exact ⟨rfl, h⟩
section KDM
variable {n : Nat} {ρ : Nat → Nat} {iv : kd_I} {v w : kd_V} {x y : kc_V}
theorem kd_bd_r {k : Nat → Nat → Bool} (h : kd_bd iv n v k = true) (hb : kd_bx ρ iv n) (hv : kd_g n ρ v x) : ∃ (a : Int32) (l u : Nat), x = .inl a ∧ l ≤ kd_nb a ∧ kd_nb a ≤ u ∧ k l u = true := by
  obtain ⟨t, a, b⟩ := v
  unfold kd_bd at h
  simp only at h
  cases h0 : Nat.beq t 0 with
  | true =>
    rw [h0] at h
    obtain rfl := Nat.eq_of_beq_eq_true h0
    obtain ⟨z, h1, h2, h3⟩ := hv
    exact ⟨z, a, b, h1, h2, h3, h⟩
  | false =>
    rw [h0] at h
    simp only [cond_false] at h
    cases h1 : Nat.beq t 1 with
    | false => rw [h1] at h; cases h
    | true =>
      rw [h1] at h
      obtain rfl := Nat.eq_of_beq_eq_true h1
      simp only [cond_true] at h
      cases hat : kd_at iv n a with
      | none => rw [hat] at h; cases h
      | some q =>
        obtain ⟨l, u⟩ := q
        rw [hat] at h
        obtain ⟨g1, g2⟩ := kd_bt h
        simp only [wk_fN_eq] at g2
        have g1 := Nat.le_of_ble_eq_true g1
        obtain ⟨hj, z, e1, e2⟩ := hv
        obtain ⟨b1, b2⟩ := hb.2 _ _ _ hat
        unfold kd_B at g1 g2
        exact ⟨z, _, _, e1, by omega, by omega, g2⟩
theorem kd_bj_r {k : Nat → Nat → Bool} (h : kd_bj iv n v k = true) (hb : kd_bx ρ iv n) (hv : kd_g n ρ v x) : ∃ (a : Int64) (l u : Nat), x = .inr (.inl a) ∧ l ≤ kd_nj a ∧ kd_nj a ≤ u ∧ k l u = true := by
  obtain ⟨t, a, b⟩ := v
  unfold kd_bj at h
  simp only at h
  cases h0 : Nat.beq t 2 with
  | true =>
    rw [h0] at h
    obtain rfl := Nat.eq_of_beq_eq_true h0
    obtain ⟨z, h1, h2, h3⟩ := hv
    exact ⟨z, a, b, h1, h2, h3, h⟩
  | false =>
    rw [h0] at h
    simp only [cond_false] at h
    cases h1 : Nat.beq t 6 with
    | false => rw [h1] at h; cases h
    | true =>
      rw [h1] at h
      obtain rfl := Nat.eq_of_beq_eq_true h1
      simp only [cond_true] at h
      cases hat : kd_at iv n a with
      | none => rw [hat] at h; cases h
      | some q =>
        obtain ⟨l, u⟩ := q
        rw [hat] at h
        obtain ⟨g1, g2⟩ := kd_bt h
        simp only [wk_fN_eq] at g2
        obtain ⟨hj, z, e1, e2⟩ := hv
        obtain ⟨b1, b2⟩ := hb.2 _ _ _ hat
        have e3 := kd_nj_i z
        unfold kd_B kd_C at g2
        exact ⟨z, _, _, e1, by omega, by omega, g2⟩
theorem kd_le_r (h : kd_le iv n v w = true) (hb : kd_bx ρ iv n) (hv : kd_g n ρ v x) {n' : Nat} {ρ' : Nat → Nat} : kd_g n' ρ' w x := by
  obtain ⟨t, a, b⟩ := w
  unfold kd_le at h
  simp only at h
  cases h0 : Nat.beq t 0 with
  | true =>
    rw [h0] at h
    simp only [cond_true] at h
    obtain rfl := Nat.eq_of_beq_eq_true h0
    obtain ⟨z, l, u, e1, e2, e3, e4⟩ := kd_bd_r h hb hv
    rw [Bool.and_eq_true] at e4
    exact ⟨z, e1, Nat.le_trans (Nat.le_of_ble_eq_true e4.1) e2, Nat.le_trans e3 (Nat.le_of_ble_eq_true e4.2)⟩
  | false =>
    rw [h0] at h
    simp only [cond_false] at h
    cases h2 : Nat.beq t 2 with
    | true =>
      rw [h2] at h
      simp only [cond_true] at h
      obtain rfl := Nat.eq_of_beq_eq_true h2
      obtain ⟨z, l, u, e1, e2, e3, e4⟩ := kd_bj_r h hb hv
      rw [Bool.and_eq_true] at e4
      exact ⟨z, e1, Nat.le_trans (Nat.le_of_ble_eq_true e4.1) e2, Nat.le_trans e3 (Nat.le_of_ble_eq_true e4.2)⟩
    | false =>
      rw [h2] at h
      simp only [cond_false] at h
      cases h3 : Nat.beq t 3 with
      | true =>
        rw [h3] at h
        obtain rfl := Nat.eq_of_beq_eq_true h3
        obtain ⟨s, c, d⟩ := v
        simp only [cond_true, Bool.and_eq_true] at h
        obtain ⟨q1, q2, q3⟩ := h
        obtain rfl := Nat.eq_of_beq_eq_true q1
        obtain ⟨k, e1, e2, e3⟩ := hv
        exact ⟨k, e1, Nat.le_trans (Nat.le_of_ble_eq_true q2) e2, Nat.le_trans e3 (Nat.le_of_ble_eq_true q3)⟩
      | false =>
        rw [h3] at h
        simp only [cond_false] at h
        cases h5 : Nat.beq t 5 with
        | false => rw [h5] at h; cases h
        | true =>
          rw [h5] at h
          obtain rfl := Nat.eq_of_beq_eq_true h5
          obtain ⟨s, c, d⟩ := v
          simp only [cond_true] at h
          obtain rfl := Nat.eq_of_beq_eq_true h
          exact hv
/-- the box with one more variable -/
theorem kd_bx_new (hb : kd_bx ρ iv n) {a b z : Nat} (h1 : a ≤ z) (h2 : z ≤ b) : kd_ag n ρ (fun j => if j = n then z else ρ j) ∧ kd_bx (fun j => if j = n then z else ρ j) ((a, b) :: iv) (n + 1) := by
  refine ⟨fun j hj => if_neg (by omega), by simp [hb.1], fun j l u hat => ?_⟩
  unfold kd_at at hat
  cases hj : Nat.blt j (n + 1) with
  | false => rw [hj] at hat; cases hat
  | true =>
    rw [hj] at hat
    have hj := wk_blt hj
    simp only [cond_true] at hat
    by_cases e : j = n
    · subst e
      rw [show j + 1 - 1 - j = 0 by omega] at hat
      cases hat
      simp only [if_true]
      exact ⟨h1, h2⟩
    · rw [show n + 1 - 1 - j = (n - 1 - j) + 1 by omega] at hat
      simp only [if_neg e]
      refine hb.2 j l u ?_
      unfold kd_at
      rw [kc_blt (show j < n by omega)]
      exact hat
theorem kd_nm_r {k : kd_I → Nat → kd_V → Bool} (h : kd_nm iv n v k = true) (hb : kd_bx ρ iv n) (hv : kd_g n ρ v x) : ∃ (ρ' : Nat → Nat) (iv' : kd_I) (n' : Nat) (v' : kd_V), kd_ag n ρ ρ' ∧ n ≤ n' ∧ kd_bx ρ' iv' n' ∧ kd_g n' ρ' v' x ∧ k iv' n' v' = true := by
  obtain ⟨t, a, b⟩ := v
  unfold kd_nm at h
  simp only at h
  cases hc : Nat.beq t 0 && Nat.blt a b with
  | false =>
    rw [hc] at h
    exact ⟨ρ, iv, n, _, kd_ag_rf, Nat.le_refl _, hb, hv, h⟩
  | true =>
    rw [hc] at h
    rw [Bool.and_eq_true] at hc
    obtain rfl := Nat.eq_of_beq_eq_true hc.1
    simp only [cond_true, wk_fN_eq] at h
    obtain ⟨z, e1, e2, e3⟩ := hv
    obtain ⟨g1, g2⟩ := kd_bx_new hb e2 e3
    refine ⟨_, _, _, (1, n, kd_B), g1, Nat.le_succ _, g2, ⟨Nat.lt_succ_self _, z, e1, ?_⟩, h⟩
    simp only [if_true]
    rfl
/-- narrower bounds of one variable -/
theorem kd_bx_put (hb : kd_bx ρ iv n) {j lo hi : Nat} (hj : j < n) (h1 : lo ≤ ρ j) (h2 : ρ j ≤ hi) : kd_bx ρ (iv.set (n - 1 - j) (lo, hi)) n := by
  refine ⟨by rw [List.length_set]; exact hb.1, fun j2 l u hat => ?_⟩
  unfold kd_at at hat
  cases hj2 : Nat.blt j2 n with
  | false => rw [hj2] at hat; cases hat
  | true =>
    rw [hj2] at hat
    have hlt := wk_blt hj2
    simp only [cond_true] at hat
    rw [wk_at_eq, List.getElem?_set] at hat
    by_cases e : j2 = j
    · subst e
      rw [if_pos rfl, if_pos (by rw [hb.1]; omega)] at hat
      cases hat
      exact ⟨h1, h2⟩
    · rw [if_neg (by omega)] at hat
      refine hb.2 j2 l u ?_
      unfold kd_at
      rw [hj2, wk_at_eq]
      exact hat
theorem kd_rf_r {k : kd_I → Bool} {lo hi : Nat} {a : Int32} (h : kd_rf iv n v lo hi k = true) (hb : kd_bx ρ iv n) (hv : kd_g n ρ v (.inl a)) (h1 : lo ≤ kd_nb a) (h2 : kd_nb a ≤ hi) : ∃ iv', kd_bx ρ iv' n ∧ k iv' = true := by
  obtain ⟨t, j, o⟩ := v
  unfold kd_rf at h
  simp only at h
  cases hc : Nat.beq t 1 && Nat.blt j n with
  | false =>
    rw [hc] at h
    exact ⟨iv, hb, h⟩
  | true =>
    rw [hc] at h
    rw [Bool.and_eq_true] at hc
    obtain rfl := Nat.eq_of_beq_eq_true hc.1
    simp only [cond_true, wk_fN_eq, wk_put_eq] at h
    obtain ⟨hj, z, e1, e2⟩ := hv
    cases e1
    unfold kd_B at h
    exact ⟨_, kd_bx_put hb hj (by omega) (by omega), h⟩
theorem kd_rj_r {k : kd_I → Bool} {lo hi : Nat} {a : Int64} (h : kd_rj iv n v lo hi k = true) (hb : kd_bx ρ iv n) (hv : kd_g n ρ v (.inr (.inl a))) (h1 : lo ≤ kd_nj a) (h2 : kd_nj a ≤ hi) : ∃ iv', kd_bx ρ iv' n ∧ k iv' = true := by
  obtain ⟨t, j, o⟩ := v
  unfold kd_rj at h
  simp only at h
  cases hc : Nat.beq t 6 && (Nat.blt j n && Nat.ble (kd_C - kd_B) lo) with
  | false =>
    rw [hc] at h
    exact ⟨iv, hb, h⟩
  | true =>
    rw [hc] at h
    simp only [Bool.and_eq_true] at hc
    obtain ⟨c1, c2, c3⟩ := hc
    obtain rfl := Nat.eq_of_beq_eq_true c1
    have c3 := Nat.le_of_ble_eq_true c3
    simp only [cond_true, wk_fN_eq, wk_put_eq] at h
    obtain ⟨hj, z, e1, e2⟩ := hv
    cases e1
    have e3 := kd_nj_i a
    unfold kd_B kd_C at h c3
    exact ⟨_, kd_bx_put hb hj (by omega) (by omega), h⟩
end KDM
/-! comparisons -/
def kd_cc (c : Nat) (x y : Nat) : Bool := bif Nat.ble c 1 then (bif Nat.beq c 0 then decide (x = y) else !decide (x = y)) else bif Nat.ble c 3 then (bif Nat.beq c 2 then decide (x < y) else !decide (x < y)) else (bif Nat.beq c 4 then decide (y < x) else !decide (y < x))
theorem kd_mn_r (a b : Nat) : kd_mn a b = min a b := by
  unfold kd_mn
  cases h : Nat.ble a b with
  | true => have := Nat.le_of_ble_eq_true h; simp only [cond_true]; omega
  | false => have := Nat.not_le.mp (fun q => Bool.false_ne_true (h.symm.trans (Nat.ble_eq_true_of_le q))); simp only [cond_false]; omega
theorem kd_mx_r (a b : Nat) : kd_mx a b = max a b := by
  unfold kd_mx
  cases h : Nat.ble a b with
  | true => have := Nat.le_of_ble_eq_true h; simp only [cond_true]; omega
  | false => have := Nat.not_le.mp (fun q => Bool.false_ne_true (h.symm.trans (Nat.ble_eq_true_of_le q))); simp only [cond_false]; omega
theorem kd_nble {a b : Nat} (h : Nat.ble a b = false) : b < a := Nat.not_le.mp (fun q => Bool.false_ne_true (h.symm.trans (Nat.ble_eq_true_of_le q)))
theorem kd_nbeq {a b : Nat} (h : Nat.beq a b = false) : a ≠ b := fun e => by
  subst e
  rw [kc_beq] at h
  cases h
abbrev kd_in4 (x y : Nat) (k : kd_4) : Prop := ∃ a b c d, a ≤ x ∧ x ≤ b ∧ c ≤ y ∧ y ≤ d ∧ k a b c d = true
theorem kd_clt_r {l1 h1 l2 h2 x y : Nat} {kt kf : kd_4} (h : kd_clt l1 h1 l2 h2 kt kf = true) (a1 : l1 ≤ x) (a2 : x ≤ h1) (b1 : l2 ≤ y) (b2 : y ≤ h2) : if x < y then kd_in4 x y kt else kd_in4 x y kf := by
  unfold kd_clt at h
  cases c1 : Nat.blt h1 l2 with
  | true =>
    rw [c1] at h
    have := wk_blt c1
    rw [if_pos (by omega)]
    exact ⟨_, _, _, _, a1, a2, b1, b2, h⟩
  | false =>
    rw [c1] at h
    simp only [cond_false] at h
    cases c2 : Nat.ble h2 l1 with
    | true =>
      rw [c2] at h
      have := Nat.le_of_ble_eq_true c2
      rw [if_neg (by omega)]
      exact ⟨_, _, _, _, a1, a2, b1, b2, h⟩
    | false =>
      rw [c2] at h
      simp only [cond_false, Bool.and_eq_true, kd_mn_r, kd_mx_r] at h
      by_cases hc : x < y
      · rw [if_pos hc]
        exact ⟨_, _, _, _, a1, by omega, by omega, b2, h.1⟩
      · rw [if_neg hc]
        exact ⟨_, _, _, _, by omega, a2, b1, by omega, h.2⟩
theorem kd_ceq_r {l1 h1 l2 h2 x y : Nat} {kt kf : kd_4} (h : kd_ceq l1 h1 l2 h2 kt kf = true) (a1 : l1 ≤ x) (a2 : x ≤ h1) (b1 : l2 ≤ y) (b2 : y ≤ h2) : if x = y then kd_in4 x y kt else kd_in4 x y kf := by
  unfold kd_ceq at h
  cases c1 : Nat.beq l1 h1 && (Nat.beq l2 h2 && Nat.beq l1 l2) with
  | true =>
    rw [c1] at h
    simp only [Bool.and_eq_true] at c1
    have e1 := Nat.eq_of_beq_eq_true c1.1
    have e2 := Nat.eq_of_beq_eq_true c1.2.1
    have e3 := Nat.eq_of_beq_eq_true c1.2.2
    rw [if_pos (by omega)]
    exact ⟨_, _, _, _, a1, a2, b1, b2, h⟩
  | false =>
    rw [c1] at h
    simp only [cond_false] at h
    cases c2 : Nat.blt h1 l2 || Nat.blt h2 l1 with
    | true =>
      rw [c2] at h
      rw [Bool.or_eq_true] at c2
      have : ¬ x = y := by
        rcases c2 with c2 | c2
        · have := wk_blt c2; omega
        · have := wk_blt c2; omega
      rw [if_neg this]
      exact ⟨_, _, _, _, a1, a2, b1, b2, h⟩
    | false =>
      rw [c2] at h
      simp only [cond_false, Bool.and_eq_true, kd_mn_r, kd_mx_r] at h
      obtain ⟨ht, hf⟩ := h
      by_cases hc : x = y
      · rw [if_pos hc]
        exact ⟨_, _, _, _, by omega, by omega, by omega, by omega, ht⟩
      · rw [if_neg hc]
        cases d1 : Nat.beq l2 h2 with
        | true =>
          rw [d1] at hf
          have e1 := Nat.eq_of_beq_eq_true d1
          simp only [cond_true] at hf
          cases d2 : Nat.beq l1 l2 with
          | true =>
            rw [d2] at hf
            have e2 := Nat.eq_of_beq_eq_true d2
            exact ⟨_, _, _, _, by omega, a2, b1, b2, hf⟩
          | false =>
            rw [d2] at hf
            simp only [cond_false] at hf
            cases d3 : Nat.beq h1 l2 with
            | true =>
              rw [d3] at hf
              have e2 := Nat.eq_of_beq_eq_true d3
              exact ⟨_, _, _, _, a1, by omega, b1, b2, hf⟩
            | false =>
              rw [d3] at hf
              exact ⟨_, _, _, _, a1, a2, b1, b2, hf⟩
        | false =>
          rw [d1] at hf
          simp only [cond_false] at hf
          cases d0 : Nat.beq l1 h1 with
          | true =>
            rw [d0] at hf
            have e1 := Nat.eq_of_beq_eq_true d0
            simp only [cond_true] at hf
            cases d2 : Nat.beq l2 l1 with
            | true =>
              rw [d2] at hf
              have e2 := Nat.eq_of_beq_eq_true d2
              exact ⟨_, _, _, _, a1, a2, by omega, b2, hf⟩
            | false =>
              rw [d2] at hf
              simp only [cond_false] at hf
              cases d3 : Nat.beq h2 l1 with
              | true =>
                rw [d3] at hf
                have e2 := Nat.eq_of_beq_eq_true d3
                exact ⟨_, _, _, _, a1, a2, b1, by omega, hf⟩
              | false =>
                rw [d3] at hf
                exact ⟨_, _, _, _, a1, a2, b1, b2, hf⟩
          | false =>
            rw [d0] at hf
            exact ⟨_, _, _, _, a1, a2, b1, b2, hf⟩
theorem kd_in4_sw {x y : Nat} {k : kd_4} (h : kd_in4 y x (fun a b c d => k c d a b)) : kd_in4 x y k := by
  obtain ⟨a, b, c, d, h1, h2, h3, h4, h5⟩ := h
  exact ⟨c, d, a, b, h3, h4, h1, h2, h5⟩
theorem kd_cmp_r {c l1 h1 l2 h2 x y : Nat} {kt kf : kd_4} (h : kd_cmp c l1 h1 l2 h2 kt kf = true) (a1 : l1 ≤ x) (a2 : x ≤ h1) (b1 : l2 ≤ y) (b2 : y ≤ h2) : if kd_cc c x y then kd_in4 x y kt else kd_in4 x y kf := by
  unfold kd_cmp at h
  unfold kd_cc
  cases c1 : Nat.ble c 1 with
  | true =>
    rw [c1] at h
    simp only [cond_true] at h ⊢
    cases c2 : Nat.beq c 0 with
    | true =>
      rw [c2] at h
      have := kd_ceq_r h a1 a2 b1 b2
      simpa using this
    | false =>
      rw [c2] at h
      have := kd_ceq_r h a1 a2 b1 b2
      by_cases e : x = y
      · rw [if_pos e] at this
        simpa [e] using this
      · rw [if_neg e] at this
        simpa [e] using this
  | false =>
    rw [c1] at h
    simp only [cond_false] at h ⊢
    cases c2 : Nat.ble c 3 with
    | true =>
      rw [c2] at h
      simp only [cond_true] at h ⊢
      cases c3 : Nat.beq c 2 with
      | true =>
        rw [c3] at h
        have := kd_clt_r h a1 a2 b1 b2
        simpa using this
      | false =>
        rw [c3] at h
        have := kd_clt_r h a1 a2 b1 b2
        by_cases e : x < y
        · rw [if_pos e] at this
          simp only [cond_false, e, decide_true, Bool.not_true, Bool.false_eq_true, if_false]
          exact this
        · rw [if_neg e] at this
          simp only [cond_false, e, decide_false, Bool.not_false, if_true]
          exact this
    | false =>
      rw [c2] at h
      simp only [cond_false] at h ⊢
      cases c3 : Nat.beq c 4 with
      | true =>
        rw [c3] at h
        simp only [cond_true, cond_false] at h
        have := kd_clt_r h b1 b2 a1 a2
        by_cases e : y < x
        · rw [if_pos e] at this
          simp only [cond_true, e, decide_true, if_true]
          exact kd_in4_sw this
        · rw [if_neg e] at this
          simp only [cond_true, e, decide_false, Bool.false_eq_true, if_false]
          exact kd_in4_sw this
      | false =>
        rw [c3] at h
        simp only [cond_true, cond_false] at h
        have := kd_clt_r h b1 b2 a1 a2
        by_cases e : y < x
        · rw [if_pos e] at this
          simp only [cond_false, e, decide_true, Bool.not_true, Bool.false_eq_true, if_false]
          exact kd_in4_sw this
        · rw [if_neg e] at this
          simp only [cond_false, e, decide_false, Bool.not_false, if_true]
          exact kd_in4_sw this
section KDM2
variable {n : Nat} {ρ : Nat → Nat} {iv : kd_I} {v w : kd_V} {x y : kc_V}
theorem kd_br_r {c : Nat} {kt kf : kd_I → Bool} (h : kd_br c iv n v w kt kf = true) (hb : kd_bx ρ iv n) (hv : kd_g n ρ v x) (hw : kd_g n ρ w y) : ∃ a b : Int32, x = .inl a ∧ y = .inl b ∧ ∃ iv', kd_bx ρ iv' n ∧ (if kd_cc c (kd_nb a) (kd_nb b) then kt iv' else kf iv') = true := by
  unfold kd_br at h
  obtain ⟨a, l1, u1, rfl, a1, a2, h⟩ := kd_bd_r h hb hv
  obtain ⟨b, l2, u2, rfl, b1, b2, h⟩ := kd_bd_r h hb hw
  refine ⟨a, b, rfl, rfl, ?_⟩
  have hc := kd_cmp_r h a1 a2 b1 b2
  cases e : kd_cc c (kd_nb a) (kd_nb b) with
  | true =>
    rw [e] at hc
    simp only [if_true] at hc ⊢
    obtain ⟨p, q, r, s, g1, g2, g3, g4, g5⟩ := hc
    obtain ⟨iv1, i1, g5⟩ := kd_rf_r g5 hb hv g1 g2
    exact kd_rf_r g5 i1 hw g3 g4
  | false =>
    rw [e] at hc
    simp only [Bool.false_eq_true, if_false] at hc ⊢
    obtain ⟨p, q, r, s, g1, g2, g3, g4, g5⟩ := hc
    obtain ⟨iv1, i1, g5⟩ := kd_rf_r g5 hb hv g1 g2
    exact kd_rf_r g5 i1 hw g3 g4
theorem kd_brj_r {c : Nat} {kt kf : kd_I → Bool} (h : kd_brj c iv n v w kt kf = true) (hb : kd_bx ρ iv n) (hv : kd_g n ρ v x) (hw : kd_g n ρ w y) : ∃ a b : Int64, x = .inr (.inl a) ∧ y = .inr (.inl b) ∧ ∃ iv', kd_bx ρ iv' n ∧ (if kd_cc c (kd_nj a) (kd_nj b) then kt iv' else kf iv') = true := by
  unfold kd_brj at h
  obtain ⟨a, l1, u1, rfl, a1, a2, h⟩ := kd_bj_r h hb hv
  obtain ⟨b, l2, u2, rfl, b1, b2, h⟩ := kd_bj_r h hb hw
  refine ⟨a, b, rfl, rfl, ?_⟩
  have hc := kd_cmp_r h a1 a2 b1 b2
  cases e : kd_cc c (kd_nj a) (kd_nj b) with
  | true =>
    rw [e] at hc
    simp only [if_true] at hc ⊢
    obtain ⟨p, q, r, s, g1, g2, g3, g4, g5⟩ := hc
    obtain ⟨iv1, i1, g5⟩ := kd_rj_r g5 hb hv g1 g2
    exact kd_rj_r g5 i1 hw g3 g4
  | false =>
    rw [e] at hc
    simp only [Bool.false_eq_true, if_false] at hc ⊢
    obtain ⟨p, q, r, s, g1, g2, g3, g4, g5⟩ := hc
    obtain ⟨iv1, i1, g5⟩ := kd_rj_r g5 hb hv g1 g2
    exact kd_rj_r g5 i1 hw g3 g4
theorem kd_each_r {f : Nat → Bool} : ∀ (m a : Nat), kd_each f m a = true → ∀ z, a ≤ z → z < a + m → f z = true
  | 0, a, _, z, h1, h2 => by omega
  | m + 1, a, h, z, h1, h2 => by
    have h : (f a && wk_fN (a + 1) fun a => kd_each f m a) = true := h
    rw [wk_fN_eq, Bool.and_eq_true] at h
    by_cases e : z = a
    · subst e
      exact h.1
    · exact kd_each_r m (a + 1) h.2 z (by omega) (by omega)
theorem kd_cut_r {few : Nat} {k : kd_I → Bool} (h : kd_cut few iv n v k = true) (hb : kd_bx ρ iv n) : ∃ iv', kd_bx ρ iv' n ∧ k iv' = true := by
  obtain ⟨t, j, o⟩ := v
  unfold kd_cut at h
  simp only at h
  cases h1 : Nat.beq t 1 with
  | false =>
    rw [h1] at h
    exact ⟨iv, hb, h⟩
  | true =>
    rw [h1] at h
    simp only [cond_true] at h
    cases hat : kd_at iv n j with
    | none => rw [hat] at h; cases h
    | some q =>
      obtain ⟨l, u⟩ := q
      rw [hat] at h
      simp only at h
      cases hc : Nat.blt l u && Nat.blt (u - l) few with
      | false =>
        rw [hc] at h
        exact ⟨iv, hb, h⟩
      | true =>
        rw [hc] at h
        rw [Bool.and_eq_true] at hc
        have c1 := wk_blt hc.1
        obtain ⟨b1, b2⟩ := hb.2 _ _ _ hat
        have hj : j < n := by
          unfold kd_at at hat
          cases hj : Nat.blt j n with
          | false => rw [hj] at hat; cases hat
          | true => exact wk_blt hj
        have := kd_each_r _ _ h (ρ j) b1 (by omega)
        rw [wk_put_eq] at this
        exact ⟨_, kd_bx_put hb hj (Nat.le_refl _) (Nat.le_refl _), this⟩
end KDM2
