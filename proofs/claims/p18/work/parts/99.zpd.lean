/-! ===== type, line, count, exactly ===== -/
theorem fu_nox {g : kc_G} {d id n0 k : Nat} {σ : Nat → Nat} {xs : List kc_V} {h : kc_H} (hk : k < 2147483648) (hc : kc_Con g d id xs h (fun xr h' => ∃ p ∈ ([(some (0, 2147483648 - k, 2147483648 - k), [], [])] : List kd_P), kd_rv n0 σ p.1 xr ∧ kd_gF n0 σ p.2.1 h' ∧ kd_wt kd_ty h' ∧ kd_fr p.2.2 h h')) : kc_Con g d id xs h (fun rv h' => ∃ r : Int32, rv = some (.inl r) ∧ r.toInt = -(k : Int) ∧ h' = h) := by
  refine kc_Con_mono hc (fun rv h' hq => ?_)
  obtain ⟨p, p1, p2, -, -, p5⟩ := hq
  obtain rfl := List.mem_singleton.mp p1
  cases rv with
  | none => exact p2.elim
  | some y =>
    obtain ⟨z, rfl, z1, z2⟩ := p2
    refine ⟨z, rfl, ?_, ?_⟩
    · unfold kd_nb at z1 z2
      have := kv_lo z
      omega
    · funext c i
      exact p5 c i (fun q hq => by cases hq)
set_option maxRecDepth 20000 in
theorem fq_cend {g : kc_G} {d x c n : Nat} {v : Int64} {i : Int32} {h : kc_H} (hx : x < 2) (h11 : h 1 11 = .inr (.inr (.inl (some 28)))) (h12 : h 1 12 = .inr (.inr (.inl (some 31)))) (h28 : h 28 x = .inr (.inr (.inl (some (29 + x))))) (hc : h 31 x = .inl (Int32.ofNat c)) (hcn : c + n ≤ 240) : kc_Ev g d wk_m55 (fun rv h' => (c + n ≤ 240 ∧ rv = some (.inl (Int32.ofNat (c + n))) ∧ h' = (kq_F h (29 + x) 0 31 x c (kq_c v) n n)) ∨ (240 < c + n ∧ rv = some (.inl (Int32.ofInt (-4))) ∧ h' = h)) 93 [(5, .inl (i)), (0, .inr (.inr (.inl (some 1)))), (1, .inl (Int32.ofNat x)), (2, .inr (.inl (v))), (4, .inl (Int32.ofNat n))] [] (kq_F h (29 + x) 0 31 x c (kq_c v) n n) := by
  refine kx_go 1 (pc' := 94) (L' := [(5, .inl (i)), (0, .inr (.inr (.inl (some 1)))), (1, .inl (Int32.ofNat x)), (2, .inr (.inl (v))), (4, .inl (Int32.ofNat n))]) (S' := [.inr (.inr (.inl (some 1)))]) (h' := (kq_F h (29 + x) 0 31 x c (kq_c v) n n)) (by with_unfolding_all rfl) ?_
  refine kx_getf (c := 1) (v := .inr (.inr (.inl (some 31)))) rfl (by decide) ((kq_o (Or.inl (by decide)) (Or.inl (by omega))).trans h12) ?_
  refine kx_go 1 (pc' := 98) (L' := [(5, .inl (i)), (0, .inr (.inr (.inl (some 1)))), (1, .inl (Int32.ofNat x)), (2, .inr (.inl (v))), (4, .inl (Int32.ofNat n))]) (S' := [.inl (Int32.ofNat x), .inr (.inr (.inl (some 31)))]) (h' := (kq_F h (29 + x) 0 31 x c (kq_c v) n n)) (by with_unfolding_all rfl) ?_
  refine kx_iald rfl (c := 31) (j := x) (m := 2) (v := .inl (Int32.ofNat (c + n))) rfl (by decide) (by decide) (by omega) kq_b ?_
  exact kc_ret_ok rfl (rv := some (.inl (Int32.ofNat (c + n)))) rfl (Or.inl ⟨hcn, rfl, rfl⟩)
set_option maxRecDepth 20000 in
theorem fq_cl {g : kc_G} {d x c n : Nat} {v : Int64} {h : kc_H} (hx : x < 2) (h11 : h 1 11 = .inr (.inr (.inl (some 28)))) (h12 : h 1 12 = .inr (.inr (.inl (some 31)))) (h28 : h 28 x = .inr (.inr (.inl (some (29 + x))))) (hc : h 31 x = .inl (Int32.ofNat c)) (hn : n ≤ 8) (hcn : c + n ≤ 240) : ∀ (r m : Nat), r + m + 1 = n → kc_Ev g d wk_m55 (fun rv h' => (c + n ≤ 240 ∧ rv = some (.inl (Int32.ofNat (c + n))) ∧ h' = (kq_F h (29 + x) 0 31 x c (kq_c v) n n)) ∨ (240 < c + n ∧ rv = some (.inl (Int32.ofInt (-4))) ∧ h' = h)) 47 [(5, .inl (Int32.ofNat r)), (0, .inr (.inr (.inl (some 1)))), (1, .inl (Int32.ofNat x)), (2, .inr (.inl (v))), (4, .inl (Int32.ofNat n))] [] (kq_F h (29 + x) 0 31 x c (kq_c v) n m) := by
  intro r
  induction r with
  | zero =>
    intro m hm
    refine kx_go 2 (pc' := (if kc_cnd .lt (Int32.ofNat 0).toInt 0 then 93 else 52)) (L' := [(5, .inl (Int32.ofNat 0)), (0, .inr (.inr (.inl (some 1)))), (1, .inl (Int32.ofNat x)), (2, .inr (.inl (v))), (4, .inl (Int32.ofNat n))]) (S' := []) (h' := (kq_F h (29 + x) 0 31 x c (kq_c v) n m)) (by with_unfolding_all rfl) ?_
    rw [if_neg (by unfold kc_cnd; rw [kx_ti (by omega)]; simp only [decide_eq_true_eq]; omega)]
    refine kx_go 1 (pc' := 53) (L' := [(5, .inl (Int32.ofNat 0)), (0, .inr (.inr (.inl (some 1)))), (1, .inl (Int32.ofNat x)), (2, .inr (.inl (v))), (4, .inl (Int32.ofNat n))]) (S' := [.inr (.inr (.inl (some 1)))]) (h' := (kq_F h (29 + x) 0 31 x c (kq_c v) n m)) (by with_unfolding_all rfl) ?_
    refine kx_getf (c := 1) (v := .inr (.inr (.inl (some 28)))) rfl (by decide) ((kq_o (Or.inl (by decide)) (Or.inl (by omega))).trans h11) ?_
    refine kx_go 1 (pc' := 57) (L' := [(5, .inl (Int32.ofNat 0)), (0, .inr (.inr (.inl (some 1)))), (1, .inl (Int32.ofNat x)), (2, .inr (.inl (v))), (4, .inl (Int32.ofNat n))]) (S' := [.inl (Int32.ofNat x), .inr (.inr (.inl (some 28)))]) (h' := (kq_F h (29 + x) 0 31 x c (kq_c v) n m)) (by with_unfolding_all rfl) ?_
    refine kx_aald (c := 28) (j := x) (m := 2) (t0 := 2) (v := .inr (.inr (.inl (some (29 + x))))) rfl rfl (by decide) (by decide) (by decide) hx ((kq_o (Or.inl (by decide)) (Or.inl (by omega))).trans h28) ?_
    refine kx_go 1 (pc' := 59) (L' := [(5, .inl (Int32.ofNat 0)), (0, .inr (.inr (.inl (some 1)))), (1, .inl (Int32.ofNat x)), (2, .inr (.inl (v))), (4, .inl (Int32.ofNat n))]) (S' := [.inr (.inr (.inl (some 1))), .inr (.inr (.inl (some (29 + x))))]) (h' := (kq_F h (29 + x) 0 31 x c (kq_c v) n m)) (by with_unfolding_all rfl) ?_
    refine kx_getf (c := 1) (v := .inr (.inr (.inl (some 31)))) rfl (by decide) ((kq_o (Or.inl (by decide)) (Or.inl (by omega))).trans h12) ?_
    refine kx_go 1 (pc' := 63) (L' := [(5, .inl (Int32.ofNat 0)), (0, .inr (.inr (.inl (some 1)))), (1, .inl (Int32.ofNat x)), (2, .inr (.inl (v))), (4, .inl (Int32.ofNat n))]) (S' := [.inl (Int32.ofNat x), .inr (.inr (.inl (some 31))), .inr (.inr (.inl (some (29 + x))))]) (h' := (kq_F h (29 + x) 0 31 x c (kq_c v) n m)) (by with_unfolding_all rfl) ?_
    refine kx_iald rfl (c := 31) (j := x) (m := 2) (v := .inl (Int32.ofNat (c + m))) rfl (by decide) (by decide) (by omega) kq_b ?_
    refine kx_go 8 (pc' := 76) (L' := [(5, .inl (Int32.ofNat 0)), (0, .inr (.inr (.inl (some 1)))), (1, .inl (Int32.ofNat x)), (2, .inr (.inl (v))), (4, .inl (Int32.ofNat n))]) (S' := [.inl ((((v.toUInt64 >>> (((Int32.ofNat 8) * (Int32.ofNat 0)).toInt64.toUInt64 &&& Int64.toUInt64 63)).toInt64).toInt32) &&& (Int32.ofNat 255)), .inl (Int32.ofNat (c + m)), .inr (.inr (.inl (some (29 + x))))]) (h' := (kq_F h (29 + x) 0 31 x c (kq_c v) n m)) (by with_unfolding_all rfl) ?_
    refine kx_iast rfl (c := 29 + x) (j := c + m) (m := 240) (kq_sh x hx).1 (kq_sh x hx).2 (by decide) (by omega) ?_
    refine kx_go 1 (pc' := 78) (L' := [(5, .inl (Int32.ofNat 0)), (0, .inr (.inr (.inl (some 1)))), (1, .inl (Int32.ofNat x)), (2, .inr (.inl (v))), (4, .inl (Int32.ofNat n))]) (S' := [.inr (.inr (.inl (some 1)))]) (h' := (kc_upd (kq_F h (29 + x) 0 31 x c (kq_c v) n m) (29 + x) (c + m) (.inl ((((v.toUInt64 >>> (((Int32.ofNat 8) * (Int32.ofNat 0)).toInt64.toUInt64 &&& Int64.toUInt64 63)).toInt64).toInt32) &&& (Int32.ofNat 255))))) (by with_unfolding_all rfl) ?_
    refine kx_getf (c := 1) (v := .inr (.inr (.inl (some 31)))) rfl (by decide) ((kj_uo (by omega)).trans ((kq_o (Or.inl (by decide)) (Or.inl (by omega))).trans h12)) ?_
    refine kx_go 2 (pc' := 83) (L' := [(5, .inl (Int32.ofNat 0)), (0, .inr (.inr (.inl (some 1)))), (1, .inl (Int32.ofNat x)), (2, .inr (.inl (v))), (4, .inl (Int32.ofNat n))]) (S' := [.inl (Int32.ofNat x), .inr (.inr (.inl (some 31))), .inl (Int32.ofNat x), .inr (.inr (.inl (some 31)))]) (h' := (kc_upd (kq_F h (29 + x) 0 31 x c (kq_c v) n m) (29 + x) (c + m) (.inl ((((v.toUInt64 >>> (((Int32.ofNat 8) * (Int32.ofNat 0)).toInt64.toUInt64 &&& Int64.toUInt64 63)).toInt64).toInt32) &&& (Int32.ofNat 255))))) (by with_unfolding_all rfl) ?_
    refine kx_iald rfl (c := 31) (j := x) (m := 2) (v := .inl (Int32.ofNat (c + m))) rfl (by decide) (by decide) (by omega) ((kj_uo (by omega)).trans kq_b) ?_
    refine kx_go 2 (pc' := 86) (L' := [(5, .inl (Int32.ofNat 0)), (0, .inr (.inr (.inl (some 1)))), (1, .inl (Int32.ofNat x)), (2, .inr (.inl (v))), (4, .inl (Int32.ofNat n))]) (S' := [.inl ((Int32.ofNat (c + m)) + (Int32.ofNat 1)), .inl (Int32.ofNat x), .inr (.inr (.inl (some 31)))]) (h' := (kc_upd (kq_F h (29 + x) 0 31 x c (kq_c v) n m) (29 + x) (c + m) (.inl ((((v.toUInt64 >>> (((Int32.ofNat 8) * (Int32.ofNat 0)).toInt64.toUInt64 &&& Int64.toUInt64 63)).toInt64).toInt32) &&& (Int32.ofNat 255))))) (by with_unfolding_all rfl) ?_
    rw [← Int32.ofNat_add]
    refine kx_iast rfl (c := 31) (j := x) (m := 2) rfl (by decide) (by decide) hx ?_
    have hs := kq_s (h := h) (tc := 29 + x) (to := 0) (bc := 31) (bp := x) (c := c) (B := kq_c v) (n := n) (m := m) (Or.inl (by omega))
    rw [show n - 1 - m = 0 from by omega, Nat.zero_add] at hs
    refine Eq.mpr (congrArg (fun H => kc_Ev g d wk_m55 _ 87 [(5, .inl (Int32.ofNat 0)), (0, .inr (.inr (.inl (some 1)))), (1, .inl (Int32.ofNat x)), (2, .inr (.inl (v))), (4, .inl (Int32.ofNat n))] [] H) hs) ?_
    refine kx_go 2 (pc' := 47) (L' := [(5, .inl ((Int32.ofNat 0) + Int32.ofInt (-1))), (0, .inr (.inr (.inl (some 1)))), (1, .inl (Int32.ofNat x)), (2, .inr (.inl (v))), (4, .inl (Int32.ofNat n))]) (S' := []) (h' := (kq_F h (29 + x) 0 31 x c (kq_c v) n (m + 1))) (by with_unfolding_all rfl) ?_
    refine kx_go 2 (pc' := 93) (L' := [(5, .inl ((Int32.ofNat 0) + Int32.ofInt (-1))), (0, .inr (.inr (.inl (some 1)))), (1, .inl (Int32.ofNat x)), (2, .inr (.inl (v))), (4, .inl (Int32.ofNat n))]) (S' := []) (h' := (kq_F h (29 + x) 0 31 x c (kq_c v) n (m + 1))) (by with_unfolding_all rfl) ?_
    obtain rfl : n = m + 1 := by omega
    exact fq_cend hx h11 h12 h28 hc hcn
  | succ r ih =>
    intro m hm
    refine kx_go 2 (pc' := (if kc_cnd .lt (Int32.ofNat (r + 1)).toInt 0 then 93 else 52)) (L' := [(5, .inl (Int32.ofNat (r + 1))), (0, .inr (.inr (.inl (some 1)))), (1, .inl (Int32.ofNat x)), (2, .inr (.inl (v))), (4, .inl (Int32.ofNat n))]) (S' := []) (h' := (kq_F h (29 + x) 0 31 x c (kq_c v) n m)) (by with_unfolding_all rfl) ?_
    rw [if_neg (by unfold kc_cnd; rw [kx_ti (by omega)]; simp only [decide_eq_true_eq]; omega)]
    refine kx_go 1 (pc' := 53) (L' := [(5, .inl (Int32.ofNat (r + 1))), (0, .inr (.inr (.inl (some 1)))), (1, .inl (Int32.ofNat x)), (2, .inr (.inl (v))), (4, .inl (Int32.ofNat n))]) (S' := [.inr (.inr (.inl (some 1)))]) (h' := (kq_F h (29 + x) 0 31 x c (kq_c v) n m)) (by with_unfolding_all rfl) ?_
    refine kx_getf (c := 1) (v := .inr (.inr (.inl (some 28)))) rfl (by decide) ((kq_o (Or.inl (by decide)) (Or.inl (by omega))).trans h11) ?_
    refine kx_go 1 (pc' := 57) (L' := [(5, .inl (Int32.ofNat (r + 1))), (0, .inr (.inr (.inl (some 1)))), (1, .inl (Int32.ofNat x)), (2, .inr (.inl (v))), (4, .inl (Int32.ofNat n))]) (S' := [.inl (Int32.ofNat x), .inr (.inr (.inl (some 28)))]) (h' := (kq_F h (29 + x) 0 31 x c (kq_c v) n m)) (by with_unfolding_all rfl) ?_
    refine kx_aald (c := 28) (j := x) (m := 2) (t0 := 2) (v := .inr (.inr (.inl (some (29 + x))))) rfl rfl (by decide) (by decide) (by decide) hx ((kq_o (Or.inl (by decide)) (Or.inl (by omega))).trans h28) ?_
    refine kx_go 1 (pc' := 59) (L' := [(5, .inl (Int32.ofNat (r + 1))), (0, .inr (.inr (.inl (some 1)))), (1, .inl (Int32.ofNat x)), (2, .inr (.inl (v))), (4, .inl (Int32.ofNat n))]) (S' := [.inr (.inr (.inl (some 1))), .inr (.inr (.inl (some (29 + x))))]) (h' := (kq_F h (29 + x) 0 31 x c (kq_c v) n m)) (by with_unfolding_all rfl) ?_
    refine kx_getf (c := 1) (v := .inr (.inr (.inl (some 31)))) rfl (by decide) ((kq_o (Or.inl (by decide)) (Or.inl (by omega))).trans h12) ?_
    refine kx_go 1 (pc' := 63) (L' := [(5, .inl (Int32.ofNat (r + 1))), (0, .inr (.inr (.inl (some 1)))), (1, .inl (Int32.ofNat x)), (2, .inr (.inl (v))), (4, .inl (Int32.ofNat n))]) (S' := [.inl (Int32.ofNat x), .inr (.inr (.inl (some 31))), .inr (.inr (.inl (some (29 + x))))]) (h' := (kq_F h (29 + x) 0 31 x c (kq_c v) n m)) (by with_unfolding_all rfl) ?_
    refine kx_iald rfl (c := 31) (j := x) (m := 2) (v := .inl (Int32.ofNat (c + m))) rfl (by decide) (by decide) (by omega) kq_b ?_
    refine kx_go 8 (pc' := 76) (L' := [(5, .inl (Int32.ofNat (r + 1))), (0, .inr (.inr (.inl (some 1)))), (1, .inl (Int32.ofNat x)), (2, .inr (.inl (v))), (4, .inl (Int32.ofNat n))]) (S' := [.inl ((((v.toUInt64 >>> (((Int32.ofNat 8) * (Int32.ofNat (r + 1))).toInt64.toUInt64 &&& Int64.toUInt64 63)).toInt64).toInt32) &&& (Int32.ofNat 255)), .inl (Int32.ofNat (c + m)), .inr (.inr (.inl (some (29 + x))))]) (h' := (kq_F h (29 + x) 0 31 x c (kq_c v) n m)) (by with_unfolding_all rfl) ?_
    refine kx_iast rfl (c := 29 + x) (j := c + m) (m := 240) (kq_sh x hx).1 (kq_sh x hx).2 (by decide) (by omega) ?_
    refine kx_go 1 (pc' := 78) (L' := [(5, .inl (Int32.ofNat (r + 1))), (0, .inr (.inr (.inl (some 1)))), (1, .inl (Int32.ofNat x)), (2, .inr (.inl (v))), (4, .inl (Int32.ofNat n))]) (S' := [.inr (.inr (.inl (some 1)))]) (h' := (kc_upd (kq_F h (29 + x) 0 31 x c (kq_c v) n m) (29 + x) (c + m) (.inl ((((v.toUInt64 >>> (((Int32.ofNat 8) * (Int32.ofNat (r + 1))).toInt64.toUInt64 &&& Int64.toUInt64 63)).toInt64).toInt32) &&& (Int32.ofNat 255))))) (by with_unfolding_all rfl) ?_
    refine kx_getf (c := 1) (v := .inr (.inr (.inl (some 31)))) rfl (by decide) ((kj_uo (by omega)).trans ((kq_o (Or.inl (by decide)) (Or.inl (by omega))).trans h12)) ?_
    refine kx_go 2 (pc' := 83) (L' := [(5, .inl (Int32.ofNat (r + 1))), (0, .inr (.inr (.inl (some 1)))), (1, .inl (Int32.ofNat x)), (2, .inr (.inl (v))), (4, .inl (Int32.ofNat n))]) (S' := [.inl (Int32.ofNat x), .inr (.inr (.inl (some 31))), .inl (Int32.ofNat x), .inr (.inr (.inl (some 31)))]) (h' := (kc_upd (kq_F h (29 + x) 0 31 x c (kq_c v) n m) (29 + x) (c + m) (.inl ((((v.toUInt64 >>> (((Int32.ofNat 8) * (Int32.ofNat (r + 1))).toInt64.toUInt64 &&& Int64.toUInt64 63)).toInt64).toInt32) &&& (Int32.ofNat 255))))) (by with_unfolding_all rfl) ?_
    refine kx_iald rfl (c := 31) (j := x) (m := 2) (v := .inl (Int32.ofNat (c + m))) rfl (by decide) (by decide) (by omega) ((kj_uo (by omega)).trans kq_b) ?_
    refine kx_go 2 (pc' := 86) (L' := [(5, .inl (Int32.ofNat (r + 1))), (0, .inr (.inr (.inl (some 1)))), (1, .inl (Int32.ofNat x)), (2, .inr (.inl (v))), (4, .inl (Int32.ofNat n))]) (S' := [.inl ((Int32.ofNat (c + m)) + (Int32.ofNat 1)), .inl (Int32.ofNat x), .inr (.inr (.inl (some 31)))]) (h' := (kc_upd (kq_F h (29 + x) 0 31 x c (kq_c v) n m) (29 + x) (c + m) (.inl ((((v.toUInt64 >>> (((Int32.ofNat 8) * (Int32.ofNat (r + 1))).toInt64.toUInt64 &&& Int64.toUInt64 63)).toInt64).toInt32) &&& (Int32.ofNat 255))))) (by with_unfolding_all rfl) ?_
    rw [← Int32.ofNat_add]
    refine kx_iast rfl (c := 31) (j := x) (m := 2) rfl (by decide) (by decide) hx ?_
    have hs := kq_s (h := h) (tc := 29 + x) (to := 0) (bc := 31) (bp := x) (c := c) (B := kq_c v) (n := n) (m := m) (Or.inl (by omega))
    rw [show n - 1 - m = (r + 1) from by omega, Nat.zero_add] at hs
    refine Eq.mpr (congrArg (fun H => kc_Ev g d wk_m55 _ 87 [(5, .inl (Int32.ofNat (r + 1))), (0, .inr (.inr (.inl (some 1)))), (1, .inl (Int32.ofNat x)), (2, .inr (.inl (v))), (4, .inl (Int32.ofNat n))] [] H) hs) ?_
    refine kx_go 2 (pc' := 47) (L' := [(5, .inl ((Int32.ofNat (r + 1)) + Int32.ofInt (-1))), (0, .inr (.inr (.inl (some 1)))), (1, .inl (Int32.ofNat x)), (2, .inr (.inl (v))), (4, .inl (Int32.ofNat n))]) (S' := []) (h' := (kq_F h (29 + x) 0 31 x c (kq_c v) n (m + 1))) (by with_unfolding_all rfl) ?_
    rw [kq_dec r (by omega)]
    exact ih (m + 1) (by omega)
set_option maxRecDepth 20000 in
theorem fq_55 {g : kc_G} {d x c n : Nat} {v : Int64} {h : kc_H} (hg : kc_ok g) (hx : x < 2) (h11 : h 1 11 = .inr (.inr (.inl (some 28)))) (h12 : h 1 12 = .inr (.inr (.inl (some 31)))) (h28 : h 28 x = .inr (.inr (.inl (some (29 + x))))) (hc : h 31 x = .inl (Int32.ofNat c)) (hn1 : 1 ≤ n) (hn : n ≤ 8) (hc240 : c ≤ 240) : kc_Con g (d + 2) 55 [.inr (.inr (.inl (some 1))), .inl (Int32.ofNat x), .inr (.inl v), .inl (Int32.ofNat n)] h (fun rv h' => (c + n ≤ 240 ∧ rv = some (.inl (Int32.ofNat (c + n))) ∧ h' = (kq_F h (29 + x) 0 31 x c (kq_c v) n n)) ∨ (240 < c + n ∧ rv = some (.inl (Int32.ofInt (-4))) ∧ h' = h)) := by
  refine kc_Con_new hg (M := wk_m55) rfl rfl rfl (show 5 ≤ 6 by decide) ?_
  refine kx_go 3 (pc' := 3) (L' := [(0, .inr (.inr (.inl (some 1)))), (1, .inl (Int32.ofNat x)), (2, .inr (.inl (v))), (4, .inl (Int32.ofNat n))]) (S' := [.inl (Int32.ofNat 1), .inl (Int32.ofNat 0), .inl (Int32.ofNat x)]) (h' := h) (by with_unfolding_all rfl) ?_
  refine kc_call_rule (M2 := wk_m19) (av := [.inl (Int32.ofNat x), .inl (Int32.ofNat 0), .inl (Int32.ofNat 1)]) (r := []) rfl rfl (kc_Con_le (kq_btw (d := 0) hg (by omega) (by omega) (by omega)) (by omega)) (fun rv h' hq => ?_)
  obtain ⟨rfl, rfl⟩ := hq
  show kc_Ev g (d + 1) wk_m55 _ 6 [(0, .inr (.inr (.inl (some 1)))), (1, .inl (Int32.ofNat x)), (2, .inr (.inl (v))), (4, .inl (Int32.ofNat n))] [.inl (kp_b (decide (0 ≤ x ∧ x ≤ 1)))] h'
  refine kx_go 1 (pc' := (if kc_cnd .eq (kp_b (decide (0 ≤ x ∧ x ≤ 1))).toInt 0 then 20 else 9)) (L' := [(0, .inr (.inr (.inl (some 1)))), (1, .inl (Int32.ofNat x)), (2, .inr (.inl (v))), (4, .inl (Int32.ofNat n))]) (S' := []) (h' := h') (by with_unfolding_all rfl) ?_
  rw [if_neg (fun q => by have := kx_b0.mp q; exact absurd this (by rw [decide_eq_true (by omega)]; decide))]
  refine kx_go 3 (pc' := 14) (L' := [(0, .inr (.inr (.inl (some 1)))), (1, .inl (Int32.ofNat x)), (2, .inr (.inl (v))), (4, .inl (Int32.ofNat n))]) (S' := [.inl (Int32.ofNat 8), .inl (Int32.ofNat 1), .inl (Int32.ofNat n)]) (h' := h') (by with_unfolding_all rfl) ?_
  refine kc_call_rule (M2 := wk_m19) (av := [.inl (Int32.ofNat n), .inl (Int32.ofNat 1), .inl (Int32.ofNat 8)]) (r := []) rfl rfl (kc_Con_le (kq_btw (d := 0) hg (by omega) (by omega) (by omega)) (by omega)) (fun rv h' hq => ?_)
  obtain ⟨rfl, rfl⟩ := hq
  show kc_Ev g (d + 1) wk_m55 _ 17 [(0, .inr (.inr (.inl (some 1)))), (1, .inl (Int32.ofNat x)), (2, .inr (.inl (v))), (4, .inl (Int32.ofNat n))] [.inl (kp_b (decide (1 ≤ n ∧ n ≤ 8)))] h'
  refine kx_go 1 (pc' := (if kc_cnd .ne (kp_b (decide (1 ≤ n ∧ n ≤ 8))).toInt 0 then 23 else 20)) (L' := [(0, .inr (.inr (.inl (some 1)))), (1, .inl (Int32.ofNat x)), (2, .inr (.inl (v))), (4, .inl (Int32.ofNat n))]) (S' := []) (h' := h') (by with_unfolding_all rfl) ?_
  rw [if_pos (kx_b1.mpr (decide_eq_true (by omega)))]
  refine kx_go 1 (pc' := 24) (L' := [(0, .inr (.inr (.inl (some 1)))), (1, .inl (Int32.ofNat x)), (2, .inr (.inl (v))), (4, .inl (Int32.ofNat n))]) (S' := [.inr (.inr (.inl (some 1)))]) (h' := h') (by with_unfolding_all rfl) ?_
  refine kx_getf (c := 1) (v := .inr (.inr (.inl (some 31)))) rfl (by decide) h12 ?_
  refine kx_go 1 (pc' := 28) (L' := [(0, .inr (.inr (.inl (some 1)))), (1, .inl (Int32.ofNat x)), (2, .inr (.inl (v))), (4, .inl (Int32.ofNat n))]) (S' := [.inl (Int32.ofNat x), .inr (.inr (.inl (some 31)))]) (h' := h') (by with_unfolding_all rfl) ?_
  refine kx_iald rfl (c := 31) (j := x) (m := 2) (v := .inl (Int32.ofNat c)) rfl (by decide) (by decide) (by omega) hc ?_
  refine kx_go 2 (pc' := 32) (L' := [(0, .inr (.inr (.inl (some 1)))), (1, .inl (Int32.ofNat x)), (2, .inr (.inl (v))), (4, .inl (Int32.ofNat n))]) (S' := [.inl ((Int32.ofNat c) + (Int32.ofNat n))]) (h' := h') (by with_unfolding_all rfl) ?_
  rw [← Int32.ofNat_add]
  refine kx_go 2 (pc' := (if kc_cnd .le (Int32.ofNat (c + n)).toInt (Int32.ofNat 240).toInt then 41 else 38)) (L' := [(0, .inr (.inr (.inl (some 1)))), (1, .inl (Int32.ofNat x)), (2, .inr (.inl (v))), (4, .inl (Int32.ofNat n))]) (S' := []) (h' := h') (by with_unfolding_all rfl) ?_
  by_cases e : c + n ≤ 240
  · rw [if_pos ((kx_le (by omega) (by omega)).mpr e)]
    obtain ⟨k, rfl⟩ : ∃ k, n = k + 1 := ⟨n - 1, by omega⟩
    refine kx_go 4 (pc' := 47) (L' := [(5, .inl ((Int32.ofNat (k + 1)) - (Int32.ofNat 1))), (0, .inr (.inr (.inl (some 1)))), (1, .inl (Int32.ofNat x)), (2, .inr (.inl (v))), (4, .inl (Int32.ofNat (k + 1)))]) (S' := []) (h' := h') (by with_unfolding_all rfl) ?_
    rw [kq_pre k (by omega)]
    have key := fq_cl (g := g) (d := d + 1) (v := v) hx h11 h12 h28 hc (show k + 1 ≤ 8 by omega) e k 0 (by omega)
    rw [kq_0 hc] at key
    exact key
  · rw [if_neg (fun q => e ((kx_le (by omega) (by omega)).mp q))]
    refine kx_go 1 (pc' := 40) (L' := [(0, .inr (.inr (.inl (some 1)))), (1, .inl (Int32.ofNat x)), (2, .inr (.inl (v))), (4, .inl (Int32.ofNat n))]) (S' := [.inl (Int32.ofInt (-4))]) (h' := h') (by with_unfolding_all rfl) ?_
    exact kc_ret_ok rfl (rv := some (.inl (Int32.ofInt (-4)))) rfl (Or.inr ⟨by omega, rfl, rfl⟩)
set_option maxRecDepth 20000 in
theorem fq_54 {g : kc_G} {d x c n : Nat} {v : Int64} {h : kc_H} (hg : kc_ok g) (h0 : h 0 0 = .inr (.inr (.inl (some 1)))) (hx : x < 2) (h11 : h 1 11 = .inr (.inr (.inl (some 28)))) (h12 : h 1 12 = .inr (.inr (.inl (some 31)))) (h28 : h 28 x = .inr (.inr (.inl (some (29 + x))))) (hc : h 31 x = .inl (Int32.ofNat c)) (hn1 : 1 ≤ n) (hn : n ≤ 8) (hc240 : c ≤ 240) : kc_Con g (d + 3) 54 [.inr (.inr (.inl (some 0))), .inl (Int32.ofNat x), .inr (.inl v), .inl (Int32.ofNat n)] h (fun rv h' => (c + n ≤ 240 ∧ rv = some (.inl (Int32.ofNat (c + n))) ∧ h' = (kq_F h (29 + x) 0 31 x c (kq_c v) n n)) ∨ (240 < c + n ∧ rv = some (.inl (Int32.ofInt (-4))) ∧ h' = h)) := by
  refine kc_Con_new hg (M := wk_m54) rfl rfl rfl (show 5 ≤ 5 by decide) ?_
  refine kx_go 1 (pc' := 1) (L' := [(0, .inr (.inr (.inl (some 0)))), (1, .inl (Int32.ofNat x)), (2, .inr (.inl (v))), (4, .inl (Int32.ofNat n))]) (S' := [.inr (.inr (.inl (some 0)))]) (h' := h) (by with_unfolding_all rfl) ?_
  refine kx_getf (c := 0) (v := .inr (.inr (.inl (some 1)))) rfl (by decide) h0 ?_
  refine kx_go 3 (pc' := 8) (L' := [(0, .inr (.inr (.inl (some 0)))), (1, .inl (Int32.ofNat x)), (2, .inr (.inl (v))), (4, .inl (Int32.ofNat n))]) (S' := [.inl (Int32.ofNat n), .inr (.inl (v)), .inl (Int32.ofNat x), .inr (.inr (.inl (some 1)))]) (h' := h) (by with_unfolding_all rfl) ?_
  refine kc_call_rule (M2 := wk_m55) (av := [.inr (.inr (.inl (some 1))), .inl (Int32.ofNat x), .inr (.inl (v)), .inl (Int32.ofNat n)]) (r := []) rfl rfl (kc_Con_le (fq_55 (d := d) hg hx h11 h12 h28 hc hn1 hn hc240) (by omega)) (fun rv h' hq => ?_)
  rcases hq with ⟨q1, rfl, q2⟩ | ⟨q1, rfl, q2⟩
  · exact kc_ret_ok rfl (rv := some (.inl (Int32.ofNat (c + n)))) rfl (Or.inl ⟨q1, rfl, q2⟩)
  · exact kc_ret_ok rfl (rv := some (.inl (Int32.ofInt (-4)))) rfl (Or.inr ⟨q1, rfl, q2⟩)
set_option maxRecDepth 20000 in
theorem fq_rend {g : kc_G} {d x c n : Nat} {v : Int64} {i : Int32} {h : kc_H} (hx : x < 2) (h0 : h 259 0 = .inr (.inr (.inl (some 260)))) (hc : h 260 (160 + x) = .inl (Int32.ofNat c)) (hcn : c + n ≤ 240) : kc_Ev g d wk_m56 (fun rv h' => (c + n ≤ 240 ∧ rv = some (.inl (Int32.ofNat (c + n))) ∧ h' = (kq_F h 260 (170 + 240 * x) 260 (160 + x) c (kq_r v) n n)) ∨ (240 < c + n ∧ rv = some (.inl (Int32.ofInt (-4))) ∧ h' = h)) 113 [(5, .inl (i)), (0, .inr (.inr (.inl (some 259)))), (1, .inl (Int32.ofNat x)), (2, .inr (.inl (v))), (4, .inl (Int32.ofNat n))] [] (kq_F h 260 (170 + 240 * x) 260 (160 + x) c (kq_r v) n n) := by
  refine kx_go 1 (pc' := 114) (L' := [(5, .inl (i)), (0, .inr (.inr (.inl (some 259)))), (1, .inl (Int32.ofNat x)), (2, .inr (.inl (v))), (4, .inl (Int32.ofNat n))]) (S' := [.inr (.inr (.inl (some 259)))]) (h' := (kq_F h 260 (170 + 240 * x) 260 (160 + x) c (kq_r v) n n)) (by with_unfolding_all rfl) ?_
  refine kx_getf (c := 259) (v := .inr (.inr (.inl (some 260)))) rfl (by decide) ((kq_o (Or.inl (by decide)) (Or.inl (by decide))).trans h0) ?_
  refine kx_go 3 (pc' := 122) (L' := [(5, .inl (i)), (0, .inr (.inr (.inl (some 259)))), (1, .inl (Int32.ofNat x)), (2, .inr (.inl (v))), (4, .inl (Int32.ofNat n))]) (S' := [.inl ((Int32.ofNat 160) + (Int32.ofNat x)), .inr (.inr (.inl (some 260)))]) (h' := (kq_F h 260 (170 + 240 * x) 260 (160 + x) c (kq_r v) n n)) (by with_unfolding_all rfl) ?_
  rw [← Int32.ofNat_add]
  refine kx_iald rfl (c := 260) (j := 160 + x) (m := 650) (v := .inl (Int32.ofNat (c + n))) rfl (by decide) (by decide) (by omega) kq_b ?_
  exact kc_ret_ok rfl (rv := some (.inl (Int32.ofNat (c + n)))) rfl (Or.inl ⟨hcn, rfl, rfl⟩)
set_option maxRecDepth 20000 in
theorem fq_rl {g : kc_G} {d x c n : Nat} {v : Int64} {h : kc_H} (hx : x < 2) (h0 : h 259 0 = .inr (.inr (.inl (some 260)))) (hc : h 260 (160 + x) = .inl (Int32.ofNat c)) (hn : n ≤ 8) (hcn : c + n ≤ 240) : ∀ (r m : Nat), r + m + 1 = n → kc_Ev g d wk_m56 (fun rv h' => (c + n ≤ 240 ∧ rv = some (.inl (Int32.ofNat (c + n))) ∧ h' = (kq_F h 260 (170 + 240 * x) 260 (160 + x) c (kq_r v) n n)) ∨ (240 < c + n ∧ rv = some (.inl (Int32.ofInt (-4))) ∧ h' = h)) 51 [(5, .inl (Int32.ofNat r)), (0, .inr (.inr (.inl (some 259)))), (1, .inl (Int32.ofNat x)), (2, .inr (.inl (v))), (4, .inl (Int32.ofNat n))] [] (kq_F h 260 (170 + 240 * x) 260 (160 + x) c (kq_r v) n m) := by
  intro r
  induction r with
  | zero =>
    intro m hm
    refine kx_go 2 (pc' := (if kc_cnd .lt (Int32.ofNat 0).toInt 0 then 113 else 56)) (L' := [(5, .inl (Int32.ofNat 0)), (0, .inr (.inr (.inl (some 259)))), (1, .inl (Int32.ofNat x)), (2, .inr (.inl (v))), (4, .inl (Int32.ofNat n))]) (S' := []) (h' := (kq_F h 260 (170 + 240 * x) 260 (160 + x) c (kq_r v) n m)) (by with_unfolding_all rfl) ?_
    rw [if_neg (by unfold kc_cnd; rw [kx_ti (by omega)]; simp only [decide_eq_true_eq]; omega)]
    refine kx_go 1 (pc' := 57) (L' := [(5, .inl (Int32.ofNat 0)), (0, .inr (.inr (.inl (some 259)))), (1, .inl (Int32.ofNat x)), (2, .inr (.inl (v))), (4, .inl (Int32.ofNat n))]) (S' := [.inr (.inr (.inl (some 259)))]) (h' := (kq_F h 260 (170 + 240 * x) 260 (160 + x) c (kq_r v) n m)) (by with_unfolding_all rfl) ?_
    refine kx_getf (c := 259) (v := .inr (.inr (.inl (some 260)))) rfl (by decide) ((kq_o (Or.inl (by decide)) (Or.inl (by decide))).trans h0) ?_
    refine kx_go 6 (pc' := 70) (L' := [(5, .inl (Int32.ofNat 0)), (0, .inr (.inr (.inl (some 259)))), (1, .inl (Int32.ofNat x)), (2, .inr (.inl (v))), (4, .inl (Int32.ofNat n))]) (S' := [.inr (.inr (.inl (some 259))), .inl ((Int32.ofNat 170) + ((Int32.ofNat 240) * (Int32.ofNat x))), .inr (.inr (.inl (some 260)))]) (h' := (kq_F h 260 (170 + 240 * x) 260 (160 + x) c (kq_r v) n m)) (by with_unfolding_all rfl) ?_
    rw [← Int32.ofNat_mul, ← Int32.ofNat_add]
    refine kx_getf (c := 259) (v := .inr (.inr (.inl (some 260)))) rfl (by decide) ((kq_o (Or.inl (by decide)) (Or.inl (by decide))).trans h0) ?_
    refine kx_go 3 (pc' := 78) (L' := [(5, .inl (Int32.ofNat 0)), (0, .inr (.inr (.inl (some 259)))), (1, .inl (Int32.ofNat x)), (2, .inr (.inl (v))), (4, .inl (Int32.ofNat n))]) (S' := [.inl ((Int32.ofNat 160) + (Int32.ofNat x)), .inr (.inr (.inl (some 260))), .inl (Int32.ofNat (170 + 240 * x)), .inr (.inr (.inl (some 260)))]) (h' := (kq_F h 260 (170 + 240 * x) 260 (160 + x) c (kq_r v) n m)) (by with_unfolding_all rfl) ?_
    rw [← Int32.ofNat_add 160 x]
    refine kx_iald rfl (c := 260) (j := 160 + x) (m := 650) (v := .inl (Int32.ofNat (c + m))) rfl (by decide) (by decide) (by omega) kq_b ?_
    refine kx_go 1 (pc' := 80) (L' := [(5, .inl (Int32.ofNat 0)), (0, .inr (.inr (.inl (some 259)))), (1, .inl (Int32.ofNat x)), (2, .inr (.inl (v))), (4, .inl (Int32.ofNat n))]) (S' := [.inl ((Int32.ofNat (170 + 240 * x)) + (Int32.ofNat (c + m))), .inr (.inr (.inl (some 260)))]) (h' := (kq_F h 260 (170 + 240 * x) 260 (160 + x) c (kq_r v) n m)) (by with_unfolding_all rfl) ?_
    rw [← Int32.ofNat_add]
    refine kx_go 8 (pc' := 92) (L' := [(5, .inl (Int32.ofNat 0)), (0, .inr (.inr (.inl (some 259)))), (1, .inl (Int32.ofNat x)), (2, .inr (.inl (v))), (4, .inl (Int32.ofNat n))]) (S' := [.inl (((v >>> (((Int32.ofNat 8) * (Int32.ofNat 0)).toInt64 &&& 63)) &&& (Int64.ofNat 255)).toInt32), .inl (Int32.ofNat (170 + 240 * x + (c + m))), .inr (.inr (.inl (some 260)))]) (h' := (kq_F h 260 (170 + 240 * x) 260 (160 + x) c (kq_r v) n m)) (by with_unfolding_all rfl) ?_
    refine kx_iast rfl (c := 260) (j := 170 + 240 * x + (c + m)) (m := 650) rfl (by decide) (by decide) (by omega) ?_
    refine kx_go 1 (pc' := 94) (L' := [(5, .inl (Int32.ofNat 0)), (0, .inr (.inr (.inl (some 259)))), (1, .inl (Int32.ofNat x)), (2, .inr (.inl (v))), (4, .inl (Int32.ofNat n))]) (S' := [.inr (.inr (.inl (some 259)))]) (h' := (kc_upd (kq_F h 260 (170 + 240 * x) 260 (160 + x) c (kq_r v) n m) 260 (170 + 240 * x + (c + m)) (.inl (((v >>> (((Int32.ofNat 8) * (Int32.ofNat 0)).toInt64 &&& 63)) &&& (Int64.ofNat 255)).toInt32)))) (by with_unfolding_all rfl) ?_
    refine kx_getf (c := 259) (v := .inr (.inr (.inl (some 260)))) rfl (by decide) ((kj_uo (by decide)).trans ((kq_o (Or.inl (by decide)) (Or.inl (by decide))).trans h0)) ?_
    refine kx_go 4 (pc' := 103) (L' := [(5, .inl (Int32.ofNat 0)), (0, .inr (.inr (.inl (some 259)))), (1, .inl (Int32.ofNat x)), (2, .inr (.inl (v))), (4, .inl (Int32.ofNat n))]) (S' := [.inl ((Int32.ofNat 160) + (Int32.ofNat x)), .inr (.inr (.inl (some 260))), .inl ((Int32.ofNat 160) + (Int32.ofNat x)), .inr (.inr (.inl (some 260)))]) (h' := (kc_upd (kq_F h 260 (170 + 240 * x) 260 (160 + x) c (kq_r v) n m) 260 (170 + 240 * x + (c + m)) (.inl (((v >>> (((Int32.ofNat 8) * (Int32.ofNat 0)).toInt64 &&& 63)) &&& (Int64.ofNat 255)).toInt32)))) (by with_unfolding_all rfl) ?_
    rw [← Int32.ofNat_add 160 x]
    refine kx_iald rfl (c := 260) (j := 160 + x) (m := 650) (v := .inl (Int32.ofNat (c + m))) rfl (by decide) (by decide) (by omega) ((if_neg (by omega)).trans kq_b) ?_
    refine kx_go 2 (pc' := 106) (L' := [(5, .inl (Int32.ofNat 0)), (0, .inr (.inr (.inl (some 259)))), (1, .inl (Int32.ofNat x)), (2, .inr (.inl (v))), (4, .inl (Int32.ofNat n))]) (S' := [.inl ((Int32.ofNat (c + m)) + (Int32.ofNat 1)), .inl (Int32.ofNat (160 + x)), .inr (.inr (.inl (some 260)))]) (h' := (kc_upd (kq_F h 260 (170 + 240 * x) 260 (160 + x) c (kq_r v) n m) 260 (170 + 240 * x + (c + m)) (.inl (((v >>> (((Int32.ofNat 8) * (Int32.ofNat 0)).toInt64 &&& 63)) &&& (Int64.ofNat 255)).toInt32)))) (by with_unfolding_all rfl) ?_
    rw [← Int32.ofNat_add (c + m) 1]
    refine kx_iast rfl (c := 260) (j := 160 + x) (m := 650) rfl (by decide) (by decide) (by omega) ?_
    have hs := kq_s (h := h) (tc := 260) (to := 170 + 240 * x) (bc := 260) (bp := 160 + x) (c := c) (B := kq_r v) (n := n) (m := m) (Or.inr (by omega))
    rw [show n - 1 - m = 0 from by omega] at hs
    refine Eq.mpr (congrArg (fun H => kc_Ev g d wk_m56 _ 107 [(5, .inl (Int32.ofNat 0)), (0, .inr (.inr (.inl (some 259)))), (1, .inl (Int32.ofNat x)), (2, .inr (.inl (v))), (4, .inl (Int32.ofNat n))] [] H) hs) ?_
    refine kx_go 2 (pc' := 51) (L' := [(5, .inl ((Int32.ofNat 0) + Int32.ofInt (-1))), (0, .inr (.inr (.inl (some 259)))), (1, .inl (Int32.ofNat x)), (2, .inr (.inl (v))), (4, .inl (Int32.ofNat n))]) (S' := []) (h' := (kq_F h 260 (170 + 240 * x) 260 (160 + x) c (kq_r v) n (m + 1))) (by with_unfolding_all rfl) ?_
    refine kx_go 2 (pc' := 113) (L' := [(5, .inl ((Int32.ofNat 0) + Int32.ofInt (-1))), (0, .inr (.inr (.inl (some 259)))), (1, .inl (Int32.ofNat x)), (2, .inr (.inl (v))), (4, .inl (Int32.ofNat n))]) (S' := []) (h' := (kq_F h 260 (170 + 240 * x) 260 (160 + x) c (kq_r v) n (m + 1))) (by with_unfolding_all rfl) ?_
    obtain rfl : n = m + 1 := by omega
    exact fq_rend hx h0 hc hcn
  | succ r ih =>
    intro m hm
    refine kx_go 2 (pc' := (if kc_cnd .lt (Int32.ofNat (r + 1)).toInt 0 then 113 else 56)) (L' := [(5, .inl (Int32.ofNat (r + 1))), (0, .inr (.inr (.inl (some 259)))), (1, .inl (Int32.ofNat x)), (2, .inr (.inl (v))), (4, .inl (Int32.ofNat n))]) (S' := []) (h' := (kq_F h 260 (170 + 240 * x) 260 (160 + x) c (kq_r v) n m)) (by with_unfolding_all rfl) ?_
    rw [if_neg (by unfold kc_cnd; rw [kx_ti (by omega)]; simp only [decide_eq_true_eq]; omega)]
    refine kx_go 1 (pc' := 57) (L' := [(5, .inl (Int32.ofNat (r + 1))), (0, .inr (.inr (.inl (some 259)))), (1, .inl (Int32.ofNat x)), (2, .inr (.inl (v))), (4, .inl (Int32.ofNat n))]) (S' := [.inr (.inr (.inl (some 259)))]) (h' := (kq_F h 260 (170 + 240 * x) 260 (160 + x) c (kq_r v) n m)) (by with_unfolding_all rfl) ?_
    refine kx_getf (c := 259) (v := .inr (.inr (.inl (some 260)))) rfl (by decide) ((kq_o (Or.inl (by decide)) (Or.inl (by decide))).trans h0) ?_
    refine kx_go 6 (pc' := 70) (L' := [(5, .inl (Int32.ofNat (r + 1))), (0, .inr (.inr (.inl (some 259)))), (1, .inl (Int32.ofNat x)), (2, .inr (.inl (v))), (4, .inl (Int32.ofNat n))]) (S' := [.inr (.inr (.inl (some 259))), .inl ((Int32.ofNat 170) + ((Int32.ofNat 240) * (Int32.ofNat x))), .inr (.inr (.inl (some 260)))]) (h' := (kq_F h 260 (170 + 240 * x) 260 (160 + x) c (kq_r v) n m)) (by with_unfolding_all rfl) ?_
    rw [← Int32.ofNat_mul, ← Int32.ofNat_add]
    refine kx_getf (c := 259) (v := .inr (.inr (.inl (some 260)))) rfl (by decide) ((kq_o (Or.inl (by decide)) (Or.inl (by decide))).trans h0) ?_
    refine kx_go 3 (pc' := 78) (L' := [(5, .inl (Int32.ofNat (r + 1))), (0, .inr (.inr (.inl (some 259)))), (1, .inl (Int32.ofNat x)), (2, .inr (.inl (v))), (4, .inl (Int32.ofNat n))]) (S' := [.inl ((Int32.ofNat 160) + (Int32.ofNat x)), .inr (.inr (.inl (some 260))), .inl (Int32.ofNat (170 + 240 * x)), .inr (.inr (.inl (some 260)))]) (h' := (kq_F h 260 (170 + 240 * x) 260 (160 + x) c (kq_r v) n m)) (by with_unfolding_all rfl) ?_
    rw [← Int32.ofNat_add 160 x]
    refine kx_iald rfl (c := 260) (j := 160 + x) (m := 650) (v := .inl (Int32.ofNat (c + m))) rfl (by decide) (by decide) (by omega) kq_b ?_
    refine kx_go 1 (pc' := 80) (L' := [(5, .inl (Int32.ofNat (r + 1))), (0, .inr (.inr (.inl (some 259)))), (1, .inl (Int32.ofNat x)), (2, .inr (.inl (v))), (4, .inl (Int32.ofNat n))]) (S' := [.inl ((Int32.ofNat (170 + 240 * x)) + (Int32.ofNat (c + m))), .inr (.inr (.inl (some 260)))]) (h' := (kq_F h 260 (170 + 240 * x) 260 (160 + x) c (kq_r v) n m)) (by with_unfolding_all rfl) ?_
    rw [← Int32.ofNat_add]
    refine kx_go 8 (pc' := 92) (L' := [(5, .inl (Int32.ofNat (r + 1))), (0, .inr (.inr (.inl (some 259)))), (1, .inl (Int32.ofNat x)), (2, .inr (.inl (v))), (4, .inl (Int32.ofNat n))]) (S' := [.inl (((v >>> (((Int32.ofNat 8) * (Int32.ofNat (r + 1))).toInt64 &&& 63)) &&& (Int64.ofNat 255)).toInt32), .inl (Int32.ofNat (170 + 240 * x + (c + m))), .inr (.inr (.inl (some 260)))]) (h' := (kq_F h 260 (170 + 240 * x) 260 (160 + x) c (kq_r v) n m)) (by with_unfolding_all rfl) ?_
    refine kx_iast rfl (c := 260) (j := 170 + 240 * x + (c + m)) (m := 650) rfl (by decide) (by decide) (by omega) ?_
    refine kx_go 1 (pc' := 94) (L' := [(5, .inl (Int32.ofNat (r + 1))), (0, .inr (.inr (.inl (some 259)))), (1, .inl (Int32.ofNat x)), (2, .inr (.inl (v))), (4, .inl (Int32.ofNat n))]) (S' := [.inr (.inr (.inl (some 259)))]) (h' := (kc_upd (kq_F h 260 (170 + 240 * x) 260 (160 + x) c (kq_r v) n m) 260 (170 + 240 * x + (c + m)) (.inl (((v >>> (((Int32.ofNat 8) * (Int32.ofNat (r + 1))).toInt64 &&& 63)) &&& (Int64.ofNat 255)).toInt32)))) (by with_unfolding_all rfl) ?_
    refine kx_getf (c := 259) (v := .inr (.inr (.inl (some 260)))) rfl (by decide) ((kj_uo (by decide)).trans ((kq_o (Or.inl (by decide)) (Or.inl (by decide))).trans h0)) ?_
    refine kx_go 4 (pc' := 103) (L' := [(5, .inl (Int32.ofNat (r + 1))), (0, .inr (.inr (.inl (some 259)))), (1, .inl (Int32.ofNat x)), (2, .inr (.inl (v))), (4, .inl (Int32.ofNat n))]) (S' := [.inl ((Int32.ofNat 160) + (Int32.ofNat x)), .inr (.inr (.inl (some 260))), .inl ((Int32.ofNat 160) + (Int32.ofNat x)), .inr (.inr (.inl (some 260)))]) (h' := (kc_upd (kq_F h 260 (170 + 240 * x) 260 (160 + x) c (kq_r v) n m) 260 (170 + 240 * x + (c + m)) (.inl (((v >>> (((Int32.ofNat 8) * (Int32.ofNat (r + 1))).toInt64 &&& 63)) &&& (Int64.ofNat 255)).toInt32)))) (by with_unfolding_all rfl) ?_
    rw [← Int32.ofNat_add 160 x]
    refine kx_iald rfl (c := 260) (j := 160 + x) (m := 650) (v := .inl (Int32.ofNat (c + m))) rfl (by decide) (by decide) (by omega) ((if_neg (by omega)).trans kq_b) ?_
    refine kx_go 2 (pc' := 106) (L' := [(5, .inl (Int32.ofNat (r + 1))), (0, .inr (.inr (.inl (some 259)))), (1, .inl (Int32.ofNat x)), (2, .inr (.inl (v))), (4, .inl (Int32.ofNat n))]) (S' := [.inl ((Int32.ofNat (c + m)) + (Int32.ofNat 1)), .inl (Int32.ofNat (160 + x)), .inr (.inr (.inl (some 260)))]) (h' := (kc_upd (kq_F h 260 (170 + 240 * x) 260 (160 + x) c (kq_r v) n m) 260 (170 + 240 * x + (c + m)) (.inl (((v >>> (((Int32.ofNat 8) * (Int32.ofNat (r + 1))).toInt64 &&& 63)) &&& (Int64.ofNat 255)).toInt32)))) (by with_unfolding_all rfl) ?_
    rw [← Int32.ofNat_add (c + m) 1]
    refine kx_iast rfl (c := 260) (j := 160 + x) (m := 650) rfl (by decide) (by decide) (by omega) ?_
    have hs := kq_s (h := h) (tc := 260) (to := 170 + 240 * x) (bc := 260) (bp := 160 + x) (c := c) (B := kq_r v) (n := n) (m := m) (Or.inr (by omega))
    rw [show n - 1 - m = (r + 1) from by omega] at hs
    refine Eq.mpr (congrArg (fun H => kc_Ev g d wk_m56 _ 107 [(5, .inl (Int32.ofNat (r + 1))), (0, .inr (.inr (.inl (some 259)))), (1, .inl (Int32.ofNat x)), (2, .inr (.inl (v))), (4, .inl (Int32.ofNat n))] [] H) hs) ?_
    refine kx_go 2 (pc' := 51) (L' := [(5, .inl ((Int32.ofNat (r + 1)) + Int32.ofInt (-1))), (0, .inr (.inr (.inl (some 259)))), (1, .inl (Int32.ofNat x)), (2, .inr (.inl (v))), (4, .inl (Int32.ofNat n))]) (S' := []) (h' := (kq_F h 260 (170 + 240 * x) 260 (160 + x) c (kq_r v) n (m + 1))) (by with_unfolding_all rfl) ?_
    rw [kq_dec r (by omega)]
    exact ih (m + 1) (by omega)
set_option maxRecDepth 20000 in
theorem fq_56 {g : kc_G} {d x c n : Nat} {v : Int64} {h : kc_H} (hg : kc_ok g) (hx : x < 2) (h0 : h 259 0 = .inr (.inr (.inl (some 260)))) (hc : h 260 (160 + x) = .inl (Int32.ofNat c)) (hn1 : 1 ≤ n) (hn : n ≤ 8) (hc240 : c ≤ 240) : kc_Con g (d + 3) 56 [.inr (.inr (.inl (some 259))), .inl (Int32.ofNat x), .inr (.inl v), .inl (Int32.ofNat n)] h (fun rv h' => (c + n ≤ 240 ∧ rv = some (.inl (Int32.ofNat (c + n))) ∧ h' = (kq_F h 260 (170 + 240 * x) 260 (160 + x) c (kq_r v) n n)) ∨ (240 < c + n ∧ rv = some (.inl (Int32.ofInt (-4))) ∧ h' = h)) := by
  refine kc_Con_new hg (M := wk_m56) rfl rfl rfl (show 5 ≤ 6 by decide) ?_
  refine kx_go 1 (pc' := 1) (L' := [(0, .inr (.inr (.inl (some 259)))), (1, .inl (Int32.ofNat x)), (2, .inr (.inl (v))), (4, .inl (Int32.ofNat n))]) (S' := [.inl (Int32.ofNat x)]) (h' := h) (by with_unfolding_all rfl) ?_
  refine kc_call_rule (M2 := wk_m57) (av := [.inl (Int32.ofNat x)]) (r := []) rfl rfl (kc_Con_le (kq_57 (d := 0) hg hx) (by omega)) (fun rv h' hq => ?_)
  obtain ⟨rfl, rfl⟩ := hq
  show kc_Ev g (d + 2) wk_m56 _ 4 [(0, .inr (.inr (.inl (some 259)))), (1, .inl (Int32.ofNat x)), (2, .inr (.inl (v))), (4, .inl (Int32.ofNat n))] [.inl (kp_b true)] h'
  refine kx_go 1 (pc' := 7) (L' := [(0, .inr (.inr (.inl (some 259)))), (1, .inl (Int32.ofNat x)), (2, .inr (.inl (v))), (4, .inl (Int32.ofNat n))]) (S' := []) (h' := h') (by with_unfolding_all rfl) ?_
  refine kx_go 4 (pc' := 14) (L' := [(0, .inr (.inr (.inl (some 259)))), (1, .inl (Int32.ofNat x)), (2, .inr (.inl (v))), (4, .inl (Int32.ofNat n))]) (S' := [.inr (.inl (Int64.ofNat 8)), .inr (.inl (Int64.ofNat 1)), .inr (.inl ((Int32.ofNat n).toInt64))]) (h' := h') (by with_unfolding_all rfl) ?_
  rw [kx_i2l (by omega)]
  refine kc_call_rule (M2 := wk_m22) (av := [.inr (.inl (Int64.ofNat n)), .inr (.inl (Int64.ofNat 1)), .inr (.inl (Int64.ofNat 8))]) (r := []) rfl rfl (kc_Con_le (km_lies hg (by omega) (by omega) (by omega)) (by omega)) (fun rv h' hq => ?_)
  obtain ⟨rfl, rfl⟩ := hq
  show kc_Ev g (d + 2) wk_m56 _ 17 [(0, .inr (.inr (.inl (some 259)))), (1, .inl (Int32.ofNat x)), (2, .inr (.inl (v))), (4, .inl (Int32.ofNat n))] [.inl (kp_b (decide (1 ≤ n ∧ n ≤ 8)))] h'
  refine kx_go 1 (pc' := (if kc_cnd .ne (kp_b (decide (1 ≤ n ∧ n ≤ 8))).toInt 0 then 23 else 20)) (L' := [(0, .inr (.inr (.inl (some 259)))), (1, .inl (Int32.ofNat x)), (2, .inr (.inl (v))), (4, .inl (Int32.ofNat n))]) (S' := []) (h' := h') (by with_unfolding_all rfl) ?_
  rw [if_pos (kx_b1.mpr (decide_eq_true (by omega)))]
  refine kx_go 1 (pc' := 24) (L' := [(0, .inr (.inr (.inl (some 259)))), (1, .inl (Int32.ofNat x)), (2, .inr (.inl (v))), (4, .inl (Int32.ofNat n))]) (S' := [.inr (.inr (.inl (some 259)))]) (h' := h') (by with_unfolding_all rfl) ?_
  refine kx_getf (c := 259) (v := .inr (.inr (.inl (some 260)))) rfl (by decide) h0 ?_
  refine kx_go 3 (pc' := 32) (L' := [(0, .inr (.inr (.inl (some 259)))), (1, .inl (Int32.ofNat x)), (2, .inr (.inl (v))), (4, .inl (Int32.ofNat n))]) (S' := [.inl ((Int32.ofNat 160) + (Int32.ofNat x)), .inr (.inr (.inl (some 260)))]) (h' := h') (by with_unfolding_all rfl) ?_
  rw [← Int32.ofNat_add]
  refine kx_iald rfl (c := 260) (j := 160 + x) (m := 650) (v := .inl (Int32.ofNat c)) rfl (by decide) (by decide) (by omega) hc ?_
  refine kx_go 2 (pc' := 36) (L' := [(0, .inr (.inr (.inl (some 259)))), (1, .inl (Int32.ofNat x)), (2, .inr (.inl (v))), (4, .inl (Int32.ofNat n))]) (S' := [.inl ((Int32.ofNat c) + (Int32.ofNat n))]) (h' := h') (by with_unfolding_all rfl) ?_
  rw [← Int32.ofNat_add]
  refine kx_go 2 (pc' := (if kc_cnd .le (Int32.ofNat (c + n)).toInt (Int32.ofNat 240).toInt then 45 else 42)) (L' := [(0, .inr (.inr (.inl (some 259)))), (1, .inl (Int32.ofNat x)), (2, .inr (.inl (v))), (4, .inl (Int32.ofNat n))]) (S' := []) (h' := h') (by with_unfolding_all rfl) ?_
  by_cases e : c + n ≤ 240
  · rw [if_pos ((kx_le (by omega) (by omega)).mpr e)]
    obtain ⟨k, rfl⟩ : ∃ k, n = k + 1 := ⟨n - 1, by omega⟩
    refine kx_go 4 (pc' := 51) (L' := [(5, .inl ((Int32.ofNat (k + 1)) - (Int32.ofNat 1))), (0, .inr (.inr (.inl (some 259)))), (1, .inl (Int32.ofNat x)), (2, .inr (.inl (v))), (4, .inl (Int32.ofNat (k + 1)))]) (S' := []) (h' := h') (by with_unfolding_all rfl) ?_
    rw [kq_pre k (by omega)]
    have key := fq_rl (g := g) (d := d + 2) (v := v) hx h0 hc (show k + 1 ≤ 8 by omega) e k 0 (by omega)
    rw [kq_0 hc] at key
    exact key
  · rw [if_neg (fun q => e ((kx_le (by omega) (by omega)).mp q))]
    refine kx_go 1 (pc' := 44) (L' := [(0, .inr (.inr (.inl (some 259)))), (1, .inl (Int32.ofNat x)), (2, .inr (.inl (v))), (4, .inl (Int32.ofNat n))]) (S' := [.inl (Int32.ofInt (-4))]) (h' := h') (by with_unfolding_all rfl) ?_
    exact kc_ret_ok rfl (rv := some (.inl (Int32.ofInt (-4)))) rfl (Or.inr ⟨by omega, rfl, rfl⟩)
def fu_il (B : Nat → Int32) (a : Int32) : Nat → Bool
  | 0 => false
  | n + 1 => fu_il B a n || decide ((B (150 + n)).toInt = a.toInt)
theorem fu_il_t {B : Nat → Int32} {a : Int32} : ∀ {n k : Nat}, k < n → (B (150 + k)).toInt = a.toInt → fu_il B a n = true
  | 0, k, hk, _ => absurd hk (by omega)
  | n + 1, k, hk, e => by
    show (fu_il B a n || decide ((B (150 + n)).toInt = a.toInt)) = true
    by_cases h : k = n
    · subst h
      rw [decide_eq_true e, Bool.or_true]
    · rw [fu_il_t (show k < n by omega) e, Bool.true_or]
theorem fu_il_n {B : Nat → Int32} {a : Int32} : ∀ {n : Nat}, (∀ k, k < n → ¬ (B (150 + k)).toInt = a.toInt) → fu_il B a n = false
  | 0, _ => rfl
  | n + 1, h => by
    show (fu_il B a n || decide ((B (150 + n)).toInt = a.toInt)) = false
    rw [fu_il_n (fun k hk => h k (by omega)), decide_eq_false (h n (by omega))]
    rfl
theorem fu_il_f {B : Nat → Int32} {a : Int32} {n k : Nat} (h : fu_il B a n = false) (hk : k < n) : ¬ (B (150 + k)).toInt = a.toInt := fun e => by
  rw [fu_il_t hk e] at h
  cases h
def fu_line (B : Nat → Int32) (a : Int32) : fu_S := if fu_in a 1 (B 0).toInt = true then (if fu_il B a (B 3).toInt.toNat = true then (Int32.ofInt (-3), []) else (if (B 3).toInt < 5 then (B 3 + Int32.ofNat 1, [(150 + (B 3).toInt.toNat, a), (3, B 3 + Int32.ofNat 1)]) else (Int32.ofInt (-3), []))) else (Int32.ofInt (-2), [])
theorem fu_g_line {B : Nat → Int32} {a : Int32} (hB : fu_BT B) : fu_gd (fu_line B a).2 := by
  obtain ⟨D, D5, eD⟩ := fu_n0 hB
  obtain ⟨n, n5, en⟩ := fu_n3 hB
  unfold fu_line
  split
  · rename_i e1
    rw [eD, kx_ti (by omega)] at e1
    have e1 := fu_in_t e1
    split
    · exact fu_gd_nil
    · rw [en, kx_ti (by omega)]
      split
      · rw [← Int32.ofNat_add, Int.toNat_natCast]
        have hn : n < 5 := by omega
        exact fu_gd_cons (by omega) (fu_te (fu_fli n hn).2.1) (fu_okI (a := 0) (b := 5) (fu_fli n hn).2.2 (by omega) (by omega)) (fu_gd_cons (by omega) (by decide) (fu_okN (by decide) fu_f0.1.2.2.2.1 (by omega)) fu_gd_nil)
      · exact fu_gd_nil
  · exact fu_gd_nil
set_option maxRecDepth 20000 in
theorem fu_c201l {g : kc_G} {d n : Nat} {h : kc_H} {B : Nat → Int32} {a : Int32} (hw : kd_wt kd_ty h) (hC : fu_C B 1 h) (n5 : n ≤ 5) (en : B 3 = Int32.ofNat n) : ∀ (m k : Nat), n - k = m → k ≤ n → fu_il B a k = false → kc_Ev g d wk_m201 (fun rv h' => rv = some (.inl (kp_b (fu_il B a n))) ∧ h' = h) 2 [(2, .inl (Int32.ofNat k)), (0, .inr (.inr (.inl (some 1)))), (1, .inl (a))] [] h := by
  intro m
  induction m with
  | zero =>
    intro k hm hk hK
    refine kx_go 2 (pc' := 4) (L' := [(2, .inl (Int32.ofNat k)), (0, .inr (.inr (.inl (some 1)))), (1, .inl (a))]) (S' := [.inr (.inr (.inl (some 1))), .inl (Int32.ofNat k)]) (h' := h) (by with_unfolding_all rfl) ?_
    refine kx_getf (c := 1) (v := .inl (Int32.ofNat n)) rfl (by decide) ((fu_C0 hC).2.2.2.trans (by rw [en])) ?_
    refine kx_go 1 (pc' := (if kc_cnd .ge (Int32.ofNat k).toInt (Int32.ofNat n).toInt then 28 else 10)) (L' := [(2, .inl (Int32.ofNat k)), (0, .inr (.inr (.inl (some 1)))), (1, .inl (a))]) (S' := []) (h' := h) (by with_unfolding_all rfl) ?_
    rw [if_pos ((kx_ge (by omega) (by omega)).mpr (by omega))]
    refine kx_go 1 (pc' := 29) (L' := [(2, .inl (Int32.ofNat k)), (0, .inr (.inr (.inl (some 1)))), (1, .inl (a))]) (S' := [.inl (Int32.ofNat 0)]) (h' := h) (by with_unfolding_all rfl) ?_
    obtain rfl : k = n := by omega
    exact kc_ret_ok rfl (rv := some (.inl (Int32.ofNat 0))) rfl ⟨by rw [hK]; rfl, rfl⟩
  | succ m ih =>
    intro k hm hk hK
    refine kx_go 2 (pc' := 4) (L' := [(2, .inl (Int32.ofNat k)), (0, .inr (.inr (.inl (some 1)))), (1, .inl (a))]) (S' := [.inr (.inr (.inl (some 1))), .inl (Int32.ofNat k)]) (h' := h) (by with_unfolding_all rfl) ?_
    refine kx_getf (c := 1) (v := .inl (Int32.ofNat n)) rfl (by decide) ((fu_C0 hC).2.2.2.trans (by rw [en])) ?_
    refine kx_go 1 (pc' := (if kc_cnd .ge (Int32.ofNat k).toInt (Int32.ofNat n).toInt then 28 else 10)) (L' := [(2, .inl (Int32.ofNat k)), (0, .inr (.inr (.inl (some 1)))), (1, .inl (a))]) (S' := []) (h' := h) (by with_unfolding_all rfl) ?_
    rw [if_neg (fun q => by have := (kx_ge (by omega) (by omega)).mp q; omega)]
    have hk5 : k < 5 := by omega
    refine kx_go 1 (pc' := 11) (L' := [(2, .inl (Int32.ofNat k)), (0, .inr (.inr (.inl (some 1)))), (1, .inl (a))]) (S' := [.inr (.inr (.inl (some 1)))]) (h' := h) (by with_unfolding_all rfl) ?_
    refine kx_getf (c := 1) (v := .inr (.inr (.inl (some 27)))) rfl (by decide) (kx_ofr (hw _ _ _ fu_kr.2.2.2.2.2.2)) ?_
    refine kx_go 1 (pc' := 15) (L' := [(2, .inl (Int32.ofNat k)), (0, .inr (.inr (.inl (some 1)))), (1, .inl (a))]) (S' := [.inl (Int32.ofNat k), .inr (.inr (.inl (some 27)))]) (h' := h) (by with_unfolding_all rfl) ?_
    refine kx_iald (c := 27) (j := k) (m := 5) (v := .inl (B (150 + k))) rfl rfl (by decide) (by decide) hk5 (fu_Cj (c := 26) hC (by omega) (fu_fli k hk5).2.1 (fu_fli k hk5).1) ?_
    refine kx_go 2 (pc' := (if kc_cnd .ne (B (150 + k)).toInt (a).toInt then 22 else 20)) (L' := [(2, .inl (Int32.ofNat k)), (0, .inr (.inr (.inl (some 1)))), (1, .inl (a))]) (S' := []) (h' := h) (by with_unfolding_all rfl) ?_
    by_cases e1 : (B (150 + k)).toInt = a.toInt
    · rw [if_neg (fun q => fu_ine.mp q e1)]
      refine kx_go 1 (pc' := 21) (L' := [(2, .inl (Int32.ofNat k)), (0, .inr (.inr (.inl (some 1)))), (1, .inl (a))]) (S' := [.inl (Int32.ofNat 1)]) (h' := h) (by with_unfolding_all rfl) ?_
      exact kc_ret_ok rfl (rv := some (.inl (Int32.ofNat 1))) rfl ⟨by rw [fu_il_t (show k < n by omega) e1]; rfl, rfl⟩
    · rw [if_pos (fu_ine.mpr e1)]
      refine kx_go 2 (pc' := 2) (L' := [(2, .inl ((Int32.ofNat k) + Int32.ofInt 1)), (0, .inr (.inr (.inl (some 1)))), (1, .inl (a))]) (S' := []) (h' := h) (by with_unfolding_all rfl) ?_
      rw [kx_inc]
      refine kf_lo (L := [(2, .inl (Int32.ofNat (k + 1))), (0, .inr (.inr (.inl (some 1)))), (1, .inl a)]) (by intro q hq; simp only [List.mem_cons, List.not_mem_nil, or_false] at hq; rcases hq with rfl | rfl | rfl <;> rfl) ?_
      exact ih (k + 1) (by omega) (by omega) (by show (fu_il B a k || decide ((B (150 + k)).toInt = a.toInt)) = false; rw [hK, decide_eq_false e1]; rfl)
set_option maxRecDepth 20000 in
theorem fu_c201 {g : kc_G} {d n : Nat} {h : kc_H} {B : Nat → Int32} {a : Int32} (hg : kc_ok g) (hw : kd_wt kd_ty h) (hC : fu_C B 1 h) (n5 : n ≤ 5) (en : B 3 = Int32.ofNat n) : kc_Con g (d + 1) 201 [.inr (.inr (.inl (some 1))), .inl a] h (fun rv h' => rv = some (.inl (kp_b (fu_il B a n))) ∧ h' = h) := by
  refine kc_Con_new hg (M := wk_m201) rfl rfl rfl (show 2 ≤ 3 by decide) ?_
  refine kx_go 2 (pc' := 2) (L' := [(2, .inl (Int32.ofNat 0)), (0, .inr (.inr (.inl (some 1)))), (1, .inl (a))]) (S' := []) (h' := h) (by with_unfolding_all rfl) ?_
  exact fu_c201l hw hC n5 en n 0 (by omega) (by omega) rfl
set_option maxRecDepth 20000 in
theorem fu_cline {g : kc_G} {d : Nat} {h : kc_H} {B : Nat → Int32} {a : Int32} (hg : kc_ok g) (hw : kd_wt kd_ty h) (hC : fu_C B 1 h) (hB : fu_BT B) : kc_Con g (d + 3) 93 [.inr (.inr (.inl (some 0))), .inl a] h (fun rv h' => rv = some (.inl (fu_line B a).1) ∧ h' = fu_cw 1 (fu_line B a).2 h) := by
  refine kc_Con_new hg (M := wk_m93) rfl rfl rfl (show 2 ≤ 2 by decide) ?_
  obtain ⟨n, n5, en⟩ := fu_n3 hB
  refine kx_go 1 (pc' := 1) (L' := [(0, .inr (.inr (.inl (some 0)))), (1, .inl (a))]) (S' := [.inr (.inr (.inl (some 0)))]) (h' := h) (by with_unfolding_all rfl) ?_
  refine kx_getf (c := 0) (v := .inr (.inr (.inl (some 1)))) rfl (by decide) (kx_ofr (hw _ _ _ kv_k0.1)) ?_
  refine kx_go 1 (pc' := 5) (L' := [(0, .inr (.inr (.inl (some 0)))), (1, .inl (a))]) (S' := [.inl (a), .inr (.inr (.inl (some 1)))]) (h' := h) (by with_unfolding_all rfl) ?_
  refine kc_call_rule (M2 := wk_m25) (av := [.inr (.inr (.inl (some 1))), .inl (a)]) (r := []) rfl rfl (kc_Con_le (fu_c25 (d := 0) hg hC) (by omega)) (fun rv h2 hq => ?_)
  obtain ⟨rfl, e⟩ := hq
  rw [e]
  clear e
  show kc_Ev g (d + 2) wk_m93 _ 8 [(0, .inr (.inr (.inl (some 0)))), (1, .inl (a))] [.inl (kp_b (fu_in a 1 (B 0).toInt))] h
  refine kx_go 1 (pc' := (if kc_cnd .ne (kp_b (fu_in a 1 (B 0).toInt)).toInt 0 then 14 else 11)) (L' := [(0, .inr (.inr (.inl (some 0)))), (1, .inl (a))]) (S' := []) (h' := h) (by with_unfolding_all rfl) ?_
  cases e1 : fu_in a 1 (B 0).toInt with
  | false =>
    rw [if_neg (fun q => by have := kx_b1.mp q; cases this)]
    refine kx_go 1 (pc' := 13) (L' := [(0, .inr (.inr (.inl (some 0)))), (1, .inl (a))]) (S' := [.inl (Int32.ofInt (-2))]) (h' := h) (by with_unfolding_all rfl) ?_
    have key : fu_line B a = (Int32.ofInt (-2), []) := by unfold fu_line; rw [if_neg (by simp [e1])]
    exact kc_ret_ok rfl (rv := some (.inl (Int32.ofInt (-2)))) rfl ⟨fu_e1 key, fu_ec key⟩
  | true =>
    rw [if_pos (kx_b1.mpr rfl)]
    refine kx_go 1 (pc' := 15) (L' := [(0, .inr (.inr (.inl (some 0)))), (1, .inl (a))]) (S' := [.inr (.inr (.inl (some 0)))]) (h' := h) (by with_unfolding_all rfl) ?_
    refine kx_getf (c := 0) (v := .inr (.inr (.inl (some 1)))) rfl (by decide) (kx_ofr (hw _ _ _ kv_k0.1)) ?_
    refine kx_getf (c := 1) (v := .inl (Int32.ofNat n)) rfl (by decide) ((fu_C0 hC).2.2.2.trans (by rw [en])) ?_
    refine kx_go 2 (pc' := (if kc_cnd .ge (Int32.ofNat n).toInt (Int32.ofNat 5).toInt then 36 else 25)) (L' := [(0, .inr (.inr (.inl (some 0)))), (1, .inl (a))]) (S' := []) (h' := h) (by with_unfolding_all rfl) ?_
    by_cases e2 : 5 ≤ n
    · rw [if_pos (fu_ige.mpr (by rw [kx_ti (by omega), kx_ti (by omega)]; omega))]
      refine kx_go 1 (pc' := 38) (L' := [(0, .inr (.inr (.inl (some 0)))), (1, .inl (a))]) (S' := [.inl (Int32.ofInt (-3))]) (h' := h) (by with_unfolding_all rfl) ?_
      have key : fu_line B a = (Int32.ofInt (-3), []) := by unfold fu_line; rw [if_pos e1, en, kx_ti (by omega), Int.toNat_natCast]; rw [if_neg (show ¬ (n : Int) < 5 by omega)]; split <;> rfl
      exact kc_ret_ok rfl (rv := some (.inl (Int32.ofInt (-3)))) rfl ⟨fu_e1 key, fu_ec key⟩
    · rw [if_neg (fun q => fu_ige.mp q (by rw [kx_ti (by omega), kx_ti (by omega)]; omega))]
      refine kx_go 1 (pc' := 26) (L' := [(0, .inr (.inr (.inl (some 0)))), (1, .inl (a))]) (S' := [.inr (.inr (.inl (some 0)))]) (h' := h) (by with_unfolding_all rfl) ?_
      refine kx_getf (c := 0) (v := .inr (.inr (.inl (some 1)))) rfl (by decide) (kx_ofr (hw _ _ _ kv_k0.1)) ?_
      refine kx_go 1 (pc' := 30) (L' := [(0, .inr (.inr (.inl (some 0)))), (1, .inl (a))]) (S' := [.inl (a), .inr (.inr (.inl (some 1)))]) (h' := h) (by with_unfolding_all rfl) ?_
      refine kc_call_rule (M2 := wk_m201) (av := [.inr (.inr (.inl (some 1))), .inl (a)]) (r := []) rfl rfl (kc_Con_le (fu_c201 (d := 0) hg hw hC n5 en) (by omega)) (fun rv h2 hq => ?_)
      obtain ⟨rfl, e⟩ := hq
      rw [e]
      clear e
      show kc_Ev g (d + 2) wk_m93 _ 33 [(0, .inr (.inr (.inl (some 0)))), (1, .inl (a))] [.inl (kp_b (fu_il B a n))] h
      refine kx_go 1 (pc' := (if kc_cnd .eq (kp_b (fu_il B a n)).toInt 0 then 39 else 36)) (L' := [(0, .inr (.inr (.inl (some 0)))), (1, .inl (a))]) (S' := []) (h' := h) (by with_unfolding_all rfl) ?_
      cases e3 : fu_il B a n with
      | true =>
        rw [if_neg (fun q => by have := kx_b0.mp q; cases this)]
        refine kx_go 1 (pc' := 38) (L' := [(0, .inr (.inr (.inl (some 0)))), (1, .inl (a))]) (S' := [.inl (Int32.ofInt (-3))]) (h' := h) (by with_unfolding_all rfl) ?_
        have key : fu_line B a = (Int32.ofInt (-3), []) := by unfold fu_line; rw [if_pos e1, en, kx_ti (by omega), Int.toNat_natCast]; rw [if_pos e3]
        exact kc_ret_ok rfl (rv := some (.inl (Int32.ofInt (-3)))) rfl ⟨fu_e1 key, fu_ec key⟩
      | false =>
        rw [if_pos (kx_b0.mpr rfl)]
        have hn : n < 5 := by omega
        refine kx_go 1 (pc' := 40) (L' := [(0, .inr (.inr (.inl (some 0)))), (1, .inl (a))]) (S' := [.inr (.inr (.inl (some 0)))]) (h' := h) (by with_unfolding_all rfl) ?_
        refine kx_getf (c := 0) (v := .inr (.inr (.inl (some 1)))) rfl (by decide) (kx_ofr (hw _ _ _ kv_k0.1)) ?_
        refine kx_getf (c := 1) (v := .inr (.inr (.inl (some 27)))) rfl (by decide) (kx_ofr (hw _ _ _ fu_kr.2.2.2.2.2.2)) ?_
        refine kx_go 1 (pc' := 47) (L' := [(0, .inr (.inr (.inl (some 0)))), (1, .inl (a))]) (S' := [.inr (.inr (.inl (some 0))), .inr (.inr (.inl (some 27)))]) (h' := h) (by with_unfolding_all rfl) ?_
        refine kx_getf (c := 0) (v := .inr (.inr (.inl (some 1)))) rfl (by decide) (kx_ofr (hw _ _ _ kv_k0.1)) ?_
        refine kx_getf (c := 1) (v := .inl (Int32.ofNat n)) rfl (by decide) ((fu_C0 hC).2.2.2.trans (by rw [en])) ?_
        refine kx_go 1 (pc' := 54) (L' := [(0, .inr (.inr (.inl (some 0)))), (1, .inl (a))]) (S' := [.inl (a), .inl (Int32.ofNat n), .inr (.inr (.inl (some 27)))]) (h' := h) (by with_unfolding_all rfl) ?_
        refine kx_iast (c := 27) (j := n) (m := 5) rfl rfl (by decide) (by decide) hn ?_
        refine kx_go 1 (pc' := 56) (L' := [(0, .inr (.inr (.inl (some 0)))), (1, .inl (a))]) (S' := [.inr (.inr (.inl (some 0)))]) (h' := (kc_upd h 27 n (.inl (a)))) (by with_unfolding_all rfl) ?_
        refine kx_getf (c := 0) (v := .inr (.inr (.inl (some 1)))) rfl (by decide) ((fu_ne (by omega)).trans (kx_ofr (hw _ _ _ kv_k0.1))) ?_
        refine kx_go 1 (pc' := 60) (L' := [(0, .inr (.inr (.inl (some 0)))), (1, .inl (a))]) (S' := [.inr (.inr (.inl (some 1))), .inr (.inr (.inl (some 1)))]) (h' := (kc_upd h 27 n (.inl (a)))) (by with_unfolding_all rfl) ?_
        refine kx_getf (c := 1) (v := .inl (Int32.ofNat n)) rfl (by decide) ((fu_ne (by omega)).trans ((fu_C0 hC).2.2.2.trans (by rw [en]))) ?_
        refine kx_go 2 (pc' := 65) (L' := [(0, .inr (.inr (.inl (some 0)))), (1, .inl (a))]) (S' := [.inl ((Int32.ofNat n) + (Int32.ofNat 1)), .inr (.inr (.inl (some 1)))]) (h' := (kc_upd h 27 n (.inl (a)))) (by with_unfolding_all rfl) ?_
        rw [kx_inc1]
        refine kx_go 1 (pc' := 68) (L' := [(0, .inr (.inr (.inl (some 0)))), (1, .inl (a))]) (S' := []) (h' := (kc_upd (kc_upd h 27 n (.inl (a))) 1 3 (.inl (Int32.ofNat (n + 1))))) (by with_unfolding_all rfl) ?_
        refine kx_go 1 (pc' := 69) (L' := [(0, .inr (.inr (.inl (some 0)))), (1, .inl (a))]) (S' := [.inr (.inr (.inl (some 0)))]) (h' := (kc_upd (kc_upd h 27 n (.inl (a))) 1 3 (.inl (Int32.ofNat (n + 1))))) (by with_unfolding_all rfl) ?_
        refine kx_getf (c := 0) (v := .inr (.inr (.inl (some 1)))) rfl (by decide) ((fu_ne (by omega)).trans ((fu_ne (by omega)).trans (kx_ofr (hw _ _ _ kv_k0.1)))) ?_
        refine kx_getf (c := 1) (v := .inl (Int32.ofNat (n + 1))) rfl (by decide) (fu_eq) ?_
        have key : fu_line B a = (Int32.ofNat (n + 1), [(150 + n, a), (3, Int32.ofNat (n + 1))]) := by unfold fu_line; rw [if_pos e1, en, kx_ti (by omega), Int.toNat_natCast, if_neg (by rw [e3]; decide), if_pos (show (n : Int) < 5 by omega), kx_inc1]
        have eh : fu_cw 1 [(150 + n, a), (3, Int32.ofNat (n + 1))] h = (kc_upd (kc_upd h 27 n (.inl (a))) 1 3 (.inl (Int32.ofNat (n + 1)))) := by simp only [fu_cw, (fu_fli n hn).1, fu_f0.2.2.2.2.1]
        exact kc_ret_ok rfl (rv := some (.inl (Int32.ofNat (n + 1)))) rfl ⟨fu_e1 key, eh.symm.trans (fu_ec key)⟩
set_option maxRecDepth 20000 in
theorem fu_rline {g : kc_G} {d : Nat} {h : kc_H} {B : Nat → Int32} {a : Int32} (hg : kc_ok g) (hw : kd_wt kd_ty h) (hC : fu_B B h) (hB : fu_BT B) (hn4 : ∀ (n : Nat) (l : Nat → Nat) (dd : Nat), n ≤ 5 → B 3 = Int32.ofNat n → (∀ i, i < 5 → l i ≤ 5) → (∀ i, i < 5 → h 260 (150 + i) = .inl (Int32.ofNat (l i))) → 1 ≤ (dd : Int) → (dd : Int) ≤ 5 → (∀ i, i < n → ¬ l i = dd) → n < 5) : kc_Con g (d + 5) 94 [.inr (.inr (.inl (some 259))), .inl a] h (fun rv h' => rv = some (.inl (fu_line B a).1) ∧ h' = fu_rw (fu_line B a).2 h) := by
  refine kc_Con_new hg (M := wk_m94) rfl rfl rfl (show 2 ≤ 2 by decide) ?_
  obtain ⟨D, D5, eD⟩ := fu_n0 hB
  obtain ⟨n, n5, en⟩ := fu_n3 hB
  refine kx_go 2 (pc' := 2) (L' := [(0, .inr (.inr (.inl (some 259)))), (1, .inl (a))]) (S' := [.inl (a), .inr (.inr (.inl (some 259)))]) (h' := h) (by with_unfolding_all rfl) ?_
  refine kc_call_rule (M2 := wk_m27) (av := [.inr (.inr (.inl (some 259))), .inl (a)]) (r := []) rfl rfl (kc_Con_le (fu_r27 (d := 0) hg hw hC) (by omega)) (fun rv h2 hq => ?_)
  obtain ⟨rfl, e⟩ := hq
  rw [e]
  clear e
  show kc_Ev g (d + 4) wk_m94 _ 5 [(0, .inr (.inr (.inl (some 259)))), (1, .inl (a))] [.inl (kp_b (fu_in a 1 (B 0).toInt))] h
  refine kx_go 1 (pc' := (if kc_cnd .ne (kp_b (fu_in a 1 (B 0).toInt)).toInt 0 then 11 else 8)) (L' := [(0, .inr (.inr (.inl (some 259)))), (1, .inl (a))]) (S' := []) (h' := h) (by with_unfolding_all rfl) ?_
  cases e1 : fu_in a 1 (B 0).toInt with
  | false =>
    rw [if_neg (fun q => by have := kx_b1.mp q; cases this)]
    refine kx_go 1 (pc' := 10) (L' := [(0, .inr (.inr (.inl (some 259)))), (1, .inl (a))]) (S' := [.inl (Int32.ofInt (-2))]) (h' := h) (by with_unfolding_all rfl) ?_
    have key : fu_line B a = (Int32.ofInt (-2), []) := by unfold fu_line; rw [if_neg (by simp [e1])]
    exact kc_ret_ok rfl (rv := some (.inl (Int32.ofInt (-2)))) rfl ⟨fu_e1 key, fu_er key⟩
  | true =>
    rw [if_pos (kx_b1.mpr rfl)]
    have q1 := e1
    rw [eD, kx_ti (by omega)] at q1
    obtain ⟨dd, dd5, rfl, d1, d2⟩ := fu_in_n (u := 5) q1 (by omega) (by omega)
    have hl : ∀ i, i < 5 → ∃ v : Nat, v ≤ 5 ∧ B (150 + i) = Int32.ofNat v := fun i hi => fu_nat (by decide) (fu_fli i hi).2.2 (hB (150 + i) (by omega) (fu_fli i hi).2.1)
    have hl2 : ∀ i, ∃ v : Nat, i < 5 → v ≤ 5 ∧ B (150 + i) = Int32.ofNat v := fun i => by
      by_cases hi : i < 5
      · obtain ⟨v, v1, v2⟩ := hl i hi
        exact ⟨v, fun _ => ⟨v1, v2⟩⟩
      · exact ⟨0, fun q => absurd q hi⟩
    obtain ⟨l, hl⟩ := Classical.axiomOfChoice hl2
    have ha : ∀ i, i < 5 → h 260 (150 + i) = .inl (Int32.ofNat (l i)) := fun i hi => by rw [hC (150 + i) (by omega) (fu_fli i hi).2.1, (hl i hi).2]
    have hld : ∀ i, i < 5 → ((B (150 + i)).toInt = (Int32.ofNat dd).toInt ↔ l i = dd) := fun i hi => by
      have := (hl i hi).1
      rw [(hl i hi).2, kx_ti (by omega), kx_ti (by omega)]
      omega
    have n4 : (∀ i, i < n → ¬ l i = dd) → n < 5 := hn4 n l dd n5 en (fun i hi => (hl i hi).1) (fun i hi => ha i hi) d1 (by omega)
    have key := kl_in (d := 0) (h := h) (D := D) (n := n) (dd := dd) (l := l) hg n5 (by omega) ((hC 0 (by decide) (by decide)).trans (by rw [eD])) D5 ((hC 3 (by decide) (by decide)).trans (by rw [en])) ha (fun i hi => (hl i hi).1)
    rw [kz_wid hw] at key
    refine kx_go 2 (pc' := 13) (L' := [(0, .inr (.inr (.inl (some 259)))), (1, .inl (Int32.ofNat dd))]) (S' := [.inl (Int32.ofNat dd), .inr (.inr (.inl (some 259)))]) (h' := h) (by with_unfolding_all rfl) ?_
    refine kc_call_rule (M2 := wk_m258) (av := [.inr (.inr (.inl (some 259))), .inl (Int32.ofNat dd)]) (r := []) rfl rfl (kc_Con_le key (by omega)) (fun rv h2 hq => ?_)
    rcases hq with ⟨k, k1, k2, rfl, e⟩ | ⟨hno, rfl, e⟩
    · rw [e]
      clear e
      show kc_Ev g (d + 4) wk_m94 _ 16 [(0, .inr (.inr (.inl (some 259)))), (1, .inl (Int32.ofNat dd))] [.inl (Int32.ofNat k)] h
      refine kx_go 1 (pc' := (if kc_cnd .lt (Int32.ofNat k).toInt 0 then 22 else 19)) (L' := [(0, .inr (.inr (.inl (some 259)))), (1, .inl (Int32.ofNat dd))]) (S' := []) (h' := h) (by with_unfolding_all rfl) ?_
      rw [if_neg (fun q => by unfold kc_cnd at q; rw [kx_ti (by omega)] at q; simp only [decide_eq_true_eq] at q; omega)]
      refine kx_go 1 (pc' := 21) (L' := [(0, .inr (.inr (.inl (some 259)))), (1, .inl (Int32.ofNat dd))]) (S' := [.inl (Int32.ofInt (-3))]) (h' := h) (by with_unfolding_all rfl) ?_
      have key : fu_line B (Int32.ofNat dd) = (Int32.ofInt (-3), []) := by unfold fu_line; rw [if_pos e1, en, kx_ti (by omega), Int.toNat_natCast, if_pos (fu_il_t k1 ((hld k (by omega)).mpr k2))]
      exact kc_ret_ok rfl (rv := some (.inl (Int32.ofInt (-3)))) rfl ⟨fu_e1 key, fu_er key⟩
    · rw [e]
      clear e
      show kc_Ev g (d + 4) wk_m94 _ 16 [(0, .inr (.inr (.inl (some 259)))), (1, .inl (Int32.ofNat dd))] [.inl (Int32.ofInt (-2))] h
      refine kx_go 1 (pc' := (if kc_cnd .lt (Int32.ofInt (-2)).toInt 0 then 22 else 19)) (L' := [(0, .inr (.inr (.inl (some 259)))), (1, .inl (Int32.ofNat dd))]) (S' := []) (h' := h) (by with_unfolding_all rfl) ?_
      rw [if_pos (by decide)]
      have h5 := n4 hno
      refine kx_go 1 (pc' := 23) (L' := [(0, .inr (.inr (.inl (some 259)))), (1, .inl (Int32.ofNat dd))]) (S' := [.inr (.inr (.inl (some 259)))]) (h' := h) (by with_unfolding_all rfl) ?_
      refine kx_getf (c := 259) (v := .inr (.inr (.inl (some 260)))) rfl (by decide) (kx_ofr (hw _ _ _ kz_k.1)) ?_
      refine kx_go 2 (pc' := 30) (L' := [(0, .inr (.inr (.inl (some 259)))), (1, .inl (Int32.ofNat dd))]) (S' := [.inr (.inr (.inl (some 259))), .inl (Int32.ofNat 150), .inr (.inr (.inl (some 260)))]) (h' := h) (by with_unfolding_all rfl) ?_
      refine kx_getf (c := 259) (v := .inr (.inr (.inl (some 260)))) rfl (by decide) (kx_ofr (hw _ _ _ kz_k.1)) ?_
      refine kx_go 1 (pc' := 34) (L' := [(0, .inr (.inr (.inl (some 259)))), (1, .inl (Int32.ofNat dd))]) (S' := [.inl (Int32.ofNat 3), .inr (.inr (.inl (some 260))), .inl (Int32.ofNat 150), .inr (.inr (.inl (some 260)))]) (h' := h) (by with_unfolding_all rfl) ?_
      refine kx_iald (c := 260) (j := 3) (m := 650) (v := .inl (Int32.ofNat n)) rfl rfl (by decide) (by decide) (by omega) ((hC 3 (by decide) (by decide)).trans (by rw [en])) ?_
      refine kx_go 2 (pc' := 37) (L' := [(0, .inr (.inr (.inl (some 259)))), (1, .inl (Int32.ofNat dd))]) (S' := [.inl (Int32.ofNat dd), .inl ((Int32.ofNat 150) + (Int32.ofNat n)), .inr (.inr (.inl (some 260)))]) (h' := h) (by with_unfolding_all rfl) ?_
      rw [kx_add]
      refine kx_iast (c := 260) (j := (150 + n)) (m := 650) rfl rfl (by decide) (by decide) (by omega) ?_
      refine kx_go 1 (pc' := 39) (L' := [(0, .inr (.inr (.inl (some 259)))), (1, .inl (Int32.ofNat dd))]) (S' := [.inr (.inr (.inl (some 259)))]) (h' := (kc_upd h 260 (150 + n) (.inl (Int32.ofNat dd)))) (by with_unfolding_all rfl) ?_
      refine kx_getf (c := 259) (v := .inr (.inr (.inl (some 260)))) rfl (by decide) ((fu_ne (by omega)).trans (kx_ofr (hw _ _ _ kz_k.1))) ?_
      refine kx_go 2 (pc' := 44) (L' := [(0, .inr (.inr (.inl (some 259)))), (1, .inl (Int32.ofNat dd))]) (S' := [.inl (Int32.ofNat 3), .inr (.inr (.inl (some 260))), .inl (Int32.ofNat 3), .inr (.inr (.inl (some 260)))]) (h' := (kc_upd h 260 (150 + n) (.inl (Int32.ofNat dd)))) (by with_unfolding_all rfl) ?_
      refine kx_iald (c := 260) (j := 3) (m := 650) (v := .inl (Int32.ofNat n)) rfl rfl (by decide) (by decide) (by omega) ((fu_ne (by omega)).trans ((hC 3 (by decide) (by decide)).trans (by rw [en]))) ?_
      refine kx_go 2 (pc' := 47) (L' := [(0, .inr (.inr (.inl (some 259)))), (1, .inl (Int32.ofNat dd))]) (S' := [.inl ((Int32.ofNat n) + (Int32.ofNat 1)), .inl (Int32.ofNat 3), .inr (.inr (.inl (some 260)))]) (h' := (kc_upd h 260 (150 + n) (.inl (Int32.ofNat dd)))) (by with_unfolding_all rfl) ?_
      rw [kx_inc1]
      refine kx_iast (c := 260) (j := 3) (m := 650) rfl rfl (by decide) (by decide) (by omega) ?_
      refine kx_go 1 (pc' := 49) (L' := [(0, .inr (.inr (.inl (some 259)))), (1, .inl (Int32.ofNat dd))]) (S' := [.inr (.inr (.inl (some 259)))]) (h' := (kc_upd (kc_upd h 260 (150 + n) (.inl (Int32.ofNat dd))) 260 3 (.inl (Int32.ofNat (n + 1))))) (by with_unfolding_all rfl) ?_
      refine kx_getf (c := 259) (v := .inr (.inr (.inl (some 260)))) rfl (by decide) ((fu_ne (by omega)).trans ((fu_ne (by omega)).trans (kx_ofr (hw _ _ _ kz_k.1)))) ?_
      refine kx_go 1 (pc' := 53) (L' := [(0, .inr (.inr (.inl (some 259)))), (1, .inl (Int32.ofNat dd))]) (S' := [.inl (Int32.ofNat 3), .inr (.inr (.inl (some 260)))]) (h' := (kc_upd (kc_upd h 260 (150 + n) (.inl (Int32.ofNat dd))) 260 3 (.inl (Int32.ofNat (n + 1))))) (by with_unfolding_all rfl) ?_
      refine kx_iald (c := 260) (j := 3) (m := 650) (v := .inl (Int32.ofNat (n + 1))) rfl rfl (by decide) (by decide) (by omega) (fu_eq) ?_
      have ef : fu_il B (Int32.ofNat dd) n = false := fu_il_n (fun k hk q => hno k hk ((hld k (by omega)).mp q))
      have key : fu_line B (Int32.ofNat dd) = (Int32.ofNat (n + 1), [(150 + n, Int32.ofNat dd), (3, Int32.ofNat (n + 1))]) := by unfold fu_line; rw [if_pos e1, en, kx_ti (by omega), Int.toNat_natCast, if_neg (by rw [ef]; decide), if_pos (show (n : Int) < 5 by omega), kx_inc1]
      exact kc_ret_ok rfl (rv := some (.inl (Int32.ofNat (n + 1)))) rfl ⟨fu_e1 key, fu_er (h := h) key⟩
def fu_cnt (B : Nat → Int32) (a : Int32) : Int32 := if fu_in a 0 5 = true then (if a.toInt < 4 then B a.toInt.toNat else B (156 + a.toInt.toNat)) else Int32.ofInt (-2)
set_option maxRecDepth 20000 in
theorem fu_c162_0 {g : kc_G} {d : Nat} {h : kc_H} {B : Nat → Int32} (hg : kc_ok g) (hw : kd_wt kd_ty h) (hC : fu_C B 1 h) : kc_Con g (d + 1) 162 [.inr (.inr (.inl (some 1))), .inl (Int32.ofNat 0)] h (fun rv h' => rv = some (.inl (B 0)) ∧ h' = h) := by
  refine kc_Con_new hg (M := wk_m162) rfl rfl rfl (show 2 ≤ 2 by decide) ?_
  refine kx_go 2 (pc' := 40) (L' := [(0, .inr (.inr (.inl (some 1)))), (1, .inl (Int32.ofNat 0))]) (S' := []) (h' := h) (by with_unfolding_all rfl) ?_
  refine kx_go 1 (pc' := 41) (L' := [(0, .inr (.inr (.inl (some 1)))), (1, .inl (Int32.ofNat 0))]) (S' := [.inr (.inr (.inl (some 1)))]) (h' := h) (by with_unfolding_all rfl) ?_
  refine kx_getf (c := 1) (v := .inl (B 0)) rfl (by decide) (fu_C0 hC).1 ?_
  exact kc_ret_ok rfl (rv := some (.inl (B 0))) rfl ⟨rfl, rfl⟩
set_option maxRecDepth 20000 in
theorem fu_c162_1 {g : kc_G} {d : Nat} {h : kc_H} {B : Nat → Int32} (hg : kc_ok g) (hw : kd_wt kd_ty h) (hC : fu_C B 1 h) : kc_Con g (d + 1) 162 [.inr (.inr (.inl (some 1))), .inl (Int32.ofNat 1)] h (fun rv h' => rv = some (.inl (B 1)) ∧ h' = h) := by
  refine kc_Con_new hg (M := wk_m162) rfl rfl rfl (show 2 ≤ 2 by decide) ?_
  refine kx_go 2 (pc' := 45) (L' := [(0, .inr (.inr (.inl (some 1)))), (1, .inl (Int32.ofNat 1))]) (S' := []) (h' := h) (by with_unfolding_all rfl) ?_
  refine kx_go 1 (pc' := 46) (L' := [(0, .inr (.inr (.inl (some 1)))), (1, .inl (Int32.ofNat 1))]) (S' := [.inr (.inr (.inl (some 1)))]) (h' := h) (by with_unfolding_all rfl) ?_
  refine kx_getf (c := 1) (v := .inl (B 1)) rfl (by decide) (fu_C0 hC).2.1 ?_
  exact kc_ret_ok rfl (rv := some (.inl (B 1))) rfl ⟨rfl, rfl⟩
set_option maxRecDepth 20000 in
theorem fu_c162_2 {g : kc_G} {d : Nat} {h : kc_H} {B : Nat → Int32} (hg : kc_ok g) (hw : kd_wt kd_ty h) (hC : fu_C B 1 h) : kc_Con g (d + 1) 162 [.inr (.inr (.inl (some 1))), .inl (Int32.ofNat 2)] h (fun rv h' => rv = some (.inl (B 2)) ∧ h' = h) := by
  refine kc_Con_new hg (M := wk_m162) rfl rfl rfl (show 2 ≤ 2 by decide) ?_
  refine kx_go 2 (pc' := 50) (L' := [(0, .inr (.inr (.inl (some 1)))), (1, .inl (Int32.ofNat 2))]) (S' := []) (h' := h) (by with_unfolding_all rfl) ?_
  refine kx_go 1 (pc' := 51) (L' := [(0, .inr (.inr (.inl (some 1)))), (1, .inl (Int32.ofNat 2))]) (S' := [.inr (.inr (.inl (some 1)))]) (h' := h) (by with_unfolding_all rfl) ?_
  refine kx_getf (c := 1) (v := .inl (B 2)) rfl (by decide) (fu_C0 hC).2.2.1 ?_
  exact kc_ret_ok rfl (rv := some (.inl (B 2))) rfl ⟨rfl, rfl⟩
set_option maxRecDepth 20000 in
theorem fu_c162_3 {g : kc_G} {d : Nat} {h : kc_H} {B : Nat → Int32} (hg : kc_ok g) (hw : kd_wt kd_ty h) (hC : fu_C B 1 h) : kc_Con g (d + 1) 162 [.inr (.inr (.inl (some 1))), .inl (Int32.ofNat 3)] h (fun rv h' => rv = some (.inl (B 3)) ∧ h' = h) := by
  refine kc_Con_new hg (M := wk_m162) rfl rfl rfl (show 2 ≤ 2 by decide) ?_
  refine kx_go 2 (pc' := 55) (L' := [(0, .inr (.inr (.inl (some 1)))), (1, .inl (Int32.ofNat 3))]) (S' := []) (h' := h) (by with_unfolding_all rfl) ?_
  refine kx_go 1 (pc' := 56) (L' := [(0, .inr (.inr (.inl (some 1)))), (1, .inl (Int32.ofNat 3))]) (S' := [.inr (.inr (.inl (some 1)))]) (h' := h) (by with_unfolding_all rfl) ?_
  refine kx_getf (c := 1) (v := .inl (B 3)) rfl (by decide) (fu_C0 hC).2.2.2 ?_
  exact kc_ret_ok rfl (rv := some (.inl (B 3))) rfl ⟨rfl, rfl⟩
set_option maxRecDepth 20000 in
theorem fu_c162_4 {g : kc_G} {d : Nat} {h : kc_H} {B : Nat → Int32} (hg : kc_ok g) (hw : kd_wt kd_ty h) (hC : fu_C B 1 h) : kc_Con g (d + 1) 162 [.inr (.inr (.inl (some 1))), .inl (Int32.ofNat 4)] h (fun rv h' => rv = some (.inl (B 160)) ∧ h' = h) := by
  refine kc_Con_new hg (M := wk_m162) rfl rfl rfl (show 2 ≤ 2 by decide) ?_
  refine kx_go 2 (pc' := 60) (L' := [(0, .inr (.inr (.inl (some 1)))), (1, .inl (Int32.ofNat 4))]) (S' := []) (h' := h) (by with_unfolding_all rfl) ?_
  refine kx_go 1 (pc' := 61) (L' := [(0, .inr (.inr (.inl (some 1)))), (1, .inl (Int32.ofNat 4))]) (S' := [.inr (.inr (.inl (some 1)))]) (h' := h) (by with_unfolding_all rfl) ?_
  refine kx_getf (c := 1) (v := .inr (.inr (.inl (some 31)))) rfl (by decide) (kx_ofr (hw _ _ _ kr_k1.2.1)) ?_
  refine kx_go 1 (pc' := 65) (L' := [(0, .inr (.inr (.inl (some 1)))), (1, .inl (Int32.ofNat 4))]) (S' := [.inl (Int32.ofNat 0), .inr (.inr (.inl (some 31)))]) (h' := h) (by with_unfolding_all rfl) ?_
  refine kx_iald (c := 31) (j := 0) (m := 2) (v := .inl (B (160 + 0))) rfl rfl (by decide) (by decide) (by decide) (fu_Cj (c := 30) hC (by omega) (fu_fby 0 (by decide)).2.1 (fu_fby 0 (by decide)).1) ?_
  exact kc_ret_ok rfl (rv := some (.inl (B 160))) rfl ⟨rfl, rfl⟩
set_option maxRecDepth 20000 in
theorem fu_c162_5 {g : kc_G} {d : Nat} {h : kc_H} {B : Nat → Int32} (hg : kc_ok g) (hw : kd_wt kd_ty h) (hC : fu_C B 1 h) : kc_Con g (d + 1) 162 [.inr (.inr (.inl (some 1))), .inl (Int32.ofNat 5)] h (fun rv h' => rv = some (.inl (B 161)) ∧ h' = h) := by
  refine kc_Con_new hg (M := wk_m162) rfl rfl rfl (show 2 ≤ 2 by decide) ?_
  refine kx_go 2 (pc' := 67) (L' := [(0, .inr (.inr (.inl (some 1)))), (1, .inl (Int32.ofNat 5))]) (S' := []) (h' := h) (by with_unfolding_all rfl) ?_
  refine kx_go 1 (pc' := 68) (L' := [(0, .inr (.inr (.inl (some 1)))), (1, .inl (Int32.ofNat 5))]) (S' := [.inr (.inr (.inl (some 1)))]) (h' := h) (by with_unfolding_all rfl) ?_
  refine kx_getf (c := 1) (v := .inr (.inr (.inl (some 31)))) rfl (by decide) (kx_ofr (hw _ _ _ kr_k1.2.1)) ?_
  refine kx_go 1 (pc' := 72) (L' := [(0, .inr (.inr (.inl (some 1)))), (1, .inl (Int32.ofNat 5))]) (S' := [.inl (Int32.ofNat 1), .inr (.inr (.inl (some 31)))]) (h' := h) (by with_unfolding_all rfl) ?_
  refine kx_iald (c := 31) (j := 1) (m := 2) (v := .inl (B (160 + 1))) rfl rfl (by decide) (by decide) (by decide) (fu_Cj (c := 30) hC (by omega) (fu_fby 1 (by decide)).2.1 (fu_fby 1 (by decide)).1) ?_
  exact kc_ret_ok rfl (rv := some (.inl (B 161))) rfl ⟨rfl, rfl⟩
def fu_T161l : kd_Tc := ([(3, 0, 0), (0, 0, 2147483647)], [], [(some (0, 2147483648 - 2, 2147483648 - 2), [], [])])
theorem fu_r161l : kd_runv kd_ty kd_x161 2 (kd_call kd_ty kd_xt (kd_ctl []) 600 2) [] 0 fu_T161l 600 = true := by decide +kernel
theorem fu_h161l {g : kc_G} (hg : kc_ok g) : kd_holdv g 3 kd_ty 161 [] 0 fu_T161l := kd_newv hg kd_xk161 rfl rfl rfl rfl (fun h0 => kd_call_r (d0 := 0) hg kd_xt_ok (kd_ctl_r [] (fun q hq => by cases hq)) 2) fu_r161l
def fu_T163l : kd_Tc := ([(3, 259, 259), (0, 0, 2147483647)], [], [(some (0, 2147483648 - 2, 2147483648 - 2), [], [])])
theorem fu_r163l : kd_runv kd_ty kd_x163 2 (kd_call kd_ty kd_xt (kd_ctl []) 600 2) [] 0 fu_T163l 600 = true := by decide +kernel
theorem fu_h163l {g : kc_G} (hg : kc_ok g) : kd_holdv g 3 kd_ty 163 [] 0 fu_T163l := kd_newv hg kd_xk163 rfl rfl rfl rfl (fun h0 => kd_call_r (d0 := 0) hg kd_xt_ok (kd_ctl_r [] (fun q hq => by cases hq)) 2) fu_r163l
def fu_T161h : kd_Tc := ([(3, 0, 0), (0, 2147483654, 4294967295)], [], [(some (0, 2147483648 - 2, 2147483648 - 2), [], [])])
theorem fu_r161h : kd_runv kd_ty kd_x161 2 (kd_call kd_ty kd_xt (kd_ctl []) 600 2) [] 0 fu_T161h 600 = true := by decide +kernel
theorem fu_h161h {g : kc_G} (hg : kc_ok g) : kd_holdv g 3 kd_ty 161 [] 0 fu_T161h := kd_newv hg kd_xk161 rfl rfl rfl rfl (fun h0 => kd_call_r (d0 := 0) hg kd_xt_ok (kd_ctl_r [] (fun q hq => by cases hq)) 2) fu_r161h
def fu_T163h : kd_Tc := ([(3, 259, 259), (0, 2147483654, 4294967295)], [], [(some (0, 2147483648 - 2, 2147483648 - 2), [], [])])
theorem fu_r163h : kd_runv kd_ty kd_x163 2 (kd_call kd_ty kd_xt (kd_ctl []) 600 2) [] 0 fu_T163h 600 = true := by decide +kernel
theorem fu_h163h {g : kc_G} (hg : kc_ok g) : kd_holdv g 3 kd_ty 163 [] 0 fu_T163h := kd_newv hg kd_xk163 rfl rfl rfl rfl (fun h0 => kd_call_r (d0 := 0) hg kd_xt_ok (kd_ctl_r [] (fun q hq => by cases hq)) 2) fu_r163h
set_option maxRecDepth 20000 in
theorem fu_ccnt {g : kc_G} {d : Nat} {h : kc_H} {B : Nat → Int32} {a : Int32} (hg : kc_ok g) (hw : kd_wt kd_ty h) (hC : fu_C B 1 h) : kc_Con g (d + 4) 161 [.inr (.inr (.inl (some 0))), .inl a] h (fun rv h' => rv = some (.inl (fu_cnt B a)) ∧ h' = h) := by
  have lo := kv_lo a
  have hi := kv_hi a
  rcases (show (0 ≤ a.toInt ∧ a.toInt ≤ 5) ∨ a.toInt < 0 ∨ 5 < a.toInt by omega) with k | k | k
  · obtain ⟨x, x5, -, rfl⟩ := ku_nat (u := 5) k.1 (by omega)
    refine kc_Con_new hg (M := wk_m161) rfl rfl rfl (show 2 ≤ 2 by decide) ?_
    refine kx_go 1 (pc' := 1) (L' := [(0, .inr (.inr (.inl (some 0)))), (1, .inl (Int32.ofNat x))]) (S' := [.inr (.inr (.inl (some 0)))]) (h' := h) (by with_unfolding_all rfl) ?_
    refine kx_getf (c := 0) (v := .inr (.inr (.inl (some 1)))) rfl (by decide) (kx_ofr (hw _ _ _ kv_k0.1)) ?_
    refine kx_go 1 (pc' := 5) (L' := [(0, .inr (.inr (.inl (some 0)))), (1, .inl (Int32.ofNat x))]) (S' := [.inl (Int32.ofNat x), .inr (.inr (.inl (some 1)))]) (h' := h) (by with_unfolding_all rfl) ?_
    rcases (show x = 0 ∨ x = 1 ∨ x = 2 ∨ x = 3 ∨ x = 4 ∨ x = 5 by omega) with rfl | rfl | rfl | rfl | rfl | rfl
    · refine kc_call_rule (M2 := wk_m162) (av := [.inr (.inr (.inl (some 1))), .inl (Int32.ofNat 0)]) (r := []) rfl rfl (kc_Con_le (fu_c162_0 (d := 0) hg hw hC) (by omega)) (fun rv h2 hq => ?_)
      obtain ⟨rfl, e⟩ := hq
      exact kc_ret_ok rfl (rv := some (.inl (B 0))) rfl ⟨by rw [show fu_cnt B (Int32.ofNat 0) = B 0 from by unfold fu_cnt; rw [if_pos (by decide)]; rfl], e⟩
    · refine kc_call_rule (M2 := wk_m162) (av := [.inr (.inr (.inl (some 1))), .inl (Int32.ofNat 1)]) (r := []) rfl rfl (kc_Con_le (fu_c162_1 (d := 0) hg hw hC) (by omega)) (fun rv h2 hq => ?_)
      obtain ⟨rfl, e⟩ := hq
      exact kc_ret_ok rfl (rv := some (.inl (B 1))) rfl ⟨by rw [show fu_cnt B (Int32.ofNat 1) = B 1 from by unfold fu_cnt; rw [if_pos (by decide)]; rfl], e⟩
    · refine kc_call_rule (M2 := wk_m162) (av := [.inr (.inr (.inl (some 1))), .inl (Int32.ofNat 2)]) (r := []) rfl rfl (kc_Con_le (fu_c162_2 (d := 0) hg hw hC) (by omega)) (fun rv h2 hq => ?_)
      obtain ⟨rfl, e⟩ := hq
      exact kc_ret_ok rfl (rv := some (.inl (B 2))) rfl ⟨by rw [show fu_cnt B (Int32.ofNat 2) = B 2 from by unfold fu_cnt; rw [if_pos (by decide)]; rfl], e⟩
    · refine kc_call_rule (M2 := wk_m162) (av := [.inr (.inr (.inl (some 1))), .inl (Int32.ofNat 3)]) (r := []) rfl rfl (kc_Con_le (fu_c162_3 (d := 0) hg hw hC) (by omega)) (fun rv h2 hq => ?_)
      obtain ⟨rfl, e⟩ := hq
      exact kc_ret_ok rfl (rv := some (.inl (B 3))) rfl ⟨by rw [show fu_cnt B (Int32.ofNat 3) = B 3 from by unfold fu_cnt; rw [if_pos (by decide)]; rfl], e⟩
    · refine kc_call_rule (M2 := wk_m162) (av := [.inr (.inr (.inl (some 1))), .inl (Int32.ofNat 4)]) (r := []) rfl rfl (kc_Con_le (fu_c162_4 (d := 0) hg hw hC) (by omega)) (fun rv h2 hq => ?_)
      obtain ⟨rfl, e⟩ := hq
      exact kc_ret_ok rfl (rv := some (.inl (B 160))) rfl ⟨by rw [show fu_cnt B (Int32.ofNat 4) = B 160 from by unfold fu_cnt; rw [if_pos (by decide)]; rfl], e⟩
    · refine kc_call_rule (M2 := wk_m162) (av := [.inr (.inr (.inl (some 1))), .inl (Int32.ofNat 5)]) (r := []) rfl rfl (kc_Con_le (fu_c162_5 (d := 0) hg hw hC) (by omega)) (fun rv h2 hq => ?_)
      obtain ⟨rfl, e⟩ := hq
      exact kc_ret_ok rfl (rv := some (.inl (B 161))) rfl ⟨by rw [show fu_cnt B (Int32.ofNat 5) = B 161 from by unfold fu_cnt; rw [if_pos (by decide)]; rfl], e⟩
  · refine kc_Con_mono (kc_Con_le (fu_nox (k := 2) (by decide) (fu_h161l hg (fun _ => 0) _ h kv_bx0 hw ⟨⟨0, rfl, by decide, by decide⟩, kv_gi (by omega) (by omega), trivial⟩ (fun q hq => by cases hq))) (by omega)) (fun rv h' hq => ?_)
    obtain ⟨r, rfl, r2, rfl⟩ := hq
    refine ⟨?_, rfl⟩
    rw [show fu_cnt B a = Int32.ofInt (-2) from if_neg (by rw [fu_in0 (by omega)]; decide), show r = Int32.ofInt (-2) from Int32.toInt_inj.mp (by rw [r2]; decide)]
  · refine kc_Con_mono (kc_Con_le (fu_nox (k := 2) (by decide) (fu_h161h hg (fun _ => 0) _ h kv_bx0 hw ⟨⟨0, rfl, by decide, by decide⟩, kv_gi (by omega) (by omega), trivial⟩ (fun q hq => by cases hq))) (by omega)) (fun rv h' hq => ?_)
    obtain ⟨r, rfl, r2, rfl⟩ := hq
    refine ⟨?_, rfl⟩
    rw [show fu_cnt B a = Int32.ofInt (-2) from if_neg (by rw [fu_in0 (by omega)]; decide), show r = Int32.ofInt (-2) from Int32.toInt_inj.mp (by rw [r2]; decide)]
set_option maxRecDepth 20000 in
theorem fu_r164_0 {g : kc_G} {d : Nat} {h : kc_H} {B : Nat → Int32} (hg : kc_ok g) (hw : kd_wt kd_ty h) (hC : fu_B B h) : kc_Con g (d + 1) 164 [.inr (.inr (.inl (some 259))), .inl (Int32.ofNat 0)] h (fun rv h' => rv = some (.inl (B 0)) ∧ h' = h) := by
  refine kc_Con_new hg (M := wk_m164) rfl rfl rfl (show 2 ≤ 2 by decide) ?_
  refine kx_go 3 (pc' := (if kc_cnd .ge (Int32.ofNat 0).toInt (Int32.ofNat 4).toInt then 14 else 5)) (L' := [(0, .inr (.inr (.inl (some 259)))), (1, .inl (Int32.ofNat 0))]) (S' := []) (h' := h) (by with_unfolding_all rfl) ?_
  rw [if_neg (by decide)]
  refine kx_go 1 (pc' := 6) (L' := [(0, .inr (.inr (.inl (some 259)))), (1, .inl (Int32.ofNat 0))]) (S' := [.inr (.inr (.inl (some 259)))]) (h' := h) (by with_unfolding_all rfl) ?_
  refine kx_getf (c := 259) (v := .inr (.inr (.inl (some 260)))) rfl (by decide) (kx_ofr (hw _ _ _ kz_k.1)) ?_
  refine kx_go 1 (pc' := 10) (L' := [(0, .inr (.inr (.inl (some 259)))), (1, .inl (Int32.ofNat 0))]) (S' := [.inl (Int32.ofNat 0), .inr (.inr (.inl (some 260)))]) (h' := h) (by with_unfolding_all rfl) ?_
  refine kx_iald (c := 260) (j := 0) (m := 650) (v := .inl (B 0)) rfl rfl (by decide) (by decide) (by decide) (hC 0 (by decide) (by decide)) ?_
  refine kx_go 1 (pc' := 26) (L' := [(0, .inr (.inr (.inl (some 259)))), (1, .inl (Int32.ofNat 0))]) (S' := [.inl (B 0)]) (h' := h) (by with_unfolding_all rfl) ?_
  exact kc_ret_ok rfl (rv := some (.inl (B 0))) rfl ⟨rfl, rfl⟩
set_option maxRecDepth 20000 in
theorem fu_r164_1 {g : kc_G} {d : Nat} {h : kc_H} {B : Nat → Int32} (hg : kc_ok g) (hw : kd_wt kd_ty h) (hC : fu_B B h) : kc_Con g (d + 1) 164 [.inr (.inr (.inl (some 259))), .inl (Int32.ofNat 1)] h (fun rv h' => rv = some (.inl (B 1)) ∧ h' = h) := by
  refine kc_Con_new hg (M := wk_m164) rfl rfl rfl (show 2 ≤ 2 by decide) ?_
  refine kx_go 3 (pc' := (if kc_cnd .ge (Int32.ofNat 1).toInt (Int32.ofNat 4).toInt then 14 else 5)) (L' := [(0, .inr (.inr (.inl (some 259)))), (1, .inl (Int32.ofNat 1))]) (S' := []) (h' := h) (by with_unfolding_all rfl) ?_
  rw [if_neg (by decide)]
  refine kx_go 1 (pc' := 6) (L' := [(0, .inr (.inr (.inl (some 259)))), (1, .inl (Int32.ofNat 1))]) (S' := [.inr (.inr (.inl (some 259)))]) (h' := h) (by with_unfolding_all rfl) ?_
  refine kx_getf (c := 259) (v := .inr (.inr (.inl (some 260)))) rfl (by decide) (kx_ofr (hw _ _ _ kz_k.1)) ?_
  refine kx_go 1 (pc' := 10) (L' := [(0, .inr (.inr (.inl (some 259)))), (1, .inl (Int32.ofNat 1))]) (S' := [.inl (Int32.ofNat 1), .inr (.inr (.inl (some 260)))]) (h' := h) (by with_unfolding_all rfl) ?_
  refine kx_iald (c := 260) (j := 1) (m := 650) (v := .inl (B 1)) rfl rfl (by decide) (by decide) (by decide) (hC 1 (by decide) (by decide)) ?_
  refine kx_go 1 (pc' := 26) (L' := [(0, .inr (.inr (.inl (some 259)))), (1, .inl (Int32.ofNat 1))]) (S' := [.inl (B 1)]) (h' := h) (by with_unfolding_all rfl) ?_
  exact kc_ret_ok rfl (rv := some (.inl (B 1))) rfl ⟨rfl, rfl⟩
set_option maxRecDepth 20000 in
theorem fu_r164_2 {g : kc_G} {d : Nat} {h : kc_H} {B : Nat → Int32} (hg : kc_ok g) (hw : kd_wt kd_ty h) (hC : fu_B B h) : kc_Con g (d + 1) 164 [.inr (.inr (.inl (some 259))), .inl (Int32.ofNat 2)] h (fun rv h' => rv = some (.inl (B 2)) ∧ h' = h) := by
  refine kc_Con_new hg (M := wk_m164) rfl rfl rfl (show 2 ≤ 2 by decide) ?_
  refine kx_go 3 (pc' := (if kc_cnd .ge (Int32.ofNat 2).toInt (Int32.ofNat 4).toInt then 14 else 5)) (L' := [(0, .inr (.inr (.inl (some 259)))), (1, .inl (Int32.ofNat 2))]) (S' := []) (h' := h) (by with_unfolding_all rfl) ?_
  rw [if_neg (by decide)]
  refine kx_go 1 (pc' := 6) (L' := [(0, .inr (.inr (.inl (some 259)))), (1, .inl (Int32.ofNat 2))]) (S' := [.inr (.inr (.inl (some 259)))]) (h' := h) (by with_unfolding_all rfl) ?_
  refine kx_getf (c := 259) (v := .inr (.inr (.inl (some 260)))) rfl (by decide) (kx_ofr (hw _ _ _ kz_k.1)) ?_
  refine kx_go 1 (pc' := 10) (L' := [(0, .inr (.inr (.inl (some 259)))), (1, .inl (Int32.ofNat 2))]) (S' := [.inl (Int32.ofNat 2), .inr (.inr (.inl (some 260)))]) (h' := h) (by with_unfolding_all rfl) ?_
  refine kx_iald (c := 260) (j := 2) (m := 650) (v := .inl (B 2)) rfl rfl (by decide) (by decide) (by decide) (hC 2 (by decide) (by decide)) ?_
  refine kx_go 1 (pc' := 26) (L' := [(0, .inr (.inr (.inl (some 259)))), (1, .inl (Int32.ofNat 2))]) (S' := [.inl (B 2)]) (h' := h) (by with_unfolding_all rfl) ?_
  exact kc_ret_ok rfl (rv := some (.inl (B 2))) rfl ⟨rfl, rfl⟩
set_option maxRecDepth 20000 in
theorem fu_r164_3 {g : kc_G} {d : Nat} {h : kc_H} {B : Nat → Int32} (hg : kc_ok g) (hw : kd_wt kd_ty h) (hC : fu_B B h) : kc_Con g (d + 1) 164 [.inr (.inr (.inl (some 259))), .inl (Int32.ofNat 3)] h (fun rv h' => rv = some (.inl (B 3)) ∧ h' = h) := by
  refine kc_Con_new hg (M := wk_m164) rfl rfl rfl (show 2 ≤ 2 by decide) ?_
  refine kx_go 3 (pc' := (if kc_cnd .ge (Int32.ofNat 3).toInt (Int32.ofNat 4).toInt then 14 else 5)) (L' := [(0, .inr (.inr (.inl (some 259)))), (1, .inl (Int32.ofNat 3))]) (S' := []) (h' := h) (by with_unfolding_all rfl) ?_
  rw [if_neg (by decide)]
  refine kx_go 1 (pc' := 6) (L' := [(0, .inr (.inr (.inl (some 259)))), (1, .inl (Int32.ofNat 3))]) (S' := [.inr (.inr (.inl (some 259)))]) (h' := h) (by with_unfolding_all rfl) ?_
  refine kx_getf (c := 259) (v := .inr (.inr (.inl (some 260)))) rfl (by decide) (kx_ofr (hw _ _ _ kz_k.1)) ?_
  refine kx_go 1 (pc' := 10) (L' := [(0, .inr (.inr (.inl (some 259)))), (1, .inl (Int32.ofNat 3))]) (S' := [.inl (Int32.ofNat 3), .inr (.inr (.inl (some 260)))]) (h' := h) (by with_unfolding_all rfl) ?_
  refine kx_iald (c := 260) (j := 3) (m := 650) (v := .inl (B 3)) rfl rfl (by decide) (by decide) (by decide) (hC 3 (by decide) (by decide)) ?_
  refine kx_go 1 (pc' := 26) (L' := [(0, .inr (.inr (.inl (some 259)))), (1, .inl (Int32.ofNat 3))]) (S' := [.inl (B 3)]) (h' := h) (by with_unfolding_all rfl) ?_
  exact kc_ret_ok rfl (rv := some (.inl (B 3))) rfl ⟨rfl, rfl⟩
set_option maxRecDepth 20000 in
theorem fu_r164_4 {g : kc_G} {d : Nat} {h : kc_H} {B : Nat → Int32} (hg : kc_ok g) (hw : kd_wt kd_ty h) (hC : fu_B B h) : kc_Con g (d + 1) 164 [.inr (.inr (.inl (some 259))), .inl (Int32.ofNat 4)] h (fun rv h' => rv = some (.inl (B 160)) ∧ h' = h) := by
  refine kc_Con_new hg (M := wk_m164) rfl rfl rfl (show 2 ≤ 2 by decide) ?_
  refine kx_go 3 (pc' := (if kc_cnd .ge (Int32.ofNat 4).toInt (Int32.ofNat 4).toInt then 14 else 5)) (L' := [(0, .inr (.inr (.inl (some 259)))), (1, .inl (Int32.ofNat 4))]) (S' := []) (h' := h) (by with_unfolding_all rfl) ?_
  rw [if_pos (by decide)]
  refine kx_go 1 (pc' := 15) (L' := [(0, .inr (.inr (.inl (some 259)))), (1, .inl (Int32.ofNat 4))]) (S' := [.inr (.inr (.inl (some 259)))]) (h' := h) (by with_unfolding_all rfl) ?_
  refine kx_getf (c := 259) (v := .inr (.inr (.inl (some 260)))) rfl (by decide) (kx_ofr (hw _ _ _ kz_k.1)) ?_
  refine kx_go 5 (pc' := 25) (L' := [(0, .inr (.inr (.inl (some 259)))), (1, .inl (Int32.ofNat 4))]) (S' := [.inl (((Int32.ofNat 160) + (Int32.ofNat 4)) - (Int32.ofNat 4)), .inr (.inr (.inl (some 260)))]) (h' := h) (by with_unfolding_all rfl) ?_
  rw [show ((Int32.ofNat 160) + (Int32.ofNat 4)) - (Int32.ofNat 4) = Int32.ofNat 160 from by decide]
  refine kx_iald (c := 260) (j := 160) (m := 650) (v := .inl (B 160)) rfl rfl (by decide) (by decide) (by decide) (hC 160 (by decide) (by decide)) ?_
  exact kc_ret_ok rfl (rv := some (.inl (B 160))) rfl ⟨rfl, rfl⟩
set_option maxRecDepth 20000 in
theorem fu_r164_5 {g : kc_G} {d : Nat} {h : kc_H} {B : Nat → Int32} (hg : kc_ok g) (hw : kd_wt kd_ty h) (hC : fu_B B h) : kc_Con g (d + 1) 164 [.inr (.inr (.inl (some 259))), .inl (Int32.ofNat 5)] h (fun rv h' => rv = some (.inl (B 161)) ∧ h' = h) := by
  refine kc_Con_new hg (M := wk_m164) rfl rfl rfl (show 2 ≤ 2 by decide) ?_
  refine kx_go 3 (pc' := (if kc_cnd .ge (Int32.ofNat 5).toInt (Int32.ofNat 4).toInt then 14 else 5)) (L' := [(0, .inr (.inr (.inl (some 259)))), (1, .inl (Int32.ofNat 5))]) (S' := []) (h' := h) (by with_unfolding_all rfl) ?_
  rw [if_pos (by decide)]
  refine kx_go 1 (pc' := 15) (L' := [(0, .inr (.inr (.inl (some 259)))), (1, .inl (Int32.ofNat 5))]) (S' := [.inr (.inr (.inl (some 259)))]) (h' := h) (by with_unfolding_all rfl) ?_
  refine kx_getf (c := 259) (v := .inr (.inr (.inl (some 260)))) rfl (by decide) (kx_ofr (hw _ _ _ kz_k.1)) ?_
  refine kx_go 5 (pc' := 25) (L' := [(0, .inr (.inr (.inl (some 259)))), (1, .inl (Int32.ofNat 5))]) (S' := [.inl (((Int32.ofNat 160) + (Int32.ofNat 5)) - (Int32.ofNat 4)), .inr (.inr (.inl (some 260)))]) (h' := h) (by with_unfolding_all rfl) ?_
  rw [show ((Int32.ofNat 160) + (Int32.ofNat 5)) - (Int32.ofNat 4) = Int32.ofNat 161 from by decide]
  refine kx_iald (c := 260) (j := 161) (m := 650) (v := .inl (B 161)) rfl rfl (by decide) (by decide) (by decide) (hC 161 (by decide) (by decide)) ?_
  exact kc_ret_ok rfl (rv := some (.inl (B 161))) rfl ⟨rfl, rfl⟩
set_option maxRecDepth 20000 in
theorem fu_rcnt {g : kc_G} {d : Nat} {h : kc_H} {B : Nat → Int32} {a : Int32} (hg : kc_ok g) (hw : kd_wt kd_ty h) (hC : fu_B B h) : kc_Con g (d + 4) 163 [.inr (.inr (.inl (some 259))), .inl a] h (fun rv h' => rv = some (.inl (fu_cnt B a)) ∧ h' = h) := by
  have lo := kv_lo a
  have hi := kv_hi a
  rcases (show (0 ≤ a.toInt ∧ a.toInt ≤ 5) ∨ a.toInt < 0 ∨ 5 < a.toInt by omega) with k | k | k
  · obtain ⟨x, x5, -, rfl⟩ := ku_nat (u := 5) k.1 (by omega)
    rcases (show x = 0 ∨ x = 1 ∨ x = 2 ∨ x = 3 ∨ x = 4 ∨ x = 5 by omega) with rfl | rfl | rfl | rfl | rfl | rfl
    · refine kc_Con_new hg (M := wk_m163) rfl rfl rfl (show 2 ≤ 2 by decide) ?_
      refine kx_go 4 (pc' := 6) (L' := [(0, .inr (.inr (.inl (some 259)))), (1, .inl (Int32.ofNat 0))]) (S' := [.inr (.inl (Int64.ofNat 5)), .inr (.inl (Int64.ofNat 0)), .inr (.inl ((Int32.ofNat 0).toInt64))]) (h' := h) (by with_unfolding_all rfl) ?_
      refine kc_call_rule (M2 := wk_m22) (av := [.inr (.inl ((Int32.ofNat 0).toInt64)), .inr (.inl (Int64.ofNat 0)), .inr (.inl (Int64.ofNat 5))]) (r := []) rfl rfl (kc_Con_le (fu_li (d := 0) (lo := 0) (hi := 5) hg (by decide) (by decide)) (by omega)) (fun rv h2 hq => ?_)
      obtain ⟨rfl, e⟩ := hq
      rw [e]
      clear e
      show kc_Ev g (d + 3) wk_m163 _ 9 [(0, .inr (.inr (.inl (some 259)))), (1, .inl (Int32.ofNat 0))] [.inl (kp_b (fu_in (Int32.ofNat 0) 0 5))] h
      refine kx_go 1 (pc' := (if kc_cnd .eq (kp_b (fu_in (Int32.ofNat 0) 0 5)).toInt 0 then 20 else 12)) (L' := [(0, .inr (.inr (.inl (some 259)))), (1, .inl (Int32.ofNat 0))]) (S' := []) (h' := h) (by with_unfolding_all rfl) ?_
      rw [if_neg (fun q => by have := kx_b0.mp q; exact absurd this (by decide))]
      refine kx_go 2 (pc' := 14) (L' := [(0, .inr (.inr (.inl (some 259)))), (1, .inl (Int32.ofNat 0))]) (S' := [.inl (Int32.ofNat 0), .inr (.inr (.inl (some 259)))]) (h' := h) (by with_unfolding_all rfl) ?_
      refine kc_call_rule (M2 := wk_m164) (av := [.inr (.inr (.inl (some 259))), .inl (Int32.ofNat 0)]) (r := []) rfl rfl (kc_Con_le (fu_r164_0 (d := 0) hg hw hC) (by omega)) (fun rv h2 hq => ?_)
      obtain ⟨rfl, e⟩ := hq
      rw [e]
      clear e
      show kc_Ev g (d + 3) wk_m163 _ 17 [(0, .inr (.inr (.inl (some 259)))), (1, .inl (Int32.ofNat 0))] [.inl (B 0)] h
      refine kx_go 1 (pc' := 22) (L' := [(0, .inr (.inr (.inl (some 259)))), (1, .inl (Int32.ofNat 0))]) (S' := [.inl (B 0)]) (h' := h) (by with_unfolding_all rfl) ?_
      exact kc_ret_ok rfl (rv := some (.inl (B 0))) rfl ⟨by rw [show fu_cnt B (Int32.ofNat 0) = B 0 from by unfold fu_cnt; rw [if_pos (by decide)]; rfl], rfl⟩
    · refine kc_Con_new hg (M := wk_m163) rfl rfl rfl (show 2 ≤ 2 by decide) ?_
      refine kx_go 4 (pc' := 6) (L' := [(0, .inr (.inr (.inl (some 259)))), (1, .inl (Int32.ofNat 1))]) (S' := [.inr (.inl (Int64.ofNat 5)), .inr (.inl (Int64.ofNat 0)), .inr (.inl ((Int32.ofNat 1).toInt64))]) (h' := h) (by with_unfolding_all rfl) ?_
      refine kc_call_rule (M2 := wk_m22) (av := [.inr (.inl ((Int32.ofNat 1).toInt64)), .inr (.inl (Int64.ofNat 0)), .inr (.inl (Int64.ofNat 5))]) (r := []) rfl rfl (kc_Con_le (fu_li (d := 0) (lo := 0) (hi := 5) hg (by decide) (by decide)) (by omega)) (fun rv h2 hq => ?_)
      obtain ⟨rfl, e⟩ := hq
      rw [e]
      clear e
      show kc_Ev g (d + 3) wk_m163 _ 9 [(0, .inr (.inr (.inl (some 259)))), (1, .inl (Int32.ofNat 1))] [.inl (kp_b (fu_in (Int32.ofNat 1) 0 5))] h
      refine kx_go 1 (pc' := (if kc_cnd .eq (kp_b (fu_in (Int32.ofNat 1) 0 5)).toInt 0 then 20 else 12)) (L' := [(0, .inr (.inr (.inl (some 259)))), (1, .inl (Int32.ofNat 1))]) (S' := []) (h' := h) (by with_unfolding_all rfl) ?_
      rw [if_neg (fun q => by have := kx_b0.mp q; exact absurd this (by decide))]
      refine kx_go 2 (pc' := 14) (L' := [(0, .inr (.inr (.inl (some 259)))), (1, .inl (Int32.ofNat 1))]) (S' := [.inl (Int32.ofNat 1), .inr (.inr (.inl (some 259)))]) (h' := h) (by with_unfolding_all rfl) ?_
      refine kc_call_rule (M2 := wk_m164) (av := [.inr (.inr (.inl (some 259))), .inl (Int32.ofNat 1)]) (r := []) rfl rfl (kc_Con_le (fu_r164_1 (d := 0) hg hw hC) (by omega)) (fun rv h2 hq => ?_)
      obtain ⟨rfl, e⟩ := hq
      rw [e]
      clear e
      show kc_Ev g (d + 3) wk_m163 _ 17 [(0, .inr (.inr (.inl (some 259)))), (1, .inl (Int32.ofNat 1))] [.inl (B 1)] h
      refine kx_go 1 (pc' := 22) (L' := [(0, .inr (.inr (.inl (some 259)))), (1, .inl (Int32.ofNat 1))]) (S' := [.inl (B 1)]) (h' := h) (by with_unfolding_all rfl) ?_
      exact kc_ret_ok rfl (rv := some (.inl (B 1))) rfl ⟨by rw [show fu_cnt B (Int32.ofNat 1) = B 1 from by unfold fu_cnt; rw [if_pos (by decide)]; rfl], rfl⟩
    · refine kc_Con_new hg (M := wk_m163) rfl rfl rfl (show 2 ≤ 2 by decide) ?_
      refine kx_go 4 (pc' := 6) (L' := [(0, .inr (.inr (.inl (some 259)))), (1, .inl (Int32.ofNat 2))]) (S' := [.inr (.inl (Int64.ofNat 5)), .inr (.inl (Int64.ofNat 0)), .inr (.inl ((Int32.ofNat 2).toInt64))]) (h' := h) (by with_unfolding_all rfl) ?_
      refine kc_call_rule (M2 := wk_m22) (av := [.inr (.inl ((Int32.ofNat 2).toInt64)), .inr (.inl (Int64.ofNat 0)), .inr (.inl (Int64.ofNat 5))]) (r := []) rfl rfl (kc_Con_le (fu_li (d := 0) (lo := 0) (hi := 5) hg (by decide) (by decide)) (by omega)) (fun rv h2 hq => ?_)
      obtain ⟨rfl, e⟩ := hq
      rw [e]
      clear e
      show kc_Ev g (d + 3) wk_m163 _ 9 [(0, .inr (.inr (.inl (some 259)))), (1, .inl (Int32.ofNat 2))] [.inl (kp_b (fu_in (Int32.ofNat 2) 0 5))] h
      refine kx_go 1 (pc' := (if kc_cnd .eq (kp_b (fu_in (Int32.ofNat 2) 0 5)).toInt 0 then 20 else 12)) (L' := [(0, .inr (.inr (.inl (some 259)))), (1, .inl (Int32.ofNat 2))]) (S' := []) (h' := h) (by with_unfolding_all rfl) ?_
      rw [if_neg (fun q => by have := kx_b0.mp q; exact absurd this (by decide))]
      refine kx_go 2 (pc' := 14) (L' := [(0, .inr (.inr (.inl (some 259)))), (1, .inl (Int32.ofNat 2))]) (S' := [.inl (Int32.ofNat 2), .inr (.inr (.inl (some 259)))]) (h' := h) (by with_unfolding_all rfl) ?_
      refine kc_call_rule (M2 := wk_m164) (av := [.inr (.inr (.inl (some 259))), .inl (Int32.ofNat 2)]) (r := []) rfl rfl (kc_Con_le (fu_r164_2 (d := 0) hg hw hC) (by omega)) (fun rv h2 hq => ?_)
      obtain ⟨rfl, e⟩ := hq
      rw [e]
      clear e
      show kc_Ev g (d + 3) wk_m163 _ 17 [(0, .inr (.inr (.inl (some 259)))), (1, .inl (Int32.ofNat 2))] [.inl (B 2)] h
      refine kx_go 1 (pc' := 22) (L' := [(0, .inr (.inr (.inl (some 259)))), (1, .inl (Int32.ofNat 2))]) (S' := [.inl (B 2)]) (h' := h) (by with_unfolding_all rfl) ?_
      exact kc_ret_ok rfl (rv := some (.inl (B 2))) rfl ⟨by rw [show fu_cnt B (Int32.ofNat 2) = B 2 from by unfold fu_cnt; rw [if_pos (by decide)]; rfl], rfl⟩
    · refine kc_Con_new hg (M := wk_m163) rfl rfl rfl (show 2 ≤ 2 by decide) ?_
      refine kx_go 4 (pc' := 6) (L' := [(0, .inr (.inr (.inl (some 259)))), (1, .inl (Int32.ofNat 3))]) (S' := [.inr (.inl (Int64.ofNat 5)), .inr (.inl (Int64.ofNat 0)), .inr (.inl ((Int32.ofNat 3).toInt64))]) (h' := h) (by with_unfolding_all rfl) ?_
      refine kc_call_rule (M2 := wk_m22) (av := [.inr (.inl ((Int32.ofNat 3).toInt64)), .inr (.inl (Int64.ofNat 0)), .inr (.inl (Int64.ofNat 5))]) (r := []) rfl rfl (kc_Con_le (fu_li (d := 0) (lo := 0) (hi := 5) hg (by decide) (by decide)) (by omega)) (fun rv h2 hq => ?_)
      obtain ⟨rfl, e⟩ := hq
      rw [e]
      clear e
      show kc_Ev g (d + 3) wk_m163 _ 9 [(0, .inr (.inr (.inl (some 259)))), (1, .inl (Int32.ofNat 3))] [.inl (kp_b (fu_in (Int32.ofNat 3) 0 5))] h
      refine kx_go 1 (pc' := (if kc_cnd .eq (kp_b (fu_in (Int32.ofNat 3) 0 5)).toInt 0 then 20 else 12)) (L' := [(0, .inr (.inr (.inl (some 259)))), (1, .inl (Int32.ofNat 3))]) (S' := []) (h' := h) (by with_unfolding_all rfl) ?_
      rw [if_neg (fun q => by have := kx_b0.mp q; exact absurd this (by decide))]
      refine kx_go 2 (pc' := 14) (L' := [(0, .inr (.inr (.inl (some 259)))), (1, .inl (Int32.ofNat 3))]) (S' := [.inl (Int32.ofNat 3), .inr (.inr (.inl (some 259)))]) (h' := h) (by with_unfolding_all rfl) ?_
      refine kc_call_rule (M2 := wk_m164) (av := [.inr (.inr (.inl (some 259))), .inl (Int32.ofNat 3)]) (r := []) rfl rfl (kc_Con_le (fu_r164_3 (d := 0) hg hw hC) (by omega)) (fun rv h2 hq => ?_)
      obtain ⟨rfl, e⟩ := hq
      rw [e]
      clear e
      show kc_Ev g (d + 3) wk_m163 _ 17 [(0, .inr (.inr (.inl (some 259)))), (1, .inl (Int32.ofNat 3))] [.inl (B 3)] h
      refine kx_go 1 (pc' := 22) (L' := [(0, .inr (.inr (.inl (some 259)))), (1, .inl (Int32.ofNat 3))]) (S' := [.inl (B 3)]) (h' := h) (by with_unfolding_all rfl) ?_
      exact kc_ret_ok rfl (rv := some (.inl (B 3))) rfl ⟨by rw [show fu_cnt B (Int32.ofNat 3) = B 3 from by unfold fu_cnt; rw [if_pos (by decide)]; rfl], rfl⟩
    · refine kc_Con_new hg (M := wk_m163) rfl rfl rfl (show 2 ≤ 2 by decide) ?_
      refine kx_go 4 (pc' := 6) (L' := [(0, .inr (.inr (.inl (some 259)))), (1, .inl (Int32.ofNat 4))]) (S' := [.inr (.inl (Int64.ofNat 5)), .inr (.inl (Int64.ofNat 0)), .inr (.inl ((Int32.ofNat 4).toInt64))]) (h' := h) (by with_unfolding_all rfl) ?_
      refine kc_call_rule (M2 := wk_m22) (av := [.inr (.inl ((Int32.ofNat 4).toInt64)), .inr (.inl (Int64.ofNat 0)), .inr (.inl (Int64.ofNat 5))]) (r := []) rfl rfl (kc_Con_le (fu_li (d := 0) (lo := 0) (hi := 5) hg (by decide) (by decide)) (by omega)) (fun rv h2 hq => ?_)
      obtain ⟨rfl, e⟩ := hq
      rw [e]
      clear e
      show kc_Ev g (d + 3) wk_m163 _ 9 [(0, .inr (.inr (.inl (some 259)))), (1, .inl (Int32.ofNat 4))] [.inl (kp_b (fu_in (Int32.ofNat 4) 0 5))] h
      refine kx_go 1 (pc' := (if kc_cnd .eq (kp_b (fu_in (Int32.ofNat 4) 0 5)).toInt 0 then 20 else 12)) (L' := [(0, .inr (.inr (.inl (some 259)))), (1, .inl (Int32.ofNat 4))]) (S' := []) (h' := h) (by with_unfolding_all rfl) ?_
      rw [if_neg (fun q => by have := kx_b0.mp q; exact absurd this (by decide))]
      refine kx_go 2 (pc' := 14) (L' := [(0, .inr (.inr (.inl (some 259)))), (1, .inl (Int32.ofNat 4))]) (S' := [.inl (Int32.ofNat 4), .inr (.inr (.inl (some 259)))]) (h' := h) (by with_unfolding_all rfl) ?_
      refine kc_call_rule (M2 := wk_m164) (av := [.inr (.inr (.inl (some 259))), .inl (Int32.ofNat 4)]) (r := []) rfl rfl (kc_Con_le (fu_r164_4 (d := 0) hg hw hC) (by omega)) (fun rv h2 hq => ?_)
      obtain ⟨rfl, e⟩ := hq
      rw [e]
      clear e
      show kc_Ev g (d + 3) wk_m163 _ 17 [(0, .inr (.inr (.inl (some 259)))), (1, .inl (Int32.ofNat 4))] [.inl (B 160)] h
      refine kx_go 1 (pc' := 22) (L' := [(0, .inr (.inr (.inl (some 259)))), (1, .inl (Int32.ofNat 4))]) (S' := [.inl (B 160)]) (h' := h) (by with_unfolding_all rfl) ?_
      exact kc_ret_ok rfl (rv := some (.inl (B 160))) rfl ⟨by rw [show fu_cnt B (Int32.ofNat 4) = B 160 from by unfold fu_cnt; rw [if_pos (by decide)]; rfl], rfl⟩
    · refine kc_Con_new hg (M := wk_m163) rfl rfl rfl (show 2 ≤ 2 by decide) ?_
      refine kx_go 4 (pc' := 6) (L' := [(0, .inr (.inr (.inl (some 259)))), (1, .inl (Int32.ofNat 5))]) (S' := [.inr (.inl (Int64.ofNat 5)), .inr (.inl (Int64.ofNat 0)), .inr (.inl ((Int32.ofNat 5).toInt64))]) (h' := h) (by with_unfolding_all rfl) ?_
      refine kc_call_rule (M2 := wk_m22) (av := [.inr (.inl ((Int32.ofNat 5).toInt64)), .inr (.inl (Int64.ofNat 0)), .inr (.inl (Int64.ofNat 5))]) (r := []) rfl rfl (kc_Con_le (fu_li (d := 0) (lo := 0) (hi := 5) hg (by decide) (by decide)) (by omega)) (fun rv h2 hq => ?_)
      obtain ⟨rfl, e⟩ := hq
      rw [e]
      clear e
      show kc_Ev g (d + 3) wk_m163 _ 9 [(0, .inr (.inr (.inl (some 259)))), (1, .inl (Int32.ofNat 5))] [.inl (kp_b (fu_in (Int32.ofNat 5) 0 5))] h
      refine kx_go 1 (pc' := (if kc_cnd .eq (kp_b (fu_in (Int32.ofNat 5) 0 5)).toInt 0 then 20 else 12)) (L' := [(0, .inr (.inr (.inl (some 259)))), (1, .inl (Int32.ofNat 5))]) (S' := []) (h' := h) (by with_unfolding_all rfl) ?_
      rw [if_neg (fun q => by have := kx_b0.mp q; exact absurd this (by decide))]
      refine kx_go 2 (pc' := 14) (L' := [(0, .inr (.inr (.inl (some 259)))), (1, .inl (Int32.ofNat 5))]) (S' := [.inl (Int32.ofNat 5), .inr (.inr (.inl (some 259)))]) (h' := h) (by with_unfolding_all rfl) ?_
      refine kc_call_rule (M2 := wk_m164) (av := [.inr (.inr (.inl (some 259))), .inl (Int32.ofNat 5)]) (r := []) rfl rfl (kc_Con_le (fu_r164_5 (d := 0) hg hw hC) (by omega)) (fun rv h2 hq => ?_)
      obtain ⟨rfl, e⟩ := hq
      rw [e]
      clear e
      show kc_Ev g (d + 3) wk_m163 _ 17 [(0, .inr (.inr (.inl (some 259)))), (1, .inl (Int32.ofNat 5))] [.inl (B 161)] h
      refine kx_go 1 (pc' := 22) (L' := [(0, .inr (.inr (.inl (some 259)))), (1, .inl (Int32.ofNat 5))]) (S' := [.inl (B 161)]) (h' := h) (by with_unfolding_all rfl) ?_
      exact kc_ret_ok rfl (rv := some (.inl (B 161))) rfl ⟨by rw [show fu_cnt B (Int32.ofNat 5) = B 161 from by unfold fu_cnt; rw [if_pos (by decide)]; rfl], rfl⟩
  · refine kc_Con_mono (kc_Con_le (fu_nox (k := 2) (by decide) (fu_h163l hg (fun _ => 0) _ h kv_bx0 hw ⟨⟨259, rfl, by decide, by decide⟩, kv_gi (by omega) (by omega), trivial⟩ (fun q hq => by cases hq))) (by omega)) (fun rv h' hq => ?_)
    obtain ⟨r, rfl, r2, rfl⟩ := hq
    refine ⟨?_, rfl⟩
    rw [show fu_cnt B a = Int32.ofInt (-2) from if_neg (by rw [fu_in0 (by omega)]; decide), show r = Int32.ofInt (-2) from Int32.toInt_inj.mp (by rw [r2]; decide)]
  · refine kc_Con_mono (kc_Con_le (fu_nox (k := 2) (by decide) (fu_h163h hg (fun _ => 0) _ h kv_bx0 hw ⟨⟨259, rfl, by decide, by decide⟩, kv_gi (by omega) (by omega), trivial⟩ (fun q hq => by cases hq))) (by omega)) (fun rv h' hq => ?_)
    obtain ⟨r, rfl, r2, rfl⟩ := hq
    refine ⟨?_, rfl⟩
    rw [show fu_cnt B a = Int32.ofInt (-2) from if_neg (by rw [fu_in0 (by omega)]; decide), show r = Int32.ofInt (-2) from Int32.toInt_inj.mp (by rw [r2]; decide)]
