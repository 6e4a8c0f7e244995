/-! ===== type, reference ===== -/
set_option maxRecDepth 20000 in
theorem kq_rend {g : kc_G} {d x c n : Nat} {v : Int64} {i : Int32} {h : kc_H} (hx : x < 2) (h0 : h 259 0 = .inr (.inr (.inl (some 260)))) (hc : h 260 (160 + x) = .inl (Int32.ofNat c)) (hcn : c + n ≤ 240) : kc_Ev g d wk_m56 (fun rv h' => ∃ z : Int32, rv = some (.inl z) ∧ ((c + n ≤ 240 ∧ h' = (kq_F h 260 (170 + 240 * x) 260 (160 + x) c (kq_r v) n n)) ∨ (240 < c + n ∧ h' = h))) 113 [(5, .inl (i)), (0, .inr (.inr (.inl (some 259)))), (1, .inl (Int32.ofNat x)), (2, .inr (.inl (v))), (4, .inl (Int32.ofNat n))] [] (kq_F h 260 (170 + 240 * x) 260 (160 + x) c (kq_r v) n n) := by
  refine kx_go 1 (pc' := 114) (L' := [(5, .inl (i)), (0, .inr (.inr (.inl (some 259)))), (1, .inl (Int32.ofNat x)), (2, .inr (.inl (v))), (4, .inl (Int32.ofNat n))]) (S' := [.inr (.inr (.inl (some 259)))]) (h' := (kq_F h 260 (170 + 240 * x) 260 (160 + x) c (kq_r v) n n)) (by with_unfolding_all rfl) ?_
  refine kx_getf (c := 259) (v := .inr (.inr (.inl (some 260)))) rfl (by decide) ((kq_o (Or.inl (by decide)) (Or.inl (by decide))).trans h0) ?_
  refine kx_go 3 (pc' := 122) (L' := [(5, .inl (i)), (0, .inr (.inr (.inl (some 259)))), (1, .inl (Int32.ofNat x)), (2, .inr (.inl (v))), (4, .inl (Int32.ofNat n))]) (S' := [.inl ((Int32.ofNat 160) + (Int32.ofNat x)), .inr (.inr (.inl (some 260)))]) (h' := (kq_F h 260 (170 + 240 * x) 260 (160 + x) c (kq_r v) n n)) (by with_unfolding_all rfl) ?_
  rw [← Int32.ofNat_add]
  refine kx_iald rfl (c := 260) (j := 160 + x) (m := 650) (v := .inl (Int32.ofNat (c + n))) rfl (by decide) (by decide) (by omega) kq_b ?_
  exact kc_ret_ok rfl (rv := some (.inl (Int32.ofNat (c + n)))) rfl ⟨_, rfl, Or.inl ⟨hcn, rfl⟩⟩
set_option maxRecDepth 20000 in
theorem kq_rl {g : kc_G} {d x c n : Nat} {v : Int64} {h : kc_H} (hx : x < 2) (h0 : h 259 0 = .inr (.inr (.inl (some 260)))) (hc : h 260 (160 + x) = .inl (Int32.ofNat c)) (hn : n ≤ 8) (hcn : c + n ≤ 240) : ∀ (r m : Nat), r + m + 1 = n → kc_Ev g d wk_m56 (fun rv h' => ∃ z : Int32, rv = some (.inl z) ∧ ((c + n ≤ 240 ∧ h' = (kq_F h 260 (170 + 240 * x) 260 (160 + x) c (kq_r v) n n)) ∨ (240 < c + n ∧ h' = h))) 51 [(5, .inl (Int32.ofNat r)), (0, .inr (.inr (.inl (some 259)))), (1, .inl (Int32.ofNat x)), (2, .inr (.inl (v))), (4, .inl (Int32.ofNat n))] [] (kq_F h 260 (170 + 240 * x) 260 (160 + x) c (kq_r v) n m) := by
  intro r
  induction r with
  | zero =>
    intro m hm
    refine kx_go 2 (pc' := (if kc_cnd .lt (Int32.ofNat 0).toInt 0 then 113 else 56)) (L' := [(5, .inl (Int32.ofNat 0)), (0, .inr (.inr (.inl (some 259)))), (1, .inl (Int32.ofNat x)), (2, .inr (.inl (v))), (4, .inl (Int32.ofNat n))]) (S' := []) (h' := (kq_F h 260 (170 + 240 * x) 260 (160 + x) c (kq_r v) n m)) (by with_unfolding_all rfl) ?_
    rw [if_neg (by unfold kc_cnd; rw [kx_ti (by omega)]; simp only [decide_eq_true_eq]; omega)]
    refine kx_go 1 (pc' := 57) (L' := [(5, .inl (Int32.ofNat 0)), (0, .inr (.inr (.inl (some 259)))), (1, .inl (Int32.ofNat x)), (2, .inr (.inl (v))), (4, .inl (Int32.ofNat n))]) (S' := [.inr (.inr (.inl (some 259)))]) (h' := (kq_F h 260 (170 + 240 * x) 260 (160 + x) c (kq_r v) n m)) (by with_unfolding_all rfl) ?_
    refine kx_getf (c := 259) (v := .inr (.inr (.inl (some 260)))) rfl (by decide) ((kq_o (Or.inl (by decide)) (Or.inl (by decide))).trans h0) ?_
    refine kx_go 6 (pc' := 70) (L' := [(5, .inl (Int32.ofNat 0)), (0, .inr (.inr (.inl (some 259)))), (1, .inl (Int32.ofNat x)), (2, .inr (.inl (v))), (4, .inl (Int32.ofNat n))]) (S' := [.inr (.inr (.inl (some 259))), .inl ((Int32.ofNat 170) + ((Int32.ofNat 240) * (Int32.ofNat x))), .inr (.inr (.inl (some 260)))]) (h' := (kq_F h 260 (170 + 240 * x) 260 (160 + x) c (kq_r v) n m)) (by with_unfolding_all rfl) ?_
    rw [← Int32.ofNat_mul, ← Int32.ofNat_add]
    refine kx_getf (c := 259) (v := .inr (.inr (.inl (some 260)))) rfl (by decide) ((kq_o (Or.inl (by decide)) (Or.inl (by decide))).trans h0) ?_
    refine kx_go 3 (pc' := 78) (L' := [(5, .inl (Int32.ofNat 0)), (0, .inr (.inr (.inl (some 259)))), (1, .inl (Int32.ofNat x)), (2, .inr (.inl (v))), (4, .inl (Int32.ofNat n))]) (S' := [.inl ((Int32.ofNat 160) + (Int32.ofNat x)), .inr (.inr (.inl (some 260))), .inl (Int32.ofNat (170 + 240 * x)), .inr (.inr (.inl (some 260)))]) (h' := (kq_F h 260 (170 + 240 * x) 260 (160 + x) c (kq_r v) n m)) (by with_unfolding_all rfl) ?_
    rw [← Int32.ofNat_add 160 x]
    refine kx_iald rfl (c := 260) (j := 160 + x) (m := 650) (v := .inl (Int32.ofNat (c + m))) rfl (by decide) (by decide) (by omega) kq_b ?_
    refine kx_go 1 (pc' := 80) (L' := [(5, .inl (Int32.ofNat 0)), (0, .inr (.inr (.inl (some 259)))), (1, .inl (Int32.ofNat x)), (2, .inr (.inl (v))), (4, .inl (Int32.ofNat n))]) (S' := [.inl ((Int32.ofNat (170 + 240 * x)) + (Int32.ofNat (c + m))), .inr (.inr (.inl (some 260)))]) (h' := (kq_F h 260 (170 + 240 * x) 260 (160 + x) c (kq_r v) n m)) (by with_unfolding_all rfl) ?_
    rw [← Int32.ofNat_add]
    refine kx_go 8 (pc' := 92) (L' := [(5, .inl (Int32.ofNat 0)), (0, .inr (.inr (.inl (some 259)))), (1, .inl (Int32.ofNat x)), (2, .inr (.inl (v))), (4, .inl (Int32.ofNat n))]) (S' := [.inl (((v >>> (((Int32.ofNat 8) * (Int32.ofNat 0)).toInt64 &&& 63)) &&& (Int64.ofNat 255)).toInt32), .inl (Int32.ofNat (170 + 240 * x + (c + m))), .inr (.inr (.inl (some 260)))]) (h' := (kq_F h 260 (170 + 240 * x) 260 (160 + x) c (kq_r v) n m)) (by with_unfolding_all rfl) ?_
    refine kx_iast rfl (c := 260) (j := 170 + 240 * x + (c + m)) (m := 650) rfl (by decide) (by decide) (by omega) ?_
    refine kx_go 1 (pc' := 94) (L' := [(5, .inl (Int32.ofNat 0)), (0, .inr (.inr (.inl (some 259)))), (1, .inl (Int32.ofNat x)), (2, .inr (.inl (v))), (4, .inl (Int32.ofNat n))]) (S' := [.inr (.inr (.inl (some 259)))]) (h' := (kc_upd (kq_F h 260 (170 + 240 * x) 260 (160 + x) c (kq_r v) n m) 260 (170 + 240 * x + (c + m)) (.inl (((v >>> (((Int32.ofNat 8) * (Int32.ofNat 0)).toInt64 &&& 63)) &&& (Int64.ofNat 255)).toInt32)))) (by with_unfolding_all rfl) ?_
    refine kx_getf (c := 259) (v := .inr (.inr (.inl (some 260)))) rfl (by decide) ((kj_uo (by decide)).trans ((kq_o (Or.inl (by decide)) (Or.inl (by decide))).trans h0)) ?_
    refine kx_go 4 (pc' := 103) (L' := [(5, .inl (Int32.ofNat 0)), (0, .inr (.inr (.inl (some 259)))), (1, .inl (Int32.ofNat x)), (2, .inr (.inl (v))), (4, .inl (Int32.ofNat n))]) (S' := [.inl ((Int32.ofNat 160) + (Int32.ofNat x)), .inr (.inr (.inl (some 260))), .inl ((Int32.ofNat 160) + (Int32.ofNat x)), .inr (.inr (.inl (some 260)))]) (h' := (kc_upd (kq_F h 260 (170 + 240 * x) 260 (160 + x) c (kq_r v) n m) 260 (170 + 240 * x + (c + m)) (.inl (((v >>> (((Int32.ofNat 8) * (Int32.ofNat 0)).toInt64 &&& 63)) &&& (Int64.ofNat 255)).toInt32)))) (by with_unfolding_all rfl) ?_
    rw [← Int32.ofNat_add 160 x]
    refine kx_iald rfl (c := 260) (j := 160 + x) (m := 650) (v := .inl (Int32.ofNat (c + m))) rfl (by decide) (by decide) (by omega) ((if_neg (by omega)).trans kq_b) ?_
    refine kx_go 2 (pc' := 106) (L' := [(5, .inl (Int32.ofNat 0)), (0, .inr (.inr (.inl (some 259)))), (1, .inl (Int32.ofNat x)), (2, .inr (.inl (v))), (4, .inl (Int32.ofNat n))]) (S' := [.inl ((Int32.ofNat (c + m)) + (Int32.ofNat 1)), .inl (Int32.ofNat (160 + x)), .inr (.inr (.inl (some 260)))]) (h' := (kc_upd (kq_F h 260 (170 + 240 * x) 260 (160 + x) c (kq_r v) n m) 260 (170 + 240 * x + (c + m)) (.inl (((v >>> (((Int32.ofNat 8) * (Int32.ofNat 0)).toInt64 &&& 63)) &&& (Int64.ofNat 255)).toInt32)))) (by with_unfolding_all rfl) ?_
    rw [← Int32.ofNat_add (c + m) 1]
    refine kx_iast rfl (c := 260) (j := 160 + x) (m := 650) rfl (by decide) (by decide) (by omega) ?_
    have hs := kq_s (h := h) (tc := 260) (to := 170 + 240 * x) (bc := 260) (bp := 160 + x) (c := c) (B := kq_r v) (n := n) (m := m) (Or.inr (by omega))
    rw [show n - 1 - m = 0 from by omega] at hs
    refine Eq.mpr (congrArg (fun H => kc_Ev g d wk_m56 _ 107 [(5, .inl (Int32.ofNat 0)), (0, .inr (.inr (.inl (some 259)))), (1, .inl (Int32.ofNat x)), (2, .inr (.inl (v))), (4, .inl (Int32.ofNat n))] [] H) hs) ?_
    refine kx_go 2 (pc' := 51) (L' := [(5, .inl ((Int32.ofNat 0) + Int32.ofInt (-1))), (0, .inr (.inr (.inl (some 259)))), (1, .inl (Int32.ofNat x)), (2, .inr (.inl (v))), (4, .inl (Int32.ofNat n))]) (S' := []) (h' := (kq_F h 260 (170 + 240 * x) 260 (160 + x) c (kq_r v) n (m + 1))) (by with_unfolding_all rfl) ?_
    refine kx_go 2 (pc' := 113) (L' := [(5, .inl ((Int32.ofNat 0) + Int32.ofInt (-1))), (0, .inr (.inr (.inl (some 259)))), (1, .inl (Int32.ofNat x)), (2, .inr (.inl (v))), (4, .inl (Int32.ofNat n))]) (S' := []) (h' := (kq_F h 260 (170 + 240 * x) 260 (160 + x) c (kq_r v) n (m + 1))) (by with_unfolding_all rfl) ?_
    obtain rfl : n = m + 1 := by omega
    exact kq_rend hx h0 hc hcn
  | succ r ih =>
    intro m hm
    refine kx_go 2 (pc' := (if kc_cnd .lt (Int32.ofNat (r + 1)).toInt 0 then 113 else 56)) (L' := [(5, .inl (Int32.ofNat (r + 1))), (0, .inr (.inr (.inl (some 259)))), (1, .inl (Int32.ofNat x)), (2, .inr (.inl (v))), (4, .inl (Int32.ofNat n))]) (S' := []) (h' := (kq_F h 260 (170 + 240 * x) 260 (160 + x) c (kq_r v) n m)) (by with_unfolding_all rfl) ?_
    rw [if_neg (by unfold kc_cnd; rw [kx_ti (by omega)]; simp only [decide_eq_true_eq]; omega)]
    refine kx_go 1 (pc' := 57) (L' := [(5, .inl (Int32.ofNat (r + 1))), (0, .inr (.inr (.inl (some 259)))), (1, .inl (Int32.ofNat x)), (2, .inr (.inl (v))), (4, .inl (Int32.ofNat n))]) (S' := [.inr (.inr (.inl (some 259)))]) (h' := (kq_F h 260 (170 + 240 * x) 260 (160 + x) c (kq_r v) n m)) (by with_unfolding_all rfl) ?_
    refine kx_getf (c := 259) (v := .inr (.inr (.inl (some 260)))) rfl (by decide) ((kq_o (Or.inl (by decide)) (Or.inl (by decide))).trans h0) ?_
    refine kx_go 6 (pc' := 70) (L' := [(5, .inl (Int32.ofNat (r + 1))), (0, .inr (.inr (.inl (some 259)))), (1, .inl (Int32.ofNat x)), (2, .inr (.inl (v))), (4, .inl (Int32.ofNat n))]) (S' := [.inr (.inr (.inl (some 259))), .inl ((Int32.ofNat 170) + ((Int32.ofNat 240) * (Int32.ofNat x))), .inr (.inr (.inl (some 260)))]) (h' := (kq_F h 260 (170 + 240 * x) 260 (160 + x) c (kq_r v) n m)) (by with_unfolding_all rfl) ?_
    rw [← Int32.ofNat_mul, ← Int32.ofNat_add]
    refine kx_getf (c := 259) (v := .inr (.inr (.inl (some 260)))) rfl (by decide) ((kq_o (Or.inl (by decide)) (Or.inl (by decide))).trans h0) ?_
    refine kx_go 3 (pc' := 78) (L' := [(5, .inl (Int32.ofNat (r + 1))), (0, .inr (.inr (.inl (some 259)))), (1, .inl (Int32.ofNat x)), (2, .inr (.inl (v))), (4, .inl (Int32.ofNat n))]) (S' := [.inl ((Int32.ofNat 160) + (Int32.ofNat x)), .inr (.inr (.inl (some 260))), .inl (Int32.ofNat (170 + 240 * x)), .inr (.inr (.inl (some 260)))]) (h' := (kq_F h 260 (170 + 240 * x) 260 (160 + x) c (kq_r v) n m)) (by with_unfolding_all rfl) ?_
    rw [← Int32.ofNat_add 160 x]
    refine kx_iald rfl (c := 260) (j := 160 + x) (m := 650) (v := .inl (Int32.ofNat (c + m))) rfl (by decide) (by decide) (by omega) kq_b ?_
    refine kx_go 1 (pc' := 80) (L' := [(5, .inl (Int32.ofNat (r + 1))), (0, .inr (.inr (.inl (some 259)))), (1, .inl (Int32.ofNat x)), (2, .inr (.inl (v))), (4, .inl (Int32.ofNat n))]) (S' := [.inl ((Int32.ofNat (170 + 240 * x)) + (Int32.ofNat (c + m))), .inr (.inr (.inl (some 260)))]) (h' := (kq_F h 260 (170 + 240 * x) 260 (160 + x) c (kq_r v) n m)) (by with_unfolding_all rfl) ?_
    rw [← Int32.ofNat_add]
    refine kx_go 8 (pc' := 92) (L' := [(5, .inl (Int32.ofNat (r + 1))), (0, .inr (.inr (.inl (some 259)))), (1, .inl (Int32.ofNat x)), (2, .inr (.inl (v))), (4, .inl (Int32.ofNat n))]) (S' := [.inl (((v >>> (((Int32.ofNat 8) * (Int32.ofNat (r + 1))).toInt64 &&& 63)) &&& (Int64.ofNat 255)).toInt32), .inl (Int32.ofNat (170 + 240 * x + (c + m))), .inr (.inr (.inl (some 260)))]) (h' := (kq_F h 260 (170 + 240 * x) 260 (160 + x) c (kq_r v) n m)) (by with_unfolding_all rfl) ?_
    refine kx_iast rfl (c := 260) (j := 170 + 240 * x + (c + m)) (m := 650) rfl (by decide) (by decide) (by omega) ?_
    refine kx_go 1 (pc' := 94) (L' := [(5, .inl (Int32.ofNat (r + 1))), (0, .inr (.inr (.inl (some 259)))), (1, .inl (Int32.ofNat x)), (2, .inr (.inl (v))), (4, .inl (Int32.ofNat n))]) (S' := [.inr (.inr (.inl (some 259)))]) (h' := (kc_upd (kq_F h 260 (170 + 240 * x) 260 (160 + x) c (kq_r v) n m) 260 (170 + 240 * x + (c + m)) (.inl (((v >>> (((Int32.ofNat 8) * (Int32.ofNat (r + 1))).toInt64 &&& 63)) &&& (Int64.ofNat 255)).toInt32)))) (by with_unfolding_all rfl) ?_
    refine kx_getf (c := 259) (v := .inr (.inr (.inl (some 260)))) rfl (by decide) ((kj_uo (by decide)).trans ((kq_o (Or.inl (by decide)) (Or.inl (by decide))).trans h0)) ?_
    refine kx_go 4 (pc' := 103) (L' := [(5, .inl (Int32.ofNat (r + 1))), (0, .inr (.inr (.inl (some 259)))), (1, .inl (Int32.ofNat x)), (2, .inr (.inl (v))), (4, .inl (Int32.ofNat n))]) (S' := [.inl ((Int32.ofNat 160) + (Int32.ofNat x)), .inr (.inr (.inl (some 260))), .inl ((Int32.ofNat 160) + (Int32.ofNat x)), .inr (.inr (.inl (some 260)))]) (h' := (kc_upd (kq_F h 260 (170 + 240 * x) 260 (160 + x) c (kq_r v) n m) 260 (170 + 240 * x + (c + m)) (.inl (((v >>> (((Int32.ofNat 8) * (Int32.ofNat (r + 1))).toInt64 &&& 63)) &&& (Int64.ofNat 255)).toInt32)))) (by with_unfolding_all rfl) ?_
    rw [← Int32.ofNat_add 160 x]
    refine kx_iald rfl (c := 260) (j := 160 + x) (m := 650) (v := .inl (Int32.ofNat (c + m))) rfl (by decide) (by decide) (by omega) ((if_neg (by omega)).trans kq_b) ?_
    refine kx_go 2 (pc' := 106) (L' := [(5, .inl (Int32.ofNat (r + 1))), (0, .inr (.inr (.inl (some 259)))), (1, .inl (Int32.ofNat x)), (2, .inr (.inl (v))), (4, .inl (Int32.ofNat n))]) (S' := [.inl ((Int32.ofNat (c + m)) + (Int32.ofNat 1)), .inl (Int32.ofNat (160 + x)), .inr (.inr (.inl (some 260)))]) (h' := (kc_upd (kq_F h 260 (170 + 240 * x) 260 (160 + x) c (kq_r v) n m) 260 (170 + 240 * x + (c + m)) (.inl (((v >>> (((Int32.ofNat 8) * (Int32.ofNat (r + 1))).toInt64 &&& 63)) &&& (Int64.ofNat 255)).toInt32)))) (by with_unfolding_all rfl) ?_
    rw [← Int32.ofNat_add (c + m) 1]
    refine kx_iast rfl (c := 260) (j := 160 + x) (m := 650) rfl (by decide) (by decide) (by omega) ?_
    have hs := kq_s (h := h) (tc := 260) (to := 170 + 240 * x) (bc := 260) (bp := 160 + x) (c := c) (B := kq_r v) (n := n) (m := m) (Or.inr (by omega))
    rw [show n - 1 - m = (r + 1) from by omega] at hs
    refine Eq.mpr (congrArg (fun H => kc_Ev g d wk_m56 _ 107 [(5, .inl (Int32.ofNat (r + 1))), (0, .inr (.inr (.inl (some 259)))), (1, .inl (Int32.ofNat x)), (2, .inr (.inl (v))), (4, .inl (Int32.ofNat n))] [] H) hs) ?_
    refine kx_go 2 (pc' := 51) (L' := [(5, .inl ((Int32.ofNat (r + 1)) + Int32.ofInt (-1))), (0, .inr (.inr (.inl (some 259)))), (1, .inl (Int32.ofNat x)), (2, .inr (.inl (v))), (4, .inl (Int32.ofNat n))]) (S' := []) (h' := (kq_F h 260 (170 + 240 * x) 260 (160 + x) c (kq_r v) n (m + 1))) (by with_unfolding_all rfl) ?_
    rw [kq_dec r (by omega)]
    exact ih (m + 1) (by omega)
set_option maxRecDepth 20000 in
theorem kq_57 {g : kc_G} {d x : Nat} {h : kc_H} (hg : kc_ok g) (hx : x < 2) : kc_Con g (d + 2) 57 [.inl (Int32.ofNat x)] h (fun rv h' => rv = some (.inl (kp_b true)) ∧ h' = h) := by
  refine kc_Con_new hg (M := wk_m57) rfl rfl rfl (show 1 ≤ 1 by decide) ?_
  refine kx_go 4 (pc' := 4) (L' := [(0, .inl (Int32.ofNat x))]) (S' := [.inr (.inl (Int64.ofNat 1)), .inr (.inl (Int64.ofNat 0)), .inr (.inl ((Int32.ofNat x).toInt64))]) (h' := h) (by with_unfolding_all rfl) ?_
  rw [kx_i2l (by omega)]
  refine kc_call_rule (M2 := wk_m22) (av := [.inr (.inl (Int64.ofNat x)), .inr (.inl (Int64.ofNat 0)), .inr (.inl (Int64.ofNat 1))]) (r := []) rfl rfl (kc_Con_le (km_lies hg (by omega) (by omega) (by omega)) (by omega)) (fun rv h' hq => ?_)
  obtain ⟨rfl, rfl⟩ := hq
  rw [show (decide (0 ≤ x ∧ x ≤ 1)) = true from decide_eq_true (by omega)]
  exact kc_ret_ok rfl (rv := some (.inl (kp_b true))) rfl ⟨rfl, rfl⟩
set_option maxRecDepth 20000 in
theorem kq_56 {g : kc_G} {d x c n : Nat} {v : Int64} {h : kc_H} (hg : kc_ok g) (hx : x < 2) (h0 : h 259 0 = .inr (.inr (.inl (some 260)))) (hc : h 260 (160 + x) = .inl (Int32.ofNat c)) (hn1 : 1 ≤ n) (hn : n ≤ 8) (hc240 : c ≤ 240) : kc_Con g (d + 3) 56 [.inr (.inr (.inl (some 259))), .inl (Int32.ofNat x), .inr (.inl v), .inl (Int32.ofNat n)] h (fun rv h' => ∃ z : Int32, rv = some (.inl z) ∧ ((c + n ≤ 240 ∧ h' = (kq_F h 260 (170 + 240 * x) 260 (160 + x) c (kq_r v) n n)) ∨ (240 < c + n ∧ h' = h))) := by
  refine kc_Con_new hg (M := wk_m56) rfl rfl rfl (show 5 ≤ 6 by decide) ?_
  refine kx_go 1 (pc' := 1) (L' := [(0, .inr (.inr (.inl (some 259)))), (1, .inl (Int32.ofNat x)), (2, .inr (.inl (v))), (4, .inl (Int32.ofNat n))]) (S' := [.inl (Int32.ofNat x)]) (h' := h) (by with_unfolding_all rfl) ?_
  refine kc_call_rule (M2 := wk_m57) (av := [.inl (Int32.ofNat x)]) (r := []) rfl rfl (kc_Con_le (kq_57 (d := 0) hg hx) (by omega)) (fun rv h' hq => ?_)
  obtain ⟨rfl, rfl⟩ := hq
  show kc_Ev g (d + 2) wk_m56 _ 4 [(0, .inr (.inr (.inl (some 259)))), (1, .inl (Int32.ofNat x)), (2, .inr (.inl (v))), (4, .inl (Int32.ofNat n))] [.inl (kp_b true)] h'
  refine kx_go 1 (pc' := 7) (L' := [(0, .inr (.inr (.inl (some 259)))), (1, .inl (Int32.ofNat x)), (2, .inr (.inl (v))), (4, .inl (Int32.ofNat n))]) (S' := []) (h' := h') (by with_unfolding_all rfl) ?_
  refine kx_go 4 (pc' := 14) (L' := [(0, .inr (.inr (.inl (some 259)))), (1, .inl (Int32.ofNat x)), (2, .inr (.inl (v))), (4, .inl (Int32.ofNat n))]) (S' := [.inr (.inl (Int64.ofNat 8)), .inr (.inl (Int64.ofNat 1)), .inr (.inl ((Int32.ofNat n).toInt64))]) (h' := h') (by with_unfolding_all rfl) ?_
  rw [kx_i2l (by omega)]
  refine kc_call_rule (M2 := wk_m22) (av := [.inr (.inl (Int64.ofNat n)), .inr (.inl (Int64.ofNat 1)), .inr (.inl (Int64.ofNat 8))]) (r := []) rfl rfl (kc_Con_le (km_lies hg (by omega) (by omega) (by omega)) (by omega)) (fun rv h' hq => ?_)
  obtain ⟨rfl, rfl⟩ := hq
  show kc_Ev g (d + 2) wk_m56 _ 17 [(0, .inr (.inr (.inl (some 259)))), (1, .inl (Int32.ofNat x)), (2, .inr (.inl (v))), (4, .inl (Int32.ofNat n))] [.inl (kp_b (decide (1 ≤ n ∧ n ≤ 8)))] h'
  refine kx_go 1 (pc' := (if kc_cnd .ne (kp_b (decide (1 ≤ n ∧ n ≤ 8))).toInt 0 then 23 else 20)) (L' := [(0, .inr (.inr (.inl (some 259)))), (1, .inl (Int32.ofNat x)), (2, .inr (.inl (v))), (4, .inl (Int32.ofNat n))]) (S' := []) (h' := h') (by with_unfolding_all rfl) ?_
  rw [if_pos (kx_b1.mpr (decide_eq_true (by omega)))]
  refine kx_go 1 (pc' := 24) (L' := [(0, .inr (.inr (.inl (some 259)))), (1, .inl (Int32.ofNat x)), (2, .inr (.inl (v))), (4, .inl (Int32.ofNat n))]) (S' := [.inr (.inr (.inl (some 259)))]) (h' := h') (by with_unfolding_all rfl) ?_
  refine kx_getf (c := 259) (v := .inr (.inr (.inl (some 260)))) rfl (by decide) h0 ?_
  refine kx_go 3 (pc' := 32) (L' := [(0, .inr (.inr (.inl (some 259)))), (1, .inl (Int32.ofNat x)), (2, .inr (.inl (v))), (4, .inl (Int32.ofNat n))]) (S' := [.inl ((Int32.ofNat 160) + (Int32.ofNat x)), .inr (.inr (.inl (some 260)))]) (h' := h') (by with_unfolding_all rfl) ?_
  rw [← Int32.ofNat_add]
  refine kx_iald rfl (c := 260) (j := 160 + x) (m := 650) (v := .inl (Int32.ofNat c)) rfl (by decide) (by decide) (by omega) hc ?_
  refine kx_go 2 (pc' := 36) (L' := [(0, .inr (.inr (.inl (some 259)))), (1, .inl (Int32.ofNat x)), (2, .inr (.inl (v))), (4, .inl (Int32.ofNat n))]) (S' := [.inl ((Int32.ofNat c) + (Int32.ofNat n))]) (h' := h') (by with_unfolding_all rfl) ?_
  rw [← Int32.ofNat_add]
  refine kx_go 2 (pc' := (if kc_cnd .le (Int32.ofNat (c + n)).toInt (Int32.ofNat 240).toInt then 45 else 42)) (L' := [(0, .inr (.inr (.inl (some 259)))), (1, .inl (Int32.ofNat x)), (2, .inr (.inl (v))), (4, .inl (Int32.ofNat n))]) (S' := []) (h' := h') (by with_unfolding_all rfl) ?_
  by_cases e : c + n ≤ 240
  · rw [if_pos ((kx_le (by omega) (by omega)).mpr e)]
    obtain ⟨k, rfl⟩ : ∃ k, n = k + 1 := ⟨n - 1, by omega⟩
    refine kx_go 4 (pc' := 51) (L' := [(5, .inl ((Int32.ofNat (k + 1)) - (Int32.ofNat 1))), (0, .inr (.inr (.inl (some 259)))), (1, .inl (Int32.ofNat x)), (2, .inr (.inl (v))), (4, .inl (Int32.ofNat (k + 1)))]) (S' := []) (h' := h') (by with_unfolding_all rfl) ?_
    rw [kq_pre k (by omega)]
    have key := kq_rl (g := g) (d := d + 2) (v := v) hx h0 hc (show k + 1 ≤ 8 by omega) e k 0 (by omega)
    rw [kq_0 hc] at key
    exact key
  · rw [if_neg (fun q => e ((kx_le (by omega) (by omega)).mp q))]
    refine kx_go 1 (pc' := 44) (L' := [(0, .inr (.inr (.inl (some 259)))), (1, .inl (Int32.ofNat x)), (2, .inr (.inl (v))), (4, .inl (Int32.ofNat n))]) (S' := [.inl (Int32.ofInt (-4))]) (h' := h') (by with_unfolding_all rfl) ?_
    exact kc_ret_ok rfl (rv := some (.inl (Int32.ofInt (-4)))) rfl ⟨_, rfl, Or.inr ⟨by omega, rfl⟩⟩
