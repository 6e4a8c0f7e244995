section
-- 99.zp8
/-! ===== the reference's setters, exactly ===== -/
theorem fu_back (c : Int32) : c.toInt64.toInt32 = c := by simp
theorem fu_zero : (Int64.ofNat 0).toInt32 = Int32.ofNat 0 := by decide
set_option maxRecDepth 20000 in
theorem fu_rs {g : kc_G} {d j : Nat} {h : kc_H} {w u : Int32} {v : Int64} (hg : kc_ok g) (h0 : h 259 0 = .inr (.inr (.inl (some 260)))) (hj : j < 650) (hv : h 260 j = .inl w) (hu : v.toInt32 = u) : kc_Con g (d + 1) 31 [.inr (.inr (.inl (some 259))), .inl (Int32.ofNat j), .inr (.inl v)] h (fun rv h' => rv = some (.inl w) ∧ h' = kc_upd h 260 j (.inl u)) := by
  refine kc_Con_new hg (M := wk_m31) rfl rfl rfl (show 4 ≤ 5 by decide) ?_
  refine kx_go 1 (pc' := 1) (L' := [(0, .inr (.inr (.inl (some 259)))), (1, .inl (Int32.ofNat j)), (2, .inr (.inl (v)))]) (S' := [.inr (.inr (.inl (some 259)))]) (h' := h) (by with_unfolding_all rfl) ?_
  refine kx_getf (c := 259) (v := .inr (.inr (.inl (some 260)))) rfl (by decide) h0 ?_
  refine kx_go 1 (pc' := 5) (L' := [(0, .inr (.inr (.inl (some 259)))), (1, .inl (Int32.ofNat j)), (2, .inr (.inl (v)))]) (S' := [.inl (Int32.ofNat j), .inr (.inr (.inl (some 260)))]) (h' := h) (by with_unfolding_all rfl) ?_
  refine kx_iald (c := 260) (j := j) (m := 650) (v := .inl w) rfl rfl (by decide) (by decide) hj hv ?_
  refine kx_go 2 (pc' := 9) (L' := [(4, .inl (w)), (0, .inr (.inr (.inl (some 259)))), (1, .inl (Int32.ofNat j)), (2, .inr (.inl (v)))]) (S' := [.inr (.inr (.inl (some 259)))]) (h' := h) (by with_unfolding_all rfl) ?_
  refine kx_getf (c := 259) (v := .inr (.inr (.inl (some 260)))) rfl (by decide) h0 ?_
  refine kx_go 3 (pc' := 15) (L' := [(4, .inl (w)), (0, .inr (.inr (.inl (some 259)))), (1, .inl (Int32.ofNat j)), (2, .inr (.inl (v)))]) (S' := [.inl (v.toInt32), .inl (Int32.ofNat j), .inr (.inr (.inl (some 260)))]) (h' := h) (by with_unfolding_all rfl) ?_
  rw [hu]
  refine kx_iast (c := 260) (j := j) (m := 650) rfl rfl (by decide) (by decide) hj ?_
  refine kx_go 1 (pc' := 18) (L' := [(4, .inl (w)), (0, .inr (.inr (.inl (some 259)))), (1, .inl (Int32.ofNat j)), (2, .inr (.inl (v)))]) (S' := [.inl (w)]) (h' := (kc_upd h 260 j (.inl u))) (by with_unfolding_all rfl) ?_
  exact kc_ret_ok rfl (rv := some (.inl w)) rfl ⟨rfl, rfl⟩
set_option maxRecDepth 20000 in
theorem fu_rdoor {g : kc_G} {d : Nat} {h : kc_H} {B : Nat → Int32} (hg : kc_ok g) (hw : kd_wt kd_ty h) (hC : fu_B B h) (hB : fu_BT B) : kc_Con g (d + 1) 15 [.inr (.inr (.inl (some 259)))] h (fun rv h' => rv = some (.inl (fu_door B).1) ∧ h' = fu_rw (fu_door B).2 h) := by
  refine kc_Con_new hg (M := wk_m15) rfl rfl rfl (show 1 ≤ 1 by decide) ?_
  obtain ⟨D, D5, eD⟩ := fu_n0 hB
  refine kx_go 1 (pc' := 1) (L' := [(0, .inr (.inr (.inl (some 259))))]) (S' := [.inr (.inr (.inl (some 259)))]) (h' := h) (by with_unfolding_all rfl) ?_
  refine kx_getf (c := 259) (v := .inr (.inr (.inl (some 260)))) rfl (by decide) (kx_ofr (hw _ _ _ kz_k.1)) ?_
  refine kx_go 1 (pc' := 5) (L' := [(0, .inr (.inr (.inl (some 259))))]) (S' := [.inl (Int32.ofNat 0), .inr (.inr (.inl (some 260)))]) (h' := h) (by with_unfolding_all rfl) ?_
  refine kx_iald (c := 260) (j := 0) (m := 650) (v := .inl (Int32.ofNat D)) rfl rfl (by decide) (by decide) (by omega) ((hC 0 (by decide) (by decide)).trans (by rw [eD])) ?_
  refine kx_go 2 (pc' := (if kc_cnd .ne (Int32.ofNat D).toInt (Int32.ofNat 5).toInt then 13 else 10)) (L' := [(0, .inr (.inr (.inl (some 259))))]) (S' := []) (h' := h) (by with_unfolding_all rfl) ?_
  by_cases e1 : D = 5
  · rw [if_neg (fun q => fu_ine.mp q (by rw [kx_ti (by omega), kx_ti (by omega)]; omega))]
    refine kx_go 1 (pc' := 12) (L' := [(0, .inr (.inr (.inl (some 259))))]) (S' := [.inl (Int32.ofInt (-4))]) (h' := h) (by with_unfolding_all rfl) ?_
    have key : fu_door B = (Int32.ofInt (-4), []) := by unfold fu_door; rw [eD, if_neg (by rw [kx_ti (by omega)]; omega)]
    exact kc_ret_ok rfl (rv := some (.inl (Int32.ofInt (-4)))) rfl ⟨fu_e1 key, fu_er key⟩
  · rw [if_pos (fu_ine.mpr (by rw [kx_ti (by omega), kx_ti (by omega)]; omega))]
    refine kx_go 1 (pc' := 14) (L' := [(0, .inr (.inr (.inl (some 259))))]) (S' := [.inr (.inr (.inl (some 259)))]) (h' := h) (by with_unfolding_all rfl) ?_
    refine kx_getf (c := 259) (v := .inr (.inr (.inl (some 260)))) rfl (by decide) (kx_ofr (hw _ _ _ kz_k.1)) ?_
    refine kx_go 2 (pc' := 19) (L' := [(0, .inr (.inr (.inl (some 259))))]) (S' := [.inl (Int32.ofNat 0), .inr (.inr (.inl (some 260))), .inl (Int32.ofNat 0), .inr (.inr (.inl (some 260)))]) (h' := h) (by with_unfolding_all rfl) ?_
    refine kx_iald (c := 260) (j := 0) (m := 650) (v := .inl (Int32.ofNat D)) rfl rfl (by decide) (by decide) (by omega) ((hC 0 (by decide) (by decide)).trans (by rw [eD])) ?_
    refine kx_go 2 (pc' := 22) (L' := [(0, .inr (.inr (.inl (some 259))))]) (S' := [.inl ((Int32.ofNat D) + (Int32.ofNat 1)), .inl (Int32.ofNat 0), .inr (.inr (.inl (some 260)))]) (h' := h) (by with_unfolding_all rfl) ?_
    rw [kx_inc1]
    refine kx_iast (c := 260) (j := 0) (m := 650) rfl rfl (by decide) (by decide) (by omega) ?_
    refine kx_go 1 (pc' := 24) (L' := [(0, .inr (.inr (.inl (some 259))))]) (S' := [.inr (.inr (.inl (some 259)))]) (h' := (kc_upd h 260 0 (.inl (Int32.ofNat (D + 1))))) (by with_unfolding_all rfl) ?_
    refine kx_getf (c := 259) (v := .inr (.inr (.inl (some 260)))) rfl (by decide) ((fu_ne (by omega)).trans (kx_ofr (hw _ _ _ kz_k.1))) ?_
    refine kx_go 1 (pc' := 28) (L' := [(0, .inr (.inr (.inl (some 259))))]) (S' := [.inl (Int32.ofNat 0), .inr (.inr (.inl (some 260)))]) (h' := (kc_upd h 260 0 (.inl (Int32.ofNat (D + 1))))) (by with_unfolding_all rfl) ?_
    refine kx_iald (c := 260) (j := 0) (m := 650) (v := .inl (Int32.ofNat (D + 1))) rfl rfl (by decide) (by decide) (by omega) (fu_eq) ?_
    have key : fu_door B = (Int32.ofNat (D + 1), [(0, Int32.ofNat (D + 1))]) := by unfold fu_door; rw [eD, kx_inc1, if_pos (by rw [kx_ti (by omega)]; omega)]
    exact kc_ret_ok rfl (rv := some (.inl (Int32.ofNat (D + 1)))) rfl ⟨fu_e1 key, fu_er key⟩
set_option maxRecDepth 20000 in
theorem fu_rway {g : kc_G} {d : Nat} {h : kc_H} {B : Nat → Int32} {a b c : Int32} (hg : kc_ok g) (hw : kd_wt kd_ty h) (hC : fu_B B h) (hB : fu_BT B) : kc_Con g (d + 3) 20 [.inr (.inr (.inl (some 259))), .inl a, .inl b, .inl c] h (fun rv h' => rv = some (.inl (fu_way B a b c).1) ∧ h' = fu_rw (fu_way B a b c).2 h) := by
  refine kc_Con_new hg (M := wk_m20) rfl rfl rfl (show 4 ≤ 4 by decide) ?_
  obtain ⟨D, D5, eD⟩ := fu_n0 hB
  refine kx_go 2 (pc' := 2) (L' := [(0, .inr (.inr (.inl (some 259)))), (1, .inl (a)), (2, .inl (b)), (3, .inl (c))]) (S' := [.inl (a), .inr (.inr (.inl (some 259)))]) (h' := h) (by with_unfolding_all rfl) ?_
  refine kc_call_rule (M2 := wk_m21) (av := [.inr (.inr (.inl (some 259))), .inl (a)]) (r := []) rfl rfl (kc_Con_le (fu_r21 (d := 0) hg hw hC) (by omega)) (fun rv h2 hq => ?_)
  obtain ⟨rfl, e⟩ := hq
  rw [e]
  clear e
  show kc_Ev g (d + 2) wk_m20 _ 5 [(0, .inr (.inr (.inl (some 259)))), (1, .inl (a)), (2, .inl (b)), (3, .inl (c))] [.inl (kp_b (fu_in a 0 (B 0).toInt))] h
  refine kx_go 1 (pc' := (if kc_cnd .eq (kp_b (fu_in a 0 (B 0).toInt)).toInt 0 then 33 else 8)) (L' := [(0, .inr (.inr (.inl (some 259)))), (1, .inl (a)), (2, .inl (b)), (3, .inl (c))]) (S' := []) (h' := h) (by with_unfolding_all rfl) ?_
  cases e1 : fu_in a 0 (B 0).toInt with
  | false =>
    rw [if_pos (kx_b0.mpr rfl)]
    refine kx_go 1 (pc' := 35) (L' := [(0, .inr (.inr (.inl (some 259)))), (1, .inl (a)), (2, .inl (b)), (3, .inl (c))]) (S' := [.inl (Int32.ofInt (-2))]) (h' := h) (by with_unfolding_all rfl) ?_
    have key : fu_way B a b c = (Int32.ofInt (-2), []) := by unfold fu_way; rw [if_neg (by simp [e1])]
    exact kc_ret_ok rfl (rv := some (.inl (Int32.ofInt (-2)))) rfl ⟨fu_e1 key, fu_er key⟩
  | true =>
    rw [if_neg (fun q => by have := kx_b0.mp q; cases this)]
    refine kx_go 2 (pc' := 10) (L' := [(0, .inr (.inr (.inl (some 259)))), (1, .inl (a)), (2, .inl (b)), (3, .inl (c))]) (S' := [.inl (b), .inr (.inr (.inl (some 259)))]) (h' := h) (by with_unfolding_all rfl) ?_
    refine kc_call_rule (M2 := wk_m21) (av := [.inr (.inr (.inl (some 259))), .inl (b)]) (r := []) rfl rfl (kc_Con_le (fu_r21 (d := 0) hg hw hC) (by omega)) (fun rv h2 hq => ?_)
    obtain ⟨rfl, e⟩ := hq
    rw [e]
    clear e
    show kc_Ev g (d + 2) wk_m20 _ 13 [(0, .inr (.inr (.inl (some 259)))), (1, .inl (a)), (2, .inl (b)), (3, .inl (c))] [.inl (kp_b (fu_in b 0 (B 0).toInt))] h
    refine kx_go 1 (pc' := (if kc_cnd .eq (kp_b (fu_in b 0 (B 0).toInt)).toInt 0 then 33 else 16)) (L' := [(0, .inr (.inr (.inl (some 259)))), (1, .inl (a)), (2, .inl (b)), (3, .inl (c))]) (S' := []) (h' := h) (by with_unfolding_all rfl) ?_
    cases e2 : fu_in b 0 (B 0).toInt with
    | false =>
      rw [if_pos (kx_b0.mpr rfl)]
      refine kx_go 1 (pc' := 35) (L' := [(0, .inr (.inr (.inl (some 259)))), (1, .inl (a)), (2, .inl (b)), (3, .inl (c))]) (S' := [.inl (Int32.ofInt (-2))]) (h' := h) (by with_unfolding_all rfl) ?_
      have key : fu_way B a b c = (Int32.ofInt (-2), []) := by unfold fu_way; rw [if_neg (by simp [e1, e2])]
      exact kc_ret_ok rfl (rv := some (.inl (Int32.ofInt (-2)))) rfl ⟨fu_e1 key, fu_er key⟩
    | true =>
      rw [if_neg (fun q => by have := kx_b0.mp q; cases this)]
      refine kx_go 3 (pc' := (if kc_cnd .eq (a).toInt (b).toInt then 33 else 21)) (L' := [(0, .inr (.inr (.inl (some 259)))), (1, .inl (a)), (2, .inl (b)), (3, .inl (c))]) (S' := []) (h' := h) (by with_unfolding_all rfl) ?_
      by_cases e3 : a.toInt = b.toInt
      · rw [if_pos (fu_ieq.mpr e3)]
        refine kx_go 1 (pc' := 35) (L' := [(0, .inr (.inr (.inl (some 259)))), (1, .inl (a)), (2, .inl (b)), (3, .inl (c))]) (S' := [.inl (Int32.ofInt (-2))]) (h' := h) (by with_unfolding_all rfl) ?_
        have key : fu_way B a b c = (Int32.ofInt (-2), []) := by unfold fu_way; rw [if_neg (by simp [e1, e2, e3])]
        exact kc_ret_ok rfl (rv := some (.inl (Int32.ofInt (-2)))) rfl ⟨fu_e1 key, fu_er key⟩
      · rw [if_neg (fun q => e3 (fu_ieq.mp q))]
        refine kx_go 4 (pc' := 27) (L' := [(0, .inr (.inr (.inl (some 259)))), (1, .inl (a)), (2, .inl (b)), (3, .inl (c))]) (S' := [.inr (.inl (Int64.ofNat 99)), .inr (.inl (Int64.ofNat 1)), .inr (.inl (c.toInt64))]) (h' := h) (by with_unfolding_all rfl) ?_
        refine kc_call_rule (M2 := wk_m22) (av := [.inr (.inl (c.toInt64)), .inr (.inl (Int64.ofNat 1)), .inr (.inl (Int64.ofNat 99))]) (r := []) rfl rfl (kc_Con_le (fu_li (d := 0) (lo := 1) (hi := 99) hg (by decide) (by decide)) (by omega)) (fun rv h2 hq => ?_)
        obtain ⟨rfl, e⟩ := hq
        rw [e]
        clear e
        show kc_Ev g (d + 2) wk_m20 _ 30 [(0, .inr (.inr (.inl (some 259)))), (1, .inl (a)), (2, .inl (b)), (3, .inl (c))] [.inl (kp_b (fu_in c 1 99))] h
        refine kx_go 1 (pc' := (if kc_cnd .ne (kp_b (fu_in c 1 99)).toInt 0 then 36 else 33)) (L' := [(0, .inr (.inr (.inl (some 259)))), (1, .inl (a)), (2, .inl (b)), (3, .inl (c))]) (S' := []) (h' := h) (by with_unfolding_all rfl) ?_
        cases e4 : fu_in c 1 99 with
        | false =>
          rw [if_neg (fun q => by have := kx_b1.mp q; cases this)]
          refine kx_go 1 (pc' := 35) (L' := [(0, .inr (.inr (.inl (some 259)))), (1, .inl (a)), (2, .inl (b)), (3, .inl (c))]) (S' := [.inl (Int32.ofInt (-2))]) (h' := h) (by with_unfolding_all rfl) ?_
          have key : fu_way B a b c = (Int32.ofInt (-2), []) := by unfold fu_way; rw [if_neg (by simp [e1, e2, e3, e4])]
          exact kc_ret_ok rfl (rv := some (.inl (Int32.ofInt (-2)))) rfl ⟨fu_e1 key, fu_er key⟩
        | true =>
          rw [if_pos (kx_b1.mpr rfl)]
          have q1 := e1
          have q2 := e2
          rw [eD, kx_ti (by omega)] at q1 q2
          obtain ⟨x, x5, rfl, -⟩ := fu_in_n (u := 5) q1 (by omega) (by omega)
          obtain ⟨y, y5, rfl, -⟩ := fu_in_n (u := 5) q2 (by omega) (by omega)
          have hx : x < 6 := by omega
          have hy : y < 6 := by omega
          have hxy : ¬ x = y := fun q => e3 (by rw [q])
          refine kx_go 10 (pc' := 48) (L' := [(0, .inr (.inr (.inl (some 259)))), (1, .inl (Int32.ofNat x)), (2, .inl (Int32.ofNat y)), (3, .inl (c))]) (S' := [.inr (.inl (c.toInt64)), .inl (((Int32.ofNat 10) + ((Int32.ofNat 6) * (Int32.ofNat y))) + (Int32.ofNat x)), .inr (.inr (.inl (some 259)))]) (h' := h) (by with_unfolding_all rfl) ?_
          rw [kx_mul, kx_add, kx_add]
          refine kc_call_rule (M2 := wk_m31) (av := [.inr (.inr (.inl (some 259))), .inl (Int32.ofNat (10 + 6 * y + x)), .inr (.inl (c.toInt64))]) (r := []) rfl rfl (kc_Con_le (fu_rs (d := 0) (w := B (10 + 6 * y + x)) (u := c) hg (kx_ofr (hw _ _ _ kz_k.1)) (by omega) (hC (10 + 6 * y + x) (by omega) (fu_fmi y hy x hx).2.1) (fu_back _)) (by omega)) (fun rv h2 hq => ?_)
          obtain ⟨rfl, e⟩ := hq
          rw [e]
          clear e
          show kc_Ev g (d + 2) wk_m20 _ 51 [(0, .inr (.inr (.inl (some 259)))), (1, .inl (Int32.ofNat x)), (2, .inl (Int32.ofNat y)), (3, .inl (c))] [.inl (B (10 + 6 * y + x))] (kc_upd h 260 (10 + 6 * y + x) (.inl (c)))
          refine kx_go 11 (pc' := 64) (L' := [(0, .inr (.inr (.inl (some 259)))), (1, .inl (Int32.ofNat x)), (2, .inl (Int32.ofNat y)), (3, .inl (c))]) (S' := [.inr (.inl (c.toInt64)), .inl (((Int32.ofNat 10) + ((Int32.ofNat 6) * (Int32.ofNat x))) + (Int32.ofNat y)), .inr (.inr (.inl (some 259)))]) (h' := (kc_upd h 260 (10 + 6 * y + x) (.inl (c)))) (by with_unfolding_all rfl) ?_
          rw [kx_mul, kx_add, kx_add]
          refine kc_call_rule (M2 := wk_m31) (av := [.inr (.inr (.inl (some 259))), .inl (Int32.ofNat (10 + 6 * x + y)), .inr (.inl (c.toInt64))]) (r := []) rfl rfl (kc_Con_le (fu_rs (d := 0) (w := B (10 + 6 * x + y)) (u := c) hg ((fu_ne (by omega)).trans (kx_ofr (hw _ _ _ kz_k.1))) (by omega) ((fu_ne (by omega)).trans (hC (10 + 6 * x + y) (by omega) (fu_fmi x hx y hy).2.1)) (fu_back _)) (by omega)) (fun rv h2 hq => ?_)
          obtain ⟨rfl, e⟩ := hq
          rw [e]
          clear e
          show kc_Ev g (d + 2) wk_m20 _ 67 [(0, .inr (.inr (.inl (some 259)))), (1, .inl (Int32.ofNat x)), (2, .inl (Int32.ofNat y)), (3, .inl (c))] [.inl (B (10 + 6 * x + y))] (kc_upd (kc_upd h 260 (10 + 6 * y + x) (.inl (c))) 260 (10 + 6 * x + y) (.inl (c)))
          have key : fu_way B (Int32.ofNat x) (Int32.ofNat y) c = (B (10 + 6 * x + y), [(10 + 6 * x + y, c), (10 + 6 * y + x, c)]) := by unfold fu_way; rw [if_pos (by rw [e1, e2, e4, decide_eq_false e3]; rfl), fu_tn (by omega), fu_tn (by omega)]
          exact kc_ret_ok rfl (rv := some (.inl (B (10 + 6 * x + y)))) rfl ⟨fu_e1 key, fu_cm.trans (fu_er (h := h) key)⟩
set_option maxRecDepth 20000 in
theorem fu_rford {g : kc_G} {d : Nat} {h : kc_H} {B : Nat → Int32} {a : Int32} (hg : kc_ok g) (hw : kd_wt kd_ty h) (hC : fu_B B h) (hB : fu_BT B) : kc_Con g (d + 3) 26 [.inr (.inr (.inl (some 259))), .inl a] h (fun rv h' => rv = some (.inl (fu_ford B a).1) ∧ h' = fu_rw (fu_ford B a).2 h) := by
  refine kc_Con_new hg (M := wk_m26) rfl rfl rfl (show 2 ≤ 2 by decide) ?_
  obtain ⟨D, D5, eD⟩ := fu_n0 hB
  refine kx_go 2 (pc' := 2) (L' := [(0, .inr (.inr (.inl (some 259)))), (1, .inl (a))]) (S' := [.inl (a), .inr (.inr (.inl (some 259)))]) (h' := h) (by with_unfolding_all rfl) ?_
  refine kc_call_rule (M2 := wk_m27) (av := [.inr (.inr (.inl (some 259))), .inl (a)]) (r := []) rfl rfl (kc_Con_le (fu_r27 (d := 0) hg hw hC) (by omega)) (fun rv h2 hq => ?_)
  obtain ⟨rfl, e⟩ := hq
  rw [e]
  clear e
  show kc_Ev g (d + 2) wk_m26 _ 5 [(0, .inr (.inr (.inl (some 259)))), (1, .inl (a))] [.inl (kp_b (fu_in a 1 (B 0).toInt))] h
  refine kx_go 1 (pc' := (if kc_cnd .ne (kp_b (fu_in a 1 (B 0).toInt)).toInt 0 then 11 else 8)) (L' := [(0, .inr (.inr (.inl (some 259)))), (1, .inl (a))]) (S' := []) (h' := h) (by with_unfolding_all rfl) ?_
  cases e1 : fu_in a 1 (B 0).toInt with
  | false =>
    rw [if_neg (fun q => by have := kx_b1.mp q; cases this)]
    refine kx_go 1 (pc' := 10) (L' := [(0, .inr (.inr (.inl (some 259)))), (1, .inl (a))]) (S' := [.inl (Int32.ofInt (-2))]) (h' := h) (by with_unfolding_all rfl) ?_
    have key : fu_ford B a = (Int32.ofInt (-2), []) := by unfold fu_ford; rw [if_neg (by simp [e1])]
    exact kc_ret_ok rfl (rv := some (.inl (Int32.ofInt (-2)))) rfl ⟨fu_e1 key, fu_er key⟩
  | true =>
    rw [if_pos (kx_b1.mpr rfl)]
    have q1 := e1
    rw [eD, kx_ti (by omega)] at q1
    obtain ⟨x, x5, rfl, -⟩ := fu_in_n (u := 5) q1 (by omega) (by omega)
    have hx : x < 6 := by omega
    refine kx_go 1 (pc' := 12) (L' := [(0, .inr (.inr (.inl (some 259)))), (1, .inl (Int32.ofNat x))]) (S' := [.inr (.inr (.inl (some 259)))]) (h' := h) (by with_unfolding_all rfl) ?_
    refine kx_getf (c := 259) (v := .inr (.inr (.inl (some 260)))) rfl (by decide) (kx_ofr (hw _ _ _ kz_k.1)) ?_
    refine kx_go 3 (pc' := 19) (L' := [(0, .inr (.inr (.inl (some 259)))), (1, .inl (Int32.ofNat x))]) (S' := [.inl ((Int32.ofNat 46) + (Int32.ofNat x)), .inr (.inr (.inl (some 260)))]) (h' := h) (by with_unfolding_all rfl) ?_
    rw [kx_add]
    refine kx_iald (c := 260) (j := (46 + x)) (m := 650) (v := .inl (B (46 + x))) rfl rfl (by decide) (by decide) (by omega) (hC (46 + x) (by omega) (fu_ffo x hx).2.1) ?_
    refine kx_go 2 (pc' := (if kc_cnd .ne (B (46 + x)).toInt (Int32.ofNat 1).toInt then 27 else 24)) (L' := [(0, .inr (.inr (.inl (some 259)))), (1, .inl (Int32.ofNat x))]) (S' := []) (h' := h) (by with_unfolding_all rfl) ?_
    by_cases e2 : (B (46 + x)).toInt = 1
    · rw [if_neg (fun q => fu_ine.mp q (e2.trans (by decide)))]
      refine kx_go 1 (pc' := 26) (L' := [(0, .inr (.inr (.inl (some 259)))), (1, .inl (Int32.ofNat x))]) (S' := [.inl (Int32.ofInt (-3))]) (h' := h) (by with_unfolding_all rfl) ?_
      have key : fu_ford B (Int32.ofNat x) = (Int32.ofInt (-3), []) := by unfold fu_ford; rw [if_pos e1, fu_tn (by omega), if_pos e2]
      exact kc_ret_ok rfl (rv := some (.inl (Int32.ofInt (-3)))) rfl ⟨fu_e1 key, fu_er key⟩
    · rw [if_pos (fu_ine.mpr (fun q => e2 (q.trans (by decide))))]
      refine kx_go 1 (pc' := 28) (L' := [(0, .inr (.inr (.inl (some 259)))), (1, .inl (Int32.ofNat x))]) (S' := [.inr (.inr (.inl (some 259)))]) (h' := h) (by with_unfolding_all rfl) ?_
      refine kx_getf (c := 259) (v := .inr (.inr (.inl (some 260)))) rfl (by decide) (kx_ofr (hw _ _ _ kz_k.1)) ?_
      refine kx_go 4 (pc' := 36) (L' := [(0, .inr (.inr (.inl (some 259)))), (1, .inl (Int32.ofNat x))]) (S' := [.inl (Int32.ofNat 1), .inl ((Int32.ofNat 46) + (Int32.ofNat x)), .inr (.inr (.inl (some 260)))]) (h' := h) (by with_unfolding_all rfl) ?_
      rw [kx_add]
      refine kx_iast (c := 260) (j := (46 + x)) (m := 650) rfl rfl (by decide) (by decide) (by omega) ?_
      refine kx_go 1 (pc' := 38) (L' := [(0, .inr (.inr (.inl (some 259)))), (1, .inl (Int32.ofNat x))]) (S' := [.inl (Int32.ofNat 1)]) (h' := (kc_upd h 260 (46 + x) (.inl (Int32.ofNat 1)))) (by with_unfolding_all rfl) ?_
      have key : fu_ford B (Int32.ofNat x) = (Int32.ofNat 1, [(46 + x, Int32.ofNat 1)]) := by unfold fu_ford; rw [if_pos e1, fu_tn (by omega), if_neg e2]
      exact kc_ret_ok rfl (rv := some (.inl (Int32.ofNat 1))) rfl ⟨fu_e1 key, fu_er (h := h) key⟩
set_option maxRecDepth 20000 in
theorem fu_rstones {g : kc_G} {d : Nat} {h : kc_H} {B : Nat → Int32} {a b : Int32} (hg : kc_ok g) (hw : kd_wt kd_ty h) (hC : fu_B B h) (hB : fu_BT B) : kc_Con g (d + 3) 30 [.inr (.inr (.inl (some 259))), .inl a, .inl b] h (fun rv h' => rv = some (.inl (fu_stones B a b).1) ∧ h' = fu_rw (fu_stones B a b).2 h) := by
  refine kc_Con_new hg (M := wk_m30) rfl rfl rfl (show 3 ≤ 3 by decide) ?_
  obtain ⟨D, D5, eD⟩ := fu_n0 hB
  refine kx_go 2 (pc' := 2) (L' := [(0, .inr (.inr (.inl (some 259)))), (1, .inl (a)), (2, .inl (b))]) (S' := [.inl (a), .inr (.inr (.inl (some 259)))]) (h' := h) (by with_unfolding_all rfl) ?_
  refine kc_call_rule (M2 := wk_m21) (av := [.inr (.inr (.inl (some 259))), .inl (a)]) (r := []) rfl rfl (kc_Con_le (fu_r21 (d := 0) hg hw hC) (by omega)) (fun rv h2 hq => ?_)
  obtain ⟨rfl, e⟩ := hq
  rw [e]
  clear e
  show kc_Ev g (d + 2) wk_m30 _ 5 [(0, .inr (.inr (.inl (some 259)))), (1, .inl (a)), (2, .inl (b))] [.inl (kp_b (fu_in a 0 (B 0).toInt))] h
  refine kx_go 1 (pc' := (if kc_cnd .eq (kp_b (fu_in a 0 (B 0).toInt)).toInt 0 then 33 else 8)) (L' := [(0, .inr (.inr (.inl (some 259)))), (1, .inl (a)), (2, .inl (b))]) (S' := []) (h' := h) (by with_unfolding_all rfl) ?_
  cases e1 : fu_in a 0 (B 0).toInt with
  | false =>
    rw [if_pos (kx_b0.mpr rfl)]
    refine kx_go 1 (pc' := 35) (L' := [(0, .inr (.inr (.inl (some 259)))), (1, .inl (a)), (2, .inl (b))]) (S' := [.inl (Int32.ofInt (-2))]) (h' := h) (by with_unfolding_all rfl) ?_
    have key : fu_stones B a b = (Int32.ofInt (-2), []) := by unfold fu_stones; rw [if_neg (by simp [e1])]
    exact kc_ret_ok rfl (rv := some (.inl (Int32.ofInt (-2)))) rfl ⟨fu_e1 key, fu_er key⟩
  | true =>
    rw [if_neg (fun q => by have := kx_b0.mp q; cases this)]
    refine kx_go 4 (pc' := 14) (L' := [(0, .inr (.inr (.inl (some 259)))), (1, .inl (a)), (2, .inl (b))]) (S' := [.inr (.inl (Int64.ofNat 9)), .inr (.inl (Int64.ofNat 0)), .inr (.inl (b.toInt64))]) (h' := h) (by with_unfolding_all rfl) ?_
    refine kc_call_rule (M2 := wk_m22) (av := [.inr (.inl (b.toInt64)), .inr (.inl (Int64.ofNat 0)), .inr (.inl (Int64.ofNat 9))]) (r := []) rfl rfl (kc_Con_le (fu_li (d := 0) (lo := 0) (hi := 9) hg (by decide) (by decide)) (by omega)) (fun rv h2 hq => ?_)
    obtain ⟨rfl, e⟩ := hq
    rw [e]
    clear e
    show kc_Ev g (d + 2) wk_m30 _ 17 [(0, .inr (.inr (.inl (some 259)))), (1, .inl (a)), (2, .inl (b))] [.inl (kp_b (fu_in b 0 9))] h
    refine kx_go 1 (pc' := (if kc_cnd .eq (kp_b (fu_in b 0 9)).toInt 0 then 33 else 20)) (L' := [(0, .inr (.inr (.inl (some 259)))), (1, .inl (a)), (2, .inl (b))]) (S' := []) (h' := h) (by with_unfolding_all rfl) ?_
    cases e2 : fu_in b 0 9 with
    | false =>
      rw [if_pos (kx_b0.mpr rfl)]
      refine kx_go 1 (pc' := 35) (L' := [(0, .inr (.inr (.inl (some 259)))), (1, .inl (a)), (2, .inl (b))]) (S' := [.inl (Int32.ofInt (-2))]) (h' := h) (by with_unfolding_all rfl) ?_
      have key : fu_stones B a b = (Int32.ofInt (-2), []) := by unfold fu_stones; rw [if_neg (by simp [e1, e2])]
      exact kc_ret_ok rfl (rv := some (.inl (Int32.ofInt (-2)))) rfl ⟨fu_e1 key, fu_er key⟩
    | true =>
      rw [if_neg (fun q => by have := kx_b0.mp q; cases this)]
      have q1 := e1
      rw [eD, kx_ti (by omega)] at q1
      obtain ⟨x, x5, rfl, -⟩ := fu_in_n (u := 5) q1 (by omega) (by omega)
      have hx : x < 6 := by omega
      refine kx_go 6 (pc' := 27) (L' := [(0, .inr (.inr (.inl (some 259)))), (1, .inl (Int32.ofNat x)), (2, .inl (b))]) (S' := [.inr (.inl (b.toInt64)), .inl ((Int32.ofNat 52) + (Int32.ofNat x)), .inr (.inr (.inl (some 259)))]) (h' := h) (by with_unfolding_all rfl) ?_
      rw [kx_add]
      refine kc_call_rule (M2 := wk_m31) (av := [.inr (.inr (.inl (some 259))), .inl (Int32.ofNat (52 + x)), .inr (.inl (b.toInt64))]) (r := []) rfl rfl (kc_Con_le (fu_rs (d := 0) (w := B (52 + x)) (u := b) hg (kx_ofr (hw _ _ _ kz_k.1)) (by omega) (hC (52 + x) (by omega) (fu_fst x hx).2.1) (fu_back _)) (by omega)) (fun rv h2 hq => ?_)
      obtain ⟨rfl, e⟩ := hq
      rw [e]
      clear e
      show kc_Ev g (d + 2) wk_m30 _ 30 [(0, .inr (.inr (.inl (some 259)))), (1, .inl (Int32.ofNat x)), (2, .inl (b))] [.inl (B (52 + x))] (kc_upd h 260 (52 + x) (.inl (b)))
      refine kx_go 1 (pc' := 35) (L' := [(0, .inr (.inr (.inl (some 259)))), (1, .inl (Int32.ofNat x)), (2, .inl (b))]) (S' := [.inl (B (52 + x))]) (h' := (kc_upd h 260 (52 + x) (.inl (b)))) (by with_unfolding_all rfl) ?_
      have key : fu_stones B (Int32.ofNat x) b = (B (52 + x), [(52 + x, b)]) := by unfold fu_stones; rw [if_pos (by rw [e1, e2]; rfl), fu_tn (by omega)]
      exact kc_ret_ok rfl (rv := some (.inl (B (52 + x)))) rfl ⟨fu_e1 key, fu_er (h := h) key⟩
set_option maxRecDepth 20000 in
theorem fu_rlame {g : kc_G} {d : Nat} {h : kc_H} {B : Nat → Int32} {a b c : Int32} (hg : kc_ok g) (hw : kd_wt kd_ty h) (hC : fu_B B h) (hB : fu_BT B) : kc_Con g (d + 3) 39 [.inr (.inr (.inl (some 259))), .inl a, .inl b, .inl c] h (fun rv h' => rv = some (.inl (fu_lame B a b c).1) ∧ h' = fu_rw (fu_lame B a b c).2 h) := by
  refine kc_Con_new hg (M := wk_m39) rfl rfl rfl (show 4 ≤ 4 by decide) ?_
  obtain ⟨K, K1, eK⟩ := fu_n1 hB
  refine kx_go 2 (pc' := 2) (L' := [(0, .inr (.inr (.inl (some 259)))), (1, .inl (a)), (2, .inl (b)), (3, .inl (c))]) (S' := [.inl (a), .inr (.inr (.inl (some 259)))]) (h' := h) (by with_unfolding_all rfl) ?_
  refine kc_call_rule (M2 := wk_m40) (av := [.inr (.inr (.inl (some 259))), .inl (a)]) (r := []) rfl rfl (kc_Con_le (fu_r40 (d := 0) hg hw hC hB) (by omega)) (fun rv h2 hq => ?_)
  obtain ⟨rfl, e⟩ := hq
  rw [e]
  clear e
  show kc_Ev g (d + 2) wk_m39 _ 5 [(0, .inr (.inr (.inl (some 259)))), (1, .inl (a)), (2, .inl (b)), (3, .inl (c))] [.inl (kp_b (fu_in a 0 ((B 1).toInt - 1)))] h
  refine kx_go 1 (pc' := (if kc_cnd .eq (kp_b (fu_in a 0 ((B 1).toInt - 1))).toInt 0 then 46 else 8)) (L' := [(0, .inr (.inr (.inl (some 259)))), (1, .inl (a)), (2, .inl (b)), (3, .inl (c))]) (S' := []) (h' := h) (by with_unfolding_all rfl) ?_
  cases e1 : fu_in a 0 ((B 1).toInt - 1) with
  | false =>
    rw [if_pos (kx_b0.mpr rfl)]
    refine kx_go 1 (pc' := 48) (L' := [(0, .inr (.inr (.inl (some 259)))), (1, .inl (a)), (2, .inl (b)), (3, .inl (c))]) (S' := [.inl (Int32.ofInt (-2))]) (h' := h) (by with_unfolding_all rfl) ?_
    have key : fu_lame B a b c = (Int32.ofInt (-2), []) := by unfold fu_lame; rw [if_neg (by simp [e1])]
    exact kc_ret_ok rfl (rv := some (.inl (Int32.ofInt (-2)))) rfl ⟨fu_e1 key, fu_er key⟩
  | true =>
    rw [if_neg (fun q => by have := kx_b0.mp q; cases this)]
    refine kx_go 1 (pc' := 9) (L' := [(0, .inr (.inr (.inl (some 259)))), (1, .inl (a)), (2, .inl (b)), (3, .inl (c))]) (S' := [.inl (b)]) (h' := h) (by with_unfolding_all rfl) ?_
    refine kc_call_rule (M2 := wk_m231) (av := [.inl (b)]) (r := []) rfl rfl (kc_Con_le (fu_r231 (d := 0) hg) (by omega)) (fun rv h2 hq => ?_)
    obtain ⟨rfl, e⟩ := hq
    rw [e]
    clear e
    show kc_Ev g (d + 2) wk_m39 _ 12 [(0, .inr (.inr (.inl (some 259)))), (1, .inl (a)), (2, .inl (b)), (3, .inl (c))] [.inl (kp_b (fu_in b 0 1))] h
    refine kx_go 1 (pc' := (if kc_cnd .eq (kp_b (fu_in b 0 1)).toInt 0 then 46 else 15)) (L' := [(0, .inr (.inr (.inl (some 259)))), (1, .inl (a)), (2, .inl (b)), (3, .inl (c))]) (S' := []) (h' := h) (by with_unfolding_all rfl) ?_
    cases e3 : fu_in b 0 1 with
    | false =>
      rw [if_pos (kx_b0.mpr rfl)]
      refine kx_go 1 (pc' := 48) (L' := [(0, .inr (.inr (.inl (some 259)))), (1, .inl (a)), (2, .inl (b)), (3, .inl (c))]) (S' := [.inl (Int32.ofInt (-2))]) (h' := h) (by with_unfolding_all rfl) ?_
      have key : fu_lame B a b c = (Int32.ofInt (-2), []) := by unfold fu_lame; rw [if_neg (by simp [e1, e3])]
      exact kc_ret_ok rfl (rv := some (.inl (Int32.ofInt (-2)))) rfl ⟨fu_e1 key, fu_er key⟩
    | true =>
      rw [if_neg (fun q => by have := kx_b0.mp q; cases this)]
      refine kx_go 4 (pc' := 21) (L' := [(0, .inr (.inr (.inl (some 259)))), (1, .inl (a)), (2, .inl (b)), (3, .inl (c))]) (S' := [.inr (.inl (Int64.ofNat 999)), .inr (.inl (Int64.ofNat 0)), .inr (.inl (c.toInt64))]) (h' := h) (by with_unfolding_all rfl) ?_
      refine kc_call_rule (M2 := wk_m22) (av := [.inr (.inl (c.toInt64)), .inr (.inl (Int64.ofNat 0)), .inr (.inl (Int64.ofNat 999))]) (r := []) rfl rfl (kc_Con_le (fu_li (d := 0) (lo := 0) (hi := 999) hg (by decide) (by decide)) (by omega)) (fun rv h2 hq => ?_)
      obtain ⟨rfl, e⟩ := hq
      rw [e]
      clear e
      show kc_Ev g (d + 2) wk_m39 _ 24 [(0, .inr (.inr (.inl (some 259)))), (1, .inl (a)), (2, .inl (b)), (3, .inl (c))] [.inl (kp_b (fu_in c 0 999))] h
      refine kx_go 1 (pc' := (if kc_cnd .eq (kp_b (fu_in c 0 999)).toInt 0 then 46 else 27)) (L' := [(0, .inr (.inr (.inl (some 259)))), (1, .inl (a)), (2, .inl (b)), (3, .inl (c))]) (S' := []) (h' := h) (by with_unfolding_all rfl) ?_
      cases e2 : fu_in c 0 999 with
      | false =>
        rw [if_pos (kx_b0.mpr rfl)]
        refine kx_go 1 (pc' := 48) (L' := [(0, .inr (.inr (.inl (some 259)))), (1, .inl (a)), (2, .inl (b)), (3, .inl (c))]) (S' := [.inl (Int32.ofInt (-2))]) (h' := h) (by with_unfolding_all rfl) ?_
        have key : fu_lame B a b c = (Int32.ofInt (-2), []) := by unfold fu_lame; rw [if_neg (by simp [e1, e2, e3])]
        exact kc_ret_ok rfl (rv := some (.inl (Int32.ofInt (-2)))) rfl ⟨fu_e1 key, fu_er key⟩
      | true =>
        rw [if_neg (fun q => by have := kx_b0.mp q; cases this)]
        have q1 := e1
        rw [eK, kx_ti (by omega)] at q1
        obtain ⟨x, x5, rfl, x6, x7⟩ := fu_in_n (u := 3) q1 (by omega) (by omega)
        obtain ⟨y, y1, rfl, -⟩ := fu_in_n (u := 1) e3 (by omega) (by omega)
        have hx : x < 3 := by omega
        refine kx_go 12 (pc' := 40) (L' := [(0, .inr (.inr (.inl (some 259)))), (1, .inl (Int32.ofNat x)), (2, .inl (Int32.ofNat y)), (3, .inl (c))]) (S' := [.inr (.inl (c.toInt64)), .inl ((((Int32.ofNat 60) + ((Int32.ofNat 5) * (Int32.ofNat x))) + (Int32.ofNat 3)) + (Int32.ofNat y)), .inr (.inr (.inl (some 259)))]) (h' := h) (by with_unfolding_all rfl) ?_
        rw [kx_mul, kx_add, kx_add, kx_add]
        rw [Nat.add_assoc (60 + 5 * x) 3 y]
        refine kc_call_rule (M2 := wk_m31) (av := [.inr (.inr (.inl (some 259))), .inl (Int32.ofNat (60 + 5 * x + (3 + y))), .inr (.inl (c.toInt64))]) (r := []) rfl rfl (kc_Con_le (fu_rs (d := 0) (w := B (60 + 5 * x + (3 + y))) (u := c) hg (kx_ofr (hw _ _ _ kz_k.1)) (by omega) (hC (60 + 5 * x + (3 + y)) (by omega) ((fu_fmu x hx).1 (3 + y) (by omega)).2) (fu_back _)) (by omega)) (fun rv h2 hq => ?_)
        obtain ⟨rfl, e⟩ := hq
        rw [e]
        clear e
        show kc_Ev g (d + 2) wk_m39 _ 43 [(0, .inr (.inr (.inl (some 259)))), (1, .inl (Int32.ofNat x)), (2, .inl (Int32.ofNat y)), (3, .inl (c))] [.inl (B (60 + 5 * x + (3 + y)))] (kc_upd h 260 (60 + 5 * x + (3 + y)) (.inl (c)))
        refine kx_go 1 (pc' := 48) (L' := [(0, .inr (.inr (.inl (some 259)))), (1, .inl (Int32.ofNat x)), (2, .inl (Int32.ofNat y)), (3, .inl (c))]) (S' := [.inl (B (60 + 5 * x + (3 + y)))]) (h' := (kc_upd h 260 (60 + 5 * x + (3 + y)) (.inl (c)))) (by with_unfolding_all rfl) ?_
        have key : fu_lame B (Int32.ofNat x) (Int32.ofNat y) c = (B (60 + 5 * x + (3 + y)), [(60 + 5 * x + (3 + y), c)]) := by unfold fu_lame; rw [if_pos (by rw [e1, e2, e3]; rfl), fu_tn (by omega), fu_tn (by omega)]
        exact kc_ret_ok rfl (rv := some (.inl (B (60 + 5 * x + (3 + y))))) rfl ⟨fu_e1 key, fu_er (h := h) key⟩
set_option maxRecDepth 20000 in
theorem fu_rask {g : kc_G} {d : Nat} {h : kc_H} {B : Nat → Int32} {a b : Int32} (hg : kc_ok g) (hw : kd_wt kd_ty h) (hC : fu_B B h) (hB : fu_BT B) : kc_Con g (d + 3) 47 [.inr (.inr (.inl (some 259))), .inl a, .inl b] h (fun rv h' => rv = some (.inl (fu_ofl B 4 100 a b).1) ∧ h' = fu_rw (fu_ofl B 4 100 a b).2 h) := by
  refine kc_Con_new hg (M := wk_m47) rfl rfl rfl (show 3 ≤ 3 by decide) ?_
  obtain ⟨K, K1, eK⟩ := fu_n2 hB
  refine kx_go 2 (pc' := 2) (L' := [(0, .inr (.inr (.inl (some 259)))), (1, .inl (a)), (2, .inl (b))]) (S' := [.inl (a), .inr (.inr (.inl (some 259)))]) (h' := h) (by with_unfolding_all rfl) ?_
  refine kc_call_rule (M2 := wk_m48) (av := [.inr (.inr (.inl (some 259))), .inl (a)]) (r := []) rfl rfl (kc_Con_le (fu_r48 (d := 0) hg hw hC hB) (by omega)) (fun rv h2 hq => ?_)
  obtain ⟨rfl, e⟩ := hq
  rw [e]
  clear e
  show kc_Ev g (d + 2) wk_m47 _ 5 [(0, .inr (.inr (.inl (some 259)))), (1, .inl (a)), (2, .inl (b))] [.inl (kp_b (fu_in a 0 ((B 2).toInt - 1)))] h
  refine kx_go 1 (pc' := (if kc_cnd .eq (kp_b (fu_in a 0 ((B 2).toInt - 1))).toInt 0 then 38 else 8)) (L' := [(0, .inr (.inr (.inl (some 259)))), (1, .inl (a)), (2, .inl (b))]) (S' := []) (h' := h) (by with_unfolding_all rfl) ?_
  cases e1 : fu_in a 0 ((B 2).toInt - 1) with
  | false =>
    rw [if_pos (kx_b0.mpr rfl)]
    refine kx_go 1 (pc' := 40) (L' := [(0, .inr (.inr (.inl (some 259)))), (1, .inl (a)), (2, .inl (b))]) (S' := [.inl (Int32.ofInt (-2))]) (h' := h) (by with_unfolding_all rfl) ?_
    have key : fu_ofl B 4 100 a b = (Int32.ofInt (-2), []) := by unfold fu_ofl; rw [if_neg (by simp [e1])]
    exact kc_ret_ok rfl (rv := some (.inl (Int32.ofInt (-2)))) rfl ⟨fu_e1 key, fu_er key⟩
  | true =>
    rw [if_neg (fun q => by have := kx_b0.mp q; cases this)]
    refine kx_go 4 (pc' := 14) (L' := [(0, .inr (.inr (.inl (some 259)))), (1, .inl (a)), (2, .inl (b))]) (S' := [.inr (.inl (Int64.ofNat 100)), .inr (.inl (Int64.ofNat 0)), .inr (.inl (b.toInt64))]) (h' := h) (by with_unfolding_all rfl) ?_
    refine kc_call_rule (M2 := wk_m22) (av := [.inr (.inl (b.toInt64)), .inr (.inl (Int64.ofNat 0)), .inr (.inl (Int64.ofNat 100))]) (r := []) rfl rfl (kc_Con_le (fu_li (d := 0) (lo := 0) (hi := 100) hg (by decide) (by decide)) (by omega)) (fun rv h2 hq => ?_)
    obtain ⟨rfl, e⟩ := hq
    rw [e]
    clear e
    show kc_Ev g (d + 2) wk_m47 _ 17 [(0, .inr (.inr (.inl (some 259)))), (1, .inl (a)), (2, .inl (b))] [.inl (kp_b (fu_in b 0 100))] h
    refine kx_go 1 (pc' := (if kc_cnd .eq (kp_b (fu_in b 0 100)).toInt 0 then 38 else 20)) (L' := [(0, .inr (.inr (.inl (some 259)))), (1, .inl (a)), (2, .inl (b))]) (S' := []) (h' := h) (by with_unfolding_all rfl) ?_
    cases e2 : fu_in b 0 100 with
    | false =>
      rw [if_pos (kx_b0.mpr rfl)]
      refine kx_go 1 (pc' := 40) (L' := [(0, .inr (.inr (.inl (some 259)))), (1, .inl (a)), (2, .inl (b))]) (S' := [.inl (Int32.ofInt (-2))]) (h' := h) (by with_unfolding_all rfl) ?_
      have key : fu_ofl B 4 100 a b = (Int32.ofInt (-2), []) := by unfold fu_ofl; rw [if_neg (by simp [e1, e2])]
      exact kc_ret_ok rfl (rv := some (.inl (Int32.ofInt (-2)))) rfl ⟨fu_e1 key, fu_er key⟩
    | true =>
      rw [if_neg (fun q => by have := kx_b0.mp q; cases this)]
      have q1 := e1
      rw [eK, kx_ti (by omega)] at q1
      obtain ⟨x, x5, rfl, x6, x7⟩ := fu_in_n (u := 10) q1 (by omega) (by omega)
      have hx : x < 10 := by omega
      refine kx_go 10 (pc' := 32) (L' := [(0, .inr (.inr (.inl (some 259)))), (1, .inl (Int32.ofNat x)), (2, .inl (b))]) (S' := [.inr (.inl (b.toInt64)), .inl (((Int32.ofNat 80) + ((Int32.ofNat 7) * (Int32.ofNat x))) + (Int32.ofNat 4)), .inr (.inr (.inl (some 259)))]) (h' := h) (by with_unfolding_all rfl) ?_
      rw [kx_mul, kx_add, kx_add]
      refine kc_call_rule (M2 := wk_m31) (av := [.inr (.inr (.inl (some 259))), .inl (Int32.ofNat (80 + 7 * x + 4)), .inr (.inl (b.toInt64))]) (r := []) rfl rfl (kc_Con_le (fu_rs (d := 0) (w := B (80 + 7 * x + 4)) (u := b) hg (kx_ofr (hw _ _ _ kz_k.1)) (by omega) (hC (80 + 7 * x + 4) (by omega) (((fu_flo x hx).1 4 (by decide)).2.2 (by decide))) (fu_back _)) (by omega)) (fun rv h2 hq => ?_)
      obtain ⟨rfl, e⟩ := hq
      rw [e]
      clear e
      show kc_Ev g (d + 2) wk_m47 _ 35 [(0, .inr (.inr (.inl (some 259)))), (1, .inl (Int32.ofNat x)), (2, .inl (b))] [.inl (B (80 + 7 * x + 4))] (kc_upd h 260 (80 + 7 * x + 4) (.inl (b)))
      refine kx_go 1 (pc' := 40) (L' := [(0, .inr (.inr (.inl (some 259)))), (1, .inl (Int32.ofNat x)), (2, .inl (b))]) (S' := [.inl (B (80 + 7 * x + 4))]) (h' := (kc_upd h 260 (80 + 7 * x + 4) (.inl (b)))) (by with_unfolding_all rfl) ?_
      have key : fu_ofl B 4 100 (Int32.ofNat x) b = (B (80 + 7 * x + 4), [(80 + 7 * x + 4, b)]) := by unfold fu_ofl; rw [if_pos (by rw [e1, e2]; rfl), fu_tn (by omega)]
      exact kc_ret_ok rfl (rv := some (.inl (B (80 + 7 * x + 4)))) rfl ⟨fu_e1 key, fu_er (h := h) key⟩
set_option maxRecDepth 20000 in
theorem fu_rdrain {g : kc_G} {d : Nat} {h : kc_H} {B : Nat → Int32} {a b : Int32} (hg : kc_ok g) (hw : kd_wt kd_ty h) (hC : fu_B B h) (hB : fu_BT B) : kc_Con g (d + 3) 50 [.inr (.inr (.inl (some 259))), .inl a, .inl b] h (fun rv h' => rv = some (.inl (fu_ofl B 5 9 a b).1) ∧ h' = fu_rw (fu_ofl B 5 9 a b).2 h) := by
  refine kc_Con_new hg (M := wk_m50) rfl rfl rfl (show 3 ≤ 3 by decide) ?_
  obtain ⟨K, K1, eK⟩ := fu_n2 hB
  refine kx_go 2 (pc' := 2) (L' := [(0, .inr (.inr (.inl (some 259)))), (1, .inl (a)), (2, .inl (b))]) (S' := [.inl (a), .inr (.inr (.inl (some 259)))]) (h' := h) (by with_unfolding_all rfl) ?_
  refine kc_call_rule (M2 := wk_m48) (av := [.inr (.inr (.inl (some 259))), .inl (a)]) (r := []) rfl rfl (kc_Con_le (fu_r48 (d := 0) hg hw hC hB) (by omega)) (fun rv h2 hq => ?_)
  obtain ⟨rfl, e⟩ := hq
  rw [e]
  clear e
  show kc_Ev g (d + 2) wk_m50 _ 5 [(0, .inr (.inr (.inl (some 259)))), (1, .inl (a)), (2, .inl (b))] [.inl (kp_b (fu_in a 0 ((B 2).toInt - 1)))] h
  refine kx_go 1 (pc' := (if kc_cnd .eq (kp_b (fu_in a 0 ((B 2).toInt - 1))).toInt 0 then 38 else 8)) (L' := [(0, .inr (.inr (.inl (some 259)))), (1, .inl (a)), (2, .inl (b))]) (S' := []) (h' := h) (by with_unfolding_all rfl) ?_
  cases e1 : fu_in a 0 ((B 2).toInt - 1) with
  | false =>
    rw [if_pos (kx_b0.mpr rfl)]
    refine kx_go 1 (pc' := 40) (L' := [(0, .inr (.inr (.inl (some 259)))), (1, .inl (a)), (2, .inl (b))]) (S' := [.inl (Int32.ofInt (-2))]) (h' := h) (by with_unfolding_all rfl) ?_
    have key : fu_ofl B 5 9 a b = (Int32.ofInt (-2), []) := by unfold fu_ofl; rw [if_neg (by simp [e1])]
    exact kc_ret_ok rfl (rv := some (.inl (Int32.ofInt (-2)))) rfl ⟨fu_e1 key, fu_er key⟩
  | true =>
    rw [if_neg (fun q => by have := kx_b0.mp q; cases this)]
    refine kx_go 4 (pc' := 14) (L' := [(0, .inr (.inr (.inl (some 259)))), (1, .inl (a)), (2, .inl (b))]) (S' := [.inr (.inl (Int64.ofNat 9)), .inr (.inl (Int64.ofNat 0)), .inr (.inl (b.toInt64))]) (h' := h) (by with_unfolding_all rfl) ?_
    refine kc_call_rule (M2 := wk_m22) (av := [.inr (.inl (b.toInt64)), .inr (.inl (Int64.ofNat 0)), .inr (.inl (Int64.ofNat 9))]) (r := []) rfl rfl (kc_Con_le (fu_li (d := 0) (lo := 0) (hi := 9) hg (by decide) (by decide)) (by omega)) (fun rv h2 hq => ?_)
    obtain ⟨rfl, e⟩ := hq
    rw [e]
    clear e
    show kc_Ev g (d + 2) wk_m50 _ 17 [(0, .inr (.inr (.inl (some 259)))), (1, .inl (a)), (2, .inl (b))] [.inl (kp_b (fu_in b 0 9))] h
    refine kx_go 1 (pc' := (if kc_cnd .eq (kp_b (fu_in b 0 9)).toInt 0 then 38 else 20)) (L' := [(0, .inr (.inr (.inl (some 259)))), (1, .inl (a)), (2, .inl (b))]) (S' := []) (h' := h) (by with_unfolding_all rfl) ?_
    cases e2 : fu_in b 0 9 with
    | false =>
      rw [if_pos (kx_b0.mpr rfl)]
      refine kx_go 1 (pc' := 40) (L' := [(0, .inr (.inr (.inl (some 259)))), (1, .inl (a)), (2, .inl (b))]) (S' := [.inl (Int32.ofInt (-2))]) (h' := h) (by with_unfolding_all rfl) ?_
      have key : fu_ofl B 5 9 a b = (Int32.ofInt (-2), []) := by unfold fu_ofl; rw [if_neg (by simp [e1, e2])]
      exact kc_ret_ok rfl (rv := some (.inl (Int32.ofInt (-2)))) rfl ⟨fu_e1 key, fu_er key⟩
    | true =>
      rw [if_neg (fun q => by have := kx_b0.mp q; cases this)]
      have q1 := e1
      rw [eK, kx_ti (by omega)] at q1
      obtain ⟨x, x5, rfl, x6, x7⟩ := fu_in_n (u := 10) q1 (by omega) (by omega)
      have hx : x < 10 := by omega
      refine kx_go 10 (pc' := 32) (L' := [(0, .inr (.inr (.inl (some 259)))), (1, .inl (Int32.ofNat x)), (2, .inl (b))]) (S' := [.inr (.inl (b.toInt64)), .inl (((Int32.ofNat 80) + ((Int32.ofNat 7) * (Int32.ofNat x))) + (Int32.ofNat 5)), .inr (.inr (.inl (some 259)))]) (h' := h) (by with_unfolding_all rfl) ?_
      rw [kx_mul, kx_add, kx_add]
      refine kc_call_rule (M2 := wk_m31) (av := [.inr (.inr (.inl (some 259))), .inl (Int32.ofNat (80 + 7 * x + 5)), .inr (.inl (b.toInt64))]) (r := []) rfl rfl (kc_Con_le (fu_rs (d := 0) (w := B (80 + 7 * x + 5)) (u := b) hg (kx_ofr (hw _ _ _ kz_k.1)) (by omega) (hC (80 + 7 * x + 5) (by omega) (((fu_flo x hx).1 5 (by decide)).2.2 (by decide))) (fu_back _)) (by omega)) (fun rv h2 hq => ?_)
      obtain ⟨rfl, e⟩ := hq
      rw [e]
      clear e
      show kc_Ev g (d + 2) wk_m50 _ 35 [(0, .inr (.inr (.inl (some 259)))), (1, .inl (Int32.ofNat x)), (2, .inl (b))] [.inl (B (80 + 7 * x + 5))] (kc_upd h 260 (80 + 7 * x + 5) (.inl (b)))
      refine kx_go 1 (pc' := 40) (L' := [(0, .inr (.inr (.inl (some 259)))), (1, .inl (Int32.ofNat x)), (2, .inl (b))]) (S' := [.inl (B (80 + 7 * x + 5))]) (h' := (kc_upd h 260 (80 + 7 * x + 5) (.inl (b)))) (by with_unfolding_all rfl) ?_
      have key : fu_ofl B 5 9 (Int32.ofNat x) b = (B (80 + 7 * x + 5), [(80 + 7 * x + 5, b)]) := by unfold fu_ofl; rw [if_pos (by rw [e1, e2]; rfl), fu_tn (by omega)]
      exact kc_ret_ok rfl (rv := some (.inl (B (80 + 7 * x + 5)))) rfl ⟨fu_e1 key, fu_er (h := h) key⟩
set_option maxRecDepth 20000 in
theorem fu_rput {g : kc_G} {d : Nat} {h : kc_H} {B : Nat → Int32} {a b : Int32} (hg : kc_ok g) (hw : kd_wt kd_ty h) (hC : fu_B B h) (hB : fu_BT B) : kc_Con g (d + 2) 53 [.inr (.inr (.inl (some 259))), .inl a, .inl b] h (fun rv h' => rv = some (.inl (fu_put B a b).1) ∧ h' = fu_rw (fu_put B a b).2 h) := by
  refine kc_Con_new hg (M := wk_m53) rfl rfl rfl (show 3 ≤ 3 by decide) ?_
  refine kx_go 2 (pc' := (if kc_cnd .ne (a).toInt 0 then 26 else 4)) (L' := [(0, .inr (.inr (.inl (some 259)))), (1, .inl (a)), (2, .inl (b))]) (S' := []) (h' := h) (by with_unfolding_all rfl) ?_
  by_cases e0 : a.toInt = 0
  · rw [if_neg (fun q => fu_ine.mp q e0)]
    refine kx_go 4 (pc' := 10) (L' := [(0, .inr (.inr (.inl (some 259)))), (1, .inl (a)), (2, .inl (b))]) (S' := [.inr (.inl (Int64.ofNat 20)), .inr (.inl (Int64.ofNat 1)), .inr (.inl (b.toInt64))]) (h' := h) (by with_unfolding_all rfl) ?_
    refine kc_call_rule (M2 := wk_m22) (av := [.inr (.inl (b.toInt64)), .inr (.inl (Int64.ofNat 1)), .inr (.inl (Int64.ofNat 20))]) (r := []) rfl rfl (kc_Con_le (fu_li (d := 0) (lo := 1) (hi := 20) hg (by decide) (by decide)) (by omega)) (fun rv h2 hq => ?_)
    obtain ⟨rfl, e⟩ := hq
    rw [e]
    clear e
    show kc_Ev g (d + 1) wk_m53 _ 13 [(0, .inr (.inr (.inl (some 259)))), (1, .inl (a)), (2, .inl (b))] [.inl (kp_b (fu_in b 1 20))] h
    refine kx_go 1 (pc' := (if kc_cnd .eq (kp_b (fu_in b 1 20)).toInt 0 then 26 else 16)) (L' := [(0, .inr (.inr (.inl (some 259)))), (1, .inl (a)), (2, .inl (b))]) (S' := []) (h' := h) (by with_unfolding_all rfl) ?_
    cases e2 : fu_in b 1 20 with
    | false =>
      rw [if_pos (kx_b0.mpr rfl)]
      refine kx_go 3 (pc' := (if kc_cnd .ne (a).toInt (Int32.ofNat 1).toInt then 53 else 31)) (L' := [(0, .inr (.inr (.inl (some 259)))), (1, .inl (a)), (2, .inl (b))]) (S' := []) (h' := h) (by with_unfolding_all rfl) ?_
      rw [if_pos (fu_ine.mpr (by rw [e0]; decide))]
      refine kx_go 1 (pc' := 55) (L' := [(0, .inr (.inr (.inl (some 259)))), (1, .inl (a)), (2, .inl (b))]) (S' := [.inl (Int32.ofInt (-2))]) (h' := h) (by with_unfolding_all rfl) ?_
      have key : fu_put B a b = (Int32.ofInt (-2), []) := by unfold fu_put; rw [if_neg (by rw [if_pos e0, e2]; simp)]
      exact kc_ret_ok rfl (rv := some (.inl (Int32.ofInt (-2)))) rfl ⟨fu_e1 key, fu_er key⟩
    | true =>
      rw [if_neg (fun q => by have := kx_b0.mp q; cases this)]
      refine kx_go 4 (pc' := 20) (L' := [(0, .inr (.inr (.inl (some 259)))), (1, .inl (a)), (2, .inl (b))]) (S' := [.inr (.inl (b.toInt64)), .inl (Int32.ofNat 4), .inr (.inr (.inl (some 259)))]) (h' := h) (by with_unfolding_all rfl) ?_
      refine kc_call_rule (M2 := wk_m31) (av := [.inr (.inr (.inl (some 259))), .inl (Int32.ofNat 4), .inr (.inl (b.toInt64))]) (r := []) rfl rfl (kc_Con_le (fu_rs (d := 0) (w := B 4) (u := b) hg (kx_ofr (hw _ _ _ kz_k.1)) (by omega) (hC 4 (by omega) (by decide)) (fu_back _)) (by omega)) (fun rv h2 hq => ?_)
      obtain ⟨rfl, e⟩ := hq
      rw [e]
      clear e
      show kc_Ev g (d + 1) wk_m53 _ 23 [(0, .inr (.inr (.inl (some 259)))), (1, .inl (a)), (2, .inl (b))] [.inl (B 4)] (kc_upd h 260 4 (.inl (b)))
      refine kx_go 1 (pc' := 55) (L' := [(0, .inr (.inr (.inl (some 259)))), (1, .inl (a)), (2, .inl (b))]) (S' := [.inl (B 4)]) (h' := (kc_upd h 260 4 (.inl (b)))) (by with_unfolding_all rfl) ?_
      have key : fu_put B a b = (B 4, [(4, b)]) := by unfold fu_put; rw [if_pos (by rw [if_pos e0, e2, fu_in1 (a := a) (lo := 0) (hi := 1) (by omega)]; rfl), e0]; rfl
      exact kc_ret_ok rfl (rv := some (.inl (B 4))) rfl ⟨fu_e1 key, fu_er (h := h) key⟩
  · rw [if_pos (fu_ine.mpr e0)]
    refine kx_go 3 (pc' := (if kc_cnd .ne (a).toInt (Int32.ofNat 1).toInt then 53 else 31)) (L' := [(0, .inr (.inr (.inl (some 259)))), (1, .inl (a)), (2, .inl (b))]) (S' := []) (h' := h) (by with_unfolding_all rfl) ?_
    by_cases e1 : a.toInt = 1
    · rw [if_neg (fun q => fu_ine.mp q (e1.trans (by decide)))]
      refine kx_go 4 (pc' := 37) (L' := [(0, .inr (.inr (.inl (some 259)))), (1, .inl (a)), (2, .inl (b))]) (S' := [.inr (.inl (Int64.ofNat 9)), .inr (.inl (Int64.ofNat 1)), .inr (.inl (b.toInt64))]) (h' := h) (by with_unfolding_all rfl) ?_
      refine kc_call_rule (M2 := wk_m22) (av := [.inr (.inl (b.toInt64)), .inr (.inl (Int64.ofNat 1)), .inr (.inl (Int64.ofNat 9))]) (r := []) rfl rfl (kc_Con_le (fu_li (d := 0) (lo := 1) (hi := 9) hg (by decide) (by decide)) (by omega)) (fun rv h2 hq => ?_)
      obtain ⟨rfl, e⟩ := hq
      rw [e]
      clear e
      show kc_Ev g (d + 1) wk_m53 _ 40 [(0, .inr (.inr (.inl (some 259)))), (1, .inl (a)), (2, .inl (b))] [.inl (kp_b (fu_in b 1 9))] h
      refine kx_go 1 (pc' := (if kc_cnd .eq (kp_b (fu_in b 1 9)).toInt 0 then 53 else 43)) (L' := [(0, .inr (.inr (.inl (some 259)))), (1, .inl (a)), (2, .inl (b))]) (S' := []) (h' := h) (by with_unfolding_all rfl) ?_
      cases e2 : fu_in b 1 9 with
      | false =>
        rw [if_pos (kx_b0.mpr rfl)]
        refine kx_go 1 (pc' := 55) (L' := [(0, .inr (.inr (.inl (some 259)))), (1, .inl (a)), (2, .inl (b))]) (S' := [.inl (Int32.ofInt (-2))]) (h' := h) (by with_unfolding_all rfl) ?_
        have key : fu_put B a b = (Int32.ofInt (-2), []) := by unfold fu_put; rw [if_neg (by rw [if_neg e0, e2]; simp)]
        exact kc_ret_ok rfl (rv := some (.inl (Int32.ofInt (-2)))) rfl ⟨fu_e1 key, fu_er key⟩
      | true =>
        rw [if_neg (fun q => by have := kx_b0.mp q; cases this)]
        refine kx_go 4 (pc' := 47) (L' := [(0, .inr (.inr (.inl (some 259)))), (1, .inl (a)), (2, .inl (b))]) (S' := [.inr (.inl (b.toInt64)), .inl (Int32.ofNat 5), .inr (.inr (.inl (some 259)))]) (h' := h) (by with_unfolding_all rfl) ?_
        refine kc_call_rule (M2 := wk_m31) (av := [.inr (.inr (.inl (some 259))), .inl (Int32.ofNat 5), .inr (.inl (b.toInt64))]) (r := []) rfl rfl (kc_Con_le (fu_rs (d := 0) (w := B 5) (u := b) hg (kx_ofr (hw _ _ _ kz_k.1)) (by omega) (hC 5 (by omega) (by decide)) (fu_back _)) (by omega)) (fun rv h2 hq => ?_)
        obtain ⟨rfl, e⟩ := hq
        rw [e]
        clear e
        show kc_Ev g (d + 1) wk_m53 _ 50 [(0, .inr (.inr (.inl (some 259)))), (1, .inl (a)), (2, .inl (b))] [.inl (B 5)] (kc_upd h 260 5 (.inl (b)))
        refine kx_go 1 (pc' := 55) (L' := [(0, .inr (.inr (.inl (some 259)))), (1, .inl (a)), (2, .inl (b))]) (S' := [.inl (B 5)]) (h' := (kc_upd h 260 5 (.inl (b)))) (by with_unfolding_all rfl) ?_
        have key : fu_put B a b = (B 5, [(5, b)]) := by unfold fu_put; rw [if_pos (by rw [if_neg e0, e2, fu_in1 (a := a) (lo := 0) (hi := 1) (by omega)]; rfl), e1]; rfl
        exact kc_ret_ok rfl (rv := some (.inl (B 5))) rfl ⟨fu_e1 key, fu_er (h := h) key⟩
    · rw [if_pos (fu_ine.mpr (fun q => e1 (q.trans (by decide))))]
      refine kx_go 1 (pc' := 55) (L' := [(0, .inr (.inr (.inl (some 259)))), (1, .inl (a)), (2, .inl (b))]) (S' := [.inl (Int32.ofInt (-2))]) (h' := h) (by with_unfolding_all rfl) ?_
      have key : fu_put B a b = (Int32.ofInt (-2), []) := by unfold fu_put; rw [if_neg (by rw [fu_in0 (a := a) (lo := 0) (hi := 1) (by omega)]; simp)]
      exact kc_ret_ok rfl (rv := some (.inl (Int32.ofInt (-2)))) rfl ⟨fu_e1 key, fu_er key⟩
set_option maxRecDepth 20000 in
theorem fu_rclr {g : kc_G} {d : Nat} {h : kc_H} {B : Nat → Int32} {a : Int32} (hg : kc_ok g) (hw : kd_wt kd_ty h) (hC : fu_B B h) (hB : fu_BT B) : kc_Con g (d + 3) 59 [.inr (.inr (.inl (some 259))), .inl a] h (fun rv h' => rv = some (.inl (fu_clr B a).1) ∧ h' = fu_rw (fu_clr B a).2 h) := by
  refine kc_Con_new hg (M := wk_m59) rfl rfl rfl (show 2 ≤ 2 by decide) ?_
  refine kx_go 1 (pc' := 1) (L' := [(0, .inr (.inr (.inl (some 259)))), (1, .inl (a))]) (S' := [.inl (a)]) (h' := h) (by with_unfolding_all rfl) ?_
  refine kc_call_rule (M2 := wk_m57) (av := [.inl (a)]) (r := []) rfl rfl (kc_Con_le (fu_r57 (d := 0) hg) (by omega)) (fun rv h2 hq => ?_)
  obtain ⟨rfl, e⟩ := hq
  rw [e]
  clear e
  show kc_Ev g (d + 2) wk_m59 _ 4 [(0, .inr (.inr (.inl (some 259)))), (1, .inl (a))] [.inl (kp_b (fu_in a 0 1))] h
  refine kx_go 1 (pc' := (if kc_cnd .eq (kp_b (fu_in a 0 1)).toInt 0 then 20 else 7)) (L' := [(0, .inr (.inr (.inl (some 259)))), (1, .inl (a))]) (S' := []) (h' := h) (by with_unfolding_all rfl) ?_
  cases e1 : fu_in a 0 1 with
  | false =>
    rw [if_pos (kx_b0.mpr rfl)]
    refine kx_go 1 (pc' := 22) (L' := [(0, .inr (.inr (.inl (some 259)))), (1, .inl (a))]) (S' := [.inl (Int32.ofInt (-2))]) (h' := h) (by with_unfolding_all rfl) ?_
    have key : fu_clr B a = (Int32.ofInt (-2), []) := by unfold fu_clr; rw [if_neg (by simp [e1])]
    exact kc_ret_ok rfl (rv := some (.inl (Int32.ofInt (-2)))) rfl ⟨fu_e1 key, fu_er key⟩
  | true =>
    rw [if_neg (fun q => by have := kx_b0.mp q; cases this)]
    obtain ⟨x, x5, rfl, x6, x7⟩ := fu_in_n (u := 1) e1 (by omega) (by omega)
    have hx : x < 2 := by omega
    refine kx_go 5 (pc' := 14) (L' := [(0, .inr (.inr (.inl (some 259)))), (1, .inl (Int32.ofNat x))]) (S' := [.inr (.inl (Int64.ofNat 0)), .inl ((Int32.ofNat 160) + (Int32.ofNat x)), .inr (.inr (.inl (some 259)))]) (h' := h) (by with_unfolding_all rfl) ?_
    rw [kx_add]
    refine kc_call_rule (M2 := wk_m31) (av := [.inr (.inr (.inl (some 259))), .inl (Int32.ofNat (160 + x)), .inr (.inl (Int64.ofNat 0))]) (r := []) rfl rfl (kc_Con_le (fu_rs (d := 0) (w := B (160 + x)) (u := Int32.ofNat 0) hg (kx_ofr (hw _ _ _ kz_k.1)) (by omega) (hC (160 + x) (by omega) (fu_fby x hx).2.1) fu_zero) (by omega)) (fun rv h2 hq => ?_)
    obtain ⟨rfl, e⟩ := hq
    rw [e]
    clear e
    show kc_Ev g (d + 2) wk_m59 _ 17 [(0, .inr (.inr (.inl (some 259)))), (1, .inl (Int32.ofNat x))] [.inl (B (160 + x))] (kc_upd h 260 (160 + x) (.inl (Int32.ofNat 0)))
    refine kx_go 1 (pc' := 22) (L' := [(0, .inr (.inr (.inl (some 259)))), (1, .inl (Int32.ofNat x))]) (S' := [.inl (B (160 + x))]) (h' := (kc_upd h 260 (160 + x) (.inl (Int32.ofNat 0)))) (by with_unfolding_all rfl) ?_
    have key : fu_clr B (Int32.ofNat x) = (B (160 + x), [(160 + x, Int32.ofNat 0)]) := by unfold fu_clr; rw [if_pos e1, fu_tn (by omega)]
    exact kc_ret_ok rfl (rv := some (.inl (B (160 + x)))) rfl ⟨fu_e1 key, fu_er (h := h) key⟩
set_option maxRecDepth 20000 in
theorem fu_runl {g : kc_G} {d : Nat} {h : kc_H} {B : Nat → Int32} (hg : kc_ok g) (hw : kd_wt kd_ty h) (hC : fu_B B h) (hB : fu_BT B) : kc_Con g (d + 2) 96 [.inr (.inr (.inl (some 259)))] h (fun rv h' => rv = some (.inl (fu_unl B).1) ∧ h' = fu_rw (fu_unl B).2 h) := by
  refine kc_Con_new hg (M := wk_m96) rfl rfl rfl (show 1 ≤ 1 by decide) ?_
  refine kx_go 3 (pc' := 3) (L' := [(0, .inr (.inr (.inl (some 259))))]) (S' := [.inr (.inl (Int64.ofNat 0)), .inl (Int32.ofNat 3), .inr (.inr (.inl (some 259)))]) (h' := h) (by with_unfolding_all rfl) ?_
  refine kc_call_rule (M2 := wk_m31) (av := [.inr (.inr (.inl (some 259))), .inl (Int32.ofNat 3), .inr (.inl (Int64.ofNat 0))]) (r := []) rfl rfl (kc_Con_le (fu_rs (d := 0) (w := B 3) (u := Int32.ofNat 0) hg (kx_ofr (hw _ _ _ kz_k.1)) (by omega) (hC 3 (by omega) (by decide)) fu_zero) (by omega)) (fun rv h2 hq => ?_)
  obtain ⟨rfl, e⟩ := hq
  rw [e]
  clear e
  show kc_Ev g (d + 1) wk_m96 _ 6 [(0, .inr (.inr (.inl (some 259))))] [.inl (B 3)] (kc_upd h 260 3 (.inl (Int32.ofNat 0)))
  exact kc_ret_ok rfl (rv := some (.inl (B 3))) rfl ⟨rfl, rfl⟩
set_option maxRecDepth 20000 in
theorem fu_rmule {g : kc_G} {d : Nat} {h : kc_H} {B : Nat → Int32} {a b c : Int32} (hg : kc_ok g) (hw : kd_wt kd_ty h) (hC : fu_B B h) (hB : fu_BT B) : kc_Con g (d + 2) 34 [.inr (.inr (.inl (some 259))), .inl a, .inl b, .inl c] h (fun rv h' => rv = some (.inl (fu_mule B a b c).1) ∧ h' = fu_rw (fu_mule B a b c).2 h) := by
  refine kc_Con_new hg (M := wk_m34) rfl rfl rfl (show 4 ≤ 5 by decide) ?_
  obtain ⟨K, K1, eK⟩ := fu_n1 hB
  refine kx_go 4 (pc' := 6) (L' := [(0, .inr (.inr (.inl (some 259)))), (1, .inl (a)), (2, .inl (b)), (3, .inl (c))]) (S' := [.inr (.inl (Int64.ofNat 999)), .inr (.inl (Int64.ofNat 1)), .inr (.inl (a.toInt64))]) (h' := h) (by with_unfolding_all rfl) ?_
  refine kc_call_rule (M2 := wk_m22) (av := [.inr (.inl (a.toInt64)), .inr (.inl (Int64.ofNat 1)), .inr (.inl (Int64.ofNat 999))]) (r := []) rfl rfl (kc_Con_le (fu_li (d := 0) (lo := 1) (hi := 999) hg (by decide) (by decide)) (by omega)) (fun rv h2 hq => ?_)
  obtain ⟨rfl, e⟩ := hq
  rw [e]
  clear e
  show kc_Ev g (d + 1) wk_m34 _ 9 [(0, .inr (.inr (.inl (some 259)))), (1, .inl (a)), (2, .inl (b)), (3, .inl (c))] [.inl (kp_b (fu_in a 1 999))] h
  refine kx_go 1 (pc' := (if kc_cnd .eq (kp_b (fu_in a 1 999)).toInt 0 then 36 else 12)) (L' := [(0, .inr (.inr (.inl (some 259)))), (1, .inl (a)), (2, .inl (b)), (3, .inl (c))]) (S' := []) (h' := h) (by with_unfolding_all rfl) ?_
  cases e1 : fu_in a 1 999 with
  | false =>
    rw [if_pos (kx_b0.mpr rfl)]
    refine kx_go 1 (pc' := 38) (L' := [(0, .inr (.inr (.inl (some 259)))), (1, .inl (a)), (2, .inl (b)), (3, .inl (c))]) (S' := [.inl (Int32.ofInt (-2))]) (h' := h) (by with_unfolding_all rfl) ?_
    have key : fu_mule B a b c = (Int32.ofInt (-2), []) := by unfold fu_mule; rw [if_neg (by simp [e1])]
    exact kc_ret_ok rfl (rv := some (.inl (Int32.ofInt (-2)))) rfl ⟨fu_e1 key, fu_er key⟩
  | true =>
    rw [if_neg (fun q => by have := kx_b0.mp q; cases this)]
    refine kx_go 4 (pc' := 18) (L' := [(0, .inr (.inr (.inl (some 259)))), (1, .inl (a)), (2, .inl (b)), (3, .inl (c))]) (S' := [.inr (.inl (Int64.ofNat 99)), .inr (.inl (Int64.ofNat 0)), .inr (.inl (b.toInt64))]) (h' := h) (by with_unfolding_all rfl) ?_
    refine kc_call_rule (M2 := wk_m22) (av := [.inr (.inl (b.toInt64)), .inr (.inl (Int64.ofNat 0)), .inr (.inl (Int64.ofNat 99))]) (r := []) rfl rfl (kc_Con_le (fu_li (d := 0) (lo := 0) (hi := 99) hg (by decide) (by decide)) (by omega)) (fun rv h2 hq => ?_)
    obtain ⟨rfl, e⟩ := hq
    rw [e]
    clear e
    show kc_Ev g (d + 1) wk_m34 _ 21 [(0, .inr (.inr (.inl (some 259)))), (1, .inl (a)), (2, .inl (b)), (3, .inl (c))] [.inl (kp_b (fu_in b 0 99))] h
    refine kx_go 1 (pc' := (if kc_cnd .eq (kp_b (fu_in b 0 99)).toInt 0 then 36 else 24)) (L' := [(0, .inr (.inr (.inl (some 259)))), (1, .inl (a)), (2, .inl (b)), (3, .inl (c))]) (S' := []) (h' := h) (by with_unfolding_all rfl) ?_
    cases e2 : fu_in b 0 99 with
    | false =>
      rw [if_pos (kx_b0.mpr rfl)]
      refine kx_go 1 (pc' := 38) (L' := [(0, .inr (.inr (.inl (some 259)))), (1, .inl (a)), (2, .inl (b)), (3, .inl (c))]) (S' := [.inl (Int32.ofInt (-2))]) (h' := h) (by with_unfolding_all rfl) ?_
      have key : fu_mule B a b c = (Int32.ofInt (-2), []) := by unfold fu_mule; rw [if_neg (by simp [e1, e2])]
      exact kc_ret_ok rfl (rv := some (.inl (Int32.ofInt (-2)))) rfl ⟨fu_e1 key, fu_er key⟩
    | true =>
      rw [if_neg (fun q => by have := kx_b0.mp q; cases this)]
      refine kx_go 4 (pc' := 30) (L' := [(0, .inr (.inr (.inl (some 259)))), (1, .inl (a)), (2, .inl (b)), (3, .inl (c))]) (S' := [.inr (.inl (Int64.ofNat 99)), .inr (.inl (Int64.ofNat 0)), .inr (.inl (c.toInt64))]) (h' := h) (by with_unfolding_all rfl) ?_
      refine kc_call_rule (M2 := wk_m22) (av := [.inr (.inl (c.toInt64)), .inr (.inl (Int64.ofNat 0)), .inr (.inl (Int64.ofNat 99))]) (r := []) rfl rfl (kc_Con_le (fu_li (d := 0) (lo := 0) (hi := 99) hg (by decide) (by decide)) (by omega)) (fun rv h2 hq => ?_)
      obtain ⟨rfl, e⟩ := hq
      rw [e]
      clear e
      show kc_Ev g (d + 1) wk_m34 _ 33 [(0, .inr (.inr (.inl (some 259)))), (1, .inl (a)), (2, .inl (b)), (3, .inl (c))] [.inl (kp_b (fu_in c 0 99))] h
      refine kx_go 1 (pc' := (if kc_cnd .ne (kp_b (fu_in c 0 99)).toInt 0 then 39 else 36)) (L' := [(0, .inr (.inr (.inl (some 259)))), (1, .inl (a)), (2, .inl (b)), (3, .inl (c))]) (S' := []) (h' := h) (by with_unfolding_all rfl) ?_
      cases e3 : fu_in c 0 99 with
      | false =>
        rw [if_neg (fun q => by have := kx_b1.mp q; cases this)]
        refine kx_go 1 (pc' := 38) (L' := [(0, .inr (.inr (.inl (some 259)))), (1, .inl (a)), (2, .inl (b)), (3, .inl (c))]) (S' := [.inl (Int32.ofInt (-2))]) (h' := h) (by with_unfolding_all rfl) ?_
        have key : fu_mule B a b c = (Int32.ofInt (-2), []) := by unfold fu_mule; rw [if_neg (by simp [e1, e2, e3])]
        exact kc_ret_ok rfl (rv := some (.inl (Int32.ofInt (-2)))) rfl ⟨fu_e1 key, fu_er key⟩
      | true =>
        rw [if_pos (kx_b1.mpr rfl)]
        refine kx_go 1 (pc' := 40) (L' := [(0, .inr (.inr (.inl (some 259)))), (1, .inl (a)), (2, .inl (b)), (3, .inl (c))]) (S' := [.inr (.inr (.inl (some 259)))]) (h' := h) (by with_unfolding_all rfl) ?_
        refine kx_getf (c := 259) (v := .inr (.inr (.inl (some 260)))) rfl (by decide) (kx_ofr (hw _ _ _ kz_k.1)) ?_
        refine kx_go 1 (pc' := 44) (L' := [(0, .inr (.inr (.inl (some 259)))), (1, .inl (a)), (2, .inl (b)), (3, .inl (c))]) (S' := [.inl (Int32.ofNat 1), .inr (.inr (.inl (some 260)))]) (h' := h) (by with_unfolding_all rfl) ?_
        refine kx_iald (c := 260) (j := 1) (m := 650) (v := .inl (Int32.ofNat K)) rfl rfl (by decide) (by decide) (by omega) ((hC 1 (by decide) (by decide)).trans (by rw [eK])) ?_
        refine kx_go 2 (pc' := (if kc_cnd .ne (Int32.ofNat K).toInt (Int32.ofNat 3).toInt then 52 else 49)) (L' := [(0, .inr (.inr (.inl (some 259)))), (1, .inl (a)), (2, .inl (b)), (3, .inl (c))]) (S' := []) (h' := h) (by with_unfolding_all rfl) ?_
        by_cases e9 : K = 3
        · rw [if_neg (fun q => fu_ine.mp q (by rw [kx_ti (by omega), kx_ti (by omega)]; omega))]
          refine kx_go 1 (pc' := 51) (L' := [(0, .inr (.inr (.inl (some 259)))), (1, .inl (a)), (2, .inl (b)), (3, .inl (c))]) (S' := [.inl (Int32.ofInt (-4))]) (h' := h) (by with_unfolding_all rfl) ?_
          have key : fu_mule B a b c = (Int32.ofInt (-4), []) := by unfold fu_mule; rw [if_pos (by rw [e1, e2, e3]; rfl), eK, if_neg (by rw [kx_ti (by omega)]; omega)]
          exact kc_ret_ok rfl (rv := some (.inl (Int32.ofInt (-4)))) rfl ⟨fu_e1 key, fu_er key⟩
        · rw [if_pos (fu_ine.mpr (by rw [kx_ti (by omega), kx_ti (by omega)]; omega))]
          refine kx_go 3 (pc' := 56) (L' := [(0, .inr (.inr (.inl (some 259)))), (1, .inl (a)), (2, .inl (b)), (3, .inl (c))]) (S' := [.inr (.inr (.inl (some 259))), .inl (Int32.ofNat 5), .inl (Int32.ofNat 60)]) (h' := h) (by with_unfolding_all rfl) ?_
          refine kx_getf (c := 259) (v := .inr (.inr (.inl (some 260)))) rfl (by decide) (kx_ofr (hw _ _ _ kz_k.1)) ?_
          refine kx_go 1 (pc' := 60) (L' := [(0, .inr (.inr (.inl (some 259)))), (1, .inl (a)), (2, .inl (b)), (3, .inl (c))]) (S' := [.inl (Int32.ofNat 1), .inr (.inr (.inl (some 260))), .inl (Int32.ofNat 5), .inl (Int32.ofNat 60)]) (h' := h) (by with_unfolding_all rfl) ?_
          refine kx_iald (c := 260) (j := 1) (m := 650) (v := .inl (Int32.ofNat K)) rfl rfl (by decide) (by decide) (by omega) ((hC 1 (by decide) (by decide)).trans (by rw [eK])) ?_
          refine kx_go 2 (pc' := 63) (L' := [(0, .inr (.inr (.inl (some 259)))), (1, .inl (a)), (2, .inl (b)), (3, .inl (c))]) (S' := [.inl ((Int32.ofNat 60) + ((Int32.ofNat 5) * (Int32.ofNat K)))]) (h' := h) (by with_unfolding_all rfl) ?_
          rw [kx_mul, kx_add]
          refine kx_go 2 (pc' := 66) (L' := [(4, .inl (Int32.ofNat (60 + 5 * K))), (0, .inr (.inr (.inl (some 259)))), (1, .inl (a)), (2, .inl (b)), (3, .inl (c))]) (S' := [.inr (.inr (.inl (some 259)))]) (h' := h) (by with_unfolding_all rfl) ?_
          refine kx_getf (c := 259) (v := .inr (.inr (.inl (some 260)))) rfl (by decide) (kx_ofr (hw _ _ _ kz_k.1)) ?_
          refine kx_go 2 (pc' := 72) (L' := [(4, .inl (Int32.ofNat (60 + 5 * K))), (0, .inr (.inr (.inl (some 259)))), (1, .inl (a)), (2, .inl (b)), (3, .inl (c))]) (S' := [.inl (a), .inl (Int32.ofNat (60 + 5 * K)), .inr (.inr (.inl (some 260)))]) (h' := h) (by with_unfolding_all rfl) ?_
          refine kx_iast (c := 260) (j := (60 + 5 * K)) (m := 650) rfl rfl (by decide) (by decide) (by omega) ?_
          refine kx_go 1 (pc' := 74) (L' := [(4, .inl (Int32.ofNat (60 + 5 * K))), (0, .inr (.inr (.inl (some 259)))), (1, .inl (a)), (2, .inl (b)), (3, .inl (c))]) (S' := [.inr (.inr (.inl (some 259)))]) (h' := (kc_upd h 260 (60 + 5 * K) (.inl (a)))) (by with_unfolding_all rfl) ?_
          refine kx_getf (c := 259) (v := .inr (.inr (.inl (some 260)))) rfl (by decide) ((fu_ne (by omega)).trans (kx_ofr (hw _ _ _ kz_k.1))) ?_
          refine kx_go 4 (pc' := 82) (L' := [(4, .inl (Int32.ofNat (60 + 5 * K))), (0, .inr (.inr (.inl (some 259)))), (1, .inl (a)), (2, .inl (b)), (3, .inl (c))]) (S' := [.inl (b), .inl ((Int32.ofNat (60 + 5 * K)) + (Int32.ofNat 1)), .inr (.inr (.inl (some 260)))]) (h' := (kc_upd h 260 (60 + 5 * K) (.inl (a)))) (by with_unfolding_all rfl) ?_
          rw [kx_add]
          refine kx_iast (c := 260) (j := (60 + 5 * K + 1)) (m := 650) rfl rfl (by decide) (by decide) (by omega) ?_
          refine kx_go 1 (pc' := 84) (L' := [(4, .inl (Int32.ofNat (60 + 5 * K))), (0, .inr (.inr (.inl (some 259)))), (1, .inl (a)), (2, .inl (b)), (3, .inl (c))]) (S' := [.inr (.inr (.inl (some 259)))]) (h' := (kc_upd (kc_upd h 260 (60 + 5 * K) (.inl (a))) 260 (60 + 5 * K + 1) (.inl (b)))) (by with_unfolding_all rfl) ?_
          refine kx_getf (c := 259) (v := .inr (.inr (.inl (some 260)))) rfl (by decide) ((fu_ne (by omega)).trans ((fu_ne (by omega)).trans (kx_ofr (hw _ _ _ kz_k.1)))) ?_
          refine kx_go 4 (pc' := 92) (L' := [(4, .inl (Int32.ofNat (60 + 5 * K))), (0, .inr (.inr (.inl (some 259)))), (1, .inl (a)), (2, .inl (b)), (3, .inl (c))]) (S' := [.inl (c), .inl ((Int32.ofNat (60 + 5 * K)) + (Int32.ofNat 2)), .inr (.inr (.inl (some 260)))]) (h' := (kc_upd (kc_upd h 260 (60 + 5 * K) (.inl (a))) 260 (60 + 5 * K + 1) (.inl (b)))) (by with_unfolding_all rfl) ?_
          rw [kx_add]
          refine kx_iast (c := 260) (j := (60 + 5 * K + 2)) (m := 650) rfl rfl (by decide) (by decide) (by omega) ?_
          refine kx_go 1 (pc' := 94) (L' := [(4, .inl (Int32.ofNat (60 + 5 * K))), (0, .inr (.inr (.inl (some 259)))), (1, .inl (a)), (2, .inl (b)), (3, .inl (c))]) (S' := [.inr (.inr (.inl (some 259)))]) (h' := (kc_upd (kc_upd (kc_upd h 260 (60 + 5 * K) (.inl (a))) 260 (60 + 5 * K + 1) (.inl (b))) 260 (60 + 5 * K + 2) (.inl (c)))) (by with_unfolding_all rfl) ?_
          refine kx_getf (c := 259) (v := .inr (.inr (.inl (some 260)))) rfl (by decide) ((fu_ne (by omega)).trans ((fu_ne (by omega)).trans ((fu_ne (by omega)).trans (kx_ofr (hw _ _ _ kz_k.1))))) ?_
          refine kx_go 4 (pc' := 104) (L' := [(4, .inl (Int32.ofNat (60 + 5 * K))), (0, .inr (.inr (.inl (some 259)))), (1, .inl (a)), (2, .inl (b)), (3, .inl (c))]) (S' := [.inl (Int32.ofNat 999), .inl ((Int32.ofNat (60 + 5 * K)) + (Int32.ofNat 3)), .inr (.inr (.inl (some 260)))]) (h' := (kc_upd (kc_upd (kc_upd h 260 (60 + 5 * K) (.inl (a))) 260 (60 + 5 * K + 1) (.inl (b))) 260 (60 + 5 * K + 2) (.inl (c)))) (by with_unfolding_all rfl) ?_
          rw [kx_add]
          refine kx_iast (c := 260) (j := (60 + 5 * K + 3)) (m := 650) rfl rfl (by decide) (by decide) (by omega) ?_
          refine kx_go 1 (pc' := 106) (L' := [(4, .inl (Int32.ofNat (60 + 5 * K))), (0, .inr (.inr (.inl (some 259)))), (1, .inl (a)), (2, .inl (b)), (3, .inl (c))]) (S' := [.inr (.inr (.inl (some 259)))]) (h' := (kc_upd (kc_upd (kc_upd (kc_upd h 260 (60 + 5 * K) (.inl (a))) 260 (60 + 5 * K + 1) (.inl (b))) 260 (60 + 5 * K + 2) (.inl (c))) 260 (60 + 5 * K + 3) (.inl (Int32.ofNat 999)))) (by with_unfolding_all rfl) ?_
          refine kx_getf (c := 259) (v := .inr (.inr (.inl (some 260)))) rfl (by decide) ((fu_ne (by omega)).trans ((fu_ne (by omega)).trans ((fu_ne (by omega)).trans ((fu_ne (by omega)).trans (kx_ofr (hw _ _ _ kz_k.1)))))) ?_
          refine kx_go 4 (pc' := 116) (L' := [(4, .inl (Int32.ofNat (60 + 5 * K))), (0, .inr (.inr (.inl (some 259)))), (1, .inl (a)), (2, .inl (b)), (3, .inl (c))]) (S' := [.inl (Int32.ofNat 999), .inl ((Int32.ofNat (60 + 5 * K)) + (Int32.ofNat 4)), .inr (.inr (.inl (some 260)))]) (h' := (kc_upd (kc_upd (kc_upd (kc_upd h 260 (60 + 5 * K) (.inl (a))) 260 (60 + 5 * K + 1) (.inl (b))) 260 (60 + 5 * K + 2) (.inl (c))) 260 (60 + 5 * K + 3) (.inl (Int32.ofNat 999)))) (by with_unfolding_all rfl) ?_
          rw [kx_add]
          refine kx_iast (c := 260) (j := (60 + 5 * K + 4)) (m := 650) rfl rfl (by decide) (by decide) (by omega) ?_
          refine kx_go 1 (pc' := 118) (L' := [(4, .inl (Int32.ofNat (60 + 5 * K))), (0, .inr (.inr (.inl (some 259)))), (1, .inl (a)), (2, .inl (b)), (3, .inl (c))]) (S' := [.inr (.inr (.inl (some 259)))]) (h' := (kc_upd (kc_upd (kc_upd (kc_upd (kc_upd h 260 (60 + 5 * K) (.inl (a))) 260 (60 + 5 * K + 1) (.inl (b))) 260 (60 + 5 * K + 2) (.inl (c))) 260 (60 + 5 * K + 3) (.inl (Int32.ofNat 999))) 260 (60 + 5 * K + 4) (.inl (Int32.ofNat 999)))) (by with_unfolding_all rfl) ?_
          refine kx_getf (c := 259) (v := .inr (.inr (.inl (some 260)))) rfl (by decide) ((fu_ne (by omega)).trans ((fu_ne (by omega)).trans ((fu_ne (by omega)).trans ((fu_ne (by omega)).trans ((fu_ne (by omega)).trans (kx_ofr (hw _ _ _ kz_k.1))))))) ?_
          refine kx_go 2 (pc' := 123) (L' := [(4, .inl (Int32.ofNat (60 + 5 * K))), (0, .inr (.inr (.inl (some 259)))), (1, .inl (a)), (2, .inl (b)), (3, .inl (c))]) (S' := [.inl (Int32.ofNat 1), .inr (.inr (.inl (some 260))), .inl (Int32.ofNat 1), .inr (.inr (.inl (some 260)))]) (h' := (kc_upd (kc_upd (kc_upd (kc_upd (kc_upd h 260 (60 + 5 * K) (.inl (a))) 260 (60 + 5 * K + 1) (.inl (b))) 260 (60 + 5 * K + 2) (.inl (c))) 260 (60 + 5 * K + 3) (.inl (Int32.ofNat 999))) 260 (60 + 5 * K + 4) (.inl (Int32.ofNat 999)))) (by with_unfolding_all rfl) ?_
          refine kx_iald (c := 260) (j := 1) (m := 650) (v := .inl (Int32.ofNat K)) rfl rfl (by decide) (by decide) (by omega) ((fu_ne (by omega)).trans ((fu_ne (by omega)).trans ((fu_ne (by omega)).trans ((fu_ne (by omega)).trans ((fu_ne (by omega)).trans ((hC 1 (by decide) (by decide)).trans (by rw [eK]))))))) ?_
          refine kx_go 2 (pc' := 126) (L' := [(4, .inl (Int32.ofNat (60 + 5 * K))), (0, .inr (.inr (.inl (some 259)))), (1, .inl (a)), (2, .inl (b)), (3, .inl (c))]) (S' := [.inl ((Int32.ofNat K) + (Int32.ofNat 1)), .inl (Int32.ofNat 1), .inr (.inr (.inl (some 260)))]) (h' := (kc_upd (kc_upd (kc_upd (kc_upd (kc_upd h 260 (60 + 5 * K) (.inl (a))) 260 (60 + 5 * K + 1) (.inl (b))) 260 (60 + 5 * K + 2) (.inl (c))) 260 (60 + 5 * K + 3) (.inl (Int32.ofNat 999))) 260 (60 + 5 * K + 4) (.inl (Int32.ofNat 999)))) (by with_unfolding_all rfl) ?_
          rw [kx_inc1]
          refine kx_iast (c := 260) (j := 1) (m := 650) rfl rfl (by decide) (by decide) (by omega) ?_
          refine kx_go 1 (pc' := 128) (L' := [(4, .inl (Int32.ofNat (60 + 5 * K))), (0, .inr (.inr (.inl (some 259)))), (1, .inl (a)), (2, .inl (b)), (3, .inl (c))]) (S' := [.inr (.inr (.inl (some 259)))]) (h' := (kc_upd (kc_upd (kc_upd (kc_upd (kc_upd (kc_upd h 260 (60 + 5 * K) (.inl (a))) 260 (60 + 5 * K + 1) (.inl (b))) 260 (60 + 5 * K + 2) (.inl (c))) 260 (60 + 5 * K + 3) (.inl (Int32.ofNat 999))) 260 (60 + 5 * K + 4) (.inl (Int32.ofNat 999))) 260 1 (.inl (Int32.ofNat (K + 1))))) (by with_unfolding_all rfl) ?_
          refine kx_getf (c := 259) (v := .inr (.inr (.inl (some 260)))) rfl (by decide) ((fu_ne (by omega)).trans ((fu_ne (by omega)).trans ((fu_ne (by omega)).trans ((fu_ne (by omega)).trans ((fu_ne (by omega)).trans ((fu_ne (by omega)).trans (kx_ofr (hw _ _ _ kz_k.1)))))))) ?_
          refine kx_go 1 (pc' := 132) (L' := [(4, .inl (Int32.ofNat (60 + 5 * K))), (0, .inr (.inr (.inl (some 259)))), (1, .inl (a)), (2, .inl (b)), (3, .inl (c))]) (S' := [.inl (Int32.ofNat 1), .inr (.inr (.inl (some 260)))]) (h' := (kc_upd (kc_upd (kc_upd (kc_upd (kc_upd (kc_upd h 260 (60 + 5 * K) (.inl (a))) 260 (60 + 5 * K + 1) (.inl (b))) 260 (60 + 5 * K + 2) (.inl (c))) 260 (60 + 5 * K + 3) (.inl (Int32.ofNat 999))) 260 (60 + 5 * K + 4) (.inl (Int32.ofNat 999))) 260 1 (.inl (Int32.ofNat (K + 1))))) (by with_unfolding_all rfl) ?_
          refine kx_iald (c := 260) (j := 1) (m := 650) (v := .inl (Int32.ofNat (K + 1))) rfl rfl (by decide) (by decide) (by omega) (fu_eq) ?_
          refine kx_go 2 (pc' := 135) (L' := [(4, .inl (Int32.ofNat (60 + 5 * K))), (0, .inr (.inr (.inl (some 259)))), (1, .inl (a)), (2, .inl (b)), (3, .inl (c))]) (S' := [.inl ((Int32.ofNat (K + 1)) - (Int32.ofNat 1))]) (h' := (kc_upd (kc_upd (kc_upd (kc_upd (kc_upd (kc_upd h 260 (60 + 5 * K) (.inl (a))) 260 (60 + 5 * K + 1) (.inl (b))) 260 (60 + 5 * K + 2) (.inl (c))) 260 (60 + 5 * K + 3) (.inl (Int32.ofNat 999))) 260 (60 + 5 * K + 4) (.inl (Int32.ofNat 999))) 260 1 (.inl (Int32.ofNat (K + 1))))) (by with_unfolding_all rfl) ?_
          rw [fu_mu3 (by omega)]
          have key : fu_mule B a b c = (Int32.ofNat K, [(60 + 5 * K + 0, a), (60 + 5 * K + 1, b), (60 + 5 * K + 2, c), (60 + 5 * K + 3, Int32.ofNat 999), (60 + 5 * K + 4, Int32.ofNat 999), (1, Int32.ofNat (K + 1))]) := by unfold fu_mule; rw [if_pos (by rw [e1, e2, e3]; rfl), eK, kx_inc1, if_pos (by rw [kx_ti (by omega)]; omega), fu_tn (by omega)]
          exact kc_ret_ok rfl (rv := some (.inl (Int32.ofNat K))) rfl ⟨fu_e1 key, fu_er (h := h) key⟩
set_option maxRecDepth 20000 in
theorem fu_rload {g : kc_G} {d : Nat} {h : kc_H} {B : Nat → Int32} {a b c e : Int32} (hg : kc_ok g) (hw : kd_wt kd_ty h) (hC : fu_B B h) (hB : fu_BT B) : kc_Con g (d + 3) 43 [.inr (.inr (.inl (some 259))), .inl a, .inl b, .inl c, .inl e] h (fun rv h' => rv = some (.inl (fu_load B a b c e).1) ∧ h' = fu_rw (fu_load B a b c e).2 h) := by
  refine kc_Con_new hg (M := wk_m43) rfl rfl rfl (show 5 ≤ 6 by decide) ?_
  obtain ⟨K, K1, eK⟩ := fu_n2 hB
  refine kx_go 4 (pc' := 6) (L' := [(0, .inr (.inr (.inl (some 259)))), (1, .inl (a)), (2, .inl (b)), (3, .inl (c)), (4, .inl (e))]) (S' := [.inr (.inl (Int64.ofNat 99)), .inr (.inl (Int64.ofNat 1)), .inr (.inl (a.toInt64))]) (h' := h) (by with_unfolding_all rfl) ?_
  refine kc_call_rule (M2 := wk_m22) (av := [.inr (.inl (a.toInt64)), .inr (.inl (Int64.ofNat 1)), .inr (.inl (Int64.ofNat 99))]) (r := []) rfl rfl (kc_Con_le (fu_li (d := 0) (lo := 1) (hi := 99) hg (by decide) (by decide)) (by omega)) (fun rv h2 hq => ?_)
  obtain ⟨rfl, e⟩ := hq
  rw [e]
  clear e
  show kc_Ev g (d + 2) wk_m43 _ 9 [(0, .inr (.inr (.inl (some 259)))), (1, .inl (a)), (2, .inl (b)), (3, .inl (c)), (4, .inl (e))] [.inl (kp_b (fu_in a 1 99))] h
  refine kx_go 1 (pc' := (if kc_cnd .eq (kp_b (fu_in a 1 99)).toInt 0 then 45 else 12)) (L' := [(0, .inr (.inr (.inl (some 259)))), (1, .inl (a)), (2, .inl (b)), (3, .inl (c)), (4, .inl (e))]) (S' := []) (h' := h) (by with_unfolding_all rfl) ?_
  cases e1 : fu_in a 1 99 with
  | false =>
    rw [if_pos (kx_b0.mpr rfl)]
    refine kx_go 1 (pc' := 47) (L' := [(0, .inr (.inr (.inl (some 259)))), (1, .inl (a)), (2, .inl (b)), (3, .inl (c)), (4, .inl (e))]) (S' := [.inl (Int32.ofInt (-2))]) (h' := h) (by with_unfolding_all rfl) ?_
    have key : fu_load B a b c e = (Int32.ofInt (-2), []) := by unfold fu_load; rw [if_neg (by simp [e1])]
    exact kc_ret_ok rfl (rv := some (.inl (Int32.ofInt (-2)))) rfl ⟨fu_e1 key, fu_er key⟩
  | true =>
    rw [if_neg (fun q => by have := kx_b0.mp q; cases this)]
    refine kx_go 4 (pc' := 16) (L' := [(0, .inr (.inr (.inl (some 259)))), (1, .inl (a)), (2, .inl (b)), (3, .inl (c)), (4, .inl (e))]) (S' := [.inr (.inl (Int64.ofNat 1)), .inr (.inl (Int64.ofNat 0)), .inr (.inl (b.toInt64))]) (h' := h) (by with_unfolding_all rfl) ?_
    refine kc_call_rule (M2 := wk_m22) (av := [.inr (.inl (b.toInt64)), .inr (.inl (Int64.ofNat 0)), .inr (.inl (Int64.ofNat 1))]) (r := []) rfl rfl (kc_Con_le (fu_li (d := 0) (lo := 0) (hi := 1) hg (by decide) (by decide)) (by omega)) (fun rv h2 hq => ?_)
    obtain ⟨rfl, e⟩ := hq
    rw [e]
    clear e
    show kc_Ev g (d + 2) wk_m43 _ 19 [(0, .inr (.inr (.inl (some 259)))), (1, .inl (a)), (2, .inl (b)), (3, .inl (c)), (4, .inl (e))] [.inl (kp_b (fu_in b 0 1))] h
    refine kx_go 1 (pc' := (if kc_cnd .eq (kp_b (fu_in b 0 1)).toInt 0 then 45 else 22)) (L' := [(0, .inr (.inr (.inl (some 259)))), (1, .inl (a)), (2, .inl (b)), (3, .inl (c)), (4, .inl (e))]) (S' := []) (h' := h) (by with_unfolding_all rfl) ?_
    cases e2 : fu_in b 0 1 with
    | false =>
      rw [if_pos (kx_b0.mpr rfl)]
      refine kx_go 1 (pc' := 47) (L' := [(0, .inr (.inr (.inl (some 259)))), (1, .inl (a)), (2, .inl (b)), (3, .inl (c)), (4, .inl (e))]) (S' := [.inl (Int32.ofInt (-2))]) (h' := h) (by with_unfolding_all rfl) ?_
      have key : fu_load B a b c e = (Int32.ofInt (-2), []) := by unfold fu_load; rw [if_neg (by simp [e1, e2])]
      exact kc_ret_ok rfl (rv := some (.inl (Int32.ofInt (-2)))) rfl ⟨fu_e1 key, fu_er key⟩
    | true =>
      rw [if_neg (fun q => by have := kx_b0.mp q; cases this)]
      refine kx_go 2 (pc' := 24) (L' := [(0, .inr (.inr (.inl (some 259)))), (1, .inl (a)), (2, .inl (b)), (3, .inl (c)), (4, .inl (e))]) (S' := [.inl (c), .inr (.inr (.inl (some 259)))]) (h' := h) (by with_unfolding_all rfl) ?_
      refine kc_call_rule (M2 := wk_m21) (av := [.inr (.inr (.inl (some 259))), .inl (c)]) (r := []) rfl rfl (kc_Con_le (fu_r21 (d := 0) hg hw hC) (by omega)) (fun rv h2 hq => ?_)
      obtain ⟨rfl, e⟩ := hq
      rw [e]
      clear e
      show kc_Ev g (d + 2) wk_m43 _ 27 [(0, .inr (.inr (.inl (some 259)))), (1, .inl (a)), (2, .inl (b)), (3, .inl (c)), (4, .inl (e))] [.inl (kp_b (fu_in c 0 (B 0).toInt))] h
      refine kx_go 1 (pc' := (if kc_cnd .eq (kp_b (fu_in c 0 (B 0).toInt)).toInt 0 then 45 else 30)) (L' := [(0, .inr (.inr (.inl (some 259)))), (1, .inl (a)), (2, .inl (b)), (3, .inl (c)), (4, .inl (e))]) (S' := []) (h' := h) (by with_unfolding_all rfl) ?_
      cases e3 : fu_in c 0 (B 0).toInt with
      | false =>
        rw [if_pos (kx_b0.mpr rfl)]
        refine kx_go 1 (pc' := 47) (L' := [(0, .inr (.inr (.inl (some 259)))), (1, .inl (a)), (2, .inl (b)), (3, .inl (c)), (4, .inl (e))]) (S' := [.inl (Int32.ofInt (-2))]) (h' := h) (by with_unfolding_all rfl) ?_
        have key : fu_load B a b c e = (Int32.ofInt (-2), []) := by unfold fu_load; rw [if_neg (by simp [e1, e2, e3])]
        exact kc_ret_ok rfl (rv := some (.inl (Int32.ofInt (-2)))) rfl ⟨fu_e1 key, fu_er key⟩
      | true =>
        rw [if_neg (fun q => by have := kx_b0.mp q; cases this)]
        refine kx_go 2 (pc' := 33) (L' := [(0, .inr (.inr (.inl (some 259)))), (1, .inl (a)), (2, .inl (b)), (3, .inl (c)), (4, .inl (e))]) (S' := [.inl (e), .inr (.inr (.inl (some 259)))]) (h' := h) (by with_unfolding_all rfl) ?_
        refine kc_call_rule (M2 := wk_m21) (av := [.inr (.inr (.inl (some 259))), .inl (e)]) (r := []) rfl rfl (kc_Con_le (fu_r21 (d := 0) hg hw hC) (by omega)) (fun rv h2 hq => ?_)
        obtain ⟨rfl, e⟩ := hq
        rw [e]
        clear e
        show kc_Ev g (d + 2) wk_m43 _ 36 [(0, .inr (.inr (.inl (some 259)))), (1, .inl (a)), (2, .inl (b)), (3, .inl (c)), (4, .inl (e))] [.inl (kp_b (fu_in e 0 (B 0).toInt))] h
        refine kx_go 1 (pc' := (if kc_cnd .eq (kp_b (fu_in e 0 (B 0).toInt)).toInt 0 then 45 else 39)) (L' := [(0, .inr (.inr (.inl (some 259)))), (1, .inl (a)), (2, .inl (b)), (3, .inl (c)), (4, .inl (e))]) (S' := []) (h' := h) (by with_unfolding_all rfl) ?_
        cases e4 : fu_in e 0 (B 0).toInt with
        | false =>
          rw [if_pos (kx_b0.mpr rfl)]
          refine kx_go 1 (pc' := 47) (L' := [(0, .inr (.inr (.inl (some 259)))), (1, .inl (a)), (2, .inl (b)), (3, .inl (c)), (4, .inl (e))]) (S' := [.inl (Int32.ofInt (-2))]) (h' := h) (by with_unfolding_all rfl) ?_
          have key : fu_load B a b c e = (Int32.ofInt (-2), []) := by unfold fu_load; rw [if_neg (by simp [e1, e2, e3, e4])]
          exact kc_ret_ok rfl (rv := some (.inl (Int32.ofInt (-2)))) rfl ⟨fu_e1 key, fu_er key⟩
        | true =>
          rw [if_neg (fun q => by have := kx_b0.mp q; cases this)]
          refine kx_go 3 (pc' := (if kc_cnd .ne (c).toInt (e).toInt then 48 else 45)) (L' := [(0, .inr (.inr (.inl (some 259)))), (1, .inl (a)), (2, .inl (b)), (3, .inl (c)), (4, .inl (e))]) (S' := []) (h' := h) (by with_unfolding_all rfl) ?_
          by_cases e5 : c.toInt = e.toInt
          · rw [if_neg (fun q => fu_ine.mp q e5)]
            refine kx_go 1 (pc' := 47) (L' := [(0, .inr (.inr (.inl (some 259)))), (1, .inl (a)), (2, .inl (b)), (3, .inl (c)), (4, .inl (e))]) (S' := [.inl (Int32.ofInt (-2))]) (h' := h) (by with_unfolding_all rfl) ?_
            have key : fu_load B a b c e = (Int32.ofInt (-2), []) := by unfold fu_load; rw [if_neg (by simp [e1, e2, e3, e4, e5])]
            exact kc_ret_ok rfl (rv := some (.inl (Int32.ofInt (-2)))) rfl ⟨fu_e1 key, fu_er key⟩
          · rw [if_pos (fu_ine.mpr e5)]
            refine kx_go 1 (pc' := 49) (L' := [(0, .inr (.inr (.inl (some 259)))), (1, .inl (a)), (2, .inl (b)), (3, .inl (c)), (4, .inl (e))]) (S' := [.inr (.inr (.inl (some 259)))]) (h' := h) (by with_unfolding_all rfl) ?_
            refine kx_getf (c := 259) (v := .inr (.inr (.inl (some 260)))) rfl (by decide) (kx_ofr (hw _ _ _ kz_k.1)) ?_
            refine kx_go 1 (pc' := 53) (L' := [(0, .inr (.inr (.inl (some 259)))), (1, .inl (a)), (2, .inl (b)), (3, .inl (c)), (4, .inl (e))]) (S' := [.inl (Int32.ofNat 2), .inr (.inr (.inl (some 260)))]) (h' := h) (by with_unfolding_all rfl) ?_
            refine kx_iald (c := 260) (j := 2) (m := 650) (v := .inl (Int32.ofNat K)) rfl rfl (by decide) (by decide) (by omega) ((hC 2 (by decide) (by decide)).trans (by rw [eK])) ?_
            refine kx_go 2 (pc' := (if kc_cnd .ne (Int32.ofNat K).toInt (Int32.ofNat 10).toInt then 62 else 59)) (L' := [(0, .inr (.inr (.inl (some 259)))), (1, .inl (a)), (2, .inl (b)), (3, .inl (c)), (4, .inl (e))]) (S' := []) (h' := h) (by with_unfolding_all rfl) ?_
            by_cases e9 : K = 10
            · rw [if_neg (fun q => fu_ine.mp q (by rw [kx_ti (by omega), kx_ti (by omega)]; omega))]
              refine kx_go 1 (pc' := 61) (L' := [(0, .inr (.inr (.inl (some 259)))), (1, .inl (a)), (2, .inl (b)), (3, .inl (c)), (4, .inl (e))]) (S' := [.inl (Int32.ofInt (-4))]) (h' := h) (by with_unfolding_all rfl) ?_
              have key : fu_load B a b c e = (Int32.ofInt (-4), []) := by unfold fu_load; rw [if_pos (by rw [e1, e2, e3, e4, decide_eq_false e5]; rfl), eK, if_neg (by rw [kx_ti (by omega)]; omega)]
              exact kc_ret_ok rfl (rv := some (.inl (Int32.ofInt (-4)))) rfl ⟨fu_e1 key, fu_er key⟩
            · rw [if_pos (fu_ine.mpr (by rw [kx_ti (by omega), kx_ti (by omega)]; omega))]
              refine kx_go 3 (pc' := 67) (L' := [(0, .inr (.inr (.inl (some 259)))), (1, .inl (a)), (2, .inl (b)), (3, .inl (c)), (4, .inl (e))]) (S' := [.inr (.inr (.inl (some 259))), .inl (Int32.ofNat 7), .inl (Int32.ofNat 80)]) (h' := h) (by with_unfolding_all rfl) ?_
              refine kx_getf (c := 259) (v := .inr (.inr (.inl (some 260)))) rfl (by decide) (kx_ofr (hw _ _ _ kz_k.1)) ?_
              refine kx_go 1 (pc' := 71) (L' := [(0, .inr (.inr (.inl (some 259)))), (1, .inl (a)), (2, .inl (b)), (3, .inl (c)), (4, .inl (e))]) (S' := [.inl (Int32.ofNat 2), .inr (.inr (.inl (some 260))), .inl (Int32.ofNat 7), .inl (Int32.ofNat 80)]) (h' := h) (by with_unfolding_all rfl) ?_
              refine kx_iald (c := 260) (j := 2) (m := 650) (v := .inl (Int32.ofNat K)) rfl rfl (by decide) (by decide) (by omega) ((hC 2 (by decide) (by decide)).trans (by rw [eK])) ?_
              refine kx_go 2 (pc' := 74) (L' := [(0, .inr (.inr (.inl (some 259)))), (1, .inl (a)), (2, .inl (b)), (3, .inl (c)), (4, .inl (e))]) (S' := [.inl ((Int32.ofNat 80) + ((Int32.ofNat 7) * (Int32.ofNat K)))]) (h' := h) (by with_unfolding_all rfl) ?_
              rw [kx_mul, kx_add]
              refine kx_go 2 (pc' := 77) (L' := [(5, .inl (Int32.ofNat (80 + 7 * K))), (0, .inr (.inr (.inl (some 259)))), (1, .inl (a)), (2, .inl (b)), (3, .inl (c)), (4, .inl (e))]) (S' := [.inr (.inr (.inl (some 259)))]) (h' := h) (by with_unfolding_all rfl) ?_
              refine kx_getf (c := 259) (v := .inr (.inr (.inl (some 260)))) rfl (by decide) (kx_ofr (hw _ _ _ kz_k.1)) ?_
              refine kx_go 2 (pc' := 83) (L' := [(5, .inl (Int32.ofNat (80 + 7 * K))), (0, .inr (.inr (.inl (some 259)))), (1, .inl (a)), (2, .inl (b)), (3, .inl (c)), (4, .inl (e))]) (S' := [.inl (a), .inl (Int32.ofNat (80 + 7 * K)), .inr (.inr (.inl (some 260)))]) (h' := h) (by with_unfolding_all rfl) ?_
              refine kx_iast (c := 260) (j := (80 + 7 * K)) (m := 650) rfl rfl (by decide) (by decide) (by omega) ?_
              refine kx_go 1 (pc' := 85) (L' := [(5, .inl (Int32.ofNat (80 + 7 * K))), (0, .inr (.inr (.inl (some 259)))), (1, .inl (a)), (2, .inl (b)), (3, .inl (c)), (4, .inl (e))]) (S' := [.inr (.inr (.inl (some 259)))]) (h' := (kc_upd h 260 (80 + 7 * K) (.inl (a)))) (by with_unfolding_all rfl) ?_
              refine kx_getf (c := 259) (v := .inr (.inr (.inl (some 260)))) rfl (by decide) ((fu_ne (by omega)).trans (kx_ofr (hw _ _ _ kz_k.1))) ?_
              refine kx_go 4 (pc' := 93) (L' := [(5, .inl (Int32.ofNat (80 + 7 * K))), (0, .inr (.inr (.inl (some 259)))), (1, .inl (a)), (2, .inl (b)), (3, .inl (c)), (4, .inl (e))]) (S' := [.inl (b), .inl ((Int32.ofNat (80 + 7 * K)) + (Int32.ofNat 1)), .inr (.inr (.inl (some 260)))]) (h' := (kc_upd h 260 (80 + 7 * K) (.inl (a)))) (by with_unfolding_all rfl) ?_
              rw [kx_add]
              refine kx_iast (c := 260) (j := (80 + 7 * K + 1)) (m := 650) rfl rfl (by decide) (by decide) (by omega) ?_
              refine kx_go 1 (pc' := 95) (L' := [(5, .inl (Int32.ofNat (80 + 7 * K))), (0, .inr (.inr (.inl (some 259)))), (1, .inl (a)), (2, .inl (b)), (3, .inl (c)), (4, .inl (e))]) (S' := [.inr (.inr (.inl (some 259)))]) (h' := (kc_upd (kc_upd h 260 (80 + 7 * K) (.inl (a))) 260 (80 + 7 * K + 1) (.inl (b)))) (by with_unfolding_all rfl) ?_
              refine kx_getf (c := 259) (v := .inr (.inr (.inl (some 260)))) rfl (by decide) ((fu_ne (by omega)).trans ((fu_ne (by omega)).trans (kx_ofr (hw _ _ _ kz_k.1)))) ?_
              refine kx_go 4 (pc' := 103) (L' := [(5, .inl (Int32.ofNat (80 + 7 * K))), (0, .inr (.inr (.inl (some 259)))), (1, .inl (a)), (2, .inl (b)), (3, .inl (c)), (4, .inl (e))]) (S' := [.inl (c), .inl ((Int32.ofNat (80 + 7 * K)) + (Int32.ofNat 2)), .inr (.inr (.inl (some 260)))]) (h' := (kc_upd (kc_upd h 260 (80 + 7 * K) (.inl (a))) 260 (80 + 7 * K + 1) (.inl (b)))) (by with_unfolding_all rfl) ?_
              rw [kx_add]
              refine kx_iast (c := 260) (j := (80 + 7 * K + 2)) (m := 650) rfl rfl (by decide) (by decide) (by omega) ?_
              refine kx_go 1 (pc' := 105) (L' := [(5, .inl (Int32.ofNat (80 + 7 * K))), (0, .inr (.inr (.inl (some 259)))), (1, .inl (a)), (2, .inl (b)), (3, .inl (c)), (4, .inl (e))]) (S' := [.inr (.inr (.inl (some 259)))]) (h' := (kc_upd (kc_upd (kc_upd h 260 (80 + 7 * K) (.inl (a))) 260 (80 + 7 * K + 1) (.inl (b))) 260 (80 + 7 * K + 2) (.inl (c)))) (by with_unfolding_all rfl) ?_
              refine kx_getf (c := 259) (v := .inr (.inr (.inl (some 260)))) rfl (by decide) ((fu_ne (by omega)).trans ((fu_ne (by omega)).trans ((fu_ne (by omega)).trans (kx_ofr (hw _ _ _ kz_k.1))))) ?_
              refine kx_go 4 (pc' := 114) (L' := [(5, .inl (Int32.ofNat (80 + 7 * K))), (0, .inr (.inr (.inl (some 259)))), (1, .inl (a)), (2, .inl (b)), (3, .inl (c)), (4, .inl (e))]) (S' := [.inl (e), .inl ((Int32.ofNat (80 + 7 * K)) + (Int32.ofNat 3)), .inr (.inr (.inl (some 260)))]) (h' := (kc_upd (kc_upd (kc_upd h 260 (80 + 7 * K) (.inl (a))) 260 (80 + 7 * K + 1) (.inl (b))) 260 (80 + 7 * K + 2) (.inl (c)))) (by with_unfolding_all rfl) ?_
              rw [kx_add]
              refine kx_iast (c := 260) (j := (80 + 7 * K + 3)) (m := 650) rfl rfl (by decide) (by decide) (by omega) ?_
              refine kx_go 1 (pc' := 116) (L' := [(5, .inl (Int32.ofNat (80 + 7 * K))), (0, .inr (.inr (.inl (some 259)))), (1, .inl (a)), (2, .inl (b)), (3, .inl (c)), (4, .inl (e))]) (S' := [.inr (.inr (.inl (some 259)))]) (h' := (kc_upd (kc_upd (kc_upd (kc_upd h 260 (80 + 7 * K) (.inl (a))) 260 (80 + 7 * K + 1) (.inl (b))) 260 (80 + 7 * K + 2) (.inl (c))) 260 (80 + 7 * K + 3) (.inl (e)))) (by with_unfolding_all rfl) ?_
              refine kx_getf (c := 259) (v := .inr (.inr (.inl (some 260)))) rfl (by decide) ((fu_ne (by omega)).trans ((fu_ne (by omega)).trans ((fu_ne (by omega)).trans ((fu_ne (by omega)).trans (kx_ofr (hw _ _ _ kz_k.1)))))) ?_
              refine kx_go 4 (pc' := 125) (L' := [(5, .inl (Int32.ofNat (80 + 7 * K))), (0, .inr (.inr (.inl (some 259)))), (1, .inl (a)), (2, .inl (b)), (3, .inl (c)), (4, .inl (e))]) (S' := [.inl (Int32.ofNat 100), .inl ((Int32.ofNat (80 + 7 * K)) + (Int32.ofNat 4)), .inr (.inr (.inl (some 260)))]) (h' := (kc_upd (kc_upd (kc_upd (kc_upd h 260 (80 + 7 * K) (.inl (a))) 260 (80 + 7 * K + 1) (.inl (b))) 260 (80 + 7 * K + 2) (.inl (c))) 260 (80 + 7 * K + 3) (.inl (e)))) (by with_unfolding_all rfl) ?_
              rw [kx_add]
              refine kx_iast (c := 260) (j := (80 + 7 * K + 4)) (m := 650) rfl rfl (by decide) (by decide) (by omega) ?_
              refine kx_go 1 (pc' := 127) (L' := [(5, .inl (Int32.ofNat (80 + 7 * K))), (0, .inr (.inr (.inl (some 259)))), (1, .inl (a)), (2, .inl (b)), (3, .inl (c)), (4, .inl (e))]) (S' := [.inr (.inr (.inl (some 259)))]) (h' := (kc_upd (kc_upd (kc_upd (kc_upd (kc_upd h 260 (80 + 7 * K) (.inl (a))) 260 (80 + 7 * K + 1) (.inl (b))) 260 (80 + 7 * K + 2) (.inl (c))) 260 (80 + 7 * K + 3) (.inl (e))) 260 (80 + 7 * K + 4) (.inl (Int32.ofNat 100)))) (by with_unfolding_all rfl) ?_
              refine kx_getf (c := 259) (v := .inr (.inr (.inl (some 260)))) rfl (by decide) ((fu_ne (by omega)).trans ((fu_ne (by omega)).trans ((fu_ne (by omega)).trans ((fu_ne (by omega)).trans ((fu_ne (by omega)).trans (kx_ofr (hw _ _ _ kz_k.1))))))) ?_
              refine kx_go 4 (pc' := 135) (L' := [(5, .inl (Int32.ofNat (80 + 7 * K))), (0, .inr (.inr (.inl (some 259)))), (1, .inl (a)), (2, .inl (b)), (3, .inl (c)), (4, .inl (e))]) (S' := [.inl (Int32.ofNat 0), .inl ((Int32.ofNat (80 + 7 * K)) + (Int32.ofNat 5)), .inr (.inr (.inl (some 260)))]) (h' := (kc_upd (kc_upd (kc_upd (kc_upd (kc_upd h 260 (80 + 7 * K) (.inl (a))) 260 (80 + 7 * K + 1) (.inl (b))) 260 (80 + 7 * K + 2) (.inl (c))) 260 (80 + 7 * K + 3) (.inl (e))) 260 (80 + 7 * K + 4) (.inl (Int32.ofNat 100)))) (by with_unfolding_all rfl) ?_
              rw [kx_add]
              refine kx_iast (c := 260) (j := (80 + 7 * K + 5)) (m := 650) rfl rfl (by decide) (by decide) (by omega) ?_
              refine kx_go 1 (pc' := 137) (L' := [(5, .inl (Int32.ofNat (80 + 7 * K))), (0, .inr (.inr (.inl (some 259)))), (1, .inl (a)), (2, .inl (b)), (3, .inl (c)), (4, .inl (e))]) (S' := [.inr (.inr (.inl (some 259)))]) (h' := (kc_upd (kc_upd (kc_upd (kc_upd (kc_upd (kc_upd h 260 (80 + 7 * K) (.inl (a))) 260 (80 + 7 * K + 1) (.inl (b))) 260 (80 + 7 * K + 2) (.inl (c))) 260 (80 + 7 * K + 3) (.inl (e))) 260 (80 + 7 * K + 4) (.inl (Int32.ofNat 100))) 260 (80 + 7 * K + 5) (.inl (Int32.ofNat 0)))) (by with_unfolding_all rfl) ?_
              refine kx_getf (c := 259) (v := .inr (.inr (.inl (some 260)))) rfl (by decide) ((fu_ne (by omega)).trans ((fu_ne (by omega)).trans ((fu_ne (by omega)).trans ((fu_ne (by omega)).trans ((fu_ne (by omega)).trans ((fu_ne (by omega)).trans (kx_ofr (hw _ _ _ kz_k.1)))))))) ?_
              refine kx_go 4 (pc' := 146) (L' := [(5, .inl (Int32.ofNat (80 + 7 * K))), (0, .inr (.inr (.inl (some 259)))), (1, .inl (a)), (2, .inl (b)), (3, .inl (c)), (4, .inl (e))]) (S' := [.inl (Int32.ofInt (-1)), .inl ((Int32.ofNat (80 + 7 * K)) + (Int32.ofNat 6)), .inr (.inr (.inl (some 260)))]) (h' := (kc_upd (kc_upd (kc_upd (kc_upd (kc_upd (kc_upd h 260 (80 + 7 * K) (.inl (a))) 260 (80 + 7 * K + 1) (.inl (b))) 260 (80 + 7 * K + 2) (.inl (c))) 260 (80 + 7 * K + 3) (.inl (e))) 260 (80 + 7 * K + 4) (.inl (Int32.ofNat 100))) 260 (80 + 7 * K + 5) (.inl (Int32.ofNat 0)))) (by with_unfolding_all rfl) ?_
              rw [kx_add]
              refine kx_iast (c := 260) (j := (80 + 7 * K + 6)) (m := 650) rfl rfl (by decide) (by decide) (by omega) ?_
              refine kx_go 1 (pc' := 148) (L' := [(5, .inl (Int32.ofNat (80 + 7 * K))), (0, .inr (.inr (.inl (some 259)))), (1, .inl (a)), (2, .inl (b)), (3, .inl (c)), (4, .inl (e))]) (S' := [.inr (.inr (.inl (some 259)))]) (h' := (kc_upd (kc_upd (kc_upd (kc_upd (kc_upd (kc_upd (kc_upd h 260 (80 + 7 * K) (.inl (a))) 260 (80 + 7 * K + 1) (.inl (b))) 260 (80 + 7 * K + 2) (.inl (c))) 260 (80 + 7 * K + 3) (.inl (e))) 260 (80 + 7 * K + 4) (.inl (Int32.ofNat 100))) 260 (80 + 7 * K + 5) (.inl (Int32.ofNat 0))) 260 (80 + 7 * K + 6) (.inl (Int32.ofInt (-1))))) (by with_unfolding_all rfl) ?_
              refine kx_getf (c := 259) (v := .inr (.inr (.inl (some 260)))) rfl (by decide) ((fu_ne (by omega)).trans ((fu_ne (by omega)).trans ((fu_ne (by omega)).trans ((fu_ne (by omega)).trans ((fu_ne (by omega)).trans ((fu_ne (by omega)).trans ((fu_ne (by omega)).trans (kx_ofr (hw _ _ _ kz_k.1))))))))) ?_
              refine kx_go 2 (pc' := 153) (L' := [(5, .inl (Int32.ofNat (80 + 7 * K))), (0, .inr (.inr (.inl (some 259)))), (1, .inl (a)), (2, .inl (b)), (3, .inl (c)), (4, .inl (e))]) (S' := [.inl (Int32.ofNat 2), .inr (.inr (.inl (some 260))), .inl (Int32.ofNat 2), .inr (.inr (.inl (some 260)))]) (h' := (kc_upd (kc_upd (kc_upd (kc_upd (kc_upd (kc_upd (kc_upd h 260 (80 + 7 * K) (.inl (a))) 260 (80 + 7 * K + 1) (.inl (b))) 260 (80 + 7 * K + 2) (.inl (c))) 260 (80 + 7 * K + 3) (.inl (e))) 260 (80 + 7 * K + 4) (.inl (Int32.ofNat 100))) 260 (80 + 7 * K + 5) (.inl (Int32.ofNat 0))) 260 (80 + 7 * K + 6) (.inl (Int32.ofInt (-1))))) (by with_unfolding_all rfl) ?_
              refine kx_iald (c := 260) (j := 2) (m := 650) (v := .inl (Int32.ofNat K)) rfl rfl (by decide) (by decide) (by omega) ((fu_ne (by omega)).trans ((fu_ne (by omega)).trans ((fu_ne (by omega)).trans ((fu_ne (by omega)).trans ((fu_ne (by omega)).trans ((fu_ne (by omega)).trans ((fu_ne (by omega)).trans ((hC 2 (by decide) (by decide)).trans (by rw [eK]))))))))) ?_
              refine kx_go 2 (pc' := 156) (L' := [(5, .inl (Int32.ofNat (80 + 7 * K))), (0, .inr (.inr (.inl (some 259)))), (1, .inl (a)), (2, .inl (b)), (3, .inl (c)), (4, .inl (e))]) (S' := [.inl ((Int32.ofNat K) + (Int32.ofNat 1)), .inl (Int32.ofNat 2), .inr (.inr (.inl (some 260)))]) (h' := (kc_upd (kc_upd (kc_upd (kc_upd (kc_upd (kc_upd (kc_upd h 260 (80 + 7 * K) (.inl (a))) 260 (80 + 7 * K + 1) (.inl (b))) 260 (80 + 7 * K + 2) (.inl (c))) 260 (80 + 7 * K + 3) (.inl (e))) 260 (80 + 7 * K + 4) (.inl (Int32.ofNat 100))) 260 (80 + 7 * K + 5) (.inl (Int32.ofNat 0))) 260 (80 + 7 * K + 6) (.inl (Int32.ofInt (-1))))) (by with_unfolding_all rfl) ?_
              rw [kx_inc1]
              refine kx_iast (c := 260) (j := 2) (m := 650) rfl rfl (by decide) (by decide) (by omega) ?_
              refine kx_go 1 (pc' := 158) (L' := [(5, .inl (Int32.ofNat (80 + 7 * K))), (0, .inr (.inr (.inl (some 259)))), (1, .inl (a)), (2, .inl (b)), (3, .inl (c)), (4, .inl (e))]) (S' := [.inr (.inr (.inl (some 259)))]) (h' := (kc_upd (kc_upd (kc_upd (kc_upd (kc_upd (kc_upd (kc_upd (kc_upd h 260 (80 + 7 * K) (.inl (a))) 260 (80 + 7 * K + 1) (.inl (b))) 260 (80 + 7 * K + 2) (.inl (c))) 260 (80 + 7 * K + 3) (.inl (e))) 260 (80 + 7 * K + 4) (.inl (Int32.ofNat 100))) 260 (80 + 7 * K + 5) (.inl (Int32.ofNat 0))) 260 (80 + 7 * K + 6) (.inl (Int32.ofInt (-1)))) 260 2 (.inl (Int32.ofNat (K + 1))))) (by with_unfolding_all rfl) ?_
              refine kx_getf (c := 259) (v := .inr (.inr (.inl (some 260)))) rfl (by decide) ((fu_ne (by omega)).trans ((fu_ne (by omega)).trans ((fu_ne (by omega)).trans ((fu_ne (by omega)).trans ((fu_ne (by omega)).trans ((fu_ne (by omega)).trans ((fu_ne (by omega)).trans ((fu_ne (by omega)).trans (kx_ofr (hw _ _ _ kz_k.1)))))))))) ?_
              refine kx_go 1 (pc' := 162) (L' := [(5, .inl (Int32.ofNat (80 + 7 * K))), (0, .inr (.inr (.inl (some 259)))), (1, .inl (a)), (2, .inl (b)), (3, .inl (c)), (4, .inl (e))]) (S' := [.inl (Int32.ofNat 2), .inr (.inr (.inl (some 260)))]) (h' := (kc_upd (kc_upd (kc_upd (kc_upd (kc_upd (kc_upd (kc_upd (kc_upd h 260 (80 + 7 * K) (.inl (a))) 260 (80 + 7 * K + 1) (.inl (b))) 260 (80 + 7 * K + 2) (.inl (c))) 260 (80 + 7 * K + 3) (.inl (e))) 260 (80 + 7 * K + 4) (.inl (Int32.ofNat 100))) 260 (80 + 7 * K + 5) (.inl (Int32.ofNat 0))) 260 (80 + 7 * K + 6) (.inl (Int32.ofInt (-1)))) 260 2 (.inl (Int32.ofNat (K + 1))))) (by with_unfolding_all rfl) ?_
              refine kx_iald (c := 260) (j := 2) (m := 650) (v := .inl (Int32.ofNat (K + 1))) rfl rfl (by decide) (by decide) (by omega) (fu_eq) ?_
              refine kx_go 2 (pc' := 165) (L' := [(5, .inl (Int32.ofNat (80 + 7 * K))), (0, .inr (.inr (.inl (some 259)))), (1, .inl (a)), (2, .inl (b)), (3, .inl (c)), (4, .inl (e))]) (S' := [.inl ((Int32.ofNat (K + 1)) - (Int32.ofNat 1))]) (h' := (kc_upd (kc_upd (kc_upd (kc_upd (kc_upd (kc_upd (kc_upd (kc_upd h 260 (80 + 7 * K) (.inl (a))) 260 (80 + 7 * K + 1) (.inl (b))) 260 (80 + 7 * K + 2) (.inl (c))) 260 (80 + 7 * K + 3) (.inl (e))) 260 (80 + 7 * K + 4) (.inl (Int32.ofNat 100))) 260 (80 + 7 * K + 5) (.inl (Int32.ofNat 0))) 260 (80 + 7 * K + 6) (.inl (Int32.ofInt (-1)))) 260 2 (.inl (Int32.ofNat (K + 1))))) (by with_unfolding_all rfl) ?_
              rw [fu_mu3 (by omega)]
              have key : fu_load B a b c e = (Int32.ofNat K, [(80 + 7 * K + 0, a), (80 + 7 * K + 1, b), (80 + 7 * K + 2, c), (80 + 7 * K + 3, e), (80 + 7 * K + 4, Int32.ofNat 100), (80 + 7 * K + 5, Int32.ofNat 0), (80 + 7 * K + 6, Int32.ofInt (-1)), (2, Int32.ofNat (K + 1))]) := by unfold fu_load; rw [if_pos (by rw [e1, e2, e3, e4, decide_eq_false e5]; rfl), eK, kx_inc1, if_pos (by rw [kx_ti (by omega)]; omega), fu_tn (by omega)]
              exact kc_ret_ok rfl (rv := some (.inl (Int32.ofNat K))) rfl ⟨fu_e1 key, fu_er (h := h) key⟩
end
section
-- 99.zp9
/-! ===== image, from: answers alike ===== -/
def fu_af (b : Bool) : Int32 := match b with
  | true => Int32.ofNat 1
  | false => Int32.ofInt (-3)
set_option maxRecDepth 20000 in
theorem fs_Ximage0 {g : kc_G} {d : Nat} {h : kc_H} (hg : kc_ok g) (hw : kd_wt kd_ty h) : kc_Con g (d + 4) 157 [.inr (.inr (.inl (some 0))), .inl (Int32.ofNat 0)] h (fun rv h' => rv = some (.inl (Int32.ofNat 1)) ∧ h' = kc_upd (kt_K h 1 64 31) 126 0 (.inl (kp_b true))) := by
  have k0 := kx_ofr (hw _ _ _ kv_k0.1)
  have k2 := kx_ofr (hw _ _ _ ks_k0.1)
  have k3 := kx_ofr (hw _ _ _ ks_k0.2.1)
  have kb := kx_ofr (hw _ _ _ ks_k0.2.2.1)
  refine kc_Con_new hg (M := wk_m157) rfl rfl rfl (show 2 ≤ 2 by decide) ?_
  refine kx_go 3 (pc' := 3) (L' := [(0, .inr (.inr (.inl (some 0)))), (1, .inl (Int32.ofNat 0))]) (S' := [.inl (Int32.ofNat 1), .inl (Int32.ofNat 0), .inl (Int32.ofNat 0)]) (h' := h) (by with_unfolding_all rfl) ?_
  refine kc_call_rule (M2 := wk_m19) (av := [.inl (Int32.ofNat 0), .inl (Int32.ofNat 0), .inl (Int32.ofNat 1)]) (r := []) rfl rfl (kc_Con_le (kq_btw (d := 0) hg (by decide) (by decide) (by decide)) (by omega)) (fun rv h' hq => ?_)
  obtain ⟨rfl, rfl⟩ := hq
  show kc_Ev g (d + 3) wk_m157 _ 6 [(0, .inr (.inr (.inl (some 0)))), (1, .inl (Int32.ofNat 0))] [.inl (kp_b (decide (0 ≤ 0 ∧ 0 ≤ 1)))] h'
  refine kx_go 1 (pc' := (if kc_cnd .ne (kp_b (decide (0 ≤ 0 ∧ 0 ≤ 1))).toInt 0 then 12 else 9)) (L' := [(0, .inr (.inr (.inl (some 0)))), (1, .inl (Int32.ofNat 0))]) (S' := []) (h' := h') (by with_unfolding_all rfl) ?_
  rw [if_pos (kx_b1.mpr (decide_eq_true (by decide)))]
  refine kx_go 1 (pc' := 13) (L' := [(0, .inr (.inr (.inl (some 0)))), (1, .inl (Int32.ofNat 0))]) (S' := [.inr (.inr (.inl (some 0)))]) (h' := h') (by with_unfolding_all rfl) ?_
  refine kx_getf (c := 0) (v := .inr (.inr (.inl (some 63)))) rfl (by decide) k2 ?_
  refine kx_go 1 (pc' := 17) (L' := [(0, .inr (.inr (.inl (some 0)))), (1, .inl (Int32.ofNat 0))]) (S' := [.inl (Int32.ofNat 0), .inr (.inr (.inl (some 63)))]) (h' := h') (by with_unfolding_all rfl) ?_
  refine kx_aald (c := 63) (j := 0) (m := 2) (t0 := 3) (v := .inr (.inr (.inl (some 64)))) rfl rfl (by decide) (by decide) (by decide) (by decide) kb ?_
  refine kx_go 1 (pc' := 19) (L' := [(0, .inr (.inr (.inl (some 0)))), (1, .inl (Int32.ofNat 0))]) (S' := [.inr (.inr (.inl (some 0))), .inr (.inr (.inl (some 64)))]) (h' := h') (by with_unfolding_all rfl) ?_
  refine kx_getf (c := 0) (v := .inr (.inr (.inl (some 1)))) rfl (by decide) k0 ?_
  refine kc_call_rule (M2 := wk_m68) (av := [.inr (.inr (.inl (some 64))), .inr (.inr (.inl (some 1)))]) (r := []) rfl rfl (kc_Con_le (kt_take1_64 (d := 0) hg hw) (by omega)) (fun rv h2 hq => ?_)
  obtain ⟨rfl, rfl⟩ := hq
  show kc_Ev g (d + 3) wk_m157 _ 25 [(0, .inr (.inr (.inl (some 0)))), (1, .inl (Int32.ofNat 0))] [] (kt_K h' 1 64 31)
  refine kx_go 1 (pc' := 26) (L' := [(0, .inr (.inr (.inl (some 0)))), (1, .inl (Int32.ofNat 0))]) (S' := [.inr (.inr (.inl (some 0)))]) (h' := (kt_K h' 1 64 31)) (by with_unfolding_all rfl) ?_
  refine kx_getf (c := 0) (v := .inr (.inr (.inl (some 126)))) rfl (by decide) ((show kt_K h' 1 64 31 0 3 = h' 0 3 from if_neg (by decide)).trans k3) ?_
  refine kx_go 2 (pc' := 31) (L' := [(0, .inr (.inr (.inl (some 0)))), (1, .inl (Int32.ofNat 0))]) (S' := [.inl (Int32.ofNat 1), .inl (Int32.ofNat 0), .inr (.inr (.inl (some 126)))]) (h' := (kt_K h' 1 64 31)) (by with_unfolding_all rfl) ?_
  refine kx_bast (w := true) rfl (c := 126) (j := 0) (m := 2) rfl (by decide) (by decide) (by decide) ?_
  refine kx_go 1 (pc' := 33) (L' := [(0, .inr (.inr (.inl (some 0)))), (1, .inl (Int32.ofNat 0))]) (S' := [.inl (Int32.ofNat 1)]) (h' := (kc_upd (kt_K h' 1 64 31) 126 0 (.inl (kp_b true)))) (by with_unfolding_all rfl) ?_
  exact kc_ret_ok rfl (rv := some (.inl (Int32.ofNat 1))) rfl ⟨rfl, rfl⟩
set_option maxRecDepth 20000 in
theorem fs_Xfrom0 {g : kc_G} {d : Nat} {h : kc_H} {b : Bool} (hg : kc_ok g) (hw : kd_wt kd_ty h) (hb : h 126 0 = .inl (kp_b b)) : kc_Con g (d + 4) 159 [.inr (.inr (.inl (some 0))), .inl (Int32.ofNat 0)] h (fun rv h' => rv = some (.inl (fu_af b)) ∧ ((b = true ∧ h' = kt_K h 64 1 31) ∨ (b = false ∧ h' = h))) := by
  have k0 := kx_ofr (hw _ _ _ kv_k0.1)
  have k2 := kx_ofr (hw _ _ _ ks_k0.1)
  have k3 := kx_ofr (hw _ _ _ ks_k0.2.1)
  have kb := kx_ofr (hw _ _ _ ks_k0.2.2.1)
  refine kc_Con_new hg (M := wk_m159) rfl rfl rfl (show 2 ≤ 2 by decide) ?_
  refine kx_go 3 (pc' := 3) (L' := [(0, .inr (.inr (.inl (some 0)))), (1, .inl (Int32.ofNat 0))]) (S' := [.inl (Int32.ofNat 1), .inl (Int32.ofNat 0), .inl (Int32.ofNat 0)]) (h' := h) (by with_unfolding_all rfl) ?_
  refine kc_call_rule (M2 := wk_m19) (av := [.inl (Int32.ofNat 0), .inl (Int32.ofNat 0), .inl (Int32.ofNat 1)]) (r := []) rfl rfl (kc_Con_le (kq_btw (d := 0) hg (by decide) (by decide) (by decide)) (by omega)) (fun rv h' hq => ?_)
  obtain ⟨rfl, rfl⟩ := hq
  show kc_Ev g (d + 3) wk_m159 _ 6 [(0, .inr (.inr (.inl (some 0)))), (1, .inl (Int32.ofNat 0))] [.inl (kp_b (decide (0 ≤ 0 ∧ 0 ≤ 1)))] h'
  refine kx_go 1 (pc' := (if kc_cnd .ne (kp_b (decide (0 ≤ 0 ∧ 0 ≤ 1))).toInt 0 then 12 else 9)) (L' := [(0, .inr (.inr (.inl (some 0)))), (1, .inl (Int32.ofNat 0))]) (S' := []) (h' := h') (by with_unfolding_all rfl) ?_
  rw [if_pos (kx_b1.mpr (decide_eq_true (by decide)))]
  refine kx_go 1 (pc' := 13) (L' := [(0, .inr (.inr (.inl (some 0)))), (1, .inl (Int32.ofNat 0))]) (S' := [.inr (.inr (.inl (some 0)))]) (h' := h') (by with_unfolding_all rfl) ?_
  refine kx_getf (c := 0) (v := .inr (.inr (.inl (some 126)))) rfl (by decide) k3 ?_
  refine kx_go 1 (pc' := 17) (L' := [(0, .inr (.inr (.inl (some 0)))), (1, .inl (Int32.ofNat 0))]) (S' := [.inl (Int32.ofNat 0), .inr (.inr (.inl (some 126)))]) (h' := h') (by with_unfolding_all rfl) ?_
  refine kx_bald rfl (c := 126) (j := 0) (m := 2) (v := .inl (kp_b b)) rfl (by decide) (by decide) (by decide) hb ?_
  refine kx_go 1 (pc' := (if kc_cnd .ne (kp_b b).toInt 0 then 24 else 21)) (L' := [(0, .inr (.inr (.inl (some 0)))), (1, .inl (Int32.ofNat 0))]) (S' := []) (h' := h') (by with_unfolding_all rfl) ?_
  cases b with
  | false =>
    rw [if_neg (fun q => by have := kx_b1.mp q; cases this)]
    refine kx_go 1 (pc' := 23) (L' := [(0, .inr (.inr (.inl (some 0)))), (1, .inl (Int32.ofNat 0))]) (S' := [.inl (Int32.ofInt (-3))]) (h' := h') (by with_unfolding_all rfl) ?_
    exact kc_ret_ok rfl (rv := some (.inl (Int32.ofInt (-3)))) rfl ⟨rfl, Or.inr ⟨rfl, rfl⟩⟩
  | true =>
    rw [if_pos (kx_b1.mpr rfl)]
    refine kx_go 1 (pc' := 25) (L' := [(0, .inr (.inr (.inl (some 0)))), (1, .inl (Int32.ofNat 0))]) (S' := [.inr (.inr (.inl (some 0)))]) (h' := h') (by with_unfolding_all rfl) ?_
    refine kx_getf (c := 0) (v := .inr (.inr (.inl (some 1)))) rfl (by decide) k0 ?_
    refine kx_go 1 (pc' := 29) (L' := [(0, .inr (.inr (.inl (some 0)))), (1, .inl (Int32.ofNat 0))]) (S' := [.inr (.inr (.inl (some 0))), .inr (.inr (.inl (some 1)))]) (h' := h') (by with_unfolding_all rfl) ?_
    refine kx_getf (c := 0) (v := .inr (.inr (.inl (some 63)))) rfl (by decide) k2 ?_
    refine kx_go 1 (pc' := 33) (L' := [(0, .inr (.inr (.inl (some 0)))), (1, .inl (Int32.ofNat 0))]) (S' := [.inl (Int32.ofNat 0), .inr (.inr (.inl (some 63))), .inr (.inr (.inl (some 1)))]) (h' := h') (by with_unfolding_all rfl) ?_
    refine kx_aald (c := 63) (j := 0) (m := 2) (t0 := 3) (v := .inr (.inr (.inl (some 64)))) rfl rfl (by decide) (by decide) (by decide) (by decide) kb ?_
    refine kc_call_rule (M2 := wk_m68) (av := [.inr (.inr (.inl (some 1))), .inr (.inr (.inl (some 64)))]) (r := []) rfl rfl (kc_Con_le (kt_take64_1 (d := 0) hg hw) (by omega)) (fun rv h2 hq => ?_)
    obtain ⟨rfl, rfl⟩ := hq
    show kc_Ev g (d + 3) wk_m159 _ 37 [(0, .inr (.inr (.inl (some 0)))), (1, .inl (Int32.ofNat 0))] [] (kt_K h' 64 1 31)
    refine kx_go 1 (pc' := 38) (L' := [(0, .inr (.inr (.inl (some 0)))), (1, .inl (Int32.ofNat 0))]) (S' := [.inl (Int32.ofNat 1)]) (h' := (kt_K h' 64 1 31)) (by with_unfolding_all rfl) ?_
    exact kc_ret_ok rfl (rv := some (.inl (Int32.ofNat 1))) rfl ⟨rfl, Or.inl ⟨rfl, rfl⟩⟩
set_option maxRecDepth 20000 in
theorem fs_Ximage1 {g : kc_G} {d : Nat} {h : kc_H} (hg : kc_ok g) (hw : kd_wt kd_ty h) : kc_Con g (d + 4) 157 [.inr (.inr (.inl (some 0))), .inl (Int32.ofNat 1)] h (fun rv h' => rv = some (.inl (Int32.ofNat 1)) ∧ h' = kc_upd (kt_K h 1 95 31) 126 1 (.inl (kp_b true))) := by
  have k0 := kx_ofr (hw _ _ _ kv_k0.1)
  have k2 := kx_ofr (hw _ _ _ ks_k0.1)
  have k3 := kx_ofr (hw _ _ _ ks_k0.2.1)
  have kb := kx_ofr (hw _ _ _ ks_k0.2.2.2)
  refine kc_Con_new hg (M := wk_m157) rfl rfl rfl (show 2 ≤ 2 by decide) ?_
  refine kx_go 3 (pc' := 3) (L' := [(0, .inr (.inr (.inl (some 0)))), (1, .inl (Int32.ofNat 1))]) (S' := [.inl (Int32.ofNat 1), .inl (Int32.ofNat 0), .inl (Int32.ofNat 1)]) (h' := h) (by with_unfolding_all rfl) ?_
  refine kc_call_rule (M2 := wk_m19) (av := [.inl (Int32.ofNat 1), .inl (Int32.ofNat 0), .inl (Int32.ofNat 1)]) (r := []) rfl rfl (kc_Con_le (kq_btw (d := 0) hg (by decide) (by decide) (by decide)) (by omega)) (fun rv h' hq => ?_)
  obtain ⟨rfl, rfl⟩ := hq
  show kc_Ev g (d + 3) wk_m157 _ 6 [(0, .inr (.inr (.inl (some 0)))), (1, .inl (Int32.ofNat 1))] [.inl (kp_b (decide (0 ≤ 1 ∧ 1 ≤ 1)))] h'
  refine kx_go 1 (pc' := (if kc_cnd .ne (kp_b (decide (0 ≤ 1 ∧ 1 ≤ 1))).toInt 0 then 12 else 9)) (L' := [(0, .inr (.inr (.inl (some 0)))), (1, .inl (Int32.ofNat 1))]) (S' := []) (h' := h') (by with_unfolding_all rfl) ?_
  rw [if_pos (kx_b1.mpr (decide_eq_true (by decide)))]
  refine kx_go 1 (pc' := 13) (L' := [(0, .inr (.inr (.inl (some 0)))), (1, .inl (Int32.ofNat 1))]) (S' := [.inr (.inr (.inl (some 0)))]) (h' := h') (by with_unfolding_all rfl) ?_
  refine kx_getf (c := 0) (v := .inr (.inr (.inl (some 63)))) rfl (by decide) k2 ?_
  refine kx_go 1 (pc' := 17) (L' := [(0, .inr (.inr (.inl (some 0)))), (1, .inl (Int32.ofNat 1))]) (S' := [.inl (Int32.ofNat 1), .inr (.inr (.inl (some 63)))]) (h' := h') (by with_unfolding_all rfl) ?_
  refine kx_aald (c := 63) (j := 1) (m := 2) (t0 := 3) (v := .inr (.inr (.inl (some 95)))) rfl rfl (by decide) (by decide) (by decide) (by decide) kb ?_
  refine kx_go 1 (pc' := 19) (L' := [(0, .inr (.inr (.inl (some 0)))), (1, .inl (Int32.ofNat 1))]) (S' := [.inr (.inr (.inl (some 0))), .inr (.inr (.inl (some 95)))]) (h' := h') (by with_unfolding_all rfl) ?_
  refine kx_getf (c := 0) (v := .inr (.inr (.inl (some 1)))) rfl (by decide) k0 ?_
  refine kc_call_rule (M2 := wk_m68) (av := [.inr (.inr (.inl (some 95))), .inr (.inr (.inl (some 1)))]) (r := []) rfl rfl (kc_Con_le (kt_take1_95 (d := 0) hg hw) (by omega)) (fun rv h2 hq => ?_)
  obtain ⟨rfl, rfl⟩ := hq
  show kc_Ev g (d + 3) wk_m157 _ 25 [(0, .inr (.inr (.inl (some 0)))), (1, .inl (Int32.ofNat 1))] [] (kt_K h' 1 95 31)
  refine kx_go 1 (pc' := 26) (L' := [(0, .inr (.inr (.inl (some 0)))), (1, .inl (Int32.ofNat 1))]) (S' := [.inr (.inr (.inl (some 0)))]) (h' := (kt_K h' 1 95 31)) (by with_unfolding_all rfl) ?_
  refine kx_getf (c := 0) (v := .inr (.inr (.inl (some 126)))) rfl (by decide) ((show kt_K h' 1 95 31 0 3 = h' 0 3 from if_neg (by decide)).trans k3) ?_
  refine kx_go 2 (pc' := 31) (L' := [(0, .inr (.inr (.inl (some 0)))), (1, .inl (Int32.ofNat 1))]) (S' := [.inl (Int32.ofNat 1), .inl (Int32.ofNat 1), .inr (.inr (.inl (some 126)))]) (h' := (kt_K h' 1 95 31)) (by with_unfolding_all rfl) ?_
  refine kx_bast (w := true) rfl (c := 126) (j := 1) (m := 2) rfl (by decide) (by decide) (by decide) ?_
  refine kx_go 1 (pc' := 33) (L' := [(0, .inr (.inr (.inl (some 0)))), (1, .inl (Int32.ofNat 1))]) (S' := [.inl (Int32.ofNat 1)]) (h' := (kc_upd (kt_K h' 1 95 31) 126 1 (.inl (kp_b true)))) (by with_unfolding_all rfl) ?_
  exact kc_ret_ok rfl (rv := some (.inl (Int32.ofNat 1))) rfl ⟨rfl, rfl⟩
set_option maxRecDepth 20000 in
theorem fs_Xfrom1 {g : kc_G} {d : Nat} {h : kc_H} {b : Bool} (hg : kc_ok g) (hw : kd_wt kd_ty h) (hb : h 126 1 = .inl (kp_b b)) : kc_Con g (d + 4) 159 [.inr (.inr (.inl (some 0))), .inl (Int32.ofNat 1)] h (fun rv h' => rv = some (.inl (fu_af b)) ∧ ((b = true ∧ h' = kt_K h 95 1 31) ∨ (b = false ∧ h' = h))) := by
  have k0 := kx_ofr (hw _ _ _ kv_k0.1)
  have k2 := kx_ofr (hw _ _ _ ks_k0.1)
  have k3 := kx_ofr (hw _ _ _ ks_k0.2.1)
  have kb := kx_ofr (hw _ _ _ ks_k0.2.2.2)
  refine kc_Con_new hg (M := wk_m159) rfl rfl rfl (show 2 ≤ 2 by decide) ?_
  refine kx_go 3 (pc' := 3) (L' := [(0, .inr (.inr (.inl (some 0)))), (1, .inl (Int32.ofNat 1))]) (S' := [.inl (Int32.ofNat 1), .inl (Int32.ofNat 0), .inl (Int32.ofNat 1)]) (h' := h) (by with_unfolding_all rfl) ?_
  refine kc_call_rule (M2 := wk_m19) (av := [.inl (Int32.ofNat 1), .inl (Int32.ofNat 0), .inl (Int32.ofNat 1)]) (r := []) rfl rfl (kc_Con_le (kq_btw (d := 0) hg (by decide) (by decide) (by decide)) (by omega)) (fun rv h' hq => ?_)
  obtain ⟨rfl, rfl⟩ := hq
  show kc_Ev g (d + 3) wk_m159 _ 6 [(0, .inr (.inr (.inl (some 0)))), (1, .inl (Int32.ofNat 1))] [.inl (kp_b (decide (0 ≤ 1 ∧ 1 ≤ 1)))] h'
  refine kx_go 1 (pc' := (if kc_cnd .ne (kp_b (decide (0 ≤ 1 ∧ 1 ≤ 1))).toInt 0 then 12 else 9)) (L' := [(0, .inr (.inr (.inl (some 0)))), (1, .inl (Int32.ofNat 1))]) (S' := []) (h' := h') (by with_unfolding_all rfl) ?_
  rw [if_pos (kx_b1.mpr (decide_eq_true (by decide)))]
  refine kx_go 1 (pc' := 13) (L' := [(0, .inr (.inr (.inl (some 0)))), (1, .inl (Int32.ofNat 1))]) (S' := [.inr (.inr (.inl (some 0)))]) (h' := h') (by with_unfolding_all rfl) ?_
  refine kx_getf (c := 0) (v := .inr (.inr (.inl (some 126)))) rfl (by decide) k3 ?_
  refine kx_go 1 (pc' := 17) (L' := [(0, .inr (.inr (.inl (some 0)))), (1, .inl (Int32.ofNat 1))]) (S' := [.inl (Int32.ofNat 1), .inr (.inr (.inl (some 126)))]) (h' := h') (by with_unfolding_all rfl) ?_
  refine kx_bald rfl (c := 126) (j := 1) (m := 2) (v := .inl (kp_b b)) rfl (by decide) (by decide) (by decide) hb ?_
  refine kx_go 1 (pc' := (if kc_cnd .ne (kp_b b).toInt 0 then 24 else 21)) (L' := [(0, .inr (.inr (.inl (some 0)))), (1, .inl (Int32.ofNat 1))]) (S' := []) (h' := h') (by with_unfolding_all rfl) ?_
  cases b with
  | false =>
    rw [if_neg (fun q => by have := kx_b1.mp q; cases this)]
    refine kx_go 1 (pc' := 23) (L' := [(0, .inr (.inr (.inl (some 0)))), (1, .inl (Int32.ofNat 1))]) (S' := [.inl (Int32.ofInt (-3))]) (h' := h') (by with_unfolding_all rfl) ?_
    exact kc_ret_ok rfl (rv := some (.inl (Int32.ofInt (-3)))) rfl ⟨rfl, Or.inr ⟨rfl, rfl⟩⟩
  | true =>
    rw [if_pos (kx_b1.mpr rfl)]
    refine kx_go 1 (pc' := 25) (L' := [(0, .inr (.inr (.inl (some 0)))), (1, .inl (Int32.ofNat 1))]) (S' := [.inr (.inr (.inl (some 0)))]) (h' := h') (by with_unfolding_all rfl) ?_
    refine kx_getf (c := 0) (v := .inr (.inr (.inl (some 1)))) rfl (by decide) k0 ?_
    refine kx_go 1 (pc' := 29) (L' := [(0, .inr (.inr (.inl (some 0)))), (1, .inl (Int32.ofNat 1))]) (S' := [.inr (.inr (.inl (some 0))), .inr (.inr (.inl (some 1)))]) (h' := h') (by with_unfolding_all rfl) ?_
    refine kx_getf (c := 0) (v := .inr (.inr (.inl (some 63)))) rfl (by decide) k2 ?_
    refine kx_go 1 (pc' := 33) (L' := [(0, .inr (.inr (.inl (some 0)))), (1, .inl (Int32.ofNat 1))]) (S' := [.inl (Int32.ofNat 1), .inr (.inr (.inl (some 63))), .inr (.inr (.inl (some 1)))]) (h' := h') (by with_unfolding_all rfl) ?_
    refine kx_aald (c := 63) (j := 1) (m := 2) (t0 := 3) (v := .inr (.inr (.inl (some 95)))) rfl rfl (by decide) (by decide) (by decide) (by decide) kb ?_
    refine kc_call_rule (M2 := wk_m68) (av := [.inr (.inr (.inl (some 1))), .inr (.inr (.inl (some 95)))]) (r := []) rfl rfl (kc_Con_le (kt_take95_1 (d := 0) hg hw) (by omega)) (fun rv h2 hq => ?_)
    obtain ⟨rfl, rfl⟩ := hq
    show kc_Ev g (d + 3) wk_m159 _ 37 [(0, .inr (.inr (.inl (some 0)))), (1, .inl (Int32.ofNat 1))] [] (kt_K h' 95 1 31)
    refine kx_go 1 (pc' := 38) (L' := [(0, .inr (.inr (.inl (some 0)))), (1, .inl (Int32.ofNat 1))]) (S' := [.inl (Int32.ofNat 1)]) (h' := (kt_K h' 95 1 31)) (by with_unfolding_all rfl) ?_
    exact kc_ret_ok rfl (rv := some (.inl (Int32.ofNat 1))) rfl ⟨rfl, Or.inl ⟨rfl, rfl⟩⟩
end
