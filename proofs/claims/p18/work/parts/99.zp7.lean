/-! ===== the class's setters, exactly ===== -/
theorem fu_e1 {S : fu_S} {z : Int32} {l : List (Nat × Int32)} (k : S = (z, l)) : (some (.inl z) : Option kc_V) = some (.inl S.1) := by rw [k]
theorem fu_ec {S : fu_S} {z : Int32} {l : List (Nat × Int32)} {h : kc_H} (k : S = (z, l)) : fu_cw 1 l h = fu_cw 1 S.2 h := by rw [k]
theorem fu_er {S : fu_S} {z : Int32} {l : List (Nat × Int32)} {h : kc_H} (k : S = (z, l)) : fu_rw l h = fu_rw S.2 h := by rw [k]
theorem fu_mu3 {M : Nat} (hM : M < 2147483640) : Int32.ofNat (M + 1) - Int32.ofNat 1 = Int32.ofNat M := by rw [kx_sub (by omega), Nat.add_sub_cancel]
set_option maxRecDepth 20000 in
theorem fu_c14 {g : kc_G} {d : Nat} {h : kc_H} {B : Nat → Int32} (hg : kc_ok g) (hw : kd_wt kd_ty h) (hC : fu_C B 1 h) (hB : fu_BT B) : kc_Con g (d + 1) 14 [.inr (.inr (.inl (some 1)))] h (fun rv h' => rv = some (.inl (fu_door B).1) ∧ h' = fu_cw 1 (fu_door B).2 h) := by
  refine kc_Con_new hg (M := wk_m14) rfl rfl rfl (show 1 ≤ 1 by decide) ?_
  obtain ⟨D, D5, eD⟩ := fu_n0 hB
  refine kx_go 1 (pc' := 1) (L' := [(0, .inr (.inr (.inl (some 1))))]) (S' := [.inr (.inr (.inl (some 1)))]) (h' := h) (by with_unfolding_all rfl) ?_
  refine kx_getf (c := 1) (v := .inl (Int32.ofNat D)) rfl (by decide) ((fu_C0 hC).1.trans (by rw [eD])) ?_
  refine kx_go 2 (pc' := (if kc_cnd .lt (Int32.ofNat D).toInt (Int32.ofNat 5).toInt then 11 else 8)) (L' := [(0, .inr (.inr (.inl (some 1))))]) (S' := []) (h' := h) (by with_unfolding_all rfl) ?_
  by_cases e1 : D < 5
  · rw [if_pos (fu_ilt.mpr (by rw [kx_ti (by omega), kx_ti (by omega)]; omega))]
    refine kx_go 2 (pc' := 13) (L' := [(0, .inr (.inr (.inl (some 1))))]) (S' := [.inr (.inr (.inl (some 1))), .inr (.inr (.inl (some 1)))]) (h' := h) (by with_unfolding_all rfl) ?_
    refine kx_getf (c := 1) (v := .inl (Int32.ofNat D)) rfl (by decide) ((fu_C0 hC).1.trans (by rw [eD])) ?_
    refine kx_go 2 (pc' := 18) (L' := [(0, .inr (.inr (.inl (some 1))))]) (S' := [.inl ((Int32.ofNat D) + (Int32.ofNat 1)), .inr (.inr (.inl (some 1)))]) (h' := h) (by with_unfolding_all rfl) ?_
    rw [kx_inc1]
    refine kx_go 1 (pc' := 21) (L' := [(0, .inr (.inr (.inl (some 1))))]) (S' := []) (h' := (kc_upd h 1 0 (.inl (Int32.ofNat (D + 1))))) (by with_unfolding_all rfl) ?_
    refine kx_go 1 (pc' := 22) (L' := [(0, .inr (.inr (.inl (some 1))))]) (S' := [.inr (.inr (.inl (some 1)))]) (h' := (kc_upd h 1 0 (.inl (Int32.ofNat (D + 1))))) (by with_unfolding_all rfl) ?_
    refine kx_getf (c := 1) (v := .inl (Int32.ofNat (D + 1))) rfl (by decide) (fu_eq) ?_
    have key : fu_door B = (Int32.ofNat (D + 1), [(0, Int32.ofNat (D + 1))]) := by unfold fu_door; rw [eD, kx_inc1, if_pos (by rw [kx_ti (by omega)]; omega)]
    exact kc_ret_ok rfl (rv := some (.inl (Int32.ofNat (D + 1)))) rfl ⟨fu_e1 key, fu_ec key⟩
  · rw [if_neg (fun q => e1 (by have := fu_ilt.mp q; rw [kx_ti (by omega), kx_ti (by omega)] at this; omega))]
    refine kx_go 1 (pc' := 10) (L' := [(0, .inr (.inr (.inl (some 1))))]) (S' := [.inl (Int32.ofInt (-4))]) (h' := h) (by with_unfolding_all rfl) ?_
    have key : fu_door B = (Int32.ofInt (-4), []) := by unfold fu_door; rw [eD, if_neg (by rw [kx_ti (by omega)]; omega)]
    exact kc_ret_ok rfl (rv := some (.inl (Int32.ofInt (-4)))) rfl ⟨fu_e1 key, fu_ec key⟩
set_option maxRecDepth 20000 in
theorem fu_c17 {g : kc_G} {d : Nat} {h : kc_H} {B : Nat → Int32} {a b c : Int32} (hg : kc_ok g) (hw : kd_wt kd_ty h) (hC : fu_C B 1 h) (hB : fu_BT B) : kc_Con g (d + 3) 17 [.inr (.inr (.inl (some 1))), .inl a, .inl b, .inl c] h (fun rv h' => rv = some (.inl (fu_way B a b c).1) ∧ h' = fu_cw 1 (fu_way B a b c).2 h) := by
  refine kc_Con_new hg (M := wk_m17) rfl rfl rfl (show 4 ≤ 5 by decide) ?_
  obtain ⟨D, D5, eD⟩ := fu_n0 hB
  refine kx_go 2 (pc' := 2) (L' := [(0, .inr (.inr (.inl (some 1)))), (1, .inl (a)), (2, .inl (b)), (3, .inl (c))]) (S' := [.inl (a), .inr (.inr (.inl (some 1)))]) (h' := h) (by with_unfolding_all rfl) ?_
  refine kc_call_rule (M2 := wk_m18) (av := [.inr (.inr (.inl (some 1))), .inl (a)]) (r := []) rfl rfl (kc_Con_le (fu_c18 (d := 0) hg hC) (by omega)) (fun rv h2 hq => ?_)
  obtain ⟨rfl, e⟩ := hq
  rw [e]
  clear e
  show kc_Ev g (d + 2) wk_m17 _ 5 [(0, .inr (.inr (.inl (some 1)))), (1, .inl (a)), (2, .inl (b)), (3, .inl (c))] [.inl (kp_b (fu_in a 0 (B 0).toInt))] h
  refine kx_go 1 (pc' := (if kc_cnd .eq (kp_b (fu_in a 0 (B 0).toInt)).toInt 0 then 31 else 8)) (L' := [(0, .inr (.inr (.inl (some 1)))), (1, .inl (a)), (2, .inl (b)), (3, .inl (c))]) (S' := []) (h' := h) (by with_unfolding_all rfl) ?_
  cases e1 : fu_in a 0 (B 0).toInt with
  | false =>
    rw [if_pos (kx_b0.mpr rfl)]
    refine kx_go 1 (pc' := 33) (L' := [(0, .inr (.inr (.inl (some 1)))), (1, .inl (a)), (2, .inl (b)), (3, .inl (c))]) (S' := [.inl (Int32.ofInt (-2))]) (h' := h) (by with_unfolding_all rfl) ?_
    have key : fu_way B a b c = (Int32.ofInt (-2), []) := by unfold fu_way; rw [if_neg (by simp [e1])]
    exact kc_ret_ok rfl (rv := some (.inl (Int32.ofInt (-2)))) rfl ⟨fu_e1 key, fu_ec key⟩
  | true =>
    rw [if_neg (fun q => by have := kx_b0.mp q; cases this)]
    refine kx_go 2 (pc' := 10) (L' := [(0, .inr (.inr (.inl (some 1)))), (1, .inl (a)), (2, .inl (b)), (3, .inl (c))]) (S' := [.inl (b), .inr (.inr (.inl (some 1)))]) (h' := h) (by with_unfolding_all rfl) ?_
    refine kc_call_rule (M2 := wk_m18) (av := [.inr (.inr (.inl (some 1))), .inl (b)]) (r := []) rfl rfl (kc_Con_le (fu_c18 (d := 0) hg hC) (by omega)) (fun rv h2 hq => ?_)
    obtain ⟨rfl, e⟩ := hq
    rw [e]
    clear e
    show kc_Ev g (d + 2) wk_m17 _ 13 [(0, .inr (.inr (.inl (some 1)))), (1, .inl (a)), (2, .inl (b)), (3, .inl (c))] [.inl (kp_b (fu_in b 0 (B 0).toInt))] h
    refine kx_go 1 (pc' := (if kc_cnd .eq (kp_b (fu_in b 0 (B 0).toInt)).toInt 0 then 31 else 16)) (L' := [(0, .inr (.inr (.inl (some 1)))), (1, .inl (a)), (2, .inl (b)), (3, .inl (c))]) (S' := []) (h' := h) (by with_unfolding_all rfl) ?_
    cases e2 : fu_in b 0 (B 0).toInt with
    | false =>
      rw [if_pos (kx_b0.mpr rfl)]
      refine kx_go 1 (pc' := 33) (L' := [(0, .inr (.inr (.inl (some 1)))), (1, .inl (a)), (2, .inl (b)), (3, .inl (c))]) (S' := [.inl (Int32.ofInt (-2))]) (h' := h) (by with_unfolding_all rfl) ?_
      have key : fu_way B a b c = (Int32.ofInt (-2), []) := by unfold fu_way; rw [if_neg (by simp [e1, e2])]
      exact kc_ret_ok rfl (rv := some (.inl (Int32.ofInt (-2)))) rfl ⟨fu_e1 key, fu_ec key⟩
    | true =>
      rw [if_neg (fun q => by have := kx_b0.mp q; cases this)]
      refine kx_go 3 (pc' := (if kc_cnd .eq (a).toInt (b).toInt then 31 else 21)) (L' := [(0, .inr (.inr (.inl (some 1)))), (1, .inl (a)), (2, .inl (b)), (3, .inl (c))]) (S' := []) (h' := h) (by with_unfolding_all rfl) ?_
      by_cases e3 : a.toInt = b.toInt
      · rw [if_pos (fu_ieq.mpr e3)]
        refine kx_go 1 (pc' := 33) (L' := [(0, .inr (.inr (.inl (some 1)))), (1, .inl (a)), (2, .inl (b)), (3, .inl (c))]) (S' := [.inl (Int32.ofInt (-2))]) (h' := h) (by with_unfolding_all rfl) ?_
        have key : fu_way B a b c = (Int32.ofInt (-2), []) := by unfold fu_way; rw [if_neg (by simp [e1, e2, e3])]
        exact kc_ret_ok rfl (rv := some (.inl (Int32.ofInt (-2)))) rfl ⟨fu_e1 key, fu_ec key⟩
      · rw [if_neg (fun q => e3 (fu_ieq.mp q))]
        refine kx_go 3 (pc' := 25) (L' := [(0, .inr (.inr (.inl (some 1)))), (1, .inl (a)), (2, .inl (b)), (3, .inl (c))]) (S' := [.inl (Int32.ofNat 99), .inl (Int32.ofNat 1), .inl (c)]) (h' := h) (by with_unfolding_all rfl) ?_
        refine kc_call_rule (M2 := wk_m19) (av := [.inl (c), .inl (Int32.ofNat 1), .inl (Int32.ofNat 99)]) (r := []) rfl rfl (kc_Con_le (fu_bt (d := 0) (lo := 1) (hi := 99) hg rfl rfl) (by omega)) (fun rv h2 hq => ?_)
        obtain ⟨rfl, e⟩ := hq
        rw [e]
        clear e
        show kc_Ev g (d + 2) wk_m17 _ 28 [(0, .inr (.inr (.inl (some 1)))), (1, .inl (a)), (2, .inl (b)), (3, .inl (c))] [.inl (kp_b (fu_in c 1 99))] h
        refine kx_go 1 (pc' := (if kc_cnd .ne (kp_b (fu_in c 1 99)).toInt 0 then 34 else 31)) (L' := [(0, .inr (.inr (.inl (some 1)))), (1, .inl (a)), (2, .inl (b)), (3, .inl (c))]) (S' := []) (h' := h) (by with_unfolding_all rfl) ?_
        cases e4 : fu_in c 1 99 with
        | false =>
          rw [if_neg (fun q => by have := kx_b1.mp q; cases this)]
          refine kx_go 1 (pc' := 33) (L' := [(0, .inr (.inr (.inl (some 1)))), (1, .inl (a)), (2, .inl (b)), (3, .inl (c))]) (S' := [.inl (Int32.ofInt (-2))]) (h' := h) (by with_unfolding_all rfl) ?_
          have key : fu_way B a b c = (Int32.ofInt (-2), []) := by unfold fu_way; rw [if_neg (by simp [e1, e2, e3, e4])]
          exact kc_ret_ok rfl (rv := some (.inl (Int32.ofInt (-2)))) rfl ⟨fu_e1 key, fu_ec key⟩
        | true =>
          rw [if_pos (kx_b1.mpr rfl)]
          have q1 := e1
          have q2 := e2
          rw [eD, kx_ti (by omega)] at q1 q2
          obtain ⟨x, x5, rfl, -⟩ := fu_in_n (u := 5) q1 (by omega) (by omega)
          obtain ⟨y, y5, rfl, -⟩ := fu_in_n (u := 5) q2 (by omega) (by omega)
          have hx : x < 6 := by omega
          have hy : y < 6 := by omega
          have hxy : ¬ x = y := fun q => e3 (by rw [q])
          refine kx_go 1 (pc' := 35) (L' := [(0, .inr (.inr (.inl (some 1)))), (1, .inl (Int32.ofNat x)), (2, .inl (Int32.ofNat y)), (3, .inl (c))]) (S' := [.inr (.inr (.inl (some 1)))]) (h' := h) (by with_unfolding_all rfl) ?_
          refine kx_getf (c := 1) (v := .inr (.inr (.inl (some 2)))) rfl (by decide) (kx_ofr (hw _ _ _ fu_kr.1)) ?_
          refine kx_go 1 (pc' := 39) (L' := [(0, .inr (.inr (.inl (some 1)))), (1, .inl (Int32.ofNat x)), (2, .inl (Int32.ofNat y)), (3, .inl (c))]) (S' := [.inl (Int32.ofNat x), .inr (.inr (.inl (some 2)))]) (h' := h) (by with_unfolding_all rfl) ?_
          refine kx_aald (c := 2) (j := x) (m := 6) (t0 := 2) (v := .inr (.inr (.inl (some (1 + (2 + x)))))) rfl rfl (by decide) (by decide) (by decide) hx (kx_ofr (hw _ _ _ (fu_smi x hx).2)) ?_
          refine kx_go 1 (pc' := 41) (L' := [(0, .inr (.inr (.inl (some 1)))), (1, .inl (Int32.ofNat x)), (2, .inl (Int32.ofNat y)), (3, .inl (c))]) (S' := [.inl (Int32.ofNat y), .inr (.inr (.inl (some (1 + (2 + x)))))]) (h' := h) (by with_unfolding_all rfl) ?_
          refine kx_iald (c := (1 + (2 + x))) (j := y) (m := 6) (v := .inl (B (10 + 6 * x + y))) rfl (fu_smi x hx).1.1 (fu_smi x hx).1.2 (by decide) hy (fu_Cj hC (by omega) (fu_fmi x hx y hy).2.1 (fu_fmi x hx y hy).1) ?_
          refine kx_go 2 (pc' := 45) (L' := [(4, .inl (B (10 + 6 * x + y))), (0, .inr (.inr (.inl (some 1)))), (1, .inl (Int32.ofNat x)), (2, .inl (Int32.ofNat y)), (3, .inl (c))]) (S' := [.inr (.inr (.inl (some 1)))]) (h' := h) (by with_unfolding_all rfl) ?_
          refine kx_getf (c := 1) (v := .inr (.inr (.inl (some 2)))) rfl (by decide) (kx_ofr (hw _ _ _ fu_kr.1)) ?_
          refine kx_go 1 (pc' := 49) (L' := [(4, .inl (B (10 + 6 * x + y))), (0, .inr (.inr (.inl (some 1)))), (1, .inl (Int32.ofNat x)), (2, .inl (Int32.ofNat y)), (3, .inl (c))]) (S' := [.inl (Int32.ofNat x), .inr (.inr (.inl (some 2)))]) (h' := h) (by with_unfolding_all rfl) ?_
          refine kx_aald (c := 2) (j := x) (m := 6) (t0 := 2) (v := .inr (.inr (.inl (some (1 + (2 + x)))))) rfl rfl (by decide) (by decide) (by decide) hx (kx_ofr (hw _ _ _ (fu_smi x hx).2)) ?_
          refine kx_go 2 (pc' := 52) (L' := [(4, .inl (B (10 + 6 * x + y))), (0, .inr (.inr (.inl (some 1)))), (1, .inl (Int32.ofNat x)), (2, .inl (Int32.ofNat y)), (3, .inl (c))]) (S' := [.inl (c), .inl (Int32.ofNat y), .inr (.inr (.inl (some (1 + (2 + x)))))]) (h' := h) (by with_unfolding_all rfl) ?_
          refine kx_iast (c := (1 + (2 + x))) (j := y) (m := 6) rfl (fu_smi x hx).1.1 (fu_smi x hx).1.2 (by decide) hy ?_
          refine kx_go 1 (pc' := 54) (L' := [(4, .inl (B (10 + 6 * x + y))), (0, .inr (.inr (.inl (some 1)))), (1, .inl (Int32.ofNat x)), (2, .inl (Int32.ofNat y)), (3, .inl (c))]) (S' := [.inr (.inr (.inl (some 1)))]) (h' := (kc_upd h (1 + (2 + x)) y (.inl (c)))) (by with_unfolding_all rfl) ?_
          refine kx_getf (c := 1) (v := .inr (.inr (.inl (some 2)))) rfl (by decide) ((fu_ne (by omega)).trans (kx_ofr (hw _ _ _ fu_kr.1))) ?_
          refine kx_go 1 (pc' := 58) (L' := [(4, .inl (B (10 + 6 * x + y))), (0, .inr (.inr (.inl (some 1)))), (1, .inl (Int32.ofNat x)), (2, .inl (Int32.ofNat y)), (3, .inl (c))]) (S' := [.inl (Int32.ofNat y), .inr (.inr (.inl (some 2)))]) (h' := (kc_upd h (1 + (2 + x)) y (.inl (c)))) (by with_unfolding_all rfl) ?_
          refine kx_aald (c := 2) (j := y) (m := 6) (t0 := 2) (v := .inr (.inr (.inl (some (1 + (2 + y)))))) rfl rfl (by decide) (by decide) (by decide) hy ((fu_ne (by omega)).trans (kx_ofr (hw _ _ _ (fu_smi y hy).2))) ?_
          refine kx_go 2 (pc' := 61) (L' := [(4, .inl (B (10 + 6 * x + y))), (0, .inr (.inr (.inl (some 1)))), (1, .inl (Int32.ofNat x)), (2, .inl (Int32.ofNat y)), (3, .inl (c))]) (S' := [.inl (c), .inl (Int32.ofNat x), .inr (.inr (.inl (some (1 + (2 + y)))))]) (h' := (kc_upd h (1 + (2 + x)) y (.inl (c)))) (by with_unfolding_all rfl) ?_
          refine kx_iast (c := (1 + (2 + y))) (j := x) (m := 6) rfl (fu_smi y hy).1.1 (fu_smi y hy).1.2 (by decide) hx ?_
          refine kx_go 1 (pc' := 64) (L' := [(4, .inl (B (10 + 6 * x + y))), (0, .inr (.inr (.inl (some 1)))), (1, .inl (Int32.ofNat x)), (2, .inl (Int32.ofNat y)), (3, .inl (c))]) (S' := [.inl (B (10 + 6 * x + y))]) (h' := (kc_upd (kc_upd h (1 + (2 + x)) y (.inl (c))) (1 + (2 + y)) x (.inl (c)))) (by with_unfolding_all rfl) ?_
          have key : fu_way B (Int32.ofNat x) (Int32.ofNat y) c = (B (10 + 6 * x + y), [(10 + 6 * x + y, c), (10 + 6 * y + x, c)]) := by unfold fu_way; rw [if_pos (by rw [e1, e2, e4, decide_eq_false e3]; rfl), fu_tn (by omega), fu_tn (by omega)]
          have eh : fu_cw 1 [(10 + 6 * x + y, c), (10 + 6 * y + x, c)] h = (kc_upd (kc_upd h (1 + (2 + x)) y (.inl (c))) (1 + (2 + y)) x (.inl (c))) := by simp only [fu_cw, (fu_fmi x hx y hy).1, (fu_fmi y hy x hx).1]
          exact kc_ret_ok rfl (rv := some (.inl (B (10 + 6 * x + y)))) rfl ⟨fu_e1 key, eh.symm.trans (fu_ec key)⟩
set_option maxRecDepth 20000 in
theorem fu_c24 {g : kc_G} {d : Nat} {h : kc_H} {B : Nat → Int32} {a : Int32} (hg : kc_ok g) (hw : kd_wt kd_ty h) (hC : fu_C B 1 h) (hB : fu_BT B) : kc_Con g (d + 3) 24 [.inr (.inr (.inl (some 1))), .inl a] h (fun rv h' => rv = some (.inl (fu_ford B a).1) ∧ h' = fu_cw 1 (fu_ford B a).2 h) := by
  refine kc_Con_new hg (M := wk_m24) rfl rfl rfl (show 2 ≤ 2 by decide) ?_
  obtain ⟨D, D5, eD⟩ := fu_n0 hB
  refine kx_go 2 (pc' := 2) (L' := [(0, .inr (.inr (.inl (some 1)))), (1, .inl (a))]) (S' := [.inl (a), .inr (.inr (.inl (some 1)))]) (h' := h) (by with_unfolding_all rfl) ?_
  refine kc_call_rule (M2 := wk_m25) (av := [.inr (.inr (.inl (some 1))), .inl (a)]) (r := []) rfl rfl (kc_Con_le (fu_c25 (d := 0) hg hC) (by omega)) (fun rv h2 hq => ?_)
  obtain ⟨rfl, e⟩ := hq
  rw [e]
  clear e
  show kc_Ev g (d + 2) wk_m24 _ 5 [(0, .inr (.inr (.inl (some 1)))), (1, .inl (a))] [.inl (kp_b (fu_in a 1 (B 0).toInt))] h
  refine kx_go 1 (pc' := (if kc_cnd .ne (kp_b (fu_in a 1 (B 0).toInt)).toInt 0 then 11 else 8)) (L' := [(0, .inr (.inr (.inl (some 1)))), (1, .inl (a))]) (S' := []) (h' := h) (by with_unfolding_all rfl) ?_
  cases e1 : fu_in a 1 (B 0).toInt with
  | false =>
    rw [if_neg (fun q => by have := kx_b1.mp q; cases this)]
    refine kx_go 1 (pc' := 10) (L' := [(0, .inr (.inr (.inl (some 1)))), (1, .inl (a))]) (S' := [.inl (Int32.ofInt (-2))]) (h' := h) (by with_unfolding_all rfl) ?_
    have key : fu_ford B a = (Int32.ofInt (-2), []) := by unfold fu_ford; rw [if_neg (by simp [e1])]
    exact kc_ret_ok rfl (rv := some (.inl (Int32.ofInt (-2)))) rfl ⟨fu_e1 key, fu_ec key⟩
  | true =>
    rw [if_pos (kx_b1.mpr rfl)]
    have q1 := e1
    rw [eD, kx_ti (by omega)] at q1
    obtain ⟨x, x5, rfl, -⟩ := fu_in_n (u := 5) q1 (by omega) (by omega)
    have hx : x < 6 := by omega
    refine kx_go 1 (pc' := 12) (L' := [(0, .inr (.inr (.inl (some 1)))), (1, .inl (Int32.ofNat x))]) (S' := [.inr (.inr (.inl (some 1)))]) (h' := h) (by with_unfolding_all rfl) ?_
    refine kx_getf (c := 1) (v := .inr (.inr (.inl (some 9)))) rfl (by decide) (kx_ofr (hw _ _ _ fu_kr.2.1)) ?_
    refine kx_go 1 (pc' := 16) (L' := [(0, .inr (.inr (.inl (some 1)))), (1, .inl (Int32.ofNat x))]) (S' := [.inl (Int32.ofNat x), .inr (.inr (.inl (some 9)))]) (h' := h) (by with_unfolding_all rfl) ?_
    refine kx_iald (c := 9) (j := x) (m := 6) (v := .inl (B (46 + x))) rfl rfl (by decide) (by decide) hx (fu_Cj (c := 8) hC (by omega) (fu_ffo x hx).2.1 (fu_ffo x hx).1) ?_
    refine kx_go 2 (pc' := (if kc_cnd .ne (B (46 + x)).toInt (Int32.ofNat 1).toInt then 24 else 21)) (L' := [(0, .inr (.inr (.inl (some 1)))), (1, .inl (Int32.ofNat x))]) (S' := []) (h' := h) (by with_unfolding_all rfl) ?_
    by_cases e2 : (B (46 + x)).toInt = 1
    · rw [if_neg (fun q => fu_ine.mp q (e2.trans (by decide)))]
      refine kx_go 1 (pc' := 23) (L' := [(0, .inr (.inr (.inl (some 1)))), (1, .inl (Int32.ofNat x))]) (S' := [.inl (Int32.ofInt (-3))]) (h' := h) (by with_unfolding_all rfl) ?_
      have key : fu_ford B (Int32.ofNat x) = (Int32.ofInt (-3), []) := by unfold fu_ford; rw [if_pos e1, fu_tn (by omega), if_pos e2]
      exact kc_ret_ok rfl (rv := some (.inl (Int32.ofInt (-3)))) rfl ⟨fu_e1 key, fu_ec key⟩
    · rw [if_pos (fu_ine.mpr (fun q => e2 (q.trans (by decide))))]
      refine kx_go 1 (pc' := 25) (L' := [(0, .inr (.inr (.inl (some 1)))), (1, .inl (Int32.ofNat x))]) (S' := [.inr (.inr (.inl (some 1)))]) (h' := h) (by with_unfolding_all rfl) ?_
      refine kx_getf (c := 1) (v := .inr (.inr (.inl (some 9)))) rfl (by decide) (kx_ofr (hw _ _ _ fu_kr.2.1)) ?_
      refine kx_go 2 (pc' := 30) (L' := [(0, .inr (.inr (.inl (some 1)))), (1, .inl (Int32.ofNat x))]) (S' := [.inl (Int32.ofNat 1), .inl (Int32.ofNat x), .inr (.inr (.inl (some 9)))]) (h' := h) (by with_unfolding_all rfl) ?_
      refine kx_iast (c := 9) (j := x) (m := 6) rfl rfl (by decide) (by decide) hx ?_
      refine kx_go 1 (pc' := 32) (L' := [(0, .inr (.inr (.inl (some 1)))), (1, .inl (Int32.ofNat x))]) (S' := [.inl (Int32.ofNat 1)]) (h' := (kc_upd h 9 x (.inl (Int32.ofNat 1)))) (by with_unfolding_all rfl) ?_
      have key : fu_ford B (Int32.ofNat x) = (Int32.ofNat 1, [(46 + x, Int32.ofNat 1)]) := by unfold fu_ford; rw [if_pos e1, fu_tn (by omega), if_neg e2]
      have eh : fu_cw 1 [(46 + x, Int32.ofNat 1)] h = (kc_upd h 9 x (.inl (Int32.ofNat 1))) := by simp only [fu_cw, (fu_ffo x hx).1]
      exact kc_ret_ok rfl (rv := some (.inl (Int32.ofNat 1))) rfl ⟨fu_e1 key, eh.symm.trans (fu_ec key)⟩
set_option maxRecDepth 20000 in
theorem fu_c29 {g : kc_G} {d : Nat} {h : kc_H} {B : Nat → Int32} {a b : Int32} (hg : kc_ok g) (hw : kd_wt kd_ty h) (hC : fu_C B 1 h) (hB : fu_BT B) : kc_Con g (d + 3) 29 [.inr (.inr (.inl (some 1))), .inl a, .inl b] h (fun rv h' => rv = some (.inl (fu_stones B a b).1) ∧ h' = fu_cw 1 (fu_stones B a b).2 h) := by
  refine kc_Con_new hg (M := wk_m29) rfl rfl rfl (show 3 ≤ 4 by decide) ?_
  obtain ⟨D, D5, eD⟩ := fu_n0 hB
  refine kx_go 2 (pc' := 2) (L' := [(0, .inr (.inr (.inl (some 1)))), (1, .inl (a)), (2, .inl (b))]) (S' := [.inl (a), .inr (.inr (.inl (some 1)))]) (h' := h) (by with_unfolding_all rfl) ?_
  refine kc_call_rule (M2 := wk_m18) (av := [.inr (.inr (.inl (some 1))), .inl (a)]) (r := []) rfl rfl (kc_Con_le (fu_c18 (d := 0) hg hC) (by omega)) (fun rv h2 hq => ?_)
  obtain ⟨rfl, e⟩ := hq
  rw [e]
  clear e
  show kc_Ev g (d + 2) wk_m29 _ 5 [(0, .inr (.inr (.inl (some 1)))), (1, .inl (a)), (2, .inl (b))] [.inl (kp_b (fu_in a 0 (B 0).toInt))] h
  refine kx_go 1 (pc' := (if kc_cnd .eq (kp_b (fu_in a 0 (B 0).toInt)).toInt 0 then 18 else 8)) (L' := [(0, .inr (.inr (.inl (some 1)))), (1, .inl (a)), (2, .inl (b))]) (S' := []) (h' := h) (by with_unfolding_all rfl) ?_
  cases e1 : fu_in a 0 (B 0).toInt with
  | false =>
    rw [if_pos (kx_b0.mpr rfl)]
    refine kx_go 1 (pc' := 20) (L' := [(0, .inr (.inr (.inl (some 1)))), (1, .inl (a)), (2, .inl (b))]) (S' := [.inl (Int32.ofInt (-2))]) (h' := h) (by with_unfolding_all rfl) ?_
    have key : fu_stones B a b = (Int32.ofInt (-2), []) := by unfold fu_stones; rw [if_neg (by simp [e1])]
    exact kc_ret_ok rfl (rv := some (.inl (Int32.ofInt (-2)))) rfl ⟨fu_e1 key, fu_ec key⟩
  | true =>
    rw [if_neg (fun q => by have := kx_b0.mp q; cases this)]
    refine kx_go 3 (pc' := 12) (L' := [(0, .inr (.inr (.inl (some 1)))), (1, .inl (a)), (2, .inl (b))]) (S' := [.inl (Int32.ofNat 9), .inl (Int32.ofNat 0), .inl (b)]) (h' := h) (by with_unfolding_all rfl) ?_
    refine kc_call_rule (M2 := wk_m19) (av := [.inl (b), .inl (Int32.ofNat 0), .inl (Int32.ofNat 9)]) (r := []) rfl rfl (kc_Con_le (fu_bt (d := 0) (lo := 0) (hi := 9) hg rfl rfl) (by omega)) (fun rv h2 hq => ?_)
    obtain ⟨rfl, e⟩ := hq
    rw [e]
    clear e
    show kc_Ev g (d + 2) wk_m29 _ 15 [(0, .inr (.inr (.inl (some 1)))), (1, .inl (a)), (2, .inl (b))] [.inl (kp_b (fu_in b 0 9))] h
    refine kx_go 1 (pc' := (if kc_cnd .ne (kp_b (fu_in b 0 9)).toInt 0 then 21 else 18)) (L' := [(0, .inr (.inr (.inl (some 1)))), (1, .inl (a)), (2, .inl (b))]) (S' := []) (h' := h) (by with_unfolding_all rfl) ?_
    cases e2 : fu_in b 0 9 with
    | false =>
      rw [if_neg (fun q => by have := kx_b1.mp q; cases this)]
      refine kx_go 1 (pc' := 20) (L' := [(0, .inr (.inr (.inl (some 1)))), (1, .inl (a)), (2, .inl (b))]) (S' := [.inl (Int32.ofInt (-2))]) (h' := h) (by with_unfolding_all rfl) ?_
      have key : fu_stones B a b = (Int32.ofInt (-2), []) := by unfold fu_stones; rw [if_neg (by simp [e1, e2])]
      exact kc_ret_ok rfl (rv := some (.inl (Int32.ofInt (-2)))) rfl ⟨fu_e1 key, fu_ec key⟩
    | true =>
      rw [if_pos (kx_b1.mpr rfl)]
      have q1 := e1
      rw [eD, kx_ti (by omega)] at q1
      obtain ⟨x, x5, rfl, -⟩ := fu_in_n (u := 5) q1 (by omega) (by omega)
      have hx : x < 6 := by omega
      refine kx_go 1 (pc' := 22) (L' := [(0, .inr (.inr (.inl (some 1)))), (1, .inl (Int32.ofNat x)), (2, .inl (b))]) (S' := [.inr (.inr (.inl (some 1)))]) (h' := h) (by with_unfolding_all rfl) ?_
      refine kx_getf (c := 1) (v := .inr (.inr (.inl (some 10)))) rfl (by decide) (kx_ofr (hw _ _ _ fu_kr.2.2.1)) ?_
      refine kx_go 1 (pc' := 26) (L' := [(0, .inr (.inr (.inl (some 1)))), (1, .inl (Int32.ofNat x)), (2, .inl (b))]) (S' := [.inl (Int32.ofNat x), .inr (.inr (.inl (some 10)))]) (h' := h) (by with_unfolding_all rfl) ?_
      refine kx_iald (c := 10) (j := x) (m := 6) (v := .inl (B (52 + x))) rfl rfl (by decide) (by decide) hx (fu_Cj (c := 9) hC (by omega) (fu_fst x hx).2.1 (fu_fst x hx).1) ?_
      refine kx_go 2 (pc' := 29) (L' := [(3, .inl (B (52 + x))), (0, .inr (.inr (.inl (some 1)))), (1, .inl (Int32.ofNat x)), (2, .inl (b))]) (S' := [.inr (.inr (.inl (some 1)))]) (h' := h) (by with_unfolding_all rfl) ?_
      refine kx_getf (c := 1) (v := .inr (.inr (.inl (some 10)))) rfl (by decide) (kx_ofr (hw _ _ _ fu_kr.2.2.1)) ?_
      refine kx_go 2 (pc' := 34) (L' := [(3, .inl (B (52 + x))), (0, .inr (.inr (.inl (some 1)))), (1, .inl (Int32.ofNat x)), (2, .inl (b))]) (S' := [.inl (b), .inl (Int32.ofNat x), .inr (.inr (.inl (some 10)))]) (h' := h) (by with_unfolding_all rfl) ?_
      refine kx_iast (c := 10) (j := x) (m := 6) rfl rfl (by decide) (by decide) hx ?_
      refine kx_go 1 (pc' := 36) (L' := [(3, .inl (B (52 + x))), (0, .inr (.inr (.inl (some 1)))), (1, .inl (Int32.ofNat x)), (2, .inl (b))]) (S' := [.inl (B (52 + x))]) (h' := (kc_upd h 10 x (.inl (b)))) (by with_unfolding_all rfl) ?_
      have key : fu_stones B (Int32.ofNat x) b = (B (52 + x), [(52 + x, b)]) := by unfold fu_stones; rw [if_pos (by rw [e1, e2]; rfl), fu_tn (by omega)]
      have eh : fu_cw 1 [(52 + x, b)] h = (kc_upd h 10 x (.inl (b))) := by simp only [fu_cw, (fu_fst x hx).1]
      exact kc_ret_ok rfl (rv := some (.inl (B (52 + x)))) rfl ⟨fu_e1 key, eh.symm.trans (fu_ec key)⟩
set_option maxRecDepth 20000 in
theorem fu_c33 {g : kc_G} {d : Nat} {h : kc_H} {B : Nat → Int32} {a b c : Int32} (hg : kc_ok g) (hw : kd_wt kd_ty h) (hC : fu_C B 1 h) (hB : fu_BT B) : kc_Con g (d + 2) 33 [.inr (.inr (.inl (some 1))), .inl a, .inl b, .inl c] h (fun rv h' => rv = some (.inl (fu_mule B a b c).1) ∧ h' = fu_cw 1 (fu_mule B a b c).2 h) := by
  refine kc_Con_new hg (M := wk_m33) rfl rfl rfl (show 4 ≤ 5 by decide) ?_
  obtain ⟨K, K1, eK⟩ := fu_n1 hB
  refine kx_go 3 (pc' := 5) (L' := [(0, .inr (.inr (.inl (some 1)))), (1, .inl (a)), (2, .inl (b)), (3, .inl (c))]) (S' := [.inl (Int32.ofNat 999), .inl (Int32.ofNat 1), .inl (a)]) (h' := h) (by with_unfolding_all rfl) ?_
  refine kc_call_rule (M2 := wk_m19) (av := [.inl (a), .inl (Int32.ofNat 1), .inl (Int32.ofNat 999)]) (r := []) rfl rfl (kc_Con_le (fu_bt (d := 0) (lo := 1) (hi := 999) hg rfl rfl) (by omega)) (fun rv h2 hq => ?_)
  obtain ⟨rfl, e⟩ := hq
  rw [e]
  clear e
  show kc_Ev g (d + 1) wk_m33 _ 8 [(0, .inr (.inr (.inl (some 1)))), (1, .inl (a)), (2, .inl (b)), (3, .inl (c))] [.inl (kp_b (fu_in a 1 999))] h
  refine kx_go 1 (pc' := (if kc_cnd .eq (kp_b (fu_in a 1 999)).toInt 0 then 31 else 11)) (L' := [(0, .inr (.inr (.inl (some 1)))), (1, .inl (a)), (2, .inl (b)), (3, .inl (c))]) (S' := []) (h' := h) (by with_unfolding_all rfl) ?_
  cases e1 : fu_in a 1 999 with
  | false =>
    rw [if_pos (kx_b0.mpr rfl)]
    refine kx_go 1 (pc' := 33) (L' := [(0, .inr (.inr (.inl (some 1)))), (1, .inl (a)), (2, .inl (b)), (3, .inl (c))]) (S' := [.inl (Int32.ofInt (-2))]) (h' := h) (by with_unfolding_all rfl) ?_
    have key : fu_mule B a b c = (Int32.ofInt (-2), []) := by unfold fu_mule; rw [if_neg (by simp [e1])]
    exact kc_ret_ok rfl (rv := some (.inl (Int32.ofInt (-2)))) rfl ⟨fu_e1 key, fu_ec key⟩
  | true =>
    rw [if_neg (fun q => by have := kx_b0.mp q; cases this)]
    refine kx_go 3 (pc' := 15) (L' := [(0, .inr (.inr (.inl (some 1)))), (1, .inl (a)), (2, .inl (b)), (3, .inl (c))]) (S' := [.inl (Int32.ofNat 99), .inl (Int32.ofNat 0), .inl (b)]) (h' := h) (by with_unfolding_all rfl) ?_
    refine kc_call_rule (M2 := wk_m19) (av := [.inl (b), .inl (Int32.ofNat 0), .inl (Int32.ofNat 99)]) (r := []) rfl rfl (kc_Con_le (fu_bt (d := 0) (lo := 0) (hi := 99) hg rfl rfl) (by omega)) (fun rv h2 hq => ?_)
    obtain ⟨rfl, e⟩ := hq
    rw [e]
    clear e
    show kc_Ev g (d + 1) wk_m33 _ 18 [(0, .inr (.inr (.inl (some 1)))), (1, .inl (a)), (2, .inl (b)), (3, .inl (c))] [.inl (kp_b (fu_in b 0 99))] h
    refine kx_go 1 (pc' := (if kc_cnd .eq (kp_b (fu_in b 0 99)).toInt 0 then 31 else 21)) (L' := [(0, .inr (.inr (.inl (some 1)))), (1, .inl (a)), (2, .inl (b)), (3, .inl (c))]) (S' := []) (h' := h) (by with_unfolding_all rfl) ?_
    cases e2 : fu_in b 0 99 with
    | false =>
      rw [if_pos (kx_b0.mpr rfl)]
      refine kx_go 1 (pc' := 33) (L' := [(0, .inr (.inr (.inl (some 1)))), (1, .inl (a)), (2, .inl (b)), (3, .inl (c))]) (S' := [.inl (Int32.ofInt (-2))]) (h' := h) (by with_unfolding_all rfl) ?_
      have key : fu_mule B a b c = (Int32.ofInt (-2), []) := by unfold fu_mule; rw [if_neg (by simp [e1, e2])]
      exact kc_ret_ok rfl (rv := some (.inl (Int32.ofInt (-2)))) rfl ⟨fu_e1 key, fu_ec key⟩
    | true =>
      rw [if_neg (fun q => by have := kx_b0.mp q; cases this)]
      refine kx_go 3 (pc' := 25) (L' := [(0, .inr (.inr (.inl (some 1)))), (1, .inl (a)), (2, .inl (b)), (3, .inl (c))]) (S' := [.inl (Int32.ofNat 99), .inl (Int32.ofNat 0), .inl (c)]) (h' := h) (by with_unfolding_all rfl) ?_
      refine kc_call_rule (M2 := wk_m19) (av := [.inl (c), .inl (Int32.ofNat 0), .inl (Int32.ofNat 99)]) (r := []) rfl rfl (kc_Con_le (fu_bt (d := 0) (lo := 0) (hi := 99) hg rfl rfl) (by omega)) (fun rv h2 hq => ?_)
      obtain ⟨rfl, e⟩ := hq
      rw [e]
      clear e
      show kc_Ev g (d + 1) wk_m33 _ 28 [(0, .inr (.inr (.inl (some 1)))), (1, .inl (a)), (2, .inl (b)), (3, .inl (c))] [.inl (kp_b (fu_in c 0 99))] h
      refine kx_go 1 (pc' := (if kc_cnd .ne (kp_b (fu_in c 0 99)).toInt 0 then 34 else 31)) (L' := [(0, .inr (.inr (.inl (some 1)))), (1, .inl (a)), (2, .inl (b)), (3, .inl (c))]) (S' := []) (h' := h) (by with_unfolding_all rfl) ?_
      cases e3 : fu_in c 0 99 with
      | false =>
        rw [if_neg (fun q => by have := kx_b1.mp q; cases this)]
        refine kx_go 1 (pc' := 33) (L' := [(0, .inr (.inr (.inl (some 1)))), (1, .inl (a)), (2, .inl (b)), (3, .inl (c))]) (S' := [.inl (Int32.ofInt (-2))]) (h' := h) (by with_unfolding_all rfl) ?_
        have key : fu_mule B a b c = (Int32.ofInt (-2), []) := by unfold fu_mule; rw [if_neg (by simp [e1, e2, e3])]
        exact kc_ret_ok rfl (rv := some (.inl (Int32.ofInt (-2)))) rfl ⟨fu_e1 key, fu_ec key⟩
      | true =>
        rw [if_pos (kx_b1.mpr rfl)]
        refine kx_go 1 (pc' := 35) (L' := [(0, .inr (.inr (.inl (some 1)))), (1, .inl (a)), (2, .inl (b)), (3, .inl (c))]) (S' := [.inr (.inr (.inl (some 1)))]) (h' := h) (by with_unfolding_all rfl) ?_
        refine kx_getf (c := 1) (v := .inl (Int32.ofNat K)) rfl (by decide) ((fu_C0 hC).2.1.trans (by rw [eK])) ?_
        refine kx_go 2 (pc' := (if kc_cnd .lt (Int32.ofNat K).toInt (Int32.ofNat 3).toInt then 45 else 42)) (L' := [(0, .inr (.inr (.inl (some 1)))), (1, .inl (a)), (2, .inl (b)), (3, .inl (c))]) (S' := []) (h' := h) (by with_unfolding_all rfl) ?_
        by_cases e9 : K < 3
        · rw [if_pos (fu_ilt.mpr (by rw [kx_ti (by omega), kx_ti (by omega)]; omega))]
          refine kx_go 1 (pc' := 46) (L' := [(0, .inr (.inr (.inl (some 1)))), (1, .inl (a)), (2, .inl (b)), (3, .inl (c))]) (S' := [.inr (.inr (.inl (some 1)))]) (h' := h) (by with_unfolding_all rfl) ?_
          refine kx_getf (c := 1) (v := .inr (.inr (.inl (some 11)))) rfl (by decide) (kx_ofr (hw _ _ _ fu_kr.2.2.2.1)) ?_
          refine kx_go 1 (pc' := 50) (L' := [(0, .inr (.inr (.inl (some 1)))), (1, .inl (a)), (2, .inl (b)), (3, .inl (c))]) (S' := [.inr (.inr (.inl (some 1))), .inr (.inr (.inl (some 11)))]) (h' := h) (by with_unfolding_all rfl) ?_
          refine kx_getf (c := 1) (v := .inl (Int32.ofNat K)) rfl (by decide) ((fu_C0 hC).2.1.trans (by rw [eK])) ?_
          refine kx_aald (c := 11) (j := K) (m := 3) (t0 := 2) (v := .inr (.inr (.inl (some (1 + (11 + K)))))) rfl rfl (by decide) (by decide) (by decide) e9 (kx_ofr (hw _ _ _ (fu_smu K e9).2)) ?_
          refine kx_go 4 (pc' := 60) (L' := [(4, .inr (.inr (.inl (some (1 + (11 + K)))))), (0, .inr (.inr (.inl (some 1)))), (1, .inl (a)), (2, .inl (b)), (3, .inl (c))]) (S' := [.inl (a), .inl (Int32.ofNat 0), .inr (.inr (.inl (some (1 + (11 + K)))))]) (h' := h) (by with_unfolding_all rfl) ?_
          refine kx_iast (c := (1 + (11 + K))) (j := 0) (m := 5) rfl (fu_smu K e9).1.1 (fu_smu K e9).1.2 (by decide) (by decide) ?_
          refine kx_go 3 (pc' := 65) (L' := [(4, .inr (.inr (.inl (some (1 + (11 + K)))))), (0, .inr (.inr (.inl (some 1)))), (1, .inl (a)), (2, .inl (b)), (3, .inl (c))]) (S' := [.inl (b), .inl (Int32.ofNat 1), .inr (.inr (.inl (some (1 + (11 + K)))))]) (h' := (kc_upd h (1 + (11 + K)) 0 (.inl (a)))) (by with_unfolding_all rfl) ?_
          refine kx_iast (c := (1 + (11 + K))) (j := 1) (m := 5) rfl (fu_smu K e9).1.1 (fu_smu K e9).1.2 (by decide) (by decide) ?_
          refine kx_go 3 (pc' := 70) (L' := [(4, .inr (.inr (.inl (some (1 + (11 + K)))))), (0, .inr (.inr (.inl (some 1)))), (1, .inl (a)), (2, .inl (b)), (3, .inl (c))]) (S' := [.inl (c), .inl (Int32.ofNat 2), .inr (.inr (.inl (some (1 + (11 + K)))))]) (h' := (kc_upd (kc_upd h (1 + (11 + K)) 0 (.inl (a))) (1 + (11 + K)) 1 (.inl (b)))) (by with_unfolding_all rfl) ?_
          refine kx_iast (c := (1 + (11 + K))) (j := 2) (m := 5) rfl (fu_smu K e9).1.1 (fu_smu K e9).1.2 (by decide) (by decide) ?_
          refine kx_go 3 (pc' := 77) (L' := [(4, .inr (.inr (.inl (some (1 + (11 + K)))))), (0, .inr (.inr (.inl (some 1)))), (1, .inl (a)), (2, .inl (b)), (3, .inl (c))]) (S' := [.inl (Int32.ofNat 999), .inl (Int32.ofNat 3), .inr (.inr (.inl (some (1 + (11 + K)))))]) (h' := (kc_upd (kc_upd (kc_upd h (1 + (11 + K)) 0 (.inl (a))) (1 + (11 + K)) 1 (.inl (b))) (1 + (11 + K)) 2 (.inl (c)))) (by with_unfolding_all rfl) ?_
          refine kx_iast (c := (1 + (11 + K))) (j := 3) (m := 5) rfl (fu_smu K e9).1.1 (fu_smu K e9).1.2 (by decide) (by decide) ?_
          refine kx_go 3 (pc' := 84) (L' := [(4, .inr (.inr (.inl (some (1 + (11 + K)))))), (0, .inr (.inr (.inl (some 1)))), (1, .inl (a)), (2, .inl (b)), (3, .inl (c))]) (S' := [.inl (Int32.ofNat 999), .inl (Int32.ofNat 4), .inr (.inr (.inl (some (1 + (11 + K)))))]) (h' := (kc_upd (kc_upd (kc_upd (kc_upd h (1 + (11 + K)) 0 (.inl (a))) (1 + (11 + K)) 1 (.inl (b))) (1 + (11 + K)) 2 (.inl (c))) (1 + (11 + K)) 3 (.inl (Int32.ofNat 999)))) (by with_unfolding_all rfl) ?_
          refine kx_iast (c := (1 + (11 + K))) (j := 4) (m := 5) rfl (fu_smu K e9).1.1 (fu_smu K e9).1.2 (by decide) (by decide) ?_
          refine kx_go 2 (pc' := 87) (L' := [(4, .inr (.inr (.inl (some (1 + (11 + K)))))), (0, .inr (.inr (.inl (some 1)))), (1, .inl (a)), (2, .inl (b)), (3, .inl (c))]) (S' := [.inr (.inr (.inl (some 1))), .inr (.inr (.inl (some 1)))]) (h' := (kc_upd (kc_upd (kc_upd (kc_upd (kc_upd h (1 + (11 + K)) 0 (.inl (a))) (1 + (11 + K)) 1 (.inl (b))) (1 + (11 + K)) 2 (.inl (c))) (1 + (11 + K)) 3 (.inl (Int32.ofNat 999))) (1 + (11 + K)) 4 (.inl (Int32.ofNat 999)))) (by with_unfolding_all rfl) ?_
          refine kx_getf (c := 1) (v := .inl (Int32.ofNat K)) rfl (by decide) ((fu_ne (by omega)).trans ((fu_ne (by omega)).trans ((fu_ne (by omega)).trans ((fu_ne (by omega)).trans ((fu_ne (by omega)).trans ((fu_C0 hC).2.1.trans (by rw [eK]))))))) ?_
          refine kx_go 2 (pc' := 92) (L' := [(4, .inr (.inr (.inl (some (1 + (11 + K)))))), (0, .inr (.inr (.inl (some 1)))), (1, .inl (a)), (2, .inl (b)), (3, .inl (c))]) (S' := [.inl ((Int32.ofNat K) + (Int32.ofNat 1)), .inr (.inr (.inl (some 1)))]) (h' := (kc_upd (kc_upd (kc_upd (kc_upd (kc_upd h (1 + (11 + K)) 0 (.inl (a))) (1 + (11 + K)) 1 (.inl (b))) (1 + (11 + K)) 2 (.inl (c))) (1 + (11 + K)) 3 (.inl (Int32.ofNat 999))) (1 + (11 + K)) 4 (.inl (Int32.ofNat 999)))) (by with_unfolding_all rfl) ?_
          rw [kx_inc1]
          refine kx_go 1 (pc' := 95) (L' := [(4, .inr (.inr (.inl (some (1 + (11 + K)))))), (0, .inr (.inr (.inl (some 1)))), (1, .inl (a)), (2, .inl (b)), (3, .inl (c))]) (S' := []) (h' := (kc_upd (kc_upd (kc_upd (kc_upd (kc_upd (kc_upd h (1 + (11 + K)) 0 (.inl (a))) (1 + (11 + K)) 1 (.inl (b))) (1 + (11 + K)) 2 (.inl (c))) (1 + (11 + K)) 3 (.inl (Int32.ofNat 999))) (1 + (11 + K)) 4 (.inl (Int32.ofNat 999))) 1 1 (.inl (Int32.ofNat (K + 1))))) (by with_unfolding_all rfl) ?_
          refine kx_go 1 (pc' := 96) (L' := [(4, .inr (.inr (.inl (some (1 + (11 + K)))))), (0, .inr (.inr (.inl (some 1)))), (1, .inl (a)), (2, .inl (b)), (3, .inl (c))]) (S' := [.inr (.inr (.inl (some 1)))]) (h' := (kc_upd (kc_upd (kc_upd (kc_upd (kc_upd (kc_upd h (1 + (11 + K)) 0 (.inl (a))) (1 + (11 + K)) 1 (.inl (b))) (1 + (11 + K)) 2 (.inl (c))) (1 + (11 + K)) 3 (.inl (Int32.ofNat 999))) (1 + (11 + K)) 4 (.inl (Int32.ofNat 999))) 1 1 (.inl (Int32.ofNat (K + 1))))) (by with_unfolding_all rfl) ?_
          refine kx_getf (c := 1) (v := .inl (Int32.ofNat (K + 1))) rfl (by decide) (fu_eq) ?_
          refine kx_go 2 (pc' := 101) (L' := [(4, .inr (.inr (.inl (some (1 + (11 + K)))))), (0, .inr (.inr (.inl (some 1)))), (1, .inl (a)), (2, .inl (b)), (3, .inl (c))]) (S' := [.inl ((Int32.ofNat (K + 1)) - (Int32.ofNat 1))]) (h' := (kc_upd (kc_upd (kc_upd (kc_upd (kc_upd (kc_upd h (1 + (11 + K)) 0 (.inl (a))) (1 + (11 + K)) 1 (.inl (b))) (1 + (11 + K)) 2 (.inl (c))) (1 + (11 + K)) 3 (.inl (Int32.ofNat 999))) (1 + (11 + K)) 4 (.inl (Int32.ofNat 999))) 1 1 (.inl (Int32.ofNat (K + 1))))) (by with_unfolding_all rfl) ?_
          rw [fu_mu3 (by omega)]
          have key : fu_mule B a b c = (Int32.ofNat K, [(60 + 5 * K + 0, a), (60 + 5 * K + 1, b), (60 + 5 * K + 2, c), (60 + 5 * K + 3, Int32.ofNat 999), (60 + 5 * K + 4, Int32.ofNat 999), (1, Int32.ofNat (K + 1))]) := by unfold fu_mule; rw [if_pos (by rw [e1, e2, e3]; rfl), eK, kx_inc1, if_pos (by rw [kx_ti (by omega)]; omega), fu_tn (by omega)]
          have eh : fu_cw 1 [(60 + 5 * K + 0, a), (60 + 5 * K + 1, b), (60 + 5 * K + 2, c), (60 + 5 * K + 3, Int32.ofNat 999), (60 + 5 * K + 4, Int32.ofNat 999), (1, Int32.ofNat (K + 1))] h = (kc_upd (kc_upd (kc_upd (kc_upd (kc_upd (kc_upd h (1 + (11 + K)) 0 (.inl (a))) (1 + (11 + K)) 1 (.inl (b))) (1 + (11 + K)) 2 (.inl (c))) (1 + (11 + K)) 3 (.inl (Int32.ofNat 999))) (1 + (11 + K)) 4 (.inl (Int32.ofNat 999))) 1 1 (.inl (Int32.ofNat (K + 1)))) := by simp only [fu_cw, ((fu_fmu K e9).1 0 (by decide)).1, ((fu_fmu K e9).1 1 (by decide)).1, ((fu_fmu K e9).1 2 (by decide)).1, ((fu_fmu K e9).1 3 (by decide)).1, ((fu_fmu K e9).1 4 (by decide)).1, fu_f0.2.2.1]
          exact kc_ret_ok rfl (rv := some (.inl (Int32.ofNat K))) rfl ⟨fu_e1 key, eh.symm.trans (fu_ec key)⟩
        · rw [if_neg (fun q => e9 (by have := fu_ilt.mp q; rw [kx_ti (by omega), kx_ti (by omega)] at this; omega))]
          refine kx_go 1 (pc' := 44) (L' := [(0, .inr (.inr (.inl (some 1)))), (1, .inl (a)), (2, .inl (b)), (3, .inl (c))]) (S' := [.inl (Int32.ofInt (-4))]) (h' := h) (by with_unfolding_all rfl) ?_
          have key : fu_mule B a b c = (Int32.ofInt (-4), []) := by unfold fu_mule; rw [if_pos (by rw [e1, e2, e3]; rfl), eK, if_neg (by rw [kx_ti (by omega)]; omega)]
          exact kc_ret_ok rfl (rv := some (.inl (Int32.ofInt (-4)))) rfl ⟨fu_e1 key, fu_ec key⟩
set_option maxRecDepth 20000 in
theorem fu_c42 {g : kc_G} {d : Nat} {h : kc_H} {B : Nat → Int32} {a b c e : Int32} (hg : kc_ok g) (hw : kd_wt kd_ty h) (hC : fu_C B 1 h) (hB : fu_BT B) : kc_Con g (d + 3) 42 [.inr (.inr (.inl (some 1))), .inl a, .inl b, .inl c, .inl e] h (fun rv h' => rv = some (.inl (fu_load B a b c e).1) ∧ h' = fu_cw 1 (fu_load B a b c e).2 h) := by
  refine kc_Con_new hg (M := wk_m42) rfl rfl rfl (show 5 ≤ 6 by decide) ?_
  obtain ⟨D, D5, eD⟩ := fu_n0 hB
  obtain ⟨K, K1, eK⟩ := fu_n2 hB
  refine kx_go 3 (pc' := 4) (L' := [(0, .inr (.inr (.inl (some 1)))), (1, .inl (a)), (2, .inl (b)), (3, .inl (c)), (4, .inl (e))]) (S' := [.inl (Int32.ofNat 99), .inl (Int32.ofNat 1), .inl (a)]) (h' := h) (by with_unfolding_all rfl) ?_
  refine kc_call_rule (M2 := wk_m19) (av := [.inl (a), .inl (Int32.ofNat 1), .inl (Int32.ofNat 99)]) (r := []) rfl rfl (kc_Con_le (fu_bt (d := 0) (lo := 1) (hi := 99) hg rfl rfl) (by omega)) (fun rv h2 hq => ?_)
  obtain ⟨rfl, e⟩ := hq
  rw [e]
  clear e
  show kc_Ev g (d + 2) wk_m42 _ 7 [(0, .inr (.inr (.inl (some 1)))), (1, .inl (a)), (2, .inl (b)), (3, .inl (c)), (4, .inl (e))] [.inl (kp_b (fu_in a 1 99))] h
  refine kx_go 1 (pc' := (if kc_cnd .eq (kp_b (fu_in a 1 99)).toInt 0 then 19 else 10)) (L' := [(0, .inr (.inr (.inl (some 1)))), (1, .inl (a)), (2, .inl (b)), (3, .inl (c)), (4, .inl (e))]) (S' := []) (h' := h) (by with_unfolding_all rfl) ?_
  cases e1 : fu_in a 1 99 with
  | false =>
    rw [if_pos (kx_b0.mpr rfl)]
    refine kx_go 1 (pc' := 21) (L' := [(0, .inr (.inr (.inl (some 1)))), (1, .inl (a)), (2, .inl (b)), (3, .inl (c)), (4, .inl (e))]) (S' := [.inl (Int32.ofInt (-2))]) (h' := h) (by with_unfolding_all rfl) ?_
    have key : fu_load B a b c e = (Int32.ofInt (-2), []) := by unfold fu_load; rw [if_neg (by simp [e1])]
    exact kc_ret_ok rfl (rv := some (.inl (Int32.ofInt (-2)))) rfl ⟨fu_e1 key, fu_ec key⟩
  | true =>
    rw [if_neg (fun q => by have := kx_b0.mp q; cases this)]
    refine kx_go 3 (pc' := 13) (L' := [(0, .inr (.inr (.inl (some 1)))), (1, .inl (a)), (2, .inl (b)), (3, .inl (c)), (4, .inl (e))]) (S' := [.inl (Int32.ofNat 1), .inl (Int32.ofNat 0), .inl (b)]) (h' := h) (by with_unfolding_all rfl) ?_
    refine kc_call_rule (M2 := wk_m19) (av := [.inl (b), .inl (Int32.ofNat 0), .inl (Int32.ofNat 1)]) (r := []) rfl rfl (kc_Con_le (fu_bt (d := 0) (lo := 0) (hi := 1) hg rfl rfl) (by omega)) (fun rv h2 hq => ?_)
    obtain ⟨rfl, e⟩ := hq
    rw [e]
    clear e
    show kc_Ev g (d + 2) wk_m42 _ 16 [(0, .inr (.inr (.inl (some 1)))), (1, .inl (a)), (2, .inl (b)), (3, .inl (c)), (4, .inl (e))] [.inl (kp_b (fu_in b 0 1))] h
    refine kx_go 1 (pc' := (if kc_cnd .ne (kp_b (fu_in b 0 1)).toInt 0 then 22 else 19)) (L' := [(0, .inr (.inr (.inl (some 1)))), (1, .inl (a)), (2, .inl (b)), (3, .inl (c)), (4, .inl (e))]) (S' := []) (h' := h) (by with_unfolding_all rfl) ?_
    cases e2 : fu_in b 0 1 with
    | false =>
      rw [if_neg (fun q => by have := kx_b1.mp q; cases this)]
      refine kx_go 1 (pc' := 21) (L' := [(0, .inr (.inr (.inl (some 1)))), (1, .inl (a)), (2, .inl (b)), (3, .inl (c)), (4, .inl (e))]) (S' := [.inl (Int32.ofInt (-2))]) (h' := h) (by with_unfolding_all rfl) ?_
      have key : fu_load B a b c e = (Int32.ofInt (-2), []) := by unfold fu_load; rw [if_neg (by simp [e1, e2])]
      exact kc_ret_ok rfl (rv := some (.inl (Int32.ofInt (-2)))) rfl ⟨fu_e1 key, fu_ec key⟩
    | true =>
      rw [if_pos (kx_b1.mpr rfl)]
      refine kx_go 2 (pc' := 24) (L' := [(0, .inr (.inr (.inl (some 1)))), (1, .inl (a)), (2, .inl (b)), (3, .inl (c)), (4, .inl (e))]) (S' := [.inl (c), .inr (.inr (.inl (some 1)))]) (h' := h) (by with_unfolding_all rfl) ?_
      refine kc_call_rule (M2 := wk_m18) (av := [.inr (.inr (.inl (some 1))), .inl (c)]) (r := []) rfl rfl (kc_Con_le (fu_c18 (d := 0) hg hC) (by omega)) (fun rv h2 hq => ?_)
      obtain ⟨rfl, e⟩ := hq
      rw [e]
      clear e
      show kc_Ev g (d + 2) wk_m42 _ 27 [(0, .inr (.inr (.inl (some 1)))), (1, .inl (a)), (2, .inl (b)), (3, .inl (c)), (4, .inl (e))] [.inl (kp_b (fu_in c 0 (B 0).toInt))] h
      refine kx_go 1 (pc' := (if kc_cnd .eq (kp_b (fu_in c 0 (B 0).toInt)).toInt 0 then 45 else 30)) (L' := [(0, .inr (.inr (.inl (some 1)))), (1, .inl (a)), (2, .inl (b)), (3, .inl (c)), (4, .inl (e))]) (S' := []) (h' := h) (by with_unfolding_all rfl) ?_
      cases e3 : fu_in c 0 (B 0).toInt with
      | false =>
        rw [if_pos (kx_b0.mpr rfl)]
        refine kx_go 1 (pc' := 47) (L' := [(0, .inr (.inr (.inl (some 1)))), (1, .inl (a)), (2, .inl (b)), (3, .inl (c)), (4, .inl (e))]) (S' := [.inl (Int32.ofInt (-2))]) (h' := h) (by with_unfolding_all rfl) ?_
        have key : fu_load B a b c e = (Int32.ofInt (-2), []) := by unfold fu_load; rw [if_neg (by simp [e1, e2, e3])]
        exact kc_ret_ok rfl (rv := some (.inl (Int32.ofInt (-2)))) rfl ⟨fu_e1 key, fu_ec key⟩
      | true =>
        rw [if_neg (fun q => by have := kx_b0.mp q; cases this)]
        refine kx_go 2 (pc' := 33) (L' := [(0, .inr (.inr (.inl (some 1)))), (1, .inl (a)), (2, .inl (b)), (3, .inl (c)), (4, .inl (e))]) (S' := [.inl (e), .inr (.inr (.inl (some 1)))]) (h' := h) (by with_unfolding_all rfl) ?_
        refine kc_call_rule (M2 := wk_m18) (av := [.inr (.inr (.inl (some 1))), .inl (e)]) (r := []) rfl rfl (kc_Con_le (fu_c18 (d := 0) hg hC) (by omega)) (fun rv h2 hq => ?_)
        obtain ⟨rfl, e⟩ := hq
        rw [e]
        clear e
        show kc_Ev g (d + 2) wk_m42 _ 36 [(0, .inr (.inr (.inl (some 1)))), (1, .inl (a)), (2, .inl (b)), (3, .inl (c)), (4, .inl (e))] [.inl (kp_b (fu_in e 0 (B 0).toInt))] h
        refine kx_go 1 (pc' := (if kc_cnd .eq (kp_b (fu_in e 0 (B 0).toInt)).toInt 0 then 45 else 39)) (L' := [(0, .inr (.inr (.inl (some 1)))), (1, .inl (a)), (2, .inl (b)), (3, .inl (c)), (4, .inl (e))]) (S' := []) (h' := h) (by with_unfolding_all rfl) ?_
        cases e4 : fu_in e 0 (B 0).toInt with
        | false =>
          rw [if_pos (kx_b0.mpr rfl)]
          refine kx_go 1 (pc' := 47) (L' := [(0, .inr (.inr (.inl (some 1)))), (1, .inl (a)), (2, .inl (b)), (3, .inl (c)), (4, .inl (e))]) (S' := [.inl (Int32.ofInt (-2))]) (h' := h) (by with_unfolding_all rfl) ?_
          have key : fu_load B a b c e = (Int32.ofInt (-2), []) := by unfold fu_load; rw [if_neg (by simp [e1, e2, e3, e4])]
          exact kc_ret_ok rfl (rv := some (.inl (Int32.ofInt (-2)))) rfl ⟨fu_e1 key, fu_ec key⟩
        | true =>
          rw [if_neg (fun q => by have := kx_b0.mp q; cases this)]
          refine kx_go 3 (pc' := (if kc_cnd .ne (c).toInt (e).toInt then 48 else 45)) (L' := [(0, .inr (.inr (.inl (some 1)))), (1, .inl (a)), (2, .inl (b)), (3, .inl (c)), (4, .inl (e))]) (S' := []) (h' := h) (by with_unfolding_all rfl) ?_
          by_cases e5 : c.toInt = e.toInt
          · rw [if_neg (fun q => fu_ine.mp q e5)]
            refine kx_go 1 (pc' := 47) (L' := [(0, .inr (.inr (.inl (some 1)))), (1, .inl (a)), (2, .inl (b)), (3, .inl (c)), (4, .inl (e))]) (S' := [.inl (Int32.ofInt (-2))]) (h' := h) (by with_unfolding_all rfl) ?_
            have key : fu_load B a b c e = (Int32.ofInt (-2), []) := by unfold fu_load; rw [if_neg (by simp [e1, e2, e3, e4, e5])]
            exact kc_ret_ok rfl (rv := some (.inl (Int32.ofInt (-2)))) rfl ⟨fu_e1 key, fu_ec key⟩
          · rw [if_pos (fu_ine.mpr e5)]
            refine kx_go 1 (pc' := 49) (L' := [(0, .inr (.inr (.inl (some 1)))), (1, .inl (a)), (2, .inl (b)), (3, .inl (c)), (4, .inl (e))]) (S' := [.inr (.inr (.inl (some 1)))]) (h' := h) (by with_unfolding_all rfl) ?_
            refine kx_getf (c := 1) (v := .inl (Int32.ofNat K)) rfl (by decide) ((fu_C0 hC).2.2.1.trans (by rw [eK])) ?_
            refine kx_go 2 (pc' := (if kc_cnd .lt (Int32.ofNat K).toInt (Int32.ofNat 10).toInt then 60 else 57)) (L' := [(0, .inr (.inr (.inl (some 1)))), (1, .inl (a)), (2, .inl (b)), (3, .inl (c)), (4, .inl (e))]) (S' := []) (h' := h) (by with_unfolding_all rfl) ?_
            by_cases e9 : K < 10
            · rw [if_pos (fu_ilt.mpr (by rw [kx_ti (by omega), kx_ti (by omega)]; omega))]
              refine kx_go 1 (pc' := 61) (L' := [(0, .inr (.inr (.inl (some 1)))), (1, .inl (a)), (2, .inl (b)), (3, .inl (c)), (4, .inl (e))]) (S' := [.inr (.inr (.inl (some 1)))]) (h' := h) (by with_unfolding_all rfl) ?_
              refine kx_getf (c := 1) (v := .inr (.inr (.inl (some 15)))) rfl (by decide) (kx_ofr (hw _ _ _ fu_kr.2.2.2.2.1)) ?_
              refine kx_go 1 (pc' := 65) (L' := [(0, .inr (.inr (.inl (some 1)))), (1, .inl (a)), (2, .inl (b)), (3, .inl (c)), (4, .inl (e))]) (S' := [.inr (.inr (.inl (some 1))), .inr (.inr (.inl (some 15)))]) (h' := h) (by with_unfolding_all rfl) ?_
              refine kx_getf (c := 1) (v := .inl (Int32.ofNat K)) rfl (by decide) ((fu_C0 hC).2.2.1.trans (by rw [eK])) ?_
              refine kx_aald (c := 15) (j := K) (m := 10) (t0 := 2) (v := .inr (.inr (.inl (some (1 + (15 + K)))))) rfl rfl (by decide) (by decide) (by decide) e9 (kx_ofr (hw _ _ _ (fu_slo K e9).2)) ?_
              refine kx_go 4 (pc' := 75) (L' := [(5, .inr (.inr (.inl (some (1 + (15 + K)))))), (0, .inr (.inr (.inl (some 1)))), (1, .inl (a)), (2, .inl (b)), (3, .inl (c)), (4, .inl (e))]) (S' := [.inl (a), .inl (Int32.ofNat 0), .inr (.inr (.inl (some (1 + (15 + K)))))]) (h' := h) (by with_unfolding_all rfl) ?_
              refine kx_iast (c := (1 + (15 + K))) (j := 0) (m := 7) rfl (fu_slo K e9).1.1 (fu_slo K e9).1.2 (by decide) (by decide) ?_
              refine kx_go 3 (pc' := 80) (L' := [(5, .inr (.inr (.inl (some (1 + (15 + K)))))), (0, .inr (.inr (.inl (some 1)))), (1, .inl (a)), (2, .inl (b)), (3, .inl (c)), (4, .inl (e))]) (S' := [.inl (b), .inl (Int32.ofNat 1), .inr (.inr (.inl (some (1 + (15 + K)))))]) (h' := (kc_upd h (1 + (15 + K)) 0 (.inl (a)))) (by with_unfolding_all rfl) ?_
              refine kx_iast (c := (1 + (15 + K))) (j := 1) (m := 7) rfl (fu_slo K e9).1.1 (fu_slo K e9).1.2 (by decide) (by decide) ?_
              refine kx_go 3 (pc' := 85) (L' := [(5, .inr (.inr (.inl (some (1 + (15 + K)))))), (0, .inr (.inr (.inl (some 1)))), (1, .inl (a)), (2, .inl (b)), (3, .inl (c)), (4, .inl (e))]) (S' := [.inl (c), .inl (Int32.ofNat 2), .inr (.inr (.inl (some (1 + (15 + K)))))]) (h' := (kc_upd (kc_upd h (1 + (15 + K)) 0 (.inl (a))) (1 + (15 + K)) 1 (.inl (b)))) (by with_unfolding_all rfl) ?_
              refine kx_iast (c := (1 + (15 + K))) (j := 2) (m := 7) rfl (fu_slo K e9).1.1 (fu_slo K e9).1.2 (by decide) (by decide) ?_
              refine kx_go 3 (pc' := 91) (L' := [(5, .inr (.inr (.inl (some (1 + (15 + K)))))), (0, .inr (.inr (.inl (some 1)))), (1, .inl (a)), (2, .inl (b)), (3, .inl (c)), (4, .inl (e))]) (S' := [.inl (e), .inl (Int32.ofNat 3), .inr (.inr (.inl (some (1 + (15 + K)))))]) (h' := (kc_upd (kc_upd (kc_upd h (1 + (15 + K)) 0 (.inl (a))) (1 + (15 + K)) 1 (.inl (b))) (1 + (15 + K)) 2 (.inl (c)))) (by with_unfolding_all rfl) ?_
              refine kx_iast (c := (1 + (15 + K))) (j := 3) (m := 7) rfl (fu_slo K e9).1.1 (fu_slo K e9).1.2 (by decide) (by decide) ?_
              refine kx_go 3 (pc' := 97) (L' := [(5, .inr (.inr (.inl (some (1 + (15 + K)))))), (0, .inr (.inr (.inl (some 1)))), (1, .inl (a)), (2, .inl (b)), (3, .inl (c)), (4, .inl (e))]) (S' := [.inl (Int32.ofNat 100), .inl (Int32.ofNat 4), .inr (.inr (.inl (some (1 + (15 + K)))))]) (h' := (kc_upd (kc_upd (kc_upd (kc_upd h (1 + (15 + K)) 0 (.inl (a))) (1 + (15 + K)) 1 (.inl (b))) (1 + (15 + K)) 2 (.inl (c))) (1 + (15 + K)) 3 (.inl (e)))) (by with_unfolding_all rfl) ?_
              refine kx_iast (c := (1 + (15 + K))) (j := 4) (m := 7) rfl (fu_slo K e9).1.1 (fu_slo K e9).1.2 (by decide) (by decide) ?_
              refine kx_go 3 (pc' := 102) (L' := [(5, .inr (.inr (.inl (some (1 + (15 + K)))))), (0, .inr (.inr (.inl (some 1)))), (1, .inl (a)), (2, .inl (b)), (3, .inl (c)), (4, .inl (e))]) (S' := [.inl (Int32.ofNat 0), .inl (Int32.ofNat 5), .inr (.inr (.inl (some (1 + (15 + K)))))]) (h' := (kc_upd (kc_upd (kc_upd (kc_upd (kc_upd h (1 + (15 + K)) 0 (.inl (a))) (1 + (15 + K)) 1 (.inl (b))) (1 + (15 + K)) 2 (.inl (c))) (1 + (15 + K)) 3 (.inl (e))) (1 + (15 + K)) 4 (.inl (Int32.ofNat 100)))) (by with_unfolding_all rfl) ?_
              refine kx_iast (c := (1 + (15 + K))) (j := 5) (m := 7) rfl (fu_slo K e9).1.1 (fu_slo K e9).1.2 (by decide) (by decide) ?_
              refine kx_go 3 (pc' := 108) (L' := [(5, .inr (.inr (.inl (some (1 + (15 + K)))))), (0, .inr (.inr (.inl (some 1)))), (1, .inl (a)), (2, .inl (b)), (3, .inl (c)), (4, .inl (e))]) (S' := [.inl (Int32.ofInt (-1)), .inl (Int32.ofNat 6), .inr (.inr (.inl (some (1 + (15 + K)))))]) (h' := (kc_upd (kc_upd (kc_upd (kc_upd (kc_upd (kc_upd h (1 + (15 + K)) 0 (.inl (a))) (1 + (15 + K)) 1 (.inl (b))) (1 + (15 + K)) 2 (.inl (c))) (1 + (15 + K)) 3 (.inl (e))) (1 + (15 + K)) 4 (.inl (Int32.ofNat 100))) (1 + (15 + K)) 5 (.inl (Int32.ofNat 0)))) (by with_unfolding_all rfl) ?_
              refine kx_iast (c := (1 + (15 + K))) (j := 6) (m := 7) rfl (fu_slo K e9).1.1 (fu_slo K e9).1.2 (by decide) (by decide) ?_
              refine kx_go 2 (pc' := 111) (L' := [(5, .inr (.inr (.inl (some (1 + (15 + K)))))), (0, .inr (.inr (.inl (some 1)))), (1, .inl (a)), (2, .inl (b)), (3, .inl (c)), (4, .inl (e))]) (S' := [.inr (.inr (.inl (some 1))), .inr (.inr (.inl (some 1)))]) (h' := (kc_upd (kc_upd (kc_upd (kc_upd (kc_upd (kc_upd (kc_upd h (1 + (15 + K)) 0 (.inl (a))) (1 + (15 + K)) 1 (.inl (b))) (1 + (15 + K)) 2 (.inl (c))) (1 + (15 + K)) 3 (.inl (e))) (1 + (15 + K)) 4 (.inl (Int32.ofNat 100))) (1 + (15 + K)) 5 (.inl (Int32.ofNat 0))) (1 + (15 + K)) 6 (.inl (Int32.ofInt (-1))))) (by with_unfolding_all rfl) ?_
              refine kx_getf (c := 1) (v := .inl (Int32.ofNat K)) rfl (by decide) ((fu_ne (by omega)).trans ((fu_ne (by omega)).trans ((fu_ne (by omega)).trans ((fu_ne (by omega)).trans ((fu_ne (by omega)).trans ((fu_ne (by omega)).trans ((fu_ne (by omega)).trans ((fu_C0 hC).2.2.1.trans (by rw [eK]))))))))) ?_
              refine kx_go 2 (pc' := 116) (L' := [(5, .inr (.inr (.inl (some (1 + (15 + K)))))), (0, .inr (.inr (.inl (some 1)))), (1, .inl (a)), (2, .inl (b)), (3, .inl (c)), (4, .inl (e))]) (S' := [.inl ((Int32.ofNat K) + (Int32.ofNat 1)), .inr (.inr (.inl (some 1)))]) (h' := (kc_upd (kc_upd (kc_upd (kc_upd (kc_upd (kc_upd (kc_upd h (1 + (15 + K)) 0 (.inl (a))) (1 + (15 + K)) 1 (.inl (b))) (1 + (15 + K)) 2 (.inl (c))) (1 + (15 + K)) 3 (.inl (e))) (1 + (15 + K)) 4 (.inl (Int32.ofNat 100))) (1 + (15 + K)) 5 (.inl (Int32.ofNat 0))) (1 + (15 + K)) 6 (.inl (Int32.ofInt (-1))))) (by with_unfolding_all rfl) ?_
              rw [kx_inc1]
              refine kx_go 1 (pc' := 119) (L' := [(5, .inr (.inr (.inl (some (1 + (15 + K)))))), (0, .inr (.inr (.inl (some 1)))), (1, .inl (a)), (2, .inl (b)), (3, .inl (c)), (4, .inl (e))]) (S' := []) (h' := (kc_upd (kc_upd (kc_upd (kc_upd (kc_upd (kc_upd (kc_upd (kc_upd h (1 + (15 + K)) 0 (.inl (a))) (1 + (15 + K)) 1 (.inl (b))) (1 + (15 + K)) 2 (.inl (c))) (1 + (15 + K)) 3 (.inl (e))) (1 + (15 + K)) 4 (.inl (Int32.ofNat 100))) (1 + (15 + K)) 5 (.inl (Int32.ofNat 0))) (1 + (15 + K)) 6 (.inl (Int32.ofInt (-1)))) 1 2 (.inl (Int32.ofNat (K + 1))))) (by with_unfolding_all rfl) ?_
              refine kx_go 1 (pc' := 120) (L' := [(5, .inr (.inr (.inl (some (1 + (15 + K)))))), (0, .inr (.inr (.inl (some 1)))), (1, .inl (a)), (2, .inl (b)), (3, .inl (c)), (4, .inl (e))]) (S' := [.inr (.inr (.inl (some 1)))]) (h' := (kc_upd (kc_upd (kc_upd (kc_upd (kc_upd (kc_upd (kc_upd (kc_upd h (1 + (15 + K)) 0 (.inl (a))) (1 + (15 + K)) 1 (.inl (b))) (1 + (15 + K)) 2 (.inl (c))) (1 + (15 + K)) 3 (.inl (e))) (1 + (15 + K)) 4 (.inl (Int32.ofNat 100))) (1 + (15 + K)) 5 (.inl (Int32.ofNat 0))) (1 + (15 + K)) 6 (.inl (Int32.ofInt (-1)))) 1 2 (.inl (Int32.ofNat (K + 1))))) (by with_unfolding_all rfl) ?_
              refine kx_getf (c := 1) (v := .inl (Int32.ofNat (K + 1))) rfl (by decide) (fu_eq) ?_
              refine kx_go 2 (pc' := 125) (L' := [(5, .inr (.inr (.inl (some (1 + (15 + K)))))), (0, .inr (.inr (.inl (some 1)))), (1, .inl (a)), (2, .inl (b)), (3, .inl (c)), (4, .inl (e))]) (S' := [.inl ((Int32.ofNat (K + 1)) - (Int32.ofNat 1))]) (h' := (kc_upd (kc_upd (kc_upd (kc_upd (kc_upd (kc_upd (kc_upd (kc_upd h (1 + (15 + K)) 0 (.inl (a))) (1 + (15 + K)) 1 (.inl (b))) (1 + (15 + K)) 2 (.inl (c))) (1 + (15 + K)) 3 (.inl (e))) (1 + (15 + K)) 4 (.inl (Int32.ofNat 100))) (1 + (15 + K)) 5 (.inl (Int32.ofNat 0))) (1 + (15 + K)) 6 (.inl (Int32.ofInt (-1)))) 1 2 (.inl (Int32.ofNat (K + 1))))) (by with_unfolding_all rfl) ?_
              rw [fu_mu3 (by omega)]
              have key : fu_load B a b c e = (Int32.ofNat K, [(80 + 7 * K + 0, a), (80 + 7 * K + 1, b), (80 + 7 * K + 2, c), (80 + 7 * K + 3, e), (80 + 7 * K + 4, Int32.ofNat 100), (80 + 7 * K + 5, Int32.ofNat 0), (80 + 7 * K + 6, Int32.ofInt (-1)), (2, Int32.ofNat (K + 1))]) := by unfold fu_load; rw [if_pos (by rw [e1, e2, e3, e4, decide_eq_false e5]; rfl), eK, kx_inc1, if_pos (by rw [kx_ti (by omega)]; omega), fu_tn (by omega)]
              have eh : fu_cw 1 [(80 + 7 * K + 0, a), (80 + 7 * K + 1, b), (80 + 7 * K + 2, c), (80 + 7 * K + 3, e), (80 + 7 * K + 4, Int32.ofNat 100), (80 + 7 * K + 5, Int32.ofNat 0), (80 + 7 * K + 6, Int32.ofInt (-1)), (2, Int32.ofNat (K + 1))] h = (kc_upd (kc_upd (kc_upd (kc_upd (kc_upd (kc_upd (kc_upd (kc_upd h (1 + (15 + K)) 0 (.inl (a))) (1 + (15 + K)) 1 (.inl (b))) (1 + (15 + K)) 2 (.inl (c))) (1 + (15 + K)) 3 (.inl (e))) (1 + (15 + K)) 4 (.inl (Int32.ofNat 100))) (1 + (15 + K)) 5 (.inl (Int32.ofNat 0))) (1 + (15 + K)) 6 (.inl (Int32.ofInt (-1)))) 1 2 (.inl (Int32.ofNat (K + 1)))) := by simp only [fu_cw, ((fu_flo K e9).1 0 (by decide)).1, ((fu_flo K e9).1 1 (by decide)).1, ((fu_flo K e9).1 2 (by decide)).1, ((fu_flo K e9).1 3 (by decide)).1, ((fu_flo K e9).1 4 (by decide)).1, ((fu_flo K e9).1 5 (by decide)).1, ((fu_flo K e9).1 6 (by decide)).1, fu_f0.2.2.2.1]
              exact kc_ret_ok rfl (rv := some (.inl (Int32.ofNat K))) rfl ⟨fu_e1 key, eh.symm.trans (fu_ec key)⟩
            · rw [if_neg (fun q => e9 (by have := fu_ilt.mp q; rw [kx_ti (by omega), kx_ti (by omega)] at this; omega))]
              refine kx_go 1 (pc' := 59) (L' := [(0, .inr (.inr (.inl (some 1)))), (1, .inl (a)), (2, .inl (b)), (3, .inl (c)), (4, .inl (e))]) (S' := [.inl (Int32.ofInt (-4))]) (h' := h) (by with_unfolding_all rfl) ?_
              have key : fu_load B a b c e = (Int32.ofInt (-4), []) := by unfold fu_load; rw [if_pos (by rw [e1, e2, e3, e4, decide_eq_false e5]; rfl), eK, if_neg (by rw [kx_ti (by omega)]; omega)]
              exact kc_ret_ok rfl (rv := some (.inl (Int32.ofInt (-4)))) rfl ⟨fu_e1 key, fu_ec key⟩
set_option maxRecDepth 20000 in
theorem fu_c36 {g : kc_G} {d : Nat} {h : kc_H} {B : Nat → Int32} {a b c : Int32} (hg : kc_ok g) (hw : kd_wt kd_ty h) (hC : fu_C B 1 h) (hB : fu_BT B) : kc_Con g (d + 4) 36 [.inr (.inr (.inl (some 1))), .inl a, .inl b, .inl c] h (fun rv h' => rv = some (.inl (fu_lame B a b c).1) ∧ h' = fu_cw 1 (fu_lame B a b c).2 h) := by
  refine kc_Con_new hg (M := wk_m36) rfl rfl rfl (show 4 ≤ 5 by decide) ?_
  obtain ⟨K, K1, eK⟩ := fu_n1 hB
  refine kx_go 3 (pc' := 3) (L' := [(0, .inr (.inr (.inl (some 1)))), (1, .inl (a)), (2, .inl (b)), (3, .inl (c))]) (S' := [.inl (b), .inl (a), .inr (.inr (.inl (some 1)))]) (h' := h) (by with_unfolding_all rfl) ?_
  refine kc_call_rule (M2 := wk_m37) (av := [.inr (.inr (.inl (some 1))), .inl (a), .inl (b)]) (r := []) rfl rfl (kc_Con_le (fu_c37 (d := 0) hg hC hB) (by omega)) (fun rv h2 hq => ?_)
  obtain ⟨rfl, e⟩ := hq
  rw [e]
  clear e
  show kc_Ev g (d + 3) wk_m36 _ 6 [(0, .inr (.inr (.inl (some 1)))), (1, .inl (a)), (2, .inl (b)), (3, .inl (c))] [.inl (kp_b (fu_in a 0 ((B 1).toInt - 1) && fu_in b 0 1))] h
  refine kx_go 1 (pc' := (if kc_cnd .eq (kp_b (fu_in a 0 ((B 1).toInt - 1) && fu_in b 0 1)).toInt 0 then 20 else 9)) (L' := [(0, .inr (.inr (.inl (some 1)))), (1, .inl (a)), (2, .inl (b)), (3, .inl (c))]) (S' := []) (h' := h) (by with_unfolding_all rfl) ?_
  cases e1 : (fu_in a 0 ((B 1).toInt - 1) && fu_in b 0 1) with
  | false =>
    rw [if_pos (kx_b0.mpr rfl)]
    refine kx_go 1 (pc' := 22) (L' := [(0, .inr (.inr (.inl (some 1)))), (1, .inl (a)), (2, .inl (b)), (3, .inl (c))]) (S' := [.inl (Int32.ofInt (-2))]) (h' := h) (by with_unfolding_all rfl) ?_
    have key : fu_lame B a b c = (Int32.ofInt (-2), []) := by unfold fu_lame; rw [if_neg (by simp [← Bool.and_assoc, e1])]
    exact kc_ret_ok rfl (rv := some (.inl (Int32.ofInt (-2)))) rfl ⟨fu_e1 key, fu_ec key⟩
  | true =>
    rw [if_neg (fun q => by have := kx_b0.mp q; cases this)]
    refine kx_go 3 (pc' := 14) (L' := [(0, .inr (.inr (.inl (some 1)))), (1, .inl (a)), (2, .inl (b)), (3, .inl (c))]) (S' := [.inl (Int32.ofNat 999), .inl (Int32.ofNat 0), .inl (c)]) (h' := h) (by with_unfolding_all rfl) ?_
    refine kc_call_rule (M2 := wk_m19) (av := [.inl (c), .inl (Int32.ofNat 0), .inl (Int32.ofNat 999)]) (r := []) rfl rfl (kc_Con_le (fu_bt (d := 0) (lo := 0) (hi := 999) hg rfl rfl) (by omega)) (fun rv h2 hq => ?_)
    obtain ⟨rfl, e⟩ := hq
    rw [e]
    clear e
    show kc_Ev g (d + 3) wk_m36 _ 17 [(0, .inr (.inr (.inl (some 1)))), (1, .inl (a)), (2, .inl (b)), (3, .inl (c))] [.inl (kp_b (fu_in c 0 999))] h
    refine kx_go 1 (pc' := (if kc_cnd .ne (kp_b (fu_in c 0 999)).toInt 0 then 23 else 20)) (L' := [(0, .inr (.inr (.inl (some 1)))), (1, .inl (a)), (2, .inl (b)), (3, .inl (c))]) (S' := []) (h' := h) (by with_unfolding_all rfl) ?_
    cases e2 : fu_in c 0 999 with
    | false =>
      rw [if_neg (fun q => by have := kx_b1.mp q; cases this)]
      refine kx_go 1 (pc' := 22) (L' := [(0, .inr (.inr (.inl (some 1)))), (1, .inl (a)), (2, .inl (b)), (3, .inl (c))]) (S' := [.inl (Int32.ofInt (-2))]) (h' := h) (by with_unfolding_all rfl) ?_
      have key : fu_lame B a b c = (Int32.ofInt (-2), []) := by unfold fu_lame; rw [if_neg (by simp [e2])]
      exact kc_ret_ok rfl (rv := some (.inl (Int32.ofInt (-2)))) rfl ⟨fu_e1 key, fu_ec key⟩
    | true =>
      rw [if_pos (kx_b1.mpr rfl)]
      rw [Bool.and_eq_true] at e1
      obtain ⟨e1, e3⟩ := e1
      have q1 := e1
      rw [eK, kx_ti (by omega)] at q1
      obtain ⟨x, x5, rfl, x6, x7⟩ := fu_in_n (u := 3) q1 (by omega) (by omega)
      obtain ⟨y, y1, rfl, -⟩ := fu_in_n (u := 1) e3 (by omega) (by omega)
      have hx : x < 3 := by omega
      refine kx_go 1 (pc' := 24) (L' := [(0, .inr (.inr (.inl (some 1)))), (1, .inl (Int32.ofNat x)), (2, .inl (Int32.ofNat y)), (3, .inl (c))]) (S' := [.inr (.inr (.inl (some 1)))]) (h' := h) (by with_unfolding_all rfl) ?_
      refine kx_getf (c := 1) (v := .inr (.inr (.inl (some 11)))) rfl (by decide) (kx_ofr (hw _ _ _ fu_kr.2.2.2.1)) ?_
      refine kx_go 1 (pc' := 28) (L' := [(0, .inr (.inr (.inl (some 1)))), (1, .inl (Int32.ofNat x)), (2, .inl (Int32.ofNat y)), (3, .inl (c))]) (S' := [.inl (Int32.ofNat x), .inr (.inr (.inl (some 11)))]) (h' := h) (by with_unfolding_all rfl) ?_
      refine kx_aald (c := 11) (j := x) (m := 3) (t0 := 2) (v := .inr (.inr (.inl (some (1 + (11 + x)))))) rfl rfl (by decide) (by decide) (by decide) hx (kx_ofr (hw _ _ _ (fu_smu x hx).2)) ?_
      refine kx_go 3 (pc' := 32) (L' := [(0, .inr (.inr (.inl (some 1)))), (1, .inl (Int32.ofNat x)), (2, .inl (Int32.ofNat y)), (3, .inl (c))]) (S' := [.inl ((Int32.ofNat 3) + (Int32.ofNat y)), .inr (.inr (.inl (some (1 + (11 + x)))))]) (h' := h) (by with_unfolding_all rfl) ?_
      rw [kx_add]
      refine kx_iald (c := (1 + (11 + x))) (j := (3 + y)) (m := 5) (v := .inl (B (60 + 5 * x + (3 + y)))) rfl (fu_smu x hx).1.1 (fu_smu x hx).1.2 (by decide) (by omega) (fu_Cj hC (by omega) ((fu_fmu x hx).1 _ (by omega)).2 ((fu_fmu x hx).1 _ (by omega)).1) ?_
      refine kx_go 2 (pc' := 36) (L' := [(4, .inl (B (60 + 5 * x + (3 + y)))), (0, .inr (.inr (.inl (some 1)))), (1, .inl (Int32.ofNat x)), (2, .inl (Int32.ofNat y)), (3, .inl (c))]) (S' := [.inr (.inr (.inl (some 1)))]) (h' := h) (by with_unfolding_all rfl) ?_
      refine kx_getf (c := 1) (v := .inr (.inr (.inl (some 11)))) rfl (by decide) (kx_ofr (hw _ _ _ fu_kr.2.2.2.1)) ?_
      refine kx_go 1 (pc' := 40) (L' := [(4, .inl (B (60 + 5 * x + (3 + y)))), (0, .inr (.inr (.inl (some 1)))), (1, .inl (Int32.ofNat x)), (2, .inl (Int32.ofNat y)), (3, .inl (c))]) (S' := [.inl (Int32.ofNat x), .inr (.inr (.inl (some 11)))]) (h' := h) (by with_unfolding_all rfl) ?_
      refine kx_aald (c := 11) (j := x) (m := 3) (t0 := 2) (v := .inr (.inr (.inl (some (1 + (11 + x)))))) rfl rfl (by decide) (by decide) (by decide) hx (kx_ofr (hw _ _ _ (fu_smu x hx).2)) ?_
      refine kx_go 4 (pc' := 45) (L' := [(4, .inl (B (60 + 5 * x + (3 + y)))), (0, .inr (.inr (.inl (some 1)))), (1, .inl (Int32.ofNat x)), (2, .inl (Int32.ofNat y)), (3, .inl (c))]) (S' := [.inl (c), .inl ((Int32.ofNat 3) + (Int32.ofNat y)), .inr (.inr (.inl (some (1 + (11 + x)))))]) (h' := h) (by with_unfolding_all rfl) ?_
      rw [kx_add]
      refine kx_iast (c := (1 + (11 + x))) (j := (3 + y)) (m := 5) rfl (fu_smu x hx).1.1 (fu_smu x hx).1.2 (by decide) (by omega) ?_
      refine kx_go 1 (pc' := 48) (L' := [(4, .inl (B (60 + 5 * x + (3 + y)))), (0, .inr (.inr (.inl (some 1)))), (1, .inl (Int32.ofNat x)), (2, .inl (Int32.ofNat y)), (3, .inl (c))]) (S' := [.inl (B (60 + 5 * x + (3 + y)))]) (h' := (kc_upd h (1 + (11 + x)) (3 + y) (.inl (c)))) (by with_unfolding_all rfl) ?_
      have key : fu_lame B (Int32.ofNat x) (Int32.ofNat y) c = (B (60 + 5 * x + (3 + y)), [(60 + 5 * x + (3 + y), c)]) := by unfold fu_lame; rw [if_pos (by rw [e1, e2, e3]; rfl), fu_tn (by omega), fu_tn (by omega)]
      have eh : fu_cw 1 [(60 + 5 * x + (3 + y), c)] h = (kc_upd h (1 + (11 + x)) (3 + y) (.inl (c))) := by simp only [fu_cw, ((fu_fmu x hx).1 (3 + y) (by omega)).1]
      exact kc_ret_ok rfl (rv := some (.inl (B (60 + 5 * x + (3 + y))))) rfl ⟨fu_e1 key, eh.symm.trans (fu_ec key)⟩
set_option maxRecDepth 20000 in
theorem fu_c45_4 {g : kc_G} {d : Nat} {h : kc_H} {B : Nat → Int32} {a b : Int32} (hg : kc_ok g) (hw : kd_wt kd_ty h) (hC : fu_C B 1 h) (hB : fu_BT B) : kc_Con g (d + 3) 45 [.inr (.inr (.inl (some 1))), .inl a, .inl (Int32.ofNat 4), .inl b, .inl (Int32.ofNat 100)] h (fun rv h' => rv = some (.inl (fu_ofl B 4 100 a b).1) ∧ h' = fu_cw 1 (fu_ofl B 4 100 a b).2 h) := by
  refine kc_Con_new hg (M := wk_m45) rfl rfl rfl (show 5 ≤ 6 by decide) ?_
  obtain ⟨K, K1, eK⟩ := fu_n2 hB
  refine kx_go 2 (pc' := 2) (L' := [(0, .inr (.inr (.inl (some 1)))), (1, .inl (a)), (2, .inl (Int32.ofNat 4)), (3, .inl (b)), (4, .inl (Int32.ofNat 100))]) (S' := [.inl (a), .inr (.inr (.inl (some 1)))]) (h' := h) (by with_unfolding_all rfl) ?_
  refine kc_call_rule (M2 := wk_m46) (av := [.inr (.inr (.inl (some 1))), .inl (a)]) (r := []) rfl rfl (kc_Con_le (fu_c46 (d := 0) hg hC hB) (by omega)) (fun rv h2 hq => ?_)
  obtain ⟨rfl, e⟩ := hq
  rw [e]
  clear e
  show kc_Ev g (d + 2) wk_m45 _ 5 [(0, .inr (.inr (.inl (some 1)))), (1, .inl (a)), (2, .inl (Int32.ofNat 4)), (3, .inl (b)), (4, .inl (Int32.ofNat 100))] [.inl (kp_b (fu_in a 0 ((B 2).toInt - 1)))] h
  refine kx_go 1 (pc' := (if kc_cnd .eq (kp_b (fu_in a 0 ((B 2).toInt - 1))).toInt 0 then 18 else 8)) (L' := [(0, .inr (.inr (.inl (some 1)))), (1, .inl (a)), (2, .inl (Int32.ofNat 4)), (3, .inl (b)), (4, .inl (Int32.ofNat 100))]) (S' := []) (h' := h) (by with_unfolding_all rfl) ?_
  cases e1 : fu_in a 0 ((B 2).toInt - 1) with
  | false =>
    rw [if_pos (kx_b0.mpr rfl)]
    refine kx_go 1 (pc' := 20) (L' := [(0, .inr (.inr (.inl (some 1)))), (1, .inl (a)), (2, .inl (Int32.ofNat 4)), (3, .inl (b)), (4, .inl (Int32.ofNat 100))]) (S' := [.inl (Int32.ofInt (-2))]) (h' := h) (by with_unfolding_all rfl) ?_
    have key : fu_ofl B 4 100 a b = (Int32.ofInt (-2), []) := by unfold fu_ofl; rw [if_neg (by simp [e1])]
    exact kc_ret_ok rfl (rv := some (.inl (Int32.ofInt (-2)))) rfl ⟨fu_e1 key, fu_ec key⟩
  | true =>
    rw [if_neg (fun q => by have := kx_b0.mp q; cases this)]
    refine kx_go 3 (pc' := 12) (L' := [(0, .inr (.inr (.inl (some 1)))), (1, .inl (a)), (2, .inl (Int32.ofNat 4)), (3, .inl (b)), (4, .inl (Int32.ofNat 100))]) (S' := [.inl (Int32.ofNat 100), .inl (Int32.ofNat 0), .inl (b)]) (h' := h) (by with_unfolding_all rfl) ?_
    refine kc_call_rule (M2 := wk_m19) (av := [.inl (b), .inl (Int32.ofNat 0), .inl (Int32.ofNat 100)]) (r := []) rfl rfl (kc_Con_le (fu_bt (d := 0) (lo := 0) (hi := 100) hg rfl rfl) (by omega)) (fun rv h2 hq => ?_)
    obtain ⟨rfl, e⟩ := hq
    rw [e]
    clear e
    show kc_Ev g (d + 2) wk_m45 _ 15 [(0, .inr (.inr (.inl (some 1)))), (1, .inl (a)), (2, .inl (Int32.ofNat 4)), (3, .inl (b)), (4, .inl (Int32.ofNat 100))] [.inl (kp_b (fu_in b 0 100))] h
    refine kx_go 1 (pc' := (if kc_cnd .ne (kp_b (fu_in b 0 100)).toInt 0 then 21 else 18)) (L' := [(0, .inr (.inr (.inl (some 1)))), (1, .inl (a)), (2, .inl (Int32.ofNat 4)), (3, .inl (b)), (4, .inl (Int32.ofNat 100))]) (S' := []) (h' := h) (by with_unfolding_all rfl) ?_
    cases e2 : fu_in b 0 100 with
    | false =>
      rw [if_neg (fun q => by have := kx_b1.mp q; cases this)]
      refine kx_go 1 (pc' := 20) (L' := [(0, .inr (.inr (.inl (some 1)))), (1, .inl (a)), (2, .inl (Int32.ofNat 4)), (3, .inl (b)), (4, .inl (Int32.ofNat 100))]) (S' := [.inl (Int32.ofInt (-2))]) (h' := h) (by with_unfolding_all rfl) ?_
      have key : fu_ofl B 4 100 a b = (Int32.ofInt (-2), []) := by unfold fu_ofl; rw [if_neg (by simp [e1, e2])]
      exact kc_ret_ok rfl (rv := some (.inl (Int32.ofInt (-2)))) rfl ⟨fu_e1 key, fu_ec key⟩
    | true =>
      rw [if_pos (kx_b1.mpr rfl)]
      have q1 := e1
      rw [eK, kx_ti (by omega)] at q1
      obtain ⟨x, x5, rfl, x6, x7⟩ := fu_in_n (u := 10) q1 (by omega) (by omega)
      have hx : x < 10 := by omega
      refine kx_go 1 (pc' := 22) (L' := [(0, .inr (.inr (.inl (some 1)))), (1, .inl (Int32.ofNat x)), (2, .inl (Int32.ofNat 4)), (3, .inl (b)), (4, .inl (Int32.ofNat 100))]) (S' := [.inr (.inr (.inl (some 1)))]) (h' := h) (by with_unfolding_all rfl) ?_
      refine kx_getf (c := 1) (v := .inr (.inr (.inl (some 15)))) rfl (by decide) (kx_ofr (hw _ _ _ fu_kr.2.2.2.2.1)) ?_
      refine kx_go 1 (pc' := 26) (L' := [(0, .inr (.inr (.inl (some 1)))), (1, .inl (Int32.ofNat x)), (2, .inl (Int32.ofNat 4)), (3, .inl (b)), (4, .inl (Int32.ofNat 100))]) (S' := [.inl (Int32.ofNat x), .inr (.inr (.inl (some 15)))]) (h' := h) (by with_unfolding_all rfl) ?_
      refine kx_aald (c := 15) (j := x) (m := 10) (t0 := 2) (v := .inr (.inr (.inl (some (1 + (15 + x)))))) rfl rfl (by decide) (by decide) (by decide) hx (kx_ofr (hw _ _ _ (fu_slo x hx).2)) ?_
      refine kx_go 1 (pc' := 28) (L' := [(0, .inr (.inr (.inl (some 1)))), (1, .inl (Int32.ofNat x)), (2, .inl (Int32.ofNat 4)), (3, .inl (b)), (4, .inl (Int32.ofNat 100))]) (S' := [.inl (Int32.ofNat 4), .inr (.inr (.inl (some (1 + (15 + x)))))]) (h' := h) (by with_unfolding_all rfl) ?_
      refine kx_iald (c := (1 + (15 + x))) (j := 4) (m := 7) (v := .inl (B (80 + 7 * x + 4))) rfl (fu_slo x hx).1.1 (fu_slo x hx).1.2 (by decide) (by decide) (fu_Cj hC (by omega) (((fu_flo x hx).1 4 (by decide)).2.2 (by decide)) ((fu_flo x hx).1 4 (by decide)).1) ?_
      refine kx_go 2 (pc' := 32) (L' := [(5, .inl (B (80 + 7 * x + 4))), (0, .inr (.inr (.inl (some 1)))), (1, .inl (Int32.ofNat x)), (2, .inl (Int32.ofNat 4)), (3, .inl (b)), (4, .inl (Int32.ofNat 100))]) (S' := [.inr (.inr (.inl (some 1)))]) (h' := h) (by with_unfolding_all rfl) ?_
      refine kx_getf (c := 1) (v := .inr (.inr (.inl (some 15)))) rfl (by decide) (kx_ofr (hw _ _ _ fu_kr.2.2.2.2.1)) ?_
      refine kx_go 1 (pc' := 36) (L' := [(5, .inl (B (80 + 7 * x + 4))), (0, .inr (.inr (.inl (some 1)))), (1, .inl (Int32.ofNat x)), (2, .inl (Int32.ofNat 4)), (3, .inl (b)), (4, .inl (Int32.ofNat 100))]) (S' := [.inl (Int32.ofNat x), .inr (.inr (.inl (some 15)))]) (h' := h) (by with_unfolding_all rfl) ?_
      refine kx_aald (c := 15) (j := x) (m := 10) (t0 := 2) (v := .inr (.inr (.inl (some (1 + (15 + x)))))) rfl rfl (by decide) (by decide) (by decide) hx (kx_ofr (hw _ _ _ (fu_slo x hx).2)) ?_
      refine kx_go 2 (pc' := 39) (L' := [(5, .inl (B (80 + 7 * x + 4))), (0, .inr (.inr (.inl (some 1)))), (1, .inl (Int32.ofNat x)), (2, .inl (Int32.ofNat 4)), (3, .inl (b)), (4, .inl (Int32.ofNat 100))]) (S' := [.inl (b), .inl (Int32.ofNat 4), .inr (.inr (.inl (some (1 + (15 + x)))))]) (h' := h) (by with_unfolding_all rfl) ?_
      refine kx_iast (c := (1 + (15 + x))) (j := 4) (m := 7) rfl (fu_slo x hx).1.1 (fu_slo x hx).1.2 (by decide) (by decide) ?_
      refine kx_go 1 (pc' := 42) (L' := [(5, .inl (B (80 + 7 * x + 4))), (0, .inr (.inr (.inl (some 1)))), (1, .inl (Int32.ofNat x)), (2, .inl (Int32.ofNat 4)), (3, .inl (b)), (4, .inl (Int32.ofNat 100))]) (S' := [.inl (B (80 + 7 * x + 4))]) (h' := (kc_upd h (1 + (15 + x)) 4 (.inl (b)))) (by with_unfolding_all rfl) ?_
      have key : fu_ofl B 4 100 (Int32.ofNat x) b = (B (80 + 7 * x + 4), [(80 + 7 * x + 4, b)]) := by unfold fu_ofl; rw [if_pos (by rw [e1, e2]; rfl), fu_tn (by omega)]
      have eh : fu_cw 1 [(80 + 7 * x + 4, b)] h = (kc_upd h (1 + (15 + x)) 4 (.inl (b))) := by simp only [fu_cw, ((fu_flo x hx).1 4 (by decide)).1]
      exact kc_ret_ok rfl (rv := some (.inl (B (80 + 7 * x + 4)))) rfl ⟨fu_e1 key, eh.symm.trans (fu_ec key)⟩
set_option maxRecDepth 20000 in
theorem fu_c45_5 {g : kc_G} {d : Nat} {h : kc_H} {B : Nat → Int32} {a b : Int32} (hg : kc_ok g) (hw : kd_wt kd_ty h) (hC : fu_C B 1 h) (hB : fu_BT B) : kc_Con g (d + 3) 45 [.inr (.inr (.inl (some 1))), .inl a, .inl (Int32.ofNat 5), .inl b, .inl (Int32.ofNat 9)] h (fun rv h' => rv = some (.inl (fu_ofl B 5 9 a b).1) ∧ h' = fu_cw 1 (fu_ofl B 5 9 a b).2 h) := by
  refine kc_Con_new hg (M := wk_m45) rfl rfl rfl (show 5 ≤ 6 by decide) ?_
  obtain ⟨K, K1, eK⟩ := fu_n2 hB
  refine kx_go 2 (pc' := 2) (L' := [(0, .inr (.inr (.inl (some 1)))), (1, .inl (a)), (2, .inl (Int32.ofNat 5)), (3, .inl (b)), (4, .inl (Int32.ofNat 9))]) (S' := [.inl (a), .inr (.inr (.inl (some 1)))]) (h' := h) (by with_unfolding_all rfl) ?_
  refine kc_call_rule (M2 := wk_m46) (av := [.inr (.inr (.inl (some 1))), .inl (a)]) (r := []) rfl rfl (kc_Con_le (fu_c46 (d := 0) hg hC hB) (by omega)) (fun rv h2 hq => ?_)
  obtain ⟨rfl, e⟩ := hq
  rw [e]
  clear e
  show kc_Ev g (d + 2) wk_m45 _ 5 [(0, .inr (.inr (.inl (some 1)))), (1, .inl (a)), (2, .inl (Int32.ofNat 5)), (3, .inl (b)), (4, .inl (Int32.ofNat 9))] [.inl (kp_b (fu_in a 0 ((B 2).toInt - 1)))] h
  refine kx_go 1 (pc' := (if kc_cnd .eq (kp_b (fu_in a 0 ((B 2).toInt - 1))).toInt 0 then 18 else 8)) (L' := [(0, .inr (.inr (.inl (some 1)))), (1, .inl (a)), (2, .inl (Int32.ofNat 5)), (3, .inl (b)), (4, .inl (Int32.ofNat 9))]) (S' := []) (h' := h) (by with_unfolding_all rfl) ?_
  cases e1 : fu_in a 0 ((B 2).toInt - 1) with
  | false =>
    rw [if_pos (kx_b0.mpr rfl)]
    refine kx_go 1 (pc' := 20) (L' := [(0, .inr (.inr (.inl (some 1)))), (1, .inl (a)), (2, .inl (Int32.ofNat 5)), (3, .inl (b)), (4, .inl (Int32.ofNat 9))]) (S' := [.inl (Int32.ofInt (-2))]) (h' := h) (by with_unfolding_all rfl) ?_
    have key : fu_ofl B 5 9 a b = (Int32.ofInt (-2), []) := by unfold fu_ofl; rw [if_neg (by simp [e1])]
    exact kc_ret_ok rfl (rv := some (.inl (Int32.ofInt (-2)))) rfl ⟨fu_e1 key, fu_ec key⟩
  | true =>
    rw [if_neg (fun q => by have := kx_b0.mp q; cases this)]
    refine kx_go 3 (pc' := 12) (L' := [(0, .inr (.inr (.inl (some 1)))), (1, .inl (a)), (2, .inl (Int32.ofNat 5)), (3, .inl (b)), (4, .inl (Int32.ofNat 9))]) (S' := [.inl (Int32.ofNat 9), .inl (Int32.ofNat 0), .inl (b)]) (h' := h) (by with_unfolding_all rfl) ?_
    refine kc_call_rule (M2 := wk_m19) (av := [.inl (b), .inl (Int32.ofNat 0), .inl (Int32.ofNat 9)]) (r := []) rfl rfl (kc_Con_le (fu_bt (d := 0) (lo := 0) (hi := 9) hg rfl rfl) (by omega)) (fun rv h2 hq => ?_)
    obtain ⟨rfl, e⟩ := hq
    rw [e]
    clear e
    show kc_Ev g (d + 2) wk_m45 _ 15 [(0, .inr (.inr (.inl (some 1)))), (1, .inl (a)), (2, .inl (Int32.ofNat 5)), (3, .inl (b)), (4, .inl (Int32.ofNat 9))] [.inl (kp_b (fu_in b 0 9))] h
    refine kx_go 1 (pc' := (if kc_cnd .ne (kp_b (fu_in b 0 9)).toInt 0 then 21 else 18)) (L' := [(0, .inr (.inr (.inl (some 1)))), (1, .inl (a)), (2, .inl (Int32.ofNat 5)), (3, .inl (b)), (4, .inl (Int32.ofNat 9))]) (S' := []) (h' := h) (by with_unfolding_all rfl) ?_
    cases e2 : fu_in b 0 9 with
    | false =>
      rw [if_neg (fun q => by have := kx_b1.mp q; cases this)]
      refine kx_go 1 (pc' := 20) (L' := [(0, .inr (.inr (.inl (some 1)))), (1, .inl (a)), (2, .inl (Int32.ofNat 5)), (3, .inl (b)), (4, .inl (Int32.ofNat 9))]) (S' := [.inl (Int32.ofInt (-2))]) (h' := h) (by with_unfolding_all rfl) ?_
      have key : fu_ofl B 5 9 a b = (Int32.ofInt (-2), []) := by unfold fu_ofl; rw [if_neg (by simp [e1, e2])]
      exact kc_ret_ok rfl (rv := some (.inl (Int32.ofInt (-2)))) rfl ⟨fu_e1 key, fu_ec key⟩
    | true =>
      rw [if_pos (kx_b1.mpr rfl)]
      have q1 := e1
      rw [eK, kx_ti (by omega)] at q1
      obtain ⟨x, x5, rfl, x6, x7⟩ := fu_in_n (u := 10) q1 (by omega) (by omega)
      have hx : x < 10 := by omega
      refine kx_go 1 (pc' := 22) (L' := [(0, .inr (.inr (.inl (some 1)))), (1, .inl (Int32.ofNat x)), (2, .inl (Int32.ofNat 5)), (3, .inl (b)), (4, .inl (Int32.ofNat 9))]) (S' := [.inr (.inr (.inl (some 1)))]) (h' := h) (by with_unfolding_all rfl) ?_
      refine kx_getf (c := 1) (v := .inr (.inr (.inl (some 15)))) rfl (by decide) (kx_ofr (hw _ _ _ fu_kr.2.2.2.2.1)) ?_
      refine kx_go 1 (pc' := 26) (L' := [(0, .inr (.inr (.inl (some 1)))), (1, .inl (Int32.ofNat x)), (2, .inl (Int32.ofNat 5)), (3, .inl (b)), (4, .inl (Int32.ofNat 9))]) (S' := [.inl (Int32.ofNat x), .inr (.inr (.inl (some 15)))]) (h' := h) (by with_unfolding_all rfl) ?_
      refine kx_aald (c := 15) (j := x) (m := 10) (t0 := 2) (v := .inr (.inr (.inl (some (1 + (15 + x)))))) rfl rfl (by decide) (by decide) (by decide) hx (kx_ofr (hw _ _ _ (fu_slo x hx).2)) ?_
      refine kx_go 1 (pc' := 28) (L' := [(0, .inr (.inr (.inl (some 1)))), (1, .inl (Int32.ofNat x)), (2, .inl (Int32.ofNat 5)), (3, .inl (b)), (4, .inl (Int32.ofNat 9))]) (S' := [.inl (Int32.ofNat 5), .inr (.inr (.inl (some (1 + (15 + x)))))]) (h' := h) (by with_unfolding_all rfl) ?_
      refine kx_iald (c := (1 + (15 + x))) (j := 5) (m := 7) (v := .inl (B (80 + 7 * x + 5))) rfl (fu_slo x hx).1.1 (fu_slo x hx).1.2 (by decide) (by decide) (fu_Cj hC (by omega) (((fu_flo x hx).1 5 (by decide)).2.2 (by decide)) ((fu_flo x hx).1 5 (by decide)).1) ?_
      refine kx_go 2 (pc' := 32) (L' := [(5, .inl (B (80 + 7 * x + 5))), (0, .inr (.inr (.inl (some 1)))), (1, .inl (Int32.ofNat x)), (2, .inl (Int32.ofNat 5)), (3, .inl (b)), (4, .inl (Int32.ofNat 9))]) (S' := [.inr (.inr (.inl (some 1)))]) (h' := h) (by with_unfolding_all rfl) ?_
      refine kx_getf (c := 1) (v := .inr (.inr (.inl (some 15)))) rfl (by decide) (kx_ofr (hw _ _ _ fu_kr.2.2.2.2.1)) ?_
      refine kx_go 1 (pc' := 36) (L' := [(5, .inl (B (80 + 7 * x + 5))), (0, .inr (.inr (.inl (some 1)))), (1, .inl (Int32.ofNat x)), (2, .inl (Int32.ofNat 5)), (3, .inl (b)), (4, .inl (Int32.ofNat 9))]) (S' := [.inl (Int32.ofNat x), .inr (.inr (.inl (some 15)))]) (h' := h) (by with_unfolding_all rfl) ?_
      refine kx_aald (c := 15) (j := x) (m := 10) (t0 := 2) (v := .inr (.inr (.inl (some (1 + (15 + x)))))) rfl rfl (by decide) (by decide) (by decide) hx (kx_ofr (hw _ _ _ (fu_slo x hx).2)) ?_
      refine kx_go 2 (pc' := 39) (L' := [(5, .inl (B (80 + 7 * x + 5))), (0, .inr (.inr (.inl (some 1)))), (1, .inl (Int32.ofNat x)), (2, .inl (Int32.ofNat 5)), (3, .inl (b)), (4, .inl (Int32.ofNat 9))]) (S' := [.inl (b), .inl (Int32.ofNat 5), .inr (.inr (.inl (some (1 + (15 + x)))))]) (h' := h) (by with_unfolding_all rfl) ?_
      refine kx_iast (c := (1 + (15 + x))) (j := 5) (m := 7) rfl (fu_slo x hx).1.1 (fu_slo x hx).1.2 (by decide) (by decide) ?_
      refine kx_go 1 (pc' := 42) (L' := [(5, .inl (B (80 + 7 * x + 5))), (0, .inr (.inr (.inl (some 1)))), (1, .inl (Int32.ofNat x)), (2, .inl (Int32.ofNat 5)), (3, .inl (b)), (4, .inl (Int32.ofNat 9))]) (S' := [.inl (B (80 + 7 * x + 5))]) (h' := (kc_upd h (1 + (15 + x)) 5 (.inl (b)))) (by with_unfolding_all rfl) ?_
      have key : fu_ofl B 5 9 (Int32.ofNat x) b = (B (80 + 7 * x + 5), [(80 + 7 * x + 5, b)]) := by unfold fu_ofl; rw [if_pos (by rw [e1, e2]; rfl), fu_tn (by omega)]
      have eh : fu_cw 1 [(80 + 7 * x + 5, b)] h = (kc_upd h (1 + (15 + x)) 5 (.inl (b))) := by simp only [fu_cw, ((fu_flo x hx).1 5 (by decide)).1]
      exact kc_ret_ok rfl (rv := some (.inl (B (80 + 7 * x + 5)))) rfl ⟨fu_e1 key, eh.symm.trans (fu_ec key)⟩
set_option maxRecDepth 20000 in
theorem fu_c52 {g : kc_G} {d : Nat} {h : kc_H} {B : Nat → Int32} {a b : Int32} (hg : kc_ok g) (hw : kd_wt kd_ty h) (hC : fu_C B 1 h) (hB : fu_BT B) : kc_Con g (d + 2) 52 [.inr (.inr (.inl (some 1))), .inl a, .inl b] h (fun rv h' => rv = some (.inl (fu_put B a b).1) ∧ h' = fu_cw 1 (fu_put B a b).2 h) := by
  refine kc_Con_new hg (M := wk_m52) rfl rfl rfl (show 3 ≤ 4 by decide) ?_
  refine kx_go 3 (pc' := 3) (L' := [(0, .inr (.inr (.inl (some 1)))), (1, .inl (a)), (2, .inl (b))]) (S' := [.inl (Int32.ofNat 1), .inl (Int32.ofNat 0), .inl (a)]) (h' := h) (by with_unfolding_all rfl) ?_
  refine kc_call_rule (M2 := wk_m19) (av := [.inl (a), .inl (Int32.ofNat 0), .inl (Int32.ofNat 1)]) (r := []) rfl rfl (kc_Con_le (fu_bt (d := 0) (lo := 0) (hi := 1) hg rfl rfl) (by omega)) (fun rv h2 hq => ?_)
  obtain ⟨rfl, e⟩ := hq
  rw [e]
  clear e
  show kc_Ev g (d + 1) wk_m52 _ 6 [(0, .inr (.inr (.inl (some 1)))), (1, .inl (a)), (2, .inl (b))] [.inl (kp_b (fu_in a 0 1))] h
  refine kx_go 1 (pc' := (if kc_cnd .ne (kp_b (fu_in a 0 1)).toInt 0 then 12 else 9)) (L' := [(0, .inr (.inr (.inl (some 1)))), (1, .inl (a)), (2, .inl (b))]) (S' := []) (h' := h) (by with_unfolding_all rfl) ?_
  cases e1 : fu_in a 0 1 with
  | false =>
    rw [if_neg (fun q => by have := kx_b1.mp q; cases this)]
    refine kx_go 1 (pc' := 11) (L' := [(0, .inr (.inr (.inl (some 1)))), (1, .inl (a)), (2, .inl (b))]) (S' := [.inl (Int32.ofInt (-2))]) (h' := h) (by with_unfolding_all rfl) ?_
    have key : fu_put B a b = (Int32.ofInt (-2), []) := by unfold fu_put; rw [if_neg (by simp [e1])]
    exact kc_ret_ok rfl (rv := some (.inl (Int32.ofInt (-2)))) rfl ⟨fu_e1 key, fu_ec key⟩
  | true =>
    rw [if_pos (kx_b1.mpr rfl)]
    obtain ⟨x, x5, rfl, x6, x7⟩ := fu_in_n (u := 1) e1 (by omega) (by omega)
    rcases (show x = 0 ∨ x = 1 by omega) with rfl | rfl
    ·
      refine kx_go 4 (pc' := (if kc_cnd .ne (Int32.ofNat 0).toInt 0 then 23 else 18)) (L' := [(0, .inr (.inr (.inl (some 1)))), (1, .inl (Int32.ofNat 0)), (2, .inl (b))]) (S' := [.inl (Int32.ofNat 1), .inl (b)]) (h' := h) (by with_unfolding_all rfl) ?_
      rw [if_neg (by decide)]
      refine kx_go 2 (pc' := 25) (L' := [(0, .inr (.inr (.inl (some 1)))), (1, .inl (Int32.ofNat 0)), (2, .inl (b))]) (S' := [.inl (Int32.ofNat 20), .inl (Int32.ofNat 1), .inl (b)]) (h' := h) (by with_unfolding_all rfl) ?_
      refine kc_call_rule (M2 := wk_m19) (av := [.inl (b), .inl (Int32.ofNat 1), .inl (Int32.ofNat 20)]) (r := []) rfl rfl (kc_Con_le (fu_bt (d := 0) (lo := 1) (hi := 20) hg rfl rfl) (by omega)) (fun rv h2 hq => ?_)
      obtain ⟨rfl, e⟩ := hq
      rw [e]
      clear e
      show kc_Ev g (d + 1) wk_m52 _ 28 [(0, .inr (.inr (.inl (some 1)))), (1, .inl (Int32.ofNat 0)), (2, .inl (b))] [.inl (kp_b (fu_in b 1 20))] h
      refine kx_go 1 (pc' := (if kc_cnd .ne (kp_b (fu_in b 1 20)).toInt 0 then 34 else 31)) (L' := [(0, .inr (.inr (.inl (some 1)))), (1, .inl (Int32.ofNat 0)), (2, .inl (b))]) (S' := []) (h' := h) (by with_unfolding_all rfl) ?_
      cases e2 : fu_in b 1 20 with
      | false =>
        rw [if_neg (fun q => by have := kx_b1.mp q; cases this)]
        refine kx_go 1 (pc' := 33) (L' := [(0, .inr (.inr (.inl (some 1)))), (1, .inl (Int32.ofNat 0)), (2, .inl (b))]) (S' := [.inl (Int32.ofInt (-2))]) (h' := h) (by with_unfolding_all rfl) ?_
        have key : fu_put B (Int32.ofNat 0) b = (Int32.ofInt (-2), []) := by unfold fu_put; rw [if_neg (by rw [if_pos (by decide), e2]; simp)]
        exact kc_ret_ok rfl (rv := some (.inl (Int32.ofInt (-2)))) rfl ⟨fu_e1 key, fu_ec key⟩
      | true =>
        rw [if_pos (kx_b1.mpr rfl)]
        refine kx_go 1 (pc' := 35) (L' := [(0, .inr (.inr (.inl (some 1)))), (1, .inl (Int32.ofNat 0)), (2, .inl (b))]) (S' := [.inr (.inr (.inl (some 1)))]) (h' := h) (by with_unfolding_all rfl) ?_
        refine kx_getf (c := 1) (v := .inr (.inr (.inl (some 26)))) rfl (by decide) (kx_ofr (hw _ _ _ fu_kr.2.2.2.2.2.1)) ?_
        refine kx_go 1 (pc' := 39) (L' := [(0, .inr (.inr (.inl (some 1)))), (1, .inl (Int32.ofNat 0)), (2, .inl (b))]) (S' := [.inl (Int32.ofNat 0), .inr (.inr (.inl (some 26)))]) (h' := h) (by with_unfolding_all rfl) ?_
        refine kx_iald (c := 26) (j := 0) (m := 2) (v := .inl (B (4 + 0))) rfl rfl (by decide) (by decide) (by decide) (fu_Cj (c := 25) hC (by decide) (by decide) (by decide)) ?_
        refine kx_go 2 (pc' := 42) (L' := [(3, .inl (B (4 + 0))), (0, .inr (.inr (.inl (some 1)))), (1, .inl (Int32.ofNat 0)), (2, .inl (b))]) (S' := [.inr (.inr (.inl (some 1)))]) (h' := h) (by with_unfolding_all rfl) ?_
        refine kx_getf (c := 1) (v := .inr (.inr (.inl (some 26)))) rfl (by decide) (kx_ofr (hw _ _ _ fu_kr.2.2.2.2.2.1)) ?_
        refine kx_go 2 (pc' := 47) (L' := [(3, .inl (B (4 + 0))), (0, .inr (.inr (.inl (some 1)))), (1, .inl (Int32.ofNat 0)), (2, .inl (b))]) (S' := [.inl (b), .inl (Int32.ofNat 0), .inr (.inr (.inl (some 26)))]) (h' := h) (by with_unfolding_all rfl) ?_
        refine kx_iast (c := 26) (j := 0) (m := 2) rfl rfl (by decide) (by decide) (by decide) ?_
        refine kx_go 1 (pc' := 49) (L' := [(3, .inl (B (4 + 0))), (0, .inr (.inr (.inl (some 1)))), (1, .inl (Int32.ofNat 0)), (2, .inl (b))]) (S' := [.inl (B (4 + 0))]) (h' := (kc_upd h 26 0 (.inl (b)))) (by with_unfolding_all rfl) ?_
        have key : fu_put B (Int32.ofNat 0) b = (B (4 + 0), [(4 + 0, b)]) := by unfold fu_put; rw [if_pos (by rw [if_pos (by decide), e1, e2]; rfl), fu_tn (by omega)]
        have eh : fu_cw 1 [(4 + 0, b)] h = (kc_upd h 26 0 (.inl (b))) := by simp only [fu_cw, show fu_p (4 + 0) = (25, 0) from by decide]
        exact kc_ret_ok rfl (rv := some (.inl (B (4 + 0)))) rfl ⟨fu_e1 key, eh.symm.trans (fu_ec key)⟩
    ·
      refine kx_go 4 (pc' := (if kc_cnd .ne (Int32.ofNat 1).toInt 0 then 23 else 18)) (L' := [(0, .inr (.inr (.inl (some 1)))), (1, .inl (Int32.ofNat 1)), (2, .inl (b))]) (S' := [.inl (Int32.ofNat 1), .inl (b)]) (h' := h) (by with_unfolding_all rfl) ?_
      rw [if_pos (by decide)]
      refine kx_go 1 (pc' := 25) (L' := [(0, .inr (.inr (.inl (some 1)))), (1, .inl (Int32.ofNat 1)), (2, .inl (b))]) (S' := [.inl (Int32.ofNat 9), .inl (Int32.ofNat 1), .inl (b)]) (h' := h) (by with_unfolding_all rfl) ?_
      refine kc_call_rule (M2 := wk_m19) (av := [.inl (b), .inl (Int32.ofNat 1), .inl (Int32.ofNat 9)]) (r := []) rfl rfl (kc_Con_le (fu_bt (d := 0) (lo := 1) (hi := 9) hg rfl rfl) (by omega)) (fun rv h2 hq => ?_)
      obtain ⟨rfl, e⟩ := hq
      rw [e]
      clear e
      show kc_Ev g (d + 1) wk_m52 _ 28 [(0, .inr (.inr (.inl (some 1)))), (1, .inl (Int32.ofNat 1)), (2, .inl (b))] [.inl (kp_b (fu_in b 1 9))] h
      refine kx_go 1 (pc' := (if kc_cnd .ne (kp_b (fu_in b 1 9)).toInt 0 then 34 else 31)) (L' := [(0, .inr (.inr (.inl (some 1)))), (1, .inl (Int32.ofNat 1)), (2, .inl (b))]) (S' := []) (h' := h) (by with_unfolding_all rfl) ?_
      cases e2 : fu_in b 1 9 with
      | false =>
        rw [if_neg (fun q => by have := kx_b1.mp q; cases this)]
        refine kx_go 1 (pc' := 33) (L' := [(0, .inr (.inr (.inl (some 1)))), (1, .inl (Int32.ofNat 1)), (2, .inl (b))]) (S' := [.inl (Int32.ofInt (-2))]) (h' := h) (by with_unfolding_all rfl) ?_
        have key : fu_put B (Int32.ofNat 1) b = (Int32.ofInt (-2), []) := by unfold fu_put; rw [if_neg (by rw [if_neg (by decide), e2]; simp)]
        exact kc_ret_ok rfl (rv := some (.inl (Int32.ofInt (-2)))) rfl ⟨fu_e1 key, fu_ec key⟩
      | true =>
        rw [if_pos (kx_b1.mpr rfl)]
        refine kx_go 1 (pc' := 35) (L' := [(0, .inr (.inr (.inl (some 1)))), (1, .inl (Int32.ofNat 1)), (2, .inl (b))]) (S' := [.inr (.inr (.inl (some 1)))]) (h' := h) (by with_unfolding_all rfl) ?_
        refine kx_getf (c := 1) (v := .inr (.inr (.inl (some 26)))) rfl (by decide) (kx_ofr (hw _ _ _ fu_kr.2.2.2.2.2.1)) ?_
        refine kx_go 1 (pc' := 39) (L' := [(0, .inr (.inr (.inl (some 1)))), (1, .inl (Int32.ofNat 1)), (2, .inl (b))]) (S' := [.inl (Int32.ofNat 1), .inr (.inr (.inl (some 26)))]) (h' := h) (by with_unfolding_all rfl) ?_
        refine kx_iald (c := 26) (j := 1) (m := 2) (v := .inl (B (4 + 1))) rfl rfl (by decide) (by decide) (by decide) (fu_Cj (c := 25) hC (by decide) (by decide) (by decide)) ?_
        refine kx_go 2 (pc' := 42) (L' := [(3, .inl (B (4 + 1))), (0, .inr (.inr (.inl (some 1)))), (1, .inl (Int32.ofNat 1)), (2, .inl (b))]) (S' := [.inr (.inr (.inl (some 1)))]) (h' := h) (by with_unfolding_all rfl) ?_
        refine kx_getf (c := 1) (v := .inr (.inr (.inl (some 26)))) rfl (by decide) (kx_ofr (hw _ _ _ fu_kr.2.2.2.2.2.1)) ?_
        refine kx_go 2 (pc' := 47) (L' := [(3, .inl (B (4 + 1))), (0, .inr (.inr (.inl (some 1)))), (1, .inl (Int32.ofNat 1)), (2, .inl (b))]) (S' := [.inl (b), .inl (Int32.ofNat 1), .inr (.inr (.inl (some 26)))]) (h' := h) (by with_unfolding_all rfl) ?_
        refine kx_iast (c := 26) (j := 1) (m := 2) rfl rfl (by decide) (by decide) (by decide) ?_
        refine kx_go 1 (pc' := 49) (L' := [(3, .inl (B (4 + 1))), (0, .inr (.inr (.inl (some 1)))), (1, .inl (Int32.ofNat 1)), (2, .inl (b))]) (S' := [.inl (B (4 + 1))]) (h' := (kc_upd h 26 1 (.inl (b)))) (by with_unfolding_all rfl) ?_
        have key : fu_put B (Int32.ofNat 1) b = (B (4 + 1), [(4 + 1, b)]) := by unfold fu_put; rw [if_pos (by rw [if_neg (by decide), e1, e2]; rfl), fu_tn (by omega)]
        have eh : fu_cw 1 [(4 + 1, b)] h = (kc_upd h 26 1 (.inl (b))) := by simp only [fu_cw, show fu_p (4 + 1) = (25, 1) from by decide]
        exact kc_ret_ok rfl (rv := some (.inl (B (4 + 1)))) rfl ⟨fu_e1 key, eh.symm.trans (fu_ec key)⟩
set_option maxRecDepth 20000 in
theorem fu_c58 {g : kc_G} {d : Nat} {h : kc_H} {B : Nat → Int32} {a : Int32} (hg : kc_ok g) (hw : kd_wt kd_ty h) (hC : fu_C B 1 h) (hB : fu_BT B) : kc_Con g (d + 2) 58 [.inr (.inr (.inl (some 0))), .inl a] h (fun rv h' => rv = some (.inl (fu_clr B a).1) ∧ h' = fu_cw 1 (fu_clr B a).2 h) := by
  refine kc_Con_new hg (M := wk_m58) rfl rfl rfl (show 2 ≤ 3 by decide) ?_
  refine kx_go 3 (pc' := 3) (L' := [(0, .inr (.inr (.inl (some 0)))), (1, .inl (a))]) (S' := [.inl (Int32.ofNat 1), .inl (Int32.ofNat 0), .inl (a)]) (h' := h) (by with_unfolding_all rfl) ?_
  refine kc_call_rule (M2 := wk_m19) (av := [.inl (a), .inl (Int32.ofNat 0), .inl (Int32.ofNat 1)]) (r := []) rfl rfl (kc_Con_le (fu_bt (d := 0) (lo := 0) (hi := 1) hg rfl rfl) (by omega)) (fun rv h2 hq => ?_)
  obtain ⟨rfl, e⟩ := hq
  rw [e]
  clear e
  show kc_Ev g (d + 1) wk_m58 _ 6 [(0, .inr (.inr (.inl (some 0)))), (1, .inl (a))] [.inl (kp_b (fu_in a 0 1))] h
  refine kx_go 1 (pc' := (if kc_cnd .ne (kp_b (fu_in a 0 1)).toInt 0 then 12 else 9)) (L' := [(0, .inr (.inr (.inl (some 0)))), (1, .inl (a))]) (S' := []) (h' := h) (by with_unfolding_all rfl) ?_
  cases e1 : fu_in a 0 1 with
  | false =>
    rw [if_neg (fun q => by have := kx_b1.mp q; cases this)]
    refine kx_go 1 (pc' := 11) (L' := [(0, .inr (.inr (.inl (some 0)))), (1, .inl (a))]) (S' := [.inl (Int32.ofInt (-2))]) (h' := h) (by with_unfolding_all rfl) ?_
    have key : fu_clr B a = (Int32.ofInt (-2), []) := by unfold fu_clr; rw [if_neg (by simp [e1])]
    exact kc_ret_ok rfl (rv := some (.inl (Int32.ofInt (-2)))) rfl ⟨fu_e1 key, fu_ec key⟩
  | true =>
    rw [if_pos (kx_b1.mpr rfl)]
    obtain ⟨x, x5, rfl, x6, x7⟩ := fu_in_n (u := 1) e1 (by omega) (by omega)
    have hx : x < 2 := by omega
    refine kx_go 1 (pc' := 13) (L' := [(0, .inr (.inr (.inl (some 0)))), (1, .inl (Int32.ofNat x))]) (S' := [.inr (.inr (.inl (some 0)))]) (h' := h) (by with_unfolding_all rfl) ?_
    refine kx_getf (c := 0) (v := .inr (.inr (.inl (some 1)))) rfl (by decide) (kx_ofr (hw _ _ _ kv_k0.1)) ?_
    refine kx_getf (c := 1) (v := .inr (.inr (.inl (some 31)))) rfl (by decide) (kx_ofr (hw _ _ _ kr_k1.2.1)) ?_
    refine kx_go 1 (pc' := 20) (L' := [(0, .inr (.inr (.inl (some 0)))), (1, .inl (Int32.ofNat x))]) (S' := [.inl (Int32.ofNat x), .inr (.inr (.inl (some 31)))]) (h' := h) (by with_unfolding_all rfl) ?_
    refine kx_iald (c := 31) (j := x) (m := 2) (v := .inl (B (160 + x))) rfl rfl (by decide) (by decide) hx (fu_Cj (c := 30) hC (by omega) (fu_fby x hx).2.1 (fu_fby x hx).1) ?_
    refine kx_go 2 (pc' := 23) (L' := [(2, .inl (B (160 + x))), (0, .inr (.inr (.inl (some 0)))), (1, .inl (Int32.ofNat x))]) (S' := [.inr (.inr (.inl (some 0)))]) (h' := h) (by with_unfolding_all rfl) ?_
    refine kx_getf (c := 0) (v := .inr (.inr (.inl (some 1)))) rfl (by decide) (kx_ofr (hw _ _ _ kv_k0.1)) ?_
    refine kx_getf (c := 1) (v := .inr (.inr (.inl (some 31)))) rfl (by decide) (kx_ofr (hw _ _ _ kr_k1.2.1)) ?_
    refine kx_go 2 (pc' := 31) (L' := [(2, .inl (B (160 + x))), (0, .inr (.inr (.inl (some 0)))), (1, .inl (Int32.ofNat x))]) (S' := [.inl (Int32.ofNat 0), .inl (Int32.ofNat x), .inr (.inr (.inl (some 31)))]) (h' := h) (by with_unfolding_all rfl) ?_
    refine kx_iast (c := 31) (j := x) (m := 2) rfl rfl (by decide) (by decide) hx ?_
    refine kx_go 1 (pc' := 33) (L' := [(2, .inl (B (160 + x))), (0, .inr (.inr (.inl (some 0)))), (1, .inl (Int32.ofNat x))]) (S' := [.inl (B (160 + x))]) (h' := (kc_upd h 31 x (.inl (Int32.ofNat 0)))) (by with_unfolding_all rfl) ?_
    have key : fu_clr B (Int32.ofNat x) = (B (160 + x), [(160 + x, Int32.ofNat 0)]) := by unfold fu_clr; rw [if_pos e1, fu_tn (by omega)]
    have eh : fu_cw 1 [(160 + x, Int32.ofNat 0)] h = (kc_upd h 31 x (.inl (Int32.ofNat 0))) := by simp only [fu_cw, (fu_fby x hx).1]
    exact kc_ret_ok rfl (rv := some (.inl (B (160 + x)))) rfl ⟨fu_e1 key, eh.symm.trans (fu_ec key)⟩
set_option maxRecDepth 20000 in
theorem fu_c95 {g : kc_G} {d : Nat} {h : kc_H} {B : Nat → Int32} (hg : kc_ok g) (hw : kd_wt kd_ty h) (hC : fu_C B 1 h) (hB : fu_BT B) : kc_Con g (d + 1) 95 [.inr (.inr (.inl (some 0)))] h (fun rv h' => rv = some (.inl (fu_unl B).1) ∧ h' = fu_cw 1 (fu_unl B).2 h) := by
  refine kc_Con_new hg (M := wk_m95) rfl rfl rfl (show 1 ≤ 2 by decide) ?_
  refine kx_go 1 (pc' := 1) (L' := [(0, .inr (.inr (.inl (some 0))))]) (S' := [.inr (.inr (.inl (some 0)))]) (h' := h) (by with_unfolding_all rfl) ?_
  refine kx_getf (c := 0) (v := .inr (.inr (.inl (some 1)))) rfl (by decide) (kx_ofr (hw _ _ _ kv_k0.1)) ?_
  refine kx_getf (c := 1) (v := .inl (B 3)) rfl (by decide) (fu_C0 hC).2.2.2 ?_
  refine kx_go 2 (pc' := 9) (L' := [(1, .inl (B 3)), (0, .inr (.inr (.inl (some 0))))]) (S' := [.inr (.inr (.inl (some 0)))]) (h' := h) (by with_unfolding_all rfl) ?_
  refine kx_getf (c := 0) (v := .inr (.inr (.inl (some 1)))) rfl (by decide) (kx_ofr (hw _ _ _ kv_k0.1)) ?_
  refine kx_go 1 (pc' := 13) (L' := [(1, .inl (B 3)), (0, .inr (.inr (.inl (some 0))))]) (S' := [.inl (Int32.ofNat 0), .inr (.inr (.inl (some 1)))]) (h' := h) (by with_unfolding_all rfl) ?_
  refine kx_go 1 (pc' := 16) (L' := [(1, .inl (B 3)), (0, .inr (.inr (.inl (some 0))))]) (S' := []) (h' := (kc_upd h 1 3 (.inl (Int32.ofNat 0)))) (by with_unfolding_all rfl) ?_
  refine kx_go 1 (pc' := 17) (L' := [(1, .inl (B 3)), (0, .inr (.inr (.inl (some 0))))]) (S' := [.inl (B 3)]) (h' := (kc_upd h 1 3 (.inl (Int32.ofNat 0)))) (by with_unfolding_all rfl) ?_
  exact kc_ret_ok rfl (rv := some (.inl (B 3))) rfl ⟨rfl, rfl⟩
set_option maxRecDepth 20000 in
theorem fu_cdoor {g : kc_G} {d : Nat} {h : kc_H} {B : Nat → Int32} (hg : kc_ok g) (hw : kd_wt kd_ty h) (hC : fu_C B 1 h) (hB : fu_BT B) : kc_Con g (d + 2) 13 [.inr (.inr (.inl (some 0)))] h (fun rv h' => rv = some (.inl (fu_door B).1) ∧ h' = fu_cw 1 (fu_door B).2 h) := by
  refine kc_Con_new hg (M := wk_m13) rfl rfl rfl (show 1 ≤ 1 by decide) ?_
  refine kx_go 1 (pc' := 1) (L' := [(0, .inr (.inr (.inl (some 0))))]) (S' := [.inr (.inr (.inl (some 0)))]) (h' := h) (by with_unfolding_all rfl) ?_
  refine kx_getf (c := 0) (v := .inr (.inr (.inl (some 1)))) rfl (by decide) (kx_ofr (hw _ _ _ kv_k0.1)) ?_
  refine kc_call_rule (M2 := wk_m14) (av := [.inr (.inr (.inl (some 1)))]) (r := []) rfl rfl (kc_Con_le (fu_c14 (d := d) hg hw hC hB) (by omega)) (fun rv h2 hq => ?_)
  obtain ⟨rfl, e9⟩ := hq
  exact kc_ret_ok rfl (rv := some (.inl (fu_door B).1)) rfl ⟨rfl, e9⟩
set_option maxRecDepth 20000 in
theorem fu_cway {g : kc_G} {d : Nat} {h : kc_H} {B : Nat → Int32} {a b c : Int32} (hg : kc_ok g) (hw : kd_wt kd_ty h) (hC : fu_C B 1 h) (hB : fu_BT B) : kc_Con g (d + 4) 16 [.inr (.inr (.inl (some 0))), .inl a, .inl b, .inl c] h (fun rv h' => rv = some (.inl (fu_way B a b c).1) ∧ h' = fu_cw 1 (fu_way B a b c).2 h) := by
  refine kc_Con_new hg (M := wk_m16) rfl rfl rfl (show 4 ≤ 4 by decide) ?_
  refine kx_go 1 (pc' := 1) (L' := [(0, .inr (.inr (.inl (some 0)))), (1, .inl (a)), (2, .inl (b)), (3, .inl (c))]) (S' := [.inr (.inr (.inl (some 0)))]) (h' := h) (by with_unfolding_all rfl) ?_
  refine kx_getf (c := 0) (v := .inr (.inr (.inl (some 1)))) rfl (by decide) (kx_ofr (hw _ _ _ kv_k0.1)) ?_
  refine kx_go 3 (pc' := 7) (L' := [(0, .inr (.inr (.inl (some 0)))), (1, .inl (a)), (2, .inl (b)), (3, .inl (c))]) (S' := [.inl (c), .inl (b), .inl (a), .inr (.inr (.inl (some 1)))]) (h' := h) (by with_unfolding_all rfl) ?_
  refine kc_call_rule (M2 := wk_m17) (av := [.inr (.inr (.inl (some 1))), .inl (a), .inl (b), .inl (c)]) (r := []) rfl rfl (kc_Con_le (fu_c17 (d := d) hg hw hC hB) (by omega)) (fun rv h2 hq => ?_)
  obtain ⟨rfl, e9⟩ := hq
  exact kc_ret_ok rfl (rv := some (.inl (fu_way B a b c).1)) rfl ⟨rfl, e9⟩
set_option maxRecDepth 20000 in
theorem fu_cford {g : kc_G} {d : Nat} {h : kc_H} {B : Nat → Int32} {a : Int32} (hg : kc_ok g) (hw : kd_wt kd_ty h) (hC : fu_C B 1 h) (hB : fu_BT B) : kc_Con g (d + 4) 23 [.inr (.inr (.inl (some 0))), .inl a] h (fun rv h' => rv = some (.inl (fu_ford B a).1) ∧ h' = fu_cw 1 (fu_ford B a).2 h) := by
  refine kc_Con_new hg (M := wk_m23) rfl rfl rfl (show 2 ≤ 2 by decide) ?_
  refine kx_go 1 (pc' := 1) (L' := [(0, .inr (.inr (.inl (some 0)))), (1, .inl (a))]) (S' := [.inr (.inr (.inl (some 0)))]) (h' := h) (by with_unfolding_all rfl) ?_
  refine kx_getf (c := 0) (v := .inr (.inr (.inl (some 1)))) rfl (by decide) (kx_ofr (hw _ _ _ kv_k0.1)) ?_
  refine kx_go 1 (pc' := 5) (L' := [(0, .inr (.inr (.inl (some 0)))), (1, .inl (a))]) (S' := [.inl (a), .inr (.inr (.inl (some 1)))]) (h' := h) (by with_unfolding_all rfl) ?_
  refine kc_call_rule (M2 := wk_m24) (av := [.inr (.inr (.inl (some 1))), .inl (a)]) (r := []) rfl rfl (kc_Con_le (fu_c24 (d := d) hg hw hC hB) (by omega)) (fun rv h2 hq => ?_)
  obtain ⟨rfl, e9⟩ := hq
  exact kc_ret_ok rfl (rv := some (.inl (fu_ford B a).1)) rfl ⟨rfl, e9⟩
set_option maxRecDepth 20000 in
theorem fu_cstones {g : kc_G} {d : Nat} {h : kc_H} {B : Nat → Int32} {a b : Int32} (hg : kc_ok g) (hw : kd_wt kd_ty h) (hC : fu_C B 1 h) (hB : fu_BT B) : kc_Con g (d + 4) 28 [.inr (.inr (.inl (some 0))), .inl a, .inl b] h (fun rv h' => rv = some (.inl (fu_stones B a b).1) ∧ h' = fu_cw 1 (fu_stones B a b).2 h) := by
  refine kc_Con_new hg (M := wk_m28) rfl rfl rfl (show 3 ≤ 3 by decide) ?_
  refine kx_go 1 (pc' := 1) (L' := [(0, .inr (.inr (.inl (some 0)))), (1, .inl (a)), (2, .inl (b))]) (S' := [.inr (.inr (.inl (some 0)))]) (h' := h) (by with_unfolding_all rfl) ?_
  refine kx_getf (c := 0) (v := .inr (.inr (.inl (some 1)))) rfl (by decide) (kx_ofr (hw _ _ _ kv_k0.1)) ?_
  refine kx_go 2 (pc' := 6) (L' := [(0, .inr (.inr (.inl (some 0)))), (1, .inl (a)), (2, .inl (b))]) (S' := [.inl (b), .inl (a), .inr (.inr (.inl (some 1)))]) (h' := h) (by with_unfolding_all rfl) ?_
  refine kc_call_rule (M2 := wk_m29) (av := [.inr (.inr (.inl (some 1))), .inl (a), .inl (b)]) (r := []) rfl rfl (kc_Con_le (fu_c29 (d := d) hg hw hC hB) (by omega)) (fun rv h2 hq => ?_)
  obtain ⟨rfl, e9⟩ := hq
  exact kc_ret_ok rfl (rv := some (.inl (fu_stones B a b).1)) rfl ⟨rfl, e9⟩
set_option maxRecDepth 20000 in
theorem fu_cmule {g : kc_G} {d : Nat} {h : kc_H} {B : Nat → Int32} {a b c : Int32} (hg : kc_ok g) (hw : kd_wt kd_ty h) (hC : fu_C B 1 h) (hB : fu_BT B) : kc_Con g (d + 3) 32 [.inr (.inr (.inl (some 0))), .inl a, .inl b, .inl c] h (fun rv h' => rv = some (.inl (fu_mule B a b c).1) ∧ h' = fu_cw 1 (fu_mule B a b c).2 h) := by
  refine kc_Con_new hg (M := wk_m32) rfl rfl rfl (show 4 ≤ 4 by decide) ?_
  refine kx_go 1 (pc' := 1) (L' := [(0, .inr (.inr (.inl (some 0)))), (1, .inl (a)), (2, .inl (b)), (3, .inl (c))]) (S' := [.inr (.inr (.inl (some 0)))]) (h' := h) (by with_unfolding_all rfl) ?_
  refine kx_getf (c := 0) (v := .inr (.inr (.inl (some 1)))) rfl (by decide) (kx_ofr (hw _ _ _ kv_k0.1)) ?_
  refine kx_go 3 (pc' := 7) (L' := [(0, .inr (.inr (.inl (some 0)))), (1, .inl (a)), (2, .inl (b)), (3, .inl (c))]) (S' := [.inl (c), .inl (b), .inl (a), .inr (.inr (.inl (some 1)))]) (h' := h) (by with_unfolding_all rfl) ?_
  refine kc_call_rule (M2 := wk_m33) (av := [.inr (.inr (.inl (some 1))), .inl (a), .inl (b), .inl (c)]) (r := []) rfl rfl (kc_Con_le (fu_c33 (d := d) hg hw hC hB) (by omega)) (fun rv h2 hq => ?_)
  obtain ⟨rfl, e9⟩ := hq
  exact kc_ret_ok rfl (rv := some (.inl (fu_mule B a b c).1)) rfl ⟨rfl, e9⟩
set_option maxRecDepth 20000 in
theorem fu_clame {g : kc_G} {d : Nat} {h : kc_H} {B : Nat → Int32} {a b c : Int32} (hg : kc_ok g) (hw : kd_wt kd_ty h) (hC : fu_C B 1 h) (hB : fu_BT B) : kc_Con g (d + 5) 35 [.inr (.inr (.inl (some 0))), .inl a, .inl b, .inl c] h (fun rv h' => rv = some (.inl (fu_lame B a b c).1) ∧ h' = fu_cw 1 (fu_lame B a b c).2 h) := by
  refine kc_Con_new hg (M := wk_m35) rfl rfl rfl (show 4 ≤ 4 by decide) ?_
  refine kx_go 1 (pc' := 1) (L' := [(0, .inr (.inr (.inl (some 0)))), (1, .inl (a)), (2, .inl (b)), (3, .inl (c))]) (S' := [.inr (.inr (.inl (some 0)))]) (h' := h) (by with_unfolding_all rfl) ?_
  refine kx_getf (c := 0) (v := .inr (.inr (.inl (some 1)))) rfl (by decide) (kx_ofr (hw _ _ _ kv_k0.1)) ?_
  refine kx_go 3 (pc' := 7) (L' := [(0, .inr (.inr (.inl (some 0)))), (1, .inl (a)), (2, .inl (b)), (3, .inl (c))]) (S' := [.inl (c), .inl (b), .inl (a), .inr (.inr (.inl (some 1)))]) (h' := h) (by with_unfolding_all rfl) ?_
  refine kc_call_rule (M2 := wk_m36) (av := [.inr (.inr (.inl (some 1))), .inl (a), .inl (b), .inl (c)]) (r := []) rfl rfl (kc_Con_le (fu_c36 (d := d) hg hw hC hB) (by omega)) (fun rv h2 hq => ?_)
  obtain ⟨rfl, e9⟩ := hq
  exact kc_ret_ok rfl (rv := some (.inl (fu_lame B a b c).1)) rfl ⟨rfl, e9⟩
set_option maxRecDepth 20000 in
theorem fu_cload {g : kc_G} {d : Nat} {h : kc_H} {B : Nat → Int32} {a b c e : Int32} (hg : kc_ok g) (hw : kd_wt kd_ty h) (hC : fu_C B 1 h) (hB : fu_BT B) : kc_Con g (d + 4) 41 [.inr (.inr (.inl (some 0))), .inl a, .inl b, .inl c, .inl e] h (fun rv h' => rv = some (.inl (fu_load B a b c e).1) ∧ h' = fu_cw 1 (fu_load B a b c e).2 h) := by
  refine kc_Con_new hg (M := wk_m41) rfl rfl rfl (show 5 ≤ 5 by decide) ?_
  refine kx_go 1 (pc' := 1) (L' := [(0, .inr (.inr (.inl (some 0)))), (1, .inl (a)), (2, .inl (b)), (3, .inl (c)), (4, .inl (e))]) (S' := [.inr (.inr (.inl (some 0)))]) (h' := h) (by with_unfolding_all rfl) ?_
  refine kx_getf (c := 0) (v := .inr (.inr (.inl (some 1)))) rfl (by decide) (kx_ofr (hw _ _ _ kv_k0.1)) ?_
  refine kx_go 4 (pc' := 9) (L' := [(0, .inr (.inr (.inl (some 0)))), (1, .inl (a)), (2, .inl (b)), (3, .inl (c)), (4, .inl (e))]) (S' := [.inl (e), .inl (c), .inl (b), .inl (a), .inr (.inr (.inl (some 1)))]) (h' := h) (by with_unfolding_all rfl) ?_
  refine kc_call_rule (M2 := wk_m42) (av := [.inr (.inr (.inl (some 1))), .inl (a), .inl (b), .inl (c), .inl (e)]) (r := []) rfl rfl (kc_Con_le (fu_c42 (d := d) hg hw hC hB) (by omega)) (fun rv h2 hq => ?_)
  obtain ⟨rfl, e9⟩ := hq
  exact kc_ret_ok rfl (rv := some (.inl (fu_load B a b c e).1)) rfl ⟨rfl, e9⟩
set_option maxRecDepth 20000 in
theorem fu_cask {g : kc_G} {d : Nat} {h : kc_H} {B : Nat → Int32} {a b : Int32} (hg : kc_ok g) (hw : kd_wt kd_ty h) (hC : fu_C B 1 h) (hB : fu_BT B) : kc_Con g (d + 4) 44 [.inr (.inr (.inl (some 0))), .inl a, .inl b] h (fun rv h' => rv = some (.inl (fu_ofl B 4 100 a b).1) ∧ h' = fu_cw 1 (fu_ofl B 4 100 a b).2 h) := by
  refine kc_Con_new hg (M := wk_m44) rfl rfl rfl (show 3 ≤ 3 by decide) ?_
  refine kx_go 1 (pc' := 1) (L' := [(0, .inr (.inr (.inl (some 0)))), (1, .inl (a)), (2, .inl (b))]) (S' := [.inr (.inr (.inl (some 0)))]) (h' := h) (by with_unfolding_all rfl) ?_
  refine kx_getf (c := 0) (v := .inr (.inr (.inl (some 1)))) rfl (by decide) (kx_ofr (hw _ _ _ kv_k0.1)) ?_
  refine kx_go 4 (pc' := 9) (L' := [(0, .inr (.inr (.inl (some 0)))), (1, .inl (a)), (2, .inl (b))]) (S' := [.inl (Int32.ofNat 100), .inl (b), .inl (Int32.ofNat 4), .inl (a), .inr (.inr (.inl (some 1)))]) (h' := h) (by with_unfolding_all rfl) ?_
  refine kc_call_rule (M2 := wk_m45) (av := [.inr (.inr (.inl (some 1))), .inl (a), .inl (Int32.ofNat 4), .inl (b), .inl (Int32.ofNat 100)]) (r := []) rfl rfl (kc_Con_le (fu_c45_4 (d := d) hg hw hC hB) (by omega)) (fun rv h2 hq => ?_)
  obtain ⟨rfl, e9⟩ := hq
  exact kc_ret_ok rfl (rv := some (.inl (fu_ofl B 4 100 a b).1)) rfl ⟨rfl, e9⟩
set_option maxRecDepth 20000 in
theorem fu_cdrain {g : kc_G} {d : Nat} {h : kc_H} {B : Nat → Int32} {a b : Int32} (hg : kc_ok g) (hw : kd_wt kd_ty h) (hC : fu_C B 1 h) (hB : fu_BT B) : kc_Con g (d + 4) 49 [.inr (.inr (.inl (some 0))), .inl a, .inl b] h (fun rv h' => rv = some (.inl (fu_ofl B 5 9 a b).1) ∧ h' = fu_cw 1 (fu_ofl B 5 9 a b).2 h) := by
  refine kc_Con_new hg (M := wk_m49) rfl rfl rfl (show 3 ≤ 3 by decide) ?_
  refine kx_go 1 (pc' := 1) (L' := [(0, .inr (.inr (.inl (some 0)))), (1, .inl (a)), (2, .inl (b))]) (S' := [.inr (.inr (.inl (some 0)))]) (h' := h) (by with_unfolding_all rfl) ?_
  refine kx_getf (c := 0) (v := .inr (.inr (.inl (some 1)))) rfl (by decide) (kx_ofr (hw _ _ _ kv_k0.1)) ?_
  refine kx_go 4 (pc' := 9) (L' := [(0, .inr (.inr (.inl (some 0)))), (1, .inl (a)), (2, .inl (b))]) (S' := [.inl (Int32.ofNat 9), .inl (b), .inl (Int32.ofNat 5), .inl (a), .inr (.inr (.inl (some 1)))]) (h' := h) (by with_unfolding_all rfl) ?_
  refine kc_call_rule (M2 := wk_m45) (av := [.inr (.inr (.inl (some 1))), .inl (a), .inl (Int32.ofNat 5), .inl (b), .inl (Int32.ofNat 9)]) (r := []) rfl rfl (kc_Con_le (fu_c45_5 (d := d) hg hw hC hB) (by omega)) (fun rv h2 hq => ?_)
  obtain ⟨rfl, e9⟩ := hq
  exact kc_ret_ok rfl (rv := some (.inl (fu_ofl B 5 9 a b).1)) rfl ⟨rfl, e9⟩
set_option maxRecDepth 20000 in
theorem fu_cput {g : kc_G} {d : Nat} {h : kc_H} {B : Nat → Int32} {a b : Int32} (hg : kc_ok g) (hw : kd_wt kd_ty h) (hC : fu_C B 1 h) (hB : fu_BT B) : kc_Con g (d + 3) 51 [.inr (.inr (.inl (some 0))), .inl a, .inl b] h (fun rv h' => rv = some (.inl (fu_put B a b).1) ∧ h' = fu_cw 1 (fu_put B a b).2 h) := by
  refine kc_Con_new hg (M := wk_m51) rfl rfl rfl (show 3 ≤ 3 by decide) ?_
  refine kx_go 1 (pc' := 1) (L' := [(0, .inr (.inr (.inl (some 0)))), (1, .inl (a)), (2, .inl (b))]) (S' := [.inr (.inr (.inl (some 0)))]) (h' := h) (by with_unfolding_all rfl) ?_
  refine kx_getf (c := 0) (v := .inr (.inr (.inl (some 1)))) rfl (by decide) (kx_ofr (hw _ _ _ kv_k0.1)) ?_
  refine kx_go 2 (pc' := 6) (L' := [(0, .inr (.inr (.inl (some 0)))), (1, .inl (a)), (2, .inl (b))]) (S' := [.inl (b), .inl (a), .inr (.inr (.inl (some 1)))]) (h' := h) (by with_unfolding_all rfl) ?_
  refine kc_call_rule (M2 := wk_m52) (av := [.inr (.inr (.inl (some 1))), .inl (a), .inl (b)]) (r := []) rfl rfl (kc_Con_le (fu_c52 (d := d) hg hw hC hB) (by omega)) (fun rv h2 hq => ?_)
  obtain ⟨rfl, e9⟩ := hq
  exact kc_ret_ok rfl (rv := some (.inl (fu_put B a b).1)) rfl ⟨rfl, e9⟩
