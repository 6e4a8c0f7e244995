/-! ===== bounds, places, doors, mules, loads, sides: both sides ===== -/
theorem fu_jlt {a b : Int64} : (kc_cnd .lt (kc_lcmp a b).toInt 0 = true) ↔ a.toInt < b.toInt := by
  unfold kc_lcmp
  by_cases h1 : b.toInt < a.toInt
  · rw [if_pos h1]
    constructor
    · intro q; exact absurd q (by decide)
    · intro q; omega
  · rw [if_neg h1]
    by_cases h2 : a.toInt < b.toInt
    · rw [if_pos h2]
      exact ⟨fun _ => by omega, fun _ => by decide⟩
    · rw [if_neg h2]
      constructor
      · intro q; exact absurd q (by decide)
      · intro q; omega
theorem fu_jgt {a b : Int64} : (kc_cnd .gt (kc_lcmp a b).toInt 0 = true) ↔ b.toInt < a.toInt := by
  unfold kc_lcmp
  by_cases h1 : b.toInt < a.toInt
  · rw [if_pos h1]
    exact ⟨fun _ => by omega, fun _ => by decide⟩
  · rw [if_neg h1]
    by_cases h2 : a.toInt < b.toInt
    · rw [if_pos h2]
      constructor
      · intro q; exact absurd q (by decide)
      · intro q; omega
    · rw [if_neg h2]
      constructor
      · intro q; exact absurd q (by decide)
      · intro q; omega
theorem fu_ilt {a b : Int} : (kc_cnd .lt a b = true) ↔ a < b := by unfold kc_cnd; exact decide_eq_true_iff
theorem fu_igt {a b : Int} : (kc_cnd .gt a b = true) ↔ b < a := by unfold kc_cnd; exact decide_eq_true_iff
theorem fu_ieq {a b : Int} : (kc_cnd .eq a b = true) ↔ a = b := by unfold kc_cnd; exact decide_eq_true_iff
theorem fu_ine {a b : Int} : (kc_cnd .ne a b = true) ↔ ¬ a = b := by unfold kc_cnd; rw [Bool.not_eq_true', decide_eq_false_iff_not]
theorem fu_ige {a b : Int} : (kc_cnd .ge a b = true) ↔ ¬ a < b := by unfold kc_cnd; rw [Bool.not_eq_true', decide_eq_false_iff_not]
theorem fu_ile {a b : Int} : (kc_cnd .le a b = true) ↔ ¬ b < a := by unfold kc_cnd; rw [Bool.not_eq_true', decide_eq_false_iff_not]
theorem fu_in0 {a : Int32} {lo hi : Int} (h : ¬ (lo ≤ a.toInt ∧ a.toInt ≤ hi)) : fu_in a lo hi = false := decide_eq_false h
theorem fu_in1 {a : Int32} {lo hi : Int} (h : lo ≤ a.toInt ∧ a.toInt ≤ hi) : fu_in a lo hi = true := decide_eq_true h
theorem fu_dec : ∀ M, M < 12 → (Int32.ofNat M - Int32.ofNat 1).toInt = (M : Int) - 1 := by decide
set_option maxRecDepth 20000 in
theorem fu_bt {g : kc_G} {d : Nat} {h : kc_H} {a : Int32} {v u : Int32} {lo hi : Int} (hg : kc_ok g) (h1 : v.toInt = lo) (h2 : u.toInt = hi) : kc_Con g (d + 1) 19 [.inl a, .inl v, .inl u] h (fun rv h' => rv = some (.inl (kp_b (fu_in a lo hi))) ∧ h' = h) := by
  refine kc_Con_new hg (M := wk_m19) rfl rfl rfl (show 3 ≤ 3 by decide) ?_
  refine kx_go 3 (pc' := (if kc_cnd .lt (a).toInt (v).toInt then 14 else 5)) (L' := [(0, .inl (a)), (1, .inl (v)), (2, .inl (u))]) (S' := []) (h' := h) (by with_unfolding_all rfl) ?_
  by_cases e1 : a.toInt < v.toInt
  · rw [if_pos (fu_ilt.mpr e1)]
    refine kx_go 1 (pc' := 15) (L' := [(0, .inl (a)), (1, .inl (v)), (2, .inl (u))]) (S' := [.inl (Int32.ofNat 0)]) (h' := h) (by with_unfolding_all rfl) ?_
    exact kc_ret_ok rfl (rv := some (.inl (Int32.ofNat 0))) rfl ⟨by rw [fu_in0 (by omega)]; rfl, rfl⟩
  · rw [if_neg (fun q => e1 (fu_ilt.mp q))]
    refine kx_go 3 (pc' := (if kc_cnd .gt (a).toInt (u).toInt then 14 else 10)) (L' := [(0, .inl (a)), (1, .inl (v)), (2, .inl (u))]) (S' := []) (h' := h) (by with_unfolding_all rfl) ?_
    by_cases e2 : u.toInt < a.toInt
    · rw [if_pos (fu_igt.mpr e2)]
      refine kx_go 1 (pc' := 15) (L' := [(0, .inl (a)), (1, .inl (v)), (2, .inl (u))]) (S' := [.inl (Int32.ofNat 0)]) (h' := h) (by with_unfolding_all rfl) ?_
      exact kc_ret_ok rfl (rv := some (.inl (Int32.ofNat 0))) rfl ⟨by rw [fu_in0 (by omega)]; rfl, rfl⟩
    · rw [if_neg (fun q => e2 (fu_igt.mp q))]
      refine kx_go 2 (pc' := 15) (L' := [(0, .inl (a)), (1, .inl (v)), (2, .inl (u))]) (S' := [.inl (Int32.ofNat 1)]) (h' := h) (by with_unfolding_all rfl) ?_
      exact kc_ret_ok rfl (rv := some (.inl (Int32.ofNat 1))) rfl ⟨by rw [fu_in1 (by omega)]; rfl, rfl⟩
set_option maxRecDepth 20000 in
theorem fu_li {g : kc_G} {d : Nat} {h : kc_H} {a : Int32} {v u : Int64} {lo hi : Int} (hg : kc_ok g) (h1 : v.toInt = lo) (h2 : u.toInt = hi) : kc_Con g (d + 1) 22 [.inr (.inl a.toInt64), .inr (.inl v), .inr (.inl u)] h (fun rv h' => rv = some (.inl (kp_b (fu_in a lo hi))) ∧ h' = h) := by
  refine kc_Con_new hg (M := wk_m22) rfl rfl rfl (show 6 ≤ 6 by decide) ?_
  have ha := Int32.toInt_toInt64 a
  refine kx_go 4 (pc' := (if kc_cnd .lt (kc_lcmp a.toInt64 v).toInt 0 then 17 else 6)) (L' := [(0, .inr (.inl (a.toInt64))), (2, .inr (.inl (v))), (4, .inr (.inl (u)))]) (S' := []) (h' := h) (by with_unfolding_all rfl) ?_
  by_cases e1 : a.toInt64.toInt < v.toInt
  · rw [if_pos (fu_jlt.mpr e1)]
    refine kx_go 1 (pc' := 18) (L' := [(0, .inr (.inl (a.toInt64))), (2, .inr (.inl (v))), (4, .inr (.inl (u)))]) (S' := [.inl (Int32.ofNat 0)]) (h' := h) (by with_unfolding_all rfl) ?_
    exact kc_ret_ok rfl (rv := some (.inl (Int32.ofNat 0))) rfl ⟨by rw [fu_in0 (by omega)]; rfl, rfl⟩
  · rw [if_neg (fun q => e1 (fu_jlt.mp q))]
    refine kx_go 4 (pc' := (if kc_cnd .gt (kc_lcmp a.toInt64 u).toInt 0 then 17 else 13)) (L' := [(0, .inr (.inl (a.toInt64))), (2, .inr (.inl (v))), (4, .inr (.inl (u)))]) (S' := []) (h' := h) (by with_unfolding_all rfl) ?_
    by_cases e2 : u.toInt < a.toInt64.toInt
    · rw [if_pos (fu_jgt.mpr e2)]
      refine kx_go 1 (pc' := 18) (L' := [(0, .inr (.inl (a.toInt64))), (2, .inr (.inl (v))), (4, .inr (.inl (u)))]) (S' := [.inl (Int32.ofNat 0)]) (h' := h) (by with_unfolding_all rfl) ?_
      exact kc_ret_ok rfl (rv := some (.inl (Int32.ofNat 0))) rfl ⟨by rw [fu_in0 (by omega)]; rfl, rfl⟩
    · rw [if_neg (fun q => e2 (fu_jgt.mp q))]
      refine kx_go 2 (pc' := 18) (L' := [(0, .inr (.inl (a.toInt64))), (2, .inr (.inl (v))), (4, .inr (.inl (u)))]) (S' := [.inl (Int32.ofNat 1)]) (h' := h) (by with_unfolding_all rfl) ?_
      exact kc_ret_ok rfl (rv := some (.inl (Int32.ofNat 1))) rfl ⟨by rw [fu_in1 (by omega)]; rfl, rfl⟩
set_option maxRecDepth 20000 in
theorem fu_c18 {g : kc_G} {d : Nat} {h : kc_H} {B : Nat → Int32} {a : Int32} (hg : kc_ok g) (hC : fu_C B 1 h) : kc_Con g (d + 2) 18 [.inr (.inr (.inl (some 1))), .inl a] h (fun rv h' => rv = some (.inl (kp_b (fu_in a 0 (B 0).toInt))) ∧ h' = h) := by
  refine kc_Con_new hg (M := wk_m18) rfl rfl rfl (show 2 ≤ 2 by decide) ?_
  refine kx_go 3 (pc' := 3) (L' := [(0, .inr (.inr (.inl (some 1)))), (1, .inl (a))]) (S' := [.inr (.inr (.inl (some 1))), .inl (Int32.ofNat 0), .inl (a)]) (h' := h) (by with_unfolding_all rfl) ?_
  refine kx_getf (c := 1) (v := .inl (B 0)) rfl (by decide) (fu_C0 hC).1 ?_
  refine kc_call_rule (M2 := wk_m19) (av := [.inl (a), .inl (Int32.ofNat 0), .inl (B 0)]) (r := []) rfl rfl (kc_Con_le (fu_bt (d := 0) (lo := 0) (hi := (B 0).toInt) hg rfl rfl) (by omega)) (fun rv h2 hq => ?_)
  obtain ⟨rfl, e⟩ := hq
  rw [e]
  clear e
  cases fu_in a 0 (B 0).toInt with
  | false => exact kc_ret_ok rfl (rv := some (.inl (kp_b false))) rfl ⟨rfl, rfl⟩
  | true => exact kc_ret_ok rfl (rv := some (.inl (kp_b true))) rfl ⟨rfl, rfl⟩
set_option maxRecDepth 20000 in
theorem fu_c25 {g : kc_G} {d : Nat} {h : kc_H} {B : Nat → Int32} {a : Int32} (hg : kc_ok g) (hC : fu_C B 1 h) : kc_Con g (d + 2) 25 [.inr (.inr (.inl (some 1))), .inl a] h (fun rv h' => rv = some (.inl (kp_b (fu_in a 1 (B 0).toInt))) ∧ h' = h) := by
  refine kc_Con_new hg (M := wk_m25) rfl rfl rfl (show 2 ≤ 2 by decide) ?_
  refine kx_go 3 (pc' := 3) (L' := [(0, .inr (.inr (.inl (some 1)))), (1, .inl (a))]) (S' := [.inr (.inr (.inl (some 1))), .inl (Int32.ofNat 1), .inl (a)]) (h' := h) (by with_unfolding_all rfl) ?_
  refine kx_getf (c := 1) (v := .inl (B 0)) rfl (by decide) (fu_C0 hC).1 ?_
  refine kc_call_rule (M2 := wk_m19) (av := [.inl (a), .inl (Int32.ofNat 1), .inl (B 0)]) (r := []) rfl rfl (kc_Con_le (fu_bt (d := 0) (lo := 1) (hi := (B 0).toInt) hg rfl rfl) (by omega)) (fun rv h2 hq => ?_)
  obtain ⟨rfl, e⟩ := hq
  rw [e]
  clear e
  cases fu_in a 1 (B 0).toInt with
  | false => exact kc_ret_ok rfl (rv := some (.inl (kp_b false))) rfl ⟨rfl, rfl⟩
  | true => exact kc_ret_ok rfl (rv := some (.inl (kp_b true))) rfl ⟨rfl, rfl⟩
set_option maxRecDepth 20000 in
theorem fu_c38 {g : kc_G} {d : Nat} {h : kc_H} {B : Nat → Int32} {a : Int32} (hg : kc_ok g) (hC : fu_C B 1 h) (hB : fu_BT B) : kc_Con g (d + 2) 38 [.inr (.inr (.inl (some 1))), .inl a] h (fun rv h' => rv = some (.inl (kp_b (fu_in a 0 ((B 1).toInt - 1)))) ∧ h' = h) := by
  refine kc_Con_new hg (M := wk_m38) rfl rfl rfl (show 2 ≤ 2 by decide) ?_
  obtain ⟨K, K1, eK⟩ := fu_n1 hB
  refine kx_go 3 (pc' := 3) (L' := [(0, .inr (.inr (.inl (some 1)))), (1, .inl (a))]) (S' := [.inr (.inr (.inl (some 1))), .inl (Int32.ofNat 0), .inl (a)]) (h' := h) (by with_unfolding_all rfl) ?_
  refine kx_getf (c := 1) (v := .inl (B 1)) rfl (by decide) (fu_C0 hC).2.1 ?_
  refine kx_go 2 (pc' := 8) (L' := [(0, .inr (.inr (.inl (some 1)))), (1, .inl (a))]) (S' := [.inl ((B 1) - (Int32.ofNat 1)), .inl (Int32.ofNat 0), .inl (a)]) (h' := h) (by with_unfolding_all rfl) ?_
  refine kc_call_rule (M2 := wk_m19) (av := [.inl (a), .inl (Int32.ofNat 0), .inl ((B 1) - (Int32.ofNat 1))]) (r := []) rfl rfl (kc_Con_le (fu_bt (d := 0) (lo := 0) (hi := ((B 1).toInt - 1)) hg rfl (by rw [eK, fu_dec _ (by omega), kx_ti (by omega)])) (by omega)) (fun rv h2 hq => ?_)
  obtain ⟨rfl, e⟩ := hq
  rw [e]
  clear e
  cases fu_in a 0 ((B 1).toInt - 1) with
  | false => exact kc_ret_ok rfl (rv := some (.inl (kp_b false))) rfl ⟨rfl, rfl⟩
  | true => exact kc_ret_ok rfl (rv := some (.inl (kp_b true))) rfl ⟨rfl, rfl⟩
set_option maxRecDepth 20000 in
theorem fu_c46 {g : kc_G} {d : Nat} {h : kc_H} {B : Nat → Int32} {a : Int32} (hg : kc_ok g) (hC : fu_C B 1 h) (hB : fu_BT B) : kc_Con g (d + 2) 46 [.inr (.inr (.inl (some 1))), .inl a] h (fun rv h' => rv = some (.inl (kp_b (fu_in a 0 ((B 2).toInt - 1)))) ∧ h' = h) := by
  refine kc_Con_new hg (M := wk_m46) rfl rfl rfl (show 2 ≤ 2 by decide) ?_
  obtain ⟨K, K1, eK⟩ := fu_n2 hB
  refine kx_go 3 (pc' := 3) (L' := [(0, .inr (.inr (.inl (some 1)))), (1, .inl (a))]) (S' := [.inr (.inr (.inl (some 1))), .inl (Int32.ofNat 0), .inl (a)]) (h' := h) (by with_unfolding_all rfl) ?_
  refine kx_getf (c := 1) (v := .inl (B 2)) rfl (by decide) (fu_C0 hC).2.2.1 ?_
  refine kx_go 2 (pc' := 8) (L' := [(0, .inr (.inr (.inl (some 1)))), (1, .inl (a))]) (S' := [.inl ((B 2) - (Int32.ofNat 1)), .inl (Int32.ofNat 0), .inl (a)]) (h' := h) (by with_unfolding_all rfl) ?_
  refine kc_call_rule (M2 := wk_m19) (av := [.inl (a), .inl (Int32.ofNat 0), .inl ((B 2) - (Int32.ofNat 1))]) (r := []) rfl rfl (kc_Con_le (fu_bt (d := 0) (lo := 0) (hi := ((B 2).toInt - 1)) hg rfl (by rw [eK, fu_dec _ (by omega), kx_ti (by omega)])) (by omega)) (fun rv h2 hq => ?_)
  obtain ⟨rfl, e⟩ := hq
  rw [e]
  clear e
  cases fu_in a 0 ((B 2).toInt - 1) with
  | false => exact kc_ret_ok rfl (rv := some (.inl (kp_b false))) rfl ⟨rfl, rfl⟩
  | true => exact kc_ret_ok rfl (rv := some (.inl (kp_b true))) rfl ⟨rfl, rfl⟩
set_option maxRecDepth 20000 in
theorem fu_c37 {g : kc_G} {d : Nat} {h : kc_H} {B : Nat → Int32} {a b : Int32} (hg : kc_ok g) (hC : fu_C B 1 h) (hB : fu_BT B) : kc_Con g (d + 3) 37 [.inr (.inr (.inl (some 1))), .inl a, .inl b] h (fun rv h' => rv = some (.inl (kp_b (fu_in a 0 ((B 1).toInt - 1) && fu_in b 0 1))) ∧ h' = h) := by
  refine kc_Con_new hg (M := wk_m37) rfl rfl rfl (show 3 ≤ 3 by decide) ?_
  refine kx_go 2 (pc' := 2) (L' := [(0, .inr (.inr (.inl (some 1)))), (1, .inl (a)), (2, .inl (b))]) (S' := [.inl (a), .inr (.inr (.inl (some 1)))]) (h' := h) (by with_unfolding_all rfl) ?_
  refine kc_call_rule (M2 := wk_m38) (av := [.inr (.inr (.inl (some 1))), .inl (a)]) (r := []) rfl rfl (kc_Con_le (fu_c38 (d := 0) hg hC hB) (by omega)) (fun rv h2 hq => ?_)
  obtain ⟨rfl, e⟩ := hq
  rw [e]
  clear e
  show kc_Ev g (d + 2) wk_m37 _ 5 [(0, .inr (.inr (.inl (some 1)))), (1, .inl (a)), (2, .inl (b))] [.inl (kp_b (fu_in a 0 ((B 1).toInt - 1)))] h
  refine kx_go 1 (pc' := (if kc_cnd .eq (kp_b (fu_in a 0 ((B 1).toInt - 1))).toInt 0 then 21 else 8)) (L' := [(0, .inr (.inr (.inl (some 1)))), (1, .inl (a)), (2, .inl (b))]) (S' := []) (h' := h) (by with_unfolding_all rfl) ?_
  cases e1 : fu_in a 0 ((B 1).toInt - 1) with
  | false =>
    rw [if_pos (kx_b0.mpr rfl)]
    refine kx_go 1 (pc' := 22) (L' := [(0, .inr (.inr (.inl (some 1)))), (1, .inl (a)), (2, .inl (b))]) (S' := [.inl (Int32.ofNat 0)]) (h' := h) (by with_unfolding_all rfl) ?_
    exact kc_ret_ok rfl (rv := some (.inl (Int32.ofNat 0))) rfl ⟨rfl, rfl⟩
  | true =>
    rw [if_neg (fun q => by have := kx_b0.mp q; cases this)]
    refine kx_go 3 (pc' := 11) (L' := [(0, .inr (.inr (.inl (some 1)))), (1, .inl (a)), (2, .inl (b))]) (S' := [.inl (Int32.ofNat 1), .inl (Int32.ofNat 0), .inl (b)]) (h' := h) (by with_unfolding_all rfl) ?_
    refine kc_call_rule (M2 := wk_m19) (av := [.inl (b), .inl (Int32.ofNat 0), .inl (Int32.ofNat 1)]) (r := []) rfl rfl (kc_Con_le (fu_bt (d := 0) (lo := 0) (hi := 1) hg rfl rfl) (by omega)) (fun rv h2 hq => ?_)
    obtain ⟨rfl, e⟩ := hq
    rw [e]
    clear e
    show kc_Ev g (d + 2) wk_m37 _ 14 [(0, .inr (.inr (.inl (some 1)))), (1, .inl (a)), (2, .inl (b))] [.inl (kp_b (fu_in b 0 1))] h
    refine kx_go 1 (pc' := (if kc_cnd .eq (kp_b (fu_in b 0 1)).toInt 0 then 21 else 17)) (L' := [(0, .inr (.inr (.inl (some 1)))), (1, .inl (a)), (2, .inl (b))]) (S' := []) (h' := h) (by with_unfolding_all rfl) ?_
    cases e2 : fu_in b 0 1 with
    | false =>
      rw [if_pos (kx_b0.mpr rfl)]
      refine kx_go 1 (pc' := 22) (L' := [(0, .inr (.inr (.inl (some 1)))), (1, .inl (a)), (2, .inl (b))]) (S' := [.inl (Int32.ofNat 0)]) (h' := h) (by with_unfolding_all rfl) ?_
      exact kc_ret_ok rfl (rv := some (.inl (Int32.ofNat 0))) rfl ⟨rfl, rfl⟩
    | true =>
      rw [if_neg (fun q => by have := kx_b0.mp q; cases this)]
      refine kx_go 2 (pc' := 22) (L' := [(0, .inr (.inr (.inl (some 1)))), (1, .inl (a)), (2, .inl (b))]) (S' := [.inl (Int32.ofNat 1)]) (h' := h) (by with_unfolding_all rfl) ?_
      exact kc_ret_ok rfl (rv := some (.inl (Int32.ofNat 1))) rfl ⟨rfl, rfl⟩
set_option maxRecDepth 20000 in
theorem fu_r21 {g : kc_G} {d : Nat} {h : kc_H} {B : Nat → Int32} {a : Int32} (hg : kc_ok g) (hw : kd_wt kd_ty h) (hC : fu_B B h) : kc_Con g (d + 2) 21 [.inr (.inr (.inl (some 259))), .inl a] h (fun rv h' => rv = some (.inl (kp_b (fu_in a 0 (B 0).toInt))) ∧ h' = h) := by
  refine kc_Con_new hg (M := wk_m21) rfl rfl rfl (show 2 ≤ 2 by decide) ?_
  refine kx_go 4 (pc' := 4) (L' := [(0, .inr (.inr (.inl (some 259)))), (1, .inl (a))]) (S' := [.inr (.inr (.inl (some 259))), .inr (.inl (Int64.ofNat 0)), .inr (.inl (a.toInt64))]) (h' := h) (by with_unfolding_all rfl) ?_
  refine kx_getf (c := 259) (v := .inr (.inr (.inl (some 260)))) rfl (by decide) (kx_ofr (hw _ _ _ kz_k.1)) ?_
  refine kx_go 1 (pc' := 8) (L' := [(0, .inr (.inr (.inl (some 259)))), (1, .inl (a))]) (S' := [.inl (Int32.ofNat 0), .inr (.inr (.inl (some 260))), .inr (.inl (Int64.ofNat 0)), .inr (.inl (a.toInt64))]) (h' := h) (by with_unfolding_all rfl) ?_
  refine kx_iald (c := 260) (j := 0) (m := 650) (v := .inl (B 0)) rfl rfl (by decide) (by decide) (by decide) (hC 0 (by decide) (by decide)) ?_
  refine kx_go 1 (pc' := 10) (L' := [(0, .inr (.inr (.inl (some 259)))), (1, .inl (a))]) (S' := [.inr (.inl ((B 0).toInt64)), .inr (.inl (Int64.ofNat 0)), .inr (.inl (a.toInt64))]) (h' := h) (by with_unfolding_all rfl) ?_
  refine kc_call_rule (M2 := wk_m22) (av := [.inr (.inl (a.toInt64)), .inr (.inl (Int64.ofNat 0)), .inr (.inl ((B 0).toInt64))]) (r := []) rfl rfl (kc_Con_le (fu_li (d := 0) (lo := 0) (hi := (B 0).toInt) hg rfl (Int32.toInt_toInt64 _)) (by omega)) (fun rv h2 hq => ?_)
  obtain ⟨rfl, e⟩ := hq
  rw [e]
  clear e
  cases fu_in a 0 (B 0).toInt with
  | false => exact kc_ret_ok rfl (rv := some (.inl (kp_b false))) rfl ⟨rfl, rfl⟩
  | true => exact kc_ret_ok rfl (rv := some (.inl (kp_b true))) rfl ⟨rfl, rfl⟩
set_option maxRecDepth 20000 in
theorem fu_r27 {g : kc_G} {d : Nat} {h : kc_H} {B : Nat → Int32} {a : Int32} (hg : kc_ok g) (hw : kd_wt kd_ty h) (hC : fu_B B h) : kc_Con g (d + 2) 27 [.inr (.inr (.inl (some 259))), .inl a] h (fun rv h' => rv = some (.inl (kp_b (fu_in a 1 (B 0).toInt))) ∧ h' = h) := by
  refine kc_Con_new hg (M := wk_m27) rfl rfl rfl (show 2 ≤ 2 by decide) ?_
  refine kx_go 4 (pc' := 4) (L' := [(0, .inr (.inr (.inl (some 259)))), (1, .inl (a))]) (S' := [.inr (.inr (.inl (some 259))), .inr (.inl (Int64.ofNat 1)), .inr (.inl (a.toInt64))]) (h' := h) (by with_unfolding_all rfl) ?_
  refine kx_getf (c := 259) (v := .inr (.inr (.inl (some 260)))) rfl (by decide) (kx_ofr (hw _ _ _ kz_k.1)) ?_
  refine kx_go 1 (pc' := 8) (L' := [(0, .inr (.inr (.inl (some 259)))), (1, .inl (a))]) (S' := [.inl (Int32.ofNat 0), .inr (.inr (.inl (some 260))), .inr (.inl (Int64.ofNat 1)), .inr (.inl (a.toInt64))]) (h' := h) (by with_unfolding_all rfl) ?_
  refine kx_iald (c := 260) (j := 0) (m := 650) (v := .inl (B 0)) rfl rfl (by decide) (by decide) (by decide) (hC 0 (by decide) (by decide)) ?_
  refine kx_go 1 (pc' := 10) (L' := [(0, .inr (.inr (.inl (some 259)))), (1, .inl (a))]) (S' := [.inr (.inl ((B 0).toInt64)), .inr (.inl (Int64.ofNat 1)), .inr (.inl (a.toInt64))]) (h' := h) (by with_unfolding_all rfl) ?_
  refine kc_call_rule (M2 := wk_m22) (av := [.inr (.inl (a.toInt64)), .inr (.inl (Int64.ofNat 1)), .inr (.inl ((B 0).toInt64))]) (r := []) rfl rfl (kc_Con_le (fu_li (d := 0) (lo := 1) (hi := (B 0).toInt) hg rfl (Int32.toInt_toInt64 _)) (by omega)) (fun rv h2 hq => ?_)
  obtain ⟨rfl, e⟩ := hq
  rw [e]
  clear e
  cases fu_in a 1 (B 0).toInt with
  | false => exact kc_ret_ok rfl (rv := some (.inl (kp_b false))) rfl ⟨rfl, rfl⟩
  | true => exact kc_ret_ok rfl (rv := some (.inl (kp_b true))) rfl ⟨rfl, rfl⟩
set_option maxRecDepth 20000 in
theorem fu_r40 {g : kc_G} {d : Nat} {h : kc_H} {B : Nat → Int32} {a : Int32} (hg : kc_ok g) (hw : kd_wt kd_ty h) (hC : fu_B B h) (hB : fu_BT B) : kc_Con g (d + 2) 40 [.inr (.inr (.inl (some 259))), .inl a] h (fun rv h' => rv = some (.inl (kp_b (fu_in a 0 ((B 1).toInt - 1)))) ∧ h' = h) := by
  refine kc_Con_new hg (M := wk_m40) rfl rfl rfl (show 2 ≤ 2 by decide) ?_
  obtain ⟨K, K1, eK⟩ := fu_n1 hB
  refine kx_go 4 (pc' := 4) (L' := [(0, .inr (.inr (.inl (some 259)))), (1, .inl (a))]) (S' := [.inr (.inr (.inl (some 259))), .inr (.inl (Int64.ofNat 0)), .inr (.inl (a.toInt64))]) (h' := h) (by with_unfolding_all rfl) ?_
  refine kx_getf (c := 259) (v := .inr (.inr (.inl (some 260)))) rfl (by decide) (kx_ofr (hw _ _ _ kz_k.1)) ?_
  refine kx_go 1 (pc' := 8) (L' := [(0, .inr (.inr (.inl (some 259)))), (1, .inl (a))]) (S' := [.inl (Int32.ofNat 1), .inr (.inr (.inl (some 260))), .inr (.inl (Int64.ofNat 0)), .inr (.inl (a.toInt64))]) (h' := h) (by with_unfolding_all rfl) ?_
  refine kx_iald (c := 260) (j := 1) (m := 650) (v := .inl (B 1)) rfl rfl (by decide) (by decide) (by decide) (hC 1 (by decide) (by decide)) ?_
  refine kx_go 3 (pc' := 12) (L' := [(0, .inr (.inr (.inl (some 259)))), (1, .inl (a))]) (S' := [.inr (.inl (((B 1) - (Int32.ofNat 1)).toInt64)), .inr (.inl (Int64.ofNat 0)), .inr (.inl (a.toInt64))]) (h' := h) (by with_unfolding_all rfl) ?_
  refine kc_call_rule (M2 := wk_m22) (av := [.inr (.inl (a.toInt64)), .inr (.inl (Int64.ofNat 0)), .inr (.inl (((B 1) - (Int32.ofNat 1)).toInt64))]) (r := []) rfl rfl (kc_Con_le (fu_li (d := 0) (lo := 0) (hi := ((B 1).toInt - 1)) hg rfl (by rw [Int32.toInt_toInt64, eK, fu_dec _ (by omega), kx_ti (by omega)])) (by omega)) (fun rv h2 hq => ?_)
  obtain ⟨rfl, e⟩ := hq
  rw [e]
  clear e
  cases fu_in a 0 ((B 1).toInt - 1) with
  | false => exact kc_ret_ok rfl (rv := some (.inl (kp_b false))) rfl ⟨rfl, rfl⟩
  | true => exact kc_ret_ok rfl (rv := some (.inl (kp_b true))) rfl ⟨rfl, rfl⟩
set_option maxRecDepth 20000 in
theorem fu_r48 {g : kc_G} {d : Nat} {h : kc_H} {B : Nat → Int32} {a : Int32} (hg : kc_ok g) (hw : kd_wt kd_ty h) (hC : fu_B B h) (hB : fu_BT B) : kc_Con g (d + 2) 48 [.inr (.inr (.inl (some 259))), .inl a] h (fun rv h' => rv = some (.inl (kp_b (fu_in a 0 ((B 2).toInt - 1)))) ∧ h' = h) := by
  refine kc_Con_new hg (M := wk_m48) rfl rfl rfl (show 2 ≤ 2 by decide) ?_
  obtain ⟨K, K1, eK⟩ := fu_n2 hB
  refine kx_go 4 (pc' := 4) (L' := [(0, .inr (.inr (.inl (some 259)))), (1, .inl (a))]) (S' := [.inr (.inr (.inl (some 259))), .inr (.inl (Int64.ofNat 0)), .inr (.inl (a.toInt64))]) (h' := h) (by with_unfolding_all rfl) ?_
  refine kx_getf (c := 259) (v := .inr (.inr (.inl (some 260)))) rfl (by decide) (kx_ofr (hw _ _ _ kz_k.1)) ?_
  refine kx_go 1 (pc' := 8) (L' := [(0, .inr (.inr (.inl (some 259)))), (1, .inl (a))]) (S' := [.inl (Int32.ofNat 2), .inr (.inr (.inl (some 260))), .inr (.inl (Int64.ofNat 0)), .inr (.inl (a.toInt64))]) (h' := h) (by with_unfolding_all rfl) ?_
  refine kx_iald (c := 260) (j := 2) (m := 650) (v := .inl (B 2)) rfl rfl (by decide) (by decide) (by decide) (hC 2 (by decide) (by decide)) ?_
  refine kx_go 3 (pc' := 12) (L' := [(0, .inr (.inr (.inl (some 259)))), (1, .inl (a))]) (S' := [.inr (.inl (((B 2) - (Int32.ofNat 1)).toInt64)), .inr (.inl (Int64.ofNat 0)), .inr (.inl (a.toInt64))]) (h' := h) (by with_unfolding_all rfl) ?_
  refine kc_call_rule (M2 := wk_m22) (av := [.inr (.inl (a.toInt64)), .inr (.inl (Int64.ofNat 0)), .inr (.inl (((B 2) - (Int32.ofNat 1)).toInt64))]) (r := []) rfl rfl (kc_Con_le (fu_li (d := 0) (lo := 0) (hi := ((B 2).toInt - 1)) hg rfl (by rw [Int32.toInt_toInt64, eK, fu_dec _ (by omega), kx_ti (by omega)])) (by omega)) (fun rv h2 hq => ?_)
  obtain ⟨rfl, e⟩ := hq
  rw [e]
  clear e
  cases fu_in a 0 ((B 2).toInt - 1) with
  | false => exact kc_ret_ok rfl (rv := some (.inl (kp_b false))) rfl ⟨rfl, rfl⟩
  | true => exact kc_ret_ok rfl (rv := some (.inl (kp_b true))) rfl ⟨rfl, rfl⟩
set_option maxRecDepth 20000 in
theorem fu_r231 {g : kc_G} {d : Nat} {h : kc_H} {a : Int32} (hg : kc_ok g) : kc_Con g (d + 2) 231 [.inl a] h (fun rv h' => rv = some (.inl (kp_b (fu_in a 0 1))) ∧ h' = h) := by
  refine kc_Con_new hg (M := wk_m231) rfl rfl rfl (show 1 ≤ 1 by decide) ?_
  refine kx_go 4 (pc' := 4) (L' := [(0, .inl (a))]) (S' := [.inr (.inl (Int64.ofNat 1)), .inr (.inl (Int64.ofNat 0)), .inr (.inl (a.toInt64))]) (h' := h) (by with_unfolding_all rfl) ?_
  refine kc_call_rule (M2 := wk_m22) (av := [.inr (.inl (a.toInt64)), .inr (.inl (Int64.ofNat 0)), .inr (.inl (Int64.ofNat 1))]) (r := []) rfl rfl (kc_Con_le (fu_li (d := 0) (lo := 0) (hi := 1) hg rfl rfl) (by omega)) (fun rv h2 hq => ?_)
  obtain ⟨rfl, e⟩ := hq
  rw [e]
  clear e
  cases fu_in a 0 1 with
  | false => exact kc_ret_ok rfl (rv := some (.inl (kp_b false))) rfl ⟨rfl, rfl⟩
  | true => exact kc_ret_ok rfl (rv := some (.inl (kp_b true))) rfl ⟨rfl, rfl⟩
set_option maxRecDepth 20000 in
theorem fu_r57 {g : kc_G} {d : Nat} {h : kc_H} {a : Int32} (hg : kc_ok g) : kc_Con g (d + 2) 57 [.inl a] h (fun rv h' => rv = some (.inl (kp_b (fu_in a 0 1))) ∧ h' = h) := by
  refine kc_Con_new hg (M := wk_m57) rfl rfl rfl (show 1 ≤ 1 by decide) ?_
  refine kx_go 4 (pc' := 4) (L' := [(0, .inl (a))]) (S' := [.inr (.inl (Int64.ofNat 1)), .inr (.inl (Int64.ofNat 0)), .inr (.inl (a.toInt64))]) (h' := h) (by with_unfolding_all rfl) ?_
  refine kc_call_rule (M2 := wk_m22) (av := [.inr (.inl (a.toInt64)), .inr (.inl (Int64.ofNat 0)), .inr (.inl (Int64.ofNat 1))]) (r := []) rfl rfl (kc_Con_le (fu_li (d := 0) (lo := 0) (hi := 1) hg rfl rfl) (by omega)) (fun rv h2 hq => ?_)
  obtain ⟨rfl, e⟩ := hq
  rw [e]
  clear e
  cases fu_in a 0 1 with
  | false => exact kc_ret_ok rfl (rv := some (.inl (kp_b false))) rfl ⟨rfl, rfl⟩
  | true => exact kc_ret_ok rfl (rv := some (.inl (kp_b true))) rfl ⟨rfl, rfl⟩
set_option maxRecDepth 20000 in
theorem fu_r31 {g : kc_G} {d j : Nat} {h : kc_H} {w : Int32} {v : Int64} (hg : kc_ok g) (hw : kd_wt kd_ty h) (hj : j < 650) (hv : h 260 j = .inl w) : kc_Con g (d + 1) 31 [.inr (.inr (.inl (some 259))), .inl (Int32.ofNat j), .inr (.inl v)] h (fun rv h' => rv = some (.inl w) ∧ h' = kc_upd h 260 j (.inl v.toInt32)) := by
  refine kc_Con_new hg (M := wk_m31) rfl rfl rfl (show 4 ≤ 5 by decide) ?_
  refine kx_go 1 (pc' := 1) (L' := [(0, .inr (.inr (.inl (some 259)))), (1, .inl (Int32.ofNat j)), (2, .inr (.inl (v)))]) (S' := [.inr (.inr (.inl (some 259)))]) (h' := h) (by with_unfolding_all rfl) ?_
  refine kx_getf (c := 259) (v := .inr (.inr (.inl (some 260)))) rfl (by decide) (kx_ofr (hw _ _ _ kz_k.1)) ?_
  refine kx_go 1 (pc' := 5) (L' := [(0, .inr (.inr (.inl (some 259)))), (1, .inl (Int32.ofNat j)), (2, .inr (.inl (v)))]) (S' := [.inl (Int32.ofNat j), .inr (.inr (.inl (some 260)))]) (h' := h) (by with_unfolding_all rfl) ?_
  refine kx_iald (c := 260) (j := j) (m := 650) (v := .inl w) rfl rfl (by decide) (by decide) hj hv ?_
  refine kx_go 2 (pc' := 9) (L' := [(4, .inl (w)), (0, .inr (.inr (.inl (some 259)))), (1, .inl (Int32.ofNat j)), (2, .inr (.inl (v)))]) (S' := [.inr (.inr (.inl (some 259)))]) (h' := h) (by with_unfolding_all rfl) ?_
  refine kx_getf (c := 259) (v := .inr (.inr (.inl (some 260)))) rfl (by decide) (kx_ofr (hw _ _ _ kz_k.1)) ?_
  refine kx_go 3 (pc' := 15) (L' := [(4, .inl (w)), (0, .inr (.inr (.inl (some 259)))), (1, .inl (Int32.ofNat j)), (2, .inr (.inl (v)))]) (S' := [.inl (v.toInt32), .inl (Int32.ofNat j), .inr (.inr (.inl (some 260)))]) (h' := h) (by with_unfolding_all rfl) ?_
  refine kx_iast (c := 260) (j := j) (m := 650) rfl rfl (by decide) (by decide) hj ?_
  refine kx_go 1 (pc' := 18) (L' := [(4, .inl (w)), (0, .inr (.inr (.inl (some 259)))), (1, .inl (Int32.ofNat j)), (2, .inr (.inl (v)))]) (S' := [.inl (w)]) (h' := (kc_upd h 260 j (.inl v.toInt32))) (by with_unfolding_all rfl) ?_
  exact kc_ret_ok rfl (rv := some (.inl w)) rfl ⟨rfl, rfl⟩
