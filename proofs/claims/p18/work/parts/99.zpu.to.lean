section
-- 99.zpu
/-! ===== the acts: the reference goes ===== -/
set_option maxRecDepth 20000 in
theorem fa_r255 {g : kc_G} {d : Nat} {h : kc_H} {B : Nat → Int32} {A : Nat → Nat} {D M L i : Nat} {m : Nat} (hg : kc_ok g) (hBB : fa_BB B D M L) (hw : kd_wt kd_ty h) (hC : fu_B B h) (hi : i ≤ 60) (hI : fa_I B A L i) (hA : fa_R A L h) (hm : m < 3) : kc_Con g (d + 4) 255 [.inr (.inr (.inl (some 259))), .inl (Int32.ofNat m)] h (fun rv h' => rv = some (.inl (Int32.ofNat (fa_un B A m))) ∧ h' = h) := by
  obtain ⟨hB, ⟨eD, hD⟩, ⟨eM, hM⟩, eL, hL⟩ := hBB
  have h3 := hI.2.2.2.2.2.2.1
  have b1 := fa_bwl (s := 2 * m) hB hL (by omega) hI hi
  have b2 := fa_bwl (s := 2 * m + 1) hB hL (by omega) hI hi
  have eD2 := fh_si (a := fa_bw B A (2 * m)) (b := fa_bw B A (2 * m + 1)) (by omega) (by omega)
  refine kc_Con_new hg (M := wk_m255) rfl rfl rfl (show 2 ≤ 3 by decide) ?_
  refine kx_go 4 (pc' := 4) (L' := [(0, .inr (.inr (.inl (some 259)))), (1, .inl (Int32.ofNat m))]) (S' := [.inl ((Int32.ofNat 2) * (Int32.ofNat m)), .inr (.inr (.inl (some 259)))]) (h' := h) (by with_unfolding_all rfl) ?_
  rw [kx_mul]
  refine kc_call_rule (M2 := wk_m245) (av := [.inr (.inr (.inl (some 259))), .inl (Int32.ofNat (2 * m))]) (r := []) rfl rfl (kc_Con_le (fa_r245 (d := 0) (s := 2 * m) hg hw hC hB hL hi hI hA (by omega)) (by omega)) (fun rv h2 hq => ?_)
  obtain ⟨rfl, e9⟩ := hq
  rw [e9]
  clear e9
  show kc_Ev g (d + 3) wk_m255 _ 7 [(0, .inr (.inr (.inl (some 259)))), (1, .inl (Int32.ofNat m))] [.inl (Int32.ofNat (fa_bw B A (2 * m)))] h
  refine kx_go 6 (pc' := 13) (L' := [(0, .inr (.inr (.inl (some 259)))), (1, .inl (Int32.ofNat m))]) (S' := [.inl (((Int32.ofNat 2) * (Int32.ofNat m)) + (Int32.ofNat 1)), .inr (.inr (.inl (some 259))), .inl (Int32.ofNat (fa_bw B A (2 * m)))]) (h' := h) (by with_unfolding_all rfl) ?_
  rw [kx_mul, kx_add]
  refine kc_call_rule (M2 := wk_m245) (av := [.inr (.inr (.inl (some 259))), .inl (Int32.ofNat (2 * m + 1))]) (r := [.inl (Int32.ofNat (fa_bw B A (2 * m)))]) rfl rfl (kc_Con_le (fa_r245 (d := 0) (s := 2 * m + 1) hg hw hC hB hL hi hI hA (by omega)) (by omega)) (fun rv h2 hq => ?_)
  obtain ⟨rfl, e9⟩ := hq
  rw [e9]
  clear e9
  show kc_Ev g (d + 3) wk_m255 _ 16 [(0, .inr (.inr (.inl (some 259)))), (1, .inl (Int32.ofNat m))] [.inl (Int32.ofNat (fa_bw B A (2 * m + 1))), .inl (Int32.ofNat (fa_bw B A (2 * m)))] h
  refine kx_go 4 (pc' := (if kc_cnd .ge ((Int32.ofNat (fa_bw B A (2 * m))) - (Int32.ofNat (fa_bw B A (2 * m + 1)))).toInt 0 then 27 else 22)) (L' := [(2, .inl ((Int32.ofNat (fa_bw B A (2 * m))) - (Int32.ofNat (fa_bw B A (2 * m + 1))))), (0, .inr (.inr (.inl (some 259)))), (1, .inl (Int32.ofNat m))]) (S' := []) (h' := h) (by with_unfolding_all rfl) ?_
  by_cases c : fa_bw B A (2 * m + 1) ≤ fa_bw B A (2 * m)
  · rw [if_pos (show kc_cnd .ge (((Int32.ofNat (fa_bw B A (2 * m))) - (Int32.ofNat (fa_bw B A (2 * m + 1))))).toInt 0 = true from fu_ige.mpr (by rw [eD2]; omega))]
    refine kx_go 1 (pc' := 28) (L' := [(2, .inl ((Int32.ofNat (fa_bw B A (2 * m))) - (Int32.ofNat (fa_bw B A (2 * m + 1))))), (0, .inr (.inr (.inl (some 259)))), (1, .inl (Int32.ofNat m))]) (S' := [.inl ((Int32.ofNat (fa_bw B A (2 * m))) - (Int32.ofNat (fa_bw B A (2 * m + 1))))]) (h' := h) (by with_unfolding_all rfl) ?_
    have e : (Int32.ofNat (fa_bw B A (2 * m))) - (Int32.ofNat (fa_bw B A (2 * m + 1))) = Int32.ofNat (fa_un B A m) := by rw [kx_sub c]; unfold fa_un; congr 1; omega
    rw [e]
    exact kc_ret_ok rfl (rv := some (.inl (Int32.ofNat (fa_un B A m)))) rfl ⟨rfl, rfl⟩
  · rw [if_neg (show ¬ (kc_cnd .ge (((Int32.ofNat (fa_bw B A (2 * m))) - (Int32.ofNat (fa_bw B A (2 * m + 1))))).toInt 0 = true) from fun q => fu_ige.mp q (by rw [eD2]; omega))]
    refine kx_go 3 (pc' := 28) (L' := [(2, .inl ((Int32.ofNat (fa_bw B A (2 * m))) - (Int32.ofNat (fa_bw B A (2 * m + 1))))), (0, .inr (.inr (.inl (some 259)))), (1, .inl (Int32.ofNat m))]) (S' := [.inl (-((Int32.ofNat (fa_bw B A (2 * m))) - (Int32.ofNat (fa_bw B A (2 * m + 1)))))]) (h' := h) (by with_unfolding_all rfl) ?_
    have e : -((Int32.ofNat (fa_bw B A (2 * m))) - (Int32.ofNat (fa_bw B A (2 * m + 1)))) = Int32.ofNat (fa_un B A m) := by
      have e3 := fh_si (a := fa_bw B A (2 * m + 1)) (b := fa_bw B A (2 * m)) (by omega) (by omega)
      have e4 : -((Int32.ofNat (fa_bw B A (2 * m))) - (Int32.ofNat (fa_bw B A (2 * m + 1)))) = Int32.ofNat (fa_bw B A (2 * m + 1)) - Int32.ofNat (fa_bw B A (2 * m)) := by rw [Int32.neg_sub]
      rw [e4, kx_sub (by omega)]; unfold fa_un; rw [show fa_bw B A (2 * m) - fa_bw B A (2 * m + 1) = 0 by omega, Nat.zero_add]
    rw [e]
    exact kc_ret_ok rfl (rv := some (.inl (Int32.ofNat (fa_un B A m)))) rfl ⟨rfl, rfl⟩
set_option maxRecDepth 20000 in
theorem fa_r254 {g : kc_G} {d : Nat} {h : kc_H} {B : Nat → Int32} {x y : Nat} (hg : kc_ok g) (hw : kd_wt kd_ty h) (hC : fu_B B h) (hB : fu_BT B) (hx : x < 6) (hy : y < 6) : kc_Con g (d + 1) 254 [.inr (.inr (.inl (some 259))), .inl (Int32.ofNat x), .inl (Int32.ofNat y)] h (fun rv h' => rv = some (.inl (Int32.ofNat (fa_n B (10 + 6 * x + y)))) ∧ h' = h) := by
  refine kc_Con_new hg (M := wk_m254) rfl rfl rfl (show 3 ≤ 3 by decide) ?_
  refine kx_go 1 (pc' := 1) (L' := [(0, .inr (.inr (.inl (some 259)))), (1, .inl (Int32.ofNat x)), (2, .inl (Int32.ofNat y))]) (S' := [.inr (.inr (.inl (some 259)))]) (h' := h) (by with_unfolding_all rfl) ?_
  refine kx_getf (c := 259) (v := .inr (.inr (.inl (some 260)))) rfl (by decide) (kx_ofr (hw _ _ _ kz_k.1)) ?_
  refine kx_go 7 (pc' := 13) (L' := [(0, .inr (.inr (.inl (some 259)))), (1, .inl (Int32.ofNat x)), (2, .inl (Int32.ofNat y))]) (S' := [.inl (((Int32.ofNat 10) + ((Int32.ofNat 6) * (Int32.ofNat x))) + (Int32.ofNat y)), .inr (.inr (.inl (some 260)))]) (h' := h) (by with_unfolding_all rfl) ?_
  rw [kx_mul, kx_add, kx_add]
  refine kx_iald (c := 260) (j := 10 + 6 * x + y) (m := 650) (v := .inl (Int32.ofNat (fa_n B (10 + 6 * x + y)))) rfl rfl (by decide) (by decide) (by omega) ((hC (10 + 6 * x + y) (by omega) (fu_fmi x hx y hy).2.1).trans (by rw [← (fa_ng hB hx hy).1])) ?_
  exact kc_ret_ok rfl (rv := some (.inl (Int32.ofNat (fa_n B (10 + 6 * x + y))))) rfl ⟨rfl, rfl⟩
set_option maxRecDepth 20000 in
theorem fa_r253w {g : kc_G} {d : Nat} {h : kc_H} {B : Nat → Int32} {A : Nat → Nat} {D M L i : Nat} {e : Nat} {Q : Option kc_V → kc_H → Prop} (hg : kc_ok g) (hBB : fa_BB B D M L) (hw : kd_wt kd_ty h) (hC : fu_B B h) (hi : i ≤ 60) (hI : fa_I B A L i) (hA : fa_R A L h) (k : kc_Ev g (d + 9) wk_m253 Q 74 [(3, .inl (Int32.ofNat (2 * M))), (2, .inl (kp_b (fa_wt B A (2 * M)))), (0, .inr (.inr (.inl (some 259)))), (1, .inl (Int32.ofNat e))] [] h) : ∀ u s : Nat, 2 * M - s = u → s ≤ 2 * M → kc_Ev g (d + 9) wk_m253 Q 22 [(3, .inl (Int32.ofNat s)), (2, .inl (kp_b (fa_wt B A s))), (0, .inr (.inr (.inl (some 259)))), (1, .inl (Int32.ofNat e))] [] h := by
  obtain ⟨hB, ⟨eD, hD⟩, ⟨eM, hM⟩, eL, hL⟩ := hBB
  have h3 := hI.2.2.2.2.2.2.1
  intro u
  induction u with
  | zero =>
    intro s hu hs
    refine kx_go 3 (pc' := 25) (L' := [(3, .inl (Int32.ofNat s)), (2, .inl (kp_b (fa_wt B A s))), (0, .inr (.inr (.inl (some 259)))), (1, .inl (Int32.ofNat e))]) (S' := [.inr (.inr (.inl (some 259))), .inl (Int32.ofNat 2), .inl (Int32.ofNat s)]) (h' := h) (by with_unfolding_all rfl) ?_
    refine kx_getf (c := 259) (v := .inr (.inr (.inl (some 260)))) rfl (by decide) (kx_ofr (hw _ _ _ kz_k.1)) ?_
    refine kx_go 1 (pc' := 29) (L' := [(3, .inl (Int32.ofNat s)), (2, .inl (kp_b (fa_wt B A s))), (0, .inr (.inr (.inl (some 259)))), (1, .inl (Int32.ofNat e))]) (S' := [.inl (Int32.ofNat 1), .inr (.inr (.inl (some 260))), .inl (Int32.ofNat 2), .inl (Int32.ofNat s)]) (h' := h) (by with_unfolding_all rfl) ?_
    refine kx_iald (c := 260) (j := 1) (m := 650) (v := .inl (Int32.ofNat M)) rfl rfl (by decide) (by decide) (by decide) ((hC 1 (by decide) (by decide)).trans (by rw [eM])) ?_
    refine kx_go 2 (pc' := (if kc_cnd .ge (Int32.ofNat s).toInt ((Int32.ofNat 2) * (Int32.ofNat M)).toInt then 74 else 34)) (L' := [(3, .inl (Int32.ofNat s)), (2, .inl (kp_b (fa_wt B A s))), (0, .inr (.inr (.inl (some 259)))), (1, .inl (Int32.ofNat e))]) (S' := []) (h' := h) (by with_unfolding_all rfl) ?_
    rw [kx_mul]
    rw [if_pos ((kx_ge (by omega) (by omega)).mpr (show 2 * M ≤ s by omega))]
    have es : s = 2 * M := by omega
    rw [es]
    exact k
  | succ u ih =>
    intro s hu hs
    refine kx_go 3 (pc' := 25) (L' := [(3, .inl (Int32.ofNat s)), (2, .inl (kp_b (fa_wt B A s))), (0, .inr (.inr (.inl (some 259)))), (1, .inl (Int32.ofNat e))]) (S' := [.inr (.inr (.inl (some 259))), .inl (Int32.ofNat 2), .inl (Int32.ofNat s)]) (h' := h) (by with_unfolding_all rfl) ?_
    refine kx_getf (c := 259) (v := .inr (.inr (.inl (some 260)))) rfl (by decide) (kx_ofr (hw _ _ _ kz_k.1)) ?_
    refine kx_go 1 (pc' := 29) (L' := [(3, .inl (Int32.ofNat s)), (2, .inl (kp_b (fa_wt B A s))), (0, .inr (.inr (.inl (some 259)))), (1, .inl (Int32.ofNat e))]) (S' := [.inl (Int32.ofNat 1), .inr (.inr (.inl (some 260))), .inl (Int32.ofNat 2), .inl (Int32.ofNat s)]) (h' := h) (by with_unfolding_all rfl) ?_
    refine kx_iald (c := 260) (j := 1) (m := 650) (v := .inl (Int32.ofNat M)) rfl rfl (by decide) (by decide) (by decide) ((hC 1 (by decide) (by decide)).trans (by rw [eM])) ?_
    refine kx_go 2 (pc' := (if kc_cnd .ge (Int32.ofNat s).toInt ((Int32.ofNat 2) * (Int32.ofNat M)).toInt then 74 else 34)) (L' := [(3, .inl (Int32.ofNat s)), (2, .inl (kp_b (fa_wt B A s))), (0, .inr (.inr (.inl (some 259)))), (1, .inl (Int32.ofNat e))]) (S' := []) (h' := h) (by with_unfolding_all rfl) ?_
    rw [kx_mul]
    rw [if_neg (mt (kx_ge (by omega) (by omega)).mp (show ¬ 2 * M ≤ s by omega))]
    have s6 : s < 6 := by omega
    have a3 := h3 s s6
    have join : kc_Ev g (d + 9) wk_m253 Q 67 [(3, .inl (Int32.ofNat s)), (2, .inl (kp_b (fa_wt B A s))), (0, .inr (.inr (.inl (some 259)))), (1, .inl (Int32.ofNat e))] [.inl (kp_b (fa_wt B A (s + 1)))] h := by
      refine kx_go 3 (pc' := 22) (L' := [(3, .inl ((Int32.ofNat s) + Int32.ofInt 1)), (2, .inl (kp_b (fa_wt B A (s + 1)))), (0, .inr (.inr (.inl (some 259)))), (1, .inl (Int32.ofNat e))]) (S' := []) (h' := h) (by with_unfolding_all rfl) ?_
      rw [kx_inc]
      refine kf_lo (L := [(3, .inl (Int32.ofNat (s + 1))), (2, .inl (kp_b (fa_wt B A (s + 1)))), (0, .inr (.inr (.inl (some 259)))), (1, .inl (Int32.ofNat e))]) (by intro q hq; simp only [List.mem_cons, List.not_mem_nil, or_false] at hq; rcases hq with rfl | rfl | rfl | rfl <;> rfl) ?_
      exact ih (s + 1) (by omega) (by omega)
    have us : fa_wt B A (s + 1) = (fa_wt B A s || (decide (0 < A (20 + s)) && !fa_hd B (A (40 + 3 * s + 0)))) := rfl
    refine kx_go 2 (pc' := (if kc_cnd .ne (kp_b (fa_wt B A s)).toInt 0 then 62 else 38)) (L' := [(3, .inl (Int32.ofNat s)), (2, .inl (kp_b (fa_wt B A s))), (0, .inr (.inr (.inl (some 259)))), (1, .inl (Int32.ofNat e))]) (S' := []) (h' := h) (by with_unfolding_all rfl) ?_
    cases ew : fa_wt B A s with
    | true =>
      rw [ew] at join us
      rw [show fa_wt B A (s + 1) = true from by rw [us]; rfl] at join
      rw [if_pos fa_b1t]
      refine kx_go 2 (pc' := 67) (L' := [(3, .inl (Int32.ofNat s)), (2, .inl (kp_b (true))), (0, .inr (.inr (.inl (some 259)))), (1, .inl (Int32.ofNat e))]) (S' := [.inl (Int32.ofNat 1)]) (h' := h) (by with_unfolding_all rfl) ?_
      exact join
    | false =>
      rw [ew] at join us
      rw [if_neg fa_b1f]
      refine kx_go 1 (pc' := 39) (L' := [(3, .inl (Int32.ofNat s)), (2, .inl (kp_b (false))), (0, .inr (.inr (.inl (some 259)))), (1, .inl (Int32.ofNat e))]) (S' := [.inr (.inr (.inl (some 259)))]) (h' := h) (by with_unfolding_all rfl) ?_
      refine kx_getf (c := 259) (v := .inr (.inr (.inl (some 268)))) rfl (by decide) (kx_ofr (hw _ _ _ fa_kr.2.2.1)) ?_
      refine kx_go 1 (pc' := 43) (L' := [(3, .inl (Int32.ofNat s)), (2, .inl (kp_b (false))), (0, .inr (.inr (.inl (some 259)))), (1, .inl (Int32.ofNat e))]) (S' := [.inl (Int32.ofNat s), .inr (.inr (.inl (some 268)))]) (h' := h) (by with_unfolding_all rfl) ?_
      refine kx_iald (c := 268) (j := s) (m := 6) (v := .inl (Int32.ofNat (A (20 + s)))) rfl rfl (by decide) (by decide) (by omega) (hA.2.2.1 s (by omega)) ?_
      refine kx_go 1 (pc' := (if kc_cnd .le (Int32.ofNat (A (20 + s))).toInt 0 then 66 else 47)) (L' := [(3, .inl (Int32.ofNat s)), (2, .inl (kp_b (false))), (0, .inr (.inr (.inl (some 259)))), (1, .inl (Int32.ofNat e))]) (S' := []) (h' := h) (by with_unfolding_all rfl) ?_
      by_cases c0 : A (20 + s) = 0
      · rw [if_pos (fa_lz (by omega) c0)]
        rw [show fa_wt B A (s + 1) = false from by rw [us, decide_eq_false (by omega)]; rfl] at join
        refine kx_go 1 (pc' := 67) (L' := [(3, .inl (Int32.ofNat s)), (2, .inl (kp_b (false))), (0, .inr (.inr (.inl (some 259)))), (1, .inl (Int32.ofNat e))]) (S' := [.inl (Int32.ofNat 0)]) (h' := h) (by with_unfolding_all rfl) ?_
        exact join
      · rw [if_neg (fa_lnz (by omega) c0)]
        have htl := hI.2.2.2.2.2.2.2.2.1 s s6 0 (by omega)
        refine kx_go 2 (pc' := 49) (L' := [(3, .inl (Int32.ofNat s)), (2, .inl (kp_b (false))), (0, .inr (.inr (.inl (some 259)))), (1, .inl (Int32.ofNat e))]) (S' := [.inr (.inr (.inl (some 259))), .inr (.inr (.inl (some 259)))]) (h' := h) (by with_unfolding_all rfl) ?_
        refine kx_getf (c := 259) (v := .inr (.inr (.inl (some 267)))) rfl (by decide) (kx_ofr (hw _ _ _ fa_kr.2.1)) ?_
        refine kx_go 3 (pc' := 55) (L' := [(3, .inl (Int32.ofNat s)), (2, .inl (kp_b (false))), (0, .inr (.inr (.inl (some 259)))), (1, .inl (Int32.ofNat e))]) (S' := [.inl ((Int32.ofNat 3) * (Int32.ofNat s)), .inr (.inr (.inl (some 267))), .inr (.inr (.inl (some 259)))]) (h' := h) (by with_unfolding_all rfl) ?_
        rw [kx_mul]
        refine kx_iald (c := 267) (j := 3 * s) (m := 18) (v := .inl (Int32.ofNat (A (40 + 3 * s + 0)))) rfl rfl (by decide) (by decide) (by omega) (hA.2.2.2.2.1 s s6 0 (by omega)) ?_
        refine kc_call_rule (M2 := wk_m241) (av := [.inr (.inr (.inl (some 259))), .inl (Int32.ofNat (A (40 + 3 * s + 0)))]) (r := []) rfl rfl (kc_Con_le (fa_r241 (d := 0) hg hw hC hB (show A (40 + 3 * s + 0) < 10 by omega)) (by omega)) (fun rv h2 hq => ?_)
        obtain ⟨rfl, e9⟩ := hq
        rw [e9]
        clear e9
        show kc_Ev g (d + 9) wk_m253 _ 59 [(3, .inl (Int32.ofNat s)), (2, .inl (kp_b (false))), (0, .inr (.inr (.inl (some 259)))), (1, .inl (Int32.ofNat e))] [.inl (kp_b (fa_hd B (A (40 + 3 * s + 0))))] h
        refine kx_go 1 (pc' := (if kc_cnd .ne (kp_b (fa_hd B (A (40 + 3 * s + 0)))).toInt 0 then 66 else 62)) (L' := [(3, .inl (Int32.ofNat s)), (2, .inl (kp_b (false))), (0, .inr (.inr (.inl (some 259)))), (1, .inl (Int32.ofNat e))]) (S' := []) (h' := h) (by with_unfolding_all rfl) ?_
        cases eh : fa_hd B (A (40 + 3 * s + 0)) with
        | true =>
          rw [if_pos fa_b1t]
          rw [show fa_wt B A (s + 1) = false from by rw [us, eh, Bool.not_true, Bool.and_false]; rfl] at join
          refine kx_go 1 (pc' := 67) (L' := [(3, .inl (Int32.ofNat s)), (2, .inl (kp_b (false))), (0, .inr (.inr (.inl (some 259)))), (1, .inl (Int32.ofNat e))]) (S' := [.inl (Int32.ofNat 0)]) (h' := h) (by with_unfolding_all rfl) ?_
          exact join
        | false =>
          rw [if_neg fa_b1f]
          rw [show fa_wt B A (s + 1) = true from by rw [us, eh, decide_eq_true (by omega)]; rfl] at join
          refine kx_go 2 (pc' := 67) (L' := [(3, .inl (Int32.ofNat s)), (2, .inl (kp_b (false))), (0, .inr (.inr (.inl (some 259)))), (1, .inl (Int32.ofNat e))]) (S' := [.inl (Int32.ofNat 1)]) (h' := h) (by with_unfolding_all rfl) ?_
          exact join
set_option maxRecDepth 20000 in
theorem fa_r253m {g : kc_G} {d : Nat} {h0 : kc_H} {B : Nat → Int32} {A : Nat → Nat} {D M L i e km : Nat} {wt : Bool} {Q : Option kc_V → kc_H → Prop} (hg : kc_ok g) (hBB : fa_BB B D M L) (hC0 : fu_B B h0) (hi : i ≤ 60) (hI : fa_I B A L i) (hS : ∀ m, m < 3 → A (70 + m) + 1 ≤ 99 * i) (k : ∀ h, fa_Hr h0 (fa_sr B A M) L h → kc_Ev g (d + 9) wk_m253 Q 213 [(5, .inl (Int32.ofNat M)), (4, .inl (kp_b (fa_fr B A M))), (3, .inl (Int32.ofNat km)), (2, .inl (kp_b wt)), (0, .inr (.inr (.inl (some 259)))), (1, .inl (Int32.ofNat e))] [] h) : ∀ (u m : Nat) (h : kc_H), M - m = u → m ≤ M → fa_Hr h0 (fa_sr B A m) L h → kc_Ev g (d + 9) wk_m253 Q 125 [(5, .inl (Int32.ofNat m)), (4, .inl (kp_b (fa_fr B A m))), (3, .inl (Int32.ofNat km)), (2, .inl (kp_b wt)), (0, .inr (.inr (.inl (some 259)))), (1, .inl (Int32.ofNat e))] [] h := by
  have hBB1 := hBB
  obtain ⟨hB, ⟨eD, hD⟩, ⟨eM, hM⟩, eL, hL⟩ := hBB
  have h3 := hI.2.2.2.2.2.2.1
  intro u
  induction u with
  | zero =>
    intro m h hu hm hH
    have hH1 := hH
    obtain ⟨hw, hA, hF⟩ := hH
    have hC := fa_hr hF hC0
    refine kx_go 2 (pc' := 128) (L' := [(5, .inl (Int32.ofNat m)), (4, .inl (kp_b (fa_fr B A m))), (3, .inl (Int32.ofNat km)), (2, .inl (kp_b wt)), (0, .inr (.inr (.inl (some 259)))), (1, .inl (Int32.ofNat e))]) (S' := [.inr (.inr (.inl (some 259))), .inl (Int32.ofNat m)]) (h' := h) (by with_unfolding_all rfl) ?_
    refine kx_getf (c := 259) (v := .inr (.inr (.inl (some 260)))) rfl (by decide) (kx_ofr (hw _ _ _ kz_k.1)) ?_
    refine kx_go 1 (pc' := 132) (L' := [(5, .inl (Int32.ofNat m)), (4, .inl (kp_b (fa_fr B A m))), (3, .inl (Int32.ofNat km)), (2, .inl (kp_b wt)), (0, .inr (.inr (.inl (some 259)))), (1, .inl (Int32.ofNat e))]) (S' := [.inl (Int32.ofNat 1), .inr (.inr (.inl (some 260))), .inl (Int32.ofNat m)]) (h' := h) (by with_unfolding_all rfl) ?_
    refine kx_iald (c := 260) (j := 1) (m := 650) (v := .inl (Int32.ofNat M)) rfl rfl (by decide) (by decide) (by decide) ((hC 1 (by decide) (by decide)).trans (by rw [eM])) ?_
    refine kx_go 1 (pc' := (if kc_cnd .ge (Int32.ofNat m).toInt (Int32.ofNat M).toInt then 213 else 136)) (L' := [(5, .inl (Int32.ofNat m)), (4, .inl (kp_b (fa_fr B A m))), (3, .inl (Int32.ofNat km)), (2, .inl (kp_b wt)), (0, .inr (.inr (.inl (some 259)))), (1, .inl (Int32.ofNat e))]) (S' := []) (h' := h) (by with_unfolding_all rfl) ?_
    rw [if_pos ((kx_ge (by omega) (by omega)).mpr (show M ≤ m by omega))]
    have em : m = M := by omega
    rw [em] at hH1 ⊢
    exact k h hH1
  | succ u ih =>
    intro m h hu hm hH
    have hH1 := hH
    obtain ⟨hw, hA, hF⟩ := hH
    have hC := fa_hr hF hC0
    refine kx_go 2 (pc' := 128) (L' := [(5, .inl (Int32.ofNat m)), (4, .inl (kp_b (fa_fr B A m))), (3, .inl (Int32.ofNat km)), (2, .inl (kp_b wt)), (0, .inr (.inr (.inl (some 259)))), (1, .inl (Int32.ofNat e))]) (S' := [.inr (.inr (.inl (some 259))), .inl (Int32.ofNat m)]) (h' := h) (by with_unfolding_all rfl) ?_
    refine kx_getf (c := 259) (v := .inr (.inr (.inl (some 260)))) rfl (by decide) (kx_ofr (hw _ _ _ kz_k.1)) ?_
    refine kx_go 1 (pc' := 132) (L' := [(5, .inl (Int32.ofNat m)), (4, .inl (kp_b (fa_fr B A m))), (3, .inl (Int32.ofNat km)), (2, .inl (kp_b wt)), (0, .inr (.inr (.inl (some 259)))), (1, .inl (Int32.ofNat e))]) (S' := [.inl (Int32.ofNat 1), .inr (.inr (.inl (some 260))), .inl (Int32.ofNat m)]) (h' := h) (by with_unfolding_all rfl) ?_
    refine kx_iald (c := 260) (j := 1) (m := 650) (v := .inl (Int32.ofNat M)) rfl rfl (by decide) (by decide) (by decide) ((hC 1 (by decide) (by decide)).trans (by rw [eM])) ?_
    refine kx_go 1 (pc' := (if kc_cnd .ge (Int32.ofNat m).toInt (Int32.ofNat M).toInt then 213 else 136)) (L' := [(5, .inl (Int32.ofNat m)), (4, .inl (kp_b (fa_fr B A m))), (3, .inl (Int32.ofNat km)), (2, .inl (kp_b wt)), (0, .inr (.inr (.inl (some 259)))), (1, .inl (Int32.ofNat e))]) (S' := []) (h' := h) (by with_unfolding_all rfl) ?_
    rw [if_neg (mt (kx_ge (by omega) (by omega)).mp (show ¬ M ≤ m by omega))]
    have hI1 := fa_I_sr (m := m) hL hI hS (by omega)
    have m3 : m < 3 := by omega
    have b1 := fa_bwl (s := 2 * m) hB hL (by omega) hI hi
    have b2 := fa_bwl (s := 2 * m + 1) hB hL (by omega) hI hi
    have h31 := hI1.2.2.2.2.2.2.1
    have n1 := (fa_nm (e := 1) hB m3 (by decide) (by decide) (fa_tm m m3).2.1).2
    have n2 := (fa_nm (e := 2) hB m3 (by decide) (by decide) (fa_tm m m3).2.2.1).2
    have s1 := hS m m3
    have un : fa_un B A m ≤ 3000 := by unfold fa_un; omega
    have eu : fa_un B (fa_sr B A m) m = fa_un B A m := by unfold fa_un; rw [fa_bw_sr (by omega) h3, fa_bw_sr (by omega) h3]
    have er := fa_sr_h (B := B) (A := A) m (Nat.le_refl m)
    refine kx_go 1 (pc' := 137) (L' := [(5, .inl (Int32.ofNat m)), (4, .inl (kp_b (fa_fr B A m))), (3, .inl (Int32.ofNat km)), (2, .inl (kp_b wt)), (0, .inr (.inr (.inl (some 259)))), (1, .inl (Int32.ofNat e))]) (S' := [.inr (.inr (.inl (some 259)))]) (h' := h) (by with_unfolding_all rfl) ?_
    refine kx_getf (c := 259) (v := .inr (.inr (.inl (some 271)))) rfl (by decide) (kx_ofr (hw _ _ _ fa_kr.2.2.2.2.2)) ?_
    refine kx_go 3 (pc' := 145) (L' := [(5, .inl (Int32.ofNat m)), (4, .inl (kp_b (fa_fr B A m))), (3, .inl (Int32.ofNat km)), (2, .inl (kp_b wt)), (0, .inr (.inr (.inl (some 259)))), (1, .inl (Int32.ofNat e))]) (S' := [.inl (Int32.ofNat m), .inr (.inr (.inl (some 259))), .inl (Int32.ofNat m), .inr (.inr (.inl (some 271)))]) (h' := h) (by with_unfolding_all rfl) ?_
    refine kc_call_rule (M2 := wk_m255) (av := [.inr (.inr (.inl (some 259))), .inl (Int32.ofNat m)]) (r := [.inl (Int32.ofNat m), .inr (.inr (.inl (some 271)))]) rfl rfl (kc_Con_le (fa_r255 (d := 0) hg hBB1 hw hC hi hI1 hA m3) (by omega)) (fun rv h2 hq => ?_)
    obtain ⟨rfl, e9⟩ := hq
    rw [e9]
    clear e9
    rw [eu]
    show kc_Ev g (d + 9) wk_m253 _ 148 [(5, .inl (Int32.ofNat m)), (4, .inl (kp_b (fa_fr B A m))), (3, .inl (Int32.ofNat km)), (2, .inl (kp_b wt)), (0, .inr (.inr (.inl (some 259)))), (1, .inl (Int32.ofNat e))] [.inl (Int32.ofNat (fa_un B A m)), .inl (Int32.ofNat m), .inr (.inr (.inl (some 271)))] h
    refine kx_go 2 (pc' := 151) (L' := [(5, .inl (Int32.ofNat m)), (4, .inl (kp_b (fa_fr B A m))), (3, .inl (Int32.ofNat km)), (2, .inl (kp_b wt)), (0, .inr (.inr (.inl (some 259)))), (1, .inl (Int32.ofNat e))]) (S' := [.inl (Int32.ofNat m), .inr (.inr (.inl (some 259))), .inl (Int32.ofNat (fa_un B A m)), .inl (Int32.ofNat m), .inr (.inr (.inl (some 271)))]) (h' := h) (by with_unfolding_all rfl) ?_
    refine kc_call_rule (M2 := wk_m256) (av := [.inr (.inr (.inl (some 259))), .inl (Int32.ofNat m)]) (r := [.inl (Int32.ofNat (fa_un B A m)), .inl (Int32.ofNat m), .inr (.inr (.inl (some 271)))]) rfl rfl (kc_Con_le (fa_r256 (d := 0) hg hw hC hB m3) (by omega)) (fun rv h2 hq => ?_)
    obtain ⟨rfl, e9⟩ := hq
    rw [e9]
    clear e9
    show kc_Ev g (d + 9) wk_m253 _ 154 [(5, .inl (Int32.ofNat m)), (4, .inl (kp_b (fa_fr B A m))), (3, .inl (Int32.ofNat km)), (2, .inl (kp_b wt)), (0, .inr (.inr (.inl (some 259)))), (1, .inl (Int32.ofNat e))] [.inl (Int32.ofNat (fa_n B (60 + 5 * m + 1))), .inl (Int32.ofNat (fa_un B A m)), .inl (Int32.ofNat m), .inr (.inr (.inl (some 271)))] h
    refine kx_go 1 (pc' := (if kc_cnd .le (Int32.ofNat (fa_un B A m)).toInt (Int32.ofNat (fa_n B (60 + 5 * m + 1))).toInt then 169 else 157)) (L' := [(5, .inl (Int32.ofNat m)), (4, .inl (kp_b (fa_fr B A m))), (3, .inl (Int32.ofNat km)), (2, .inl (kp_b wt)), (0, .inr (.inr (.inl (some 259)))), (1, .inl (Int32.ofNat e))]) (S' := [.inl (Int32.ofNat m), .inr (.inr (.inl (some 271)))]) (h' := h) (by with_unfolding_all rfl) ?_
    have tail : kc_Ev g (d + 9) wk_m253 Q 171 [(5, .inl (Int32.ofNat m)), (4, .inl (kp_b (fa_fr B A m))), (3, .inl (Int32.ofNat km)), (2, .inl (kp_b wt)), (0, .inr (.inr (.inl (some 259)))), (1, .inl (Int32.ofNat e))] [] (kc_upd h 271 m (.inl (Int32.ofNat (fa_so B A m)))) := by
      have so : fa_so B A m ≤ A (70 + m) + 1 := by unfold fa_so; split <;> omega
      have H2 := fa_so_r (m := m) (v := fa_so B A m) m3 hL h31 hH1
      have e7 : (kc_upd h 271 m (.inl (Int32.ofNat (fa_so B A m)))) 271 m = .inl (Int32.ofNat (fa_so B A m)) := fu_eq
      generalize (kc_upd h 271 m (.inl (Int32.ofNat (fa_so B A m)))) = h2 at H2 e7 ⊢
      have hw2 := H2.1
      have hC2 := fa_hr H2.2.2 hC0
      have join : kc_Ev g (d + 9) wk_m253 Q 205 [(5, .inl (Int32.ofNat m)), (4, .inl (kp_b (fa_fr B A m))), (3, .inl (Int32.ofNat km)), (2, .inl (kp_b wt)), (0, .inr (.inr (.inl (some 259)))), (1, .inl (Int32.ofNat e))] [.inl (kp_b (fa_fr B A (m + 1)))] h2 := by
        refine kx_go 3 (pc' := 125) (L' := [(5, .inl ((Int32.ofNat m) + Int32.ofInt 1)), (4, .inl (kp_b (fa_fr B A (m + 1)))), (3, .inl (Int32.ofNat km)), (2, .inl (kp_b wt)), (0, .inr (.inr (.inl (some 259)))), (1, .inl (Int32.ofNat e))]) (S' := []) (h' := h2) (by with_unfolding_all rfl) ?_
        rw [kx_inc]
        refine kf_lo (L := [(5, .inl (Int32.ofNat (m + 1))), (4, .inl (kp_b (fa_fr B A (m + 1)))), (3, .inl (Int32.ofNat km)), (2, .inl (kp_b wt)), (0, .inr (.inr (.inl (some 259)))), (1, .inl (Int32.ofNat e))]) (by intro q hq; simp only [List.mem_cons, List.not_mem_nil, or_false] at hq; rcases hq with rfl | rfl | rfl | rfl | rfl | rfl <;> rfl) ?_
        exact ih (m + 1) h2 (by omega) (by omega) H2
      have uf : fa_fr B A (m + 1) = (fa_fr B A m || decide (fa_n B (60 + 5 * m + 2) < fa_so B A m)) := rfl
      refine kx_go 2 (pc' := (if kc_cnd .ne (kp_b (fa_fr B A m)).toInt 0 then 200 else 176)) (L' := [(5, .inl (Int32.ofNat m)), (4, .inl (kp_b (fa_fr B A m))), (3, .inl (Int32.ofNat km)), (2, .inl (kp_b wt)), (0, .inr (.inr (.inl (some 259)))), (1, .inl (Int32.ofNat e))]) (S' := []) (h' := h2) (by with_unfolding_all rfl) ?_
      cases ef : fa_fr B A m with
      | true =>
        rw [ef] at join uf
        rw [show fa_fr B A (m + 1) = true from by rw [uf]; rfl] at join
        rw [if_pos fa_b1t]
        refine kx_go 2 (pc' := 205) (L' := [(5, .inl (Int32.ofNat m)), (4, .inl (kp_b true)), (3, .inl (Int32.ofNat km)), (2, .inl (kp_b wt)), (0, .inr (.inr (.inl (some 259)))), (1, .inl (Int32.ofNat e))]) (S' := [.inl (Int32.ofNat 1)]) (h' := h2) (by with_unfolding_all rfl) ?_
        exact join
      | false =>
        rw [ef] at join uf
        rw [if_neg fa_b1f]
        refine kx_go 1 (pc' := 177) (L' := [(5, .inl (Int32.ofNat m)), (4, .inl (kp_b false)), (3, .inl (Int32.ofNat km)), (2, .inl (kp_b wt)), (0, .inr (.inr (.inl (some 259)))), (1, .inl (Int32.ofNat e))]) (S' := [.inr (.inr (.inl (some 259)))]) (h' := h2) (by with_unfolding_all rfl) ?_
        refine kx_getf (c := 259) (v := .inr (.inr (.inl (some 271)))) rfl (by decide) (kx_ofr (hw2 _ _ _ fa_kr.2.2.2.2.2)) ?_
        refine kx_go 1 (pc' := 182) (L' := [(5, .inl (Int32.ofNat m)), (4, .inl (kp_b false)), (3, .inl (Int32.ofNat km)), (2, .inl (kp_b wt)), (0, .inr (.inr (.inl (some 259)))), (1, .inl (Int32.ofNat e))]) (S' := [.inl (Int32.ofNat m), .inr (.inr (.inl (some 271)))]) (h' := h2) (by with_unfolding_all rfl) ?_
        refine kx_iald (c := 271) (j := m) (m := 3) (v := .inl (Int32.ofNat (fa_so B A m))) rfl rfl (by decide) (by decide) (by omega) e7 ?_
        refine kx_go 1 (pc' := 184) (L' := [(5, .inl (Int32.ofNat m)), (4, .inl (kp_b false)), (3, .inl (Int32.ofNat km)), (2, .inl (kp_b wt)), (0, .inr (.inr (.inl (some 259)))), (1, .inl (Int32.ofNat e))]) (S' := [.inr (.inr (.inl (some 259))), .inl (Int32.ofNat (fa_so B A m))]) (h' := h2) (by with_unfolding_all rfl) ?_
        refine kx_getf (c := 259) (v := .inr (.inr (.inl (some 260)))) rfl (by decide) (kx_ofr (hw2 _ _ _ kz_k.1)) ?_
        refine kx_go 7 (pc' := 196) (L' := [(5, .inl (Int32.ofNat m)), (4, .inl (kp_b false)), (3, .inl (Int32.ofNat km)), (2, .inl (kp_b wt)), (0, .inr (.inr (.inl (some 259)))), (1, .inl (Int32.ofNat e))]) (S' := [.inl (((Int32.ofNat 60) + ((Int32.ofNat 5) * (Int32.ofNat m))) + (Int32.ofNat 2)), .inr (.inr (.inl (some 260))), .inl (Int32.ofNat (fa_so B A m))]) (h' := h2) (by with_unfolding_all rfl) ?_
        rw [kx_mul, kx_add, kx_add]
        refine kx_iald (c := 260) (j := 60 + 5 * m + 2) (m := 650) (v := .inl (Int32.ofNat (fa_n B (60 + 5 * m + 2)))) rfl rfl (by decide) (by decide) (by omega) ((hC2 (60 + 5 * m + 2) (by omega) ((fu_fmu m m3).1 2 (by decide)).2).trans (by rw [← (fa_nm (e := 2) hB m3 (by decide) (by decide) (fa_tm m m3).2.2.1).1])) ?_
        refine kx_go 1 (pc' := (if kc_cnd .le (Int32.ofNat (fa_so B A m)).toInt (Int32.ofNat (fa_n B (60 + 5 * m + 2))).toInt then 204 else 200)) (L' := [(5, .inl (Int32.ofNat m)), (4, .inl (kp_b false)), (3, .inl (Int32.ofNat km)), (2, .inl (kp_b wt)), (0, .inr (.inr (.inl (some 259)))), (1, .inl (Int32.ofNat e))]) (S' := []) (h' := h2) (by with_unfolding_all rfl) ?_
        by_cases c9 : fa_so B A m ≤ fa_n B (60 + 5 * m + 2)
        · rw [if_pos ((kx_le (by omega) (by omega)).mpr c9)]
          rw [show fa_fr B A (m + 1) = false from by rw [uf, decide_eq_false (by omega)]; rfl] at join
          refine kx_go 1 (pc' := 205) (L' := [(5, .inl (Int32.ofNat m)), (4, .inl (kp_b false)), (3, .inl (Int32.ofNat km)), (2, .inl (kp_b wt)), (0, .inr (.inr (.inl (some 259)))), (1, .inl (Int32.ofNat e))]) (S' := [.inl (Int32.ofNat 0)]) (h' := h2) (by with_unfolding_all rfl) ?_
          exact join
        · rw [if_neg (mt (kx_le (by omega) (by omega)).mp c9)]
          rw [show fa_fr B A (m + 1) = true from by rw [uf, decide_eq_true (by omega)]; rfl] at join
          refine kx_go 2 (pc' := 205) (L' := [(5, .inl (Int32.ofNat m)), (4, .inl (kp_b false)), (3, .inl (Int32.ofNat km)), (2, .inl (kp_b wt)), (0, .inr (.inr (.inl (some 259)))), (1, .inl (Int32.ofNat e))]) (S' := [.inl (Int32.ofNat 1)]) (h' := h2) (by with_unfolding_all rfl) ?_
          exact join
    by_cases c1 : fa_un B A m ≤ fa_n B (60 + 5 * m + 1)
    · rw [if_pos ((kx_le (by omega) (by omega)).mpr c1)]
      have es : fa_so B A m = 0 := if_neg (by omega)
      rw [es] at tail
      refine kx_go 1 (pc' := 170) (L' := [(5, .inl (Int32.ofNat m)), (4, .inl (kp_b (fa_fr B A m))), (3, .inl (Int32.ofNat km)), (2, .inl (kp_b wt)), (0, .inr (.inr (.inl (some 259)))), (1, .inl (Int32.ofNat e))]) (S' := [.inl (Int32.ofNat 0), .inl (Int32.ofNat m), .inr (.inr (.inl (some 271)))]) (h' := h) (by with_unfolding_all rfl) ?_
      refine kx_iast (c := 271) (j := m) (m := 3) rfl rfl (by decide) (by decide) (by omega) ?_
      exact tail
    · rw [if_neg (mt (kx_le (by omega) (by omega)).mp c1)]
      have es : fa_so B A m = A (70 + m) + 1 := if_pos (by omega)
      rw [es] at tail
      refine kx_go 1 (pc' := 158) (L' := [(5, .inl (Int32.ofNat m)), (4, .inl (kp_b (fa_fr B A m))), (3, .inl (Int32.ofNat km)), (2, .inl (kp_b wt)), (0, .inr (.inr (.inl (some 259)))), (1, .inl (Int32.ofNat e))]) (S' := [.inr (.inr (.inl (some 259))), .inl (Int32.ofNat m), .inr (.inr (.inl (some 271)))]) (h' := h) (by with_unfolding_all rfl) ?_
      refine kx_getf (c := 259) (v := .inr (.inr (.inl (some 271)))) rfl (by decide) (kx_ofr (hw _ _ _ fa_kr.2.2.2.2.2)) ?_
      refine kx_go 1 (pc' := 163) (L' := [(5, .inl (Int32.ofNat m)), (4, .inl (kp_b (fa_fr B A m))), (3, .inl (Int32.ofNat km)), (2, .inl (kp_b wt)), (0, .inr (.inr (.inl (some 259)))), (1, .inl (Int32.ofNat e))]) (S' := [.inl (Int32.ofNat m), .inr (.inr (.inl (some 271))), .inl (Int32.ofNat m), .inr (.inr (.inl (some 271)))]) (h' := h) (by with_unfolding_all rfl) ?_
      refine kx_iald (c := 271) (j := m) (m := 3) (v := .inl (Int32.ofNat (A (70 + m)))) rfl rfl (by decide) (by decide) (by omega) ((hA.2.2.2.2.2.2 m m3).trans (by rw [er])) ?_
      refine kx_go 3 (pc' := 170) (L' := [(5, .inl (Int32.ofNat m)), (4, .inl (kp_b (fa_fr B A m))), (3, .inl (Int32.ofNat km)), (2, .inl (kp_b wt)), (0, .inr (.inr (.inl (some 259)))), (1, .inl (Int32.ofNat e))]) (S' := [.inl ((Int32.ofNat (A (70 + m))) + (Int32.ofNat 1)), .inl (Int32.ofNat m), .inr (.inr (.inl (some 271)))]) (h' := h) (by with_unfolding_all rfl) ?_
      rw [kx_add]
      refine kx_iast (c := 271) (j := m) (m := 3) rfl rfl (by decide) (by decide) (by omega) ?_
      exact tail
set_option maxRecDepth 20000 in
theorem fa_r253l {g : kc_G} {d : Nat} {h0 : kc_H} {B : Nat → Int32} {D M L i e P : Nat} {wt : Bool} (hg : kc_ok g) (hBB : fa_BB B D M L) (hC0 : fu_B B h0) (hi : i ≤ 60) (he : e < 6) (hP : P < 6) : ∀ (r : Nat) (A : Nat → Nat) (h : kc_H) (k : Nat), k + r = fa_n B (10 + 6 * P + e) → A 4 = P → fa_I B A L i → A 2 + r ≤ 99 * i → (∀ m, m < 3 → A (70 + m) + r ≤ 99 * i) → A 5 + 1 ≤ 60 → fa_Hr h0 A L h → kc_Ev g (d + 9) wk_m253 (fun rv h' => rv = some (.inl (Int32.ofNat (fa_fin e (fa_mi B M r A)).1)) ∧ fa_Hr h0 ((fa_fin e (fa_mi B M r A)).2) L h') 96 [(3, .inl (Int32.ofNat k)), (2, .inl (kp_b wt)), (0, .inr (.inr (.inl (some 259)))), (1, .inl (Int32.ofNat e))] [] h := by
  have hBB1 := hBB
  obtain ⟨hB, ⟨eD, hD⟩, ⟨eM, hM⟩, eL, hL⟩ := hBB1
  have ng := (fa_ng hB hP he).2
  intro r
  induction r with
  | zero =>
    intro A h k hk hA4 hI hJ hS h5 hH
    have h3 := hI.2.2.2.2.2.2.1
    have hH1 := hH
    obtain ⟨hw, hA, hF⟩ := hH
    have hC := fa_hr hF hC0
    have e4 : h 259 20 = .inl (Int32.ofNat P) := hA.1.2.2.2.2.1.trans (by rw [hA4])
    refine kx_go 3 (pc' := 99) (L' := [(3, .inl (Int32.ofNat k)), (2, .inl (kp_b wt)), (0, .inr (.inr (.inl (some 259)))), (1, .inl (Int32.ofNat e))]) (S' := [.inr (.inr (.inl (some 259))), .inr (.inr (.inl (some 259))), .inl (Int32.ofNat k)]) (h' := h) (by with_unfolding_all rfl) ?_
    refine kx_getf (c := 259) (v := .inl (Int32.ofNat P)) rfl (by decide) e4 ?_
    refine kx_go 1 (pc' := 103) (L' := [(3, .inl (Int32.ofNat k)), (2, .inl (kp_b wt)), (0, .inr (.inr (.inl (some 259)))), (1, .inl (Int32.ofNat e))]) (S' := [.inl (Int32.ofNat e), .inl (Int32.ofNat P), .inr (.inr (.inl (some 259))), .inl (Int32.ofNat k)]) (h' := h) (by with_unfolding_all rfl) ?_
    refine kc_call_rule (M2 := wk_m254) (av := [.inr (.inr (.inl (some 259))), .inl (Int32.ofNat P), .inl (Int32.ofNat e)]) (r := [.inl (Int32.ofNat k)]) rfl rfl (kc_Con_le (fa_r254 (d := 0) hg hw hC hB hP he) (by omega)) (fun rv h2 hq => ?_)
    obtain ⟨rfl, e9⟩ := hq
    rw [e9]
    clear e9
    show kc_Ev g (d + 9) wk_m253 _ 106 [(3, .inl (Int32.ofNat k)), (2, .inl (kp_b wt)), (0, .inr (.inr (.inl (some 259)))), (1, .inl (Int32.ofNat e))] [.inl (Int32.ofNat (fa_n B (10 + 6 * P + e))), .inl (Int32.ofNat k)] h
    refine kx_go 1 (pc' := (if kc_cnd .ge (Int32.ofNat k).toInt (Int32.ofNat (fa_n B (10 + 6 * P + e))).toInt then 227 else 109)) (L' := [(3, .inl (Int32.ofNat k)), (2, .inl (kp_b wt)), (0, .inr (.inr (.inl (some 259)))), (1, .inl (Int32.ofNat e))]) (S' := []) (h' := h) (by with_unfolding_all rfl) ?_
    rw [if_pos ((kx_ge (by omega) (by omega)).mpr (show fa_n B (10 + 6 * P + e) ≤ k by omega))]
    refine kx_go 2 (pc' := 229) (L' := [(3, .inl (Int32.ofNat k)), (2, .inl (kp_b wt)), (0, .inr (.inr (.inl (some 259)))), (1, .inl (Int32.ofNat e))]) (S' := [.inl (Int32.ofNat e), .inr (.inr (.inl (some 259)))]) (h' := h) (by with_unfolding_all rfl) ?_
    refine kx_go 1 (pc' := 232) (L' := [(3, .inl (Int32.ofNat k)), (2, .inl (kp_b wt)), (0, .inr (.inr (.inl (some 259)))), (1, .inl (Int32.ofNat e))]) (S' := []) (h' := (kc_upd h 259 20 (.inl (Int32.ofNat e)))) (by with_unfolding_all rfl) ?_
    have H2 := fa_n4_r (v := e) (by omega) hL h3 hH1
    have e9 : (kc_upd h 259 20 (.inl (Int32.ofNat e))) 259 21 = .inl (Int32.ofNat (A 5)) := (fu_ne (fun q => by omega)).trans hA.1.2.2.2.2.2
    generalize (kc_upd h 259 20 (.inl (Int32.ofNat e))) = h2 at H2 e9 ⊢
    refine kx_go 2 (pc' := 234) (L' := [(3, .inl (Int32.ofNat k)), (2, .inl (kp_b wt)), (0, .inr (.inr (.inl (some 259)))), (1, .inl (Int32.ofNat e))]) (S' := [.inr (.inr (.inl (some 259))), .inr (.inr (.inl (some 259)))]) (h' := h2) (by with_unfolding_all rfl) ?_
    refine kx_getf (c := 259) (v := .inl (Int32.ofNat (A 5))) rfl (by decide) e9 ?_
    refine kx_go 2 (pc' := 239) (L' := [(3, .inl (Int32.ofNat k)), (2, .inl (kp_b wt)), (0, .inr (.inr (.inl (some 259)))), (1, .inl (Int32.ofNat e))]) (S' := [.inl ((Int32.ofNat (A 5)) + (Int32.ofNat 1)), .inr (.inr (.inl (some 259)))]) (h' := h2) (by with_unfolding_all rfl) ?_
    rw [kx_add]
    refine kx_go 1 (pc' := 242) (L' := [(3, .inl (Int32.ofNat k)), (2, .inl (kp_b wt)), (0, .inr (.inr (.inl (some 259)))), (1, .inl (Int32.ofNat e))]) (S' := []) (h' := (kc_upd h2 259 21 (.inl (Int32.ofNat (A 5 + 1))))) (by with_unfolding_all rfl) ?_
    have H3 := fa_n5_r (v := A 5 + 1) hL (fun t ht => by rw [fa_sn (by omega)]; exact h3 t ht) H2
    generalize (kc_upd h2 259 21 (.inl (Int32.ofNat (A 5 + 1)))) = h4 at H3 ⊢
    refine kx_go 1 (pc' := 243) (L' := [(3, .inl (Int32.ofNat k)), (2, .inl (kp_b wt)), (0, .inr (.inr (.inl (some 259)))), (1, .inl (Int32.ofNat e))]) (S' := [.inl (Int32.ofNat 0)]) (h' := h4) (by with_unfolding_all rfl) ?_
    exact kc_ret_ok rfl (rv := some (.inl (Int32.ofNat 0))) rfl ⟨rfl, H3⟩
  | succ r ih =>
    intro A h k hk hA4 hI hJ hS h5 hH
    have h3 := hI.2.2.2.2.2.2.1
    have hH1 := hH
    obtain ⟨hw, hA, hF⟩ := hH
    have hC := fa_hr hF hC0
    have e4 : h 259 20 = .inl (Int32.ofNat P) := hA.1.2.2.2.2.1.trans (by rw [hA4])
    refine kx_go 3 (pc' := 99) (L' := [(3, .inl (Int32.ofNat k)), (2, .inl (kp_b wt)), (0, .inr (.inr (.inl (some 259)))), (1, .inl (Int32.ofNat e))]) (S' := [.inr (.inr (.inl (some 259))), .inr (.inr (.inl (some 259))), .inl (Int32.ofNat k)]) (h' := h) (by with_unfolding_all rfl) ?_
    refine kx_getf (c := 259) (v := .inl (Int32.ofNat P)) rfl (by decide) e4 ?_
    refine kx_go 1 (pc' := 103) (L' := [(3, .inl (Int32.ofNat k)), (2, .inl (kp_b wt)), (0, .inr (.inr (.inl (some 259)))), (1, .inl (Int32.ofNat e))]) (S' := [.inl (Int32.ofNat e), .inl (Int32.ofNat P), .inr (.inr (.inl (some 259))), .inl (Int32.ofNat k)]) (h' := h) (by with_unfolding_all rfl) ?_
    refine kc_call_rule (M2 := wk_m254) (av := [.inr (.inr (.inl (some 259))), .inl (Int32.ofNat P), .inl (Int32.ofNat e)]) (r := [.inl (Int32.ofNat k)]) rfl rfl (kc_Con_le (fa_r254 (d := 0) hg hw hC hB hP he) (by omega)) (fun rv h2 hq => ?_)
    obtain ⟨rfl, e9⟩ := hq
    rw [e9]
    clear e9
    show kc_Ev g (d + 9) wk_m253 _ 106 [(3, .inl (Int32.ofNat k)), (2, .inl (kp_b wt)), (0, .inr (.inr (.inl (some 259)))), (1, .inl (Int32.ofNat e))] [.inl (Int32.ofNat (fa_n B (10 + 6 * P + e))), .inl (Int32.ofNat k)] h
    refine kx_go 1 (pc' := (if kc_cnd .ge (Int32.ofNat k).toInt (Int32.ofNat (fa_n B (10 + 6 * P + e))).toInt then 227 else 109)) (L' := [(3, .inl (Int32.ofNat k)), (2, .inl (kp_b wt)), (0, .inr (.inr (.inl (some 259)))), (1, .inl (Int32.ofNat e))]) (S' := []) (h' := h) (by with_unfolding_all rfl) ?_
    rw [if_neg (mt (kx_ge (by omega) (by omega)).mp (show ¬ fa_n B (10 + 6 * P + e) ≤ k by omega))]
    refine kx_go 2 (pc' := 111) (L' := [(3, .inl (Int32.ofNat k)), (2, .inl (kp_b wt)), (0, .inr (.inr (.inl (some 259)))), (1, .inl (Int32.ofNat e))]) (S' := [.inr (.inr (.inl (some 259))), .inr (.inr (.inl (some 259)))]) (h' := h) (by with_unfolding_all rfl) ?_
    refine kx_getf (c := 259) (v := .inl (Int32.ofNat (A 2))) rfl (by decide) hA.1.2.2.1 ?_
    refine kx_go 2 (pc' := 116) (L' := [(3, .inl (Int32.ofNat k)), (2, .inl (kp_b wt)), (0, .inr (.inr (.inl (some 259)))), (1, .inl (Int32.ofNat e))]) (S' := [.inl ((Int32.ofNat (A 2)) + (Int32.ofNat 1)), .inr (.inr (.inl (some 259)))]) (h' := h) (by with_unfolding_all rfl) ?_
    rw [kx_add]
    refine kx_go 1 (pc' := 119) (L' := [(3, .inl (Int32.ofNat k)), (2, .inl (kp_b wt)), (0, .inr (.inr (.inl (some 259)))), (1, .inl (Int32.ofNat e))]) (S' := []) (h' := (kc_upd h 259 22 (.inl (Int32.ofNat (A 2 + 1))))) (by with_unfolding_all rfl) ?_
    have H2 := fa_n2_r (v := A 2 + 1) hL h3 hH1
    generalize (kc_upd h 259 22 (.inl (Int32.ofNat (A 2 + 1)))) = h2 at H2 ⊢
    have hI2 := fa_I_n2 (v := A 2 + 1) hL hI (by omega)
    have s2 : ∀ m, m < 3 → fa_s A 2 (A 2 + 1) (70 + m) + 1 ≤ 99 * i := fun m hm => by have := hS m hm; rw [fa_sn (by omega)]; omega
    refine kx_go 4 (pc' := 125) (L' := [(5, .inl (Int32.ofNat 0)), (4, .inl (Int32.ofNat 0)), (3, .inl (Int32.ofNat k)), (2, .inl (kp_b wt)), (0, .inr (.inr (.inl (some 259)))), (1, .inl (Int32.ofNat e))]) (S' := []) (h' := h2) (by with_unfolding_all rfl) ?_
    refine kf_lo (L := [(5, .inl (Int32.ofNat 0)), (4, .inl (kp_b (fa_fr B (fa_s A 2 (A 2 + 1)) 0))), (3, .inl (Int32.ofNat k)), (2, .inl (kp_b wt)), (0, .inr (.inr (.inl (some 259)))), (1, .inl (Int32.ofNat e))]) (by intro q hq; simp only [List.mem_cons, List.not_mem_nil, or_false] at hq; rcases hq with rfl | rfl | rfl | rfl | rfl | rfl <;> rfl) ?_
    refine fa_r253m hg hBB hC0 hi hI2 s2 (fun h3 H3 => ?_) M 0 h2 (by omega) (Nat.zero_le _) H2
    have um : fa_mi B M (r + 1) A = if fa_fr B (fa_s A 2 (A 2 + 1)) M = true then (6, fa_sr B (fa_s A 2 (A 2 + 1)) M) else fa_mi B M r (fa_sr B (fa_s A 2 (A 2 + 1)) M) := rfl
    rw [um]
    refine kx_go 2 (pc' := (if kc_cnd .eq (kp_b (fa_fr B (fa_s A 2 (A 2 + 1)) M)).toInt 0 then 221 else 218)) (L' := [(5, .inl (Int32.ofNat M)), (4, .inl (kp_b (fa_fr B (fa_s A 2 (A 2 + 1)) M))), (3, .inl (Int32.ofNat k)), (2, .inl (kp_b wt)), (0, .inr (.inr (.inl (some 259)))), (1, .inl (Int32.ofNat e))]) (S' := []) (h' := h3) (by with_unfolding_all rfl) ?_
    cases e8 : fa_fr B (fa_s A 2 (A 2 + 1)) M with
    | true =>
      rw [if_neg fa_b0t, if_pos (show true = true from rfl)]
      refine kx_go 1 (pc' := 220) (L' := [(5, .inl (Int32.ofNat M)), (4, .inl (kp_b true)), (3, .inl (Int32.ofNat k)), (2, .inl (kp_b wt)), (0, .inr (.inr (.inl (some 259)))), (1, .inl (Int32.ofNat e))]) (S' := [.inl (Int32.ofNat 6)]) (h' := h3) (by with_unfolding_all rfl) ?_
      exact kc_ret_ok rfl (rv := some (.inl (Int32.ofNat 6))) rfl ⟨rfl, H3⟩
    | false =>
      rw [if_pos fa_b0f, if_neg (show ¬ (false = true) from Bool.false_ne_true)]
      refine kx_go 2 (pc' := 96) (L' := [(3, .inl ((Int32.ofNat k) + Int32.ofInt 1)), (5, .inl (Int32.ofNat M)), (4, .inl (kp_b false)), (2, .inl (kp_b wt)), (0, .inr (.inr (.inl (some 259)))), (1, .inl (Int32.ofNat e))]) (S' := []) (h' := h3) (by with_unfolding_all rfl) ?_
      rw [kx_inc]
      refine kf_lo (L := [(3, .inl (Int32.ofNat (k + 1))), (2, .inl (kp_b wt)), (0, .inr (.inr (.inl (some 259)))), (1, .inl (Int32.ofNat e))]) (by intro q hq; simp only [List.mem_cons, List.not_mem_nil, or_false] at hq; rcases hq with rfl | rfl | rfl | rfl <;> rfl) ?_
      exact ih _ _ (k + 1) (by omega) (by rw [fa_sr_o (by omega), fa_sn (by omega)]; exact hA4) (fa_I_sr hL hI2 s2 hM) (by rw [fa_sr_o (by omega), fa_se]; omega) (fun m hm => by have := fa_sr_b (B := B) (A := fa_s A 2 (A 2 + 1)) (X := 99 * i - r) (fun j hj => by have := hS j hj; rw [fa_sn (by omega)]; omega) M hM m hm; have := hS m hm; omega) (by rw [fa_sr_o (by omega), fa_sn (by omega)]; exact h5) H3
set_option maxRecDepth 20000 in
theorem fa_r253 {g : kc_G} {d : Nat} {h0 h : kc_H} {B : Nat → Int32} {A : Nat → Nat} {D M L i : Nat} {e : Nat} (hg : kc_ok g) (hBB : fa_BB B D M L) (hC0 : fu_B B h0) (hi : i ≤ 60) (hI : fa_I B A L i) (hJ : A 2 + 99 ≤ 99 * i) (hS : ∀ m, m < 3 → A (70 + m) + 99 ≤ 99 * i) (h5 : A 5 + 1 ≤ 60) (hH : fa_Hr h0 A L h) (he : e < 1000) : kc_Con g (d + 10) 253 [.inr (.inr (.inl (some 259))), .inl (Int32.ofNat e)] h (fun rv h' => rv = some (.inl (Int32.ofNat (fa_go B A D M e).1)) ∧ fa_Hr h0 ((fa_go B A D M e).2) L h') := by
  have hBB1 := hBB
  obtain ⟨hB, ⟨eD, hD⟩, ⟨eM, hM⟩, eL, hL⟩ := hBB1
  have h3 := hI.2.2.2.2.2.2.1
  have hH1 := hH
  obtain ⟨hw, hA, hF⟩ := hH
  have hC := fa_hr hF hC0
  have a4 := hI.2.2.2.1
  have z1 : (B 1).toInt - 1 = (M : Int) - 1 := by rw [eM, kx_ti (by omega)]
  have z2 : (B 2).toInt - 1 = (L : Int) - 1 := by rw [eL, kx_ti (by omega)]
  have z0 : (B 0).toInt = ((D + 1 : Nat) : Int) - 1 := by rw [eD, kx_ti (by omega)]; omega
  unfold fa_go
  refine kc_Con_new hg (M := wk_m253) rfl rfl rfl (show 2 ≤ 6 by decide) ?_
  refine kx_go 2 (pc' := 2) (L' := [(0, .inr (.inr (.inl (some 259)))), (1, .inl (Int32.ofNat e))]) (S' := [.inl (Int32.ofNat e), .inr (.inr (.inl (some 259)))]) (h' := h) (by with_unfolding_all rfl) ?_
  refine kc_call_rule (M2 := wk_m21) (av := [.inr (.inr (.inl (some 259))), .inl (Int32.ofNat e)]) (r := []) rfl rfl (kc_Con_le (fu_r21 (d := 0) hg hw hC) (by omega)) (fun rv h2 hq => ?_)
  obtain ⟨rfl, e9⟩ := hq
  rw [e9]
  clear e9
  rw [fa_inb he z0]
  show kc_Ev g (d + 9) wk_m253 _ 5 [(0, .inr (.inr (.inl (some 259)))), (1, .inl (Int32.ofNat e))] [.inl (kp_b (decide (e < D + 1)))] h
  refine kx_go 1 (pc' := (if kc_cnd .eq (kp_b (decide (e < D + 1))).toInt 0 then 16 else 8)) (L' := [(0, .inr (.inr (.inl (some 259)))), (1, .inl (Int32.ofNat e))]) (S' := []) (h' := h) (by with_unfolding_all rfl) ?_
  by_cases c1 : e < D + 1
  · rw [decide_eq_true c1, if_neg fa_b0t, if_pos c1]
    refine kx_go 2 (pc' := 10) (L' := [(0, .inr (.inr (.inl (some 259)))), (1, .inl (Int32.ofNat e))]) (S' := [.inr (.inr (.inl (some 259))), .inl (Int32.ofNat e)]) (h' := h) (by with_unfolding_all rfl) ?_
    refine kx_getf (c := 259) (v := .inl (Int32.ofNat (A 4))) rfl (by decide) hA.1.2.2.2.2.1 ?_
    refine kx_go 1 (pc' := (if kc_cnd .ne (Int32.ofNat e).toInt (Int32.ofNat (A 4)).toInt then 18 else 16)) (L' := [(0, .inr (.inr (.inl (some 259)))), (1, .inl (Int32.ofNat e))]) (S' := []) (h' := h) (by with_unfolding_all rfl) ?_
    by_cases c2 : e = A 4
    · rw [if_neg (mt (kx_ne (by omega) (by omega)).mp (not_not_intro c2)), if_pos c2]
      refine kx_go 1 (pc' := 17) (L' := [(0, .inr (.inr (.inl (some 259)))), (1, .inl (Int32.ofNat e))]) (S' := [.inl (Int32.ofNat 1)]) (h' := h) (by with_unfolding_all rfl) ?_
      exact kc_ret_ok rfl (rv := some (.inl (Int32.ofNat 1))) rfl ⟨rfl, hH1⟩
    · rw [if_pos ((kx_ne (by omega) (by omega)).mpr c2), if_neg c2]
      have nf := (fa_nf hB (show e < 6 by omega)).2
      refine kx_go 4 (pc' := 22) (L' := [(3, .inl (Int32.ofNat 0)), (2, .inl (Int32.ofNat 0)), (0, .inr (.inr (.inl (some 259)))), (1, .inl (Int32.ofNat e))]) (S' := []) (h' := h) (by with_unfolding_all rfl) ?_
      refine kf_lo (L := [(3, .inl (Int32.ofNat 0)), (2, .inl (kp_b (fa_wt B A 0))), (0, .inr (.inr (.inl (some 259)))), (1, .inl (Int32.ofNat e))]) (by intro q hq; simp only [List.mem_cons, List.not_mem_nil, or_false] at hq; rcases hq with rfl | rfl | rfl | rfl <;> rfl) ?_
      refine fa_r253w hg hBB hw hC hi hI hA ?_ (2 * M) 0 (by omega) (Nat.zero_le _)
      have far : ∀ w, kc_Ev g (d + 9) wk_m253 (fun rv h' => rv = some (.inl (Int32.ofNat (fa_fin e (fa_mi B M (fa_n B (10 + 6 * A 4 + e)) A)).1)) ∧ fa_Hr h0 ((fa_fin e (fa_mi B M (fa_n B (10 + 6 * A 4 + e)) A)).2) L h') 94 [(3, .inl (Int32.ofNat (2 * M))), (2, .inl (kp_b w)), (0, .inr (.inr (.inl (some 259)))), (1, .inl (Int32.ofNat e))] [] h := by
        intro w
        refine kx_go 2 (pc' := 96) (L' := [(3, .inl (Int32.ofNat 0)), (2, .inl (kp_b w)), (0, .inr (.inr (.inl (some 259)))), (1, .inl (Int32.ofNat e))]) (S' := []) (h' := h) (by with_unfolding_all rfl) ?_
        refine kf_lo (L := [(3, .inl (Int32.ofNat 0)), (2, .inl (kp_b w)), (0, .inr (.inr (.inl (some 259)))), (1, .inl (Int32.ofNat e))]) (by intro q hq; simp only [List.mem_cons, List.not_mem_nil, or_false] at hq; rcases hq with rfl | rfl | rfl | rfl <;> rfl) ?_
        exact fa_r253l hg hBB hC0 hi (by omega) a4 _ A h 0 (Nat.zero_add _) rfl hI (by have := (fa_ng hB a4 (show e < 6 by omega)).2; omega) (fun m hm => by have := hS m hm; have := (fa_ng hB a4 (show e < 6 by omega)).2; omega) h5 hH1
      refine kx_go 2 (pc' := (if kc_cnd .eq (kp_b (fa_wt B A (2 * M))).toInt 0 then 94 else 78)) (L' := [(3, .inl (Int32.ofNat (2 * M))), (2, .inl (kp_b (fa_wt B A (2 * M)))), (0, .inr (.inr (.inl (some 259)))), (1, .inl (Int32.ofNat e))]) (S' := []) (h' := h) (by with_unfolding_all rfl) ?_
      cases e4 : fa_wt B A (2 * M) with
      | false =>
        rw [if_pos fa_b0f, if_neg (fun q : fa_n B (46 + e) = 1 ∧ false = true => by cases q.2)]
        exact far false
      | true =>
        rw [if_neg fa_b0t]
        refine kx_go 1 (pc' := 79) (L' := [(3, .inl (Int32.ofNat (2 * M))), (2, .inl (kp_b true)), (0, .inr (.inr (.inl (some 259)))), (1, .inl (Int32.ofNat e))]) (S' := [.inr (.inr (.inl (some 259)))]) (h' := h) (by with_unfolding_all rfl) ?_
        refine kx_getf (c := 259) (v := .inr (.inr (.inl (some 260)))) rfl (by decide) (kx_ofr (hw _ _ _ kz_k.1)) ?_
        refine kx_go 3 (pc' := 86) (L' := [(3, .inl (Int32.ofNat (2 * M))), (2, .inl (kp_b true)), (0, .inr (.inr (.inl (some 259)))), (1, .inl (Int32.ofNat e))]) (S' := [.inl ((Int32.ofNat 46) + (Int32.ofNat e)), .inr (.inr (.inl (some 260)))]) (h' := h) (by with_unfolding_all rfl) ?_
        rw [kx_add]
        refine kx_iald (c := 260) (j := 46 + e) (m := 650) (v := .inl (Int32.ofNat (fa_n B (46 + e)))) rfl rfl (by decide) (by decide) (by omega) ((hC (46 + e) (by omega) (fu_ffo e (by omega)).2.1).trans (by rw [← (fa_nf hB (show e < 6 by omega)).1])) ?_
        refine kx_go 2 (pc' := (if kc_cnd .ne (Int32.ofNat (fa_n B (46 + e))).toInt (Int32.ofNat 1).toInt then 94 else 91)) (L' := [(3, .inl (Int32.ofNat (2 * M))), (2, .inl (kp_b true)), (0, .inr (.inr (.inl (some 259)))), (1, .inl (Int32.ofNat e))]) (S' := []) (h' := h) (by with_unfolding_all rfl) ?_
        by_cases c3 : fa_n B (46 + e) = 1
        · rw [if_neg (mt (kx_ne (by omega) (by omega)).mp (not_not_intro c3)), if_pos ⟨c3, rfl⟩]
          refine kx_go 1 (pc' := 93) (L' := [(3, .inl (Int32.ofNat (2 * M))), (2, .inl (kp_b true)), (0, .inr (.inr (.inl (some 259)))), (1, .inl (Int32.ofNat e))]) (S' := [.inl (Int32.ofNat 7)]) (h' := h) (by with_unfolding_all rfl) ?_
          exact kc_ret_ok rfl (rv := some (.inl (Int32.ofNat 7))) rfl ⟨rfl, hH1⟩
        · rw [if_pos ((kx_ne (by omega) (by omega)).mpr c3), if_neg (fun q : fa_n B (46 + e) = 1 ∧ true = true => c3 q.1)]
          exact far true
  · rw [decide_eq_false c1, if_pos fa_b0f, if_neg c1]
    refine kx_go 1 (pc' := 17) (L' := [(0, .inr (.inr (.inl (some 259)))), (1, .inl (Int32.ofNat e))]) (S' := [.inl (Int32.ofNat 1)]) (h' := h) (by with_unfolding_all rfl) ?_
    exact kc_ret_ok rfl (rv := some (.inl (Int32.ofNat 1))) rfl ⟨rfl, hH1⟩
end
section
-- 99.zpv
/-! ===== the acts: one act, by its verb ===== -/
def fa_act (B : Nat → Int32) (A : Nat → Nat) (D M L v : Nat) (x : Nat → Nat) : Nat × (Nat → Nat) := if v = 9 then fa_hang B A L M (x 0) (x 1) (x 2) else if v = 10 then fa_take A M (x 0) (x 1) else if v = 11 then fa_move B A M (x 0) (x 1) (x 0) (1 - x 1) else if v = 12 then fa_move B A M (x 0) (x 1) (x 2) (x 3) else if v = 13 then fa_add B A M (x 0) (x 1) else if v = 14 then fa_drop A M (x 0) (x 1) else fa_go B A D M (x 0)
theorem fa_mv1 {B : Nat → Int32} {A : Nat → Nat} {M m s k t : Nat} (h : ¬ (m < M ∧ s < 2)) : fa_move B A M m s k t = (1, A) := if_neg h
theorem fa_kv : kd_rn (kd_ty 259) 11 = some (3, 264, 264) ∧ kd_rn (kd_ty 259) 12 = some (3, 265, 265) := ⟨by decide +kernel, by decide +kernel⟩
set_option maxRecDepth 20000 in
theorem fa_c183_9 {g : kc_G} {d : Nat} {h0 h : kc_H} {B : Nat → Int32} {A : Nat → Nat} {D M L i : Nat} {j : Nat} {x : Nat → Nat} (hg : kc_ok g) (hBB : fa_BB B D M L) (hC0 : fu_C B 1 h0) (hi : i ≤ 60) (hI : fa_I B A L i) (hJ : A 2 + 99 ≤ 99 * i) (hS : ∀ m, m < 3 → A (70 + m) + 99 ≤ 99 * i) (h5 : A 5 + 1 ≤ 60) (hMx : fa_M B A M) (hH : fa_Hc h0 A L h) (hW : fa_W B A L h) (hj : j < 60) (en : ∀ k, k < 4 → h (130 + j) k = .inl (Int32.ofNat (x k)) ∧ x k < 1000) : kc_Con g (d + 11) 183 [.inr (.inr (.inl (some 190))), .inl (Int32.ofNat 9), .inr (.inr (.inl (some (130 + j))))] h (fun rv h' => rv = some (.inl (Int32.ofNat (fa_hang B A L M (x 0) (x 1) (x 2)).1)) ∧ fa_Hc h0 ((fa_hang B A L M (x 0) (x 1) (x 2)).2) L h' ∧ fa_W B ((fa_hang B A L M (x 0) (x 1) (x 2)).2) L h') := by
  refine kc_Con_new hg (M := wk_m183) rfl rfl rfl (show 3 ≤ 3 by decide) ?_
  refine kx_go 2 (pc' := 40) (L' := [(0, .inr (.inr (.inl (some 190)))), (1, .inl (Int32.ofNat 9)), (2, .inr (.inr (.inl (some (130 + j)))))]) (S' := []) (h' := h) (by with_unfolding_all rfl) ?_
  refine kx_go 3 (pc' := 43) (L' := [(0, .inr (.inr (.inl (some 190)))), (1, .inl (Int32.ofNat 9)), (2, .inr (.inr (.inl (some (130 + j)))))]) (S' := [.inl (Int32.ofNat 0), .inr (.inr (.inl (some (130 + j)))), .inr (.inr (.inl (some 190)))]) (h' := h) (by with_unfolding_all rfl) ?_
  refine kx_iald (c := 130 + j) (j := 0) (m := 4) (v := .inl (Int32.ofNat (x 0))) rfl (kr_rows j hj).1 (kr_rows j hj).2 (by decide) (by omega) (en 0 (by decide)).1 ?_
  refine kx_go 2 (pc' := 46) (L' := [(0, .inr (.inr (.inl (some 190)))), (1, .inl (Int32.ofNat 9)), (2, .inr (.inr (.inl (some (130 + j)))))]) (S' := [.inl (Int32.ofNat 1), .inr (.inr (.inl (some (130 + j)))), .inl (Int32.ofNat (x 0)), .inr (.inr (.inl (some 190)))]) (h' := h) (by with_unfolding_all rfl) ?_
  refine kx_iald (c := 130 + j) (j := 1) (m := 4) (v := .inl (Int32.ofNat (x 1))) rfl (kr_rows j hj).1 (kr_rows j hj).2 (by decide) (by omega) (en 1 (by decide)).1 ?_
  refine kx_go 2 (pc' := 49) (L' := [(0, .inr (.inr (.inl (some 190)))), (1, .inl (Int32.ofNat 9)), (2, .inr (.inr (.inl (some (130 + j)))))]) (S' := [.inl (Int32.ofNat 2), .inr (.inr (.inl (some (130 + j)))), .inl (Int32.ofNat (x 1)), .inl (Int32.ofNat (x 0)), .inr (.inr (.inl (some 190)))]) (h' := h) (by with_unfolding_all rfl) ?_
  refine kx_iald (c := 130 + j) (j := 2) (m := 4) (v := .inl (Int32.ofNat (x 2))) rfl (kr_rows j hj).1 (kr_rows j hj).2 (by decide) (by omega) (en 2 (by decide)).1 ?_
  refine kc_call_rule (M2 := wk_m184) (av := [.inr (.inr (.inl (some 190))), .inl (Int32.ofNat (x 0)), .inl (Int32.ofNat (x 1)), .inl (Int32.ofNat (x 2))]) (r := []) rfl rfl (kc_Con_le (fa_c184 (d := 0) hg hBB hC0 hi hI hMx hH hW (en 0 (by decide)).2 (en 1 (by decide)).2 (en 2 (by decide)).2) (by omega)) (fun rv h2 hq => ?_)
  obtain ⟨rfl, H2⟩ := hq
  show kc_Ev g (d + 10) wk_m183 _ 53 [(0, .inr (.inr (.inl (some 190)))), (1, .inl (Int32.ofNat 9)), (2, .inr (.inr (.inl (some (130 + j)))))] [.inl (Int32.ofNat (fa_hang B A L M (x 0) (x 1) (x 2)).1)] h2
  exact kc_ret_ok rfl (rv := some (.inl (Int32.ofNat (fa_hang B A L M (x 0) (x 1) (x 2)).1))) rfl ⟨rfl, H2⟩
set_option maxRecDepth 20000 in
theorem fa_c183_10 {g : kc_G} {d : Nat} {h0 h : kc_H} {B : Nat → Int32} {A : Nat → Nat} {D M L i : Nat} {j : Nat} {x : Nat → Nat} (hg : kc_ok g) (hBB : fa_BB B D M L) (hC0 : fu_C B 1 h0) (hi : i ≤ 60) (hI : fa_I B A L i) (hJ : A 2 + 99 ≤ 99 * i) (hS : ∀ m, m < 3 → A (70 + m) + 99 ≤ 99 * i) (h5 : A 5 + 1 ≤ 60) (hMx : fa_M B A M) (hH : fa_Hc h0 A L h) (hW : fa_W B A L h) (hj : j < 60) (en : ∀ k, k < 4 → h (130 + j) k = .inl (Int32.ofNat (x k)) ∧ x k < 1000) : kc_Con g (d + 11) 183 [.inr (.inr (.inl (some 190))), .inl (Int32.ofNat 10), .inr (.inr (.inl (some (130 + j))))] h (fun rv h' => rv = some (.inl (Int32.ofNat (fa_take A M (x 0) (x 1)).1)) ∧ fa_Hc h0 ((fa_take A M (x 0) (x 1)).2) L h' ∧ fa_W B ((fa_take A M (x 0) (x 1)).2) L h') := by
  refine kc_Con_new hg (M := wk_m183) rfl rfl rfl (show 3 ≤ 3 by decide) ?_
  refine kx_go 2 (pc' := 54) (L' := [(0, .inr (.inr (.inl (some 190)))), (1, .inl (Int32.ofNat 10)), (2, .inr (.inr (.inl (some (130 + j)))))]) (S' := []) (h' := h) (by with_unfolding_all rfl) ?_
  refine kx_go 3 (pc' := 57) (L' := [(0, .inr (.inr (.inl (some 190)))), (1, .inl (Int32.ofNat 10)), (2, .inr (.inr (.inl (some (130 + j)))))]) (S' := [.inl (Int32.ofNat 0), .inr (.inr (.inl (some (130 + j)))), .inr (.inr (.inl (some 190)))]) (h' := h) (by with_unfolding_all rfl) ?_
  refine kx_iald (c := 130 + j) (j := 0) (m := 4) (v := .inl (Int32.ofNat (x 0))) rfl (kr_rows j hj).1 (kr_rows j hj).2 (by decide) (by omega) (en 0 (by decide)).1 ?_
  refine kx_go 2 (pc' := 60) (L' := [(0, .inr (.inr (.inl (some 190)))), (1, .inl (Int32.ofNat 10)), (2, .inr (.inr (.inl (some (130 + j)))))]) (S' := [.inl (Int32.ofNat 1), .inr (.inr (.inl (some (130 + j)))), .inl (Int32.ofNat (x 0)), .inr (.inr (.inl (some 190)))]) (h' := h) (by with_unfolding_all rfl) ?_
  refine kx_iald (c := 130 + j) (j := 1) (m := 4) (v := .inl (Int32.ofNat (x 1))) rfl (kr_rows j hj).1 (kr_rows j hj).2 (by decide) (by omega) (en 1 (by decide)).1 ?_
  refine kc_call_rule (M2 := wk_m191) (av := [.inr (.inr (.inl (some 190))), .inl (Int32.ofNat (x 0)), .inl (Int32.ofNat (x 1))]) (r := []) rfl rfl (kc_Con_le (fa_c191 (d := 0) hg hBB hC0 hi hI hMx hH hW (en 0 (by decide)).2 (en 1 (by decide)).2) (by omega)) (fun rv h2 hq => ?_)
  obtain ⟨rfl, H2⟩ := hq
  show kc_Ev g (d + 10) wk_m183 _ 64 [(0, .inr (.inr (.inl (some 190)))), (1, .inl (Int32.ofNat 10)), (2, .inr (.inr (.inl (some (130 + j)))))] [.inl (Int32.ofNat (fa_take A M (x 0) (x 1)).1)] h2
  exact kc_ret_ok rfl (rv := some (.inl (Int32.ofNat (fa_take A M (x 0) (x 1)).1))) rfl ⟨rfl, H2⟩
set_option maxRecDepth 20000 in
theorem fa_c183_11 {g : kc_G} {d : Nat} {h0 h : kc_H} {B : Nat → Int32} {A : Nat → Nat} {D M L i : Nat} {j : Nat} {x : Nat → Nat} (hg : kc_ok g) (hBB : fa_BB B D M L) (hC0 : fu_C B 1 h0) (hi : i ≤ 60) (hI : fa_I B A L i) (hJ : A 2 + 99 ≤ 99 * i) (hS : ∀ m, m < 3 → A (70 + m) + 99 ≤ 99 * i) (h5 : A 5 + 1 ≤ 60) (hMx : fa_M B A M) (hH : fa_Hc h0 A L h) (hW : fa_W B A L h) (hj : j < 60) (en : ∀ k, k < 4 → h (130 + j) k = .inl (Int32.ofNat (x k)) ∧ x k < 1000) : kc_Con g (d + 11) 183 [.inr (.inr (.inl (some 190))), .inl (Int32.ofNat 11), .inr (.inr (.inl (some (130 + j))))] h (fun rv h' => rv = some (.inl (Int32.ofNat (fa_move B A M (x 0) (x 1) (x 0) (1 - x 1)).1)) ∧ fa_Hc h0 ((fa_move B A M (x 0) (x 1) (x 0) (1 - x 1)).2) L h' ∧ fa_W B ((fa_move B A M (x 0) (x 1) (x 0) (1 - x 1)).2) L h') := by
  refine kc_Con_new hg (M := wk_m183) rfl rfl rfl (show 3 ≤ 3 by decide) ?_
  refine kx_go 2 (pc' := 65) (L' := [(0, .inr (.inr (.inl (some 190)))), (1, .inl (Int32.ofNat 11)), (2, .inr (.inr (.inl (some (130 + j)))))]) (S' := []) (h' := h) (by with_unfolding_all rfl) ?_
  refine kx_go 3 (pc' := 68) (L' := [(0, .inr (.inr (.inl (some 190)))), (1, .inl (Int32.ofNat 11)), (2, .inr (.inr (.inl (some (130 + j)))))]) (S' := [.inl (Int32.ofNat 0), .inr (.inr (.inl (some (130 + j)))), .inr (.inr (.inl (some 190)))]) (h' := h) (by with_unfolding_all rfl) ?_
  refine kx_iald (c := 130 + j) (j := 0) (m := 4) (v := .inl (Int32.ofNat (x 0))) rfl (kr_rows j hj).1 (kr_rows j hj).2 (by decide) (by omega) (en 0 (by decide)).1 ?_
  refine kx_go 2 (pc' := 71) (L' := [(0, .inr (.inr (.inl (some 190)))), (1, .inl (Int32.ofNat 11)), (2, .inr (.inr (.inl (some (130 + j)))))]) (S' := [.inl (Int32.ofNat 1), .inr (.inr (.inl (some (130 + j)))), .inl (Int32.ofNat (x 0)), .inr (.inr (.inl (some 190)))]) (h' := h) (by with_unfolding_all rfl) ?_
  refine kx_iald (c := 130 + j) (j := 1) (m := 4) (v := .inl (Int32.ofNat (x 1))) rfl (kr_rows j hj).1 (kr_rows j hj).2 (by decide) (by omega) (en 1 (by decide)).1 ?_
  refine kx_go 2 (pc' := 74) (L' := [(0, .inr (.inr (.inl (some 190)))), (1, .inl (Int32.ofNat 11)), (2, .inr (.inr (.inl (some (130 + j)))))]) (S' := [.inl (Int32.ofNat 0), .inr (.inr (.inl (some (130 + j)))), .inl (Int32.ofNat (x 1)), .inl (Int32.ofNat (x 0)), .inr (.inr (.inl (some 190)))]) (h' := h) (by with_unfolding_all rfl) ?_
  refine kx_iald (c := 130 + j) (j := 0) (m := 4) (v := .inl (Int32.ofNat (x 0))) rfl (kr_rows j hj).1 (kr_rows j hj).2 (by decide) (by omega) (en 0 (by decide)).1 ?_
  refine kx_go 3 (pc' := 78) (L' := [(0, .inr (.inr (.inl (some 190)))), (1, .inl (Int32.ofNat 11)), (2, .inr (.inr (.inl (some (130 + j)))))]) (S' := [.inl (Int32.ofNat 1), .inr (.inr (.inl (some (130 + j)))), .inl (Int32.ofNat 1), .inl (Int32.ofNat (x 0)), .inl (Int32.ofNat (x 1)), .inl (Int32.ofNat (x 0)), .inr (.inr (.inl (some 190)))]) (h' := h) (by with_unfolding_all rfl) ?_
  refine kx_iald (c := 130 + j) (j := 1) (m := 4) (v := .inl (Int32.ofNat (x 1))) rfl (kr_rows j hj).1 (kr_rows j hj).2 (by decide) (by omega) (en 1 (by decide)).1 ?_
  refine kx_go 1 (pc' := 80) (L' := [(0, .inr (.inr (.inl (some 190)))), (1, .inl (Int32.ofNat 11)), (2, .inr (.inr (.inl (some (130 + j)))))]) (S' := [.inl ((Int32.ofNat 1) - (Int32.ofNat (x 1))), .inl (Int32.ofNat (x 0)), .inl (Int32.ofNat (x 1)), .inl (Int32.ofNat (x 0)), .inr (.inr (.inl (some 190)))]) (h' := h) (by with_unfolding_all rfl) ?_
  by_cases c2 : x 0 < M ∧ x 1 < 2
  · have z : (Int32.ofNat 1) - (Int32.ofNat (x 1)) = Int32.ofNat (1 - x 1) := kx_sub (by omega)
    rw [z]
    refine kc_call_rule (M2 := wk_m192) (av := [.inr (.inr (.inl (some 190))), .inl (Int32.ofNat (x 0)), .inl (Int32.ofNat (x 1)), .inl (Int32.ofNat (x 0)), .inl (Int32.ofNat (1 - x 1))]) (r := []) rfl rfl (kc_Con_le (fa_c192 (d := 0) hg hBB hC0 hi hI hMx hH hW (en 0 (by decide)).2 (en 1 (by decide)).2 (en 0 (by decide)).2 (show 1 - x 1 < 1000 by omega)) (by omega)) (fun rv h2 hq => ?_)
    obtain ⟨rfl, H2⟩ := hq
    show kc_Ev g (d + 10) wk_m183 _ 83 [(0, .inr (.inr (.inl (some 190)))), (1, .inl (Int32.ofNat 11)), (2, .inr (.inr (.inl (some (130 + j)))))] [.inl (Int32.ofNat (fa_move B A M (x 0) (x 1) (x 0) (1 - x 1)).1)] h2
    exact kc_ret_ok rfl (rv := some (.inl (Int32.ofNat (fa_move B A M (x 0) (x 1) (x 0) (1 - x 1)).1))) rfl ⟨rfl, H2⟩
  · rw [fa_mv1 c2]
    refine kc_call_rule (M2 := wk_m192) (av := [.inr (.inr (.inl (some 190))), .inl (Int32.ofNat (x 0)), .inl (Int32.ofNat (x 1)), .inl (Int32.ofNat (x 0)), .inl ((Int32.ofNat 1) - (Int32.ofNat (x 1)))]) (r := []) rfl rfl (kc_Con_le (fa_c192n (d := 0) (z := (Int32.ofNat 1) - (Int32.ofNat (x 1))) hg hBB hC0 hi hI hMx hH hW (en 0 (by decide)).2 (en 1 (by decide)).2 c2) (by omega)) (fun rv h2 hq => ?_)
    obtain ⟨rfl, H2⟩ := hq
    show kc_Ev g (d + 10) wk_m183 _ 83 [(0, .inr (.inr (.inl (some 190)))), (1, .inl (Int32.ofNat 11)), (2, .inr (.inr (.inl (some (130 + j)))))] [.inl (Int32.ofNat 1)] h2
    exact kc_ret_ok rfl (rv := some (.inl (Int32.ofNat 1))) rfl ⟨rfl, H2⟩
set_option maxRecDepth 20000 in
theorem fa_c183_12 {g : kc_G} {d : Nat} {h0 h : kc_H} {B : Nat → Int32} {A : Nat → Nat} {D M L i : Nat} {j : Nat} {x : Nat → Nat} (hg : kc_ok g) (hBB : fa_BB B D M L) (hC0 : fu_C B 1 h0) (hi : i ≤ 60) (hI : fa_I B A L i) (hJ : A 2 + 99 ≤ 99 * i) (hS : ∀ m, m < 3 → A (70 + m) + 99 ≤ 99 * i) (h5 : A 5 + 1 ≤ 60) (hMx : fa_M B A M) (hH : fa_Hc h0 A L h) (hW : fa_W B A L h) (hj : j < 60) (en : ∀ k, k < 4 → h (130 + j) k = .inl (Int32.ofNat (x k)) ∧ x k < 1000) : kc_Con g (d + 11) 183 [.inr (.inr (.inl (some 190))), .inl (Int32.ofNat 12), .inr (.inr (.inl (some (130 + j))))] h (fun rv h' => rv = some (.inl (Int32.ofNat (fa_move B A M (x 0) (x 1) (x 2) (x 3)).1)) ∧ fa_Hc h0 ((fa_move B A M (x 0) (x 1) (x 2) (x 3)).2) L h' ∧ fa_W B ((fa_move B A M (x 0) (x 1) (x 2) (x 3)).2) L h') := by
  refine kc_Con_new hg (M := wk_m183) rfl rfl rfl (show 3 ≤ 3 by decide) ?_
  refine kx_go 2 (pc' := 84) (L' := [(0, .inr (.inr (.inl (some 190)))), (1, .inl (Int32.ofNat 12)), (2, .inr (.inr (.inl (some (130 + j)))))]) (S' := []) (h' := h) (by with_unfolding_all rfl) ?_
  refine kx_go 3 (pc' := 87) (L' := [(0, .inr (.inr (.inl (some 190)))), (1, .inl (Int32.ofNat 12)), (2, .inr (.inr (.inl (some (130 + j)))))]) (S' := [.inl (Int32.ofNat 0), .inr (.inr (.inl (some (130 + j)))), .inr (.inr (.inl (some 190)))]) (h' := h) (by with_unfolding_all rfl) ?_
  refine kx_iald (c := 130 + j) (j := 0) (m := 4) (v := .inl (Int32.ofNat (x 0))) rfl (kr_rows j hj).1 (kr_rows j hj).2 (by decide) (by omega) (en 0 (by decide)).1 ?_
  refine kx_go 2 (pc' := 90) (L' := [(0, .inr (.inr (.inl (some 190)))), (1, .inl (Int32.ofNat 12)), (2, .inr (.inr (.inl (some (130 + j)))))]) (S' := [.inl (Int32.ofNat 1), .inr (.inr (.inl (some (130 + j)))), .inl (Int32.ofNat (x 0)), .inr (.inr (.inl (some 190)))]) (h' := h) (by with_unfolding_all rfl) ?_
  refine kx_iald (c := 130 + j) (j := 1) (m := 4) (v := .inl (Int32.ofNat (x 1))) rfl (kr_rows j hj).1 (kr_rows j hj).2 (by decide) (by omega) (en 1 (by decide)).1 ?_
  refine kx_go 2 (pc' := 93) (L' := [(0, .inr (.inr (.inl (some 190)))), (1, .inl (Int32.ofNat 12)), (2, .inr (.inr (.inl (some (130 + j)))))]) (S' := [.inl (Int32.ofNat 2), .inr (.inr (.inl (some (130 + j)))), .inl (Int32.ofNat (x 1)), .inl (Int32.ofNat (x 0)), .inr (.inr (.inl (some 190)))]) (h' := h) (by with_unfolding_all rfl) ?_
  refine kx_iald (c := 130 + j) (j := 2) (m := 4) (v := .inl (Int32.ofNat (x 2))) rfl (kr_rows j hj).1 (kr_rows j hj).2 (by decide) (by omega) (en 2 (by decide)).1 ?_
  refine kx_go 2 (pc' := 96) (L' := [(0, .inr (.inr (.inl (some 190)))), (1, .inl (Int32.ofNat 12)), (2, .inr (.inr (.inl (some (130 + j)))))]) (S' := [.inl (Int32.ofNat 3), .inr (.inr (.inl (some (130 + j)))), .inl (Int32.ofNat (x 2)), .inl (Int32.ofNat (x 1)), .inl (Int32.ofNat (x 0)), .inr (.inr (.inl (some 190)))]) (h' := h) (by with_unfolding_all rfl) ?_
  refine kx_iald (c := 130 + j) (j := 3) (m := 4) (v := .inl (Int32.ofNat (x 3))) rfl (kr_rows j hj).1 (kr_rows j hj).2 (by decide) (by omega) (en 3 (by decide)).1 ?_
  refine kc_call_rule (M2 := wk_m192) (av := [.inr (.inr (.inl (some 190))), .inl (Int32.ofNat (x 0)), .inl (Int32.ofNat (x 1)), .inl (Int32.ofNat (x 2)), .inl (Int32.ofNat (x 3))]) (r := []) rfl rfl (kc_Con_le (fa_c192 (d := 0) hg hBB hC0 hi hI hMx hH hW (en 0 (by decide)).2 (en 1 (by decide)).2 (en 2 (by decide)).2 (en 3 (by decide)).2) (by omega)) (fun rv h2 hq => ?_)
  obtain ⟨rfl, H2⟩ := hq
  show kc_Ev g (d + 10) wk_m183 _ 100 [(0, .inr (.inr (.inl (some 190)))), (1, .inl (Int32.ofNat 12)), (2, .inr (.inr (.inl (some (130 + j)))))] [.inl (Int32.ofNat (fa_move B A M (x 0) (x 1) (x 2) (x 3)).1)] h2
  exact kc_ret_ok rfl (rv := some (.inl (Int32.ofNat (fa_move B A M (x 0) (x 1) (x 2) (x 3)).1))) rfl ⟨rfl, H2⟩
set_option maxRecDepth 20000 in
theorem fa_c183_13 {g : kc_G} {d : Nat} {h0 h : kc_H} {B : Nat → Int32} {A : Nat → Nat} {D M L i : Nat} {j : Nat} {x : Nat → Nat} (hg : kc_ok g) (hBB : fa_BB B D M L) (hC0 : fu_C B 1 h0) (hi : i ≤ 60) (hI : fa_I B A L i) (hJ : A 2 + 99 ≤ 99 * i) (hS : ∀ m, m < 3 → A (70 + m) + 99 ≤ 99 * i) (h5 : A 5 + 1 ≤ 60) (hMx : fa_M B A M) (hH : fa_Hc h0 A L h) (hW : fa_W B A L h) (hj : j < 60) (en : ∀ k, k < 4 → h (130 + j) k = .inl (Int32.ofNat (x k)) ∧ x k < 1000) : kc_Con g (d + 11) 183 [.inr (.inr (.inl (some 190))), .inl (Int32.ofNat 13), .inr (.inr (.inl (some (130 + j))))] h (fun rv h' => rv = some (.inl (Int32.ofNat (fa_add B A M (x 0) (x 1)).1)) ∧ fa_Hc h0 ((fa_add B A M (x 0) (x 1)).2) L h' ∧ fa_W B ((fa_add B A M (x 0) (x 1)).2) L h') := by
  refine kc_Con_new hg (M := wk_m183) rfl rfl rfl (show 3 ≤ 3 by decide) ?_
  refine kx_go 2 (pc' := 101) (L' := [(0, .inr (.inr (.inl (some 190)))), (1, .inl (Int32.ofNat 13)), (2, .inr (.inr (.inl (some (130 + j)))))]) (S' := []) (h' := h) (by with_unfolding_all rfl) ?_
  refine kx_go 3 (pc' := 104) (L' := [(0, .inr (.inr (.inl (some 190)))), (1, .inl (Int32.ofNat 13)), (2, .inr (.inr (.inl (some (130 + j)))))]) (S' := [.inl (Int32.ofNat 0), .inr (.inr (.inl (some (130 + j)))), .inr (.inr (.inl (some 190)))]) (h' := h) (by with_unfolding_all rfl) ?_
  refine kx_iald (c := 130 + j) (j := 0) (m := 4) (v := .inl (Int32.ofNat (x 0))) rfl (kr_rows j hj).1 (kr_rows j hj).2 (by decide) (by omega) (en 0 (by decide)).1 ?_
  refine kx_go 2 (pc' := 107) (L' := [(0, .inr (.inr (.inl (some 190)))), (1, .inl (Int32.ofNat 13)), (2, .inr (.inr (.inl (some (130 + j)))))]) (S' := [.inl (Int32.ofNat 1), .inr (.inr (.inl (some (130 + j)))), .inl (Int32.ofNat (x 0)), .inr (.inr (.inl (some 190)))]) (h' := h) (by with_unfolding_all rfl) ?_
  refine kx_iald (c := 130 + j) (j := 1) (m := 4) (v := .inl (Int32.ofNat (x 1))) rfl (kr_rows j hj).1 (kr_rows j hj).2 (by decide) (by omega) (en 1 (by decide)).1 ?_
  refine kc_call_rule (M2 := wk_m193) (av := [.inr (.inr (.inl (some 190))), .inl (Int32.ofNat (x 0)), .inl (Int32.ofNat (x 1))]) (r := []) rfl rfl (kc_Con_le (fa_c193 (d := 0) hg hBB hC0 hi hI hMx hH hW (en 0 (by decide)).2 (en 1 (by decide)).2) (by omega)) (fun rv h2 hq => ?_)
  obtain ⟨rfl, H2⟩ := hq
  show kc_Ev g (d + 10) wk_m183 _ 111 [(0, .inr (.inr (.inl (some 190)))), (1, .inl (Int32.ofNat 13)), (2, .inr (.inr (.inl (some (130 + j)))))] [.inl (Int32.ofNat (fa_add B A M (x 0) (x 1)).1)] h2
  exact kc_ret_ok rfl (rv := some (.inl (Int32.ofNat (fa_add B A M (x 0) (x 1)).1))) rfl ⟨rfl, H2⟩
set_option maxRecDepth 20000 in
theorem fa_c183_14 {g : kc_G} {d : Nat} {h0 h : kc_H} {B : Nat → Int32} {A : Nat → Nat} {D M L i : Nat} {j : Nat} {x : Nat → Nat} (hg : kc_ok g) (hBB : fa_BB B D M L) (hC0 : fu_C B 1 h0) (hi : i ≤ 60) (hI : fa_I B A L i) (hJ : A 2 + 99 ≤ 99 * i) (hS : ∀ m, m < 3 → A (70 + m) + 99 ≤ 99 * i) (h5 : A 5 + 1 ≤ 60) (hMx : fa_M B A M) (hH : fa_Hc h0 A L h) (hW : fa_W B A L h) (hj : j < 60) (en : ∀ k, k < 4 → h (130 + j) k = .inl (Int32.ofNat (x k)) ∧ x k < 1000) : kc_Con g (d + 11) 183 [.inr (.inr (.inl (some 190))), .inl (Int32.ofNat 14), .inr (.inr (.inl (some (130 + j))))] h (fun rv h' => rv = some (.inl (Int32.ofNat (fa_drop A M (x 0) (x 1)).1)) ∧ fa_Hc h0 ((fa_drop A M (x 0) (x 1)).2) L h' ∧ fa_W B ((fa_drop A M (x 0) (x 1)).2) L h') := by
  refine kc_Con_new hg (M := wk_m183) rfl rfl rfl (show 3 ≤ 3 by decide) ?_
  refine kx_go 2 (pc' := 112) (L' := [(0, .inr (.inr (.inl (some 190)))), (1, .inl (Int32.ofNat 14)), (2, .inr (.inr (.inl (some (130 + j)))))]) (S' := []) (h' := h) (by with_unfolding_all rfl) ?_
  refine kx_go 3 (pc' := 115) (L' := [(0, .inr (.inr (.inl (some 190)))), (1, .inl (Int32.ofNat 14)), (2, .inr (.inr (.inl (some (130 + j)))))]) (S' := [.inl (Int32.ofNat 0), .inr (.inr (.inl (some (130 + j)))), .inr (.inr (.inl (some 190)))]) (h' := h) (by with_unfolding_all rfl) ?_
  refine kx_iald (c := 130 + j) (j := 0) (m := 4) (v := .inl (Int32.ofNat (x 0))) rfl (kr_rows j hj).1 (kr_rows j hj).2 (by decide) (by omega) (en 0 (by decide)).1 ?_
  refine kx_go 2 (pc' := 118) (L' := [(0, .inr (.inr (.inl (some 190)))), (1, .inl (Int32.ofNat 14)), (2, .inr (.inr (.inl (some (130 + j)))))]) (S' := [.inl (Int32.ofNat 1), .inr (.inr (.inl (some (130 + j)))), .inl (Int32.ofNat (x 0)), .inr (.inr (.inl (some 190)))]) (h' := h) (by with_unfolding_all rfl) ?_
  refine kx_iald (c := 130 + j) (j := 1) (m := 4) (v := .inl (Int32.ofNat (x 1))) rfl (kr_rows j hj).1 (kr_rows j hj).2 (by decide) (by omega) (en 1 (by decide)).1 ?_
  refine kc_call_rule (M2 := wk_m194) (av := [.inr (.inr (.inl (some 190))), .inl (Int32.ofNat (x 0)), .inl (Int32.ofNat (x 1))]) (r := []) rfl rfl (kc_Con_le (fa_c194 (d := 0) hg hBB hC0 hi hI hMx hH hW (en 0 (by decide)).2 (en 1 (by decide)).2) (by omega)) (fun rv h2 hq => ?_)
  obtain ⟨rfl, H2⟩ := hq
  show kc_Ev g (d + 10) wk_m183 _ 122 [(0, .inr (.inr (.inl (some 190)))), (1, .inl (Int32.ofNat 14)), (2, .inr (.inr (.inl (some (130 + j)))))] [.inl (Int32.ofNat (fa_drop A M (x 0) (x 1)).1)] h2
  exact kc_ret_ok rfl (rv := some (.inl (Int32.ofNat (fa_drop A M (x 0) (x 1)).1))) rfl ⟨rfl, H2⟩
set_option maxRecDepth 20000 in
theorem fa_c183_15 {g : kc_G} {d : Nat} {h0 h : kc_H} {B : Nat → Int32} {A : Nat → Nat} {D M L i : Nat} {j : Nat} {x : Nat → Nat} (hg : kc_ok g) (hBB : fa_BB B D M L) (hC0 : fu_C B 1 h0) (hi : i ≤ 60) (hI : fa_I B A L i) (hJ : A 2 + 99 ≤ 99 * i) (hS : ∀ m, m < 3 → A (70 + m) + 99 ≤ 99 * i) (h5 : A 5 + 1 ≤ 60) (hMx : fa_M B A M) (hH : fa_Hc h0 A L h) (hW : fa_W B A L h) (hj : j < 60) (en : ∀ k, k < 4 → h (130 + j) k = .inl (Int32.ofNat (x k)) ∧ x k < 1000) : kc_Con g (d + 11) 183 [.inr (.inr (.inl (some 190))), .inl (Int32.ofNat 15), .inr (.inr (.inl (some (130 + j))))] h (fun rv h' => rv = some (.inl (Int32.ofNat (fa_go B A D M (x 0)).1)) ∧ fa_Hc h0 ((fa_go B A D M (x 0)).2) L h' ∧ fa_W B ((fa_go B A D M (x 0)).2) L h') := by
  refine kc_Con_new hg (M := wk_m183) rfl rfl rfl (show 3 ≤ 3 by decide) ?_
  refine kx_go 2 (pc' := 123) (L' := [(0, .inr (.inr (.inl (some 190)))), (1, .inl (Int32.ofNat 15)), (2, .inr (.inr (.inl (some (130 + j)))))]) (S' := []) (h' := h) (by with_unfolding_all rfl) ?_
  refine kx_go 3 (pc' := 126) (L' := [(0, .inr (.inr (.inl (some 190)))), (1, .inl (Int32.ofNat 15)), (2, .inr (.inr (.inl (some (130 + j)))))]) (S' := [.inl (Int32.ofNat 0), .inr (.inr (.inl (some (130 + j)))), .inr (.inr (.inl (some 190)))]) (h' := h) (by with_unfolding_all rfl) ?_
  refine kx_iald (c := 130 + j) (j := 0) (m := 4) (v := .inl (Int32.ofNat (x 0))) rfl (kr_rows j hj).1 (kr_rows j hj).2 (by decide) (by omega) (en 0 (by decide)).1 ?_
  refine kc_call_rule (M2 := wk_m195) (av := [.inr (.inr (.inl (some 190))), .inl (Int32.ofNat (x 0))]) (r := []) rfl rfl (kc_Con_le (fa_c195 (d := 0) hg hBB hC0 hi hI hJ hS h5 hH hW (en 0 (by decide)).2) (by omega)) (fun rv h2 hq => ?_)
  obtain ⟨rfl, H2⟩ := hq
  show kc_Ev g (d + 10) wk_m183 _ 130 [(0, .inr (.inr (.inl (some 190)))), (1, .inl (Int32.ofNat 15)), (2, .inr (.inr (.inl (some (130 + j)))))] [.inl (Int32.ofNat (fa_go B A D M (x 0)).1)] h2
  exact kc_ret_ok rfl (rv := some (.inl (Int32.ofNat (fa_go B A D M (x 0)).1))) rfl ⟨rfl, H2⟩
set_option maxRecDepth 20000 in
theorem fa_c183 {g : kc_G} {d : Nat} {h0 h : kc_H} {B : Nat → Int32} {A : Nat → Nat} {D M L i : Nat} {j v : Nat} {x : Nat → Nat} (hg : kc_ok g) (hBB : fa_BB B D M L) (hC0 : fu_C B 1 h0) (hi : i ≤ 60) (hI : fa_I B A L i) (hJ : A 2 + 99 ≤ 99 * i) (hS : ∀ m, m < 3 → A (70 + m) + 99 ≤ 99 * i) (h5 : A 5 + 1 ≤ 60) (hMx : fa_M B A M) (hH : fa_Hc h0 A L h) (hW : fa_W B A L h) (hj : j < 60) (en : ∀ k, k < 4 → h (130 + j) k = .inl (Int32.ofNat (x k)) ∧ x k < 1000) (hv : 9 ≤ v) (hv2 : v < 16) : kc_Con g (d + 11) 183 [.inr (.inr (.inl (some 190))), .inl (Int32.ofNat v), .inr (.inr (.inl (some (130 + j))))] h (fun rv h' => rv = some (.inl (Int32.ofNat (fa_act B A D M L v x).1)) ∧ fa_Hc h0 ((fa_act B A D M L v x).2) L h' ∧ fa_W B ((fa_act B A D M L v x).2) L h') := by
  rcases (show v = 9 ∨ v = 10 ∨ v = 11 ∨ v = 12 ∨ v = 13 ∨ v = 14 ∨ v = 15 by omega) with rfl | rfl | rfl | rfl | rfl | rfl | rfl
  · exact fa_c183_9 hg hBB hC0 hi hI hJ hS h5 hMx hH hW hj en
  · exact fa_c183_10 hg hBB hC0 hi hI hJ hS h5 hMx hH hW hj en
  · exact fa_c183_11 hg hBB hC0 hi hI hJ hS h5 hMx hH hW hj en
  · exact fa_c183_12 hg hBB hC0 hi hI hJ hS h5 hMx hH hW hj en
  · exact fa_c183_13 hg hBB hC0 hi hI hJ hS h5 hMx hH hW hj en
  · exact fa_c183_14 hg hBB hC0 hi hI hJ hS h5 hMx hH hW hj en
  · exact fa_c183_15 hg hBB hC0 hi hI hJ hS h5 hMx hH hW hj en
set_option maxRecDepth 20000 in
theorem fa_r238_9 {g : kc_G} {d : Nat} {h0 h : kc_H} {B : Nat → Int32} {A : Nat → Nat} {D M L i : Nat} {j : Nat} {x : Nat → Nat} (hg : kc_ok g) (hBB : fa_BB B D M L) (hC0 : fu_B B h0) (hi : i ≤ 60) (hI : fa_I B A L i) (hJ : A 2 + 99 ≤ 99 * i) (hS : ∀ m, m < 3 → A (70 + m) + 99 ≤ 99 * i) (h5 : A 5 + 1 ≤ 60) (hH : fa_Hr h0 A L h) (hj : j < 60) (en : ∀ k, k < 4 → h 265 (5 * j + k) = .inl (Int32.ofNat (x k)) ∧ x k < 1000) (ev : h 264 j = .inl (Int32.ofNat 20)) : kc_Con g (d + 12) 238 [.inr (.inr (.inl (some 259))), .inl (Int32.ofNat j)] h (fun rv h' => rv = some (.inl (Int32.ofNat (fa_hang B A L M (x 0) (x 1) (x 2)).1)) ∧ fa_Hr h0 ((fa_hang B A L M (x 0) (x 1) (x 2)).2) L h') := by
  have hw := hH.1
  refine kc_Con_new hg (M := wk_m238) rfl rfl rfl (show 2 ≤ 4 by decide) ?_
  refine kx_go 3 (pc' := 3) (L' := [(0, .inr (.inr (.inl (some 259)))), (1, .inl (Int32.ofNat j))]) (S' := [.inl (Int32.ofNat 0), .inl (Int32.ofNat j), .inr (.inr (.inl (some 259)))]) (h' := h) (by with_unfolding_all rfl) ?_
  refine kc_call_rule (M2 := wk_m236) (av := [.inr (.inr (.inl (some 259))), .inl (Int32.ofNat j), .inl (Int32.ofNat 0)]) (r := []) rfl rfl (kc_Con_le (kv_num (d := 0) (i := j) (k := 0) hg hj (by decide) (kx_ofr (hw _ _ _ fa_kv.2)) (en 0 (by decide)).1) (by omega)) (fun rv h2 hq => ?_)
  obtain ⟨rfl, e9⟩ := hq
  rw [e9]
  clear e9
  show kc_Ev g (d + 11) wk_m238 _ 6 [(0, .inr (.inr (.inl (some 259)))), (1, .inl (Int32.ofNat j))] [.inl (Int32.ofNat (x 0))] h
  refine kx_go 4 (pc' := 10) (L' := [(2, .inl (Int32.ofNat (x 0))), (0, .inr (.inr (.inl (some 259)))), (1, .inl (Int32.ofNat j))]) (S' := [.inl (Int32.ofNat 1), .inl (Int32.ofNat j), .inr (.inr (.inl (some 259)))]) (h' := h) (by with_unfolding_all rfl) ?_
  refine kc_call_rule (M2 := wk_m236) (av := [.inr (.inr (.inl (some 259))), .inl (Int32.ofNat j), .inl (Int32.ofNat 1)]) (r := []) rfl rfl (kc_Con_le (kv_num (d := 0) (i := j) (k := 1) hg hj (by decide) (kx_ofr (hw _ _ _ fa_kv.2)) (en 1 (by decide)).1) (by omega)) (fun rv h2 hq => ?_)
  obtain ⟨rfl, e9⟩ := hq
  rw [e9]
  clear e9
  show kc_Ev g (d + 11) wk_m238 _ 13 [(2, .inl (Int32.ofNat (x 0))), (0, .inr (.inr (.inl (some 259)))), (1, .inl (Int32.ofNat j))] [.inl (Int32.ofNat (x 1))] h
  refine kx_go 2 (pc' := 15) (L' := [(3, .inl (Int32.ofNat (x 1))), (2, .inl (Int32.ofNat (x 0))), (0, .inr (.inr (.inl (some 259)))), (1, .inl (Int32.ofNat j))]) (S' := [.inr (.inr (.inl (some 259)))]) (h' := h) (by with_unfolding_all rfl) ?_
  refine kx_getf (c := 259) (v := .inr (.inr (.inl (some 264)))) rfl (by decide) (kx_ofr (hw _ _ _ fa_kv.1)) ?_
  refine kx_go 1 (pc' := 19) (L' := [(3, .inl (Int32.ofNat (x 1))), (2, .inl (Int32.ofNat (x 0))), (0, .inr (.inr (.inl (some 259)))), (1, .inl (Int32.ofNat j))]) (S' := [.inl (Int32.ofNat j), .inr (.inr (.inl (some 264)))]) (h' := h) (by with_unfolding_all rfl) ?_
  refine kx_iald (c := 264) (j := j) (m := 240) (v := .inl (Int32.ofNat 20)) rfl rfl (by decide) (by decide) (by omega) ev ?_
  refine kx_go 1 (pc' := 60) (L' := [(3, .inl (Int32.ofNat (x 1))), (2, .inl (Int32.ofNat (x 0))), (0, .inr (.inr (.inl (some 259)))), (1, .inl (Int32.ofNat j))]) (S' := []) (h' := h) (by with_unfolding_all rfl) ?_
  refine kx_go 6 (pc' := 66) (L' := [(3, .inl (Int32.ofNat (x 1))), (2, .inl (Int32.ofNat (x 0))), (0, .inr (.inr (.inl (some 259)))), (1, .inl (Int32.ofNat j))]) (S' := [.inl (Int32.ofNat 2), .inl (Int32.ofNat j), .inr (.inr (.inl (some 259))), .inl (Int32.ofNat (x 1)), .inl (Int32.ofNat (x 0)), .inr (.inr (.inl (some 259)))]) (h' := h) (by with_unfolding_all rfl) ?_
  refine kc_call_rule (M2 := wk_m236) (av := [.inr (.inr (.inl (some 259))), .inl (Int32.ofNat j), .inl (Int32.ofNat 2)]) (r := [.inl (Int32.ofNat (x 1)), .inl (Int32.ofNat (x 0)), .inr (.inr (.inl (some 259)))]) rfl rfl (kc_Con_le (kv_num (d := 0) (i := j) (k := 2) hg hj (by decide) (kx_ofr (hw _ _ _ fa_kv.2)) (en 2 (by decide)).1) (by omega)) (fun rv h2 hq => ?_)
  obtain ⟨rfl, e9⟩ := hq
  rw [e9]
  clear e9
  show kc_Ev g (d + 11) wk_m238 _ 69 [(3, .inl (Int32.ofNat (x 1))), (2, .inl (Int32.ofNat (x 0))), (0, .inr (.inr (.inl (some 259)))), (1, .inl (Int32.ofNat j))] [.inl (Int32.ofNat (x 2)), .inl (Int32.ofNat (x 1)), .inl (Int32.ofNat (x 0)), .inr (.inr (.inl (some 259)))] h
  refine kc_call_rule (M2 := wk_m239) (av := [.inr (.inr (.inl (some 259))), .inl (Int32.ofNat (x 0)), .inl (Int32.ofNat (x 1)), .inl (Int32.ofNat (x 2))]) (r := []) rfl rfl (kc_Con_le (fa_r239 (d := 0) hg hBB hC0 hi hI hH (en 0 (by decide)).2 (en 1 (by decide)).2 (en 2 (by decide)).2) (by omega)) (fun rv h2 hq => ?_)
  obtain ⟨rfl, H2⟩ := hq
  show kc_Ev g (d + 11) wk_m238 _ 72 [(3, .inl (Int32.ofNat (x 1))), (2, .inl (Int32.ofNat (x 0))), (0, .inr (.inr (.inl (some 259)))), (1, .inl (Int32.ofNat j))] [.inl (Int32.ofNat (fa_hang B A L M (x 0) (x 1) (x 2)).1)] h2
  exact kc_ret_ok rfl (rv := some (.inl (Int32.ofNat (fa_hang B A L M (x 0) (x 1) (x 2)).1))) rfl ⟨rfl, H2⟩
set_option maxRecDepth 20000 in
theorem fa_r238_10 {g : kc_G} {d : Nat} {h0 h : kc_H} {B : Nat → Int32} {A : Nat → Nat} {D M L i : Nat} {j : Nat} {x : Nat → Nat} (hg : kc_ok g) (hBB : fa_BB B D M L) (hC0 : fu_B B h0) (hi : i ≤ 60) (hI : fa_I B A L i) (hJ : A 2 + 99 ≤ 99 * i) (hS : ∀ m, m < 3 → A (70 + m) + 99 ≤ 99 * i) (h5 : A 5 + 1 ≤ 60) (hH : fa_Hr h0 A L h) (hj : j < 60) (en : ∀ k, k < 4 → h 265 (5 * j + k) = .inl (Int32.ofNat (x k)) ∧ x k < 1000) (ev : h 264 j = .inl (Int32.ofNat 21)) : kc_Con g (d + 12) 238 [.inr (.inr (.inl (some 259))), .inl (Int32.ofNat j)] h (fun rv h' => rv = some (.inl (Int32.ofNat (fa_take A M (x 0) (x 1)).1)) ∧ fa_Hr h0 ((fa_take A M (x 0) (x 1)).2) L h') := by
  have hw := hH.1
  refine kc_Con_new hg (M := wk_m238) rfl rfl rfl (show 2 ≤ 4 by decide) ?_
  refine kx_go 3 (pc' := 3) (L' := [(0, .inr (.inr (.inl (some 259)))), (1, .inl (Int32.ofNat j))]) (S' := [.inl (Int32.ofNat 0), .inl (Int32.ofNat j), .inr (.inr (.inl (some 259)))]) (h' := h) (by with_unfolding_all rfl) ?_
  refine kc_call_rule (M2 := wk_m236) (av := [.inr (.inr (.inl (some 259))), .inl (Int32.ofNat j), .inl (Int32.ofNat 0)]) (r := []) rfl rfl (kc_Con_le (kv_num (d := 0) (i := j) (k := 0) hg hj (by decide) (kx_ofr (hw _ _ _ fa_kv.2)) (en 0 (by decide)).1) (by omega)) (fun rv h2 hq => ?_)
  obtain ⟨rfl, e9⟩ := hq
  rw [e9]
  clear e9
  show kc_Ev g (d + 11) wk_m238 _ 6 [(0, .inr (.inr (.inl (some 259)))), (1, .inl (Int32.ofNat j))] [.inl (Int32.ofNat (x 0))] h
  refine kx_go 4 (pc' := 10) (L' := [(2, .inl (Int32.ofNat (x 0))), (0, .inr (.inr (.inl (some 259)))), (1, .inl (Int32.ofNat j))]) (S' := [.inl (Int32.ofNat 1), .inl (Int32.ofNat j), .inr (.inr (.inl (some 259)))]) (h' := h) (by with_unfolding_all rfl) ?_
  refine kc_call_rule (M2 := wk_m236) (av := [.inr (.inr (.inl (some 259))), .inl (Int32.ofNat j), .inl (Int32.ofNat 1)]) (r := []) rfl rfl (kc_Con_le (kv_num (d := 0) (i := j) (k := 1) hg hj (by decide) (kx_ofr (hw _ _ _ fa_kv.2)) (en 1 (by decide)).1) (by omega)) (fun rv h2 hq => ?_)
  obtain ⟨rfl, e9⟩ := hq
  rw [e9]
  clear e9
  show kc_Ev g (d + 11) wk_m238 _ 13 [(2, .inl (Int32.ofNat (x 0))), (0, .inr (.inr (.inl (some 259)))), (1, .inl (Int32.ofNat j))] [.inl (Int32.ofNat (x 1))] h
  refine kx_go 2 (pc' := 15) (L' := [(3, .inl (Int32.ofNat (x 1))), (2, .inl (Int32.ofNat (x 0))), (0, .inr (.inr (.inl (some 259)))), (1, .inl (Int32.ofNat j))]) (S' := [.inr (.inr (.inl (some 259)))]) (h' := h) (by with_unfolding_all rfl) ?_
  refine kx_getf (c := 259) (v := .inr (.inr (.inl (some 264)))) rfl (by decide) (kx_ofr (hw _ _ _ fa_kv.1)) ?_
  refine kx_go 1 (pc' := 19) (L' := [(3, .inl (Int32.ofNat (x 1))), (2, .inl (Int32.ofNat (x 0))), (0, .inr (.inr (.inl (some 259)))), (1, .inl (Int32.ofNat j))]) (S' := [.inl (Int32.ofNat j), .inr (.inr (.inl (some 264)))]) (h' := h) (by with_unfolding_all rfl) ?_
  refine kx_iald (c := 264) (j := j) (m := 240) (v := .inl (Int32.ofNat 21)) rfl rfl (by decide) (by decide) (by omega) ev ?_
  refine kx_go 1 (pc' := 73) (L' := [(3, .inl (Int32.ofNat (x 1))), (2, .inl (Int32.ofNat (x 0))), (0, .inr (.inr (.inl (some 259)))), (1, .inl (Int32.ofNat j))]) (S' := []) (h' := h) (by with_unfolding_all rfl) ?_
  refine kx_go 3 (pc' := 76) (L' := [(3, .inl (Int32.ofNat (x 1))), (2, .inl (Int32.ofNat (x 0))), (0, .inr (.inr (.inl (some 259)))), (1, .inl (Int32.ofNat j))]) (S' := [.inl (Int32.ofNat (x 1)), .inl (Int32.ofNat (x 0)), .inr (.inr (.inl (some 259)))]) (h' := h) (by with_unfolding_all rfl) ?_
  refine kc_call_rule (M2 := wk_m249) (av := [.inr (.inr (.inl (some 259))), .inl (Int32.ofNat (x 0)), .inl (Int32.ofNat (x 1))]) (r := []) rfl rfl (kc_Con_le (fa_r249 (d := 0) hg hBB hC0 hi hI hH (en 0 (by decide)).2 (en 1 (by decide)).2) (by omega)) (fun rv h2 hq => ?_)
  obtain ⟨rfl, H2⟩ := hq
  show kc_Ev g (d + 11) wk_m238 _ 79 [(3, .inl (Int32.ofNat (x 1))), (2, .inl (Int32.ofNat (x 0))), (0, .inr (.inr (.inl (some 259)))), (1, .inl (Int32.ofNat j))] [.inl (Int32.ofNat (fa_take A M (x 0) (x 1)).1)] h2
  exact kc_ret_ok rfl (rv := some (.inl (Int32.ofNat (fa_take A M (x 0) (x 1)).1))) rfl ⟨rfl, H2⟩
set_option maxRecDepth 20000 in
theorem fa_r238_11 {g : kc_G} {d : Nat} {h0 h : kc_H} {B : Nat → Int32} {A : Nat → Nat} {D M L i : Nat} {j : Nat} {x : Nat → Nat} (hg : kc_ok g) (hBB : fa_BB B D M L) (hC0 : fu_B B h0) (hi : i ≤ 60) (hI : fa_I B A L i) (hJ : A 2 + 99 ≤ 99 * i) (hS : ∀ m, m < 3 → A (70 + m) + 99 ≤ 99 * i) (h5 : A 5 + 1 ≤ 60) (hH : fa_Hr h0 A L h) (hj : j < 60) (en : ∀ k, k < 4 → h 265 (5 * j + k) = .inl (Int32.ofNat (x k)) ∧ x k < 1000) (ev : h 264 j = .inl (Int32.ofNat 22)) : kc_Con g (d + 12) 238 [.inr (.inr (.inl (some 259))), .inl (Int32.ofNat j)] h (fun rv h' => rv = some (.inl (Int32.ofNat (fa_move B A M (x 0) (x 1) (x 0) (1 - x 1)).1)) ∧ fa_Hr h0 ((fa_move B A M (x 0) (x 1) (x 0) (1 - x 1)).2) L h') := by
  have hw := hH.1
  refine kc_Con_new hg (M := wk_m238) rfl rfl rfl (show 2 ≤ 4 by decide) ?_
  refine kx_go 3 (pc' := 3) (L' := [(0, .inr (.inr (.inl (some 259)))), (1, .inl (Int32.ofNat j))]) (S' := [.inl (Int32.ofNat 0), .inl (Int32.ofNat j), .inr (.inr (.inl (some 259)))]) (h' := h) (by with_unfolding_all rfl) ?_
  refine kc_call_rule (M2 := wk_m236) (av := [.inr (.inr (.inl (some 259))), .inl (Int32.ofNat j), .inl (Int32.ofNat 0)]) (r := []) rfl rfl (kc_Con_le (kv_num (d := 0) (i := j) (k := 0) hg hj (by decide) (kx_ofr (hw _ _ _ fa_kv.2)) (en 0 (by decide)).1) (by omega)) (fun rv h2 hq => ?_)
  obtain ⟨rfl, e9⟩ := hq
  rw [e9]
  clear e9
  show kc_Ev g (d + 11) wk_m238 _ 6 [(0, .inr (.inr (.inl (some 259)))), (1, .inl (Int32.ofNat j))] [.inl (Int32.ofNat (x 0))] h
  refine kx_go 4 (pc' := 10) (L' := [(2, .inl (Int32.ofNat (x 0))), (0, .inr (.inr (.inl (some 259)))), (1, .inl (Int32.ofNat j))]) (S' := [.inl (Int32.ofNat 1), .inl (Int32.ofNat j), .inr (.inr (.inl (some 259)))]) (h' := h) (by with_unfolding_all rfl) ?_
  refine kc_call_rule (M2 := wk_m236) (av := [.inr (.inr (.inl (some 259))), .inl (Int32.ofNat j), .inl (Int32.ofNat 1)]) (r := []) rfl rfl (kc_Con_le (kv_num (d := 0) (i := j) (k := 1) hg hj (by decide) (kx_ofr (hw _ _ _ fa_kv.2)) (en 1 (by decide)).1) (by omega)) (fun rv h2 hq => ?_)
  obtain ⟨rfl, e9⟩ := hq
  rw [e9]
  clear e9
  show kc_Ev g (d + 11) wk_m238 _ 13 [(2, .inl (Int32.ofNat (x 0))), (0, .inr (.inr (.inl (some 259)))), (1, .inl (Int32.ofNat j))] [.inl (Int32.ofNat (x 1))] h
  refine kx_go 2 (pc' := 15) (L' := [(3, .inl (Int32.ofNat (x 1))), (2, .inl (Int32.ofNat (x 0))), (0, .inr (.inr (.inl (some 259)))), (1, .inl (Int32.ofNat j))]) (S' := [.inr (.inr (.inl (some 259)))]) (h' := h) (by with_unfolding_all rfl) ?_
  refine kx_getf (c := 259) (v := .inr (.inr (.inl (some 264)))) rfl (by decide) (kx_ofr (hw _ _ _ fa_kv.1)) ?_
  refine kx_go 1 (pc' := 19) (L' := [(3, .inl (Int32.ofNat (x 1))), (2, .inl (Int32.ofNat (x 0))), (0, .inr (.inr (.inl (some 259)))), (1, .inl (Int32.ofNat j))]) (S' := [.inl (Int32.ofNat j), .inr (.inr (.inl (some 264)))]) (h' := h) (by with_unfolding_all rfl) ?_
  refine kx_iald (c := 264) (j := j) (m := 240) (v := .inl (Int32.ofNat 22)) rfl rfl (by decide) (by decide) (by omega) ev ?_
  refine kx_go 1 (pc' := 80) (L' := [(3, .inl (Int32.ofNat (x 1))), (2, .inl (Int32.ofNat (x 0))), (0, .inr (.inr (.inl (some 259)))), (1, .inl (Int32.ofNat j))]) (S' := []) (h' := h) (by with_unfolding_all rfl) ?_
  refine kx_go 3 (pc' := 83) (L' := [(3, .inl (Int32.ofNat (x 1))), (2, .inl (Int32.ofNat (x 0))), (0, .inr (.inr (.inl (some 259)))), (1, .inl (Int32.ofNat j))]) (S' := [.inl (Int32.ofNat (x 1)), .inl (Int32.ofNat (x 0)), .inr (.inr (.inl (some 259)))]) (h' := h) (by with_unfolding_all rfl) ?_
  refine kc_call_rule (M2 := wk_m82) (av := [.inr (.inr (.inl (some 259))), .inl (Int32.ofNat (x 0)), .inl (Int32.ofNat (x 1))]) (r := []) rfl rfl (kc_Con_le (fa_r82 (d := 0) hg hw (fa_hr hH.2.2 hC0) hBB (en 0 (by decide)).2 (en 1 (by decide)).2) (by omega)) (fun rv h2 hq => ?_)
  obtain ⟨rfl, e9⟩ := hq
  rw [e9]
  clear e9
  show kc_Ev g (d + 11) wk_m238 _ 86 [(3, .inl (Int32.ofNat (x 1))), (2, .inl (Int32.ofNat (x 0))), (0, .inr (.inr (.inl (some 259)))), (1, .inl (Int32.ofNat j))] [.inl (kp_b (decide (x 0 < M ∧ x 1 < 2)))] h
  refine kx_go 1 (pc' := (if kc_cnd .eq (kp_b (decide (x 0 < M ∧ x 1 < 2))).toInt 0 then 102 else 89)) (L' := [(3, .inl (Int32.ofNat (x 1))), (2, .inl (Int32.ofNat (x 0))), (0, .inr (.inr (.inl (some 259)))), (1, .inl (Int32.ofNat j))]) (S' := []) (h' := h) (by with_unfolding_all rfl) ?_
  by_cases c2 : x 0 < M ∧ x 1 < 2
  · rw [decide_eq_true c2, if_neg fa_b0t]
    refine kx_go 7 (pc' := 96) (L' := [(3, .inl (Int32.ofNat (x 1))), (2, .inl (Int32.ofNat (x 0))), (0, .inr (.inr (.inl (some 259)))), (1, .inl (Int32.ofNat j))]) (S' := [.inl ((Int32.ofNat 1) - (Int32.ofNat (x 1))), .inl (Int32.ofNat (x 0)), .inl (Int32.ofNat (x 1)), .inl (Int32.ofNat (x 0)), .inr (.inr (.inl (some 259)))]) (h' := h) (by with_unfolding_all rfl) ?_
    rw [kx_sub (show x 1 ≤ 1 by omega)]
    refine kc_call_rule (M2 := wk_m250) (av := [.inr (.inr (.inl (some 259))), .inl (Int32.ofNat (x 0)), .inl (Int32.ofNat (x 1)), .inl (Int32.ofNat (x 0)), .inl (Int32.ofNat (1 - x 1))]) (r := []) rfl rfl (kc_Con_le (fa_r250 (d := 0) hg hBB hC0 hi hI hH (en 0 (by decide)).2 (en 1 (by decide)).2 (en 0 (by decide)).2 (show 1 - x 1 < 1000 by omega)) (by omega)) (fun rv h2 hq => ?_)
    obtain ⟨rfl, H2⟩ := hq
    show kc_Ev g (d + 11) wk_m238 _ 99 [(3, .inl (Int32.ofNat (x 1))), (2, .inl (Int32.ofNat (x 0))), (0, .inr (.inr (.inl (some 259)))), (1, .inl (Int32.ofNat j))] [.inl (Int32.ofNat (fa_move B A M (x 0) (x 1) (x 0) (1 - x 1)).1)] h2
    refine kx_go 1 (pc' := 103) (L' := [(3, .inl (Int32.ofNat (x 1))), (2, .inl (Int32.ofNat (x 0))), (0, .inr (.inr (.inl (some 259)))), (1, .inl (Int32.ofNat j))]) (S' := [.inl (Int32.ofNat (fa_move B A M (x 0) (x 1) (x 0) (1 - x 1)).1)]) (h' := h2) (by with_unfolding_all rfl) ?_
    exact kc_ret_ok rfl (rv := some (.inl (Int32.ofNat (fa_move B A M (x 0) (x 1) (x 0) (1 - x 1)).1))) rfl ⟨rfl, H2⟩
  · rw [decide_eq_false c2, if_pos fa_b0f, fa_mv1 c2]
    refine kx_go 1 (pc' := 103) (L' := [(3, .inl (Int32.ofNat (x 1))), (2, .inl (Int32.ofNat (x 0))), (0, .inr (.inr (.inl (some 259)))), (1, .inl (Int32.ofNat j))]) (S' := [.inl (Int32.ofNat 1)]) (h' := h) (by with_unfolding_all rfl) ?_
    exact kc_ret_ok rfl (rv := some (.inl (Int32.ofNat 1))) rfl ⟨rfl, hH⟩
set_option maxRecDepth 20000 in
theorem fa_r238_12 {g : kc_G} {d : Nat} {h0 h : kc_H} {B : Nat → Int32} {A : Nat → Nat} {D M L i : Nat} {j : Nat} {x : Nat → Nat} (hg : kc_ok g) (hBB : fa_BB B D M L) (hC0 : fu_B B h0) (hi : i ≤ 60) (hI : fa_I B A L i) (hJ : A 2 + 99 ≤ 99 * i) (hS : ∀ m, m < 3 → A (70 + m) + 99 ≤ 99 * i) (h5 : A 5 + 1 ≤ 60) (hH : fa_Hr h0 A L h) (hj : j < 60) (en : ∀ k, k < 4 → h 265 (5 * j + k) = .inl (Int32.ofNat (x k)) ∧ x k < 1000) (ev : h 264 j = .inl (Int32.ofNat 23)) : kc_Con g (d + 12) 238 [.inr (.inr (.inl (some 259))), .inl (Int32.ofNat j)] h (fun rv h' => rv = some (.inl (Int32.ofNat (fa_move B A M (x 0) (x 1) (x 2) (x 3)).1)) ∧ fa_Hr h0 ((fa_move B A M (x 0) (x 1) (x 2) (x 3)).2) L h') := by
  have hw := hH.1
  refine kc_Con_new hg (M := wk_m238) rfl rfl rfl (show 2 ≤ 4 by decide) ?_
  refine kx_go 3 (pc' := 3) (L' := [(0, .inr (.inr (.inl (some 259)))), (1, .inl (Int32.ofNat j))]) (S' := [.inl (Int32.ofNat 0), .inl (Int32.ofNat j), .inr (.inr (.inl (some 259)))]) (h' := h) (by with_unfolding_all rfl) ?_
  refine kc_call_rule (M2 := wk_m236) (av := [.inr (.inr (.inl (some 259))), .inl (Int32.ofNat j), .inl (Int32.ofNat 0)]) (r := []) rfl rfl (kc_Con_le (kv_num (d := 0) (i := j) (k := 0) hg hj (by decide) (kx_ofr (hw _ _ _ fa_kv.2)) (en 0 (by decide)).1) (by omega)) (fun rv h2 hq => ?_)
  obtain ⟨rfl, e9⟩ := hq
  rw [e9]
  clear e9
  show kc_Ev g (d + 11) wk_m238 _ 6 [(0, .inr (.inr (.inl (some 259)))), (1, .inl (Int32.ofNat j))] [.inl (Int32.ofNat (x 0))] h
  refine kx_go 4 (pc' := 10) (L' := [(2, .inl (Int32.ofNat (x 0))), (0, .inr (.inr (.inl (some 259)))), (1, .inl (Int32.ofNat j))]) (S' := [.inl (Int32.ofNat 1), .inl (Int32.ofNat j), .inr (.inr (.inl (some 259)))]) (h' := h) (by with_unfolding_all rfl) ?_
  refine kc_call_rule (M2 := wk_m236) (av := [.inr (.inr (.inl (some 259))), .inl (Int32.ofNat j), .inl (Int32.ofNat 1)]) (r := []) rfl rfl (kc_Con_le (kv_num (d := 0) (i := j) (k := 1) hg hj (by decide) (kx_ofr (hw _ _ _ fa_kv.2)) (en 1 (by decide)).1) (by omega)) (fun rv h2 hq => ?_)
  obtain ⟨rfl, e9⟩ := hq
  rw [e9]
  clear e9
  show kc_Ev g (d + 11) wk_m238 _ 13 [(2, .inl (Int32.ofNat (x 0))), (0, .inr (.inr (.inl (some 259)))), (1, .inl (Int32.ofNat j))] [.inl (Int32.ofNat (x 1))] h
  refine kx_go 2 (pc' := 15) (L' := [(3, .inl (Int32.ofNat (x 1))), (2, .inl (Int32.ofNat (x 0))), (0, .inr (.inr (.inl (some 259)))), (1, .inl (Int32.ofNat j))]) (S' := [.inr (.inr (.inl (some 259)))]) (h' := h) (by with_unfolding_all rfl) ?_
  refine kx_getf (c := 259) (v := .inr (.inr (.inl (some 264)))) rfl (by decide) (kx_ofr (hw _ _ _ fa_kv.1)) ?_
  refine kx_go 1 (pc' := 19) (L' := [(3, .inl (Int32.ofNat (x 1))), (2, .inl (Int32.ofNat (x 0))), (0, .inr (.inr (.inl (some 259)))), (1, .inl (Int32.ofNat j))]) (S' := [.inl (Int32.ofNat j), .inr (.inr (.inl (some 264)))]) (h' := h) (by with_unfolding_all rfl) ?_
  refine kx_iald (c := 264) (j := j) (m := 240) (v := .inl (Int32.ofNat 23)) rfl rfl (by decide) (by decide) (by omega) ev ?_
  refine kx_go 1 (pc' := 104) (L' := [(3, .inl (Int32.ofNat (x 1))), (2, .inl (Int32.ofNat (x 0))), (0, .inr (.inr (.inl (some 259)))), (1, .inl (Int32.ofNat j))]) (S' := []) (h' := h) (by with_unfolding_all rfl) ?_
  refine kx_go 6 (pc' := 110) (L' := [(3, .inl (Int32.ofNat (x 1))), (2, .inl (Int32.ofNat (x 0))), (0, .inr (.inr (.inl (some 259)))), (1, .inl (Int32.ofNat j))]) (S' := [.inl (Int32.ofNat 2), .inl (Int32.ofNat j), .inr (.inr (.inl (some 259))), .inl (Int32.ofNat (x 1)), .inl (Int32.ofNat (x 0)), .inr (.inr (.inl (some 259)))]) (h' := h) (by with_unfolding_all rfl) ?_
  refine kc_call_rule (M2 := wk_m236) (av := [.inr (.inr (.inl (some 259))), .inl (Int32.ofNat j), .inl (Int32.ofNat 2)]) (r := [.inl (Int32.ofNat (x 1)), .inl (Int32.ofNat (x 0)), .inr (.inr (.inl (some 259)))]) rfl rfl (kc_Con_le (kv_num (d := 0) (i := j) (k := 2) hg hj (by decide) (kx_ofr (hw _ _ _ fa_kv.2)) (en 2 (by decide)).1) (by omega)) (fun rv h2 hq => ?_)
  obtain ⟨rfl, e9⟩ := hq
  rw [e9]
  clear e9
  show kc_Ev g (d + 11) wk_m238 _ 113 [(3, .inl (Int32.ofNat (x 1))), (2, .inl (Int32.ofNat (x 0))), (0, .inr (.inr (.inl (some 259)))), (1, .inl (Int32.ofNat j))] [.inl (Int32.ofNat (x 2)), .inl (Int32.ofNat (x 1)), .inl (Int32.ofNat (x 0)), .inr (.inr (.inl (some 259)))] h
  refine kx_go 3 (pc' := 116) (L' := [(3, .inl (Int32.ofNat (x 1))), (2, .inl (Int32.ofNat (x 0))), (0, .inr (.inr (.inl (some 259)))), (1, .inl (Int32.ofNat j))]) (S' := [.inl (Int32.ofNat 3), .inl (Int32.ofNat j), .inr (.inr (.inl (some 259))), .inl (Int32.ofNat (x 2)), .inl (Int32.ofNat (x 1)), .inl (Int32.ofNat (x 0)), .inr (.inr (.inl (some 259)))]) (h' := h) (by with_unfolding_all rfl) ?_
  refine kc_call_rule (M2 := wk_m236) (av := [.inr (.inr (.inl (some 259))), .inl (Int32.ofNat j), .inl (Int32.ofNat 3)]) (r := [.inl (Int32.ofNat (x 2)), .inl (Int32.ofNat (x 1)), .inl (Int32.ofNat (x 0)), .inr (.inr (.inl (some 259)))]) rfl rfl (kc_Con_le (kv_num (d := 0) (i := j) (k := 3) hg hj (by decide) (kx_ofr (hw _ _ _ fa_kv.2)) (en 3 (by decide)).1) (by omega)) (fun rv h2 hq => ?_)
  obtain ⟨rfl, e9⟩ := hq
  rw [e9]
  clear e9
  show kc_Ev g (d + 11) wk_m238 _ 119 [(3, .inl (Int32.ofNat (x 1))), (2, .inl (Int32.ofNat (x 0))), (0, .inr (.inr (.inl (some 259)))), (1, .inl (Int32.ofNat j))] [.inl (Int32.ofNat (x 3)), .inl (Int32.ofNat (x 2)), .inl (Int32.ofNat (x 1)), .inl (Int32.ofNat (x 0)), .inr (.inr (.inl (some 259)))] h
  refine kc_call_rule (M2 := wk_m250) (av := [.inr (.inr (.inl (some 259))), .inl (Int32.ofNat (x 0)), .inl (Int32.ofNat (x 1)), .inl (Int32.ofNat (x 2)), .inl (Int32.ofNat (x 3))]) (r := []) rfl rfl (kc_Con_le (fa_r250 (d := 0) hg hBB hC0 hi hI hH (en 0 (by decide)).2 (en 1 (by decide)).2 (en 2 (by decide)).2 (en 3 (by decide)).2) (by omega)) (fun rv h2 hq => ?_)
  obtain ⟨rfl, H2⟩ := hq
  show kc_Ev g (d + 11) wk_m238 _ 122 [(3, .inl (Int32.ofNat (x 1))), (2, .inl (Int32.ofNat (x 0))), (0, .inr (.inr (.inl (some 259)))), (1, .inl (Int32.ofNat j))] [.inl (Int32.ofNat (fa_move B A M (x 0) (x 1) (x 2) (x 3)).1)] h2
  exact kc_ret_ok rfl (rv := some (.inl (Int32.ofNat (fa_move B A M (x 0) (x 1) (x 2) (x 3)).1))) rfl ⟨rfl, H2⟩
set_option maxRecDepth 20000 in
theorem fa_r238_13 {g : kc_G} {d : Nat} {h0 h : kc_H} {B : Nat → Int32} {A : Nat → Nat} {D M L i : Nat} {j : Nat} {x : Nat → Nat} (hg : kc_ok g) (hBB : fa_BB B D M L) (hC0 : fu_B B h0) (hi : i ≤ 60) (hI : fa_I B A L i) (hJ : A 2 + 99 ≤ 99 * i) (hS : ∀ m, m < 3 → A (70 + m) + 99 ≤ 99 * i) (h5 : A 5 + 1 ≤ 60) (hH : fa_Hr h0 A L h) (hj : j < 60) (en : ∀ k, k < 4 → h 265 (5 * j + k) = .inl (Int32.ofNat (x k)) ∧ x k < 1000) (ev : h 264 j = .inl (Int32.ofNat 24)) : kc_Con g (d + 12) 238 [.inr (.inr (.inl (some 259))), .inl (Int32.ofNat j)] h (fun rv h' => rv = some (.inl (Int32.ofNat (fa_add B A M (x 0) (x 1)).1)) ∧ fa_Hr h0 ((fa_add B A M (x 0) (x 1)).2) L h') := by
  have hw := hH.1
  refine kc_Con_new hg (M := wk_m238) rfl rfl rfl (show 2 ≤ 4 by decide) ?_
  refine kx_go 3 (pc' := 3) (L' := [(0, .inr (.inr (.inl (some 259)))), (1, .inl (Int32.ofNat j))]) (S' := [.inl (Int32.ofNat 0), .inl (Int32.ofNat j), .inr (.inr (.inl (some 259)))]) (h' := h) (by with_unfolding_all rfl) ?_
  refine kc_call_rule (M2 := wk_m236) (av := [.inr (.inr (.inl (some 259))), .inl (Int32.ofNat j), .inl (Int32.ofNat 0)]) (r := []) rfl rfl (kc_Con_le (kv_num (d := 0) (i := j) (k := 0) hg hj (by decide) (kx_ofr (hw _ _ _ fa_kv.2)) (en 0 (by decide)).1) (by omega)) (fun rv h2 hq => ?_)
  obtain ⟨rfl, e9⟩ := hq
  rw [e9]
  clear e9
  show kc_Ev g (d + 11) wk_m238 _ 6 [(0, .inr (.inr (.inl (some 259)))), (1, .inl (Int32.ofNat j))] [.inl (Int32.ofNat (x 0))] h
  refine kx_go 4 (pc' := 10) (L' := [(2, .inl (Int32.ofNat (x 0))), (0, .inr (.inr (.inl (some 259)))), (1, .inl (Int32.ofNat j))]) (S' := [.inl (Int32.ofNat 1), .inl (Int32.ofNat j), .inr (.inr (.inl (some 259)))]) (h' := h) (by with_unfolding_all rfl) ?_
  refine kc_call_rule (M2 := wk_m236) (av := [.inr (.inr (.inl (some 259))), .inl (Int32.ofNat j), .inl (Int32.ofNat 1)]) (r := []) rfl rfl (kc_Con_le (kv_num (d := 0) (i := j) (k := 1) hg hj (by decide) (kx_ofr (hw _ _ _ fa_kv.2)) (en 1 (by decide)).1) (by omega)) (fun rv h2 hq => ?_)
  obtain ⟨rfl, e9⟩ := hq
  rw [e9]
  clear e9
  show kc_Ev g (d + 11) wk_m238 _ 13 [(2, .inl (Int32.ofNat (x 0))), (0, .inr (.inr (.inl (some 259)))), (1, .inl (Int32.ofNat j))] [.inl (Int32.ofNat (x 1))] h
  refine kx_go 2 (pc' := 15) (L' := [(3, .inl (Int32.ofNat (x 1))), (2, .inl (Int32.ofNat (x 0))), (0, .inr (.inr (.inl (some 259)))), (1, .inl (Int32.ofNat j))]) (S' := [.inr (.inr (.inl (some 259)))]) (h' := h) (by with_unfolding_all rfl) ?_
  refine kx_getf (c := 259) (v := .inr (.inr (.inl (some 264)))) rfl (by decide) (kx_ofr (hw _ _ _ fa_kv.1)) ?_
  refine kx_go 1 (pc' := 19) (L' := [(3, .inl (Int32.ofNat (x 1))), (2, .inl (Int32.ofNat (x 0))), (0, .inr (.inr (.inl (some 259)))), (1, .inl (Int32.ofNat j))]) (S' := [.inl (Int32.ofNat j), .inr (.inr (.inl (some 264)))]) (h' := h) (by with_unfolding_all rfl) ?_
  refine kx_iald (c := 264) (j := j) (m := 240) (v := .inl (Int32.ofNat 24)) rfl rfl (by decide) (by decide) (by omega) ev ?_
  refine kx_go 1 (pc' := 123) (L' := [(3, .inl (Int32.ofNat (x 1))), (2, .inl (Int32.ofNat (x 0))), (0, .inr (.inr (.inl (some 259)))), (1, .inl (Int32.ofNat j))]) (S' := []) (h' := h) (by with_unfolding_all rfl) ?_
  refine kx_go 3 (pc' := 126) (L' := [(3, .inl (Int32.ofNat (x 1))), (2, .inl (Int32.ofNat (x 0))), (0, .inr (.inr (.inl (some 259)))), (1, .inl (Int32.ofNat j))]) (S' := [.inl (Int32.ofNat (x 1)), .inl (Int32.ofNat (x 0)), .inr (.inr (.inl (some 259)))]) (h' := h) (by with_unfolding_all rfl) ?_
  refine kc_call_rule (M2 := wk_m251) (av := [.inr (.inr (.inl (some 259))), .inl (Int32.ofNat (x 0)), .inl (Int32.ofNat (x 1))]) (r := []) rfl rfl (kc_Con_le (fa_r251 (d := 0) hg hBB hC0 hi hI hH (en 0 (by decide)).2 (en 1 (by decide)).2) (by omega)) (fun rv h2 hq => ?_)
  obtain ⟨rfl, H2⟩ := hq
  show kc_Ev g (d + 11) wk_m238 _ 129 [(3, .inl (Int32.ofNat (x 1))), (2, .inl (Int32.ofNat (x 0))), (0, .inr (.inr (.inl (some 259)))), (1, .inl (Int32.ofNat j))] [.inl (Int32.ofNat (fa_add B A M (x 0) (x 1)).1)] h2
  exact kc_ret_ok rfl (rv := some (.inl (Int32.ofNat (fa_add B A M (x 0) (x 1)).1))) rfl ⟨rfl, H2⟩
set_option maxRecDepth 20000 in
theorem fa_r238_14 {g : kc_G} {d : Nat} {h0 h : kc_H} {B : Nat → Int32} {A : Nat → Nat} {D M L i : Nat} {j : Nat} {x : Nat → Nat} (hg : kc_ok g) (hBB : fa_BB B D M L) (hC0 : fu_B B h0) (hi : i ≤ 60) (hI : fa_I B A L i) (hJ : A 2 + 99 ≤ 99 * i) (hS : ∀ m, m < 3 → A (70 + m) + 99 ≤ 99 * i) (h5 : A 5 + 1 ≤ 60) (hH : fa_Hr h0 A L h) (hj : j < 60) (en : ∀ k, k < 4 → h 265 (5 * j + k) = .inl (Int32.ofNat (x k)) ∧ x k < 1000) (ev : h 264 j = .inl (Int32.ofNat 25)) : kc_Con g (d + 12) 238 [.inr (.inr (.inl (some 259))), .inl (Int32.ofNat j)] h (fun rv h' => rv = some (.inl (Int32.ofNat (fa_drop A M (x 0) (x 1)).1)) ∧ fa_Hr h0 ((fa_drop A M (x 0) (x 1)).2) L h') := by
  have hw := hH.1
  refine kc_Con_new hg (M := wk_m238) rfl rfl rfl (show 2 ≤ 4 by decide) ?_
  refine kx_go 3 (pc' := 3) (L' := [(0, .inr (.inr (.inl (some 259)))), (1, .inl (Int32.ofNat j))]) (S' := [.inl (Int32.ofNat 0), .inl (Int32.ofNat j), .inr (.inr (.inl (some 259)))]) (h' := h) (by with_unfolding_all rfl) ?_
  refine kc_call_rule (M2 := wk_m236) (av := [.inr (.inr (.inl (some 259))), .inl (Int32.ofNat j), .inl (Int32.ofNat 0)]) (r := []) rfl rfl (kc_Con_le (kv_num (d := 0) (i := j) (k := 0) hg hj (by decide) (kx_ofr (hw _ _ _ fa_kv.2)) (en 0 (by decide)).1) (by omega)) (fun rv h2 hq => ?_)
  obtain ⟨rfl, e9⟩ := hq
  rw [e9]
  clear e9
  show kc_Ev g (d + 11) wk_m238 _ 6 [(0, .inr (.inr (.inl (some 259)))), (1, .inl (Int32.ofNat j))] [.inl (Int32.ofNat (x 0))] h
  refine kx_go 4 (pc' := 10) (L' := [(2, .inl (Int32.ofNat (x 0))), (0, .inr (.inr (.inl (some 259)))), (1, .inl (Int32.ofNat j))]) (S' := [.inl (Int32.ofNat 1), .inl (Int32.ofNat j), .inr (.inr (.inl (some 259)))]) (h' := h) (by with_unfolding_all rfl) ?_
  refine kc_call_rule (M2 := wk_m236) (av := [.inr (.inr (.inl (some 259))), .inl (Int32.ofNat j), .inl (Int32.ofNat 1)]) (r := []) rfl rfl (kc_Con_le (kv_num (d := 0) (i := j) (k := 1) hg hj (by decide) (kx_ofr (hw _ _ _ fa_kv.2)) (en 1 (by decide)).1) (by omega)) (fun rv h2 hq => ?_)
  obtain ⟨rfl, e9⟩ := hq
  rw [e9]
  clear e9
  show kc_Ev g (d + 11) wk_m238 _ 13 [(2, .inl (Int32.ofNat (x 0))), (0, .inr (.inr (.inl (some 259)))), (1, .inl (Int32.ofNat j))] [.inl (Int32.ofNat (x 1))] h
  refine kx_go 2 (pc' := 15) (L' := [(3, .inl (Int32.ofNat (x 1))), (2, .inl (Int32.ofNat (x 0))), (0, .inr (.inr (.inl (some 259)))), (1, .inl (Int32.ofNat j))]) (S' := [.inr (.inr (.inl (some 259)))]) (h' := h) (by with_unfolding_all rfl) ?_
  refine kx_getf (c := 259) (v := .inr (.inr (.inl (some 264)))) rfl (by decide) (kx_ofr (hw _ _ _ fa_kv.1)) ?_
  refine kx_go 1 (pc' := 19) (L' := [(3, .inl (Int32.ofNat (x 1))), (2, .inl (Int32.ofNat (x 0))), (0, .inr (.inr (.inl (some 259)))), (1, .inl (Int32.ofNat j))]) (S' := [.inl (Int32.ofNat j), .inr (.inr (.inl (some 264)))]) (h' := h) (by with_unfolding_all rfl) ?_
  refine kx_iald (c := 264) (j := j) (m := 240) (v := .inl (Int32.ofNat 25)) rfl rfl (by decide) (by decide) (by omega) ev ?_
  refine kx_go 1 (pc' := 130) (L' := [(3, .inl (Int32.ofNat (x 1))), (2, .inl (Int32.ofNat (x 0))), (0, .inr (.inr (.inl (some 259)))), (1, .inl (Int32.ofNat j))]) (S' := []) (h' := h) (by with_unfolding_all rfl) ?_
  refine kx_go 3 (pc' := 133) (L' := [(3, .inl (Int32.ofNat (x 1))), (2, .inl (Int32.ofNat (x 0))), (0, .inr (.inr (.inl (some 259)))), (1, .inl (Int32.ofNat j))]) (S' := [.inl (Int32.ofNat (x 1)), .inl (Int32.ofNat (x 0)), .inr (.inr (.inl (some 259)))]) (h' := h) (by with_unfolding_all rfl) ?_
  refine kc_call_rule (M2 := wk_m252) (av := [.inr (.inr (.inl (some 259))), .inl (Int32.ofNat (x 0)), .inl (Int32.ofNat (x 1))]) (r := []) rfl rfl (kc_Con_le (fa_r252 (d := 0) hg hBB hC0 hi hI hH (en 0 (by decide)).2 (en 1 (by decide)).2) (by omega)) (fun rv h2 hq => ?_)
  obtain ⟨rfl, H2⟩ := hq
  show kc_Ev g (d + 11) wk_m238 _ 136 [(3, .inl (Int32.ofNat (x 1))), (2, .inl (Int32.ofNat (x 0))), (0, .inr (.inr (.inl (some 259)))), (1, .inl (Int32.ofNat j))] [.inl (Int32.ofNat (fa_drop A M (x 0) (x 1)).1)] h2
  exact kc_ret_ok rfl (rv := some (.inl (Int32.ofNat (fa_drop A M (x 0) (x 1)).1))) rfl ⟨rfl, H2⟩
set_option maxRecDepth 20000 in
theorem fa_r238_15 {g : kc_G} {d : Nat} {h0 h : kc_H} {B : Nat → Int32} {A : Nat → Nat} {D M L i : Nat} {j : Nat} {x : Nat → Nat} (hg : kc_ok g) (hBB : fa_BB B D M L) (hC0 : fu_B B h0) (hi : i ≤ 60) (hI : fa_I B A L i) (hJ : A 2 + 99 ≤ 99 * i) (hS : ∀ m, m < 3 → A (70 + m) + 99 ≤ 99 * i) (h5 : A 5 + 1 ≤ 60) (hH : fa_Hr h0 A L h) (hj : j < 60) (en : ∀ k, k < 4 → h 265 (5 * j + k) = .inl (Int32.ofNat (x k)) ∧ x k < 1000) (ev : h 264 j = .inl (Int32.ofNat 26)) : kc_Con g (d + 12) 238 [.inr (.inr (.inl (some 259))), .inl (Int32.ofNat j)] h (fun rv h' => rv = some (.inl (Int32.ofNat (fa_go B A D M (x 0)).1)) ∧ fa_Hr h0 ((fa_go B A D M (x 0)).2) L h') := by
  have hw := hH.1
  refine kc_Con_new hg (M := wk_m238) rfl rfl rfl (show 2 ≤ 4 by decide) ?_
  refine kx_go 3 (pc' := 3) (L' := [(0, .inr (.inr (.inl (some 259)))), (1, .inl (Int32.ofNat j))]) (S' := [.inl (Int32.ofNat 0), .inl (Int32.ofNat j), .inr (.inr (.inl (some 259)))]) (h' := h) (by with_unfolding_all rfl) ?_
  refine kc_call_rule (M2 := wk_m236) (av := [.inr (.inr (.inl (some 259))), .inl (Int32.ofNat j), .inl (Int32.ofNat 0)]) (r := []) rfl rfl (kc_Con_le (kv_num (d := 0) (i := j) (k := 0) hg hj (by decide) (kx_ofr (hw _ _ _ fa_kv.2)) (en 0 (by decide)).1) (by omega)) (fun rv h2 hq => ?_)
  obtain ⟨rfl, e9⟩ := hq
  rw [e9]
  clear e9
  show kc_Ev g (d + 11) wk_m238 _ 6 [(0, .inr (.inr (.inl (some 259)))), (1, .inl (Int32.ofNat j))] [.inl (Int32.ofNat (x 0))] h
  refine kx_go 4 (pc' := 10) (L' := [(2, .inl (Int32.ofNat (x 0))), (0, .inr (.inr (.inl (some 259)))), (1, .inl (Int32.ofNat j))]) (S' := [.inl (Int32.ofNat 1), .inl (Int32.ofNat j), .inr (.inr (.inl (some 259)))]) (h' := h) (by with_unfolding_all rfl) ?_
  refine kc_call_rule (M2 := wk_m236) (av := [.inr (.inr (.inl (some 259))), .inl (Int32.ofNat j), .inl (Int32.ofNat 1)]) (r := []) rfl rfl (kc_Con_le (kv_num (d := 0) (i := j) (k := 1) hg hj (by decide) (kx_ofr (hw _ _ _ fa_kv.2)) (en 1 (by decide)).1) (by omega)) (fun rv h2 hq => ?_)
  obtain ⟨rfl, e9⟩ := hq
  rw [e9]
  clear e9
  show kc_Ev g (d + 11) wk_m238 _ 13 [(2, .inl (Int32.ofNat (x 0))), (0, .inr (.inr (.inl (some 259)))), (1, .inl (Int32.ofNat j))] [.inl (Int32.ofNat (x 1))] h
  refine kx_go 2 (pc' := 15) (L' := [(3, .inl (Int32.ofNat (x 1))), (2, .inl (Int32.ofNat (x 0))), (0, .inr (.inr (.inl (some 259)))), (1, .inl (Int32.ofNat j))]) (S' := [.inr (.inr (.inl (some 259)))]) (h' := h) (by with_unfolding_all rfl) ?_
  refine kx_getf (c := 259) (v := .inr (.inr (.inl (some 264)))) rfl (by decide) (kx_ofr (hw _ _ _ fa_kv.1)) ?_
  refine kx_go 1 (pc' := 19) (L' := [(3, .inl (Int32.ofNat (x 1))), (2, .inl (Int32.ofNat (x 0))), (0, .inr (.inr (.inl (some 259)))), (1, .inl (Int32.ofNat j))]) (S' := [.inl (Int32.ofNat j), .inr (.inr (.inl (some 264)))]) (h' := h) (by with_unfolding_all rfl) ?_
  refine kx_iald (c := 264) (j := j) (m := 240) (v := .inl (Int32.ofNat 26)) rfl rfl (by decide) (by decide) (by omega) ev ?_
  refine kx_go 1 (pc' := 137) (L' := [(3, .inl (Int32.ofNat (x 1))), (2, .inl (Int32.ofNat (x 0))), (0, .inr (.inr (.inl (some 259)))), (1, .inl (Int32.ofNat j))]) (S' := []) (h' := h) (by with_unfolding_all rfl) ?_
  refine kx_go 2 (pc' := 139) (L' := [(3, .inl (Int32.ofNat (x 1))), (2, .inl (Int32.ofNat (x 0))), (0, .inr (.inr (.inl (some 259)))), (1, .inl (Int32.ofNat j))]) (S' := [.inl (Int32.ofNat (x 0)), .inr (.inr (.inl (some 259)))]) (h' := h) (by with_unfolding_all rfl) ?_
  refine kc_call_rule (M2 := wk_m253) (av := [.inr (.inr (.inl (some 259))), .inl (Int32.ofNat (x 0))]) (r := []) rfl rfl (kc_Con_le (fa_r253 (d := 0) hg hBB hC0 hi hI hJ hS h5 hH (en 0 (by decide)).2) (by omega)) (fun rv h2 hq => ?_)
  obtain ⟨rfl, H2⟩ := hq
  show kc_Ev g (d + 11) wk_m238 _ 142 [(3, .inl (Int32.ofNat (x 1))), (2, .inl (Int32.ofNat (x 0))), (0, .inr (.inr (.inl (some 259)))), (1, .inl (Int32.ofNat j))] [.inl (Int32.ofNat (fa_go B A D M (x 0)).1)] h2
  exact kc_ret_ok rfl (rv := some (.inl (Int32.ofNat (fa_go B A D M (x 0)).1))) rfl ⟨rfl, H2⟩
set_option maxRecDepth 20000 in
theorem fa_r238 {g : kc_G} {d : Nat} {h0 h : kc_H} {B : Nat → Int32} {A : Nat → Nat} {D M L i : Nat} {j v : Nat} {x : Nat → Nat} (hg : kc_ok g) (hBB : fa_BB B D M L) (hC0 : fu_B B h0) (hi : i ≤ 60) (hI : fa_I B A L i) (hJ : A 2 + 99 ≤ 99 * i) (hS : ∀ m, m < 3 → A (70 + m) + 99 ≤ 99 * i) (h5 : A 5 + 1 ≤ 60) (hH : fa_Hr h0 A L h) (hj : j < 60) (en : ∀ k, k < 4 → h 265 (5 * j + k) = .inl (Int32.ofNat (x k)) ∧ x k < 1000) (ev : h 264 j = .inl (Int32.ofNat (v + 11))) (hv : 9 ≤ v) (hv2 : v < 16) : kc_Con g (d + 12) 238 [.inr (.inr (.inl (some 259))), .inl (Int32.ofNat j)] h (fun rv h' => rv = some (.inl (Int32.ofNat (fa_act B A D M L v x).1)) ∧ fa_Hr h0 ((fa_act B A D M L v x).2) L h') := by
  rcases (show v = 9 ∨ v = 10 ∨ v = 11 ∨ v = 12 ∨ v = 13 ∨ v = 14 ∨ v = 15 by omega) with rfl | rfl | rfl | rfl | rfl | rfl | rfl
  · exact fa_r238_9 hg hBB hC0 hi hI hJ hS h5 hH hj en ev
  · exact fa_r238_10 hg hBB hC0 hi hI hJ hS h5 hH hj en ev
  · exact fa_r238_11 hg hBB hC0 hi hI hJ hS h5 hH hj en ev
  · exact fa_r238_12 hg hBB hC0 hi hI hJ hS h5 hH hj en ev
  · exact fa_r238_13 hg hBB hC0 hi hI hJ hS h5 hH hj en ev
  · exact fa_r238_14 hg hBB hC0 hi hI hJ hS h5 hH hj en ev
  · exact fa_r238_15 hg hBB hC0 hi hI hJ hS h5 hH hj en ev
end
section
-- 99.zpw
/-! ===== the acts: bounds and loads are kept by each act ===== -/
def fa_g (i p v : Nat) : Prop := (p = 0 → v ≤ i) ∧ (p = 2 → v ≤ 99 * i) ∧ (p = 3 → v ≤ 9 * i) ∧ (p = 4 → v < 6) ∧ (p = 5 → v ≤ i) ∧ (10 ≤ p → p < 20 → v ≤ 15) ∧ (30 ≤ p → p < 36 → v ≤ i) ∧ (60 ≤ p → p < 66 → v ≤ 9 + i) ∧ (70 ≤ p → p < 73 → v ≤ 99 * i)
theorem fa_s_le {A : Nat → Nat} {p v j u : Nat} (h1 : j = p → v ≤ u) (h2 : A j ≤ u) : fa_s A p v j ≤ u := by
  by_cases e : j = p
  · subst e; rw [fa_se]; exact h1 rfl
  · rw [fa_sn e]; exact h2
theorem fa_I_mono {B : Nat → Int32} {A : Nat → Nat} {L i k : Nat} (hI : fa_I B A L i) (h : i ≤ k) : fa_I B A L k := by
  obtain ⟨a0, a2, a3, a4, a5, al, ah, as, ap, ali, aso⟩ := hI
  exact ⟨by omega, by omega, by omega, a4, by omega, al, ah, fun s hs => by have := as s hs; omega, ap, fun p hp => by have := ali p hp; omega, fun m hm => by have := aso m hm; omega⟩
theorem fa_I_w {B : Nat → Int32} {A : Nat → Nat} {L i p v : Nat} (hL : L ≤ 10) (hI : fa_I B A L i) (hg : fa_g i p v) (n1 : ¬ (20 ≤ p ∧ p < 26)) (n2 : ¬ (40 ≤ p ∧ p < 58)) : fa_I B (fa_s A p v) L i := by
  obtain ⟨a0, a2, a3, a4, a5, al, ah, as, ap, ali, aso⟩ := hI
  obtain ⟨g0, g2, g3, g4, g5, gl, gs, gli, gso⟩ := hg
  refine ⟨fa_s_le (fun e => g0 e.symm) a0, fa_s_le (fun e => g2 e.symm) a2, fa_s_le (fun e => g3 e.symm) a3, ?_, fa_s_le (fun e => g5 e.symm) a5, fun l hl => fa_s_le (fun e => gl (by omega) (by omega)) (al l hl), fun s hs => fa_s_le (fun e => by omega) (ah s hs), fun s hs => fa_s_le (fun e => gs (by omega) (by omega)) (as s hs), fun s hs k hk => ?_, fun q hq => fa_s_le (fun e => gli (by omega) (by omega)) (ali q hq), fun m hm => fa_s_le (fun e => gso (by omega) (by omega)) (aso m hm)⟩
  · by_cases e : 4 = p
    · subst e; rw [fa_se]; exact g4 rfl
    · rw [fa_sn e]; exact a4
  · have h3 := ah s hs
    rw [fa_sn (by omega)] at hk
    rw [fa_sn (by omega)]
    exact ap s hs k hk
theorem fa_I_lo {B : Nat → Int32} {A : Nat → Nat} {L i s v : Nat} (hL : L ≤ 10) (hI : fa_I B A L i) (hs : s < 6) (hv : v ≤ A (20 + s)) : fa_I B (fa_s A (20 + s) v) L i := by
  obtain ⟨a0, a2, a3, a4, a5, al, ah, as, ap, ali, aso⟩ := hI
  refine ⟨by rw [fa_sn (by omega)]; exact a0, by rw [fa_sn (by omega)]; exact a2, by rw [fa_sn (by omega)]; exact a3, by rw [fa_sn (by omega)]; exact a4, by rw [fa_sn (by omega)]; exact a5, fun l hl => by rw [fa_sn (by omega)]; exact al l hl, fun t ht => fa_s_le (fun e => Nat.le_trans hv (ah s hs)) (ah t ht), fun t ht => by rw [fa_sn (by omega)]; exact as t ht, fun t ht k hk => ?_, fun q hq => by rw [fa_sn (by omega)]; exact ali q hq, fun m hm => by rw [fa_sn (by omega)]; exact aso m hm⟩
  have h3 := ah t ht
  have hk2 : k < A (20 + t) := by
    by_cases e : t = s
    · subst e; rw [fa_se] at hk; omega
    · rw [fa_sn (by omega)] at hk; exact hk
  rw [fa_sn (by omega)]
  exact ap t ht k hk2
theorem fa_I_pu {B : Nat → Int32} {A : Nat → Nat} {L i s l : Nat} (hL : L ≤ 10) (hI : fa_I B A L i) (hs : s < 6) (hk : A (20 + s) < 3) (hl : l < L) : fa_I B (fa_s (fa_s A (40 + 3 * s + A (20 + s)) l) (20 + s) (A (20 + s) + 1)) L i := by
  obtain ⟨a0, a2, a3, a4, a5, al, ah, as, ap, ali, aso⟩ := hI
  refine ⟨by rw [fa_sn (by omega), fa_sn (by omega)]; exact a0, by rw [fa_sn (by omega), fa_sn (by omega)]; exact a2, by rw [fa_sn (by omega), fa_sn (by omega)]; exact a3, by rw [fa_sn (by omega), fa_sn (by omega)]; exact a4, by rw [fa_sn (by omega), fa_sn (by omega)]; exact a5, fun l hl => by rw [fa_sn (by omega), fa_sn (by omega)]; exact al l hl, fun t ht => fa_h3p ah hk t ht, fun t ht => by rw [fa_sn (by omega), fa_sn (by omega)]; exact as t ht, fun t ht k hk2 => ?_, fun q hq => by rw [fa_sn (by omega), fa_sn (by omega)]; exact ali q hq, fun m hm => by rw [fa_sn (by omega), fa_sn (by omega)]; exact aso m hm⟩
  have h3 := ah t ht
  by_cases e : t = s
  · subst e
    rw [fa_se] at hk2
    rw [fa_sn (by omega)]
    by_cases e2 : k = A (20 + t)
    · subst e2; rw [fa_se]; exact hl
    · rw [fa_sn (by omega)]; exact ap t ht k (by omega)
  · rw [fa_sn (by omega), fa_sn (by omega)] at hk2
    rw [fa_sn (by omega), fa_sn (by omega)]
    exact ap t ht k hk2
theorem fa_I_push {B : Nat → Int32} {A : Nat → Nat} {L i s l : Nat} (hL : L ≤ 10) (hI : fa_I B A L i) (hs : s < 6) (hk : A (20 + s) < 3) (hl : l < L) : fa_I B (fa_push A s l) L i :=
  fa_I_w hL (fa_I_pu hL hI hs hk hl) ⟨fun _ => by omega, fun _ => by omega, fun _ => by omega, fun _ => by omega, fun _ => by omega, fun _ _ => by omega, fun _ _ => by omega, fun _ _ => by omega, fun _ _ => by omega⟩ (by omega) (by omega)
/-! what the SIDES bear -/
theorem fa_bw_s {B : Nat → Int32} {A : Nat → Nat} {p v s : Nat} (hs : s < 6) (h3 : A (20 + s) ≤ 3) (hp : ¬ (p < 58 ∧ (p = 5 ∨ 20 ≤ p))) : fa_bw B (fa_s A p v) s = fa_bw B A s := fa_bw_eq hs (by rw [fa_sn (by omega)]; exact h3) (fun j hj h => fa_sn (by omega))
theorem fa_b_cg {B : Nat → Int32} {A A' : Nat → Nat} {s : Nat} (h0 : A (30 + s) = A' (30 + s)) (h5 : A 5 = A' 5) : ∀ k, (∀ j, j < k → A (40 + 3 * s + j) = A' (40 + 3 * s + j)) → fa_b B A s k = fa_b B A' s k
  | 0, _ => by unfold fa_b; rw [h0]
  | k + 1, h => by
    unfold fa_b
    rw [fa_b_cg h0 h5 k (fun j hj => h j (by omega)), h k (by omega), h5]
theorem fa_bw_pu {B : Nat → Int32} {A : Nat → Nat} {s l : Nat} (hs : s < 6) (hl : l < 10) (hk : A (20 + s) < 3) : fa_bw B (fa_push A s l) s = fa_bw B A s + fa_w B l (A 5) ∧ ∀ t, t < 6 → ¬ t = s → A (20 + t) ≤ 3 → fa_bw B (fa_push A s l) t = fa_bw B A t := by
  unfold fa_push
  refine ⟨?_, fun t ht hne h3 => ?_⟩
  · unfold fa_bw
    rw [fa_sn (by omega), fa_se]
    show fa_b B _ s (A (20 + s)) + fa_w B _ _ = _
    rw [fa_sn (by omega), fa_sn (by omega), fa_se, fa_sn (j := 5) (by omega), fa_sn (j := 5) (by omega), fa_sn (j := 5) (by omega)]
    rw [fa_b_cg (A' := A) (by rw [fa_sn (by omega), fa_sn (by omega), fa_sn (by omega)]) (by rw [fa_sn (by omega), fa_sn (by omega), fa_sn (by omega)]) (A (20 + s)) (fun j hj => by rw [fa_sn (by omega), fa_sn (by omega), fa_sn (by omega)])]
  · have e20 : fa_s (fa_s (fa_s A (40 + 3 * s + A (20 + s)) l) (20 + s) (A (20 + s) + 1)) (10 + l) (10 + s) (20 + t) = A (20 + t) := by
      rw [fa_sn (by omega), fa_sn (by omega), fa_sn (by omega)]
    unfold fa_bw
    rw [e20]
    exact fa_b_cg (by rw [fa_sn (by omega), fa_sn (by omega), fa_sn (by omega)]) (by rw [fa_sn (by omega), fa_sn (by omega), fa_sn (by omega)]) _ (fun j hj => by rw [fa_sn (by omega), fa_sn (by omega), fa_sn (by omega)])
theorem fa_bw_po {B : Nat → Int32} {A : Nat → Nat} {s : Nat} (hs : s < 6) (h3 : A (20 + s) ≤ 3) (hk : ¬ A (20 + s) = 0) : fa_bw B (fa_s A (20 + s) (A (20 + s) - 1)) s + fa_w B (fa_top A s) (A 5) = fa_bw B A s ∧ ∀ t, t < 6 → ¬ t = s → A (20 + t) ≤ 3 → fa_bw B (fa_s A (20 + s) (A (20 + s) - 1)) t = fa_bw B A t := by
  refine ⟨?_, fun t ht hne h3 => ?_⟩
  · obtain ⟨k, ek⟩ : ∃ k, A (20 + s) = k + 1 := ⟨A (20 + s) - 1, by omega⟩
    unfold fa_bw fa_top
    rw [fa_se, ek, Nat.add_sub_cancel]
    show _ = fa_b B A s k + fa_w B (A (40 + 3 * s + k)) (A 5)
    rw [fa_b_cg (A' := A) (by rw [fa_sn (by omega)]) (by rw [fa_sn (by omega)]) k (fun j hj => by rw [fa_sn (by omega)])]
  · unfold fa_bw
    rw [fa_sn (by omega)]
    exact fa_b_cg (by rw [fa_sn (by omega)]) (by rw [fa_sn (by omega)]) _ (fun j hj => by rw [fa_sn (by omega)])
theorem fa_M_eq {B : Nat → Int32} {A A' : Nat → Nat} {M : Nat} (hM : M ≤ 3) (hMx : fa_M B A M) (h : ∀ s, s < 6 → fa_bw B A' s ≤ fa_bw B A s) : fa_M B A' M := fun m hm => by
  have h1 := hMx m hm
  have h2 := h (2 * m) (by omega)
  have h3 := h (2 * m + 1) (by omega)
  omega
theorem fa_M_w {B : Nat → Int32} {A : Nat → Nat} {M p v : Nat} (hM : M ≤ 3) (hMx : fa_M B A M) (h3 : ∀ s, s < 6 → A (20 + s) ≤ 3) (hp : ¬ (p < 58 ∧ (p = 5 ∨ 20 ≤ p))) : fa_M B (fa_s A p v) M := fa_M_eq hM hMx (fun s hs => Nat.le_of_eq (fa_bw_s hs (h3 s hs) hp))
theorem fa_cm_ok {B : Nat → Int32} {A : Nat → Nat} {l s m t : Nat} {nw : Bool} (h : fa_cm B A l s m t nw = 0) : fa_okP B A m t (fa_w B l (A 5)) nw := by
  unfold fa_cm at h
  split at h
  · cases h
  · split at h
    · cases h
    · split at h
      · rename_i h1
        unfold fa_ok at h1
        rw [Bool.and_eq_true, decide_eq_true_eq, decide_eq_true_eq] at h1
        exact h1
      · cases h
theorem fa_M_pu {B : Nat → Int32} {A : Nat → Nat} {M m t l : Nat} (hM : M ≤ 3) (h3 : ∀ s, s < 6 → A (20 + s) ≤ 3) (hm : m < M) (ht : t < 2) (hl : l < 10) (hk : A (20 + (2 * m + t)) < 3) (hMx : fa_M B A M) (hok : fa_bw B A (2 * m) + fa_bw B A (2 * m + 1) + fa_w B l (A 5) ≤ fa_n B (60 + 5 * m + 0)) : fa_M B (fa_push A (2 * m + t) l) M := fun j hj => by
  obtain ⟨p1, p2⟩ := fa_bw_pu (B := B) (A := A) (s := 2 * m + t) (l := l) (by omega) hl hk
  by_cases e : j = m
  · subst e
    rcases (show t = 0 ∨ t = 1 by omega) with rfl | rfl
    · have q := p2 (2 * j + 1) (by omega) (by omega) (h3 _ (by omega))
      rw [Nat.add_zero] at p1 q ⊢
      omega
    · have q := p2 (2 * j) (by omega) (by omega) (h3 _ (by omega))
      omega
  · rw [p2 (2 * j) (by omega) (by omega) (h3 _ (by omega)), p2 (2 * j + 1) (by omega) (by omega) (h3 _ (by omega))]
    exact hMx j hj
theorem fa_b_st {B : Nat → Int32} {A : Nat → Nat} {s v : Nat} (hs : s < 6) : ∀ k, k ≤ 3 → fa_b B (fa_s A (30 + s) v) s k + A (30 + s) * fa_n B 4 = fa_b B A s k + v * fa_n B 4
  | 0, _ => by
    unfold fa_b
    rw [fa_se]
    omega
  | k + 1, hk => by
    have ih := fa_b_st (B := B) (A := A) (v := v) hs k (by omega)
    unfold fa_b
    rw [fa_sn (show ¬ 40 + 3 * s + k = 30 + s by omega), fa_sn (show ¬ 5 = 30 + s by omega)]
    omega
theorem fa_bw_st {B : Nat → Int32} {A : Nat → Nat} {s v : Nat} (hs : s < 6) (h3 : A (20 + s) ≤ 3) : fa_bw B (fa_s A (30 + s) v) s + A (30 + s) * fa_n B 4 = fa_bw B A s + v * fa_n B 4 ∧ ∀ t, t < 6 → ¬ t = s → fa_bw B (fa_s A (30 + s) v) t = fa_bw B A t := by
  refine ⟨?_, fun t ht hne => ?_⟩
  · unfold fa_bw
    rw [fa_sn (show ¬ 20 + s = 30 + s by omega)]
    exact fa_b_st hs _ h3
  · unfold fa_bw
    rw [fa_sn (show ¬ 20 + t = 30 + s by omega)]
    refine fa_b_cg (by rw [fa_sn (by omega)]) (by rw [fa_sn (by omega)]) _ (fun j hj => ?_)
    by_cases e : 40 + 3 * t + j = 30 + s
    · omega
    · rw [fa_sn e]
theorem fa_b_go {B : Nat → Int32} {A : Nat → Nat} {s : Nat} (hs : s < 6) : ∀ k, k ≤ 3 → fa_b B (fa_s A 5 (A 5 + 1)) s k ≤ fa_b B A s k
  | 0, _ => by
    unfold fa_b
    rw [fa_sn (by omega)]
    exact Nat.le_refl _
  | k + 1, hk => by
    have ih := fa_b_go (B := B) (A := A) hs k (by omega)
    unfold fa_b
    rw [fa_sn (show ¬ 40 + 3 * s + k = 5 by omega), fa_se]
    have : fa_w B (A (40 + 3 * s + k)) (A 5 + 1) ≤ fa_w B (A (40 + 3 * s + k)) (A 5) := by
      unfold fa_w
      rw [Nat.mul_add, Nat.mul_one]
      omega
    omega
theorem fa_bw_go {B : Nat → Int32} {A : Nat → Nat} {s : Nat} (hs : s < 6) (h3 : A (20 + s) ≤ 3) : fa_bw B (fa_s A 5 (A 5 + 1)) s ≤ fa_bw B A s := by
  unfold fa_bw
  rw [fa_sn (show ¬ 20 + s = 5 by omega)]
  exact fa_b_go hs _ h3
/-- kept: the bounds and the loads -/
def fa_K (B : Nat → Int32) (M L i : Nat) (A : Nat → Nat) : Prop := fa_I B A L i ∧ fa_M B A M
theorem fa_K_hang {B : Nat → Int32} {A : Nat → Nat} {M L i l m s : Nat} (hM : M ≤ 3) (hL : L ≤ 10) (hK : fa_K B M L i A) : fa_K B M L i (fa_hang B A L M l m s).2 := by
  unfold fa_hang
  have h3 := hK.1.2.2.2.2.2.2.1
  split
  · rename_i c1
    split
    · rename_i c2
      split
      · split
        · rename_i c4
          have lt := fa_cm_lt (h3 (2 * m + s) (by omega)) c4
          have ok := (fa_cm_ok c4).2
          rw [if_pos rfl] at ok
          exact ⟨fa_I_push hL hK.1 (by omega) lt c1, fa_M_pu hM h3 c2.1 c2.2 (by omega) lt hK.2 ok⟩
        · exact hK
      · exact hK
    · exact hK
  · exact hK
theorem fa_K_take {B : Nat → Int32} {A : Nat → Nat} {M L i m s : Nat} (hM : M ≤ 3) (hL : L ≤ 10) (hK : fa_K B M L i A) : fa_K B M L i (fa_take A M m s).2 := by
  unfold fa_take
  have h3 := hK.1.2.2.2.2.2.2.1
  split
  · rename_i c2
    split
    · exact hK
    · rename_i c3
      have s6 : 2 * m + s < 6 := by omega
      have htl : fa_top A (2 * m + s) < L := hK.1.2.2.2.2.2.2.2.2.1 _ s6 (A (20 + (2 * m + s)) - 1) (by omega)
      have a4 := hK.1.2.2.2.1
      have I1 := fa_I_lo hL hK.1 s6 (Nat.sub_le (A (20 + (2 * m + s))) 1)
      have p1 := fa_bw_po (B := B) s6 (h3 _ s6) c3
      refine ⟨fa_I_w hL I1 ⟨fun _ => by omega, fun _ => by omega, fun _ => by omega, fun _ => by omega, fun _ => by omega, fun _ _ => by omega, fun _ _ => by omega, fun _ _ => by omega, fun _ _ => by omega⟩ (by omega) (by omega), fa_M_w hM (fa_M_eq hM hK.2 (fun t ht => ?_)) (fun t ht => I1.2.2.2.2.2.2.1 t ht) (by omega)⟩
      by_cases e : t = 2 * m + s
      · subst e; have := p1.1; omega
      · exact Nat.le_of_eq (p1.2 t ht e (h3 t ht))
  · exact hK
theorem fa_K_move {B : Nat → Int32} {A : Nat → Nat} {M L i m s k t : Nat} (hM : M ≤ 3) (hL : L ≤ 10) (hK : fa_K B M L i A) : fa_K B M L i (fa_move B A M m s k t).2 := by
  unfold fa_move
  have h3 := hK.1.2.2.2.2.2.2.1
  split
  · rename_i c2
    split
    · rename_i c3
      split
      · exact hK
      · rename_i c4
        split
        · exact hK
        · rename_i c5
          split
          · rename_i c6
            have s6 : 2 * m + s < 6 := by omega
            have t6 : 2 * k + t < 6 := by omega
            have ne : ¬ 2 * k + t = 2 * m + s := by omega
            have htl : fa_top A (2 * m + s) < L := hK.1.2.2.2.2.2.2.2.2.1 _ s6 (A (20 + (2 * m + s)) - 1) (by omega)
            have I1 := fa_I_lo hL hK.1 s6 (Nat.sub_le (A (20 + (2 * m + s))) 1)
            have h31 := I1.2.2.2.2.2.2.1
            obtain ⟨p1, p2⟩ := fa_bw_po (B := B) s6 (h3 _ s6) c5
            have lt : fa_s A (20 + (2 * m + s)) (A (20 + (2 * m + s)) - 1) (20 + (2 * k + t)) < 3 := by rw [fa_sn (by omega)]; exact fa_cm_lt (h3 _ t6) c6
            have ok := (fa_cm_ok c6).2
            have M1 : fa_M B (fa_s A (20 + (2 * m + s)) (A (20 + (2 * m + s)) - 1)) M := fa_M_eq hM hK.2 (fun u hu => by
              by_cases e : u = 2 * m + s
              · subst e; omega
              · exact Nat.le_of_eq (p2 u hu e (h3 u hu)))
            refine ⟨fa_I_push hL I1 t6 lt htl, fa_M_pu hM h31 c3.1 c3.2 (by omega) lt M1 ?_⟩
            rw [fa_sn (show ¬ 5 = 20 + (2 * m + s) by omega)]
            by_cases e : m = k
            · subst e
              have hx := hK.2 m c2.1
              rcases (show s = 0 ∨ s = 1 by omega) with rfl | rfl
              · have q := p2 (2 * m + 1) (by omega) (by omega) (h3 _ (by omega))
                rw [Nat.add_zero] at p1 q ⊢
                omega
              · have q := p2 (2 * m) (by omega) (by omega) (h3 _ (by omega))
                omega
            · rw [decide_eq_false e, Bool.not_false, if_pos rfl] at ok
              rw [p2 (2 * k) (by omega) (by omega) (h3 _ (by omega)), p2 (2 * k + 1) (by omega) (by omega) (h3 _ (by omega))]
              exact ok
          · exact hK
    · exact hK
  · exact hK
theorem fa_K_add {B : Nat → Int32} {A : Nat → Nat} {M L i m s : Nat} (hM : M ≤ 3) (hL : L ≤ 10) (hs1 : ∀ s, s < 6 → A (30 + s) + 1 ≤ i) (hK : fa_K B M L i A) : fa_K B M L i (fa_add B A M m s).2 := by
  unfold fa_add
  have h3 := hK.1.2.2.2.2.2.2.1
  split
  · rename_i c2
    split
    · exact hK
    · split
      · rename_i c4
        have s6 : 2 * m + s < 6 := by omega
        have a4 := hK.1.2.2.2.1
        have hl := hK.1.2.2.2.2.2.2.2.2.2.1 (A 4) a4
        have h1 := hs1 _ s6
        have I1 : fa_I B (fa_s A (60 + A 4) (A (60 + A 4) - 1)) L i := fa_I_w hL hK.1 ⟨fun _ => by omega, fun _ => by omega, fun _ => by omega, fun _ => by omega, fun _ => by omega, fun _ _ => by omega, fun _ _ => by omega, fun _ _ => by omega, fun _ _ => by omega⟩ (by omega) (by omega)
        refine ⟨fa_I_w hL I1 ⟨fun _ => by omega, fun _ => by omega, fun _ => by omega, fun _ => by omega, fun _ => by omega, fun _ _ => by omega, fun _ _ => by omega, fun _ _ => by omega, fun _ _ => by omega⟩ (by omega) (by omega), fun j hj => ?_⟩
        have ok : fa_okP B A m s (fa_n B 4) true := by
          unfold fa_ok at c4
          rw [Bool.and_eq_true, decide_eq_true_eq, decide_eq_true_eq] at c4
          exact c4
        have ok2 := ok.2
        rw [if_pos rfl] at ok2
        have e1 : ∀ u, u < 6 → fa_bw B (fa_s A (60 + A 4) (A (60 + A 4) - 1)) u = fa_bw B A u := fun u hu => fa_bw_s hu (h3 u hu) (by omega)
        have e30 : fa_s A (60 + A 4) (A (60 + A 4) - 1) (30 + (2 * m + s)) = A (30 + (2 * m + s)) := fa_sn (by omega)
        obtain ⟨p1, p2⟩ := fa_bw_st (B := B) (A := fa_s A (60 + A 4) (A (60 + A 4) - 1)) (v := A (30 + (2 * m + s)) + 1) s6 (by rw [fa_sn (by omega)]; exact h3 _ s6)
        rw [e30, e1 _ s6, Nat.add_mul, Nat.one_mul] at p1
        by_cases e : j = m
        · subst e
          rcases (show s = 0 ∨ s = 1 by omega) with rfl | rfl
          · have q := p2 (2 * j + 1) (by omega) (by omega)
            rw [e1 _ (by omega)] at q
            rw [Nat.add_zero] at p1 q ⊢
            dsimp only
            omega
          · have q := p2 (2 * j) (by omega) (by omega)
            rw [e1 _ (by omega)] at q
            dsimp only
            omega
        · rw [p2 (2 * j) (by omega) (by omega), p2 (2 * j + 1) (by omega) (by omega), e1 _ (by omega), e1 _ (by omega)]
          exact hK.2 j hj
      · exact hK
  · exact hK
theorem fa_K_drop {B : Nat → Int32} {A : Nat → Nat} {M L i m s : Nat} (hM : M ≤ 3) (hL : L ≤ 10) (hl1 : ∀ p, p < 6 → A (60 + p) + 1 ≤ 9 + i) (hK : fa_K B M L i A) : fa_K B M L i (fa_drop A M m s).2 := by
  unfold fa_drop
  have h3 := hK.1.2.2.2.2.2.2.1
  split
  · rename_i c2
    split
    · exact hK
    · rename_i c3
      have s6 : 2 * m + s < 6 := by omega
      have a4 := hK.1.2.2.2.1
      have hs := hK.1.2.2.2.2.2.2.2.1 _ s6
      have h1 := hl1 (A 4) a4
      have I1 : fa_I B (fa_s A (30 + (2 * m + s)) (A (30 + (2 * m + s)) - 1)) L i := fa_I_w hL hK.1 ⟨fun _ => by omega, fun _ => by omega, fun _ => by omega, fun _ => by omega, fun _ => by omega, fun _ _ => by omega, fun _ _ => by omega, fun _ _ => by omega, fun _ _ => by omega⟩ (by omega) (by omega)
      obtain ⟨p1, p2⟩ := fa_bw_st (B := B) (A := A) (v := A (30 + (2 * m + s)) - 1) s6 (h3 _ s6)
      have hmul : (A (30 + (2 * m + s)) - 1) * fa_n B 4 ≤ A (30 + (2 * m + s)) * fa_n B 4 := Nat.mul_le_mul_right _ (Nat.sub_le _ _)
      refine ⟨fa_I_w hL I1 ⟨fun _ => by omega, fun _ => by omega, fun _ => by omega, fun _ => by omega, fun _ => by omega, fun _ _ => by omega, fun _ _ => by omega, fun _ _ => by omega, fun _ _ => by omega⟩ (by omega) (by omega), fa_M_w hM (fa_M_eq hM hK.2 (fun t ht => ?_)) (fun t ht => I1.2.2.2.2.2.2.1 t ht) (by omega)⟩
      by_cases e : t = 2 * m + s
      · subst e; omega
      · exact Nat.le_of_eq (p2 t ht e)
  · exact hK
theorem fa_K_mi {B : Nat → Int32} {M L i : Nat} (hM : M ≤ 3) (hL : L ≤ 10) : ∀ (r : Nat) (A : Nat → Nat), fa_K B M L i A → A 2 + r ≤ 99 * i → (∀ m, m < 3 → A (70 + m) + r ≤ 99 * i) → fa_K B M L i (fa_mi B M r A).2 ∧ (fa_mi B M r A).2 5 = A 5
  | 0, A, hK, _, _ => ⟨hK, rfl⟩
  | r + 1, A, hK, hJ, hS => by
    have h3 := hK.1.2.2.2.2.2.2.1
    have I2 := fa_I_n2 (v := A 2 + 1) hL hK.1 (by omega)
    have s2 : ∀ m, m < 3 → fa_s A 2 (A 2 + 1) (70 + m) + 1 ≤ 99 * i := fun m hm => by have := hS m hm; rw [fa_sn (by omega)]; omega
    have I3 := fa_I_sr (m := M) hL I2 s2 hM
    have M2 : fa_M B (fa_sr B (fa_s A 2 (A 2 + 1)) M) M := fa_M_eq hM hK.2 (fun t ht => by
      rw [fa_bw_sr ht (fun u hu => by rw [fa_sn (by omega)]; exact h3 u hu), fa_bw_s ht (h3 t ht) (by omega)]
      exact Nat.le_refl _)
    have e5 : fa_sr B (fa_s A 2 (A 2 + 1)) M 5 = A 5 := by rw [fa_sr_o (by omega), fa_sn (by omega)]
    have um : fa_mi B M (r + 1) A = if fa_fr B (fa_s A 2 (A 2 + 1)) M = true then (6, fa_sr B (fa_s A 2 (A 2 + 1)) M) else fa_mi B M r (fa_sr B (fa_s A 2 (A 2 + 1)) M) := rfl
    rw [um]
    split
    · exact ⟨⟨I3, M2⟩, e5⟩
    · obtain ⟨q1, q2⟩ := fa_K_mi hM hL r _ ⟨I3, M2⟩ (by rw [fa_sr_o (by omega), fa_se]; omega) (fun m hm => by have := fa_sr_b (B := B) (A := fa_s A 2 (A 2 + 1)) (X := 99 * i - r) (fun j hj => by have := hS j hj; rw [fa_sn (by omega)]; omega) M hM m hm; have := hS m hm; omega)
      exact ⟨q1, q2.trans e5⟩
theorem fa_K_go {B : Nat → Int32} {A : Nat → Nat} {D M L i e : Nat} (hB : fu_BT B) (hD : D ≤ 5) (hM : M ≤ 3) (hL : L ≤ 10) (hJ : A 2 + 99 ≤ 99 * i) (hS : ∀ m, m < 3 → A (70 + m) + 99 ≤ 99 * i) (h5 : A 5 + 1 ≤ i) (hK : fa_K B M L i A) : fa_K B M L i (fa_go B A D M e).2 := by
  unfold fa_go
  split
  · rename_i c1
    split
    · exact hK
    · split
      · exact hK
      · have ng := (fa_ng hB hK.1.2.2.2.1 (show e < 6 by omega)).2
        obtain ⟨q1, q2⟩ := fa_K_mi (B := B) hM hL (fa_n B (10 + 6 * A 4 + e)) A hK (by omega) (fun m hm => by have := hS m hm; omega)
        unfold fa_fin
        split
        · generalize (fa_mi B M (fa_n B (10 + 6 * A 4 + e)) A).2 = A1 at q1 q2 ⊢
          have h3 := q1.1.2.2.2.2.2.2.1
          have I1 : fa_I B (fa_s A1 4 e) L i := fa_I_w hL q1.1 ⟨fun _ => by omega, fun _ => by omega, fun _ => by omega, fun _ => by omega, fun _ => by omega, fun _ _ => by omega, fun _ _ => by omega, fun _ _ => by omega, fun _ _ => by omega⟩ (by omega) (by omega)
          have M1 : fa_M B (fa_s A1 4 e) M := fa_M_w hM q1.2 h3 (by omega)
          have e5 : fa_s A1 4 e 5 = A1 5 := fa_sn (by omega)
          rw [← e5]
          refine ⟨fa_I_w hL I1 ⟨fun _ => by omega, fun _ => by omega, fun _ => by omega, fun _ => by omega, fun _ => by omega, fun _ _ => by omega, fun _ _ => by omega, fun _ _ => by omega, fun _ _ => by omega⟩ (by omega) (by omega), fa_M_eq hM M1 (fun s hs => fa_bw_go hs (by rw [fa_sn (by omega)]; exact h3 s hs))⟩
        · exact q1
  · exact hK
theorem fa_K_act {B : Nat → Int32} {A : Nat → Nat} {D M L i v : Nat} {x : Nat → Nat} (hB : fu_BT B) (hD : D ≤ 5) (hM : M ≤ 3) (hL : L ≤ 10) (hI : fa_I B A L i) (hMx : fa_M B A M) : fa_K B M L (i + 1) (fa_act B A D M L v x).2 := by
  have hK : fa_K B M L (i + 1) A := ⟨fa_I_mono hI (by omega), hMx⟩
  obtain ⟨a0, a2, a3, a4, a5, al, ah, as, ap, ali, aso⟩ := hI
  unfold fa_act
  split
  · exact fa_K_hang hM hL hK
  · split
    · exact fa_K_take hM hL hK
    · split
      · exact fa_K_move hM hL hK
      · split
        · exact fa_K_move hM hL hK
        · split
          · exact fa_K_add hM hL (fun s hs => by have := as s hs; omega) hK
          · split
            · exact fa_K_drop hM hL (fun p hp => by have := ali p hp; omega) hK
            · exact fa_K_go hB hD hM hL (by omega) (fun m hm => by have := aso m hm; omega) (by omega) hK
end
