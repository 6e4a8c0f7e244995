section
-- 99.zd
/-! ===== the day: an item told, reference ===== -/
set_option maxRecDepth 20000 in
theorem kv_num {g : kc_G} {d i k x : Nat} {h : kc_H} (hg : kc_ok g) (hi : i < 60) (hk : k < 4) (h12 : h 259 12 = .inr (.inr (.inl (some 265)))) (hx : h 265 (5 * i + k) = .inl (Int32.ofNat x)) : kc_Con g (d + 1) 236 [.inr (.inr (.inl (some 259))), .inl (Int32.ofNat i), .inl (Int32.ofNat k)] h (fun rv h' => rv = some (.inl (Int32.ofNat x)) ∧ h' = h) := by
  refine kc_Con_new hg (M := wk_m236) rfl rfl rfl (show 3 ≤ 3 by decide) ?_
  refine kx_go 1 (pc' := 1) (L' := [(0, .inr (.inr (.inl (some 259)))), (1, .inl (Int32.ofNat i)), (2, .inl (Int32.ofNat k))]) (S' := [.inr (.inr (.inl (some 259)))]) (h' := h) (by with_unfolding_all rfl) ?_
  refine kx_getf (c := 259) (v := .inr (.inr (.inl (some 265)))) rfl (by decide) h12 ?_
  refine kx_go 5 (pc' := 9) (L' := [(0, .inr (.inr (.inl (some 259)))), (1, .inl (Int32.ofNat i)), (2, .inl (Int32.ofNat k))]) (S' := [.inl (((Int32.ofNat 5) * (Int32.ofNat i)) + (Int32.ofNat k)), .inr (.inr (.inl (some 265)))]) (h' := h) (by with_unfolding_all rfl) ?_
  rw [← Int32.ofNat_mul, ← Int32.ofNat_add]
  refine kx_iald rfl (c := 265) (j := 5 * i + k) (m := 1200) (v := .inl (Int32.ofNat x)) rfl (by decide) (by decide) (by omega) hx ?_
  exact kc_ret_ok rfl (rv := some (.inl (Int32.ofNat x))) rfl ⟨rfl, rfl⟩
theorem kv_kr : kd_rn (kd_ty 259) 11 = some (3, 264, 264) ∧ kd_rn (kd_ty 259) 12 = some (3, 265, 265) := by decide +kernel
set_option maxRecDepth 20000 in
theorem kv_item0 {g : kc_G} {h : kc_H} {i D M L : Nat} {f n : Nat → Nat} (hg : kc_ok g) (hw : kd_wt kd_ty h) (hi : i < 60) (hC : kv_Rs h D M L f) (ev : h 264 i = .inl (Int32.ofNat 10)) (en : ∀ k, k < 4 → h 265 (5 * i + k) = .inl (Int32.ofNat (n k)) ∧ n k < 1000) : kc_Con g 6 235 [.inr (.inr (.inl (some 259))), .inl (Int32.ofNat i)] h (kv_Pr h (kv_step 0 n D M L f)) := by
  obtain ⟨hC, ef⟩ := hC
  obtain ⟨hD, hM, hL, eD, eM, eL⟩ := hC
  have hC : kv_R h D M L := ⟨hD, hM, hL, eD, eM, eL⟩
  obtain ⟨en0, nb0⟩ := en 0 (by omega)
  have t0 : (Int32.ofNat (n 0)).toInt = n 0 := kx_ti (by omega)
  obtain ⟨en1, nb1⟩ := en 1 (by omega)
  have t1 : (Int32.ofNat (n 1)).toInt = n 1 := kx_ti (by omega)
  obtain ⟨en2, nb2⟩ := en 2 (by omega)
  have t2 : (Int32.ofNat (n 2)).toInt = n 2 := kx_ti (by omega)
  obtain ⟨en3, nb3⟩ := en 3 (by omega)
  have t3 : (Int32.ofNat (n 3)).toInt = n 3 := kx_ti (by omega)
  have h11 := kx_ofr (hw _ _ _ kv_kr.1)
  have h12 := kx_ofr (hw _ _ _ kv_kr.2)
  refine kc_Con_new hg (M := wk_m235) rfl rfl rfl (show 2 ≤ 5 by decide) ?_
  refine kx_go 3 (pc' := 3) (L' := [(0, .inr (.inr (.inl (some 259)))), (1, .inl (Int32.ofNat i))]) (S' := [.inl (Int32.ofNat 0), .inl (Int32.ofNat i), .inr (.inr (.inl (some 259)))]) (h' := h) (by with_unfolding_all rfl) ?_
  refine kc_call_rule (M2 := wk_m236) (av := [.inr (.inr (.inl (some 259))), .inl (Int32.ofNat i), .inl (Int32.ofNat 0)]) (r := []) rfl rfl (kc_Con_le (kv_num (d := 0) (x := n 0) hg hi (by decide) h12 en0) (by decide)) (fun rv h' hq => ?_)
  obtain ⟨rfl, rfl⟩ := hq
  show kc_Ev g 5 wk_m235 _ 6 [(0, .inr (.inr (.inl (some 259)))), (1, .inl (Int32.ofNat i))] [.inl (Int32.ofNat (n 0))] h'
  refine kx_go 4 (pc' := 10) (L' := [(2, .inl (Int32.ofNat (n 0))), (0, .inr (.inr (.inl (some 259)))), (1, .inl (Int32.ofNat i))]) (S' := [.inl (Int32.ofNat 1), .inl (Int32.ofNat i), .inr (.inr (.inl (some 259)))]) (h' := h') (by with_unfolding_all rfl) ?_
  refine kc_call_rule (M2 := wk_m236) (av := [.inr (.inr (.inl (some 259))), .inl (Int32.ofNat i), .inl (Int32.ofNat 1)]) (r := []) rfl rfl (kc_Con_le (kv_num (d := 0) (x := n 1) hg hi (by decide) h12 en1) (by decide)) (fun rv h' hq => ?_)
  obtain ⟨rfl, rfl⟩ := hq
  show kc_Ev g 5 wk_m235 _ 13 [(2, .inl (Int32.ofNat (n 0))), (0, .inr (.inr (.inl (some 259)))), (1, .inl (Int32.ofNat i))] [.inl (Int32.ofNat (n 1))] h'
  refine kx_go 4 (pc' := 17) (L' := [(3, .inl (Int32.ofNat (n 1))), (2, .inl (Int32.ofNat (n 0))), (0, .inr (.inr (.inl (some 259)))), (1, .inl (Int32.ofNat i))]) (S' := [.inl (Int32.ofNat 2), .inl (Int32.ofNat i), .inr (.inr (.inl (some 259)))]) (h' := h') (by with_unfolding_all rfl) ?_
  refine kc_call_rule (M2 := wk_m236) (av := [.inr (.inr (.inl (some 259))), .inl (Int32.ofNat i), .inl (Int32.ofNat 2)]) (r := []) rfl rfl (kc_Con_le (kv_num (d := 0) (x := n 2) hg hi (by decide) h12 en2) (by decide)) (fun rv h' hq => ?_)
  obtain ⟨rfl, rfl⟩ := hq
  show kc_Ev g 5 wk_m235 _ 20 [(3, .inl (Int32.ofNat (n 1))), (2, .inl (Int32.ofNat (n 0))), (0, .inr (.inr (.inl (some 259)))), (1, .inl (Int32.ofNat i))] [.inl (Int32.ofNat (n 2))] h'
  refine kx_go 2 (pc' := 23) (L' := [(4, .inl (Int32.ofNat (n 2))), (3, .inl (Int32.ofNat (n 1))), (2, .inl (Int32.ofNat (n 0))), (0, .inr (.inr (.inl (some 259)))), (1, .inl (Int32.ofNat i))]) (S' := [.inr (.inr (.inl (some 259)))]) (h' := h') (by with_unfolding_all rfl) ?_
  refine kx_getf (c := 259) (v := .inr (.inr (.inl (some 264)))) rfl (by decide) h11 ?_
  refine kx_go 1 (pc' := 27) (L' := [(4, .inl (Int32.ofNat (n 2))), (3, .inl (Int32.ofNat (n 1))), (2, .inl (Int32.ofNat (n 0))), (0, .inr (.inr (.inl (some 259)))), (1, .inl (Int32.ofNat i))]) (S' := [.inl (Int32.ofNat i), .inr (.inr (.inl (some 264)))]) (h' := h') (by with_unfolding_all rfl) ?_
  refine kx_iald rfl (c := 264) (j := i) (m := 240) (v := .inl (Int32.ofNat 10)) rfl (by decide) (by decide) (by omega) ev ?_
  refine kx_go 1 (pc' := 76) (L' := [(4, .inl (Int32.ofNat (n 2))), (3, .inl (Int32.ofNat (n 1))), (2, .inl (Int32.ofNat (n 0))), (0, .inr (.inr (.inl (some 259)))), (1, .inl (Int32.ofNat i))]) (S' := []) (h' := h') (by with_unfolding_all rfl) ?_
  refine kx_go 4 (pc' := 81) (L' := [(4, .inl (Int32.ofNat (n 2))), (3, .inl (Int32.ofNat (n 1))), (2, .inl (Int32.ofNat (n 0))), (0, .inr (.inr (.inl (some 259)))), (1, .inl (Int32.ofNat i))]) (S' := [.inl (Int32.ofNat (n 2)), .inl (Int32.ofNat (n 1)), .inl (Int32.ofNat (n 0)), .inr (.inr (.inl (some 259)))]) (h' := h') (by with_unfolding_all rfl) ?_
  refine kc_call_rule (M2 := wk_m34) (av := [.inr (.inr (.inl (some 259))), .inl (Int32.ofNat (n 0)), .inl (Int32.ofNat (n 1)), .inl (Int32.ofNat (n 2))]) (r := []) rfl rfl (kc_Con_le (kv_rmule hg hw hC) (by decide)) (fun rv h2 hq => ?_)
  obtain ⟨r, rfl, hw2, hfr, hq⟩ := hq
  refine kc_ret_ok rfl (rv := some (.inl r)) rfl ⟨r, rfl, hw2, ?_, ?_⟩
  · exact kd_cvW_r [(260, 260, 1, 1), (260, 260, 60, 74)] (by decide) hfr
  · rcases hq with ⟨k, r0, e1⟩ | ⟨k, r0, rfl⟩
    · refine Or.inl ⟨D, M + 1, L, f, if_pos (by omega), r0, ⟨by omega, by omega, by omega, ?_, ?_, ?_⟩, fun i hi => ?_⟩
      · exact (kv_fr1 hfr (by decide)).trans eD
      · exact e1
      · exact (kv_fr1 hfr (by decide)).trans eL
      · exact ⟨(ef i hi).1, (kv_fr1 hfr ((show ∀ i, i < 6 → (([(260, 260, 1, 1), (260, 260, 60, 74)] : kd_W).all fun q => !kd_inr 260 q.1 q.2.1 (46 + i) q.2.2.1 q.2.2.2) = true from by decide) i hi)).trans (ef i hi).2⟩
    · exact Or.inr ⟨if_neg (by omega), r0⟩
set_option maxRecDepth 20000 in
theorem kv_item1 {g : kc_G} {h : kc_H} {i D M L : Nat} {f n : Nat → Nat} (hg : kc_ok g) (hw : kd_wt kd_ty h) (hi : i < 60) (hC : kv_Rs h D M L f) (ev : h 264 i = .inl (Int32.ofNat 11)) (en : ∀ k, k < 4 → h 265 (5 * i + k) = .inl (Int32.ofNat (n k)) ∧ n k < 1000) : kc_Con g 6 235 [.inr (.inr (.inl (some 259))), .inl (Int32.ofNat i)] h (kv_Pr h (kv_step 1 n D M L f)) := by
  obtain ⟨hC, ef⟩ := hC
  obtain ⟨hD, hM, hL, eD, eM, eL⟩ := hC
  have hC : kv_R h D M L := ⟨hD, hM, hL, eD, eM, eL⟩
  obtain ⟨en0, nb0⟩ := en 0 (by omega)
  have t0 : (Int32.ofNat (n 0)).toInt = n 0 := kx_ti (by omega)
  obtain ⟨en1, nb1⟩ := en 1 (by omega)
  have t1 : (Int32.ofNat (n 1)).toInt = n 1 := kx_ti (by omega)
  obtain ⟨en2, nb2⟩ := en 2 (by omega)
  have t2 : (Int32.ofNat (n 2)).toInt = n 2 := kx_ti (by omega)
  obtain ⟨en3, nb3⟩ := en 3 (by omega)
  have t3 : (Int32.ofNat (n 3)).toInt = n 3 := kx_ti (by omega)
  have h11 := kx_ofr (hw _ _ _ kv_kr.1)
  have h12 := kx_ofr (hw _ _ _ kv_kr.2)
  refine kc_Con_new hg (M := wk_m235) rfl rfl rfl (show 2 ≤ 5 by decide) ?_
  refine kx_go 3 (pc' := 3) (L' := [(0, .inr (.inr (.inl (some 259)))), (1, .inl (Int32.ofNat i))]) (S' := [.inl (Int32.ofNat 0), .inl (Int32.ofNat i), .inr (.inr (.inl (some 259)))]) (h' := h) (by with_unfolding_all rfl) ?_
  refine kc_call_rule (M2 := wk_m236) (av := [.inr (.inr (.inl (some 259))), .inl (Int32.ofNat i), .inl (Int32.ofNat 0)]) (r := []) rfl rfl (kc_Con_le (kv_num (d := 0) (x := n 0) hg hi (by decide) h12 en0) (by decide)) (fun rv h' hq => ?_)
  obtain ⟨rfl, rfl⟩ := hq
  show kc_Ev g 5 wk_m235 _ 6 [(0, .inr (.inr (.inl (some 259)))), (1, .inl (Int32.ofNat i))] [.inl (Int32.ofNat (n 0))] h'
  refine kx_go 4 (pc' := 10) (L' := [(2, .inl (Int32.ofNat (n 0))), (0, .inr (.inr (.inl (some 259)))), (1, .inl (Int32.ofNat i))]) (S' := [.inl (Int32.ofNat 1), .inl (Int32.ofNat i), .inr (.inr (.inl (some 259)))]) (h' := h') (by with_unfolding_all rfl) ?_
  refine kc_call_rule (M2 := wk_m236) (av := [.inr (.inr (.inl (some 259))), .inl (Int32.ofNat i), .inl (Int32.ofNat 1)]) (r := []) rfl rfl (kc_Con_le (kv_num (d := 0) (x := n 1) hg hi (by decide) h12 en1) (by decide)) (fun rv h' hq => ?_)
  obtain ⟨rfl, rfl⟩ := hq
  show kc_Ev g 5 wk_m235 _ 13 [(2, .inl (Int32.ofNat (n 0))), (0, .inr (.inr (.inl (some 259)))), (1, .inl (Int32.ofNat i))] [.inl (Int32.ofNat (n 1))] h'
  refine kx_go 4 (pc' := 17) (L' := [(3, .inl (Int32.ofNat (n 1))), (2, .inl (Int32.ofNat (n 0))), (0, .inr (.inr (.inl (some 259)))), (1, .inl (Int32.ofNat i))]) (S' := [.inl (Int32.ofNat 2), .inl (Int32.ofNat i), .inr (.inr (.inl (some 259)))]) (h' := h') (by with_unfolding_all rfl) ?_
  refine kc_call_rule (M2 := wk_m236) (av := [.inr (.inr (.inl (some 259))), .inl (Int32.ofNat i), .inl (Int32.ofNat 2)]) (r := []) rfl rfl (kc_Con_le (kv_num (d := 0) (x := n 2) hg hi (by decide) h12 en2) (by decide)) (fun rv h' hq => ?_)
  obtain ⟨rfl, rfl⟩ := hq
  show kc_Ev g 5 wk_m235 _ 20 [(3, .inl (Int32.ofNat (n 1))), (2, .inl (Int32.ofNat (n 0))), (0, .inr (.inr (.inl (some 259)))), (1, .inl (Int32.ofNat i))] [.inl (Int32.ofNat (n 2))] h'
  refine kx_go 2 (pc' := 23) (L' := [(4, .inl (Int32.ofNat (n 2))), (3, .inl (Int32.ofNat (n 1))), (2, .inl (Int32.ofNat (n 0))), (0, .inr (.inr (.inl (some 259)))), (1, .inl (Int32.ofNat i))]) (S' := [.inr (.inr (.inl (some 259)))]) (h' := h') (by with_unfolding_all rfl) ?_
  refine kx_getf (c := 259) (v := .inr (.inr (.inl (some 264)))) rfl (by decide) h11 ?_
  refine kx_go 1 (pc' := 27) (L' := [(4, .inl (Int32.ofNat (n 2))), (3, .inl (Int32.ofNat (n 1))), (2, .inl (Int32.ofNat (n 0))), (0, .inr (.inr (.inl (some 259)))), (1, .inl (Int32.ofNat i))]) (S' := [.inl (Int32.ofNat i), .inr (.inr (.inl (some 264)))]) (h' := h') (by with_unfolding_all rfl) ?_
  refine kx_iald rfl (c := 264) (j := i) (m := 240) (v := .inl (Int32.ofNat 11)) rfl (by decide) (by decide) (by omega) ev ?_
  refine kx_go 1 (pc' := 85) (L' := [(4, .inl (Int32.ofNat (n 2))), (3, .inl (Int32.ofNat (n 1))), (2, .inl (Int32.ofNat (n 0))), (0, .inr (.inr (.inl (some 259)))), (1, .inl (Int32.ofNat i))]) (S' := []) (h' := h') (by with_unfolding_all rfl) ?_
  refine kx_go 7 (pc' := 93) (L' := [(4, .inl (Int32.ofNat (n 2))), (3, .inl (Int32.ofNat (n 1))), (2, .inl (Int32.ofNat (n 0))), (0, .inr (.inr (.inl (some 259)))), (1, .inl (Int32.ofNat i))]) (S' := [.inl (Int32.ofNat 3), .inl (Int32.ofNat i), .inr (.inr (.inl (some 259))), .inl (Int32.ofNat (n 2)), .inl (Int32.ofNat (n 1)), .inl (Int32.ofNat (n 0)), .inr (.inr (.inl (some 259)))]) (h' := h') (by with_unfolding_all rfl) ?_
  refine kc_call_rule (M2 := wk_m236) (av := [.inr (.inr (.inl (some 259))), .inl (Int32.ofNat i), .inl (Int32.ofNat 3)]) (r := [.inl (Int32.ofNat (n 2)), .inl (Int32.ofNat (n 1)), .inl (Int32.ofNat (n 0)), .inr (.inr (.inl (some 259)))]) rfl rfl (kc_Con_le (kv_num (d := 0) (x := n 3) hg hi (by decide) h12 en3) (by decide)) (fun rv h' hq => ?_)
  obtain ⟨rfl, rfl⟩ := hq
  show kc_Ev g 5 wk_m235 _ 96 [(4, .inl (Int32.ofNat (n 2))), (3, .inl (Int32.ofNat (n 1))), (2, .inl (Int32.ofNat (n 0))), (0, .inr (.inr (.inl (some 259)))), (1, .inl (Int32.ofNat i))] [.inl (Int32.ofNat (n 3)), .inl (Int32.ofNat (n 2)), .inl (Int32.ofNat (n 1)), .inl (Int32.ofNat (n 0)), .inr (.inr (.inl (some 259)))] h'
  refine kc_call_rule (M2 := wk_m43) (av := [.inr (.inr (.inl (some 259))), .inl (Int32.ofNat (n 0)), .inl (Int32.ofNat (n 1)), .inl (Int32.ofNat (n 2)), .inl (Int32.ofNat (n 3))]) (r := []) rfl rfl (kc_Con_le (kv_rload hg hw hC) (by decide)) (fun rv h2 hq => ?_)
  obtain ⟨r, rfl, hw2, hfr, hq⟩ := hq
  refine kc_ret_ok rfl (rv := some (.inl r)) rfl ⟨r, rfl, hw2, ?_, ?_⟩
  · exact kd_cvW_r [(260, 260, 2, 2), (260, 260, 80, 149)] (by decide) hfr
  · rcases hq with ⟨k, r0, e1⟩ | ⟨k, r0, rfl⟩
    · refine Or.inl ⟨D, M, L + 1, f, if_pos (by omega), r0, ⟨by omega, by omega, by omega, ?_, ?_, ?_⟩, fun i hi => ?_⟩
      · exact (kv_fr1 hfr (by decide)).trans eD
      · exact (kv_fr1 hfr (by decide)).trans eM
      · exact e1
      · exact ⟨(ef i hi).1, (kv_fr1 hfr ((show ∀ i, i < 6 → (([(260, 260, 2, 2), (260, 260, 80, 149)] : kd_W).all fun q => !kd_inr 260 q.1 q.2.1 (46 + i) q.2.2.1 q.2.2.2) = true from by decide) i hi)).trans (ef i hi).2⟩
    · exact Or.inr ⟨if_neg (by omega), r0⟩
set_option maxRecDepth 20000 in
theorem kv_item2 {g : kc_G} {h : kc_H} {i D M L : Nat} {f n : Nat → Nat} (hg : kc_ok g) (hw : kd_wt kd_ty h) (hi : i < 60) (hC : kv_Rs h D M L f) (ev : h 264 i = .inl (Int32.ofNat 12)) (en : ∀ k, k < 4 → h 265 (5 * i + k) = .inl (Int32.ofNat (n k)) ∧ n k < 1000) : kc_Con g 6 235 [.inr (.inr (.inl (some 259))), .inl (Int32.ofNat i)] h (kv_Pr h (kv_step 2 n D M L f)) := by
  obtain ⟨hC, ef⟩ := hC
  obtain ⟨hD, hM, hL, eD, eM, eL⟩ := hC
  have hC : kv_R h D M L := ⟨hD, hM, hL, eD, eM, eL⟩
  obtain ⟨en0, nb0⟩ := en 0 (by omega)
  have t0 : (Int32.ofNat (n 0)).toInt = n 0 := kx_ti (by omega)
  obtain ⟨en1, nb1⟩ := en 1 (by omega)
  have t1 : (Int32.ofNat (n 1)).toInt = n 1 := kx_ti (by omega)
  obtain ⟨en2, nb2⟩ := en 2 (by omega)
  have t2 : (Int32.ofNat (n 2)).toInt = n 2 := kx_ti (by omega)
  obtain ⟨en3, nb3⟩ := en 3 (by omega)
  have t3 : (Int32.ofNat (n 3)).toInt = n 3 := kx_ti (by omega)
  have h11 := kx_ofr (hw _ _ _ kv_kr.1)
  have h12 := kx_ofr (hw _ _ _ kv_kr.2)
  refine kc_Con_new hg (M := wk_m235) rfl rfl rfl (show 2 ≤ 5 by decide) ?_
  refine kx_go 3 (pc' := 3) (L' := [(0, .inr (.inr (.inl (some 259)))), (1, .inl (Int32.ofNat i))]) (S' := [.inl (Int32.ofNat 0), .inl (Int32.ofNat i), .inr (.inr (.inl (some 259)))]) (h' := h) (by with_unfolding_all rfl) ?_
  refine kc_call_rule (M2 := wk_m236) (av := [.inr (.inr (.inl (some 259))), .inl (Int32.ofNat i), .inl (Int32.ofNat 0)]) (r := []) rfl rfl (kc_Con_le (kv_num (d := 0) (x := n 0) hg hi (by decide) h12 en0) (by decide)) (fun rv h' hq => ?_)
  obtain ⟨rfl, rfl⟩ := hq
  show kc_Ev g 5 wk_m235 _ 6 [(0, .inr (.inr (.inl (some 259)))), (1, .inl (Int32.ofNat i))] [.inl (Int32.ofNat (n 0))] h'
  refine kx_go 4 (pc' := 10) (L' := [(2, .inl (Int32.ofNat (n 0))), (0, .inr (.inr (.inl (some 259)))), (1, .inl (Int32.ofNat i))]) (S' := [.inl (Int32.ofNat 1), .inl (Int32.ofNat i), .inr (.inr (.inl (some 259)))]) (h' := h') (by with_unfolding_all rfl) ?_
  refine kc_call_rule (M2 := wk_m236) (av := [.inr (.inr (.inl (some 259))), .inl (Int32.ofNat i), .inl (Int32.ofNat 1)]) (r := []) rfl rfl (kc_Con_le (kv_num (d := 0) (x := n 1) hg hi (by decide) h12 en1) (by decide)) (fun rv h' hq => ?_)
  obtain ⟨rfl, rfl⟩ := hq
  show kc_Ev g 5 wk_m235 _ 13 [(2, .inl (Int32.ofNat (n 0))), (0, .inr (.inr (.inl (some 259)))), (1, .inl (Int32.ofNat i))] [.inl (Int32.ofNat (n 1))] h'
  refine kx_go 4 (pc' := 17) (L' := [(3, .inl (Int32.ofNat (n 1))), (2, .inl (Int32.ofNat (n 0))), (0, .inr (.inr (.inl (some 259)))), (1, .inl (Int32.ofNat i))]) (S' := [.inl (Int32.ofNat 2), .inl (Int32.ofNat i), .inr (.inr (.inl (some 259)))]) (h' := h') (by with_unfolding_all rfl) ?_
  refine kc_call_rule (M2 := wk_m236) (av := [.inr (.inr (.inl (some 259))), .inl (Int32.ofNat i), .inl (Int32.ofNat 2)]) (r := []) rfl rfl (kc_Con_le (kv_num (d := 0) (x := n 2) hg hi (by decide) h12 en2) (by decide)) (fun rv h' hq => ?_)
  obtain ⟨rfl, rfl⟩ := hq
  show kc_Ev g 5 wk_m235 _ 20 [(3, .inl (Int32.ofNat (n 1))), (2, .inl (Int32.ofNat (n 0))), (0, .inr (.inr (.inl (some 259)))), (1, .inl (Int32.ofNat i))] [.inl (Int32.ofNat (n 2))] h'
  refine kx_go 2 (pc' := 23) (L' := [(4, .inl (Int32.ofNat (n 2))), (3, .inl (Int32.ofNat (n 1))), (2, .inl (Int32.ofNat (n 0))), (0, .inr (.inr (.inl (some 259)))), (1, .inl (Int32.ofNat i))]) (S' := [.inr (.inr (.inl (some 259)))]) (h' := h') (by with_unfolding_all rfl) ?_
  refine kx_getf (c := 259) (v := .inr (.inr (.inl (some 264)))) rfl (by decide) h11 ?_
  refine kx_go 1 (pc' := 27) (L' := [(4, .inl (Int32.ofNat (n 2))), (3, .inl (Int32.ofNat (n 1))), (2, .inl (Int32.ofNat (n 0))), (0, .inr (.inr (.inl (some 259)))), (1, .inl (Int32.ofNat i))]) (S' := [.inl (Int32.ofNat i), .inr (.inr (.inl (some 264)))]) (h' := h') (by with_unfolding_all rfl) ?_
  refine kx_iald rfl (c := 264) (j := i) (m := 240) (v := .inl (Int32.ofNat 12)) rfl (by decide) (by decide) (by omega) ev ?_
  refine kx_go 1 (pc' := 100) (L' := [(4, .inl (Int32.ofNat (n 2))), (3, .inl (Int32.ofNat (n 1))), (2, .inl (Int32.ofNat (n 0))), (0, .inr (.inr (.inl (some 259)))), (1, .inl (Int32.ofNat i))]) (S' := []) (h' := h') (by with_unfolding_all rfl) ?_
  refine kx_go 1 (pc' := 101) (L' := [(4, .inl (Int32.ofNat (n 2))), (3, .inl (Int32.ofNat (n 1))), (2, .inl (Int32.ofNat (n 0))), (0, .inr (.inr (.inl (some 259)))), (1, .inl (Int32.ofNat i))]) (S' := [.inr (.inr (.inl (some 259)))]) (h' := h') (by with_unfolding_all rfl) ?_
  refine kc_call_rule (M2 := wk_m15) (av := [.inr (.inr (.inl (some 259)))]) (r := []) rfl rfl (kc_Con_le (kv_rdoor hg hw hC) (by decide)) (fun rv h2 hq => ?_)
  obtain ⟨r, rfl, hw2, hfr, hq⟩ := hq
  refine kc_ret_ok rfl (rv := some (.inl r)) rfl ⟨r, rfl, hw2, ?_, ?_⟩
  · exact kd_cvW_r [(260, 260, 0, 0)] (by decide) hfr
  · rcases hq with ⟨k, rfl, e1⟩ | ⟨k, rfl, rfl⟩
    · refine Or.inl ⟨D + 1, M, L, f, if_pos (by omega), (by rw [kx_ti (by omega)]; omega), ⟨by omega, by omega, by omega, ?_, ?_, ?_⟩, fun i hi => ?_⟩
      · exact e1
      · exact (kv_fr1 hfr (by decide)).trans eM
      · exact (kv_fr1 hfr (by decide)).trans eL
      · exact ⟨(ef i hi).1, (kv_fr1 hfr ((show ∀ i, i < 6 → (([(260, 260, 0, 0)] : kd_W).all fun q => !kd_inr 260 q.1 q.2.1 (46 + i) q.2.2.1 q.2.2.2) = true from by decide) i hi)).trans (ef i hi).2⟩
    · exact Or.inr ⟨if_neg (by omega), by decide⟩
set_option maxRecDepth 20000 in
theorem kv_item3 {g : kc_G} {h : kc_H} {i D M L : Nat} {f n : Nat → Nat} (hg : kc_ok g) (hw : kd_wt kd_ty h) (hi : i < 60) (hC : kv_Rs h D M L f) (ev : h 264 i = .inl (Int32.ofNat 13)) (en : ∀ k, k < 4 → h 265 (5 * i + k) = .inl (Int32.ofNat (n k)) ∧ n k < 1000) : kc_Con g 6 235 [.inr (.inr (.inl (some 259))), .inl (Int32.ofNat i)] h (kv_Pr h (kv_step 3 n D M L f)) := by
  obtain ⟨hC, ef⟩ := hC
  obtain ⟨hD, hM, hL, eD, eM, eL⟩ := hC
  have hC : kv_R h D M L := ⟨hD, hM, hL, eD, eM, eL⟩
  obtain ⟨en0, nb0⟩ := en 0 (by omega)
  have t0 : (Int32.ofNat (n 0)).toInt = n 0 := kx_ti (by omega)
  obtain ⟨en1, nb1⟩ := en 1 (by omega)
  have t1 : (Int32.ofNat (n 1)).toInt = n 1 := kx_ti (by omega)
  obtain ⟨en2, nb2⟩ := en 2 (by omega)
  have t2 : (Int32.ofNat (n 2)).toInt = n 2 := kx_ti (by omega)
  obtain ⟨en3, nb3⟩ := en 3 (by omega)
  have t3 : (Int32.ofNat (n 3)).toInt = n 3 := kx_ti (by omega)
  have h11 := kx_ofr (hw _ _ _ kv_kr.1)
  have h12 := kx_ofr (hw _ _ _ kv_kr.2)
  refine kc_Con_new hg (M := wk_m235) rfl rfl rfl (show 2 ≤ 5 by decide) ?_
  refine kx_go 3 (pc' := 3) (L' := [(0, .inr (.inr (.inl (some 259)))), (1, .inl (Int32.ofNat i))]) (S' := [.inl (Int32.ofNat 0), .inl (Int32.ofNat i), .inr (.inr (.inl (some 259)))]) (h' := h) (by with_unfolding_all rfl) ?_
  refine kc_call_rule (M2 := wk_m236) (av := [.inr (.inr (.inl (some 259))), .inl (Int32.ofNat i), .inl (Int32.ofNat 0)]) (r := []) rfl rfl (kc_Con_le (kv_num (d := 0) (x := n 0) hg hi (by decide) h12 en0) (by decide)) (fun rv h' hq => ?_)
  obtain ⟨rfl, rfl⟩ := hq
  show kc_Ev g 5 wk_m235 _ 6 [(0, .inr (.inr (.inl (some 259)))), (1, .inl (Int32.ofNat i))] [.inl (Int32.ofNat (n 0))] h'
  refine kx_go 4 (pc' := 10) (L' := [(2, .inl (Int32.ofNat (n 0))), (0, .inr (.inr (.inl (some 259)))), (1, .inl (Int32.ofNat i))]) (S' := [.inl (Int32.ofNat 1), .inl (Int32.ofNat i), .inr (.inr (.inl (some 259)))]) (h' := h') (by with_unfolding_all rfl) ?_
  refine kc_call_rule (M2 := wk_m236) (av := [.inr (.inr (.inl (some 259))), .inl (Int32.ofNat i), .inl (Int32.ofNat 1)]) (r := []) rfl rfl (kc_Con_le (kv_num (d := 0) (x := n 1) hg hi (by decide) h12 en1) (by decide)) (fun rv h' hq => ?_)
  obtain ⟨rfl, rfl⟩ := hq
  show kc_Ev g 5 wk_m235 _ 13 [(2, .inl (Int32.ofNat (n 0))), (0, .inr (.inr (.inl (some 259)))), (1, .inl (Int32.ofNat i))] [.inl (Int32.ofNat (n 1))] h'
  refine kx_go 4 (pc' := 17) (L' := [(3, .inl (Int32.ofNat (n 1))), (2, .inl (Int32.ofNat (n 0))), (0, .inr (.inr (.inl (some 259)))), (1, .inl (Int32.ofNat i))]) (S' := [.inl (Int32.ofNat 2), .inl (Int32.ofNat i), .inr (.inr (.inl (some 259)))]) (h' := h') (by with_unfolding_all rfl) ?_
  refine kc_call_rule (M2 := wk_m236) (av := [.inr (.inr (.inl (some 259))), .inl (Int32.ofNat i), .inl (Int32.ofNat 2)]) (r := []) rfl rfl (kc_Con_le (kv_num (d := 0) (x := n 2) hg hi (by decide) h12 en2) (by decide)) (fun rv h' hq => ?_)
  obtain ⟨rfl, rfl⟩ := hq
  show kc_Ev g 5 wk_m235 _ 20 [(3, .inl (Int32.ofNat (n 1))), (2, .inl (Int32.ofNat (n 0))), (0, .inr (.inr (.inl (some 259)))), (1, .inl (Int32.ofNat i))] [.inl (Int32.ofNat (n 2))] h'
  refine kx_go 2 (pc' := 23) (L' := [(4, .inl (Int32.ofNat (n 2))), (3, .inl (Int32.ofNat (n 1))), (2, .inl (Int32.ofNat (n 0))), (0, .inr (.inr (.inl (some 259)))), (1, .inl (Int32.ofNat i))]) (S' := [.inr (.inr (.inl (some 259)))]) (h' := h') (by with_unfolding_all rfl) ?_
  refine kx_getf (c := 259) (v := .inr (.inr (.inl (some 264)))) rfl (by decide) h11 ?_
  refine kx_go 1 (pc' := 27) (L' := [(4, .inl (Int32.ofNat (n 2))), (3, .inl (Int32.ofNat (n 1))), (2, .inl (Int32.ofNat (n 0))), (0, .inr (.inr (.inl (some 259)))), (1, .inl (Int32.ofNat i))]) (S' := [.inl (Int32.ofNat i), .inr (.inr (.inl (some 264)))]) (h' := h') (by with_unfolding_all rfl) ?_
  refine kx_iald rfl (c := 264) (j := i) (m := 240) (v := .inl (Int32.ofNat 13)) rfl (by decide) (by decide) (by omega) ev ?_
  refine kx_go 1 (pc' := 105) (L' := [(4, .inl (Int32.ofNat (n 2))), (3, .inl (Int32.ofNat (n 1))), (2, .inl (Int32.ofNat (n 0))), (0, .inr (.inr (.inl (some 259)))), (1, .inl (Int32.ofNat i))]) (S' := []) (h' := h') (by with_unfolding_all rfl) ?_
  refine kx_go 4 (pc' := 110) (L' := [(4, .inl (Int32.ofNat (n 2))), (3, .inl (Int32.ofNat (n 1))), (2, .inl (Int32.ofNat (n 0))), (0, .inr (.inr (.inl (some 259)))), (1, .inl (Int32.ofNat i))]) (S' := [.inl (Int32.ofNat (n 2)), .inl (Int32.ofNat (n 1)), .inl (Int32.ofNat (n 0)), .inr (.inr (.inl (some 259)))]) (h' := h') (by with_unfolding_all rfl) ?_
  refine kc_call_rule (M2 := wk_m20) (av := [.inr (.inr (.inl (some 259))), .inl (Int32.ofNat (n 0)), .inl (Int32.ofNat (n 1)), .inl (Int32.ofNat (n 2))]) (r := []) rfl rfl (kc_Con_le (kv_rway hg hw hC) (by decide)) (fun rv h2 hq => ?_)
  obtain ⟨r, rfl, hw2, hfr, hq⟩ := hq
  refine kc_ret_ok rfl (rv := some (.inl r)) rfl ⟨r, rfl, hw2, ?_, ?_⟩
  · exact kd_cvW_r [(260, 260, 10, 45)] (by decide) hfr
  · rcases hq with ⟨k, r0⟩ | ⟨k, r0, rfl⟩
    · refine Or.inl ⟨D, M, L, f, if_pos (by omega), r0, ⟨by omega, by omega, by omega, ?_, ?_, ?_⟩, fun i hi => ?_⟩
      · exact (kv_fr1 hfr (by decide)).trans eD
      · exact (kv_fr1 hfr (by decide)).trans eM
      · exact (kv_fr1 hfr (by decide)).trans eL
      · exact ⟨(ef i hi).1, (kv_fr1 hfr ((show ∀ i, i < 6 → (([(260, 260, 10, 45)] : kd_W).all fun q => !kd_inr 260 q.1 q.2.1 (46 + i) q.2.2.1 q.2.2.2) = true from by decide) i hi)).trans (ef i hi).2⟩
    · exact Or.inr ⟨if_neg (by omega), r0⟩
set_option maxRecDepth 20000 in
theorem kv_item4 {g : kc_G} {h : kc_H} {i D M L : Nat} {f n : Nat → Nat} (hg : kc_ok g) (hw : kd_wt kd_ty h) (hi : i < 60) (hC : kv_Rs h D M L f) (ev : h 264 i = .inl (Int32.ofNat 14)) (en : ∀ k, k < 4 → h 265 (5 * i + k) = .inl (Int32.ofNat (n k)) ∧ n k < 1000) : kc_Con g 6 235 [.inr (.inr (.inl (some 259))), .inl (Int32.ofNat i)] h (kv_Pr h (kv_step 4 n D M L f)) := by
  obtain ⟨hC, ef⟩ := hC
  obtain ⟨hD, hM, hL, eD, eM, eL⟩ := hC
  have hC : kv_R h D M L := ⟨hD, hM, hL, eD, eM, eL⟩
  obtain ⟨en0, nb0⟩ := en 0 (by omega)
  have t0 : (Int32.ofNat (n 0)).toInt = n 0 := kx_ti (by omega)
  obtain ⟨en1, nb1⟩ := en 1 (by omega)
  have t1 : (Int32.ofNat (n 1)).toInt = n 1 := kx_ti (by omega)
  obtain ⟨en2, nb2⟩ := en 2 (by omega)
  have t2 : (Int32.ofNat (n 2)).toInt = n 2 := kx_ti (by omega)
  obtain ⟨en3, nb3⟩ := en 3 (by omega)
  have t3 : (Int32.ofNat (n 3)).toInt = n 3 := kx_ti (by omega)
  have h11 := kx_ofr (hw _ _ _ kv_kr.1)
  have h12 := kx_ofr (hw _ _ _ kv_kr.2)
  refine kc_Con_new hg (M := wk_m235) rfl rfl rfl (show 2 ≤ 5 by decide) ?_
  refine kx_go 3 (pc' := 3) (L' := [(0, .inr (.inr (.inl (some 259)))), (1, .inl (Int32.ofNat i))]) (S' := [.inl (Int32.ofNat 0), .inl (Int32.ofNat i), .inr (.inr (.inl (some 259)))]) (h' := h) (by with_unfolding_all rfl) ?_
  refine kc_call_rule (M2 := wk_m236) (av := [.inr (.inr (.inl (some 259))), .inl (Int32.ofNat i), .inl (Int32.ofNat 0)]) (r := []) rfl rfl (kc_Con_le (kv_num (d := 0) (x := n 0) hg hi (by decide) h12 en0) (by decide)) (fun rv h' hq => ?_)
  obtain ⟨rfl, rfl⟩ := hq
  show kc_Ev g 5 wk_m235 _ 6 [(0, .inr (.inr (.inl (some 259)))), (1, .inl (Int32.ofNat i))] [.inl (Int32.ofNat (n 0))] h'
  refine kx_go 4 (pc' := 10) (L' := [(2, .inl (Int32.ofNat (n 0))), (0, .inr (.inr (.inl (some 259)))), (1, .inl (Int32.ofNat i))]) (S' := [.inl (Int32.ofNat 1), .inl (Int32.ofNat i), .inr (.inr (.inl (some 259)))]) (h' := h') (by with_unfolding_all rfl) ?_
  refine kc_call_rule (M2 := wk_m236) (av := [.inr (.inr (.inl (some 259))), .inl (Int32.ofNat i), .inl (Int32.ofNat 1)]) (r := []) rfl rfl (kc_Con_le (kv_num (d := 0) (x := n 1) hg hi (by decide) h12 en1) (by decide)) (fun rv h' hq => ?_)
  obtain ⟨rfl, rfl⟩ := hq
  show kc_Ev g 5 wk_m235 _ 13 [(2, .inl (Int32.ofNat (n 0))), (0, .inr (.inr (.inl (some 259)))), (1, .inl (Int32.ofNat i))] [.inl (Int32.ofNat (n 1))] h'
  refine kx_go 4 (pc' := 17) (L' := [(3, .inl (Int32.ofNat (n 1))), (2, .inl (Int32.ofNat (n 0))), (0, .inr (.inr (.inl (some 259)))), (1, .inl (Int32.ofNat i))]) (S' := [.inl (Int32.ofNat 2), .inl (Int32.ofNat i), .inr (.inr (.inl (some 259)))]) (h' := h') (by with_unfolding_all rfl) ?_
  refine kc_call_rule (M2 := wk_m236) (av := [.inr (.inr (.inl (some 259))), .inl (Int32.ofNat i), .inl (Int32.ofNat 2)]) (r := []) rfl rfl (kc_Con_le (kv_num (d := 0) (x := n 2) hg hi (by decide) h12 en2) (by decide)) (fun rv h' hq => ?_)
  obtain ⟨rfl, rfl⟩ := hq
  show kc_Ev g 5 wk_m235 _ 20 [(3, .inl (Int32.ofNat (n 1))), (2, .inl (Int32.ofNat (n 0))), (0, .inr (.inr (.inl (some 259)))), (1, .inl (Int32.ofNat i))] [.inl (Int32.ofNat (n 2))] h'
  refine kx_go 2 (pc' := 23) (L' := [(4, .inl (Int32.ofNat (n 2))), (3, .inl (Int32.ofNat (n 1))), (2, .inl (Int32.ofNat (n 0))), (0, .inr (.inr (.inl (some 259)))), (1, .inl (Int32.ofNat i))]) (S' := [.inr (.inr (.inl (some 259)))]) (h' := h') (by with_unfolding_all rfl) ?_
  refine kx_getf (c := 259) (v := .inr (.inr (.inl (some 264)))) rfl (by decide) h11 ?_
  refine kx_go 1 (pc' := 27) (L' := [(4, .inl (Int32.ofNat (n 2))), (3, .inl (Int32.ofNat (n 1))), (2, .inl (Int32.ofNat (n 0))), (0, .inr (.inr (.inl (some 259)))), (1, .inl (Int32.ofNat i))]) (S' := [.inl (Int32.ofNat i), .inr (.inr (.inl (some 264)))]) (h' := h') (by with_unfolding_all rfl) ?_
  refine kx_iald rfl (c := 264) (j := i) (m := 240) (v := .inl (Int32.ofNat 14)) rfl (by decide) (by decide) (by omega) ev ?_
  refine kx_go 1 (pc' := 114) (L' := [(4, .inl (Int32.ofNat (n 2))), (3, .inl (Int32.ofNat (n 1))), (2, .inl (Int32.ofNat (n 0))), (0, .inr (.inr (.inl (some 259)))), (1, .inl (Int32.ofNat i))]) (S' := []) (h' := h') (by with_unfolding_all rfl) ?_
  refine kx_go 4 (pc' := 119) (L' := [(4, .inl (Int32.ofNat (n 2))), (3, .inl (Int32.ofNat (n 1))), (2, .inl (Int32.ofNat (n 0))), (0, .inr (.inr (.inl (some 259)))), (1, .inl (Int32.ofNat i))]) (S' := [.inl (Int32.ofNat (n 2)), .inl (Int32.ofNat (n 1)), .inl (Int32.ofNat (n 0)), .inr (.inr (.inl (some 259)))]) (h' := h') (by with_unfolding_all rfl) ?_
  refine kc_call_rule (M2 := wk_m39) (av := [.inr (.inr (.inl (some 259))), .inl (Int32.ofNat (n 0)), .inl (Int32.ofNat (n 1)), .inl (Int32.ofNat (n 2))]) (r := []) rfl rfl (kc_Con_le (kv_rlame hg hw hC) (by decide)) (fun rv h2 hq => ?_)
  obtain ⟨r, rfl, hw2, hfr, hq⟩ := hq
  refine kc_ret_ok rfl (rv := some (.inl r)) rfl ⟨r, rfl, hw2, ?_, ?_⟩
  · exact kd_cvW_r [(260, 260, 60, 74)] (by decide) hfr
  · rcases hq with ⟨k, r0⟩ | ⟨k, r0, rfl⟩
    · refine Or.inl ⟨D, M, L, f, if_pos (by omega), r0, ⟨by omega, by omega, by omega, ?_, ?_, ?_⟩, fun i hi => ?_⟩
      · exact (kv_fr1 hfr (by decide)).trans eD
      · exact (kv_fr1 hfr (by decide)).trans eM
      · exact (kv_fr1 hfr (by decide)).trans eL
      · exact ⟨(ef i hi).1, (kv_fr1 hfr ((show ∀ i, i < 6 → (([(260, 260, 60, 74)] : kd_W).all fun q => !kd_inr 260 q.1 q.2.1 (46 + i) q.2.2.1 q.2.2.2) = true from by decide) i hi)).trans (ef i hi).2⟩
    · exact Or.inr ⟨if_neg (by omega), r0⟩
set_option maxRecDepth 20000 in
theorem kv_item5 {g : kc_G} {h : kc_H} {i D M L : Nat} {f n : Nat → Nat} (hg : kc_ok g) (hw : kd_wt kd_ty h) (hi : i < 60) (hC : kv_Rs h D M L f) (ev : h 264 i = .inl (Int32.ofNat 15)) (en : ∀ k, k < 4 → h 265 (5 * i + k) = .inl (Int32.ofNat (n k)) ∧ n k < 1000) : kc_Con g 6 235 [.inr (.inr (.inl (some 259))), .inl (Int32.ofNat i)] h (kv_Pr h (kv_step 5 n D M L f)) := by
  obtain ⟨hC, ef⟩ := hC
  obtain ⟨hD, hM, hL, eD, eM, eL⟩ := hC
  have hC : kv_R h D M L := ⟨hD, hM, hL, eD, eM, eL⟩
  obtain ⟨en0, nb0⟩ := en 0 (by omega)
  have t0 : (Int32.ofNat (n 0)).toInt = n 0 := kx_ti (by omega)
  obtain ⟨en1, nb1⟩ := en 1 (by omega)
  have t1 : (Int32.ofNat (n 1)).toInt = n 1 := kx_ti (by omega)
  obtain ⟨en2, nb2⟩ := en 2 (by omega)
  have t2 : (Int32.ofNat (n 2)).toInt = n 2 := kx_ti (by omega)
  obtain ⟨en3, nb3⟩ := en 3 (by omega)
  have t3 : (Int32.ofNat (n 3)).toInt = n 3 := kx_ti (by omega)
  have h11 := kx_ofr (hw _ _ _ kv_kr.1)
  have h12 := kx_ofr (hw _ _ _ kv_kr.2)
  refine kc_Con_new hg (M := wk_m235) rfl rfl rfl (show 2 ≤ 5 by decide) ?_
  refine kx_go 3 (pc' := 3) (L' := [(0, .inr (.inr (.inl (some 259)))), (1, .inl (Int32.ofNat i))]) (S' := [.inl (Int32.ofNat 0), .inl (Int32.ofNat i), .inr (.inr (.inl (some 259)))]) (h' := h) (by with_unfolding_all rfl) ?_
  refine kc_call_rule (M2 := wk_m236) (av := [.inr (.inr (.inl (some 259))), .inl (Int32.ofNat i), .inl (Int32.ofNat 0)]) (r := []) rfl rfl (kc_Con_le (kv_num (d := 0) (x := n 0) hg hi (by decide) h12 en0) (by decide)) (fun rv h' hq => ?_)
  obtain ⟨rfl, rfl⟩ := hq
  show kc_Ev g 5 wk_m235 _ 6 [(0, .inr (.inr (.inl (some 259)))), (1, .inl (Int32.ofNat i))] [.inl (Int32.ofNat (n 0))] h'
  refine kx_go 4 (pc' := 10) (L' := [(2, .inl (Int32.ofNat (n 0))), (0, .inr (.inr (.inl (some 259)))), (1, .inl (Int32.ofNat i))]) (S' := [.inl (Int32.ofNat 1), .inl (Int32.ofNat i), .inr (.inr (.inl (some 259)))]) (h' := h') (by with_unfolding_all rfl) ?_
  refine kc_call_rule (M2 := wk_m236) (av := [.inr (.inr (.inl (some 259))), .inl (Int32.ofNat i), .inl (Int32.ofNat 1)]) (r := []) rfl rfl (kc_Con_le (kv_num (d := 0) (x := n 1) hg hi (by decide) h12 en1) (by decide)) (fun rv h' hq => ?_)
  obtain ⟨rfl, rfl⟩ := hq
  show kc_Ev g 5 wk_m235 _ 13 [(2, .inl (Int32.ofNat (n 0))), (0, .inr (.inr (.inl (some 259)))), (1, .inl (Int32.ofNat i))] [.inl (Int32.ofNat (n 1))] h'
  refine kx_go 4 (pc' := 17) (L' := [(3, .inl (Int32.ofNat (n 1))), (2, .inl (Int32.ofNat (n 0))), (0, .inr (.inr (.inl (some 259)))), (1, .inl (Int32.ofNat i))]) (S' := [.inl (Int32.ofNat 2), .inl (Int32.ofNat i), .inr (.inr (.inl (some 259)))]) (h' := h') (by with_unfolding_all rfl) ?_
  refine kc_call_rule (M2 := wk_m236) (av := [.inr (.inr (.inl (some 259))), .inl (Int32.ofNat i), .inl (Int32.ofNat 2)]) (r := []) rfl rfl (kc_Con_le (kv_num (d := 0) (x := n 2) hg hi (by decide) h12 en2) (by decide)) (fun rv h' hq => ?_)
  obtain ⟨rfl, rfl⟩ := hq
  show kc_Ev g 5 wk_m235 _ 20 [(3, .inl (Int32.ofNat (n 1))), (2, .inl (Int32.ofNat (n 0))), (0, .inr (.inr (.inl (some 259)))), (1, .inl (Int32.ofNat i))] [.inl (Int32.ofNat (n 2))] h'
  refine kx_go 2 (pc' := 23) (L' := [(4, .inl (Int32.ofNat (n 2))), (3, .inl (Int32.ofNat (n 1))), (2, .inl (Int32.ofNat (n 0))), (0, .inr (.inr (.inl (some 259)))), (1, .inl (Int32.ofNat i))]) (S' := [.inr (.inr (.inl (some 259)))]) (h' := h') (by with_unfolding_all rfl) ?_
  refine kx_getf (c := 259) (v := .inr (.inr (.inl (some 264)))) rfl (by decide) h11 ?_
  refine kx_go 1 (pc' := 27) (L' := [(4, .inl (Int32.ofNat (n 2))), (3, .inl (Int32.ofNat (n 1))), (2, .inl (Int32.ofNat (n 0))), (0, .inr (.inr (.inl (some 259)))), (1, .inl (Int32.ofNat i))]) (S' := [.inl (Int32.ofNat i), .inr (.inr (.inl (some 264)))]) (h' := h') (by with_unfolding_all rfl) ?_
  refine kx_iald rfl (c := 264) (j := i) (m := 240) (v := .inl (Int32.ofNat 15)) rfl (by decide) (by decide) (by omega) ev ?_
  refine kx_go 1 (pc' := 123) (L' := [(4, .inl (Int32.ofNat (n 2))), (3, .inl (Int32.ofNat (n 1))), (2, .inl (Int32.ofNat (n 0))), (0, .inr (.inr (.inl (some 259)))), (1, .inl (Int32.ofNat i))]) (S' := []) (h' := h') (by with_unfolding_all rfl) ?_
  refine kx_go 2 (pc' := 125) (L' := [(4, .inl (Int32.ofNat (n 2))), (3, .inl (Int32.ofNat (n 1))), (2, .inl (Int32.ofNat (n 0))), (0, .inr (.inr (.inl (some 259)))), (1, .inl (Int32.ofNat i))]) (S' := [.inl (Int32.ofNat (n 0)), .inr (.inr (.inl (some 259)))]) (h' := h') (by with_unfolding_all rfl) ?_
  obtain ⟨f0, f1, f2⟩ : ∃ f0, f0 ≤ 1 ∧ (1 ≤ (Int32.ofNat (n 0)).toInt → (Int32.ofNat (n 0)).toInt ≤ 5 → f (n 0) = f0 ∧ h' 260 (46 + (Int32.ofNat (n 0)).toInt.toNat) = .inl (Int32.ofNat f0)) := by
    by_cases e : n 0 < 6
    · refine ⟨f (n 0), (ef (n 0) e).1, fun _ _ => ⟨rfl, ?_⟩⟩
      rw [show (Int32.ofNat (n 0)).toInt.toNat = n 0 from by omega]
      exact (ef (n 0) e).2
    · exact ⟨0, by decide, fun _ q => absurd q (by omega)⟩
  refine kc_call_rule (M2 := wk_m26) (av := [.inr (.inr (.inl (some 259))), .inl (Int32.ofNat (n 0))]) (r := []) rfl rfl (kc_Con_le (kv_rford hg hw hC (f := f0) f1 (fun q1 q2 => (f2 q1 q2).2)) (by decide)) (fun rv h2 hq => ?_)
  have f3 : 1 ≤ n 0 → n 0 ≤ D → f (n 0) = f0 := fun q1 q2 => (f2 (by omega) (by omega)).1
  obtain ⟨r, rfl, hw2, hfr, hq⟩ := hq
  refine kc_ret_ok rfl (rv := some (.inl r)) rfl ⟨r, rfl, hw2, ?_, ?_⟩
  · intro c b hx
    have x1 := kd_inr_f (hx (260, 260, 10, 149) (by decide))
    simp only at x1
    rcases hq with ⟨k, -, -⟩ | ⟨-, -, rfl⟩
    · exact hfr c b (fun q hq => by
        obtain rfl := List.mem_singleton.mp hq
        exact kb_inr (by (try dsimp only); omega))
    · rfl
  · rcases hq with ⟨k, r0, e1⟩ | ⟨k, r0, rfl⟩
    · refine Or.inl ⟨D, M, L, (fun i => if i = n 0 then 1 else f i), if_pos (by omega), r0, ⟨by omega, by omega, by omega, ?_, ?_, ?_⟩, fun i hi => ?_⟩
      · exact (hfr 260 0 (fun q hq => by obtain rfl := List.mem_singleton.mp hq; exact kb_inr (by (try dsimp only); omega))).trans eD
      · exact (hfr 260 1 (fun q hq => by obtain rfl := List.mem_singleton.mp hq; exact kb_inr (by (try dsimp only); omega))).trans eM
      · exact (hfr 260 2 (fun q hq => by obtain rfl := List.mem_singleton.mp hq; exact kb_inr (by (try dsimp only); omega))).trans eL
      · by_cases e : i = n 0
        · refine ⟨by show (if i = n 0 then 1 else f i) ≤ 1; rw [if_pos e]; omega, ?_⟩
          show h2 260 (46 + i) = .inl (Int32.ofNat (if i = n 0 then 1 else f i))
          rw [if_pos e, e, ← e1, show (Int32.ofNat (n 0)).toInt.toNat = n 0 from by omega]
        · refine ⟨by show (if i = n 0 then 1 else f i) ≤ 1; rw [if_neg e]; exact (ef i hi).1, ?_⟩
          show h2 260 (46 + i) = .inl (Int32.ofNat (if i = n 0 then 1 else f i))
          rw [if_neg e, hfr 260 (46 + i) (fun q hq => by obtain rfl := List.mem_singleton.mp hq; exact kb_inr (by (try dsimp only); omega))]
          exact (ef i hi).2
    · exact Or.inr ⟨if_neg (by omega), r0⟩
set_option maxRecDepth 20000 in
theorem kv_item6 {g : kc_G} {h : kc_H} {i D M L : Nat} {f n : Nat → Nat} (hg : kc_ok g) (hw : kd_wt kd_ty h) (hi : i < 60) (hC : kv_Rs h D M L f) (ev : h 264 i = .inl (Int32.ofNat 16)) (en : ∀ k, k < 4 → h 265 (5 * i + k) = .inl (Int32.ofNat (n k)) ∧ n k < 1000) : kc_Con g 6 235 [.inr (.inr (.inl (some 259))), .inl (Int32.ofNat i)] h (kv_Pr h (kv_step 6 n D M L f)) := by
  obtain ⟨hC, ef⟩ := hC
  obtain ⟨hD, hM, hL, eD, eM, eL⟩ := hC
  have hC : kv_R h D M L := ⟨hD, hM, hL, eD, eM, eL⟩
  obtain ⟨en0, nb0⟩ := en 0 (by omega)
  have t0 : (Int32.ofNat (n 0)).toInt = n 0 := kx_ti (by omega)
  obtain ⟨en1, nb1⟩ := en 1 (by omega)
  have t1 : (Int32.ofNat (n 1)).toInt = n 1 := kx_ti (by omega)
  obtain ⟨en2, nb2⟩ := en 2 (by omega)
  have t2 : (Int32.ofNat (n 2)).toInt = n 2 := kx_ti (by omega)
  obtain ⟨en3, nb3⟩ := en 3 (by omega)
  have t3 : (Int32.ofNat (n 3)).toInt = n 3 := kx_ti (by omega)
  have h11 := kx_ofr (hw _ _ _ kv_kr.1)
  have h12 := kx_ofr (hw _ _ _ kv_kr.2)
  refine kc_Con_new hg (M := wk_m235) rfl rfl rfl (show 2 ≤ 5 by decide) ?_
  refine kx_go 3 (pc' := 3) (L' := [(0, .inr (.inr (.inl (some 259)))), (1, .inl (Int32.ofNat i))]) (S' := [.inl (Int32.ofNat 0), .inl (Int32.ofNat i), .inr (.inr (.inl (some 259)))]) (h' := h) (by with_unfolding_all rfl) ?_
  refine kc_call_rule (M2 := wk_m236) (av := [.inr (.inr (.inl (some 259))), .inl (Int32.ofNat i), .inl (Int32.ofNat 0)]) (r := []) rfl rfl (kc_Con_le (kv_num (d := 0) (x := n 0) hg hi (by decide) h12 en0) (by decide)) (fun rv h' hq => ?_)
  obtain ⟨rfl, rfl⟩ := hq
  show kc_Ev g 5 wk_m235 _ 6 [(0, .inr (.inr (.inl (some 259)))), (1, .inl (Int32.ofNat i))] [.inl (Int32.ofNat (n 0))] h'
  refine kx_go 4 (pc' := 10) (L' := [(2, .inl (Int32.ofNat (n 0))), (0, .inr (.inr (.inl (some 259)))), (1, .inl (Int32.ofNat i))]) (S' := [.inl (Int32.ofNat 1), .inl (Int32.ofNat i), .inr (.inr (.inl (some 259)))]) (h' := h') (by with_unfolding_all rfl) ?_
  refine kc_call_rule (M2 := wk_m236) (av := [.inr (.inr (.inl (some 259))), .inl (Int32.ofNat i), .inl (Int32.ofNat 1)]) (r := []) rfl rfl (kc_Con_le (kv_num (d := 0) (x := n 1) hg hi (by decide) h12 en1) (by decide)) (fun rv h' hq => ?_)
  obtain ⟨rfl, rfl⟩ := hq
  show kc_Ev g 5 wk_m235 _ 13 [(2, .inl (Int32.ofNat (n 0))), (0, .inr (.inr (.inl (some 259)))), (1, .inl (Int32.ofNat i))] [.inl (Int32.ofNat (n 1))] h'
  refine kx_go 4 (pc' := 17) (L' := [(3, .inl (Int32.ofNat (n 1))), (2, .inl (Int32.ofNat (n 0))), (0, .inr (.inr (.inl (some 259)))), (1, .inl (Int32.ofNat i))]) (S' := [.inl (Int32.ofNat 2), .inl (Int32.ofNat i), .inr (.inr (.inl (some 259)))]) (h' := h') (by with_unfolding_all rfl) ?_
  refine kc_call_rule (M2 := wk_m236) (av := [.inr (.inr (.inl (some 259))), .inl (Int32.ofNat i), .inl (Int32.ofNat 2)]) (r := []) rfl rfl (kc_Con_le (kv_num (d := 0) (x := n 2) hg hi (by decide) h12 en2) (by decide)) (fun rv h' hq => ?_)
  obtain ⟨rfl, rfl⟩ := hq
  show kc_Ev g 5 wk_m235 _ 20 [(3, .inl (Int32.ofNat (n 1))), (2, .inl (Int32.ofNat (n 0))), (0, .inr (.inr (.inl (some 259)))), (1, .inl (Int32.ofNat i))] [.inl (Int32.ofNat (n 2))] h'
  refine kx_go 2 (pc' := 23) (L' := [(4, .inl (Int32.ofNat (n 2))), (3, .inl (Int32.ofNat (n 1))), (2, .inl (Int32.ofNat (n 0))), (0, .inr (.inr (.inl (some 259)))), (1, .inl (Int32.ofNat i))]) (S' := [.inr (.inr (.inl (some 259)))]) (h' := h') (by with_unfolding_all rfl) ?_
  refine kx_getf (c := 259) (v := .inr (.inr (.inl (some 264)))) rfl (by decide) h11 ?_
  refine kx_go 1 (pc' := 27) (L' := [(4, .inl (Int32.ofNat (n 2))), (3, .inl (Int32.ofNat (n 1))), (2, .inl (Int32.ofNat (n 0))), (0, .inr (.inr (.inl (some 259)))), (1, .inl (Int32.ofNat i))]) (S' := [.inl (Int32.ofNat i), .inr (.inr (.inl (some 264)))]) (h' := h') (by with_unfolding_all rfl) ?_
  refine kx_iald rfl (c := 264) (j := i) (m := 240) (v := .inl (Int32.ofNat 16)) rfl (by decide) (by decide) (by omega) ev ?_
  refine kx_go 1 (pc' := 129) (L' := [(4, .inl (Int32.ofNat (n 2))), (3, .inl (Int32.ofNat (n 1))), (2, .inl (Int32.ofNat (n 0))), (0, .inr (.inr (.inl (some 259)))), (1, .inl (Int32.ofNat i))]) (S' := []) (h' := h') (by with_unfolding_all rfl) ?_
  refine kx_go 3 (pc' := 132) (L' := [(4, .inl (Int32.ofNat (n 2))), (3, .inl (Int32.ofNat (n 1))), (2, .inl (Int32.ofNat (n 0))), (0, .inr (.inr (.inl (some 259)))), (1, .inl (Int32.ofNat i))]) (S' := [.inl (Int32.ofNat (n 1)), .inl (Int32.ofNat (n 0)), .inr (.inr (.inl (some 259)))]) (h' := h') (by with_unfolding_all rfl) ?_
  refine kc_call_rule (M2 := wk_m47) (av := [.inr (.inr (.inl (some 259))), .inl (Int32.ofNat (n 0)), .inl (Int32.ofNat (n 1))]) (r := []) rfl rfl (kc_Con_le (kv_rask hg hw hC) (by decide)) (fun rv h2 hq => ?_)
  obtain ⟨r, rfl, hw2, hfr, hq⟩ := hq
  refine kc_ret_ok rfl (rv := some (.inl r)) rfl ⟨r, rfl, hw2, ?_, ?_⟩
  · exact kd_cvW_r [(260, 260, 80, 149)] (by decide) hfr
  · rcases hq with ⟨k, r0⟩ | ⟨k, r0, rfl⟩
    · refine Or.inl ⟨D, M, L, f, if_pos (by omega), r0, ⟨by omega, by omega, by omega, ?_, ?_, ?_⟩, fun i hi => ?_⟩
      · exact (kv_fr1 hfr (by decide)).trans eD
      · exact (kv_fr1 hfr (by decide)).trans eM
      · exact (kv_fr1 hfr (by decide)).trans eL
      · exact ⟨(ef i hi).1, (kv_fr1 hfr ((show ∀ i, i < 6 → (([(260, 260, 80, 149)] : kd_W).all fun q => !kd_inr 260 q.1 q.2.1 (46 + i) q.2.2.1 q.2.2.2) = true from by decide) i hi)).trans (ef i hi).2⟩
    · exact Or.inr ⟨if_neg (by omega), r0⟩
set_option maxRecDepth 20000 in
theorem kv_item7 {g : kc_G} {h : kc_H} {i D M L : Nat} {f n : Nat → Nat} (hg : kc_ok g) (hw : kd_wt kd_ty h) (hi : i < 60) (hC : kv_Rs h D M L f) (ev : h 264 i = .inl (Int32.ofNat 17)) (en : ∀ k, k < 4 → h 265 (5 * i + k) = .inl (Int32.ofNat (n k)) ∧ n k < 1000) : kc_Con g 6 235 [.inr (.inr (.inl (some 259))), .inl (Int32.ofNat i)] h (kv_Pr h (kv_step 7 n D M L f)) := by
  obtain ⟨hC, ef⟩ := hC
  obtain ⟨hD, hM, hL, eD, eM, eL⟩ := hC
  have hC : kv_R h D M L := ⟨hD, hM, hL, eD, eM, eL⟩
  obtain ⟨en0, nb0⟩ := en 0 (by omega)
  have t0 : (Int32.ofNat (n 0)).toInt = n 0 := kx_ti (by omega)
  obtain ⟨en1, nb1⟩ := en 1 (by omega)
  have t1 : (Int32.ofNat (n 1)).toInt = n 1 := kx_ti (by omega)
  obtain ⟨en2, nb2⟩ := en 2 (by omega)
  have t2 : (Int32.ofNat (n 2)).toInt = n 2 := kx_ti (by omega)
  obtain ⟨en3, nb3⟩ := en 3 (by omega)
  have t3 : (Int32.ofNat (n 3)).toInt = n 3 := kx_ti (by omega)
  have h11 := kx_ofr (hw _ _ _ kv_kr.1)
  have h12 := kx_ofr (hw _ _ _ kv_kr.2)
  refine kc_Con_new hg (M := wk_m235) rfl rfl rfl (show 2 ≤ 5 by decide) ?_
  refine kx_go 3 (pc' := 3) (L' := [(0, .inr (.inr (.inl (some 259)))), (1, .inl (Int32.ofNat i))]) (S' := [.inl (Int32.ofNat 0), .inl (Int32.ofNat i), .inr (.inr (.inl (some 259)))]) (h' := h) (by with_unfolding_all rfl) ?_
  refine kc_call_rule (M2 := wk_m236) (av := [.inr (.inr (.inl (some 259))), .inl (Int32.ofNat i), .inl (Int32.ofNat 0)]) (r := []) rfl rfl (kc_Con_le (kv_num (d := 0) (x := n 0) hg hi (by decide) h12 en0) (by decide)) (fun rv h' hq => ?_)
  obtain ⟨rfl, rfl⟩ := hq
  show kc_Ev g 5 wk_m235 _ 6 [(0, .inr (.inr (.inl (some 259)))), (1, .inl (Int32.ofNat i))] [.inl (Int32.ofNat (n 0))] h'
  refine kx_go 4 (pc' := 10) (L' := [(2, .inl (Int32.ofNat (n 0))), (0, .inr (.inr (.inl (some 259)))), (1, .inl (Int32.ofNat i))]) (S' := [.inl (Int32.ofNat 1), .inl (Int32.ofNat i), .inr (.inr (.inl (some 259)))]) (h' := h') (by with_unfolding_all rfl) ?_
  refine kc_call_rule (M2 := wk_m236) (av := [.inr (.inr (.inl (some 259))), .inl (Int32.ofNat i), .inl (Int32.ofNat 1)]) (r := []) rfl rfl (kc_Con_le (kv_num (d := 0) (x := n 1) hg hi (by decide) h12 en1) (by decide)) (fun rv h' hq => ?_)
  obtain ⟨rfl, rfl⟩ := hq
  show kc_Ev g 5 wk_m235 _ 13 [(2, .inl (Int32.ofNat (n 0))), (0, .inr (.inr (.inl (some 259)))), (1, .inl (Int32.ofNat i))] [.inl (Int32.ofNat (n 1))] h'
  refine kx_go 4 (pc' := 17) (L' := [(3, .inl (Int32.ofNat (n 1))), (2, .inl (Int32.ofNat (n 0))), (0, .inr (.inr (.inl (some 259)))), (1, .inl (Int32.ofNat i))]) (S' := [.inl (Int32.ofNat 2), .inl (Int32.ofNat i), .inr (.inr (.inl (some 259)))]) (h' := h') (by with_unfolding_all rfl) ?_
  refine kc_call_rule (M2 := wk_m236) (av := [.inr (.inr (.inl (some 259))), .inl (Int32.ofNat i), .inl (Int32.ofNat 2)]) (r := []) rfl rfl (kc_Con_le (kv_num (d := 0) (x := n 2) hg hi (by decide) h12 en2) (by decide)) (fun rv h' hq => ?_)
  obtain ⟨rfl, rfl⟩ := hq
  show kc_Ev g 5 wk_m235 _ 20 [(3, .inl (Int32.ofNat (n 1))), (2, .inl (Int32.ofNat (n 0))), (0, .inr (.inr (.inl (some 259)))), (1, .inl (Int32.ofNat i))] [.inl (Int32.ofNat (n 2))] h'
  refine kx_go 2 (pc' := 23) (L' := [(4, .inl (Int32.ofNat (n 2))), (3, .inl (Int32.ofNat (n 1))), (2, .inl (Int32.ofNat (n 0))), (0, .inr (.inr (.inl (some 259)))), (1, .inl (Int32.ofNat i))]) (S' := [.inr (.inr (.inl (some 259)))]) (h' := h') (by with_unfolding_all rfl) ?_
  refine kx_getf (c := 259) (v := .inr (.inr (.inl (some 264)))) rfl (by decide) h11 ?_
  refine kx_go 1 (pc' := 27) (L' := [(4, .inl (Int32.ofNat (n 2))), (3, .inl (Int32.ofNat (n 1))), (2, .inl (Int32.ofNat (n 0))), (0, .inr (.inr (.inl (some 259)))), (1, .inl (Int32.ofNat i))]) (S' := [.inl (Int32.ofNat i), .inr (.inr (.inl (some 264)))]) (h' := h') (by with_unfolding_all rfl) ?_
  refine kx_iald rfl (c := 264) (j := i) (m := 240) (v := .inl (Int32.ofNat 17)) rfl (by decide) (by decide) (by omega) ev ?_
  refine kx_go 1 (pc' := 136) (L' := [(4, .inl (Int32.ofNat (n 2))), (3, .inl (Int32.ofNat (n 1))), (2, .inl (Int32.ofNat (n 0))), (0, .inr (.inr (.inl (some 259)))), (1, .inl (Int32.ofNat i))]) (S' := []) (h' := h') (by with_unfolding_all rfl) ?_
  refine kx_go 3 (pc' := 139) (L' := [(4, .inl (Int32.ofNat (n 2))), (3, .inl (Int32.ofNat (n 1))), (2, .inl (Int32.ofNat (n 0))), (0, .inr (.inr (.inl (some 259)))), (1, .inl (Int32.ofNat i))]) (S' := [.inl (Int32.ofNat (n 1)), .inl (Int32.ofNat (n 0)), .inr (.inr (.inl (some 259)))]) (h' := h') (by with_unfolding_all rfl) ?_
  refine kc_call_rule (M2 := wk_m50) (av := [.inr (.inr (.inl (some 259))), .inl (Int32.ofNat (n 0)), .inl (Int32.ofNat (n 1))]) (r := []) rfl rfl (kc_Con_le (kv_rdrain hg hw hC) (by decide)) (fun rv h2 hq => ?_)
  obtain ⟨r, rfl, hw2, hfr, hq⟩ := hq
  refine kc_ret_ok rfl (rv := some (.inl r)) rfl ⟨r, rfl, hw2, ?_, ?_⟩
  · exact kd_cvW_r [(260, 260, 80, 149)] (by decide) hfr
  · rcases hq with ⟨k, r0⟩ | ⟨k, r0, rfl⟩
    · refine Or.inl ⟨D, M, L, f, if_pos (by omega), r0, ⟨by omega, by omega, by omega, ?_, ?_, ?_⟩, fun i hi => ?_⟩
      · exact (kv_fr1 hfr (by decide)).trans eD
      · exact (kv_fr1 hfr (by decide)).trans eM
      · exact (kv_fr1 hfr (by decide)).trans eL
      · exact ⟨(ef i hi).1, (kv_fr1 hfr ((show ∀ i, i < 6 → (([(260, 260, 80, 149)] : kd_W).all fun q => !kd_inr 260 q.1 q.2.1 (46 + i) q.2.2.1 q.2.2.2) = true from by decide) i hi)).trans (ef i hi).2⟩
    · exact Or.inr ⟨if_neg (by omega), r0⟩
set_option maxRecDepth 20000 in
theorem kv_item8 {g : kc_G} {h : kc_H} {i D M L : Nat} {f n : Nat → Nat} (hg : kc_ok g) (hw : kd_wt kd_ty h) (hi : i < 60) (hC : kv_Rs h D M L f) (ev : h 264 i = .inl (Int32.ofNat 18)) (en : ∀ k, k < 4 → h 265 (5 * i + k) = .inl (Int32.ofNat (n k)) ∧ n k < 1000) : kc_Con g 6 235 [.inr (.inr (.inl (some 259))), .inl (Int32.ofNat i)] h (kv_Pr h (kv_step 8 n D M L f)) := by
  obtain ⟨hC, ef⟩ := hC
  obtain ⟨hD, hM, hL, eD, eM, eL⟩ := hC
  have hC : kv_R h D M L := ⟨hD, hM, hL, eD, eM, eL⟩
  obtain ⟨en0, nb0⟩ := en 0 (by omega)
  have t0 : (Int32.ofNat (n 0)).toInt = n 0 := kx_ti (by omega)
  obtain ⟨en1, nb1⟩ := en 1 (by omega)
  have t1 : (Int32.ofNat (n 1)).toInt = n 1 := kx_ti (by omega)
  obtain ⟨en2, nb2⟩ := en 2 (by omega)
  have t2 : (Int32.ofNat (n 2)).toInt = n 2 := kx_ti (by omega)
  obtain ⟨en3, nb3⟩ := en 3 (by omega)
  have t3 : (Int32.ofNat (n 3)).toInt = n 3 := kx_ti (by omega)
  have h11 := kx_ofr (hw _ _ _ kv_kr.1)
  have h12 := kx_ofr (hw _ _ _ kv_kr.2)
  refine kc_Con_new hg (M := wk_m235) rfl rfl rfl (show 2 ≤ 5 by decide) ?_
  refine kx_go 3 (pc' := 3) (L' := [(0, .inr (.inr (.inl (some 259)))), (1, .inl (Int32.ofNat i))]) (S' := [.inl (Int32.ofNat 0), .inl (Int32.ofNat i), .inr (.inr (.inl (some 259)))]) (h' := h) (by with_unfolding_all rfl) ?_
  refine kc_call_rule (M2 := wk_m236) (av := [.inr (.inr (.inl (some 259))), .inl (Int32.ofNat i), .inl (Int32.ofNat 0)]) (r := []) rfl rfl (kc_Con_le (kv_num (d := 0) (x := n 0) hg hi (by decide) h12 en0) (by decide)) (fun rv h' hq => ?_)
  obtain ⟨rfl, rfl⟩ := hq
  show kc_Ev g 5 wk_m235 _ 6 [(0, .inr (.inr (.inl (some 259)))), (1, .inl (Int32.ofNat i))] [.inl (Int32.ofNat (n 0))] h'
  refine kx_go 4 (pc' := 10) (L' := [(2, .inl (Int32.ofNat (n 0))), (0, .inr (.inr (.inl (some 259)))), (1, .inl (Int32.ofNat i))]) (S' := [.inl (Int32.ofNat 1), .inl (Int32.ofNat i), .inr (.inr (.inl (some 259)))]) (h' := h') (by with_unfolding_all rfl) ?_
  refine kc_call_rule (M2 := wk_m236) (av := [.inr (.inr (.inl (some 259))), .inl (Int32.ofNat i), .inl (Int32.ofNat 1)]) (r := []) rfl rfl (kc_Con_le (kv_num (d := 0) (x := n 1) hg hi (by decide) h12 en1) (by decide)) (fun rv h' hq => ?_)
  obtain ⟨rfl, rfl⟩ := hq
  show kc_Ev g 5 wk_m235 _ 13 [(2, .inl (Int32.ofNat (n 0))), (0, .inr (.inr (.inl (some 259)))), (1, .inl (Int32.ofNat i))] [.inl (Int32.ofNat (n 1))] h'
  refine kx_go 4 (pc' := 17) (L' := [(3, .inl (Int32.ofNat (n 1))), (2, .inl (Int32.ofNat (n 0))), (0, .inr (.inr (.inl (some 259)))), (1, .inl (Int32.ofNat i))]) (S' := [.inl (Int32.ofNat 2), .inl (Int32.ofNat i), .inr (.inr (.inl (some 259)))]) (h' := h') (by with_unfolding_all rfl) ?_
  refine kc_call_rule (M2 := wk_m236) (av := [.inr (.inr (.inl (some 259))), .inl (Int32.ofNat i), .inl (Int32.ofNat 2)]) (r := []) rfl rfl (kc_Con_le (kv_num (d := 0) (x := n 2) hg hi (by decide) h12 en2) (by decide)) (fun rv h' hq => ?_)
  obtain ⟨rfl, rfl⟩ := hq
  show kc_Ev g 5 wk_m235 _ 20 [(3, .inl (Int32.ofNat (n 1))), (2, .inl (Int32.ofNat (n 0))), (0, .inr (.inr (.inl (some 259)))), (1, .inl (Int32.ofNat i))] [.inl (Int32.ofNat (n 2))] h'
  refine kx_go 2 (pc' := 23) (L' := [(4, .inl (Int32.ofNat (n 2))), (3, .inl (Int32.ofNat (n 1))), (2, .inl (Int32.ofNat (n 0))), (0, .inr (.inr (.inl (some 259)))), (1, .inl (Int32.ofNat i))]) (S' := [.inr (.inr (.inl (some 259)))]) (h' := h') (by with_unfolding_all rfl) ?_
  refine kx_getf (c := 259) (v := .inr (.inr (.inl (some 264)))) rfl (by decide) h11 ?_
  refine kx_go 1 (pc' := 27) (L' := [(4, .inl (Int32.ofNat (n 2))), (3, .inl (Int32.ofNat (n 1))), (2, .inl (Int32.ofNat (n 0))), (0, .inr (.inr (.inl (some 259)))), (1, .inl (Int32.ofNat i))]) (S' := [.inl (Int32.ofNat i), .inr (.inr (.inl (some 264)))]) (h' := h') (by with_unfolding_all rfl) ?_
  refine kx_iald rfl (c := 264) (j := i) (m := 240) (v := .inl (Int32.ofNat 18)) rfl (by decide) (by decide) (by omega) ev ?_
  refine kx_go 1 (pc' := 143) (L' := [(4, .inl (Int32.ofNat (n 2))), (3, .inl (Int32.ofNat (n 1))), (2, .inl (Int32.ofNat (n 0))), (0, .inr (.inr (.inl (some 259)))), (1, .inl (Int32.ofNat i))]) (S' := []) (h' := h') (by with_unfolding_all rfl) ?_
  refine kx_go 3 (pc' := 146) (L' := [(4, .inl (Int32.ofNat (n 2))), (3, .inl (Int32.ofNat (n 1))), (2, .inl (Int32.ofNat (n 0))), (0, .inr (.inr (.inl (some 259)))), (1, .inl (Int32.ofNat i))]) (S' := [.inl (Int32.ofNat (n 1)), .inl (Int32.ofNat (n 0)), .inr (.inr (.inl (some 259)))]) (h' := h') (by with_unfolding_all rfl) ?_
  refine kc_call_rule (M2 := wk_m30) (av := [.inr (.inr (.inl (some 259))), .inl (Int32.ofNat (n 0)), .inl (Int32.ofNat (n 1))]) (r := []) rfl rfl (kc_Con_le (kv_rstones hg hw hC) (by decide)) (fun rv h2 hq => ?_)
  obtain ⟨r, rfl, hw2, hfr, hq⟩ := hq
  refine kc_ret_ok rfl (rv := some (.inl r)) rfl ⟨r, rfl, hw2, ?_, ?_⟩
  · exact kd_cvW_r [(260, 260, 52, 57)] (by decide) hfr
  · rcases hq with ⟨k, r0⟩ | ⟨k, r0, rfl⟩
    · refine Or.inl ⟨D, M, L, f, if_pos (by omega), r0, ⟨by omega, by omega, by omega, ?_, ?_, ?_⟩, fun i hi => ?_⟩
      · exact (kv_fr1 hfr (by decide)).trans eD
      · exact (kv_fr1 hfr (by decide)).trans eM
      · exact (kv_fr1 hfr (by decide)).trans eL
      · exact ⟨(ef i hi).1, (kv_fr1 hfr ((show ∀ i, i < 6 → (([(260, 260, 52, 57)] : kd_W).all fun q => !kd_inr 260 q.1 q.2.1 (46 + i) q.2.2.1 q.2.2.2) = true from by decide) i hi)).trans (ef i hi).2⟩
    · exact Or.inr ⟨if_neg (by omega), r0⟩
theorem kv_item {g : kc_G} {h : kc_H} {i D M L v : Nat} {f n : Nat → Nat} (hg : kc_ok g) (hw : kd_wt kd_ty h) (hi : i < 60) (hv : v < 9) (hC : kv_Rs h D M L f) (ev : h 264 i = .inl (Int32.ofNat (kp_tv v))) (en : ∀ k, k < 4 → h 265 (5 * i + k) = .inl (Int32.ofNat (n k)) ∧ n k < 1000) : kc_Con g 6 235 [.inr (.inr (.inl (some 259))), .inl (Int32.ofNat i)] h (kv_Pr h (kv_step v n D M L f)) := by
  rcases (show v = 0 ∨ v = 1 ∨ v = 2 ∨ v = 3 ∨ v = 4 ∨ v = 5 ∨ v = 6 ∨ v = 7 ∨ v = 8 by omega) with rfl | rfl | rfl | rfl | rfl | rfl | rfl | rfl | rfl
  · exact kv_item0 hg hw hi hC ev en
  · exact kv_item1 hg hw hi hC ev en
  · exact kv_item2 hg hw hi hC ev en
  · exact kv_item3 hg hw hi hC ev en
  · exact kv_item4 hg hw hi hC ev en
  · exact kv_item5 hg hw hi hC ev en
  · exact kv_item6 hg hw hi hC ev en
  · exact kv_item7 hg hw hi hC ev en
  · exact kv_item8 hg hw hi hC ev en
end
section
-- 99.ze
/-! ===== the day, class ===== -/
/-! items as they lie behind the reading -/
theorem kr_w_at {r : Nat} : ∀ (vs : List Nat) (h : kc_H) (j k x : Nat), vs[k]? = some x → kr_w h r j vs r (j + k) = .inl (Int32.ofNat x)
  | [], _, _, k, x, e => by simp at e
  | v :: vs, h, j, 0, x, e => by
    have e : some v = some x := e
    cases e
    have : ∀ (vs : List Nat) (h : kc_H) (j b : Nat), b < j → kr_w h r j vs r b = h r b := by
      intro vs
      induction vs with
      | nil => intro h j b _; rfl
      | cons u vs ih =>
        intro h j b hb
        show kr_w (kc_upd h r j (.inl (Int32.ofNat u))) r (j + 1) vs r b = h r b
        rw [ih _ _ _ (by omega)]
        unfold kc_upd
        rw [if_neg (by omega)]
    show kr_w (kc_upd h r j (.inl (Int32.ofNat v))) r (j + 1) vs r (j + 0) = _
    rw [this vs _ (j + 1) (j + 0) (by omega)]
    unfold kc_upd
    rw [if_pos ⟨rfl, by omega⟩]
  | v :: vs, h, j, k + 1, x, e => by
    have e : vs[k]? = some x := by simpa using e
    show kr_w (kc_upd h r j (.inl (Int32.ofNat v))) r (j + 1) vs r (j + (k + 1)) = _
    rw [show j + (k + 1) = j + 1 + k from by omega]
    exact kr_w_at vs _ (j + 1) k x e
theorem kr_ws_o : ∀ (l : List (Nat × List Nat)) (h : kc_H) (it r b : Nat), r < it → (kr_ws h it l 128 r = h 128 r) ∧ (kr_ws h it l (130 + r) b = h (130 + r) b)
  | [], _, _, _, _, _ => ⟨rfl, rfl⟩
  | q :: l, h, it, r, b, hr => by
    obtain ⟨e1, e2⟩ := kr_ws_o l (kr_w1 h it q) (it + 1) r b (by omega)
    refine ⟨e1.trans ?_, e2.trans ?_⟩
    · unfold kr_w1 kc_upd
      rw [if_neg (by omega)]
      exact kr_w_o (by omega) _ _ _
    · unfold kr_w1 kc_upd
      rw [if_neg (by omega)]
      exact kr_w_o (by omega) _ _ _
theorem kr_ws_at : ∀ (l : List (Nat × List Nat)) (h : kc_H) (it i : Nat) (q : Nat × List Nat), l[i]? = some q → kr_ws h it l 128 (it + i) = .inl (Int32.ofNat q.1) ∧ ∀ k x, q.2[k]? = some x → kr_ws h it l (130 + (it + i)) k = .inl (Int32.ofNat x)
  | [], _, _, i, q, e => by simp at e
  | p :: l, h, it, 0, q, e => by
    have e : some p = some q := e
    cases e
    refine ⟨?_, fun k x hx => ?_⟩
    · show kr_ws (kr_w1 h it p) (it + 1) l 128 (it + 0) = _
      rw [(kr_ws_o l (kr_w1 h it p) (it + 1) (it + 0) 0 (by omega)).1]
      unfold kr_w1 kc_upd
      rw [if_pos ⟨rfl, by omega⟩]
    · show kr_ws (kr_w1 h it p) (it + 1) l (130 + (it + 0)) k = _
      rw [(kr_ws_o l (kr_w1 h it p) (it + 1) (it + 0) k (by omega)).2]
      unfold kr_w1
      rw [kj_uo (by omega), show 130 + (it + 0) = 130 + it from by omega]
      have := kr_w_at (r := 130 + it) p.2 h 0 k x hx
      rw [Nat.zero_add] at this
      exact this
  | p :: l, h, it, i + 1, q, e => by
    have e : l[i]? = some q := by simpa using e
    have := kr_ws_at l (kr_w1 h it p) (it + 1) i q e
    rw [show it + 1 + i = it + (i + 1) from by omega] at this
    exact this
theorem km_nw_at {it : Nat} : ∀ (vs : List Nat) (h : kc_H) (j k x : Nat), vs[k]? = some x → km_nw h it j vs 265 (5 * it + (j + k)) = .inl (Int32.ofNat x)
  | [], _, _, k, x, e => by simp at e
  | v :: vs, h, j, 0, x, e => by
    have e : some v = some x := e
    cases e
    have : ∀ (vs : List Nat) (h : kc_H) (j b : Nat), b < 5 * it + j → km_nw h it j vs 265 b = h 265 b := by
      intro vs
      induction vs with
      | nil => intro h j b _; rfl
      | cons u vs ih =>
        intro h j b hb
        show km_nw (kc_upd h 265 (5 * it + j) (.inl (Int32.ofNat u))) it (j + 1) vs 265 b = h 265 b
        rw [ih _ _ _ (by omega)]
        unfold kc_upd
        rw [if_neg (by omega)]
    show km_nw (kc_upd h 265 (5 * it + j) (.inl (Int32.ofNat v))) it (j + 1) vs 265 (5 * it + (j + 0)) = _
    rw [this vs _ (j + 1) _ (by omega)]
    unfold kc_upd
    rw [if_pos ⟨rfl, by omega⟩]
  | v :: vs, h, j, k + 1, x, e => by
    have e : vs[k]? = some x := by simpa using e
    show km_nw (kc_upd h 265 (5 * it + j) (.inl (Int32.ofNat v))) it (j + 1) vs 265 (5 * it + (j + (k + 1))) = _
    rw [show j + (k + 1) = j + 1 + k from by omega]
    exact km_nw_at vs _ (j + 1) k x e
theorem km_nw_o {it : Nat} : ∀ (vs : List Nat) (h : kc_H) (j a b : Nat), (¬ a = 265 ∨ b < 5 * it + j) → km_nw h it j vs a b = h a b
  | [], _, _, _, _, _ => rfl
  | v :: vs, h, j, a, b, hb => by
    show km_nw (kc_upd h 265 (5 * it + j) (.inl (Int32.ofNat v))) it (j + 1) vs a b = h a b
    rw [km_nw_o vs _ (j + 1) a b (by omega)]
    unfold kc_upd
    rw [if_neg (by omega)]
theorem km_ns_o : ∀ (l : List (Nat × List Nat)) (h : kc_H) (it r b : Nat), r < it → b < 5 → (km_ns h it l 264 r = h 264 r) ∧ (km_ns h it l 265 (5 * r + b) = h 265 (5 * r + b))
  | [], _, _, _, _, _, _ => ⟨rfl, rfl⟩
  | q :: l, h, it, r, b, hr, hb => by
    obtain ⟨e1, e2⟩ := km_ns_o l (km_n1 h it q) (it + 1) r b (by omega) hb
    refine ⟨e1.trans ?_, e2.trans ?_⟩
    · unfold km_n1 kc_upd
      rw [if_neg (by omega)]
      exact km_nw_o _ _ _ _ _ (Or.inl (by omega))
    · unfold km_n1
      rw [kj_uo (by omega)]
      exact km_nw_o _ _ _ _ _ (Or.inr (by omega))
theorem km_ns_at : ∀ (l : List (Nat × List Nat)) (h : kc_H) (it i : Nat) (q : Nat × List Nat), l[i]? = some q → (∀ q ∈ l, q.2.length ≤ 4) → km_ns h it l 264 (it + i) = .inl (Int32.ofNat (kp_tv q.1)) ∧ ∀ k x, q.2[k]? = some x → km_ns h it l 265 (5 * (it + i) + k) = .inl (Int32.ofNat x)
  | [], _, _, i, q, e, _ => by simp at e
  | p :: l, h, it, 0, q, e, hl => by
    have e : some p = some q := e
    cases e
    refine ⟨?_, fun k x hx => ?_⟩
    · show km_ns (km_n1 h it p) (it + 1) l 264 (it + 0) = _
      rw [(km_ns_o l (km_n1 h it p) (it + 1) (it + 0) 0 (by omega) (by omega)).1]
      unfold km_n1 kc_upd
      rw [if_pos ⟨rfl, by omega⟩]
    · have hk : k < p.2.length := by
        have := List.getElem?_eq_some_iff.mp hx
        exact this.1
      have := hl p List.mem_cons_self
      show km_ns (km_n1 h it p) (it + 1) l 265 (5 * (it + 0) + k) = _
      rw [(km_ns_o l (km_n1 h it p) (it + 1) (it + 0) k (by omega) (by omega)).2]
      unfold km_n1
      rw [kj_uo (by omega), show 5 * (it + 0) + k = 5 * it + (0 + k) from by omega]
      exact km_nw_at (it := it) p.2 h 0 k x hx
  | p :: l, h, it, i + 1, q, e, hl => by
    have e : l[i]? = some q := by simpa using e
    have := km_ns_at l (km_n1 h it p) (it + 1) i q e (fun q hq => hl q (List.mem_cons_of_mem _ hq))
    rw [show it + 1 + i = it + (i + 1) from by omega] at this
    exact this
/-! ===== the class's day ===== -/
def kv_out (t : Nat → Nat) (n : Nat) : Option (Nat × Nat × Nat × (Nat → Nat)) := match kp_its t n 9 0 61 0 with
  | none => none
  | some l => kv_fold l 0 0 0 (fun _ => 0)
def kv_W67 : kd_W := [(1, 62, 0, 239), (127, 127, 1, 8), (128, 189, 0, 59)]
def kv_dC (h : kc_H) (out : Option (Nat × Nat × Nat × (Nat → Nat))) : Option kc_V → kc_H → Prop := fun rv h' => (∃ z : Int32, rv = some (.inl z)) ∧ kd_wt kd_ty h' ∧ kd_fr kv_W67 h h' ∧ (∀ j, j < 240 → h' 29 j = h 29 j) ∧ h' 31 0 = h 31 0 ∧ ((out = none ∧ h' 1 0 = h 1 0 ∧ h' 1 1 = h 1 1 ∧ h' 1 2 = h 1 2) ∨ ∃ D M L f, out = some (D, M, L, f) ∧ kv_C h' D M L)
theorem kt_K_wt {h : kc_H} {a b : Nat} (hw : kd_wt kd_ty h) (hk : ∀ k, k < 31 → ∀ i, i < kt_ln k → kd_rn (kd_ty (b + k)) i = kd_rn (kd_ty (a + k)) i) : kd_wt kd_ty (kt_K h a b 31) := by
  intro c i v hv
  unfold kt_K
  split
  · rename_i e
    obtain ⟨e1, e2, e3⟩ := e
    refine hw (a + (c - b)) i v ?_
    rw [← hk (c - b) (by omega) i e3, show b + (c - b) = c from by omega]
    exact hv
  · exact hw c i v hv
theorem kt_ty1_32 : ∀ k, k < 31 → ∀ i, i < kt_ln k → kd_rn (kd_ty (32 + k)) i = kd_rn (kd_ty (1 + k)) i := by decide +kernel
theorem kt_ty32_1 : ∀ k, k < 31 → ∀ i, i < kt_ln k → kd_rn (kd_ty (1 + k)) i = kd_rn (kd_ty (32 + k)) i := by decide +kernel
theorem kt_ty1_64 : ∀ k, k < 31 → ∀ i, i < kt_ln k → kd_rn (kd_ty (64 + k)) i = kd_rn (kd_ty (1 + k)) i := by decide +kernel
theorem kt_ty1_95 : ∀ k, k < 31 → ∀ i, i < kt_ln k → kd_rn (kd_ty (95 + k)) i = kd_rn (kd_ty (1 + k)) i := by decide +kernel
theorem kt_ty64_1 : ∀ k, k < 31 → ∀ i, i < kt_ln k → kd_rn (kd_ty (1 + k)) i = kd_rn (kd_ty (64 + k)) i := by decide +kernel
theorem kt_ty95_1 : ∀ k, k < 31 → ∀ i, i < kt_ln k → kd_rn (kd_ty (1 + k)) i = kd_rn (kd_ty (95 + k)) i := by decide +kernel
theorem kv_k0 : kd_rn (kd_ty 0) 0 = some (3, 1, 1) ∧ kd_rn (kd_ty 0) 1 = some (3, 32, 32) ∧ kd_rn (kd_ty 0) 4 = some (3, 127, 127) := by decide +kernel
set_option maxRecDepth 20000 in
theorem kv_dayl {g : kc_G} {d : Nat} {Q : Option kc_V → kc_H → Prop} {hB : kc_H} {z1 : Int32} {l : List (Nat × List Nat)} {out : Option (Nat × Nat × Nat × (Nat → Nat))} (hg : kc_ok g) (hd : 6 ≤ d) (hit : hB 127 1 = .inl (Int32.ofNat l.length)) (hl60 : l.length ≤ 60) (hl : ∀ (i : Nat) (q : Nat × List Nat), l[i]? = some q → kp_okI q ∧ q.1 < 9 ∧ q.2.length = ks_L (kp_sh q.1)) (hat : ∀ (i : Nat) (q : Nat × List Nat), l[i]? = some q → hB 128 i = .inl (Int32.ofNat q.1) ∧ ∀ k x, q.2[k]? = some x → hB (130 + i) k = .inl (Int32.ofNat x))
    (hQ1 : ∀ (z : Int32) (hE : kc_H) (D M L : Nat) (f : Nat → Nat), kd_wt kd_ty hE → kd_fr kv_WC hB hE → kv_C hE D M L → kv_fold [] D M L f = out → Q (some (.inl z)) hE) (hQ0 : ∀ (z : Int32) (hE : kc_H), kd_wt kd_ty hE → kd_fr kv_WC hB hE → out = none → Q (some (.inl z)) (kt_K hE 32 1 31)) : ∀ (u i : Nat) (hh : kc_H) (D M L : Nat) (f : Nat → Nat), l.length - i = u → i ≤ l.length → kd_wt kd_ty hh → kd_fr kv_WC hB hh → kv_Cs hh D M L f → kv_fold (l.drop i) D M L f = out → kc_Ev g d wk_m67 Q 39 [(2, .inl (Int32.ofNat i)), (1, .inl (z1)), (0, .inr (.inr (.inl (some 0))))] [] hh := by
  intro u
  induction u with
  | zero =>
    intro i hh D M L f hu hi hw hfr hC hf
    have k0 := kx_ofr (hw _ _ _ kv_k0.1)
    have k4 := kx_ofr (hw _ _ _ kv_k0.2.2)
    have eit : hh 127 1 = .inl (Int32.ofNat l.length) := (kv_fr1 hfr (by decide)).trans hit
    refine kx_go 2 (pc' := 41) (L' := [(2, .inl (Int32.ofNat i)), (1, .inl (z1)), (0, .inr (.inr (.inl (some 0))))]) (S' := [.inr (.inr (.inl (some 0))), .inl (Int32.ofNat i)]) (h' := hh) (by with_unfolding_all rfl) ?_
    refine kx_getf (c := 0) (v := .inr (.inr (.inl (some 127)))) rfl (by decide) k4 ?_
    refine kx_getf (c := 127) (v := .inl (Int32.ofNat l.length)) rfl (by decide) eit ?_
    refine kx_go 1 (pc' := (if kc_cnd .ge (Int32.ofNat i).toInt (Int32.ofNat l.length).toInt then 101 else 50)) (L' := [(2, .inl (Int32.ofNat i)), (1, .inl (z1)), (0, .inr (.inr (.inl (some 0))))]) (S' := []) (h' := hh) (by with_unfolding_all rfl) ?_
    rw [if_pos ((kx_ge (by omega) (by omega)).mpr (by omega))]
    refine kx_go 1 (pc' := 102) (L' := [(2, .inl (Int32.ofNat i)), (1, .inl (z1)), (0, .inr (.inr (.inl (some 0))))]) (S' := [.inr (.inr (.inl (some 0)))]) (h' := hh) (by with_unfolding_all rfl) ?_
    refine kx_getf (c := 0) (v := .inr (.inr (.inl (some 127)))) rfl (by decide) k4 ?_
    refine kx_getf (c := 127) (v := .inl (Int32.ofNat l.length)) rfl (by decide) eit ?_
    have hnil : l.drop i = [] := List.drop_eq_nil_of_le (by omega)
    rw [hnil] at hf
    exact kc_ret_ok rfl (rv := some (.inl (Int32.ofNat l.length))) rfl (hQ1 _ _ D M L f hw hfr hC.1 hf)
  | succ u ih =>
    intro i hh D M L f hu hi hw hfr hC hf
    have k0 := kx_ofr (hw _ _ _ kv_k0.1)
    have k4 := kx_ofr (hw _ _ _ kv_k0.2.2)
    have eit : hh 127 1 = .inl (Int32.ofNat l.length) := (kv_fr1 hfr (by decide)).trans hit
    refine kx_go 2 (pc' := 41) (L' := [(2, .inl (Int32.ofNat i)), (1, .inl (z1)), (0, .inr (.inr (.inl (some 0))))]) (S' := [.inr (.inr (.inl (some 0))), .inl (Int32.ofNat i)]) (h' := hh) (by with_unfolding_all rfl) ?_
    refine kx_getf (c := 0) (v := .inr (.inr (.inl (some 127)))) rfl (by decide) k4 ?_
    refine kx_getf (c := 127) (v := .inl (Int32.ofNat l.length)) rfl (by decide) eit ?_
    refine kx_go 1 (pc' := (if kc_cnd .ge (Int32.ofNat i).toInt (Int32.ofNat l.length).toInt then 101 else 50)) (L' := [(2, .inl (Int32.ofNat i)), (1, .inl (z1)), (0, .inr (.inr (.inl (some 0))))]) (S' := []) (h' := hh) (by with_unfolding_all rfl) ?_
    rw [if_neg (fun q => by have := (kx_ge (by omega) (by omega)).mp q; omega)]
    obtain ⟨q, hq⟩ : ∃ q, l[i]? = some q := ⟨l[i]'(by omega), List.getElem?_eq_getElem (by omega)⟩
    obtain ⟨hqo, hq9, hql⟩ := hl i q hq
    obtain ⟨a1, a2⟩ := hat i q hq
    have ew : hh 128 i = .inl (Int32.ofNat q.1) := (kv_fr1 hfr ((show ∀ i, i < 60 → (kv_WC.all fun q => !kd_inr 128 q.1 q.2.1 i q.2.2.1 q.2.2.2) = true from by decide +kernel) i (by omega))).trans a1
    have er : ∀ k, hh (130 + i) k = hB (130 + i) k := fun k => hfr (130 + i) k (fun q hq => by
      simp only [kv_WC, List.mem_cons, List.not_mem_nil, or_false] at hq
      rcases hq with rfl | rfl | rfl | rfl | rfl <;> exact kb_inr (by (try dsimp only); omega))
    have hrow : hh 129 i = .inr (.inr (.inl (some (130 + i)))) := kx_ofr (hw _ _ _ (kr_k129 i (by omega)))
    obtain ⟨nf, hnf⟩ : ∃ nf : Nat → Nat, ∀ k, k < 4 → hh (130 + i) k = .inl (Int32.ofNat (nf k)) ∧ nf k < 1000 := by
      have : ∀ k, ∃ v, k < 4 → hh (130 + i) k = .inl (Int32.ofNat v) ∧ v < 1000 := fun k => by
        by_cases hk : k < 4
        · obtain ⟨v, v1, v2⟩ := kx_ofg (by omega) (hw _ _ _ (kr_k130 i (by omega) k hk))
          exact ⟨v, fun _ => ⟨v2, by omega⟩⟩
        · exact ⟨0, fun q => absurd q hk⟩
      exact Classical.axiomOfChoice this
    have hst : kv_step q.1 nf D M L f = kv_step q.1 (fun k => q.2.getD k 0) D M L f := kv_step_c hq9 (fun k hk => by
      have hk2 : k < q.2.length := by omega
      have e1 := a2 k q.2[k] (List.getElem?_eq_getElem hk2)
      have e2 := (hnf k (by have := hqo.2.1; omega)).1
      rw [er k, e1] at e2
      have e3 : Int32.ofNat q.2[k] = Int32.ofNat (nf k) := Sum.inl.inj e2
      have e4 : (Int32.ofNat q.2[k]).toInt = (Int32.ofNat (nf k)).toInt := by rw [e3]
      have e5 := hqo.2.2 q.2[k] (List.getElem_mem hk2)
      have e6 := (hnf k (by have := hqo.2.1; omega)).2
      rw [kx_ti (by omega), kx_ti (by omega)] at e4
      show nf k = q.2.getD k 0
      rw [List.getD_eq_getElem?_getD, List.getElem?_eq_getElem hk2]
      show nf k = q.2[k]
      omega)
    refine kx_go 1 (pc' := 51) (L' := [(2, .inl (Int32.ofNat i)), (1, .inl (z1)), (0, .inr (.inr (.inl (some 0))))]) (S' := [.inr (.inr (.inl (some 0)))]) (h' := hh) (by with_unfolding_all rfl) ?_
    refine kx_getf (c := 0) (v := .inr (.inr (.inl (some 1)))) rfl (by decide) k0 ?_
    refine kx_go 1 (pc' := 55) (L' := [(2, .inl (Int32.ofNat i)), (1, .inl (z1)), (0, .inr (.inr (.inl (some 0))))]) (S' := [.inr (.inr (.inl (some 0))), .inr (.inr (.inl (some 1)))]) (h' := hh) (by with_unfolding_all rfl) ?_
    refine kx_getf (c := 0) (v := .inr (.inr (.inl (some 127)))) rfl (by decide) k4 ?_
    refine kx_getf (c := 127) (v := .inr (.inr (.inl (some 128)))) rfl (by decide) (kx_ofr (hw _ _ _ kr_k127.2.1)) ?_
    refine kx_go 1 (pc' := 62) (L' := [(2, .inl (Int32.ofNat i)), (1, .inl (z1)), (0, .inr (.inr (.inl (some 0))))]) (S' := [.inl (Int32.ofNat i), .inr (.inr (.inl (some 128))), .inr (.inr (.inl (some 1)))]) (h' := hh) (by with_unfolding_all rfl) ?_
    refine kx_iald rfl (c := 128) (j := i) (m := 60) (v := .inl (Int32.ofNat q.1)) rfl (by decide) (by decide) (by omega) ew ?_
    refine kx_go 1 (pc' := 64) (L' := [(2, .inl (Int32.ofNat i)), (1, .inl (z1)), (0, .inr (.inr (.inl (some 0))))]) (S' := [.inr (.inr (.inl (some 0))), .inl (Int32.ofNat q.1), .inr (.inr (.inl (some 1)))]) (h' := hh) (by with_unfolding_all rfl) ?_
    refine kx_getf (c := 0) (v := .inr (.inr (.inl (some 127)))) rfl (by decide) k4 ?_
    refine kx_getf (c := 127) (v := .inr (.inr (.inl (some 129)))) rfl (by decide) (kx_ofr (hw _ _ _ kr_k127.2.2.1)) ?_
    refine kx_go 1 (pc' := 71) (L' := [(2, .inl (Int32.ofNat i)), (1, .inl (z1)), (0, .inr (.inr (.inl (some 0))))]) (S' := [.inl (Int32.ofNat i), .inr (.inr (.inl (some 129))), .inl (Int32.ofNat q.1), .inr (.inr (.inl (some 1)))]) (h' := hh) (by with_unfolding_all rfl) ?_
    refine kx_aald (c := 129) (j := i) (m := 60) (t0 := 2) (v := .inr (.inr (.inl (some (130 + i))))) rfl rfl (by decide) (by decide) (by decide) (by omega) hrow ?_
    refine kc_call_rule (M2 := wk_m181) (av := [.inr (.inr (.inl (some 1))), .inl (Int32.ofNat q.1), .inr (.inr (.inl (some (130 + i))))]) (r := []) rfl rfl (kc_Con_le (kv_tell hg hw (show i < 60 by omega) hq9 hC hnf) hd) (fun rv h2 hq2 => ?_)
    rw [hst] at hq2
    obtain ⟨r, rfl, hw2, hfr2, hq2⟩ := hq2
    have hdr : l.drop i = q :: l.drop (i + 1) := by
      rw [List.drop_eq_getElem_cons (show i < l.length by omega)]
      congr 1
      have := List.getElem?_eq_getElem (l := l) (i := i) (by omega)
      rw [this] at hq
      exact Option.some.inj hq
    rw [hdr] at hf
    show kc_Ev g d wk_m67 Q 75 [(2, .inl (Int32.ofNat i)), (1, .inl (z1)), (0, .inr (.inr (.inl (some 0))))] [.inl r] h2
    refine kx_go 1 (pc' := (if kc_cnd .ge (r).toInt 0 then 95 else 78)) (L' := [(2, .inl (Int32.ofNat i)), (1, .inl (z1)), (0, .inr (.inr (.inl (some 0))))]) (S' := []) (h' := h2) (by with_unfolding_all rfl) ?_
    rcases hq2 with ⟨D2, M2, L2, f2, e2, r0, hC2⟩ | ⟨e2, r0⟩
    · rw [if_pos (kv_g0 r0)]
      refine kx_go 2 (pc' := 39) (L' := [(2, .inl ((Int32.ofNat i) + Int32.ofInt 1)), (1, .inl (z1)), (0, .inr (.inr (.inl (some 0))))]) (S' := []) (h' := h2) (by with_unfolding_all rfl) ?_
      rw [kx_inc]
      refine ih (i + 1) h2 D2 M2 L2 f2 (by omega) (by omega) hw2 (kv_fr_tr hfr hfr2) hC2 ?_
      rw [← hf]
      show _ = (match kv_step q.1 (fun k => q.2.getD k 0) D M L f with
        | some s => kv_fold (l.drop (i + 1)) s.1 s.2.1 s.2.2.1 s.2.2.2
        | none => none)
      rw [e2]
    · rw [if_neg (kv_g1 r0)]
      have j0 := kx_ofr (hw2 _ _ _ kv_k0.1)
      have j1 := kx_ofr (hw2 _ _ _ kv_k0.2.1)
      refine kx_go 1 (pc' := 79) (L' := [(2, .inl (Int32.ofNat i)), (1, .inl (z1)), (0, .inr (.inr (.inl (some 0))))]) (S' := [.inr (.inr (.inl (some 0)))]) (h' := h2) (by with_unfolding_all rfl) ?_
      refine kx_getf (c := 0) (v := .inr (.inr (.inl (some 1)))) rfl (by decide) j0 ?_
      refine kx_go 1 (pc' := 83) (L' := [(2, .inl (Int32.ofNat i)), (1, .inl (z1)), (0, .inr (.inr (.inl (some 0))))]) (S' := [.inr (.inr (.inl (some 0))), .inr (.inr (.inl (some 1)))]) (h' := h2) (by with_unfolding_all rfl) ?_
      refine kx_getf (c := 0) (v := .inr (.inr (.inl (some 32)))) rfl (by decide) j1 ?_
      refine kc_call_rule (M2 := wk_m68) (av := [.inr (.inr (.inl (some 1))), .inr (.inr (.inl (some 32)))]) (r := []) rfl rfl (kc_Con_le (kt_take32_1 (d := 0) hg hw2) (by omega)) (fun rv h3 hq3 => ?_)
      obtain ⟨rfl, rfl⟩ := hq3
      show kc_Ev g d wk_m67 Q 89 [(2, .inl (Int32.ofNat i)), (1, .inl (z1)), (0, .inr (.inr (.inl (some 0))))] [] (kt_K h2 32 1 31)
      refine kx_go 3 (pc' := 94) (L' := [(2, .inl (Int32.ofNat i)), (1, .inl (z1)), (0, .inr (.inr (.inl (some 0))))]) (S' := [.inl ((Int32.ofInt (-1000)) - (Int32.ofNat i))]) (h' := (kt_K h2 32 1 31)) (by with_unfolding_all rfl) ?_
      refine kc_ret_ok rfl (rv := some (.inl ((Int32.ofInt (-1000)) - (Int32.ofNat i)))) rfl (hQ0 _ h2 hw2 (kv_fr_tr hfr hfr2) ?_)
      rw [← hf]
      show (match kv_step q.1 (fun k => q.2.getD k 0) D M L f with
        | some s => kv_fold (l.drop (i + 1)) s.1 s.2.1 s.2.2.1 s.2.2.2
        | none => none) = none
      rw [e2]
end
section
-- 99.zf
/-! ===== the day, class, whole ===== -/
theorem kv_k127 : kd_rn (kd_ty 127) 7 = some (0, 2147483648, 2147483648 + 4) ∧ kd_rn (kd_ty 127) 8 = some (0, 2147483648, 2147483648 + 240) := by decide +kernel
theorem kv_k127b : kd_rn (kd_ty 127) 0 = some (3, 1, 1) := by decide +kernel
def kv_W2 : kd_W := [(1, 1, 0, 3), (3, 10, 0, 5)]
theorem kv_dfr {h h1 h2 h3 hE : kc_H} {c i : Nat} (hfrE : kd_fr kv_WC h3 hE) (hfr3 : kd_fr kv_W2 h2 h3) (hh2 : h2 = kt_K h1 1 32 31) (hfr1 : kd_fr kr_W h h1) (q1 : ¬ (1 ≤ c ∧ c ≤ 62 ∧ 0 ≤ i ∧ i ≤ 239)) (q2 : ¬ (127 ≤ c ∧ c ≤ 127 ∧ 1 ≤ i ∧ i ≤ 8)) (q3 : ¬ (128 ≤ c ∧ c ≤ 189 ∧ 0 ≤ i ∧ i ≤ 59)) : hE c i = h c i := by
  have hln : ∀ k, kt_ln k ≤ 240 := fun k => by
    by_cases hk : k < 31
    · exact (show ∀ k, k < 31 → kt_ln k ≤ 240 by decide) k hk
    · unfold kt_ln
      rw [List.getD_eq_getElem?_getD, List.getElem?_eq_none (by show 31 ≤ k; omega)]
      exact Nat.zero_le _
  have e2 : h2 c i = h1 c i := by
    rw [hh2]
    unfold kt_K
    have := hln (c - 32)
    rw [if_neg (by omega)]
  rw [hfrE c i (fun q hq => by
    simp only [kv_WC, List.mem_cons, List.not_mem_nil, or_false] at hq
    rcases hq with rfl | rfl | rfl | rfl | rfl <;> exact kb_inr (by (try dsimp only); omega)), hfr3 c i (fun q hq => by
    simp only [kv_W2, List.mem_cons, List.not_mem_nil, or_false] at hq
    rcases hq with rfl | rfl <;> exact kb_inr (by (try dsimp only); omega)), e2]
  exact hfr1 c i (fun q hq => by
    simp only [kr_W, List.mem_cons, List.not_mem_nil, or_false] at hq
    rcases hq with rfl | rfl | rfl | rfl <;> exact kb_inr (by (try dsimp only); omega))
set_option maxRecDepth 20000 in
theorem kv_day67 {g : kc_G} {h : kc_H} {n : Nat} {t : Nat → Nat} (hg : kc_ok g) (hw : kd_wt kd_ty h) (hn : n ≤ 240) (hb : ∀ j, j < 240 → t j < 256) (ht : ∀ j, j < 240 → h 29 j = .inl (Int32.ofNat (t j))) (ha4 : h 31 0 = .inl (Int32.ofNat n)) : kc_Con g 15 67 [.inr (.inr (.inl (some 0)))] h (kv_dC h (kv_out t n)) := by
  have k0 := kx_ofr (hw _ _ _ kv_k0.1)
  have k4 := kx_ofr (hw _ _ _ kv_k0.2.2)
  obtain ⟨s0, -, es0⟩ := kx_ofg (by omega) (hw _ _ _ kv_k127.2)
  obtain ⟨q0, -, eq0⟩ := kx_ofg (by omega) (hw _ _ _ kv_k127.1)
  refine kc_Con_new hg (M := wk_m67) rfl rfl rfl (show 1 ≤ 3 by decide) ?_
  refine kx_go 1 (pc' := 1) (L' := [(0, .inr (.inr (.inl (some 0))))]) (S' := [.inr (.inr (.inl (some 0)))]) (h' := h) (by with_unfolding_all rfl) ?_
  refine kx_getf (c := 0) (v := .inr (.inr (.inl (some 127)))) rfl (by decide) k4 ?_
  refine kx_go 1 (pc' := 5) (L' := [(0, .inr (.inr (.inl (some 0))))]) (S' := [.inl (Int32.ofNat 0), .inr (.inr (.inl (some 127)))]) (h' := h) (by with_unfolding_all rfl) ?_
  refine kc_call_rule (M2 := wk_m61) (av := [.inr (.inr (.inl (some 127))), .inl (Int32.ofNat 0)]) (r := []) rfl rfl (kc_Con_le (kr_read0 (d := 0) (n := n) (t := t) hg hn hb ht (fun i hi => kx_ofr (hw _ _ _ (kr_k129 i hi))) (kx_ofr (hw _ _ _ kv_k127b)) (kx_ofr (hw _ _ _ kr_k1.1)) (kx_ofr (hw _ _ _ kr_k1.2.2.1)) (kx_ofr (hw _ _ _ kr_k1.2.1)) ha4 (kx_ofr (hw _ _ _ kr_k127.2.1)) (kx_ofr (hw _ _ _ kr_k127.2.2.1)) eq0 es0) (by decide)) (fun rv h1 hq => ?_)
  have hpost := kr_post (g := g) hw (Or.inl rfl) hn (by decide) hq
  obtain ⟨pp, pp1, -, -, hw1, hfr1⟩ := hpost
  obtain rfl := List.mem_singleton.mp pp1
  simp only at hfr1
  unfold kr_Qr at hq
  cases hk : kp_its t n 9 0 61 0 with
  | none =>
    rw [hk] at hq
    obtain ⟨hx, it2, p2, k2, s2, rfl, ⟨-, -, hs2, -, -⟩, -⟩ := hq
    show kc_Ev g 14 wk_m67 _ 8 [(0, .inr (.inr (.inl (some 0))))] [.inl (Int32.ofNat s2)] h1
    refine kx_go 4 (pc' := (if kc_cnd .eq (Int32.ofNat s2).toInt (Int32.ofInt (-1)).toInt then 19 else 14)) (L' := [(1, .inl (Int32.ofNat s2)), (0, .inr (.inr (.inl (some 0))))]) (S' := []) (h' := h1) (by with_unfolding_all rfl) ?_
    rw [if_neg (kx_nm1 (by omega))]
    refine kx_go 3 (pc' := 18) (L' := [(1, .inl (Int32.ofNat s2)), (0, .inr (.inr (.inl (some 0))))]) (S' := [.inl ((Int32.ofInt (-10)) - (Int32.ofNat s2))]) (h' := h1) (by with_unfolding_all rfl) ?_
    refine kc_ret_ok rfl (rv := some (.inl ((Int32.ofInt (-10)) - (Int32.ofNat s2)))) rfl ⟨⟨_, rfl⟩, hw1, kd_cvW_r kr_W (by decide) hfr1, fun j hj => ?_, kv_fr1 hfr1 (by decide), Or.inl ⟨?_, kv_fr1 hfr1 (by decide), kv_fr1 hfr1 (by decide), kv_fr1 hfr1 (by decide)⟩⟩
    · exact hfr1 29 j (fun q hq => by
        simp only [kr_W, List.mem_cons, List.not_mem_nil, or_false] at hq
        rcases hq with rfl | rfl | rfl | rfl <;> exact kb_inr (by (try dsimp only); omega))
    · unfold kv_out
      rw [hk]
  | some l =>
    rw [hk] at hq
    obtain ⟨p2, k2, s2, rfl, ⟨hp2, hk2, hs2⟩, hh1⟩ := hq
    obtain ⟨hall, hlen⟩ := kp_its_ok hn (by decide) 61 0 0 l (by omega) (by omega) hk
    show kc_Ev g 14 wk_m67 _ 8 [(0, .inr (.inr (.inl (some 0))))] [.inl (Int32.ofInt (-1))] h1
    refine kx_go 4 (pc' := (if kc_cnd .eq (Int32.ofInt (-1)).toInt (Int32.ofInt (-1)).toInt then 19 else 14)) (L' := [(1, .inl (Int32.ofInt (-1))), (0, .inr (.inr (.inl (some 0))))]) (S' := []) (h' := h1) (by with_unfolding_all rfl) ?_
    rw [if_pos kx_m1]
    have j0 := kx_ofr (hw1 _ _ _ kv_k0.1)
    have j1 := kx_ofr (hw1 _ _ _ kv_k0.2.1)
    refine kx_go 1 (pc' := 20) (L' := [(1, .inl (Int32.ofInt (-1))), (0, .inr (.inr (.inl (some 0))))]) (S' := [.inr (.inr (.inl (some 0)))]) (h' := h1) (by with_unfolding_all rfl) ?_
    refine kx_getf (c := 0) (v := .inr (.inr (.inl (some 32)))) rfl (by decide) j1 ?_
    refine kx_go 1 (pc' := 24) (L' := [(1, .inl (Int32.ofInt (-1))), (0, .inr (.inr (.inl (some 0))))]) (S' := [.inr (.inr (.inl (some 0))), .inr (.inr (.inl (some 32)))]) (h' := h1) (by with_unfolding_all rfl) ?_
    refine kx_getf (c := 0) (v := .inr (.inr (.inl (some 1)))) rfl (by decide) j0 ?_
    refine kc_call_rule (M2 := wk_m68) (av := [.inr (.inr (.inl (some 32))), .inr (.inr (.inl (some 1)))]) (r := []) rfl rfl (kc_Con_le (kt_take1_32 (d := 0) hg hw1) (by decide)) (fun rv h2 hq2 => ?_)
    obtain ⟨rfl, hh2⟩ := hq2
    have hw2 : kd_wt kd_ty h2 := by rw [hh2]; exact kt_K_wt hw1 kt_ty1_32
    have i0 := kx_ofr (hw2 _ _ _ kv_k0.1)
    show kc_Ev g 14 wk_m67 _ 30 [(1, .inl (Int32.ofInt (-1))), (0, .inr (.inr (.inl (some 0))))] [] h2
    refine kx_go 1 (pc' := 31) (L' := [(1, .inl (Int32.ofInt (-1))), (0, .inr (.inr (.inl (some 0))))]) (S' := [.inr (.inr (.inl (some 0)))]) (h' := h2) (by with_unfolding_all rfl) ?_
    refine kx_getf (c := 0) (v := .inr (.inr (.inl (some 1)))) rfl (by decide) i0 ?_
    refine kc_call_rule (M2 := wk_m2) (av := [.inr (.inr (.inl (some 1)))]) (r := []) rfl rfl (kc_Con_le (kd_h2 hg _ h2 hw2 ⟨⟨1, rfl, by decide, by decide⟩, trivial⟩ (fun q hq => by cases hq)) (by decide)) (fun rv h3 hq3 => ?_)
    obtain ⟨pp, p1, pr, pF, hw3, hfr3⟩ := hq3
    obtain rfl := List.mem_singleton.mp p1
    cases rv with
    | some y => exact pr.elim
    | none =>
      have hfr3 : kd_fr kv_W2 h2 h3 := kd_cvW_r _ (by decide) hfr3
      have hC3 : kv_Cs h3 0 0 0 (fun _ => 0) := by
        refine ⟨⟨by decide, by decide, by decide, ?_, ?_, ?_⟩, fun i hi => ⟨Nat.zero_le _, ?_⟩⟩
        · exact kx_ofs (k := 0) (by decide) (pF (1, 0, _) (by decide))
        · exact kx_ofs (k := 0) (by decide) (pF (1, 1, _) (by decide))
        · exact kx_ofs (k := 0) (by decide) (pF (1, 2, _) (by decide))
        · rcases (show i = 0 ∨ i = 1 ∨ i = 2 ∨ i = 3 ∨ i = 4 ∨ i = 5 by omega) with rfl | rfl | rfl | rfl | rfl | rfl
          · exact kx_ofs (k := 0) (by decide) (pF (9, 0, _) (by decide))
          · exact kx_ofs (k := 0) (by decide) (pF (9, 1, _) (by decide))
          · exact kx_ofs (k := 0) (by decide) (pF (9, 2, _) (by decide))
          · exact kx_ofs (k := 0) (by decide) (pF (9, 3, _) (by decide))
          · exact kx_ofs (k := 0) (by decide) (pF (9, 4, _) (by decide))
          · exact kx_ofs (k := 0) (by decide) (pF (9, 5, _) (by decide))
      show kc_Ev g 14 wk_m67 _ 37 [(1, .inl (Int32.ofInt (-1))), (0, .inr (.inr (.inl (some 0))))] [] h3
      refine kx_go 2 (pc' := 39) (L' := [(2, .inl (Int32.ofNat 0)), (1, .inl (Int32.ofInt (-1))), (0, .inr (.inr (.inl (some 0))))]) (S' := []) (h' := h3) (by with_unfolding_all rfl) ?_
      /- cells far from a Told: as behind the reading -/
      have far : ∀ c i, 63 ≤ c → h3 c i = h1 c i := fun c i hc => by
        rw [hfr3 c i (fun q hq => by
          simp only [kv_W2, List.mem_cons, List.not_mem_nil, or_false] at hq
          rcases hq with rfl | rfl <;> exact kb_inr (by (try dsimp only); omega)), hh2]
        unfold kt_K
        rw [if_neg (by omega)]
      have hit : h3 127 1 = .inl (Int32.ofNat l.length) := by
        rw [far 127 1 (by decide), hh1]
        rfl
      have hat : ∀ (i : Nat) (q : Nat × List Nat), l[i]? = some q → h3 128 i = .inl (Int32.ofNat q.1) ∧ ∀ k x, q.2[k]? = some x → h3 (130 + i) k = .inl (Int32.ofNat x) := fun i q hq => by
        obtain ⟨a1, a2⟩ := kr_ws_at l h 0 i q hq
        rw [Nat.zero_add] at a1 a2
        have e1 : ∀ c b, ¬ c = 127 → h1 c b = kr_ws h 0 l c b := fun c b hc => by
          rw [hh1]
          unfold kr_H kj
          rw [if_neg hc, if_neg hc]
        exact ⟨by rw [far 128 i (by decide), e1 128 i (by decide)]; exact a1, fun k x hx => by rw [far (130 + i) k (by omega), e1 (130 + i) k (by omega)]; exact a2 k x hx⟩
      /- the copy: the spare has what the day had -/
      have sp : ∀ k, k < 31 → ∀ i, i < kt_ln k → h3 (32 + k) i = h1 (1 + k) i := fun k hk i hi => by
        rw [hfr3 (32 + k) i (fun q hq => by
          simp only [kv_W2, List.mem_cons, List.not_mem_nil, or_false] at hq
          rcases hq with rfl | rfl <;> exact kb_inr (by (try dsimp only); omega)), hh2]
        unfold kt_K
        rw [show 32 + k - 32 = k from by omega, if_pos ⟨by omega, by omega, hi⟩]
      have tx : ∀ c i, (c = 29 ∨ c = 31) → h3 c i = h1 c i := fun c i hc => by
        rw [hfr3 c i (fun q hq => by
          simp only [kv_W2, List.mem_cons, List.not_mem_nil, or_false] at hq
          rcases hq with rfl | rfl <;> exact kb_inr (by (try dsimp only); omega)), hh2]
        unfold kt_K
        rw [if_neg (by omega)]
      have near : ∀ c i, c < 127 → h1 c i = h c i := fun c i hc => hfr1 c i (fun q hq => by
        simp only [kr_W, List.mem_cons, List.not_mem_nil, or_false] at hq
        rcases hq with rfl | rfl | rfl | rfl <;> exact kb_inr (by (try dsimp only); omega))
      have wc : ∀ hE c i, kd_fr kv_WC h3 hE → 26 ≤ c → hE c i = h3 c i := fun hE c i hfrE hc => hfrE c i (fun q hq => by
        simp only [kv_WC, List.mem_cons, List.not_mem_nil, or_false] at hq
        rcases hq with rfl | rfl | rfl | rfl | rfl <;> exact kb_inr (by (try dsimp only); omega))
      refine kv_dayl (z1 := Int32.ofInt (-1)) (l := l) (hB := h3) (out := kv_out t n) hg (by decide) hit (by omega) (fun i q hq => ?_) hat ?_ ?_ l.length 0 h3 0 0 0 (fun _ => 0) (by omega) (by omega) hw3 kv_fr0 hC3 ?_
      · obtain ⟨b1, -, b3, b4⟩ := hall q (List.mem_of_getElem? hq)
        exact ⟨b1, by omega, b4⟩
      · intro z hE D M L f hwE hfrE hCE hfo
        refine ⟨⟨z, rfl⟩, hwE, fun c i hq => ?_, fun j hj => ?_, ?_, Or.inr ⟨D, M, L, f, hfo.symm, hCE⟩⟩
        · have q1 := kd_inr_f (hq (1, 62, 0, 239) (by decide))
          have q2 := kd_inr_f (hq (127, 127, 1, 8) (by decide))
          have q3 := kd_inr_f (hq (128, 189, 0, 59) (by decide))
          simp only at q1 q2 q3
          exact kv_dfr hfrE hfr3 hh2 hfr1 q1 q2 q3
        · rw [wc hE 29 j hfrE (by decide), tx 29 j (Or.inl rfl), near 29 j (by decide)]
        · rw [wc hE 31 0 hfrE (by decide), tx 31 0 (Or.inr rfl), near 31 0 (by decide)]
      · intro z hE hwE hfrE hno
        have bk : ∀ k, k < 31 → ∀ i, i < kt_ln k → kt_K hE 32 1 31 (1 + k) i = h (1 + k) i := fun k hk i hi => by
          unfold kt_K
          rw [show 1 + k - 1 = k from by omega, if_pos ⟨by omega, by omega, hi⟩, wc hE (32 + k) i hfrE (by omega), sp k hk i hi, near (1 + k) i (by omega)]
        refine ⟨⟨z, rfl⟩, kt_K_wt hwE kt_ty32_1, fun c i hq => ?_, fun j hj => bk 28 (by decide) j hj, bk 30 (by decide) 0 (by decide), Or.inl ⟨hno, bk 0 (by decide) 0 (by decide), bk 0 (by decide) 1 (by decide), bk 0 (by decide) 2 (by decide)⟩⟩
        have q1 := kd_inr_f (hq (1, 62, 0, 239) (by decide))
        have q2 := kd_inr_f (hq (127, 127, 1, 8) (by decide))
        have q3 := kd_inr_f (hq (128, 189, 0, 59) (by decide))
        simp only at q1 q2 q3
        by_cases e : 1 ≤ c ∧ c < 1 + 31 ∧ i < kt_ln (c - 1)
        · have := bk (c - 1) (by omega) i e.2.2
          rw [show 1 + (c - 1) = c from by omega] at this
          exact this
        · rw [show kt_K hE 32 1 31 c i = hE c i from if_neg e]
          exact kv_dfr hfrE hfr3 hh2 hfr1 q1 q2 q3
      · show kv_fold (l.drop 0) 0 0 0 (fun _ => 0) = kv_out t n
        rw [List.drop_zero]
        unfold kv_out
        rw [hk]
end
section
-- 99.zg
/-! ===== the day, reference ===== -/
def kv_W71 : kd_W := [(259, 259, 6, 10), (259, 259, 13, 13), (260, 260, 0, 649), (263, 263, 0, 649), (264, 264, 0, 59), (265, 265, 0, 299)]
def kv_dR (h : kc_H) (out : Option (Nat × Nat × Nat × (Nat → Nat))) : Option kc_V → kc_H → Prop := fun rv h' => (∃ z : Int32, rv = some (.inl z)) ∧ kd_wt kd_ty h' ∧ kd_fr kv_W71 h h' ∧ (∀ j, j < 240 → h' 260 (170 + j) = h 260 (170 + j)) ∧ h' 260 160 = h 260 160 ∧ ((out = none ∧ ∀ i, i < 650 → h' 260 i = h 260 i) ∨ ∃ D M L f, out = some (D, M, L, f) ∧ kv_R h' D M L ∧ h' 260 3 = .inl (Int32.ofNat 0))
def kv_W12 : kd_W := [(260, 260, 0, 3), (260, 260, 10, 57)]
theorem kv_k259 : kd_rn (kd_ty 259) 8 = some (0, 2147483648, 2147483648 + 240) ∧ kd_rn (kd_ty 259) 9 = some (0, 2147483648, 2147483648 + 26) ∧ kd_rn (kd_ty 259) 10 = some (0, 2147483648, 2147483648 + 999) := by decide +kernel
set_option maxRecDepth 20000 in
theorem kv_dayr {g : kc_G} {d : Nat} {Q : Option kc_V → kc_H → Prop} {hB : kc_H} {l : List (Nat × List Nat)} {out : Option (Nat × Nat × Nat × (Nat → Nat))} (hg : kc_ok g) (hd : 6 ≤ d) (hit : hB 259 13 = .inl (Int32.ofNat l.length)) (hl60 : l.length ≤ 60) (hl : ∀ (i : Nat) (q : Nat × List Nat), l[i]? = some q → kp_okI q ∧ q.1 < 9 ∧ q.2.length = ks_L (kp_sh q.1)) (hat : ∀ (i : Nat) (q : Nat × List Nat), l[i]? = some q → hB 264 i = .inl (Int32.ofNat (kp_tv q.1)) ∧ ∀ k x, q.2[k]? = some x → hB 265 (5 * i + k) = .inl (Int32.ofNat x))
    (hQ1 : ∀ (z : Int32) (hE : kc_H) (D M L : Nat) (f : Nat → Nat), kd_wt kd_ty hE → kd_fr kv_WR hB hE → kv_R hE D M L → kv_fold [] D M L f = out → Q (some (.inl z)) hE) (hQ0 : ∀ (z : Int32) (hE : kc_H), kd_wt kd_ty hE → kd_fr kv_WR hB hE → out = none → Q (some (.inl z)) (kz_cp hE 260 0 263 0 650)) : ∀ (u i : Nat) (hh : kc_H) (D M L : Nat) (f : Nat → Nat), l.length - i = u → i ≤ l.length → kd_wt kd_ty hh → kd_fr kv_WR hB hh → kv_Rs hh D M L f → kv_fold (l.drop i) D M L f = out → kc_Ev g d wk_m71 Q 49 [(1, .inl (Int32.ofNat i)), (0, .inr (.inr (.inl (some 259))))] [] hh := by
  intro u
  induction u with
  | zero =>
    intro i hh D M L f hu hi hw hfr hC hf
    have eit : hh 259 13 = .inl (Int32.ofNat l.length) := (kv_fr1 hfr (by decide)).trans hit
    refine kx_go 2 (pc' := 51) (L' := [(1, .inl (Int32.ofNat i)), (0, .inr (.inr (.inl (some 259))))]) (S' := [.inr (.inr (.inl (some 259))), .inl (Int32.ofNat i)]) (h' := hh) (by with_unfolding_all rfl) ?_
    refine kx_getf (c := 259) (v := .inl (Int32.ofNat l.length)) rfl (by decide) eit ?_
    refine kx_go 1 (pc' := (if kc_cnd .ge (Int32.ofNat i).toInt (Int32.ofNat l.length).toInt then 104 else 57)) (L' := [(1, .inl (Int32.ofNat i)), (0, .inr (.inr (.inl (some 259))))]) (S' := []) (h' := hh) (by with_unfolding_all rfl) ?_
    rw [if_pos ((kx_ge (by omega) (by omega)).mpr (by omega))]
    refine kx_go 1 (pc' := 105) (L' := [(1, .inl (Int32.ofNat i)), (0, .inr (.inr (.inl (some 259))))]) (S' := [.inr (.inr (.inl (some 259)))]) (h' := hh) (by with_unfolding_all rfl) ?_
    refine kx_getf (c := 259) (v := .inl (Int32.ofNat l.length)) rfl (by decide) eit ?_
    have hnil : l.drop i = [] := List.drop_eq_nil_of_le (by omega)
    rw [hnil] at hf
    exact kc_ret_ok rfl (rv := some (.inl (Int32.ofNat l.length))) rfl (hQ1 _ _ D M L f hw hfr hC.1 hf)
  | succ u ih =>
    intro i hh D M L f hu hi hw hfr hC hf
    have eit : hh 259 13 = .inl (Int32.ofNat l.length) := (kv_fr1 hfr (by decide)).trans hit
    refine kx_go 2 (pc' := 51) (L' := [(1, .inl (Int32.ofNat i)), (0, .inr (.inr (.inl (some 259))))]) (S' := [.inr (.inr (.inl (some 259))), .inl (Int32.ofNat i)]) (h' := hh) (by with_unfolding_all rfl) ?_
    refine kx_getf (c := 259) (v := .inl (Int32.ofNat l.length)) rfl (by decide) eit ?_
    refine kx_go 1 (pc' := (if kc_cnd .ge (Int32.ofNat i).toInt (Int32.ofNat l.length).toInt then 104 else 57)) (L' := [(1, .inl (Int32.ofNat i)), (0, .inr (.inr (.inl (some 259))))]) (S' := []) (h' := hh) (by with_unfolding_all rfl) ?_
    rw [if_neg (fun q => by have := (kx_ge (by omega) (by omega)).mp q; omega)]
    obtain ⟨q, hq⟩ : ∃ q, l[i]? = some q := ⟨l[i]'(by omega), List.getElem?_eq_getElem (by omega)⟩
    obtain ⟨hqo, hq9, hql⟩ := hl i q hq
    obtain ⟨a1, a2⟩ := hat i q hq
    have ew : hh 264 i = .inl (Int32.ofNat (kp_tv q.1)) := (kv_fr1 hfr ((show ∀ i, i < 60 → (kv_WR.all fun q => !kd_inr 264 q.1 q.2.1 i q.2.2.1 q.2.2.2) = true from by decide +kernel) i (by omega))).trans a1
    have er : ∀ k, hh 265 (5 * i + k) = hB 265 (5 * i + k) := fun k => hfr 265 (5 * i + k) (fun q hq => by
      simp only [kv_WR, List.mem_cons, List.not_mem_nil, or_false] at hq
      rcases hq with rfl | rfl <;> exact kb_inr (by (try dsimp only); omega))
    obtain ⟨nf, hnf⟩ : ∃ nf : Nat → Nat, ∀ k, k < 4 → hh 265 (5 * i + k) = .inl (Int32.ofNat (nf k)) ∧ nf k < 1000 := by
      have : ∀ k, ∃ v, k < 4 → hh 265 (5 * i + k) = .inl (Int32.ofNat v) ∧ v < 1000 := fun k => by
        by_cases hk : k < 4
        · obtain ⟨v, v1, v2⟩ := kx_ofg (by omega) (hw _ _ _ (km_k265 (5 * i + k) (by omega)))
          exact ⟨v, fun _ => ⟨v2, by omega⟩⟩
        · exact ⟨0, fun q => absurd q hk⟩
      exact Classical.axiomOfChoice this
    have hst : kv_step q.1 nf D M L f = kv_step q.1 (fun k => q.2.getD k 0) D M L f := kv_step_c hq9 (fun k hk => by
      have hk2 : k < q.2.length := by omega
      have e1 := a2 k q.2[k] (List.getElem?_eq_getElem hk2)
      have e2 := (hnf k (by have := hqo.2.1; omega)).1
      rw [er k, e1] at e2
      have e3 : Int32.ofNat q.2[k] = Int32.ofNat (nf k) := Sum.inl.inj e2
      have e4 : (Int32.ofNat q.2[k]).toInt = (Int32.ofNat (nf k)).toInt := by rw [e3]
      have e5 := hqo.2.2 q.2[k] (List.getElem_mem hk2)
      have e6 := (hnf k (by have := hqo.2.1; omega)).2
      rw [kx_ti (by omega), kx_ti (by omega)] at e4
      show nf k = q.2.getD k 0
      rw [List.getD_eq_getElem?_getD, List.getElem?_eq_getElem hk2]
      show nf k = q.2[k]
      omega)
    refine kx_go 2 (pc' := 59) (L' := [(1, .inl (Int32.ofNat i)), (0, .inr (.inr (.inl (some 259))))]) (S' := [.inl (Int32.ofNat i), .inr (.inr (.inl (some 259)))]) (h' := hh) (by with_unfolding_all rfl) ?_
    refine kc_call_rule (M2 := wk_m235) (av := [.inr (.inr (.inl (some 259))), .inl (Int32.ofNat i)]) (r := []) rfl rfl (kc_Con_le (kv_item hg hw (show i < 60 by omega) hq9 hC ew hnf) hd) (fun rv h2 hq2 => ?_)
    rw [hst] at hq2
    obtain ⟨r, rfl, hw2, hfr2, hq2⟩ := hq2
    have hdr : l.drop i = q :: l.drop (i + 1) := by
      rw [List.drop_eq_getElem_cons (show i < l.length by omega)]
      congr 1
      have := List.getElem?_eq_getElem (l := l) (i := i) (by omega)
      rw [this] at hq
      exact Option.some.inj hq
    rw [hdr] at hf
    show kc_Ev g d wk_m71 Q 62 [(1, .inl (Int32.ofNat i)), (0, .inr (.inr (.inl (some 259))))] [.inl r] h2
    refine kx_go 1 (pc' := (if kc_cnd .ge (r).toInt 0 then 98 else 65)) (L' := [(1, .inl (Int32.ofNat i)), (0, .inr (.inr (.inl (some 259))))]) (S' := []) (h' := h2) (by with_unfolding_all rfl) ?_
    rcases hq2 with ⟨D2, M2, L2, f2, e2, r0, hC2⟩ | ⟨e2, r0⟩
    · rw [if_pos (kv_g0 r0)]
      refine kx_go 2 (pc' := 49) (L' := [(1, .inl ((Int32.ofNat i) + Int32.ofInt 1)), (0, .inr (.inr (.inl (some 259))))]) (S' := []) (h' := h2) (by with_unfolding_all rfl) ?_
      rw [kx_inc]
      refine ih (i + 1) h2 D2 M2 L2 f2 (by omega) (by omega) hw2 (kv_fr_tr hfr hfr2) hC2 ?_
      rw [← hf]
      show _ = (match kv_step q.1 (fun k => q.2.getD k 0) D M L f with
        | some s => kv_fold (l.drop (i + 1)) s.1 s.2.1 s.2.2.1 s.2.2.2
        | none => none)
      rw [e2]
    · rw [if_neg (kv_g1 r0)]
      refine kx_go 2 (pc' := 67) (L' := [(2, .inl (Int32.ofNat 0)), (1, .inl (Int32.ofNat i)), (0, .inr (.inr (.inl (some 259))))]) (S' := []) (h' := h2) (by with_unfolding_all rfl) ?_
      have key := kz_dy2 (g := g) (d := d) (Q := Q) (h := h2) (i := i) (fun k hk => kz_int_r hw2 (by rw [(kz_k260 k hk).2.2.2]; exact (kz_k260 k hk).1)) 650 0 (by omega) (by omega) ?_
      · rw [kz_0, kz_wid hw2] at key
        exact key
      rw [kz_wid hw2]
      refine kx_go 3 (pc' := 97) (L' := [(2, .inl (Int32.ofNat 650)), (1, .inl (Int32.ofNat i)), (0, .inr (.inr (.inl (some 259))))]) (S' := [.inl ((Int32.ofInt (-1000)) - (Int32.ofNat i))]) (h' := (kz_cp h2 260 0 263 0 650)) (by with_unfolding_all rfl) ?_
      refine kc_ret_ok rfl (rv := some (.inl ((Int32.ofInt (-1000)) - (Int32.ofNat i)))) rfl (hQ0 _ h2 hw2 (kv_fr_tr hfr hfr2) ?_)
      rw [← hf]
      show (match kv_step q.1 (fun k => q.2.getD k 0) D M L f with
        | some s => kv_fold (l.drop (i + 1)) s.1 s.2.1 s.2.2.1 s.2.2.2
        | none => none) = none
      rw [e2]
set_option maxRecDepth 20000 in
theorem kv_day71 {g : kc_G} {h : kc_H} {n : Nat} {t : Nat → Nat} (hg : kc_ok g) (hw : kd_wt kd_ty h) (hn : n ≤ 240) (hb : ∀ j, j < 240 → t j < 256) (ht : ∀ j, j < 240 → h 260 (170 + j) = .inl (Int32.ofNat (t j))) (hnt : h 260 160 = .inl (Int32.ofNat n)) : kc_Con g 10 71 [.inr (.inr (.inl (some 259)))] h (kv_dR h (kv_out t n)) := by
  obtain ⟨s0, -, es0⟩ := kx_ofg (by omega) (hw _ _ _ kv_k259.1)
  obtain ⟨q0, -, eq0⟩ := kx_ofg (by omega) (hw _ _ _ kv_k259.2.1)
  obtain ⟨v0, hv0, ev0⟩ := kx_ofg (by omega) (hw _ _ _ kv_k259.2.2)
  refine kc_Con_new hg (M := wk_m71) rfl rfl rfl (show 1 ≤ 3 by decide) ?_
  refine kx_go 2 (pc' := 2) (L' := [(0, .inr (.inr (.inl (some 259))))]) (S' := [.inl (Int32.ofNat 0), .inr (.inr (.inl (some 259)))]) (h' := h) (by with_unfolding_all rfl) ?_
  refine kc_call_rule (M2 := wk_m64) (av := [.inr (.inr (.inl (some 259))), .inl (Int32.ofNat 0)]) (r := []) rfl rfl (kc_Con_le (km_reads0 (d := 0) (n := n) (t := t) hg hn hb hnt (fun j hj => by rw [show 170 + 240 * 0 + j = 170 + j from by omega]; exact ht j hj) (by omega) (kx_ofr (hw _ _ _ kz_k.1)) es0 eq0 ev0 (kx_ofr (hw _ _ _ kv_kr.1)) (kx_ofr (hw _ _ _ kv_kr.2))) (by decide)) (fun rv h1 hq => ?_)
  have hpost := km_post hw (by decide) hn (by decide) hq
  obtain ⟨pp, pp1, -, -, hw1, hfr1⟩ := hpost
  obtain rfl := List.mem_singleton.mp pp1
  simp only at hfr1
  unfold km_Qr at hq
  have near : ∀ i, h1 260 i = h 260 i := fun i => hfr1 260 i (fun q hq => by
    simp only [km_W, List.mem_cons, List.not_mem_nil, or_false] at hq
    rcases hq with rfl | rfl | rfl | rfl <;> exact kb_inr (by (try dsimp only); omega))
  cases hk : kp_its t n 9 0 61 0 with
  | none =>
    rw [hk] at hq
    obtain ⟨hx, it2, a2, s2, k2, u2, rfl, -, -⟩ := hq
    show kc_Ev g 9 wk_m71 _ 5 [(0, .inr (.inr (.inl (some 259))))] [.inl (Int32.ofNat 0)] h1
    refine kx_go 1 (pc' := 8) (L' := [(0, .inr (.inr (.inl (some 259))))]) (S' := []) (h' := h1) (by with_unfolding_all rfl) ?_
    obtain ⟨s1, -, es1⟩ := kx_ofg (by omega) (hw1 _ _ _ kv_k259.1)
    refine kx_go 2 (pc' := 11) (L' := [(0, .inr (.inr (.inl (some 259))))]) (S' := [.inr (.inr (.inl (some 259))), .inl (Int32.ofInt (-10))]) (h' := h1) (by with_unfolding_all rfl) ?_
    refine kx_getf (c := 259) (v := .inl (Int32.ofNat s1)) rfl (by decide) es1 ?_
    refine kx_go 1 (pc' := 15) (L' := [(0, .inr (.inr (.inl (some 259))))]) (S' := [.inl ((Int32.ofInt (-10)) - (Int32.ofNat s1))]) (h' := h1) (by with_unfolding_all rfl) ?_
    refine kc_ret_ok rfl (rv := some (.inl ((Int32.ofInt (-10)) - (Int32.ofNat s1)))) rfl ⟨⟨_, rfl⟩, hw1, kd_cvW_r km_W (by decide) hfr1, fun j hj => near _, near _, Or.inl ⟨?_, fun i hi => near i⟩⟩
    unfold kv_out
    rw [hk]
  | some l =>
    rw [hk] at hq
    obtain ⟨a2, s2, k2, u2, rfl, -, hh1⟩ := hq
    obtain ⟨hall, hlen⟩ := kp_its_ok hn (by decide) 61 0 0 l (by omega) (by omega) hk
    show kc_Ev g 9 wk_m71 _ 5 [(0, .inr (.inr (.inl (some 259))))] [.inl (Int32.ofNat 1)] h1
    refine kx_go 1 (pc' := 16) (L' := [(0, .inr (.inr (.inl (some 259))))]) (S' := []) (h' := h1) (by with_unfolding_all rfl) ?_
    refine kx_go 2 (pc' := 18) (L' := [(1, .inl (Int32.ofNat 0)), (0, .inr (.inr (.inl (some 259))))]) (S' := []) (h' := h1) (by with_unfolding_all rfl) ?_
    have key := kz_dy1 (g := g) (d := 9) (Q := kv_dR h (kv_out t n)) (h := h1) (fun k hk => kz_int_r hw1 (kz_k260 k hk).1) 650 0 (by omega) (by omega) ?_
    · rw [kz_0, kz_wid hw1] at key
      exact key
    rw [kz_wid hw1]
    generalize hh2 : kz_cp h1 263 0 260 0 650 = h2
    have hw2 : kd_wt kd_ty h2 := by
      rw [← hh2]
      exact kz_cp_wt hw1 (fun j hj => by rw [Nat.zero_add, (kz_k260 j hj).2.2.2])
    refine kx_go 1 (pc' := 44) (L' := [(1, .inl (Int32.ofNat 650)), (0, .inr (.inr (.inl (some 259))))]) (S' := [.inr (.inr (.inl (some 259)))]) (h' := h2) (by with_unfolding_all rfl) ?_
    refine kc_call_rule (M2 := wk_m12) (av := [.inr (.inr (.inl (some 259)))]) (r := []) rfl rfl (kc_Con_le (kd_h12 hg _ h2 hw2 ⟨⟨259, rfl, by decide, by decide⟩, trivial⟩ (fun q hq => by cases hq)) (by decide)) (fun rv h3 hq3 => ?_)
    obtain ⟨pp, p1, pr, pF, hw3, hfr3⟩ := hq3
    obtain rfl := List.mem_singleton.mp p1
    cases rv with
    | some y => exact pr.elim
    | none =>
      have hfr3 : kd_fr kv_W12 h2 h3 := kd_cvW_r _ (by decide) hfr3
      have hl3 : h3 260 3 = .inl (Int32.ofNat 0) := kx_ofs (k := 0) (by decide) (pF (260, 3, _) (by decide))
      have hC3 : kv_Rs h3 0 0 0 (fun _ => 0) := by
        refine ⟨⟨by decide, by decide, by decide, ?_, ?_, ?_⟩, fun i hi => ⟨Nat.zero_le _, ?_⟩⟩
        · exact kx_ofs (k := 0) (by decide) (pF (260, 0, _) (by decide))
        · exact kx_ofs (k := 0) (by decide) (pF (260, 1, _) (by decide))
        · exact kx_ofs (k := 0) (by decide) (pF (260, 2, _) (by decide))
        · rcases (show i = 0 ∨ i = 1 ∨ i = 2 ∨ i = 3 ∨ i = 4 ∨ i = 5 by omega) with rfl | rfl | rfl | rfl | rfl | rfl
          · exact kx_ofs (k := 0) (by decide) (pF (260, 46, _) (by decide))
          · exact kx_ofs (k := 0) (by decide) (pF (260, 47, _) (by decide))
          · exact kx_ofs (k := 0) (by decide) (pF (260, 48, _) (by decide))
          · exact kx_ofs (k := 0) (by decide) (pF (260, 49, _) (by decide))
          · exact kx_ofs (k := 0) (by decide) (pF (260, 50, _) (by decide))
          · exact kx_ofs (k := 0) (by decide) (pF (260, 51, _) (by decide))
      show kc_Ev g 9 wk_m71 _ 47 [(1, .inl (Int32.ofNat 650)), (0, .inr (.inr (.inl (some 259))))] [] h3
      refine kx_go 2 (pc' := 49) (L' := [(1, .inl (Int32.ofNat 0)), (0, .inr (.inr (.inl (some 259))))]) (S' := []) (h' := h3) (by with_unfolding_all rfl) ?_
      have far3 : ∀ c i, ¬ c = 260 → h3 c i = h2 c i := fun c i hc => hfr3 c i (fun q hq => by
        simp only [kv_W12, List.mem_cons, List.not_mem_nil, or_false] at hq
        rcases hq with rfl | rfl <;> exact kb_inr (by (try dsimp only); omega))
      have far : ∀ c i, ¬ c = 260 → ¬ c = 263 → h3 c i = h1 c i := fun c i hc hc2 => by
        rw [far3 c i hc, ← hh2]
        exact kz_n hc2
      have as3 : ∀ i, i < 650 → h3 263 i = h 260 i := fun i hi => by
        rw [far3 263 i (by decide), ← hh2, ← near i]
        unfold kz_cp
        rw [if_pos ⟨rfl, by omega, by omega⟩, show 0 + (i - 0) = i from by omega]
      have hit : h3 259 13 = .inl (Int32.ofNat l.length) := by
        rw [far 259 13 (by decide) (by decide), hh1]
        rfl
      have hat : ∀ (i : Nat) (q : Nat × List Nat), l[i]? = some q → h3 264 i = .inl (Int32.ofNat (kp_tv q.1)) ∧ ∀ k x, q.2[k]? = some x → h3 265 (5 * i + k) = .inl (Int32.ofNat x) := fun i q hq => by
        obtain ⟨a1, a2⟩ := km_ns_at l h 0 i q hq (fun q hq => (hall q hq).1.2.1)
        rw [Nat.zero_add] at a1 a2
        have e1 : ∀ c b, ¬ c = 259 → h1 c b = km_ns h 0 l c b := fun c b hc => by
          rw [hh1, km_o hc, kmj_o hc]
        exact ⟨by rw [far 264 i (by decide) (by decide), e1 264 i (by decide)]; exact a1, fun k x hx => by rw [far 265 (5 * i + k) (by decide) (by decide), e1 265 (5 * i + k) (by decide)]; exact a2 k x hx⟩
      have bk3 : ∀ i, 149 < i → h3 260 i = h 260 i := fun i hi => by
        rw [hfr3 260 i (fun q hq => by
          simp only [kv_W12, List.mem_cons, List.not_mem_nil, or_false] at hq
          rcases hq with rfl | rfl <;> exact kb_inr (by (try dsimp only); omega)), ← hh2, kz_n (by decide), near i]
      have wr : ∀ hE c i, kd_fr kv_WR h3 hE → (¬ c = 260 ∨ 149 < i ∨ i = 3) → hE c i = h3 c i := fun hE c i hfrE hc => hfrE c i (fun q hq => by
        simp only [kv_WR, List.mem_cons, List.not_mem_nil, or_false] at hq
        rcases hq with rfl | rfl <;> exact kb_inr (by (try dsimp only); omega))
      have rest : ∀ hE c i, kd_fr kv_WR h3 hE → ¬ c = 260 → (∀ q ∈ kv_W71, kd_inr c q.1 q.2.1 i q.2.2.1 q.2.2.2 = false) → hE c i = h c i := fun hE c i hfrE hc hq => by
        have q1 := kd_inr_f (hq (259, 259, 6, 10) (by decide))
        have q2 := kd_inr_f (hq (259, 259, 13, 13) (by decide))
        have q3 := kd_inr_f (hq (263, 263, 0, 649) (by decide))
        have q4 := kd_inr_f (hq (264, 264, 0, 59) (by decide))
        have q5 := kd_inr_f (hq (265, 265, 0, 299) (by decide))
        simp only at q1 q2 q3 q4 q5
        rw [wr hE c i hfrE (Or.inl hc), far3 c i hc, ← hh2]
        have e : kz_cp h1 263 0 260 0 650 c i = h1 c i := by
          unfold kz_cp
          rw [if_neg (by omega)]
        rw [e]
        exact hfr1 c i (fun q hq => by
          simp only [km_W, List.mem_cons, List.not_mem_nil, or_false] at hq
          rcases hq with rfl | rfl | rfl | rfl <;> exact kb_inr (by (try dsimp only); omega))
      refine kf_lo (L := [(1, .inl (Int32.ofNat 0)), (0, .inr (.inr (.inl (some 259))))]) (by intro q hq; simp only [List.mem_cons, List.not_mem_nil, or_false] at hq; rcases hq with rfl | rfl <;> rfl) ?_
      refine kv_dayr (l := l) (hB := h3) (out := kv_out t n) hg (by decide) hit (by omega) (fun i q hq => ?_) hat ?_ ?_ l.length 0 h3 0 0 0 (fun _ => 0) (by omega) (by omega) hw3 kv_fr0 hC3 ?_
      · obtain ⟨b1, -, b3, b4⟩ := hall q (List.mem_of_getElem? hq)
        exact ⟨b1, by omega, b4⟩
      · intro z hE D M L f hwE hfrE hCE hfo
        refine ⟨⟨z, rfl⟩, hwE, fun c i hq => ?_, fun j hj => ?_, ?_, Or.inr ⟨D, M, L, f, hfo.symm, hCE, ?_⟩⟩
        · by_cases hc : c = 260
          · subst hc
            have q6 := kd_inr_f (hq (260, 260, 0, 649) (by decide))
            simp only at q6
            rw [wr hE 260 i hfrE (by omega), bk3 i (by omega)]
          · exact rest hE c i hfrE hc hq
        · rw [wr hE 260 _ hfrE (by omega), bk3 _ (by omega)]
        · rw [wr hE 260 _ hfrE (by omega), bk3 _ (by omega)]
        · rw [wr hE 260 3 hfrE (by omega), hl3]
      · intro z hE hwE hfrE hno
        have bk : ∀ i, i < 650 → kz_cp hE 260 0 263 0 650 260 i = h 260 i := fun i hi => by
          unfold kz_cp
          rw [if_pos ⟨rfl, by omega, by omega⟩, show 0 + (i - 0) = i from by omega, wr hE 263 i hfrE (Or.inl (by decide)), as3 i hi]
        refine ⟨⟨z, rfl⟩, kz_cp_wt hwE (fun j hj => by rw [Nat.zero_add, (kz_k260 j hj).2.2.2]), fun c i hq => ?_, fun j hj => bk _ (by omega), bk _ (by decide), Or.inl ⟨hno, bk⟩⟩
        by_cases hc : c = 260
        · subst hc
          have q6 := kd_inr_f (hq (260, 260, 0, 649) (by decide))
          simp only at q6
          have e : kz_cp hE 260 0 263 0 650 260 i = hE 260 i := by
            unfold kz_cp
            rw [if_neg (by omega)]
          rw [e, wr hE 260 i hfrE (by omega), bk3 i (by omega)]
        · rw [kz_n hc]
          exact rest hE c i hfrE hc hq
      · show kv_fold (l.drop 0) 0 0 0 (fun _ => 0) = kv_out t n
        rw [List.drop_zero]
        unfold kv_out
        rw [hk]
end
section
-- 99.zhkc00
/-! ===== contracts, zhkc 0 ===== -/
def kd_P54t1 : List kd_P := [(some (0, 2147483644, 2147483888), [], [(31, 31, 0, 1), (29, 30, 0, 239)])]
def kd_T54t1 : kd_Tc := ([(3, 0, 0), (0, 2147483649, 2147483649), (2, 0, 18446744073709551615), (0, 0, 4294967295)], [], kd_P54t1)
def kd_C54t1 : List (Nat × kd_Tc) := [(55, kd_T55)]
def kd_S54t1 : List kd_St := []
theorem kd_e54t1 : kd_run0 kd_ty kd_x54 5 (kd_call kd_ty kd_xt (kd_ctl kd_C54t1) 600 0) kd_T54t1 600 kd_S54t1 = true := by decide +kernel
theorem kd_h54t1 {g : kc_G} (hg : kc_ok g) : kd_hold g 3 kd_ty 54 kd_T54t1 := kd_mk (d0 := 2) (di := 0) hg kd_xk54 rfl rfl rfl rfl (kd_al_r kd_C54t1 ⟨kd_hold_le (kd_h55 hg) (by decide), trivial⟩) (by decide) (by decide +kernel) kd_e54t1 (kd_al_r kd_S54t1 trivial)
def kd_P55th : List kd_P := [(some (0, 2147483646, 2147483646), [], [])]
def kd_T55th : kd_Tc := ([(3, 1, 1), (0, 2147483650, 4294967295), (2, 0, 18446744073709551615), (0, 0, 4294967295)], [], kd_P55th)
def kd_C55th : List (Nat × kd_Tc) := []
def kd_S55th : List kd_St := []
theorem kd_e55th : kd_run0 kd_ty kd_x55 6 (kd_call kd_ty kd_xt (kd_ctl kd_C55th) 600 1) kd_T55th 600 kd_S55th = true := by decide +kernel
theorem kd_h55th {g : kc_G} (hg : kc_ok g) : kd_hold g 2 kd_ty 55 kd_T55th := kd_mk (d0 := 0) (di := 1) hg kd_xk55 rfl rfl rfl rfl (kd_al_r kd_C55th trivial) (by decide) (by decide +kernel) kd_e55th (kd_al_r kd_S55th trivial)
def kd_P54th : List kd_P := [(some (0, 2147483646, 2147483646), [], [])]
def kd_T54th : kd_Tc := ([(3, 0, 0), (0, 2147483650, 4294967295), (2, 0, 18446744073709551615), (0, 0, 4294967295)], [], kd_P54th)
def kd_C54th : List (Nat × kd_Tc) := [(55, kd_T55th)]
def kd_S54th : List kd_St := []
theorem kd_e54th : kd_run0 kd_ty kd_x54 5 (kd_call kd_ty kd_xt (kd_ctl kd_C54th) 600 0) kd_T54th 600 kd_S54th = true := by decide +kernel
theorem kd_h54th {g : kc_G} (hg : kc_ok g) : kd_hold g 3 kd_ty 54 kd_T54th := kd_mk (d0 := 2) (di := 0) hg kd_xk54 rfl rfl rfl rfl (kd_al_r kd_C54th ⟨kd_hold_le (kd_h55th hg) (by decide), trivial⟩) (by decide) (by decide +kernel) kd_e54th (kd_al_r kd_S54th trivial)
def kd_P55tl : List kd_P := [(some (0, 2147483646, 2147483646), [], [])]
def kd_T55tl : kd_Tc := ([(3, 1, 1), (0, 0, 2147483647), (2, 0, 18446744073709551615), (0, 0, 4294967295)], [], kd_P55tl)
def kd_C55tl : List (Nat × kd_Tc) := []
def kd_S55tl : List kd_St := []
theorem kd_e55tl : kd_run0 kd_ty kd_x55 6 (kd_call kd_ty kd_xt (kd_ctl kd_C55tl) 600 1) kd_T55tl 600 kd_S55tl = true := by decide +kernel
theorem kd_h55tl {g : kc_G} (hg : kc_ok g) : kd_hold g 2 kd_ty 55 kd_T55tl := kd_mk (d0 := 0) (di := 1) hg kd_xk55 rfl rfl rfl rfl (kd_al_r kd_C55tl trivial) (by decide) (by decide +kernel) kd_e55tl (kd_al_r kd_S55tl trivial)
def kd_P54tl : List kd_P := [(some (0, 2147483646, 2147483646), [], [])]
def kd_T54tl : kd_Tc := ([(3, 0, 0), (0, 0, 2147483647), (2, 0, 18446744073709551615), (0, 0, 4294967295)], [], kd_P54tl)
def kd_C54tl : List (Nat × kd_Tc) := [(55, kd_T55tl)]
def kd_S54tl : List kd_St := []
theorem kd_e54tl : kd_run0 kd_ty kd_x54 5 (kd_call kd_ty kd_xt (kd_ctl kd_C54tl) 600 0) kd_T54tl 600 kd_S54tl = true := by decide +kernel
theorem kd_h54tl {g : kc_G} (hg : kc_ok g) : kd_hold g 3 kd_ty 54 kd_T54tl := kd_mk (d0 := 2) (di := 0) hg kd_xk54 rfl rfl rfl rfl (kd_al_r kd_C54tl ⟨kd_hold_le (kd_h55tl hg) (by decide), trivial⟩) (by decide) (by decide +kernel) kd_e54tl (kd_al_r kd_S54tl trivial)
def kd_P55nl : List kd_P := [(some (0, 2147483646, 2147483646), [], [])]
def kd_T55nl : kd_Tc := ([(3, 1, 1), (0, 2147483648, 2147483648), (2, 0, 18446744073709551615), (0, 0, 2147483648)], [], kd_P55nl)
def kd_C55nl : List (Nat × kd_Tc) := []
def kd_S55nl : List kd_St := []
theorem kd_e55nl : kd_run0 kd_ty kd_x55 6 (kd_call kd_ty kd_xt (kd_ctl kd_C55nl) 600 1) kd_T55nl 600 kd_S55nl = true := by decide +kernel
theorem kd_h55nl {g : kc_G} (hg : kc_ok g) : kd_hold g 2 kd_ty 55 kd_T55nl := kd_mk (d0 := 0) (di := 1) hg kd_xk55 rfl rfl rfl rfl (kd_al_r kd_C55nl trivial) (by decide) (by decide +kernel) kd_e55nl (kd_al_r kd_S55nl trivial)
def kd_P54nl : List kd_P := [(some (0, 2147483646, 2147483646), [], [])]
def kd_T54nl : kd_Tc := ([(3, 0, 0), (0, 2147483648, 2147483648), (2, 0, 18446744073709551615), (0, 0, 2147483648)], [], kd_P54nl)
def kd_C54nl : List (Nat × kd_Tc) := [(55, kd_T55nl)]
def kd_S54nl : List kd_St := []
theorem kd_e54nl : kd_run0 kd_ty kd_x54 5 (kd_call kd_ty kd_xt (kd_ctl kd_C54nl) 600 0) kd_T54nl 600 kd_S54nl = true := by decide +kernel
theorem kd_h54nl {g : kc_G} (hg : kc_ok g) : kd_hold g 3 kd_ty 54 kd_T54nl := kd_mk (d0 := 2) (di := 0) hg kd_xk54 rfl rfl rfl rfl (kd_al_r kd_C54nl ⟨kd_hold_le (kd_h55nl hg) (by decide), trivial⟩) (by decide) (by decide +kernel) kd_e54nl (kd_al_r kd_S54nl trivial)
def kd_P55nh : List kd_P := [(some (0, 2147483646, 2147483646), [], [])]
def kd_T55nh : kd_Tc := ([(3, 1, 1), (0, 2147483648, 2147483648), (2, 0, 18446744073709551615), (0, 2147483657, 4294967295)], [], kd_P55nh)
def kd_C55nh : List (Nat × kd_Tc) := []
def kd_S55nh : List kd_St := []
theorem kd_e55nh : kd_run0 kd_ty kd_x55 6 (kd_call kd_ty kd_xt (kd_ctl kd_C55nh) 600 1) kd_T55nh 600 kd_S55nh = true := by decide +kernel
theorem kd_h55nh {g : kc_G} (hg : kc_ok g) : kd_hold g 2 kd_ty 55 kd_T55nh := kd_mk (d0 := 0) (di := 1) hg kd_xk55 rfl rfl rfl rfl (kd_al_r kd_C55nh trivial) (by decide) (by decide +kernel) kd_e55nh (kd_al_r kd_S55nh trivial)
def kd_P54nh : List kd_P := [(some (0, 2147483646, 2147483646), [], [])]
def kd_T54nh : kd_Tc := ([(3, 0, 0), (0, 2147483648, 2147483648), (2, 0, 18446744073709551615), (0, 2147483657, 4294967295)], [], kd_P54nh)
def kd_C54nh : List (Nat × kd_Tc) := [(55, kd_T55nh)]
def kd_S54nh : List kd_St := []
theorem kd_e54nh : kd_run0 kd_ty kd_x54 5 (kd_call kd_ty kd_xt (kd_ctl kd_C54nh) 600 0) kd_T54nh 600 kd_S54nh = true := by decide +kernel
theorem kd_h54nh {g : kc_G} (hg : kc_ok g) : kd_hold g 3 kd_ty 54 kd_T54nh := kd_mk (d0 := 2) (di := 0) hg kd_xk54 rfl rfl rfl rfl (kd_al_r kd_C54nh ⟨kd_hold_le (kd_h55nh hg) (by decide), trivial⟩) (by decide) (by decide +kernel) kd_e54nh (kd_al_r kd_S54nh trivial)
def kd_P58t0 : List kd_P := [(some (0, 2147483648, 2147483888), [(31, 0, (0, 2147483648, 2147483648))], [(31, 31, 0, 0)])]
def kd_T58t0 : kd_Tc := ([(3, 0, 0), (0, 2147483648, 2147483648)], [], kd_P58t0)
def kd_C58t0 : List (Nat × kd_Tc) := []
def kd_S58t0 : List kd_St := []
theorem kd_e58t0 : kd_run0 kd_ty kd_x58 3 (kd_call kd_ty kd_xt (kd_ctl kd_C58t0) 600 1) kd_T58t0 600 kd_S58t0 = true := by decide +kernel
theorem kd_h58t0 {g : kc_G} (hg : kc_ok g) : kd_hold g 2 kd_ty 58 kd_T58t0 := kd_mk (d0 := 0) (di := 1) hg kd_xk58 rfl rfl rfl rfl (kd_al_r kd_C58t0 trivial) (by decide) (by decide +kernel) kd_e58t0 (kd_al_r kd_S58t0 trivial)
def kd_P58t1 : List kd_P := [(some (0, 2147483648, 2147483888), [], [(31, 31, 1, 1)])]
def kd_T58t1 : kd_Tc := ([(3, 0, 0), (0, 2147483649, 2147483649)], [], kd_P58t1)
def kd_C58t1 : List (Nat × kd_Tc) := []
def kd_S58t1 : List kd_St := []
theorem kd_e58t1 : kd_run0 kd_ty kd_x58 3 (kd_call kd_ty kd_xt (kd_ctl kd_C58t1) 600 1) kd_T58t1 600 kd_S58t1 = true := by decide +kernel
theorem kd_h58t1 {g : kc_G} (hg : kc_ok g) : kd_hold g 2 kd_ty 58 kd_T58t1 := kd_mk (d0 := 0) (di := 1) hg kd_xk58 rfl rfl rfl rfl (kd_al_r kd_C58t1 trivial) (by decide) (by decide +kernel) kd_e58t1 (kd_al_r kd_S58t1 trivial)
def kd_P58th : List kd_P := [(some (0, 2147483646, 2147483646), [], [])]
def kd_T58th : kd_Tc := ([(3, 0, 0), (0, 2147483650, 4294967295)], [], kd_P58th)
def kd_C58th : List (Nat × kd_Tc) := []
def kd_S58th : List kd_St := []
theorem kd_e58th : kd_run0 kd_ty kd_x58 3 (kd_call kd_ty kd_xt (kd_ctl kd_C58th) 600 1) kd_T58th 600 kd_S58th = true := by decide +kernel
theorem kd_h58th {g : kc_G} (hg : kc_ok g) : kd_hold g 2 kd_ty 58 kd_T58th := kd_mk (d0 := 0) (di := 1) hg kd_xk58 rfl rfl rfl rfl (kd_al_r kd_C58th trivial) (by decide) (by decide +kernel) kd_e58th (kd_al_r kd_S58th trivial)
def kd_P58tl : List kd_P := [(some (0, 2147483646, 2147483646), [], [])]
def kd_T58tl : kd_Tc := ([(3, 0, 0), (0, 0, 2147483647)], [], kd_P58tl)
def kd_C58tl : List (Nat × kd_Tc) := []
def kd_S58tl : List kd_St := []
theorem kd_e58tl : kd_run0 kd_ty kd_x58 3 (kd_call kd_ty kd_xt (kd_ctl kd_C58tl) 600 1) kd_T58tl 600 kd_S58tl = true := by decide +kernel
theorem kd_h58tl {g : kc_G} (hg : kc_ok g) : kd_hold g 2 kd_ty 58 kd_T58tl := kd_mk (d0 := 0) (di := 1) hg kd_xk58 rfl rfl rfl rfl (kd_al_r kd_C58tl trivial) (by decide) (by decide +kernel) kd_e58tl (kd_al_r kd_S58tl trivial)
def kd_P157th : List kd_P := [(some (0, 2147483646, 2147483646), [], [])]
def kd_T157th : kd_Tc := ([(3, 0, 0), (0, 2147483650, 4294967295)], [], kd_P157th)
def kd_C157th : List (Nat × kd_Tc) := []
def kd_S157th : List kd_St := []
theorem kd_e157th : kd_run0 kd_ty kd_x157 2 (kd_call kd_ty kd_xt (kd_ctl kd_C157th) 600 1) kd_T157th 600 kd_S157th = true := by decide +kernel
theorem kd_h157th {g : kc_G} (hg : kc_ok g) : kd_hold g 2 kd_ty 157 kd_T157th := kd_mk (d0 := 0) (di := 1) hg kd_xk157 rfl rfl rfl rfl (kd_al_r kd_C157th trivial) (by decide) (by decide +kernel) kd_e157th (kd_al_r kd_S157th trivial)
def kd_P159th : List kd_P := [(some (0, 2147483646, 2147483646), [], [])]
def kd_T159th : kd_Tc := ([(3, 0, 0), (0, 2147483650, 4294967295)], [], kd_P159th)
def kd_C159th : List (Nat × kd_Tc) := []
def kd_S159th : List kd_St := []
theorem kd_e159th : kd_run0 kd_ty kd_x159 2 (kd_call kd_ty kd_xt (kd_ctl kd_C159th) 600 1) kd_T159th 600 kd_S159th = true := by decide +kernel
theorem kd_h159th {g : kc_G} (hg : kc_ok g) : kd_hold g 2 kd_ty 159 kd_T159th := kd_mk (d0 := 0) (di := 1) hg kd_xk159 rfl rfl rfl rfl (kd_al_r kd_C159th trivial) (by decide) (by decide +kernel) kd_e159th (kd_al_r kd_S159th trivial)
def kd_P157tl : List kd_P := [(some (0, 2147483646, 2147483646), [], [])]
def kd_T157tl : kd_Tc := ([(3, 0, 0), (0, 0, 2147483647)], [], kd_P157tl)
def kd_C157tl : List (Nat × kd_Tc) := []
def kd_S157tl : List kd_St := []
theorem kd_e157tl : kd_run0 kd_ty kd_x157 2 (kd_call kd_ty kd_xt (kd_ctl kd_C157tl) 600 1) kd_T157tl 600 kd_S157tl = true := by decide +kernel
theorem kd_h157tl {g : kc_G} (hg : kc_ok g) : kd_hold g 2 kd_ty 157 kd_T157tl := kd_mk (d0 := 0) (di := 1) hg kd_xk157 rfl rfl rfl rfl (kd_al_r kd_C157tl trivial) (by decide) (by decide +kernel) kd_e157tl (kd_al_r kd_S157tl trivial)
def kd_P159tl : List kd_P := [(some (0, 2147483646, 2147483646), [], [])]
def kd_T159tl : kd_Tc := ([(3, 0, 0), (0, 0, 2147483647)], [], kd_P159tl)
def kd_C159tl : List (Nat × kd_Tc) := []
def kd_S159tl : List kd_St := []
theorem kd_e159tl : kd_run0 kd_ty kd_x159 2 (kd_call kd_ty kd_xt (kd_ctl kd_C159tl) 600 1) kd_T159tl 600 kd_S159tl = true := by decide +kernel
theorem kd_h159tl {g : kc_G} (hg : kc_ok g) : kd_hold g 2 kd_ty 159 kd_T159tl := kd_mk (d0 := 0) (di := 1) hg kd_xk159 rfl rfl rfl rfl (kd_al_r kd_C159tl trivial) (by decide) (by decide +kernel) kd_e159tl (kd_al_r kd_S159tl trivial)
end
section
-- 99.zikm00
/-! ===== contracts, zikm 0 ===== -/
def kd_P56th : List kd_P := [(some (0, 2147483646, 2147483646), [], [])]
def kd_T56th : kd_Tc := ([(3, 259, 259), (0, 2147483650, 4294967295), (2, 0, 18446744073709551615), (0, 0, 4294967295)], [], kd_P56th)
def kd_C56th : List (Nat × kd_Tc) := []
def kd_S56th : List kd_St := []
theorem kd_e56th : kd_run0 kd_ty kd_x56 6 (kd_call kd_ty kd_xt (kd_ctl kd_C56th) 600 2) kd_T56th 600 kd_S56th = true := by decide +kernel
theorem kd_h56th {g : kc_G} (hg : kc_ok g) : kd_hold g 3 kd_ty 56 kd_T56th := kd_mk (d0 := 0) (di := 2) hg kd_xk56 rfl rfl rfl rfl (kd_al_r kd_C56th trivial) (by decide) (by decide +kernel) kd_e56th (kd_al_r kd_S56th trivial)
def kd_P56tl : List kd_P := [(some (0, 2147483646, 2147483646), [], [])]
def kd_T56tl : kd_Tc := ([(3, 259, 259), (0, 0, 2147483647), (2, 0, 18446744073709551615), (0, 0, 4294967295)], [], kd_P56tl)
def kd_C56tl : List (Nat × kd_Tc) := []
def kd_S56tl : List kd_St := []
theorem kd_e56tl : kd_run0 kd_ty kd_x56 6 (kd_call kd_ty kd_xt (kd_ctl kd_C56tl) 600 2) kd_T56tl 600 kd_S56tl = true := by decide +kernel
theorem kd_h56tl {g : kc_G} (hg : kc_ok g) : kd_hold g 3 kd_ty 56 kd_T56tl := kd_mk (d0 := 0) (di := 2) hg kd_xk56 rfl rfl rfl rfl (kd_al_r kd_C56tl trivial) (by decide) (by decide +kernel) kd_e56tl (kd_al_r kd_S56tl trivial)
def kd_P56nl : List kd_P := [(some (0, 2147483646, 2147483646), [], [])]
def kd_T56nl : kd_Tc := ([(3, 259, 259), (0, 2147483648, 2147483648), (2, 0, 18446744073709551615), (0, 0, 2147483648)], [], kd_P56nl)
def kd_C56nl : List (Nat × kd_Tc) := []
def kd_S56nl : List kd_St := []
theorem kd_e56nl : kd_run0 kd_ty kd_x56 6 (kd_call kd_ty kd_xt (kd_ctl kd_C56nl) 600 2) kd_T56nl 600 kd_S56nl = true := by decide +kernel
theorem kd_h56nl {g : kc_G} (hg : kc_ok g) : kd_hold g 3 kd_ty 56 kd_T56nl := kd_mk (d0 := 0) (di := 2) hg kd_xk56 rfl rfl rfl rfl (kd_al_r kd_C56nl trivial) (by decide) (by decide +kernel) kd_e56nl (kd_al_r kd_S56nl trivial)
def kd_P56nh : List kd_P := [(some (0, 2147483646, 2147483646), [], [])]
def kd_T56nh : kd_Tc := ([(3, 259, 259), (0, 2147483648, 2147483648), (2, 0, 18446744073709551615), (0, 2147483657, 4294967295)], [], kd_P56nh)
def kd_C56nh : List (Nat × kd_Tc) := []
def kd_S56nh : List kd_St := []
theorem kd_e56nh : kd_run0 kd_ty kd_x56 6 (kd_call kd_ty kd_xt (kd_ctl kd_C56nh) 600 2) kd_T56nh 600 kd_S56nh = true := by decide +kernel
theorem kd_h56nh {g : kc_G} (hg : kc_ok g) : kd_hold g 3 kd_ty 56 kd_T56nh := kd_mk (d0 := 0) (di := 2) hg kd_xk56 rfl rfl rfl rfl (kd_al_r kd_C56nh trivial) (by decide) (by decide +kernel) kd_e56nh (kd_al_r kd_S56nh trivial)
def kd_P59t0 : List kd_P := [(some (0, 2147483648, 2147483888), [(260, 160, (0, 2147483648, 2147483648))], [(260, 260, 160, 160)])]
def kd_T59t0 : kd_Tc := ([(3, 259, 259), (0, 2147483648, 2147483648)], [], kd_P59t0)
def kd_C59t0 : List (Nat × kd_Tc) := []
def kd_S59t0 : List kd_St := []
theorem kd_e59t0 : kd_run0 kd_ty kd_x59 2 (kd_call kd_ty kd_xt (kd_ctl kd_C59t0) 600 2) kd_T59t0 600 kd_S59t0 = true := by decide +kernel
theorem kd_h59t0 {g : kc_G} (hg : kc_ok g) : kd_hold g 3 kd_ty 59 kd_T59t0 := kd_mk (d0 := 0) (di := 2) hg kd_xk59 rfl rfl rfl rfl (kd_al_r kd_C59t0 trivial) (by decide) (by decide +kernel) kd_e59t0 (kd_al_r kd_S59t0 trivial)
def kd_P59t1 : List kd_P := [(some (0, 2147483648, 2147483888), [], [(260, 260, 161, 161)])]
def kd_T59t1 : kd_Tc := ([(3, 259, 259), (0, 2147483649, 2147483649)], [], kd_P59t1)
def kd_C59t1 : List (Nat × kd_Tc) := []
def kd_S59t1 : List kd_St := []
theorem kd_e59t1 : kd_run0 kd_ty kd_x59 2 (kd_call kd_ty kd_xt (kd_ctl kd_C59t1) 600 2) kd_T59t1 600 kd_S59t1 = true := by decide +kernel
theorem kd_h59t1 {g : kc_G} (hg : kc_ok g) : kd_hold g 3 kd_ty 59 kd_T59t1 := kd_mk (d0 := 0) (di := 2) hg kd_xk59 rfl rfl rfl rfl (kd_al_r kd_C59t1 trivial) (by decide) (by decide +kernel) kd_e59t1 (kd_al_r kd_S59t1 trivial)
def kd_P59th : List kd_P := [(some (0, 2147483646, 2147483646), [], [])]
def kd_T59th : kd_Tc := ([(3, 259, 259), (0, 2147483650, 4294967295)], [], kd_P59th)
def kd_C59th : List (Nat × kd_Tc) := []
def kd_S59th : List kd_St := []
theorem kd_e59th : kd_run0 kd_ty kd_x59 2 (kd_call kd_ty kd_xt (kd_ctl kd_C59th) 600 2) kd_T59th 600 kd_S59th = true := by decide +kernel
theorem kd_h59th {g : kc_G} (hg : kc_ok g) : kd_hold g 3 kd_ty 59 kd_T59th := kd_mk (d0 := 0) (di := 2) hg kd_xk59 rfl rfl rfl rfl (kd_al_r kd_C59th trivial) (by decide) (by decide +kernel) kd_e59th (kd_al_r kd_S59th trivial)
def kd_P59tl : List kd_P := [(some (0, 2147483646, 2147483646), [], [])]
def kd_T59tl : kd_Tc := ([(3, 259, 259), (0, 0, 2147483647)], [], kd_P59tl)
def kd_C59tl : List (Nat × kd_Tc) := []
def kd_S59tl : List kd_St := []
theorem kd_e59tl : kd_run0 kd_ty kd_x59 2 (kd_call kd_ty kd_xt (kd_ctl kd_C59tl) 600 2) kd_T59tl 600 kd_S59tl = true := by decide +kernel
theorem kd_h59tl {g : kc_G} (hg : kc_ok g) : kd_hold g 3 kd_ty 59 kd_T59tl := kd_mk (d0 := 0) (di := 2) hg kd_xk59 rfl rfl rfl rfl (kd_al_r kd_C59tl trivial) (by decide) (by decide +kernel) kd_e59tl (kd_al_r kd_S59tl trivial)
end
