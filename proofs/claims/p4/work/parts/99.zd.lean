/-! ===== the day: an item told, reference ===== -/
set_option maxRecDepth 20000 in
theorem kv_num {g : kc_G} {d i k x : Nat} {h : kc_H} (hg : kc_ok g) (hi : i < 60) (hk : k < 4) (h12 : h 259 12 = .inr (.inr (.inl (some 265)))) (hx : h 265 (5 * i + k) = .inl (Int32.ofNat x)) : kc_Con g (d + 1) 236 [.inr (.inr (.inl (some 259))), .inl (Int32.ofNat i), .inl (Int32.ofNat k)] h (fun rv h' => rv = some (.inl (Int32.ofNat x)) ∧ h' = h) := by
  refine kc_Con_new hg (M := wk_m236) rfl rfl rfl (show 3 ≤ 3 by decide) ?_
  refine kx_go 1 (pc' := 1) (L' := [(0, .inr (.inr (.inl (some 259)))), (1, .inl (Int32.ofNat i)), (2, .inl (Int32.ofNat k))]) (S' := [.inr (.inr (.inl (some 259)))]) (h' := h) (by with_unfolding_all rfl) ?_
  refine kx_getf (c := 259) (v := .inr (.inr (.inl (some 265)))) rfl (by decide) h12 ?_
  refine kx_go 5 (pc' := 9) (L' := [(0, .inr (.inr (.inl (some 259)))), (1, .inl (Int32.ofNat i)), (2, .inl (Int32.ofNat k))]) (S' := [.inl (((Int32.ofNat 5) * (Int32.ofNat i)) + (Int32.ofNat k)), .inr (.inr (.inl (some 265)))]) (h' := h) (by with_unfolding_all rfl) ?_
  rw [← Int32.ofNat_mul, ← Int32.ofNat_add]
  refine kx_iald rfl (c := 265) (j := 5 * i + k) (m := 1200) (v := .inl (Int32.ofNat x)) rfl (by decide) (by decide) (by omega) hx ?_
  exact kc_ret_ok rfl (rv := some (.inl (Int32.ofNat x))) rfl ⟨rfl, rfl⟩
theorem kv_kr : kd_rn (kd_ty 259) 11 = some (3, 264, 264) ∧ kd_rn (kd_ty 259) 12 = some (3, 265, 265) := by decide +kernel
set_option maxRecDepth 20000 in
theorem kv_item0 {g : kc_G} {h : kc_H} {i D M L : Nat} {f n : Nat → Nat} (hg : kc_ok g) (hw : kd_wt kd_ty h) (hi : i < 60) (hC : kv_Rs h D M L f) (ev : h 264 i = .inl (Int32.ofNat 10)) (en : ∀ k, k < 4 → h 265 (5 * i + k) = .inl (Int32.ofNat (n k)) ∧ n k < 1000) : kc_Con g 6 235 [.inr (.inr (.inl (some 259))), .inl (Int32.ofNat i)] h (kv_Pr h (kv_step 0 n D M L f)) := by
  obtain ⟨hC, ef⟩ := hC
  obtain ⟨hD, hM, hL, eD, eM, eL⟩ := hC
  have hC : kv_R h D M L := ⟨hD, hM, hL, eD, eM, eL⟩
  obtain ⟨en0, nb0⟩ := en 0 (by omega)
  have t0 : (Int32.ofNat (n 0)).toInt = n 0 := kx_ti (by omega)
  obtain ⟨en1, nb1⟩ := en 1 (by omega)
  have t1 : (Int32.ofNat (n 1)).toInt = n 1 := kx_ti (by omega)
  obtain ⟨en2, nb2⟩ := en 2 (by omega)
  have t2 : (Int32.ofNat (n 2)).toInt = n 2 := kx_ti (by omega)
  obtain ⟨en3, nb3⟩ := en 3 (by omega)
  have t3 : (Int32.ofNat (n 3)).toInt = n 3 := kx_ti (by omega)
  have h11 := kx_ofr (hw _ _ _ kv_kr.1)
  have h12 := kx_ofr (hw _ _ _ kv_kr.2)
  refine kc_Con_new hg (M := wk_m235) rfl rfl rfl (show 2 ≤ 5 by decide) ?_
  refine kx_go 3 (pc' := 3) (L' := [(0, .inr (.inr (.inl (some 259)))), (1, .inl (Int32.ofNat i))]) (S' := [.inl (Int32.ofNat 0), .inl (Int32.ofNat i), .inr (.inr (.inl (some 259)))]) (h' := h) (by with_unfolding_all rfl) ?_
  refine kc_call_rule (M2 := wk_m236) (av := [.inr (.inr (.inl (some 259))), .inl (Int32.ofNat i), .inl (Int32.ofNat 0)]) (r := []) rfl rfl (kc_Con_le (kv_num (d := 0) (x := n 0) hg hi (by decide) h12 en0) (by decide)) (fun rv h' hq => ?_)
  obtain ⟨rfl, rfl⟩ := hq
  show kc_Ev g 5 wk_m235 _ 6 [(0, .inr (.inr (.inl (some 259)))), (1, .inl (Int32.ofNat i))] [.inl (Int32.ofNat (n 0))] h'
  refine kx_go 4 (pc' := 10) (L' := [(2, .inl (Int32.ofNat (n 0))), (0, .inr (.inr (.inl (some 259)))), (1, .inl (Int32.ofNat i))]) (S' := [.inl (Int32.ofNat 1), .inl (Int32.ofNat i), .inr (.inr (.inl (some 259)))]) (h' := h') (by with_unfolding_all rfl) ?_
  refine kc_call_rule (M2 := wk_m236) (av := [.inr (.inr (.inl (some 259))), .inl (Int32.ofNat i), .inl (Int32.ofNat 1)]) (r := []) rfl rfl (kc_Con_le (kv_num (d := 0) (x := n 1) hg hi (by decide) h12 en1) (by decide)) (fun rv h' hq => ?_)
  obtain ⟨rfl, rfl⟩ := hq
  show kc_Ev g 5 wk_m235 _ 13 [(2, .inl (Int32.ofNat (n 0))), (0, .inr (.inr (.inl (some 259)))), (1, .inl (Int32.ofNat i))] [.inl (Int32.ofNat (n 1))] h'
  refine kx_go 4 (pc' := 17) (L' := [(3, .inl (Int32.ofNat (n 1))), (2, .inl (Int32.ofNat (n 0))), (0, .inr (.inr (.inl (some 259)))), (1, .inl (Int32.ofNat i))]) (S' := [.inl (Int32.ofNat 2), .inl (Int32.ofNat i), .inr (.inr (.inl (some 259)))]) (h' := h') (by with_unfolding_all rfl) ?_
  refine kc_call_rule (M2 := wk_m236) (av := [.inr (.inr (.inl (some 259))), .inl (Int32.ofNat i), .inl (Int32.ofNat 2)]) (r := []) rfl rfl (kc_Con_le (kv_num (d := 0) (x := n 2) hg hi (by decide) h12 en2) (by decide)) (fun rv h' hq => ?_)
  obtain ⟨rfl, rfl⟩ := hq
  show kc_Ev g 5 wk_m235 _ 20 [(3, .inl (Int32.ofNat (n 1))), (2, .inl (Int32.ofNat (n 0))), (0, .inr (.inr (.inl (some 259)))), (1, .inl (Int32.ofNat i))] [.inl (Int32.ofNat (n 2))] h'
  refine kx_go 2 (pc' := 23) (L' := [(4, .inl (Int32.ofNat (n 2))), (3, .inl (Int32.ofNat (n 1))), (2, .inl (Int32.ofNat (n 0))), (0, .inr (.inr (.inl (some 259)))), (1, .inl (Int32.ofNat i))]) (S' := [.inr (.inr (.inl (some 259)))]) (h' := h') (by with_unfolding_all rfl) ?_
  refine kx_getf (c := 259) (v := .inr (.inr (.inl (some 264)))) rfl (by decide) h11 ?_
  refine kx_go 1 (pc' := 27) (L' := [(4, .inl (Int32.ofNat (n 2))), (3, .inl (Int32.ofNat (n 1))), (2, .inl (Int32.ofNat (n 0))), (0, .inr (.inr (.inl (some 259)))), (1, .inl (Int32.ofNat i))]) (S' := [.inl (Int32.ofNat i), .inr (.inr (.inl (some 264)))]) (h' := h') (by with_unfolding_all rfl) ?_
  refine kx_iald rfl (c := 264) (j := i) (m := 240) (v := .inl (Int32.ofNat 10)) rfl (by decide) (by decide) (by omega) ev ?_
  refine kx_go 1 (pc' := 76) (L' := [(4, .inl (Int32.ofNat (n 2))), (3, .inl (Int32.ofNat (n 1))), (2, .inl (Int32.ofNat (n 0))), (0, .inr (.inr (.inl (some 259)))), (1, .inl (Int32.ofNat i))]) (S' := []) (h' := h') (by with_unfolding_all rfl) ?_
  refine kx_go 4 (pc' := 81) (L' := [(4, .inl (Int32.ofNat (n 2))), (3, .inl (Int32.ofNat (n 1))), (2, .inl (Int32.ofNat (n 0))), (0, .inr (.inr (.inl (some 259)))), (1, .inl (Int32.ofNat i))]) (S' := [.inl (Int32.ofNat (n 2)), .inl (Int32.ofNat (n 1)), .inl (Int32.ofNat (n 0)), .inr (.inr (.inl (some 259)))]) (h' := h') (by with_unfolding_all rfl) ?_
  refine kc_call_rule (M2 := wk_m34) (av := [.inr (.inr (.inl (some 259))), .inl (Int32.ofNat (n 0)), .inl (Int32.ofNat (n 1)), .inl (Int32.ofNat (n 2))]) (r := []) rfl rfl (kc_Con_le (kv_rmule hg hw hC) (by decide)) (fun rv h2 hq => ?_)
  obtain ⟨r, rfl, hw2, hfr, hq⟩ := hq
  refine kc_ret_ok rfl (rv := some (.inl r)) rfl ⟨r, rfl, hw2, ?_, ?_⟩
  · exact kd_cvW_r [(260, 260, 1, 1), (260, 260, 60, 74)] (by decide) hfr
  · rcases hq with ⟨k, r0, e1⟩ | ⟨k, r0, rfl⟩
    · refine Or.inl ⟨D, M + 1, L, f, if_pos (by omega), r0, ⟨by omega, by omega, by omega, ?_, ?_, ?_⟩, fun i hi => ?_⟩
      · exact (kv_fr1 hfr (by decide)).trans eD
      · exact e1
      · exact (kv_fr1 hfr (by decide)).trans eL
      · exact ⟨(ef i hi).1, (kv_fr1 hfr ((show ∀ i, i < 6 → (([(260, 260, 1, 1), (260, 260, 60, 74)] : kd_W).all fun q => !kd_inr 260 q.1 q.2.1 (46 + i) q.2.2.1 q.2.2.2) = true from by decide) i hi)).trans (ef i hi).2⟩
    · exact Or.inr ⟨if_neg (by omega), r0⟩
set_option maxRecDepth 20000 in
theorem kv_item1 {g : kc_G} {h : kc_H} {i D M L : Nat} {f n : Nat → Nat} (hg : kc_ok g) (hw : kd_wt kd_ty h) (hi : i < 60) (hC : kv_Rs h D M L f) (ev : h 264 i = .inl (Int32.ofNat 11)) (en : ∀ k, k < 4 → h 265 (5 * i + k) = .inl (Int32.ofNat (n k)) ∧ n k < 1000) : kc_Con g 6 235 [.inr (.inr (.inl (some 259))), .inl (Int32.ofNat i)] h (kv_Pr h (kv_step 1 n D M L f)) := by
  obtain ⟨hC, ef⟩ := hC
  obtain ⟨hD, hM, hL, eD, eM, eL⟩ := hC
  have hC : kv_R h D M L := ⟨hD, hM, hL, eD, eM, eL⟩
  obtain ⟨en0, nb0⟩ := en 0 (by omega)
  have t0 : (Int32.ofNat (n 0)).toInt = n 0 := kx_ti (by omega)
  obtain ⟨en1, nb1⟩ := en 1 (by omega)
  have t1 : (Int32.ofNat (n 1)).toInt = n 1 := kx_ti (by omega)
  obtain ⟨en2, nb2⟩ := en 2 (by omega)
  have t2 : (Int32.ofNat (n 2)).toInt = n 2 := kx_ti (by omega)
  obtain ⟨en3, nb3⟩ := en 3 (by omega)
  have t3 : (Int32.ofNat (n 3)).toInt = n 3 := kx_ti (by omega)
  have h11 := kx_ofr (hw _ _ _ kv_kr.1)
  have h12 := kx_ofr (hw _ _ _ kv_kr.2)
  refine kc_Con_new hg (M := wk_m235) rfl rfl rfl (show 2 ≤ 5 by decide) ?_
  refine kx_go 3 (pc' := 3) (L' := [(0, .inr (.inr (.inl (some 259)))), (1, .inl (Int32.ofNat i))]) (S' := [.inl (Int32.ofNat 0), .inl (Int32.ofNat i), .inr (.inr (.inl (some 259)))]) (h' := h) (by with_unfolding_all rfl) ?_
  refine kc_call_rule (M2 := wk_m236) (av := [.inr (.inr (.inl (some 259))), .inl (Int32.ofNat i), .inl (Int32.ofNat 0)]) (r := []) rfl rfl (kc_Con_le (kv_num (d := 0) (x := n 0) hg hi (by decide) h12 en0) (by decide)) (fun rv h' hq => ?_)
  obtain ⟨rfl, rfl⟩ := hq
  show kc_Ev g 5 wk_m235 _ 6 [(0, .inr (.inr (.inl (some 259)))), (1, .inl (Int32.ofNat i))] [.inl (Int32.ofNat (n 0))] h'
  refine kx_go 4 (pc' := 10) (L' := [(2, .inl (Int32.ofNat (n 0))), (0, .inr (.inr (.inl (some 259)))), (1, .inl (Int32.ofNat i))]) (S' := [.inl (Int32.ofNat 1), .inl (Int32.ofNat i), .inr (.inr (.inl (some 259)))]) (h' := h') (by with_unfolding_all rfl) ?_
  refine kc_call_rule (M2 := wk_m236) (av := [.inr (.inr (.inl (some 259))), .inl (Int32.ofNat i), .inl (Int32.ofNat 1)]) (r := []) rfl rfl (kc_Con_le (kv_num (d := 0) (x := n 1) hg hi (by decide) h12 en1) (by decide)) (fun rv h' hq => ?_)
  obtain ⟨rfl, rfl⟩ := hq
  show kc_Ev g 5 wk_m235 _ 13 [(2, .inl (Int32.ofNat (n 0))), (0, .inr (.inr (.inl (some 259)))), (1, .inl (Int32.ofNat i))] [.inl (Int32.ofNat (n 1))] h'
  refine kx_go 4 (pc' := 17) (L' := [(3, .inl (Int32.ofNat (n 1))), (2, .inl (Int32.ofNat (n 0))), (0, .inr (.inr (.inl (some 259)))), (1, .inl (Int32.ofNat i))]) (S' := [.inl (Int32.ofNat 2), .inl (Int32.ofNat i), .inr (.inr (.inl (some 259)))]) (h' := h') (by with_unfolding_all rfl) ?_
  refine kc_call_rule (M2 := wk_m236) (av := [.inr (.inr (.inl (some 259))), .inl (Int32.ofNat i), .inl (Int32.ofNat 2)]) (r := []) rfl rfl (kc_Con_le (kv_num (d := 0) (x := n 2) hg hi (by decide) h12 en2) (by decide)) (fun rv h' hq => ?_)
  obtain ⟨rfl, rfl⟩ := hq
  show kc_Ev g 5 wk_m235 _ 20 [(3, .inl (Int32.ofNat (n 1))), (2, .inl (Int32.ofNat (n 0))), (0, .inr (.inr (.inl (some 259)))), (1, .inl (Int32.ofNat i))] [.inl (Int32.ofNat (n 2))] h'
  refine kx_go 2 (pc' := 23) (L' := [(4, .inl (Int32.ofNat (n 2))), (3, .inl (Int32.ofNat (n 1))), (2, .inl (Int32.ofNat (n 0))), (0, .inr (.inr (.inl (some 259)))), (1, .inl (Int32.ofNat i))]) (S' := [.inr (.inr (.inl (some 259)))]) (h' := h') (by with_unfolding_all rfl) ?_
  refine kx_getf (c := 259) (v := .inr (.inr (.inl (some 264)))) rfl (by decide) h11 ?_
  refine kx_go 1 (pc' := 27) (L' := [(4, .inl (Int32.ofNat (n 2))), (3, .inl (Int32.ofNat (n 1))), (2, .inl (Int32.ofNat (n 0))), (0, .inr (.inr (.inl (some 259)))), (1, .inl (Int32.ofNat i))]) (S' := [.inl (Int32.ofNat i), .inr (.inr (.inl (some 264)))]) (h' := h') (by with_unfolding_all rfl) ?_
  refine kx_iald rfl (c := 264) (j := i) (m := 240) (v := .inl (Int32.ofNat 11)) rfl (by decide) (by decide) (by omega) ev ?_
  refine kx_go 1 (pc' := 85) (L' := [(4, .inl (Int32.ofNat (n 2))), (3, .inl (Int32.ofNat (n 1))), (2, .inl (Int32.ofNat (n 0))), (0, .inr (.inr (.inl (some 259)))), (1, .inl (Int32.ofNat i))]) (S' := []) (h' := h') (by with_unfolding_all rfl) ?_
  refine kx_go 7 (pc' := 93) (L' := [(4, .inl (Int32.ofNat (n 2))), (3, .inl (Int32.ofNat (n 1))), (2, .inl (Int32.ofNat (n 0))), (0, .inr (.inr (.inl (some 259)))), (1, .inl (Int32.ofNat i))]) (S' := [.inl (Int32.ofNat 3), .inl (Int32.ofNat i), .inr (.inr (.inl (some 259))), .inl (Int32.ofNat (n 2)), .inl (Int32.ofNat (n 1)), .inl (Int32.ofNat (n 0)), .inr (.inr (.inl (some 259)))]) (h' := h') (by with_unfolding_all rfl) ?_
  refine kc_call_rule (M2 := wk_m236) (av := [.inr (.inr (.inl (some 259))), .inl (Int32.ofNat i), .inl (Int32.ofNat 3)]) (r := [.inl (Int32.ofNat (n 2)), .inl (Int32.ofNat (n 1)), .inl (Int32.ofNat (n 0)), .inr (.inr (.inl (some 259)))]) rfl rfl (kc_Con_le (kv_num (d := 0) (x := n 3) hg hi (by decide) h12 en3) (by decide)) (fun rv h' hq => ?_)
  obtain ⟨rfl, rfl⟩ := hq
  show kc_Ev g 5 wk_m235 _ 96 [(4, .inl (Int32.ofNat (n 2))), (3, .inl (Int32.ofNat (n 1))), (2, .inl (Int32.ofNat (n 0))), (0, .inr (.inr (.inl (some 259)))), (1, .inl (Int32.ofNat i))] [.inl (Int32.ofNat (n 3)), .inl (Int32.ofNat (n 2)), .inl (Int32.ofNat (n 1)), .inl (Int32.ofNat (n 0)), .inr (.inr (.inl (some 259)))] h'
  refine kc_call_rule (M2 := wk_m43) (av := [.inr (.inr (.inl (some 259))), .inl (Int32.ofNat (n 0)), .inl (Int32.ofNat (n 1)), .inl (Int32.ofNat (n 2)), .inl (Int32.ofNat (n 3))]) (r := []) rfl rfl (kc_Con_le (kv_rload hg hw hC) (by decide)) (fun rv h2 hq => ?_)
  obtain ⟨r, rfl, hw2, hfr, hq⟩ := hq
  refine kc_ret_ok rfl (rv := some (.inl r)) rfl ⟨r, rfl, hw2, ?_, ?_⟩
  · exact kd_cvW_r [(260, 260, 2, 2), (260, 260, 80, 149)] (by decide) hfr
  · rcases hq with ⟨k, r0, e1⟩ | ⟨k, r0, rfl⟩
    · refine Or.inl ⟨D, M, L + 1, f, if_pos (by omega), r0, ⟨by omega, by omega, by omega, ?_, ?_, ?_⟩, fun i hi => ?_⟩
      · exact (kv_fr1 hfr (by decide)).trans eD
      · exact (kv_fr1 hfr (by decide)).trans eM
      · exact e1
      · exact ⟨(ef i hi).1, (kv_fr1 hfr ((show ∀ i, i < 6 → (([(260, 260, 2, 2), (260, 260, 80, 149)] : kd_W).all fun q => !kd_inr 260 q.1 q.2.1 (46 + i) q.2.2.1 q.2.2.2) = true from by decide) i hi)).trans (ef i hi).2⟩
    · exact Or.inr ⟨if_neg (by omega), r0⟩
set_option maxRecDepth 20000 in
theorem kv_item2 {g : kc_G} {h : kc_H} {i D M L : Nat} {f n : Nat → Nat} (hg : kc_ok g) (hw : kd_wt kd_ty h) (hi : i < 60) (hC : kv_Rs h D M L f) (ev : h 264 i = .inl (Int32.ofNat 12)) (en : ∀ k, k < 4 → h 265 (5 * i + k) = .inl (Int32.ofNat (n k)) ∧ n k < 1000) : kc_Con g 6 235 [.inr (.inr (.inl (some 259))), .inl (Int32.ofNat i)] h (kv_Pr h (kv_step 2 n D M L f)) := by
  obtain ⟨hC, ef⟩ := hC
  obtain ⟨hD, hM, hL, eD, eM, eL⟩ := hC
  have hC : kv_R h D M L := ⟨hD, hM, hL, eD, eM, eL⟩
  obtain ⟨en0, nb0⟩ := en 0 (by omega)
  have t0 : (Int32.ofNat (n 0)).toInt = n 0 := kx_ti (by omega)
  obtain ⟨en1, nb1⟩ := en 1 (by omega)
  have t1 : (Int32.ofNat (n 1)).toInt = n 1 := kx_ti (by omega)
  obtain ⟨en2, nb2⟩ := en 2 (by omega)
  have t2 : (Int32.ofNat (n 2)).toInt = n 2 := kx_ti (by omega)
  obtain ⟨en3, nb3⟩ := en 3 (by omega)
  have t3 : (Int32.ofNat (n 3)).toInt = n 3 := kx_ti (by omega)
  have h11 := kx_ofr (hw _ _ _ kv_kr.1)
  have h12 := kx_ofr (hw _ _ _ kv_kr.2)
  refine kc_Con_new hg (M := wk_m235) rfl rfl rfl (show 2 ≤ 5 by decide) ?_
  refine kx_go 3 (pc' := 3) (L' := [(0, .inr (.inr (.inl (some 259)))), (1, .inl (Int32.ofNat i))]) (S' := [.inl (Int32.ofNat 0), .inl (Int32.ofNat i), .inr (.inr (.inl (some 259)))]) (h' := h) (by with_unfolding_all rfl) ?_
  refine kc_call_rule (M2 := wk_m236) (av := [.inr (.inr (.inl (some 259))), .inl (Int32.ofNat i), .inl (Int32.ofNat 0)]) (r := []) rfl rfl (kc_Con_le (kv_num (d := 0) (x := n 0) hg hi (by decide) h12 en0) (by decide)) (fun rv h' hq => ?_)
  obtain ⟨rfl, rfl⟩ := hq
  show kc_Ev g 5 wk_m235 _ 6 [(0, .inr (.inr (.inl (some 259)))), (1, .inl (Int32.ofNat i))] [.inl (Int32.ofNat (n 0))] h'
  refine kx_go 4 (pc' := 10) (L' := [(2, .inl (Int32.ofNat (n 0))), (0, .inr (.inr (.inl (some 259)))), (1, .inl (Int32.ofNat i))]) (S' := [.inl (Int32.ofNat 1), .inl (Int32.ofNat i), .inr (.inr (.inl (some 259)))]) (h' := h') (by with_unfolding_all rfl) ?_
  refine kc_call_rule (M2 := wk_m236) (av := [.inr (.inr (.inl (some 259))), .inl (Int32.ofNat i), .inl (Int32.ofNat 1)]) (r := []) rfl rfl (kc_Con_le (kv_num (d := 0) (x := n 1) hg hi (by decide) h12 en1) (by decide)) (fun rv h' hq => ?_)
  obtain ⟨rfl, rfl⟩ := hq
  show kc_Ev g 5 wk_m235 _ 13 [(2, .inl (Int32.ofNat (n 0))), (0, .inr (.inr (.inl (some 259)))), (1, .inl (Int32.ofNat i))] [.inl (Int32.ofNat (n 1))] h'
  refine kx_go 4 (pc' := 17) (L' := [(3, .inl (Int32.ofNat (n 1))), (2, .inl (Int32.ofNat (n 0))), (0, .inr (.inr (.inl (some 259)))), (1, .inl (Int32.ofNat i))]) (S' := [.inl (Int32.ofNat 2), .inl (Int32.ofNat i), .inr (.inr (.inl (some 259)))]) (h' := h') (by with_unfolding_all rfl) ?_
  refine kc_call_rule (M2 := wk_m236) (av := [.inr (.inr (.inl (some 259))), .inl (Int32.ofNat i), .inl (Int32.ofNat 2)]) (r := []) rfl rfl (kc_Con_le (kv_num (d := 0) (x := n 2) hg hi (by decide) h12 en2) (by decide)) (fun rv h' hq => ?_)
  obtain ⟨rfl, rfl⟩ := hq
  show kc_Ev g 5 wk_m235 _ 20 [(3, .inl (Int32.ofNat (n 1))), (2, .inl (Int32.ofNat (n 0))), (0, .inr (.inr (.inl (some 259)))), (1, .inl (Int32.ofNat i))] [.inl (Int32.ofNat (n 2))] h'
  refine kx_go 2 (pc' := 23) (L' := [(4, .inl (Int32.ofNat (n 2))), (3, .inl (Int32.ofNat (n 1))), (2, .inl (Int32.ofNat (n 0))), (0, .inr (.inr (.inl (some 259)))), (1, .inl (Int32.ofNat i))]) (S' := [.inr (.inr (.inl (some 259)))]) (h' := h') (by with_unfolding_all rfl) ?_
  refine kx_getf (c := 259) (v := .inr (.inr (.inl (some 264)))) rfl (by decide) h11 ?_
  refine kx_go 1 (pc' := 27) (L' := [(4, .inl (Int32.ofNat (n 2))), (3, .inl (Int32.ofNat (n 1))), (2, .inl (Int32.ofNat (n 0))), (0, .inr (.inr (.inl (some 259)))), (1, .inl (Int32.ofNat i))]) (S' := [.inl (Int32.ofNat i), .inr (.inr (.inl (some 264)))]) (h' := h') (by with_unfolding_all rfl) ?_
  refine kx_iald rfl (c := 264) (j := i) (m := 240) (v := .inl (Int32.ofNat 12)) rfl (by decide) (by decide) (by omega) ev ?_
  refine kx_go 1 (pc' := 100) (L' := [(4, .inl (Int32.ofNat (n 2))), (3, .inl (Int32.ofNat (n 1))), (2, .inl (Int32.ofNat (n 0))), (0, .inr (.inr (.inl (some 259)))), (1, .inl (Int32.ofNat i))]) (S' := []) (h' := h') (by with_unfolding_all rfl) ?_
  refine kx_go 1 (pc' := 101) (L' := [(4, .inl (Int32.ofNat (n 2))), (3, .inl (Int32.ofNat (n 1))), (2, .inl (Int32.ofNat (n 0))), (0, .inr (.inr (.inl (some 259)))), (1, .inl (Int32.ofNat i))]) (S' := [.inr (.inr (.inl (some 259)))]) (h' := h') (by with_unfolding_all rfl) ?_
  refine kc_call_rule (M2 := wk_m15) (av := [.inr (.inr (.inl (some 259)))]) (r := []) rfl rfl (kc_Con_le (kv_rdoor hg hw hC) (by decide)) (fun rv h2 hq => ?_)
  obtain ⟨r, rfl, hw2, hfr, hq⟩ := hq
  refine kc_ret_ok rfl (rv := some (.inl r)) rfl ⟨r, rfl, hw2, ?_, ?_⟩
  · exact kd_cvW_r [(260, 260, 0, 0)] (by decide) hfr
  · rcases hq with ⟨k, rfl, e1⟩ | ⟨k, rfl, rfl⟩
    · refine Or.inl ⟨D + 1, M, L, f, if_pos (by omega), (by rw [kx_ti (by omega)]; omega), ⟨by omega, by omega, by omega, ?_, ?_, ?_⟩, fun i hi => ?_⟩
      · exact e1
      · exact (kv_fr1 hfr (by decide)).trans eM
      · exact (kv_fr1 hfr (by decide)).trans eL
      · exact ⟨(ef i hi).1, (kv_fr1 hfr ((show ∀ i, i < 6 → (([(260, 260, 0, 0)] : kd_W).all fun q => !kd_inr 260 q.1 q.2.1 (46 + i) q.2.2.1 q.2.2.2) = true from by decide) i hi)).trans (ef i hi).2⟩
    · exact Or.inr ⟨if_neg (by omega), by decide⟩
set_option maxRecDepth 20000 in
theorem kv_item3 {g : kc_G} {h : kc_H} {i D M L : Nat} {f n : Nat → Nat} (hg : kc_ok g) (hw : kd_wt kd_ty h) (hi : i < 60) (hC : kv_Rs h D M L f) (ev : h 264 i = .inl (Int32.ofNat 13)) (en : ∀ k, k < 4 → h 265 (5 * i + k) = .inl (Int32.ofNat (n k)) ∧ n k < 1000) : kc_Con g 6 235 [.inr (.inr (.inl (some 259))), .inl (Int32.ofNat i)] h (kv_Pr h (kv_step 3 n D M L f)) := by
  obtain ⟨hC, ef⟩ := hC
  obtain ⟨hD, hM, hL, eD, eM, eL⟩ := hC
  have hC : kv_R h D M L := ⟨hD, hM, hL, eD, eM, eL⟩
  obtain ⟨en0, nb0⟩ := en 0 (by omega)
  have t0 : (Int32.ofNat (n 0)).toInt = n 0 := kx_ti (by omega)
  obtain ⟨en1, nb1⟩ := en 1 (by omega)
  have t1 : (Int32.ofNat (n 1)).toInt = n 1 := kx_ti (by omega)
  obtain ⟨en2, nb2⟩ := en 2 (by omega)
  have t2 : (Int32.ofNat (n 2)).toInt = n 2 := kx_ti (by omega)
  obtain ⟨en3, nb3⟩ := en 3 (by omega)
  have t3 : (Int32.ofNat (n 3)).toInt = n 3 := kx_ti (by omega)
  have h11 := kx_ofr (hw _ _ _ kv_kr.1)
  have h12 := kx_ofr (hw _ _ _ kv_kr.2)
  refine kc_Con_new hg (M := wk_m235) rfl rfl rfl (show 2 ≤ 5 by decide) ?_
  refine kx_go 3 (pc' := 3) (L' := [(0, .inr (.inr (.inl (some 259)))), (1, .inl (Int32.ofNat i))]) (S' := [.inl (Int32.ofNat 0), .inl (Int32.ofNat i), .inr (.inr (.inl (some 259)))]) (h' := h) (by with_unfolding_all rfl) ?_
  refine kc_call_rule (M2 := wk_m236) (av := [.inr (.inr (.inl (some 259))), .inl (Int32.ofNat i), .inl (Int32.ofNat 0)]) (r := []) rfl rfl (kc_Con_le (kv_num (d := 0) (x := n 0) hg hi (by decide) h12 en0) (by decide)) (fun rv h' hq => ?_)
  obtain ⟨rfl, rfl⟩ := hq
  show kc_Ev g 5 wk_m235 _ 6 [(0, .inr (.inr (.inl (some 259)))), (1, .inl (Int32.ofNat i))] [.inl (Int32.ofNat (n 0))] h'
  refine kx_go 4 (pc' := 10) (L' := [(2, .inl (Int32.ofNat (n 0))), (0, .inr (.inr (.inl (some 259)))), (1, .inl (Int32.ofNat i))]) (S' := [.inl (Int32.ofNat 1), .inl (Int32.ofNat i), .inr (.inr (.inl (some 259)))]) (h' := h') (by with_unfolding_all rfl) ?_
  refine kc_call_rule (M2 := wk_m236) (av := [.inr (.inr (.inl (some 259))), .inl (Int32.ofNat i), .inl (Int32.ofNat 1)]) (r := []) rfl rfl (kc_Con_le (kv_num (d := 0) (x := n 1) hg hi (by decide) h12 en1) (by decide)) (fun rv h' hq => ?_)
  obtain ⟨rfl, rfl⟩ := hq
  show kc_Ev g 5 wk_m235 _ 13 [(2, .inl (Int32.ofNat (n 0))), (0, .inr (.inr (.inl (some 259)))), (1, .inl (Int32.ofNat i))] [.inl (Int32.ofNat (n 1))] h'
  refine kx_go 4 (pc' := 17) (L' := [(3, .inl (Int32.ofNat (n 1))), (2, .inl (Int32.ofNat (n 0))), (0, .inr (.inr (.inl (some 259)))), (1, .inl (Int32.ofNat i))]) (S' := [.inl (Int32.ofNat 2), .inl (Int32.ofNat i), .inr (.inr (.inl (some 259)))]) (h' := h') (by with_unfolding_all rfl) ?_
  refine kc_call_rule (M2 := wk_m236) (av := [.inr (.inr (.inl (some 259))), .inl (Int32.ofNat i), .inl (Int32.ofNat 2)]) (r := []) rfl rfl (kc_Con_le (kv_num (d := 0) (x := n 2) hg hi (by decide) h12 en2) (by decide)) (fun rv h' hq => ?_)
  obtain ⟨rfl, rfl⟩ := hq
  show kc_Ev g 5 wk_m235 _ 20 [(3, .inl (Int32.ofNat (n 1))), (2, .inl (Int32.ofNat (n 0))), (0, .inr (.inr (.inl (some 259)))), (1, .inl (Int32.ofNat i))] [.inl (Int32.ofNat (n 2))] h'
  refine kx_go 2 (pc' := 23) (L' := [(4, .inl (Int32.ofNat (n 2))), (3, .inl (Int32.ofNat (n 1))), (2, .inl (Int32.ofNat (n 0))), (0, .inr (.inr (.inl (some 259)))), (1, .inl (Int32.ofNat i))]) (S' := [.inr (.inr (.inl (some 259)))]) (h' := h') (by with_unfolding_all rfl) ?_
  refine kx_getf (c := 259) (v := .inr (.inr (.inl (some 264)))) rfl (by decide) h11 ?_
  refine kx_go 1 (pc' := 27) (L' := [(4, .inl (Int32.ofNat (n 2))), (3, .inl (Int32.ofNat (n 1))), (2, .inl (Int32.ofNat (n 0))), (0, .inr (.inr (.inl (some 259)))), (1, .inl (Int32.ofNat i))]) (S' := [.inl (Int32.ofNat i), .inr (.inr (.inl (some 264)))]) (h' := h') (by with_unfolding_all rfl) ?_
  refine kx_iald rfl (c := 264) (j := i) (m := 240) (v := .inl (Int32.ofNat 13)) rfl (by decide) (by decide) (by omega) ev ?_
  refine kx_go 1 (pc' := 105) (L' := [(4, .inl (Int32.ofNat (n 2))), (3, .inl (Int32.ofNat (n 1))), (2, .inl (Int32.ofNat (n 0))), (0, .inr (.inr (.inl (some 259)))), (1, .inl (Int32.ofNat i))]) (S' := []) (h' := h') (by with_unfolding_all rfl) ?_
  refine kx_go 4 (pc' := 110) (L' := [(4, .inl (Int32.ofNat (n 2))), (3, .inl (Int32.ofNat (n 1))), (2, .inl (Int32.ofNat (n 0))), (0, .inr (.inr (.inl (some 259)))), (1, .inl (Int32.ofNat i))]) (S' := [.inl (Int32.ofNat (n 2)), .inl (Int32.ofNat (n 1)), .inl (Int32.ofNat (n 0)), .inr (.inr (.inl (some 259)))]) (h' := h') (by with_unfolding_all rfl) ?_
  refine kc_call_rule (M2 := wk_m20) (av := [.inr (.inr (.inl (some 259))), .inl (Int32.ofNat (n 0)), .inl (Int32.ofNat (n 1)), .inl (Int32.ofNat (n 2))]) (r := []) rfl rfl (kc_Con_le (kv_rway hg hw hC) (by decide)) (fun rv h2 hq => ?_)
  obtain ⟨r, rfl, hw2, hfr, hq⟩ := hq
  refine kc_ret_ok rfl (rv := some (.inl r)) rfl ⟨r, rfl, hw2, ?_, ?_⟩
  · exact kd_cvW_r [(260, 260, 10, 45)] (by decide) hfr
  · rcases hq with ⟨k, r0⟩ | ⟨k, r0, rfl⟩
    · refine Or.inl ⟨D, M, L, f, if_pos (by omega), r0, ⟨by omega, by omega, by omega, ?_, ?_, ?_⟩, fun i hi => ?_⟩
      · exact (kv_fr1 hfr (by decide)).trans eD
      · exact (kv_fr1 hfr (by decide)).trans eM
      · exact (kv_fr1 hfr (by decide)).trans eL
      · exact ⟨(ef i hi).1, (kv_fr1 hfr ((show ∀ i, i < 6 → (([(260, 260, 10, 45)] : kd_W).all fun q => !kd_inr 260 q.1 q.2.1 (46 + i) q.2.2.1 q.2.2.2) = true from by decide) i hi)).trans (ef i hi).2⟩
    · exact Or.inr ⟨if_neg (by omega), r0⟩
set_option maxRecDepth 20000 in
theorem kv_item4 {g : kc_G} {h : kc_H} {i D M L : Nat} {f n : Nat → Nat} (hg : kc_ok g) (hw : kd_wt kd_ty h) (hi : i < 60) (hC : kv_Rs h D M L f) (ev : h 264 i = .inl (Int32.ofNat 14)) (en : ∀ k, k < 4 → h 265 (5 * i + k) = .inl (Int32.ofNat (n k)) ∧ n k < 1000) : kc_Con g 6 235 [.inr (.inr (.inl (some 259))), .inl (Int32.ofNat i)] h (kv_Pr h (kv_step 4 n D M L f)) := by
  obtain ⟨hC, ef⟩ := hC
  obtain ⟨hD, hM, hL, eD, eM, eL⟩ := hC
  have hC : kv_R h D M L := ⟨hD, hM, hL, eD, eM, eL⟩
  obtain ⟨en0, nb0⟩ := en 0 (by omega)
  have t0 : (Int32.ofNat (n 0)).toInt = n 0 := kx_ti (by omega)
  obtain ⟨en1, nb1⟩ := en 1 (by omega)
  have t1 : (Int32.ofNat (n 1)).toInt = n 1 := kx_ti (by omega)
  obtain ⟨en2, nb2⟩ := en 2 (by omega)
  have t2 : (Int32.ofNat (n 2)).toInt = n 2 := kx_ti (by omega)
  obtain ⟨en3, nb3⟩ := en 3 (by omega)
  have t3 : (Int32.ofNat (n 3)).toInt = n 3 := kx_ti (by omega)
  have h11 := kx_ofr (hw _ _ _ kv_kr.1)
  have h12 := kx_ofr (hw _ _ _ kv_kr.2)
  refine kc_Con_new hg (M := wk_m235) rfl rfl rfl (show 2 ≤ 5 by decide) ?_
  refine kx_go 3 (pc' := 3) (L' := [(0, .inr (.inr (.inl (some 259)))), (1, .inl (Int32.ofNat i))]) (S' := [.inl (Int32.ofNat 0), .inl (Int32.ofNat i), .inr (.inr (.inl (some 259)))]) (h' := h) (by with_unfolding_all rfl) ?_
  refine kc_call_rule (M2 := wk_m236) (av := [.inr (.inr (.inl (some 259))), .inl (Int32.ofNat i), .inl (Int32.ofNat 0)]) (r := []) rfl rfl (kc_Con_le (kv_num (d := 0) (x := n 0) hg hi (by decide) h12 en0) (by decide)) (fun rv h' hq => ?_)
  obtain ⟨rfl, rfl⟩ := hq
  show kc_Ev g 5 wk_m235 _ 6 [(0, .inr (.inr (.inl (some 259)))), (1, .inl (Int32.ofNat i))] [.inl (Int32.ofNat (n 0))] h'
  refine kx_go 4 (pc' := 10) (L' := [(2, .inl (Int32.ofNat (n 0))), (0, .inr (.inr (.inl (some 259)))), (1, .inl (Int32.ofNat i))]) (S' := [.inl (Int32.ofNat 1), .inl (Int32.ofNat i), .inr (.inr (.inl (some 259)))]) (h' := h') (by with_unfolding_all rfl) ?_
  refine kc_call_rule (M2 := wk_m236) (av := [.inr (.inr (.inl (some 259))), .inl (Int32.ofNat i), .inl (Int32.ofNat 1)]) (r := []) rfl rfl (kc_Con_le (kv_num (d := 0) (x := n 1) hg hi (by decide) h12 en1) (by decide)) (fun rv h' hq => ?_)
  obtain ⟨rfl, rfl⟩ := hq
  show kc_Ev g 5 wk_m235 _ 13 [(2, .inl (Int32.ofNat (n 0))), (0, .inr (.inr (.inl (some 259)))), (1, .inl (Int32.ofNat i))] [.inl (Int32.ofNat (n 1))] h'
  refine kx_go 4 (pc' := 17) (L' := [(3, .inl (Int32.ofNat (n 1))), (2, .inl (Int32.ofNat (n 0))), (0, .inr (.inr (.inl (some 259)))), (1, .inl (Int32.ofNat i))]) (S' := [.inl (Int32.ofNat 2), .inl (Int32.ofNat i), .inr (.inr (.inl (some 259)))]) (h' := h') (by with_unfolding_all rfl) ?_
  refine kc_call_rule (M2 := wk_m236) (av := [.inr (.inr (.inl (some 259))), .inl (Int32.ofNat i), .inl (Int32.ofNat 2)]) (r := []) rfl rfl (kc_Con_le (kv_num (d := 0) (x := n 2) hg hi (by decide) h12 en2) (by decide)) (fun rv h' hq => ?_)
  obtain ⟨rfl, rfl⟩ := hq
  show kc_Ev g 5 wk_m235 _ 20 [(3, .inl (Int32.ofNat (n 1))), (2, .inl (Int32.ofNat (n 0))), (0, .inr (.inr (.inl (some 259)))), (1, .inl (Int32.ofNat i))] [.inl (Int32.ofNat (n 2))] h'
  refine kx_go 2 (pc' := 23) (L' := [(4, .inl (Int32.ofNat (n 2))), (3, .inl (Int32.ofNat (n 1))), (2, .inl (Int32.ofNat (n 0))), (0, .inr (.inr (.inl (some 259)))), (1, .inl (Int32.ofNat i))]) (S' := [.inr (.inr (.inl (some 259)))]) (h' := h') (by with_unfolding_all rfl) ?_
  refine kx_getf (c := 259) (v := .inr (.inr (.inl (some 264)))) rfl (by decide) h11 ?_
  refine kx_go 1 (pc' := 27) (L' := [(4, .inl (Int32.ofNat (n 2))), (3, .inl (Int32.ofNat (n 1))), (2, .inl (Int32.ofNat (n 0))), (0, .inr (.inr (.inl (some 259)))), (1, .inl (Int32.ofNat i))]) (S' := [.inl (Int32.ofNat i), .inr (.inr (.inl (some 264)))]) (h' := h') (by with_unfolding_all rfl) ?_
  refine kx_iald rfl (c := 264) (j := i) (m := 240) (v := .inl (Int32.ofNat 14)) rfl (by decide) (by decide) (by omega) ev ?_
  refine kx_go 1 (pc' := 114) (L' := [(4, .inl (Int32.ofNat (n 2))), (3, .inl (Int32.ofNat (n 1))), (2, .inl (Int32.ofNat (n 0))), (0, .inr (.inr (.inl (some 259)))), (1, .inl (Int32.ofNat i))]) (S' := []) (h' := h') (by with_unfolding_all rfl) ?_
  refine kx_go 4 (pc' := 119) (L' := [(4, .inl (Int32.ofNat (n 2))), (3, .inl (Int32.ofNat (n 1))), (2, .inl (Int32.ofNat (n 0))), (0, .inr (.inr (.inl (some 259)))), (1, .inl (Int32.ofNat i))]) (S' := [.inl (Int32.ofNat (n 2)), .inl (Int32.ofNat (n 1)), .inl (Int32.ofNat (n 0)), .inr (.inr (.inl (some 259)))]) (h' := h') (by with_unfolding_all rfl) ?_
  refine kc_call_rule (M2 := wk_m39) (av := [.inr (.inr (.inl (some 259))), .inl (Int32.ofNat (n 0)), .inl (Int32.ofNat (n 1)), .inl (Int32.ofNat (n 2))]) (r := []) rfl rfl (kc_Con_le (kv_rlame hg hw hC) (by decide)) (fun rv h2 hq => ?_)
  obtain ⟨r, rfl, hw2, hfr, hq⟩ := hq
  refine kc_ret_ok rfl (rv := some (.inl r)) rfl ⟨r, rfl, hw2, ?_, ?_⟩
  · exact kd_cvW_r [(260, 260, 60, 74)] (by decide) hfr
  · rcases hq with ⟨k, r0⟩ | ⟨k, r0, rfl⟩
    · refine Or.inl ⟨D, M, L, f, if_pos (by omega), r0, ⟨by omega, by omega, by omega, ?_, ?_, ?_⟩, fun i hi => ?_⟩
      · exact (kv_fr1 hfr (by decide)).trans eD
      · exact (kv_fr1 hfr (by decide)).trans eM
      · exact (kv_fr1 hfr (by decide)).trans eL
      · exact ⟨(ef i hi).1, (kv_fr1 hfr ((show ∀ i, i < 6 → (([(260, 260, 60, 74)] : kd_W).all fun q => !kd_inr 260 q.1 q.2.1 (46 + i) q.2.2.1 q.2.2.2) = true from by decide) i hi)).trans (ef i hi).2⟩
    · exact Or.inr ⟨if_neg (by omega), r0⟩
set_option maxRecDepth 20000 in
theorem kv_item5 {g : kc_G} {h : kc_H} {i D M L : Nat} {f n : Nat → Nat} (hg : kc_ok g) (hw : kd_wt kd_ty h) (hi : i < 60) (hC : kv_Rs h D M L f) (ev : h 264 i = .inl (Int32.ofNat 15)) (en : ∀ k, k < 4 → h 265 (5 * i + k) = .inl (Int32.ofNat (n k)) ∧ n k < 1000) : kc_Con g 6 235 [.inr (.inr (.inl (some 259))), .inl (Int32.ofNat i)] h (kv_Pr h (kv_step 5 n D M L f)) := by
  obtain ⟨hC, ef⟩ := hC
  obtain ⟨hD, hM, hL, eD, eM, eL⟩ := hC
  have hC : kv_R h D M L := ⟨hD, hM, hL, eD, eM, eL⟩
  obtain ⟨en0, nb0⟩ := en 0 (by omega)
  have t0 : (Int32.ofNat (n 0)).toInt = n 0 := kx_ti (by omega)
  obtain ⟨en1, nb1⟩ := en 1 (by omega)
  have t1 : (Int32.ofNat (n 1)).toInt = n 1 := kx_ti (by omega)
  obtain ⟨en2, nb2⟩ := en 2 (by omega)
  have t2 : (Int32.ofNat (n 2)).toInt = n 2 := kx_ti (by omega)
  obtain ⟨en3, nb3⟩ := en 3 (by omega)
  have t3 : (Int32.ofNat (n 3)).toInt = n 3 := kx_ti (by omega)
  have h11 := kx_ofr (hw _ _ _ kv_kr.1)
  have h12 := kx_ofr (hw _ _ _ kv_kr.2)
  refine kc_Con_new hg (M := wk_m235) rfl rfl rfl (show 2 ≤ 5 by decide) ?_
  refine kx_go 3 (pc' := 3) (L' := [(0, .inr (.inr (.inl (some 259)))), (1, .inl (Int32.ofNat i))]) (S' := [.inl (Int32.ofNat 0), .inl (Int32.ofNat i), .inr (.inr (.inl (some 259)))]) (h' := h) (by with_unfolding_all rfl) ?_
  refine kc_call_rule (M2 := wk_m236) (av := [.inr (.inr (.inl (some 259))), .inl (Int32.ofNat i), .inl (Int32.ofNat 0)]) (r := []) rfl rfl (kc_Con_le (kv_num (d := 0) (x := n 0) hg hi (by decide) h12 en0) (by decide)) (fun rv h' hq => ?_)
  obtain ⟨rfl, rfl⟩ := hq
  show kc_Ev g 5 wk_m235 _ 6 [(0, .inr (.inr (.inl (some 259)))), (1, .inl (Int32.ofNat i))] [.inl (Int32.ofNat (n 0))] h'
  refine kx_go 4 (pc' := 10) (L' := [(2, .inl (Int32.ofNat (n 0))), (0, .inr (.inr (.inl (some 259)))), (1, .inl (Int32.ofNat i))]) (S' := [.inl (Int32.ofNat 1), .inl (Int32.ofNat i), .inr (.inr (.inl (some 259)))]) (h' := h') (by with_unfolding_all rfl) ?_
  refine kc_call_rule (M2 := wk_m236) (av := [.inr (.inr (.inl (some 259))), .inl (Int32.ofNat i), .inl (Int32.ofNat 1)]) (r := []) rfl rfl (kc_Con_le (kv_num (d := 0) (x := n 1) hg hi (by decide) h12 en1) (by decide)) (fun rv h' hq => ?_)
  obtain ⟨rfl, rfl⟩ := hq
  show kc_Ev g 5 wk_m235 _ 13 [(2, .inl (Int32.ofNat (n 0))), (0, .inr (.inr (.inl (some 259)))), (1, .inl (Int32.ofNat i))] [.inl (Int32.ofNat (n 1))] h'
  refine kx_go 4 (pc' := 17) (L' := [(3, .inl (Int32.ofNat (n 1))), (2, .inl (Int32.ofNat (n 0))), (0, .inr (.inr (.inl (some 259)))), (1, .inl (Int32.ofNat i))]) (S' := [.inl (Int32.ofNat 2), .inl (Int32.ofNat i), .inr (.inr (.inl (some 259)))]) (h' := h') (by with_unfolding_all rfl) ?_
  refine kc_call_rule (M2 := wk_m236) (av := [.inr (.inr (.inl (some 259))), .inl (Int32.ofNat i), .inl (Int32.ofNat 2)]) (r := []) rfl rfl (kc_Con_le (kv_num (d := 0) (x := n 2) hg hi (by decide) h12 en2) (by decide)) (fun rv h' hq => ?_)
  obtain ⟨rfl, rfl⟩ := hq
  show kc_Ev g 5 wk_m235 _ 20 [(3, .inl (Int32.ofNat (n 1))), (2, .inl (Int32.ofNat (n 0))), (0, .inr (.inr (.inl (some 259)))), (1, .inl (Int32.ofNat i))] [.inl (Int32.ofNat (n 2))] h'
  refine kx_go 2 (pc' := 23) (L' := [(4, .inl (Int32.ofNat (n 2))), (3, .inl (Int32.ofNat (n 1))), (2, .inl (Int32.ofNat (n 0))), (0, .inr (.inr (.inl (some 259)))), (1, .inl (Int32.ofNat i))]) (S' := [.inr (.inr (.inl (some 259)))]) (h' := h') (by with_unfolding_all rfl) ?_
  refine kx_getf (c := 259) (v := .inr (.inr (.inl (some 264)))) rfl (by decide) h11 ?_
  refine kx_go 1 (pc' := 27) (L' := [(4, .inl (Int32.ofNat (n 2))), (3, .inl (Int32.ofNat (n 1))), (2, .inl (Int32.ofNat (n 0))), (0, .inr (.inr (.inl (some 259)))), (1, .inl (Int32.ofNat i))]) (S' := [.inl (Int32.ofNat i), .inr (.inr (.inl (some 264)))]) (h' := h') (by with_unfolding_all rfl) ?_
  refine kx_iald rfl (c := 264) (j := i) (m := 240) (v := .inl (Int32.ofNat 15)) rfl (by decide) (by decide) (by omega) ev ?_
  refine kx_go 1 (pc' := 123) (L' := [(4, .inl (Int32.ofNat (n 2))), (3, .inl (Int32.ofNat (n 1))), (2, .inl (Int32.ofNat (n 0))), (0, .inr (.inr (.inl (some 259)))), (1, .inl (Int32.ofNat i))]) (S' := []) (h' := h') (by with_unfolding_all rfl) ?_
  refine kx_go 2 (pc' := 125) (L' := [(4, .inl (Int32.ofNat (n 2))), (3, .inl (Int32.ofNat (n 1))), (2, .inl (Int32.ofNat (n 0))), (0, .inr (.inr (.inl (some 259)))), (1, .inl (Int32.ofNat i))]) (S' := [.inl (Int32.ofNat (n 0)), .inr (.inr (.inl (some 259)))]) (h' := h') (by with_unfolding_all rfl) ?_
  obtain ⟨f0, f1, f2⟩ : ∃ f0, f0 ≤ 1 ∧ (1 ≤ (Int32.ofNat (n 0)).toInt → (Int32.ofNat (n 0)).toInt ≤ 5 → f (n 0) = f0 ∧ h' 260 (46 + (Int32.ofNat (n 0)).toInt.toNat) = .inl (Int32.ofNat f0)) := by
    by_cases e : n 0 < 6
    · refine ⟨f (n 0), (ef (n 0) e).1, fun _ _ => ⟨rfl, ?_⟩⟩
      rw [show (Int32.ofNat (n 0)).toInt.toNat = n 0 from by omega]
      exact (ef (n 0) e).2
    · exact ⟨0, by decide, fun _ q => absurd q (by omega)⟩
  refine kc_call_rule (M2 := wk_m26) (av := [.inr (.inr (.inl (some 259))), .inl (Int32.ofNat (n 0))]) (r := []) rfl rfl (kc_Con_le (kv_rford hg hw hC (f := f0) f1 (fun q1 q2 => (f2 q1 q2).2)) (by decide)) (fun rv h2 hq => ?_)
  have f3 : 1 ≤ n 0 → n 0 ≤ D → f (n 0) = f0 := fun q1 q2 => (f2 (by omega) (by omega)).1
  obtain ⟨r, rfl, hw2, hfr, hq⟩ := hq
  refine kc_ret_ok rfl (rv := some (.inl r)) rfl ⟨r, rfl, hw2, ?_, ?_⟩
  · intro c b hx
    have x1 := kd_inr_f (hx (260, 260, 10, 149) (by decide))
    simp only at x1
    rcases hq with ⟨k, -, -⟩ | ⟨-, -, rfl⟩
    · exact hfr c b (fun q hq => by
        obtain rfl := List.mem_singleton.mp hq
        exact kb_inr (by (try dsimp only); omega))
    · rfl
  · rcases hq with ⟨k, r0, e1⟩ | ⟨k, r0, rfl⟩
    · refine Or.inl ⟨D, M, L, (fun i => if i = n 0 then 1 else f i), if_pos (by omega), r0, ⟨by omega, by omega, by omega, ?_, ?_, ?_⟩, fun i hi => ?_⟩
      · exact (hfr 260 0 (fun q hq => by obtain rfl := List.mem_singleton.mp hq; exact kb_inr (by (try dsimp only); omega))).trans eD
      · exact (hfr 260 1 (fun q hq => by obtain rfl := List.mem_singleton.mp hq; exact kb_inr (by (try dsimp only); omega))).trans eM
      · exact (hfr 260 2 (fun q hq => by obtain rfl := List.mem_singleton.mp hq; exact kb_inr (by (try dsimp only); omega))).trans eL
      · by_cases e : i = n 0
        · refine ⟨by show (if i = n 0 then 1 else f i) ≤ 1; rw [if_pos e]; omega, ?_⟩
          show h2 260 (46 + i) = .inl (Int32.ofNat (if i = n 0 then 1 else f i))
          rw [if_pos e, e, ← e1, show (Int32.ofNat (n 0)).toInt.toNat = n 0 from by omega]
        · refine ⟨by show (if i = n 0 then 1 else f i) ≤ 1; rw [if_neg e]; exact (ef i hi).1, ?_⟩
          show h2 260 (46 + i) = .inl (Int32.ofNat (if i = n 0 then 1 else f i))
          rw [if_neg e, hfr 260 (46 + i) (fun q hq => by obtain rfl := List.mem_singleton.mp hq; exact kb_inr (by (try dsimp only); omega))]
          exact (ef i hi).2
    · exact Or.inr ⟨if_neg (by omega), r0⟩
set_option maxRecDepth 20000 in
theorem kv_item6 {g : kc_G} {h : kc_H} {i D M L : Nat} {f n : Nat → Nat} (hg : kc_ok g) (hw : kd_wt kd_ty h) (hi : i < 60) (hC : kv_Rs h D M L f) (ev : h 264 i = .inl (Int32.ofNat 16)) (en : ∀ k, k < 4 → h 265 (5 * i + k) = .inl (Int32.ofNat (n k)) ∧ n k < 1000) : kc_Con g 6 235 [.inr (.inr (.inl (some 259))), .inl (Int32.ofNat i)] h (kv_Pr h (kv_step 6 n D M L f)) := by
  obtain ⟨hC, ef⟩ := hC
  obtain ⟨hD, hM, hL, eD, eM, eL⟩ := hC
  have hC : kv_R h D M L := ⟨hD, hM, hL, eD, eM, eL⟩
  obtain ⟨en0, nb0⟩ := en 0 (by omega)
  have t0 : (Int32.ofNat (n 0)).toInt = n 0 := kx_ti (by omega)
  obtain ⟨en1, nb1⟩ := en 1 (by omega)
  have t1 : (Int32.ofNat (n 1)).toInt = n 1 := kx_ti (by omega)
  obtain ⟨en2, nb2⟩ := en 2 (by omega)
  have t2 : (Int32.ofNat (n 2)).toInt = n 2 := kx_ti (by omega)
  obtain ⟨en3, nb3⟩ := en 3 (by omega)
  have t3 : (Int32.ofNat (n 3)).toInt = n 3 := kx_ti (by omega)
  have h11 := kx_ofr (hw _ _ _ kv_kr.1)
  have h12 := kx_ofr (hw _ _ _ kv_kr.2)
  refine kc_Con_new hg (M := wk_m235) rfl rfl rfl (show 2 ≤ 5 by decide) ?_
  refine kx_go 3 (pc' := 3) (L' := [(0, .inr (.inr (.inl (some 259)))), (1, .inl (Int32.ofNat i))]) (S' := [.inl (Int32.ofNat 0), .inl (Int32.ofNat i), .inr (.inr (.inl (some 259)))]) (h' := h) (by with_unfolding_all rfl) ?_
  refine kc_call_rule (M2 := wk_m236) (av := [.inr (.inr (.inl (some 259))), .inl (Int32.ofNat i), .inl (Int32.ofNat 0)]) (r := []) rfl rfl (kc_Con_le (kv_num (d := 0) (x := n 0) hg hi (by decide) h12 en0) (by decide)) (fun rv h' hq => ?_)
  obtain ⟨rfl, rfl⟩ := hq
  show kc_Ev g 5 wk_m235 _ 6 [(0, .inr (.inr (.inl (some 259)))), (1, .inl (Int32.ofNat i))] [.inl (Int32.ofNat (n 0))] h'
  refine kx_go 4 (pc' := 10) (L' := [(2, .inl (Int32.ofNat (n 0))), (0, .inr (.inr (.inl (some 259)))), (1, .inl (Int32.ofNat i))]) (S' := [.inl (Int32.ofNat 1), .inl (Int32.ofNat i), .inr (.inr (.inl (some 259)))]) (h' := h') (by with_unfolding_all rfl) ?_
  refine kc_call_rule (M2 := wk_m236) (av := [.inr (.inr (.inl (some 259))), .inl (Int32.ofNat i), .inl (Int32.ofNat 1)]) (r := []) rfl rfl (kc_Con_le (kv_num (d := 0) (x := n 1) hg hi (by decide) h12 en1) (by decide)) (fun rv h' hq => ?_)
  obtain ⟨rfl, rfl⟩ := hq
  show kc_Ev g 5 wk_m235 _ 13 [(2, .inl (Int32.ofNat (n 0))), (0, .inr (.inr (.inl (some 259)))), (1, .inl (Int32.ofNat i))] [.inl (Int32.ofNat (n 1))] h'
  refine kx_go 4 (pc' := 17) (L' := [(3, .inl (Int32.ofNat (n 1))), (2, .inl (Int32.ofNat (n 0))), (0, .inr (.inr (.inl (some 259)))), (1, .inl (Int32.ofNat i))]) (S' := [.inl (Int32.ofNat 2), .inl (Int32.ofNat i), .inr (.inr (.inl (some 259)))]) (h' := h') (by with_unfolding_all rfl) ?_
  refine kc_call_rule (M2 := wk_m236) (av := [.inr (.inr (.inl (some 259))), .inl (Int32.ofNat i), .inl (Int32.ofNat 2)]) (r := []) rfl rfl (kc_Con_le (kv_num (d := 0) (x := n 2) hg hi (by decide) h12 en2) (by decide)) (fun rv h' hq => ?_)
  obtain ⟨rfl, rfl⟩ := hq
  show kc_Ev g 5 wk_m235 _ 20 [(3, .inl (Int32.ofNat (n 1))), (2, .inl (Int32.ofNat (n 0))), (0, .inr (.inr (.inl (some 259)))), (1, .inl (Int32.ofNat i))] [.inl (Int32.ofNat (n 2))] h'
  refine kx_go 2 (pc' := 23) (L' := [(4, .inl (Int32.ofNat (n 2))), (3, .inl (Int32.ofNat (n 1))), (2, .inl (Int32.ofNat (n 0))), (0, .inr (.inr (.inl (some 259)))), (1, .inl (Int32.ofNat i))]) (S' := [.inr (.inr (.inl (some 259)))]) (h' := h') (by with_unfolding_all rfl) ?_
  refine kx_getf (c := 259) (v := .inr (.inr (.inl (some 264)))) rfl (by decide) h11 ?_
  refine kx_go 1 (pc' := 27) (L' := [(4, .inl (Int32.ofNat (n 2))), (3, .inl (Int32.ofNat (n 1))), (2, .inl (Int32.ofNat (n 0))), (0, .inr (.inr (.inl (some 259)))), (1, .inl (Int32.ofNat i))]) (S' := [.inl (Int32.ofNat i), .inr (.inr (.inl (some 264)))]) (h' := h') (by with_unfolding_all rfl) ?_
  refine kx_iald rfl (c := 264) (j := i) (m := 240) (v := .inl (Int32.ofNat 16)) rfl (by decide) (by decide) (by omega) ev ?_
  refine kx_go 1 (pc' := 129) (L' := [(4, .inl (Int32.ofNat (n 2))), (3, .inl (Int32.ofNat (n 1))), (2, .inl (Int32.ofNat (n 0))), (0, .inr (.inr (.inl (some 259)))), (1, .inl (Int32.ofNat i))]) (S' := []) (h' := h') (by with_unfolding_all rfl) ?_
  refine kx_go 3 (pc' := 132) (L' := [(4, .inl (Int32.ofNat (n 2))), (3, .inl (Int32.ofNat (n 1))), (2, .inl (Int32.ofNat (n 0))), (0, .inr (.inr (.inl (some 259)))), (1, .inl (Int32.ofNat i))]) (S' := [.inl (Int32.ofNat (n 1)), .inl (Int32.ofNat (n 0)), .inr (.inr (.inl (some 259)))]) (h' := h') (by with_unfolding_all rfl) ?_
  refine kc_call_rule (M2 := wk_m47) (av := [.inr (.inr (.inl (some 259))), .inl (Int32.ofNat (n 0)), .inl (Int32.ofNat (n 1))]) (r := []) rfl rfl (kc_Con_le (kv_rask hg hw hC) (by decide)) (fun rv h2 hq => ?_)
  obtain ⟨r, rfl, hw2, hfr, hq⟩ := hq
  refine kc_ret_ok rfl (rv := some (.inl r)) rfl ⟨r, rfl, hw2, ?_, ?_⟩
  · exact kd_cvW_r [(260, 260, 80, 149)] (by decide) hfr
  · rcases hq with ⟨k, r0⟩ | ⟨k, r0, rfl⟩
    · refine Or.inl ⟨D, M, L, f, if_pos (by omega), r0, ⟨by omega, by omega, by omega, ?_, ?_, ?_⟩, fun i hi => ?_⟩
      · exact (kv_fr1 hfr (by decide)).trans eD
      · exact (kv_fr1 hfr (by decide)).trans eM
      · exact (kv_fr1 hfr (by decide)).trans eL
      · exact ⟨(ef i hi).1, (kv_fr1 hfr ((show ∀ i, i < 6 → (([(260, 260, 80, 149)] : kd_W).all fun q => !kd_inr 260 q.1 q.2.1 (46 + i) q.2.2.1 q.2.2.2) = true from by decide) i hi)).trans (ef i hi).2⟩
    · exact Or.inr ⟨if_neg (by omega), r0⟩
set_option maxRecDepth 20000 in
theorem kv_item7 {g : kc_G} {h : kc_H} {i D M L : Nat} {f n : Nat → Nat} (hg : kc_ok g) (hw : kd_wt kd_ty h) (hi : i < 60) (hC : kv_Rs h D M L f) (ev : h 264 i = .inl (Int32.ofNat 17)) (en : ∀ k, k < 4 → h 265 (5 * i + k) = .inl (Int32.ofNat (n k)) ∧ n k < 1000) : kc_Con g 6 235 [.inr (.inr (.inl (some 259))), .inl (Int32.ofNat i)] h (kv_Pr h (kv_step 7 n D M L f)) := by
  obtain ⟨hC, ef⟩ := hC
  obtain ⟨hD, hM, hL, eD, eM, eL⟩ := hC
  have hC : kv_R h D M L := ⟨hD, hM, hL, eD, eM, eL⟩
  obtain ⟨en0, nb0⟩ := en 0 (by omega)
  have t0 : (Int32.ofNat (n 0)).toInt = n 0 := kx_ti (by omega)
  obtain ⟨en1, nb1⟩ := en 1 (by omega)
  have t1 : (Int32.ofNat (n 1)).toInt = n 1 := kx_ti (by omega)
  obtain ⟨en2, nb2⟩ := en 2 (by omega)
  have t2 : (Int32.ofNat (n 2)).toInt = n 2 := kx_ti (by omega)
  obtain ⟨en3, nb3⟩ := en 3 (by omega)
  have t3 : (Int32.ofNat (n 3)).toInt = n 3 := kx_ti (by omega)
  have h11 := kx_ofr (hw _ _ _ kv_kr.1)
  have h12 := kx_ofr (hw _ _ _ kv_kr.2)
  refine kc_Con_new hg (M := wk_m235) rfl rfl rfl (show 2 ≤ 5 by decide) ?_
  refine kx_go 3 (pc' := 3) (L' := [(0, .inr (.inr (.inl (some 259)))), (1, .inl (Int32.ofNat i))]) (S' := [.inl (Int32.ofNat 0), .inl (Int32.ofNat i), .inr (.inr (.inl (some 259)))]) (h' := h) (by with_unfolding_all rfl) ?_
  refine kc_call_rule (M2 := wk_m236) (av := [.inr (.inr (.inl (some 259))), .inl (Int32.ofNat i), .inl (Int32.ofNat 0)]) (r := []) rfl rfl (kc_Con_le (kv_num (d := 0) (x := n 0) hg hi (by decide) h12 en0) (by decide)) (fun rv h' hq => ?_)
  obtain ⟨rfl, rfl⟩ := hq
  show kc_Ev g 5 wk_m235 _ 6 [(0, .inr (.inr (.inl (some 259)))), (1, .inl (Int32.ofNat i))] [.inl (Int32.ofNat (n 0))] h'
  refine kx_go 4 (pc' := 10) (L' := [(2, .inl (Int32.ofNat (n 0))), (0, .inr (.inr (.inl (some 259)))), (1, .inl (Int32.ofNat i))]) (S' := [.inl (Int32.ofNat 1), .inl (Int32.ofNat i), .inr (.inr (.inl (some 259)))]) (h' := h') (by with_unfolding_all rfl) ?_
  refine kc_call_rule (M2 := wk_m236) (av := [.inr (.inr (.inl (some 259))), .inl (Int32.ofNat i), .inl (Int32.ofNat 1)]) (r := []) rfl rfl (kc_Con_le (kv_num (d := 0) (x := n 1) hg hi (by decide) h12 en1) (by decide)) (fun rv h' hq => ?_)
  obtain ⟨rfl, rfl⟩ := hq
  show kc_Ev g 5 wk_m235 _ 13 [(2, .inl (Int32.ofNat (n 0))), (0, .inr (.inr (.inl (some 259)))), (1, .inl (Int32.ofNat i))] [.inl (Int32.ofNat (n 1))] h'
  refine kx_go 4 (pc' := 17) (L' := [(3, .inl (Int32.ofNat (n 1))), (2, .inl (Int32.ofNat (n 0))), (0, .inr (.inr (.inl (some 259)))), (1, .inl (Int32.ofNat i))]) (S' := [.inl (Int32.ofNat 2), .inl (Int32.ofNat i), .inr (.inr (.inl (some 259)))]) (h' := h') (by with_unfolding_all rfl) ?_
  refine kc_call_rule (M2 := wk_m236) (av := [.inr (.inr (.inl (some 259))), .inl (Int32.ofNat i), .inl (Int32.ofNat 2)]) (r := []) rfl rfl (kc_Con_le (kv_num (d := 0) (x := n 2) hg hi (by decide) h12 en2) (by decide)) (fun rv h' hq => ?_)
  obtain ⟨rfl, rfl⟩ := hq
  show kc_Ev g 5 wk_m235 _ 20 [(3, .inl (Int32.ofNat (n 1))), (2, .inl (Int32.ofNat (n 0))), (0, .inr (.inr (.inl (some 259)))), (1, .inl (Int32.ofNat i))] [.inl (Int32.ofNat (n 2))] h'
  refine kx_go 2 (pc' := 23) (L' := [(4, .inl (Int32.ofNat (n 2))), (3, .inl (Int32.ofNat (n 1))), (2, .inl (Int32.ofNat (n 0))), (0, .inr (.inr (.inl (some 259)))), (1, .inl (Int32.ofNat i))]) (S' := [.inr (.inr (.inl (some 259)))]) (h' := h') (by with_unfolding_all rfl) ?_
  refine kx_getf (c := 259) (v := .inr (.inr (.inl (some 264)))) rfl (by decide) h11 ?_
  refine kx_go 1 (pc' := 27) (L' := [(4, .inl (Int32.ofNat (n 2))), (3, .inl (Int32.ofNat (n 1))), (2, .inl (Int32.ofNat (n 0))), (0, .inr (.inr (.inl (some 259)))), (1, .inl (Int32.ofNat i))]) (S' := [.inl (Int32.ofNat i), .inr (.inr (.inl (some 264)))]) (h' := h') (by with_unfolding_all rfl) ?_
  refine kx_iald rfl (c := 264) (j := i) (m := 240) (v := .inl (Int32.ofNat 17)) rfl (by decide) (by decide) (by omega) ev ?_
  refine kx_go 1 (pc' := 136) (L' := [(4, .inl (Int32.ofNat (n 2))), (3, .inl (Int32.ofNat (n 1))), (2, .inl (Int32.ofNat (n 0))), (0, .inr (.inr (.inl (some 259)))), (1, .inl (Int32.ofNat i))]) (S' := []) (h' := h') (by with_unfolding_all rfl) ?_
  refine kx_go 3 (pc' := 139) (L' := [(4, .inl (Int32.ofNat (n 2))), (3, .inl (Int32.ofNat (n 1))), (2, .inl (Int32.ofNat (n 0))), (0, .inr (.inr (.inl (some 259)))), (1, .inl (Int32.ofNat i))]) (S' := [.inl (Int32.ofNat (n 1)), .inl (Int32.ofNat (n 0)), .inr (.inr (.inl (some 259)))]) (h' := h') (by with_unfolding_all rfl) ?_
  refine kc_call_rule (M2 := wk_m50) (av := [.inr (.inr (.inl (some 259))), .inl (Int32.ofNat (n 0)), .inl (Int32.ofNat (n 1))]) (r := []) rfl rfl (kc_Con_le (kv_rdrain hg hw hC) (by decide)) (fun rv h2 hq => ?_)
  obtain ⟨r, rfl, hw2, hfr, hq⟩ := hq
  refine kc_ret_ok rfl (rv := some (.inl r)) rfl ⟨r, rfl, hw2, ?_, ?_⟩
  · exact kd_cvW_r [(260, 260, 80, 149)] (by decide) hfr
  · rcases hq with ⟨k, r0⟩ | ⟨k, r0, rfl⟩
    · refine Or.inl ⟨D, M, L, f, if_pos (by omega), r0, ⟨by omega, by omega, by omega, ?_, ?_, ?_⟩, fun i hi => ?_⟩
      · exact (kv_fr1 hfr (by decide)).trans eD
      · exact (kv_fr1 hfr (by decide)).trans eM
      · exact (kv_fr1 hfr (by decide)).trans eL
      · exact ⟨(ef i hi).1, (kv_fr1 hfr ((show ∀ i, i < 6 → (([(260, 260, 80, 149)] : kd_W).all fun q => !kd_inr 260 q.1 q.2.1 (46 + i) q.2.2.1 q.2.2.2) = true from by decide) i hi)).trans (ef i hi).2⟩
    · exact Or.inr ⟨if_neg (by omega), r0⟩
set_option maxRecDepth 20000 in
theorem kv_item8 {g : kc_G} {h : kc_H} {i D M L : Nat} {f n : Nat → Nat} (hg : kc_ok g) (hw : kd_wt kd_ty h) (hi : i < 60) (hC : kv_Rs h D M L f) (ev : h 264 i = .inl (Int32.ofNat 18)) (en : ∀ k, k < 4 → h 265 (5 * i + k) = .inl (Int32.ofNat (n k)) ∧ n k < 1000) : kc_Con g 6 235 [.inr (.inr (.inl (some 259))), .inl (Int32.ofNat i)] h (kv_Pr h (kv_step 8 n D M L f)) := by
  obtain ⟨hC, ef⟩ := hC
  obtain ⟨hD, hM, hL, eD, eM, eL⟩ := hC
  have hC : kv_R h D M L := ⟨hD, hM, hL, eD, eM, eL⟩
  obtain ⟨en0, nb0⟩ := en 0 (by omega)
  have t0 : (Int32.ofNat (n 0)).toInt = n 0 := kx_ti (by omega)
  obtain ⟨en1, nb1⟩ := en 1 (by omega)
  have t1 : (Int32.ofNat (n 1)).toInt = n 1 := kx_ti (by omega)
  obtain ⟨en2, nb2⟩ := en 2 (by omega)
  have t2 : (Int32.ofNat (n 2)).toInt = n 2 := kx_ti (by omega)
  obtain ⟨en3, nb3⟩ := en 3 (by omega)
  have t3 : (Int32.ofNat (n 3)).toInt = n 3 := kx_ti (by omega)
  have h11 := kx_ofr (hw _ _ _ kv_kr.1)
  have h12 := kx_ofr (hw _ _ _ kv_kr.2)
  refine kc_Con_new hg (M := wk_m235) rfl rfl rfl (show 2 ≤ 5 by decide) ?_
  refine kx_go 3 (pc' := 3) (L' := [(0, .inr (.inr (.inl (some 259)))), (1, .inl (Int32.ofNat i))]) (S' := [.inl (Int32.ofNat 0), .inl (Int32.ofNat i), .inr (.inr (.inl (some 259)))]) (h' := h) (by with_unfolding_all rfl) ?_
  refine kc_call_rule (M2 := wk_m236) (av := [.inr (.inr (.inl (some 259))), .inl (Int32.ofNat i), .inl (Int32.ofNat 0)]) (r := []) rfl rfl (kc_Con_le (kv_num (d := 0) (x := n 0) hg hi (by decide) h12 en0) (by decide)) (fun rv h' hq => ?_)
  obtain ⟨rfl, rfl⟩ := hq
  show kc_Ev g 5 wk_m235 _ 6 [(0, .inr (.inr (.inl (some 259)))), (1, .inl (Int32.ofNat i))] [.inl (Int32.ofNat (n 0))] h'
  refine kx_go 4 (pc' := 10) (L' := [(2, .inl (Int32.ofNat (n 0))), (0, .inr (.inr (.inl (some 259)))), (1, .inl (Int32.ofNat i))]) (S' := [.inl (Int32.ofNat 1), .inl (Int32.ofNat i), .inr (.inr (.inl (some 259)))]) (h' := h') (by with_unfolding_all rfl) ?_
  refine kc_call_rule (M2 := wk_m236) (av := [.inr (.inr (.inl (some 259))), .inl (Int32.ofNat i), .inl (Int32.ofNat 1)]) (r := []) rfl rfl (kc_Con_le (kv_num (d := 0) (x := n 1) hg hi (by decide) h12 en1) (by decide)) (fun rv h' hq => ?_)
  obtain ⟨rfl, rfl⟩ := hq
  show kc_Ev g 5 wk_m235 _ 13 [(2, .inl (Int32.ofNat (n 0))), (0, .inr (.inr (.inl (some 259)))), (1, .inl (Int32.ofNat i))] [.inl (Int32.ofNat (n 1))] h'
  refine kx_go 4 (pc' := 17) (L' := [(3, .inl (Int32.ofNat (n 1))), (2, .inl (Int32.ofNat (n 0))), (0, .inr (.inr (.inl (some 259)))), (1, .inl (Int32.ofNat i))]) (S' := [.inl (Int32.ofNat 2), .inl (Int32.ofNat i), .inr (.inr (.inl (some 259)))]) (h' := h') (by with_unfolding_all rfl) ?_
  refine kc_call_rule (M2 := wk_m236) (av := [.inr (.inr (.inl (some 259))), .inl (Int32.ofNat i), .inl (Int32.ofNat 2)]) (r := []) rfl rfl (kc_Con_le (kv_num (d := 0) (x := n 2) hg hi (by decide) h12 en2) (by decide)) (fun rv h' hq => ?_)
  obtain ⟨rfl, rfl⟩ := hq
  show kc_Ev g 5 wk_m235 _ 20 [(3, .inl (Int32.ofNat (n 1))), (2, .inl (Int32.ofNat (n 0))), (0, .inr (.inr (.inl (some 259)))), (1, .inl (Int32.ofNat i))] [.inl (Int32.ofNat (n 2))] h'
  refine kx_go 2 (pc' := 23) (L' := [(4, .inl (Int32.ofNat (n 2))), (3, .inl (Int32.ofNat (n 1))), (2, .inl (Int32.ofNat (n 0))), (0, .inr (.inr (.inl (some 259)))), (1, .inl (Int32.ofNat i))]) (S' := [.inr (.inr (.inl (some 259)))]) (h' := h') (by with_unfolding_all rfl) ?_
  refine kx_getf (c := 259) (v := .inr (.inr (.inl (some 264)))) rfl (by decide) h11 ?_
  refine kx_go 1 (pc' := 27) (L' := [(4, .inl (Int32.ofNat (n 2))), (3, .inl (Int32.ofNat (n 1))), (2, .inl (Int32.ofNat (n 0))), (0, .inr (.inr (.inl (some 259)))), (1, .inl (Int32.ofNat i))]) (S' := [.inl (Int32.ofNat i), .inr (.inr (.inl (some 264)))]) (h' := h') (by with_unfolding_all rfl) ?_
  refine kx_iald rfl (c := 264) (j := i) (m := 240) (v := .inl (Int32.ofNat 18)) rfl (by decide) (by decide) (by omega) ev ?_
  refine kx_go 1 (pc' := 143) (L' := [(4, .inl (Int32.ofNat (n 2))), (3, .inl (Int32.ofNat (n 1))), (2, .inl (Int32.ofNat (n 0))), (0, .inr (.inr (.inl (some 259)))), (1, .inl (Int32.ofNat i))]) (S' := []) (h' := h') (by with_unfolding_all rfl) ?_
  refine kx_go 3 (pc' := 146) (L' := [(4, .inl (Int32.ofNat (n 2))), (3, .inl (Int32.ofNat (n 1))), (2, .inl (Int32.ofNat (n 0))), (0, .inr (.inr (.inl (some 259)))), (1, .inl (Int32.ofNat i))]) (S' := [.inl (Int32.ofNat (n 1)), .inl (Int32.ofNat (n 0)), .inr (.inr (.inl (some 259)))]) (h' := h') (by with_unfolding_all rfl) ?_
  refine kc_call_rule (M2 := wk_m30) (av := [.inr (.inr (.inl (some 259))), .inl (Int32.ofNat (n 0)), .inl (Int32.ofNat (n 1))]) (r := []) rfl rfl (kc_Con_le (kv_rstones hg hw hC) (by decide)) (fun rv h2 hq => ?_)
  obtain ⟨r, rfl, hw2, hfr, hq⟩ := hq
  refine kc_ret_ok rfl (rv := some (.inl r)) rfl ⟨r, rfl, hw2, ?_, ?_⟩
  · exact kd_cvW_r [(260, 260, 52, 57)] (by decide) hfr
  · rcases hq with ⟨k, r0⟩ | ⟨k, r0, rfl⟩
    · refine Or.inl ⟨D, M, L, f, if_pos (by omega), r0, ⟨by omega, by omega, by omega, ?_, ?_, ?_⟩, fun i hi => ?_⟩
      · exact (kv_fr1 hfr (by decide)).trans eD
      · exact (kv_fr1 hfr (by decide)).trans eM
      · exact (kv_fr1 hfr (by decide)).trans eL
      · exact ⟨(ef i hi).1, (kv_fr1 hfr ((show ∀ i, i < 6 → (([(260, 260, 52, 57)] : kd_W).all fun q => !kd_inr 260 q.1 q.2.1 (46 + i) q.2.2.1 q.2.2.2) = true from by decide) i hi)).trans (ef i hi).2⟩
    · exact Or.inr ⟨if_neg (by omega), r0⟩
theorem kv_item {g : kc_G} {h : kc_H} {i D M L v : Nat} {f n : Nat → Nat} (hg : kc_ok g) (hw : kd_wt kd_ty h) (hi : i < 60) (hv : v < 9) (hC : kv_Rs h D M L f) (ev : h 264 i = .inl (Int32.ofNat (kp_tv v))) (en : ∀ k, k < 4 → h 265 (5 * i + k) = .inl (Int32.ofNat (n k)) ∧ n k < 1000) : kc_Con g 6 235 [.inr (.inr (.inl (some 259))), .inl (Int32.ofNat i)] h (kv_Pr h (kv_step v n D M L f)) := by
  rcases (show v = 0 ∨ v = 1 ∨ v = 2 ∨ v = 3 ∨ v = 4 ∨ v = 5 ∨ v = 6 ∨ v = 7 ∨ v = 8 by omega) with rfl | rfl | rfl | rfl | rfl | rfl | rfl | rfl | rfl
  · exact kv_item0 hg hw hi hC ev en
  · exact kv_item1 hg hw hi hC ev en
  · exact kv_item2 hg hw hi hC ev en
  · exact kv_item3 hg hw hi hC ev en
  · exact kv_item4 hg hw hi hC ev en
  · exact kv_item5 hg hw hi hC ev en
  · exact kv_item6 hg hw hi hC ev en
  · exact kv_item7 hg hw hi hC ev en
  · exact kv_item8 hg hw hi hC ev en
