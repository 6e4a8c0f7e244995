/-! ===== image, from of the class; what is kept alike ===== -/
theorem ks_k0 : kd_rn (kd_ty 0) 2 = some (3, 63, 63) ∧ kd_rn (kd_ty 0) 3 = some (3, 126, 126) ∧ kd_rn (kd_ty 63) 0 = some (3, 64, 64) ∧ kd_rn (kd_ty 63) 1 = some (3, 95, 95) := by decide +kernel
set_option maxRecDepth 20000 in
theorem ks_image0 {g : kc_G} {d : Nat} {h : kc_H} (hg : kc_ok g) (hw : kd_wt kd_ty h) : kc_Con g (d + 4) 157 [.inr (.inr (.inl (some 0))), .inl (Int32.ofNat 0)] h (fun rv h' => (∃ z : Int32, rv = some (.inl z)) ∧ h' = kc_upd (kt_K h 1 64 31) 126 0 (.inl (kp_b true))) := by
  have k0 := kx_ofr (hw _ _ _ kv_k0.1)
  have k2 := kx_ofr (hw _ _ _ ks_k0.1)
  have k3 := kx_ofr (hw _ _ _ ks_k0.2.1)
  have kb := kx_ofr (hw _ _ _ ks_k0.2.2.1)
  refine kc_Con_new hg (M := wk_m157) rfl rfl rfl (show 2 ≤ 2 by decide) ?_
  refine kx_go 3 (pc' := 3) (L' := [(0, .inr (.inr (.inl (some 0)))), (1, .inl (Int32.ofNat 0))]) (S' := [.inl (Int32.ofNat 1), .inl (Int32.ofNat 0), .inl (Int32.ofNat 0)]) (h' := h) (by with_unfolding_all rfl) ?_
  refine kc_call_rule (M2 := wk_m19) (av := [.inl (Int32.ofNat 0), .inl (Int32.ofNat 0), .inl (Int32.ofNat 1)]) (r := []) rfl rfl (kc_Con_le (kq_btw (d := 0) hg (by decide) (by decide) (by decide)) (by omega)) (fun rv h' hq => ?_)
  obtain ⟨rfl, rfl⟩ := hq
  show kc_Ev g (d + 3) wk_m157 _ 6 [(0, .inr (.inr (.inl (some 0)))), (1, .inl (Int32.ofNat 0))] [.inl (kp_b (decide (0 ≤ 0 ∧ 0 ≤ 1)))] h'
  refine kx_go 1 (pc' := (if kc_cnd .ne (kp_b (decide (0 ≤ 0 ∧ 0 ≤ 1))).toInt 0 then 12 else 9)) (L' := [(0, .inr (.inr (.inl (some 0)))), (1, .inl (Int32.ofNat 0))]) (S' := []) (h' := h') (by with_unfolding_all rfl) ?_
  rw [if_pos (kx_b1.mpr (decide_eq_true (by decide)))]
  refine kx_go 1 (pc' := 13) (L' := [(0, .inr (.inr (.inl (some 0)))), (1, .inl (Int32.ofNat 0))]) (S' := [.inr (.inr (.inl (some 0)))]) (h' := h') (by with_unfolding_all rfl) ?_
  refine kx_getf (c := 0) (v := .inr (.inr (.inl (some 63)))) rfl (by decide) k2 ?_
  refine kx_go 1 (pc' := 17) (L' := [(0, .inr (.inr (.inl (some 0)))), (1, .inl (Int32.ofNat 0))]) (S' := [.inl (Int32.ofNat 0), .inr (.inr (.inl (some 63)))]) (h' := h') (by with_unfolding_all rfl) ?_
  refine kx_aald (c := 63) (j := 0) (m := 2) (t0 := 3) (v := .inr (.inr (.inl (some 64)))) rfl rfl (by decide) (by decide) (by decide) (by decide) kb ?_
  refine kx_go 1 (pc' := 19) (L' := [(0, .inr (.inr (.inl (some 0)))), (1, .inl (Int32.ofNat 0))]) (S' := [.inr (.inr (.inl (some 0))), .inr (.inr (.inl (some 64)))]) (h' := h') (by with_unfolding_all rfl) ?_
  refine kx_getf (c := 0) (v := .inr (.inr (.inl (some 1)))) rfl (by decide) k0 ?_
  refine kc_call_rule (M2 := wk_m68) (av := [.inr (.inr (.inl (some 64))), .inr (.inr (.inl (some 1)))]) (r := []) rfl rfl (kc_Con_le (kt_take1_64 (d := 0) hg hw) (by omega)) (fun rv h2 hq => ?_)
  obtain ⟨rfl, rfl⟩ := hq
  show kc_Ev g (d + 3) wk_m157 _ 25 [(0, .inr (.inr (.inl (some 0)))), (1, .inl (Int32.ofNat 0))] [] (kt_K h' 1 64 31)
  refine kx_go 1 (pc' := 26) (L' := [(0, .inr (.inr (.inl (some 0)))), (1, .inl (Int32.ofNat 0))]) (S' := [.inr (.inr (.inl (some 0)))]) (h' := (kt_K h' 1 64 31)) (by with_unfolding_all rfl) ?_
  refine kx_getf (c := 0) (v := .inr (.inr (.inl (some 126)))) rfl (by decide) ((show kt_K h' 1 64 31 0 3 = h' 0 3 from if_neg (by decide)).trans k3) ?_
  refine kx_go 2 (pc' := 31) (L' := [(0, .inr (.inr (.inl (some 0)))), (1, .inl (Int32.ofNat 0))]) (S' := [.inl (Int32.ofNat 1), .inl (Int32.ofNat 0), .inr (.inr (.inl (some 126)))]) (h' := (kt_K h' 1 64 31)) (by with_unfolding_all rfl) ?_
  refine kx_bast (w := true) rfl (c := 126) (j := 0) (m := 2) rfl (by decide) (by decide) (by decide) ?_
  refine kx_go 1 (pc' := 33) (L' := [(0, .inr (.inr (.inl (some 0)))), (1, .inl (Int32.ofNat 0))]) (S' := [.inl (Int32.ofNat 1)]) (h' := (kc_upd (kt_K h' 1 64 31) 126 0 (.inl (kp_b true)))) (by with_unfolding_all rfl) ?_
  exact kc_ret_ok rfl (rv := some (.inl (Int32.ofNat 1))) rfl ⟨⟨_, rfl⟩, rfl⟩
set_option maxRecDepth 20000 in
theorem ks_from0 {g : kc_G} {d : Nat} {h : kc_H} {b : Bool} (hg : kc_ok g) (hw : kd_wt kd_ty h) (hb : h 126 0 = .inl (kp_b b)) : kc_Con g (d + 4) 159 [.inr (.inr (.inl (some 0))), .inl (Int32.ofNat 0)] h (fun rv h' => (∃ z : Int32, rv = some (.inl z)) ∧ ((b = true ∧ h' = kt_K h 64 1 31) ∨ (b = false ∧ h' = h))) := by
  have k0 := kx_ofr (hw _ _ _ kv_k0.1)
  have k2 := kx_ofr (hw _ _ _ ks_k0.1)
  have k3 := kx_ofr (hw _ _ _ ks_k0.2.1)
  have kb := kx_ofr (hw _ _ _ ks_k0.2.2.1)
  refine kc_Con_new hg (M := wk_m159) rfl rfl rfl (show 2 ≤ 2 by decide) ?_
  refine kx_go 3 (pc' := 3) (L' := [(0, .inr (.inr (.inl (some 0)))), (1, .inl (Int32.ofNat 0))]) (S' := [.inl (Int32.ofNat 1), .inl (Int32.ofNat 0), .inl (Int32.ofNat 0)]) (h' := h) (by with_unfolding_all rfl) ?_
  refine kc_call_rule (M2 := wk_m19) (av := [.inl (Int32.ofNat 0), .inl (Int32.ofNat 0), .inl (Int32.ofNat 1)]) (r := []) rfl rfl (kc_Con_le (kq_btw (d := 0) hg (by decide) (by decide) (by decide)) (by omega)) (fun rv h' hq => ?_)
  obtain ⟨rfl, rfl⟩ := hq
  show kc_Ev g (d + 3) wk_m159 _ 6 [(0, .inr (.inr (.inl (some 0)))), (1, .inl (Int32.ofNat 0))] [.inl (kp_b (decide (0 ≤ 0 ∧ 0 ≤ 1)))] h'
  refine kx_go 1 (pc' := (if kc_cnd .ne (kp_b (decide (0 ≤ 0 ∧ 0 ≤ 1))).toInt 0 then 12 else 9)) (L' := [(0, .inr (.inr (.inl (some 0)))), (1, .inl (Int32.ofNat 0))]) (S' := []) (h' := h') (by with_unfolding_all rfl) ?_
  rw [if_pos (kx_b1.mpr (decide_eq_true (by decide)))]
  refine kx_go 1 (pc' := 13) (L' := [(0, .inr (.inr (.inl (some 0)))), (1, .inl (Int32.ofNat 0))]) (S' := [.inr (.inr (.inl (some 0)))]) (h' := h') (by with_unfolding_all rfl) ?_
  refine kx_getf (c := 0) (v := .inr (.inr (.inl (some 126)))) rfl (by decide) k3 ?_
  refine kx_go 1 (pc' := 17) (L' := [(0, .inr (.inr (.inl (some 0)))), (1, .inl (Int32.ofNat 0))]) (S' := [.inl (Int32.ofNat 0), .inr (.inr (.inl (some 126)))]) (h' := h') (by with_unfolding_all rfl) ?_
  refine kx_bald rfl (c := 126) (j := 0) (m := 2) (v := .inl (kp_b b)) rfl (by decide) (by decide) (by decide) hb ?_
  refine kx_go 1 (pc' := (if kc_cnd .ne (kp_b b).toInt 0 then 24 else 21)) (L' := [(0, .inr (.inr (.inl (some 0)))), (1, .inl (Int32.ofNat 0))]) (S' := []) (h' := h') (by with_unfolding_all rfl) ?_
  cases b with
  | false =>
    rw [if_neg (fun q => by have := kx_b1.mp q; cases this)]
    refine kx_go 1 (pc' := 23) (L' := [(0, .inr (.inr (.inl (some 0)))), (1, .inl (Int32.ofNat 0))]) (S' := [.inl (Int32.ofInt (-3))]) (h' := h') (by with_unfolding_all rfl) ?_
    exact kc_ret_ok rfl (rv := some (.inl (Int32.ofInt (-3)))) rfl ⟨⟨_, rfl⟩, Or.inr ⟨rfl, rfl⟩⟩
  | true =>
    rw [if_pos (kx_b1.mpr rfl)]
    refine kx_go 1 (pc' := 25) (L' := [(0, .inr (.inr (.inl (some 0)))), (1, .inl (Int32.ofNat 0))]) (S' := [.inr (.inr (.inl (some 0)))]) (h' := h') (by with_unfolding_all rfl) ?_
    refine kx_getf (c := 0) (v := .inr (.inr (.inl (some 1)))) rfl (by decide) k0 ?_
    refine kx_go 1 (pc' := 29) (L' := [(0, .inr (.inr (.inl (some 0)))), (1, .inl (Int32.ofNat 0))]) (S' := [.inr (.inr (.inl (some 0))), .inr (.inr (.inl (some 1)))]) (h' := h') (by with_unfolding_all rfl) ?_
    refine kx_getf (c := 0) (v := .inr (.inr (.inl (some 63)))) rfl (by decide) k2 ?_
    refine kx_go 1 (pc' := 33) (L' := [(0, .inr (.inr (.inl (some 0)))), (1, .inl (Int32.ofNat 0))]) (S' := [.inl (Int32.ofNat 0), .inr (.inr (.inl (some 63))), .inr (.inr (.inl (some 1)))]) (h' := h') (by with_unfolding_all rfl) ?_
    refine kx_aald (c := 63) (j := 0) (m := 2) (t0 := 3) (v := .inr (.inr (.inl (some 64)))) rfl rfl (by decide) (by decide) (by decide) (by decide) kb ?_
    refine kc_call_rule (M2 := wk_m68) (av := [.inr (.inr (.inl (some 1))), .inr (.inr (.inl (some 64)))]) (r := []) rfl rfl (kc_Con_le (kt_take64_1 (d := 0) hg hw) (by omega)) (fun rv h2 hq => ?_)
    obtain ⟨rfl, rfl⟩ := hq
    show kc_Ev g (d + 3) wk_m159 _ 37 [(0, .inr (.inr (.inl (some 0)))), (1, .inl (Int32.ofNat 0))] [] (kt_K h' 64 1 31)
    refine kx_go 1 (pc' := 38) (L' := [(0, .inr (.inr (.inl (some 0)))), (1, .inl (Int32.ofNat 0))]) (S' := [.inl (Int32.ofNat 1)]) (h' := (kt_K h' 64 1 31)) (by with_unfolding_all rfl) ?_
    exact kc_ret_ok rfl (rv := some (.inl (Int32.ofNat 1))) rfl ⟨⟨_, rfl⟩, Or.inl ⟨rfl, rfl⟩⟩
set_option maxRecDepth 20000 in
theorem ks_image1 {g : kc_G} {d : Nat} {h : kc_H} (hg : kc_ok g) (hw : kd_wt kd_ty h) : kc_Con g (d + 4) 157 [.inr (.inr (.inl (some 0))), .inl (Int32.ofNat 1)] h (fun rv h' => (∃ z : Int32, rv = some (.inl z)) ∧ h' = kc_upd (kt_K h 1 95 31) 126 1 (.inl (kp_b true))) := by
  have k0 := kx_ofr (hw _ _ _ kv_k0.1)
  have k2 := kx_ofr (hw _ _ _ ks_k0.1)
  have k3 := kx_ofr (hw _ _ _ ks_k0.2.1)
  have kb := kx_ofr (hw _ _ _ ks_k0.2.2.2)
  refine kc_Con_new hg (M := wk_m157) rfl rfl rfl (show 2 ≤ 2 by decide) ?_
  refine kx_go 3 (pc' := 3) (L' := [(0, .inr (.inr (.inl (some 0)))), (1, .inl (Int32.ofNat 1))]) (S' := [.inl (Int32.ofNat 1), .inl (Int32.ofNat 0), .inl (Int32.ofNat 1)]) (h' := h) (by with_unfolding_all rfl) ?_
  refine kc_call_rule (M2 := wk_m19) (av := [.inl (Int32.ofNat 1), .inl (Int32.ofNat 0), .inl (Int32.ofNat 1)]) (r := []) rfl rfl (kc_Con_le (kq_btw (d := 0) hg (by decide) (by decide) (by decide)) (by omega)) (fun rv h' hq => ?_)
  obtain ⟨rfl, rfl⟩ := hq
  show kc_Ev g (d + 3) wk_m157 _ 6 [(0, .inr (.inr (.inl (some 0)))), (1, .inl (Int32.ofNat 1))] [.inl (kp_b (decide (0 ≤ 1 ∧ 1 ≤ 1)))] h'
  refine kx_go 1 (pc' := (if kc_cnd .ne (kp_b (decide (0 ≤ 1 ∧ 1 ≤ 1))).toInt 0 then 12 else 9)) (L' := [(0, .inr (.inr (.inl (some 0)))), (1, .inl (Int32.ofNat 1))]) (S' := []) (h' := h') (by with_unfolding_all rfl) ?_
  rw [if_pos (kx_b1.mpr (decide_eq_true (by decide)))]
  refine kx_go 1 (pc' := 13) (L' := [(0, .inr (.inr (.inl (some 0)))), (1, .inl (Int32.ofNat 1))]) (S' := [.inr (.inr (.inl (some 0)))]) (h' := h') (by with_unfolding_all rfl) ?_
  refine kx_getf (c := 0) (v := .inr (.inr (.inl (some 63)))) rfl (by decide) k2 ?_
  refine kx_go 1 (pc' := 17) (L' := [(0, .inr (.inr (.inl (some 0)))), (1, .inl (Int32.ofNat 1))]) (S' := [.inl (Int32.ofNat 1), .inr (.inr (.inl (some 63)))]) (h' := h') (by with_unfolding_all rfl) ?_
  refine kx_aald (c := 63) (j := 1) (m := 2) (t0 := 3) (v := .inr (.inr (.inl (some 95)))) rfl rfl (by decide) (by decide) (by decide) (by decide) kb ?_
  refine kx_go 1 (pc' := 19) (L' := [(0, .inr (.inr (.inl (some 0)))), (1, .inl (Int32.ofNat 1))]) (S' := [.inr (.inr (.inl (some 0))), .inr (.inr (.inl (some 95)))]) (h' := h') (by with_unfolding_all rfl) ?_
  refine kx_getf (c := 0) (v := .inr (.inr (.inl (some 1)))) rfl (by decide) k0 ?_
  refine kc_call_rule (M2 := wk_m68) (av := [.inr (.inr (.inl (some 95))), .inr (.inr (.inl (some 1)))]) (r := []) rfl rfl (kc_Con_le (kt_take1_95 (d := 0) hg hw) (by omega)) (fun rv h2 hq => ?_)
  obtain ⟨rfl, rfl⟩ := hq
  show kc_Ev g (d + 3) wk_m157 _ 25 [(0, .inr (.inr (.inl (some 0)))), (1, .inl (Int32.ofNat 1))] [] (kt_K h' 1 95 31)
  refine kx_go 1 (pc' := 26) (L' := [(0, .inr (.inr (.inl (some 0)))), (1, .inl (Int32.ofNat 1))]) (S' := [.inr (.inr (.inl (some 0)))]) (h' := (kt_K h' 1 95 31)) (by with_unfolding_all rfl) ?_
  refine kx_getf (c := 0) (v := .inr (.inr (.inl (some 126)))) rfl (by decide) ((show kt_K h' 1 95 31 0 3 = h' 0 3 from if_neg (by decide)).trans k3) ?_
  refine kx_go 2 (pc' := 31) (L' := [(0, .inr (.inr (.inl (some 0)))), (1, .inl (Int32.ofNat 1))]) (S' := [.inl (Int32.ofNat 1), .inl (Int32.ofNat 1), .inr (.inr (.inl (some 126)))]) (h' := (kt_K h' 1 95 31)) (by with_unfolding_all rfl) ?_
  refine kx_bast (w := true) rfl (c := 126) (j := 1) (m := 2) rfl (by decide) (by decide) (by decide) ?_
  refine kx_go 1 (pc' := 33) (L' := [(0, .inr (.inr (.inl (some 0)))), (1, .inl (Int32.ofNat 1))]) (S' := [.inl (Int32.ofNat 1)]) (h' := (kc_upd (kt_K h' 1 95 31) 126 1 (.inl (kp_b true)))) (by with_unfolding_all rfl) ?_
  exact kc_ret_ok rfl (rv := some (.inl (Int32.ofNat 1))) rfl ⟨⟨_, rfl⟩, rfl⟩
set_option maxRecDepth 20000 in
theorem ks_from1 {g : kc_G} {d : Nat} {h : kc_H} {b : Bool} (hg : kc_ok g) (hw : kd_wt kd_ty h) (hb : h 126 1 = .inl (kp_b b)) : kc_Con g (d + 4) 159 [.inr (.inr (.inl (some 0))), .inl (Int32.ofNat 1)] h (fun rv h' => (∃ z : Int32, rv = some (.inl z)) ∧ ((b = true ∧ h' = kt_K h 95 1 31) ∨ (b = false ∧ h' = h))) := by
  have k0 := kx_ofr (hw _ _ _ kv_k0.1)
  have k2 := kx_ofr (hw _ _ _ ks_k0.1)
  have k3 := kx_ofr (hw _ _ _ ks_k0.2.1)
  have kb := kx_ofr (hw _ _ _ ks_k0.2.2.2)
  refine kc_Con_new hg (M := wk_m159) rfl rfl rfl (show 2 ≤ 2 by decide) ?_
  refine kx_go 3 (pc' := 3) (L' := [(0, .inr (.inr (.inl (some 0)))), (1, .inl (Int32.ofNat 1))]) (S' := [.inl (Int32.ofNat 1), .inl (Int32.ofNat 0), .inl (Int32.ofNat 1)]) (h' := h) (by with_unfolding_all rfl) ?_
  refine kc_call_rule (M2 := wk_m19) (av := [.inl (Int32.ofNat 1), .inl (Int32.ofNat 0), .inl (Int32.ofNat 1)]) (r := []) rfl rfl (kc_Con_le (kq_btw (d := 0) hg (by decide) (by decide) (by decide)) (by omega)) (fun rv h' hq => ?_)
  obtain ⟨rfl, rfl⟩ := hq
  show kc_Ev g (d + 3) wk_m159 _ 6 [(0, .inr (.inr (.inl (some 0)))), (1, .inl (Int32.ofNat 1))] [.inl (kp_b (decide (0 ≤ 1 ∧ 1 ≤ 1)))] h'
  refine kx_go 1 (pc' := (if kc_cnd .ne (kp_b (decide (0 ≤ 1 ∧ 1 ≤ 1))).toInt 0 then 12 else 9)) (L' := [(0, .inr (.inr (.inl (some 0)))), (1, .inl (Int32.ofNat 1))]) (S' := []) (h' := h') (by with_unfolding_all rfl) ?_
  rw [if_pos (kx_b1.mpr (decide_eq_true (by decide)))]
  refine kx_go 1 (pc' := 13) (L' := [(0, .inr (.inr (.inl (some 0)))), (1, .inl (Int32.ofNat 1))]) (S' := [.inr (.inr (.inl (some 0)))]) (h' := h') (by with_unfolding_all rfl) ?_
  refine kx_getf (c := 0) (v := .inr (.inr (.inl (some 126)))) rfl (by decide) k3 ?_
  refine kx_go 1 (pc' := 17) (L' := [(0, .inr (.inr (.inl (some 0)))), (1, .inl (Int32.ofNat 1))]) (S' := [.inl (Int32.ofNat 1), .inr (.inr (.inl (some 126)))]) (h' := h') (by with_unfolding_all rfl) ?_
  refine kx_bald rfl (c := 126) (j := 1) (m := 2) (v := .inl (kp_b b)) rfl (by decide) (by decide) (by decide) hb ?_
  refine kx_go 1 (pc' := (if kc_cnd .ne (kp_b b).toInt 0 then 24 else 21)) (L' := [(0, .inr (.inr (.inl (some 0)))), (1, .inl (Int32.ofNat 1))]) (S' := []) (h' := h') (by with_unfolding_all rfl) ?_
  cases b with
  | false =>
    rw [if_neg (fun q => by have := kx_b1.mp q; cases this)]
    refine kx_go 1 (pc' := 23) (L' := [(0, .inr (.inr (.inl (some 0)))), (1, .inl (Int32.ofNat 1))]) (S' := [.inl (Int32.ofInt (-3))]) (h' := h') (by with_unfolding_all rfl) ?_
    exact kc_ret_ok rfl (rv := some (.inl (Int32.ofInt (-3)))) rfl ⟨⟨_, rfl⟩, Or.inr ⟨rfl, rfl⟩⟩
  | true =>
    rw [if_pos (kx_b1.mpr rfl)]
    refine kx_go 1 (pc' := 25) (L' := [(0, .inr (.inr (.inl (some 0)))), (1, .inl (Int32.ofNat 1))]) (S' := [.inr (.inr (.inl (some 0)))]) (h' := h') (by with_unfolding_all rfl) ?_
    refine kx_getf (c := 0) (v := .inr (.inr (.inl (some 1)))) rfl (by decide) k0 ?_
    refine kx_go 1 (pc' := 29) (L' := [(0, .inr (.inr (.inl (some 0)))), (1, .inl (Int32.ofNat 1))]) (S' := [.inr (.inr (.inl (some 0))), .inr (.inr (.inl (some 1)))]) (h' := h') (by with_unfolding_all rfl) ?_
    refine kx_getf (c := 0) (v := .inr (.inr (.inl (some 63)))) rfl (by decide) k2 ?_
    refine kx_go 1 (pc' := 33) (L' := [(0, .inr (.inr (.inl (some 0)))), (1, .inl (Int32.ofNat 1))]) (S' := [.inl (Int32.ofNat 1), .inr (.inr (.inl (some 63))), .inr (.inr (.inl (some 1)))]) (h' := h') (by with_unfolding_all rfl) ?_
    refine kx_aald (c := 63) (j := 1) (m := 2) (t0 := 3) (v := .inr (.inr (.inl (some 95)))) rfl rfl (by decide) (by decide) (by decide) (by decide) kb ?_
    refine kc_call_rule (M2 := wk_m68) (av := [.inr (.inr (.inl (some 1))), .inr (.inr (.inl (some 95)))]) (r := []) rfl rfl (kc_Con_le (kt_take95_1 (d := 0) hg hw) (by omega)) (fun rv h2 hq => ?_)
    obtain ⟨rfl, rfl⟩ := hq
    show kc_Ev g (d + 3) wk_m159 _ 37 [(0, .inr (.inr (.inl (some 0)))), (1, .inl (Int32.ofNat 1))] [] (kt_K h' 95 1 31)
    refine kx_go 1 (pc' := 38) (L' := [(0, .inr (.inr (.inl (some 0)))), (1, .inl (Int32.ofNat 1))]) (S' := [.inl (Int32.ofNat 1)]) (h' := (kt_K h' 95 1 31)) (by with_unfolding_all rfl) ?_
    exact kc_ret_ok rfl (rv := some (.inl (Int32.ofNat 1))) rfl ⟨⟨_, rfl⟩, Or.inl ⟨rfl, rfl⟩⟩
/-! ===== what is kept alike ===== -/
def kR1 (h : kc_H) (o tx bb r f : Nat) : Prop := h o 0 = h r f ∧ h o 1 = h r (f + 1) ∧ h o 2 = h r (f + 2) ∧ h bb 0 = h r (f + 160) ∧ ∀ j, j < 240 → h tx j = h r (f + 170 + j)
def kI (h : kc_H) (r f : Nat) : Prop := ∃ (n : Nat) (l : Nat → Nat), n ≤ 5 ∧ h r (f + 3) = .inl (Int32.ofNat n) ∧ (∀ i, i < n → 1 ≤ l i ∧ l i ≤ 5 ∧ h r (f + 150 + i) = .inl (Int32.ofNat (l i))) ∧ ∀ i j, i < j → j < n → ¬ l i = l j
def kInv (h : kc_H) : Prop := kd_wt kd_ty h ∧ (kR1 h 1 29 31 260 0 ∧ kR1 h 64 92 94 261 0 ∧ kR1 h 95 123 125 261 650 ∧ ∀ i, i < 2 → h 126 i = h 262 i) ∧ kI h 260 0 ∧ kI h 261 0 ∧ kI h 261 650
theorem kR1_eq {h h' : kc_H} {o tx bb r f : Nat} (e0 : ∀ i, i < 3 → h' o i = h o i) (e1 : ∀ i, i < 3 → h' r (f + i) = h r (f + i)) (e2 : h' bb 0 = h bb 0) (e3 : h' r (f + 160) = h r (f + 160)) (e4 : ∀ j, j < 240 → h' tx j = h tx j) (e5 : ∀ j, j < 240 → h' r (f + 170 + j) = h r (f + 170 + j)) (hR : kR1 h o tx bb r f) : kR1 h' o tx bb r f := by
  obtain ⟨a0, a1, a2, a3, a4⟩ := hR
  refine ⟨?_, ?_, ?_, ?_, fun j hj => ?_⟩
  · rw [e0 0 (by decide), a0]; exact (e1 0 (by decide)).symm
  · rw [e0 1 (by decide), a1]; exact (e1 1 (by decide)).symm
  · rw [e0 2 (by decide), a2]; exact (e1 2 (by decide)).symm
  · rw [e2, a3]; exact e3.symm
  · rw [e4 j hj, a4 j hj]; exact (e5 j hj).symm
theorem kI_eq {h h' : kc_H} {r f : Nat} (e0 : h' r (f + 3) = h r (f + 3)) (e1 : ∀ i, i < 5 → h' r (f + 150 + i) = h r (f + 150 + i)) (hI : kI h r f) : kI h' r f := by
  obtain ⟨n, l, a1, a2, a3, a4⟩ := hI
  exact ⟨n, l, a1, e0.trans a2, fun i hi => ⟨(a3 i hi).1, (a3 i hi).2.1, (e1 i (by omega)).trans (a3 i hi).2.2⟩, a4⟩
theorem kInv_now {h h' : kc_H} (hI : kInv h) (hw : kd_wt kd_ty h') (e1 : ∀ c i, 63 ≤ c → c ≤ 126 → h' c i = h c i) (e2 : ∀ c i, c = 261 ∨ c = 262 → h' c i = h c i) (hR : kR1 h' 1 29 31 260 0) (hL : kI h' 260 0) : kInv h' := by
  obtain ⟨-, ⟨-, b1, b2, b3⟩, -, b4, b5⟩ := hI
  refine ⟨hw, ⟨hR, ?_, ?_, fun i hi => ?_⟩, hL, ?_, ?_⟩
  · exact kR1_eq (fun i _ => e1 64 i (by decide) (by decide)) (fun i _ => e2 261 _ (Or.inl rfl)) (e1 94 0 (by decide) (by decide)) (e2 261 _ (Or.inl rfl)) (fun j _ => e1 92 j (by decide) (by decide)) (fun j _ => e2 261 _ (Or.inl rfl)) b1
  · exact kR1_eq (fun i _ => e1 95 i (by decide) (by decide)) (fun i _ => e2 261 _ (Or.inl rfl)) (e1 125 0 (by decide) (by decide)) (e2 261 _ (Or.inl rfl)) (fun j _ => e1 123 j (by decide) (by decide)) (fun j _ => e2 261 _ (Or.inl rfl)) b2
  · rw [e1 126 i (by decide) (by decide), b3 i hi, e2 262 i (Or.inr rfl)]
  · exact kI_eq (e2 261 _ (Or.inl rfl)) (fun i _ => e2 261 _ (Or.inl rfl)) b4
  · exact kI_eq (e2 261 _ (Or.inl rfl)) (fun i _ => e2 261 _ (Or.inl rfl)) b5
/-- the places of it -/
def kP : List (Nat × Nat × Nat) := [(1, 0, 2), (31, 0, 0), (29, 0, 239), (63, 0, 1), (64, 0, 12), (65, 0, 239), (66, 0, 239), (94, 0, 1), (92, 0, 239), (95, 0, 12), (125, 0, 1), (123, 0, 239), (126, 0, 1), (260, 0, 3), (260, 150, 154), (260, 160, 160), (260, 170, 409), (261, 0, 1299), (262, 0, 1)]
def kP_dis (W : kd_W) : Bool := kP.all fun p => W.all fun q => (Nat.blt p.1 q.1 || Nat.blt q.2.1 p.1) || (Nat.blt p.2.2 q.2.2.1 || Nat.blt q.2.2.2 p.2.1)
theorem kP_r {W : kd_W} {h h' : kc_H} (hd : kP_dis W = true) (hfr : kd_fr W h h') {c a b : Nat} (hm : (c, a, b) ∈ kP) {i : Nat} (h1 : a ≤ i) (h2 : i ≤ b) : h' c i = h c i := by
  refine hfr c i (fun q hq => kb_inr ?_)
  have e := List.all_eq_true.mp (List.all_eq_true.mp hd (c, a, b) hm) q hq
  simp only [Bool.or_eq_true] at e
  rcases e with (e | e) | (e | e)
  · have : c < q.1 := Nat.le_of_ble_eq_true e
    omega
  · have : q.2.1 < c := Nat.le_of_ble_eq_true e
    omega
  · have : b < q.2.2.1 := Nat.le_of_ble_eq_true e
    omega
  · have : q.2.2.2 < a := Nat.le_of_ble_eq_true e
    omega
theorem kInv_fr {W : kd_W} {h h' : kc_H} (hd : kP_dis W = true) (hfr : kd_fr W h h') (hw : kd_wt kd_ty h') (hI : kInv h) : kInv h' := by
  obtain ⟨-, ⟨b0, b1, b2, b3⟩, b4, b5, b6⟩ := hI
  refine ⟨hw, ⟨?_, ?_, ?_, fun i hi => ?_⟩, ?_, ?_, ?_⟩
  · exact kR1_eq (fun i hi => kP_r hd hfr (show (1, 0, 2) ∈ kP by decide) (by omega) (by omega)) (fun i hi => kP_r hd hfr (show (260, 0, 3) ∈ kP by decide) (by omega) (by omega)) (kP_r hd hfr (show (31, 0, 0) ∈ kP by decide) (by omega) (by omega)) (kP_r hd hfr (show (260, 160, 160) ∈ kP by decide) (by omega) (by omega)) (fun j hj => kP_r hd hfr (show (29, 0, 239) ∈ kP by decide) (by omega) (by omega)) (fun j hj => kP_r hd hfr (show (260, 170, 409) ∈ kP by decide) (by omega) (by omega)) b0
  · exact kR1_eq (fun i hi => kP_r hd hfr (show (64, 0, 12) ∈ kP by decide) (by omega) (by omega)) (fun i hi => kP_r hd hfr (show (261, 0, 1299) ∈ kP by decide) (by omega) (by omega)) (kP_r hd hfr (show (94, 0, 1) ∈ kP by decide) (by omega) (by omega)) (kP_r hd hfr (show (261, 0, 1299) ∈ kP by decide) (by omega) (by omega)) (fun j hj => kP_r hd hfr (show (92, 0, 239) ∈ kP by decide) (by omega) (by omega)) (fun j hj => kP_r hd hfr (show (261, 0, 1299) ∈ kP by decide) (by omega) (by omega)) b1
  · exact kR1_eq (fun i hi => kP_r hd hfr (show (95, 0, 12) ∈ kP by decide) (by omega) (by omega)) (fun i hi => kP_r hd hfr (show (261, 0, 1299) ∈ kP by decide) (by omega) (by omega)) (kP_r hd hfr (show (125, 0, 1) ∈ kP by decide) (by omega) (by omega)) (kP_r hd hfr (show (261, 0, 1299) ∈ kP by decide) (by omega) (by omega)) (fun j hj => kP_r hd hfr (show (123, 0, 239) ∈ kP by decide) (by omega) (by omega)) (fun j hj => kP_r hd hfr (show (261, 0, 1299) ∈ kP by decide) (by omega) (by omega)) b2
  · rw [kP_r hd hfr (show (126, 0, 1) ∈ kP by decide) (by omega) (by omega), kP_r hd hfr (show (262, 0, 1) ∈ kP by decide) (by omega) (by omega)]
    exact b3 i hi
  · exact kI_eq (kP_r hd hfr (show (260, 0, 3) ∈ kP by decide) (by omega) (by omega)) (fun i hi => kP_r hd hfr (show (260, 150, 154) ∈ kP by decide) (by omega) (by omega)) b4
  · exact kI_eq (kP_r hd hfr (show (261, 0, 1299) ∈ kP by decide) (by omega) (by omega)) (fun i hi => kP_r hd hfr (show (261, 0, 1299) ∈ kP by decide) (by omega) (by omega)) b5
  · exact kI_eq (kP_r hd hfr (show (261, 0, 1299) ∈ kP by decide) (by omega) (by omega)) (fun i hi => kP_r hd hfr (show (261, 0, 1299) ∈ kP by decide) (by omega) (by omega)) b6
/-- a call that keeps it -/
def kO_i (p : kd_P) : Bool := (match p.1 with
  | some (0, _, _) => true
  | _ => false) && kP_dis p.2.2
def kO_j (p : kd_P) : Bool := (match p.1 with
  | some (2, _, _) => true
  | _ => false) && kP_dis p.2.2
def kQi : Option kc_V → kc_H → Prop := fun rv h' => (∃ z : Int32, rv = some (.inl z)) ∧ kInv h'
def kQj : Option kc_V → kc_H → Prop := fun rv h' => (∃ z : Int64, rv = some (.inr (.inl z))) ∧ kInv h'
theorem kO_ii {g : kc_G} {d id : Nat} {T : kd_Tc} (hh : kd_hold g d kd_ty id T) (hc : T.2.2.all kO_i = true) {xs : List kc_V} {h : kc_H} (hI : kInv h) (hv : wk_f2 (kd_g 0 (fun _ => 0)) T.1 xs) (hF : kd_gF 0 (fun _ => 0) T.2.1 h) : kc_Con g d id xs h kQi := by
  refine kc_Con_mono (hh xs h hI.1 hv hF) (fun rv h' hq => ?_)
  obtain ⟨p, p1, p2, -, p4, p5⟩ := hq
  have hp := List.all_eq_true.mp hc p p1
  unfold kO_i at hp
  rw [Bool.and_eq_true] at hp
  refine ⟨?_, kInv_fr hp.2 p5 p4 hI⟩
  obtain ⟨r, F, V⟩ := p
  match r, rv, hp.1, p2 with
  | some (0, a, b), some y, _, p2 => obtain ⟨z, rfl, -, -⟩ := p2; exact ⟨z, rfl⟩
  | some (0, _, _), none, _, p2 => exact p2.elim
  | some (_ + 1, _, _), _, q, _ => cases q
  | none, _, q, _ => cases q
theorem kO_jj {g : kc_G} {d id : Nat} {T : kd_Tc} (hh : kd_hold g d kd_ty id T) (hc : T.2.2.all kO_j = true) {xs : List kc_V} {h : kc_H} (hI : kInv h) (hv : wk_f2 (kd_g 0 (fun _ => 0)) T.1 xs) (hF : kd_gF 0 (fun _ => 0) T.2.1 h) : kc_Con g d id xs h kQj := by
  refine kc_Con_mono (hh xs h hI.1 hv hF) (fun rv h' hq => ?_)
  obtain ⟨p, p1, p2, -, p4, p5⟩ := hq
  have hp := List.all_eq_true.mp hc p p1
  unfold kO_j at hp
  rw [Bool.and_eq_true] at hp
  refine ⟨?_, kInv_fr hp.2 p5 p4 hI⟩
  obtain ⟨r, F, V⟩ := p
  match r, rv, hp.1, p2 with
  | some (2, a, b), some y, _, p2 => obtain ⟨z, rfl, -, -⟩ := p2; exact ⟨z, rfl⟩
  | some (2, _, _), none, _, p2 => exact p2.elim
  | some (0, _, _), _, q, _ => cases q
  | some (1, _, _), _, q, _ => cases q
  | some (_ + 3, _, _), _, q, _ => cases q
  | none, _, q, _ => cases q
theorem kO_a (a : Int32) : kd_g 0 (fun _ => 0) (0, 0, 4294967295) (.inl a) := kv_gi (by have := kv_lo a; omega) (by have := kv_hi a; omega)
