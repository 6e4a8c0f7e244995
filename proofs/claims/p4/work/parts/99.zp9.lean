/-! ===== image, from: answers alike ===== -/
def fu_af (b : Bool) : Int32 := match b with
  | true => Int32.ofNat 1
  | false => Int32.ofInt (-3)
set_option maxRecDepth 20000 in
theorem fs_Ximage0 {g : kc_G} {d : Nat} {h : kc_H} (hg : kc_ok g) (hw : kd_wt kd_ty h) : kc_Con g (d + 4) 157 [.inr (.inr (.inl (some 0))), .inl (Int32.ofNat 0)] h (fun rv h' => rv = some (.inl (Int32.ofNat 1)) ∧ h' = kc_upd (kt_K h 1 64 31) 126 0 (.inl (kp_b true))) := by
  have k0 := kx_ofr (hw _ _ _ kv_k0.1)
  have k2 := kx_ofr (hw _ _ _ ks_k0.1)
  have k3 := kx_ofr (hw _ _ _ ks_k0.2.1)
  have kb := kx_ofr (hw _ _ _ ks_k0.2.2.1)
  refine kc_Con_new hg (M := wk_m157) rfl rfl rfl (show 2 ≤ 2 by decide) ?_
  refine kx_go 3 (pc' := 3) (L' := [(0, .inr (.inr (.inl (some 0)))), (1, .inl (Int32.ofNat 0))]) (S' := [.inl (Int32.ofNat 1), .inl (Int32.ofNat 0), .inl (Int32.ofNat 0)]) (h' := h) (by with_unfolding_all rfl) ?_
  refine kc_call_rule (M2 := wk_m19) (av := [.inl (Int32.ofNat 0), .inl (Int32.ofNat 0), .inl (Int32.ofNat 1)]) (r := []) rfl rfl (kc_Con_le (kq_btw (d := 0) hg (by decide) (by decide) (by decide)) (by omega)) (fun rv h' hq => ?_)
  obtain ⟨rfl, rfl⟩ := hq
  show kc_Ev g (d + 3) wk_m157 _ 6 [(0, .inr (.inr (.inl (some 0)))), (1, .inl (Int32.ofNat 0))] [.inl (kp_b (decide (0 ≤ 0 ∧ 0 ≤ 1)))] h'
  refine kx_go 1 (pc' := (if kc_cnd .ne (kp_b (decide (0 ≤ 0 ∧ 0 ≤ 1))).toInt 0 then 12 else 9)) (L' := [(0, .inr (.inr (.inl (some 0)))), (1, .inl (Int32.ofNat 0))]) (S' := []) (h' := h') (by with_unfolding_all rfl) ?_
  rw [if_pos (kx_b1.mpr (decide_eq_true (by decide)))]
  refine kx_go 1 (pc' := 13) (L' := [(0, .inr (.inr (.inl (some 0)))), (1, .inl (Int32.ofNat 0))]) (S' := [.inr (.inr (.inl (some 0)))]) (h' := h') (by with_unfolding_all rfl) ?_
  refine kx_getf (c := 0) (v := .inr (.inr (.inl (some 63)))) rfl (by decide) k2 ?_
  refine kx_go 1 (pc' := 17) (L' := [(0, .inr (.inr (.inl (some 0)))), (1, .inl (Int32.ofNat 0))]) (S' := [.inl (Int32.ofNat 0), .inr (.inr (.inl (some 63)))]) (h' := h') (by with_unfolding_all rfl) ?_
  refine kx_aald (c := 63) (j := 0) (m := 2) (t0 := 3) (v := .inr (.inr (.inl (some 64)))) rfl rfl (by decide) (by decide) (by decide) (by decide) kb ?_
  refine kx_go 1 (pc' := 19) (L' := [(0, .inr (.inr (.inl (some 0)))), (1, .inl (Int32.ofNat 0))]) (S' := [.inr (.inr (.inl (some 0))), .inr (.inr (.inl (some 64)))]) (h' := h') (by with_unfolding_all rfl) ?_
  refine kx_getf (c := 0) (v := .inr (.inr (.inl (some 1)))) rfl (by decide) k0 ?_
  refine kc_call_rule (M2 := wk_m68) (av := [.inr (.inr (.inl (some 64))), .inr (.inr (.inl (some 1)))]) (r := []) rfl rfl (kc_Con_le (kt_take1_64 (d := 0) hg hw) (by omega)) (fun rv h2 hq => ?_)
  obtain ⟨rfl, rfl⟩ := hq
  show kc_Ev g (d + 3) wk_m157 _ 25 [(0, .inr (.inr (.inl (some 0)))), (1, .inl (Int32.ofNat 0))] [] (kt_K h' 1 64 31)
  refine kx_go 1 (pc' := 26) (L' := [(0, .inr (.inr (.inl (some 0)))), (1, .inl (Int32.ofNat 0))]) (S' := [.inr (.inr (.inl (some 0)))]) (h' := (kt_K h' 1 64 31)) (by with_unfolding_all rfl) ?_
  refine kx_getf (c := 0) (v := .inr (.inr (.inl (some 126)))) rfl (by decide) ((show kt_K h' 1 64 31 0 3 = h' 0 3 from if_neg (by decide)).trans k3) ?_
  refine kx_go 2 (pc' := 31) (L' := [(0, .inr (.inr (.inl (some 0)))), (1, .inl (Int32.ofNat 0))]) (S' := [.inl (Int32.ofNat 1), .inl (Int32.ofNat 0), .inr (.inr (.inl (some 126)))]) (h' := (kt_K h' 1 64 31)) (by with_unfolding_all rfl) ?_
  refine kx_bast (w := true) rfl (c := 126) (j := 0) (m := 2) rfl (by decide) (by decide) (by decide) ?_
  refine kx_go 1 (pc' := 33) (L' := [(0, .inr (.inr (.inl (some 0)))), (1, .inl (Int32.ofNat 0))]) (S' := [.inl (Int32.ofNat 1)]) (h' := (kc_upd (kt_K h' 1 64 31) 126 0 (.inl (kp_b true)))) (by with_unfolding_all rfl) ?_
  exact kc_ret_ok rfl (rv := some (.inl (Int32.ofNat 1))) rfl ⟨rfl, rfl⟩
set_option maxRecDepth 20000 in
theorem fs_Xfrom0 {g : kc_G} {d : Nat} {h : kc_H} {b : Bool} (hg : kc_ok g) (hw : kd_wt kd_ty h) (hb : h 126 0 = .inl (kp_b b)) : kc_Con g (d + 4) 159 [.inr (.inr (.inl (some 0))), .inl (Int32.ofNat 0)] h (fun rv h' => rv = some (.inl (fu_af b)) ∧ ((b = true ∧ h' = kt_K h 64 1 31) ∨ (b = false ∧ h' = h))) := by
  have k0 := kx_ofr (hw _ _ _ kv_k0.1)
  have k2 := kx_ofr (hw _ _ _ ks_k0.1)
  have k3 := kx_ofr (hw _ _ _ ks_k0.2.1)
  have kb := kx_ofr (hw _ _ _ ks_k0.2.2.1)
  refine kc_Con_new hg (M := wk_m159) rfl rfl rfl (show 2 ≤ 2 by decide) ?_
  refine kx_go 3 (pc' := 3) (L' := [(0, .inr (.inr (.inl (some 0)))), (1, .inl (Int32.ofNat 0))]) (S' := [.inl (Int32.ofNat 1), .inl (Int32.ofNat 0), .inl (Int32.ofNat 0)]) (h' := h) (by with_unfolding_all rfl) ?_
  refine kc_call_rule (M2 := wk_m19) (av := [.inl (Int32.ofNat 0), .inl (Int32.ofNat 0), .inl (Int32.ofNat 1)]) (r := []) rfl rfl (kc_Con_le (kq_btw (d := 0) hg (by decide) (by decide) (by decide)) (by omega)) (fun rv h' hq => ?_)
  obtain ⟨rfl, rfl⟩ := hq
  show kc_Ev g (d + 3) wk_m159 _ 6 [(0, .inr (.inr (.inl (some 0)))), (1, .inl (Int32.ofNat 0))] [.inl (kp_b (decide (0 ≤ 0 ∧ 0 ≤ 1)))] h'
  refine kx_go 1 (pc' := (if kc_cnd .ne (kp_b (decide (0 ≤ 0 ∧ 0 ≤ 1))).toInt 0 then 12 else 9)) (L' := [(0, .inr (.inr (.inl (some 0)))), (1, .inl (Int32.ofNat 0))]) (S' := []) (h' := h') (by with_unfolding_all rfl) ?_
  rw [if_pos (kx_b1.mpr (decide_eq_true (by decide)))]
  refine kx_go 1 (pc' := 13) (L' := [(0, .inr (.inr (.inl (some 0)))), (1, .inl (Int32.ofNat 0))]) (S' := [.inr (.inr (.inl (some 0)))]) (h' := h') (by with_unfolding_all rfl) ?_
  refine kx_getf (c := 0) (v := .inr (.inr (.inl (some 126)))) rfl (by decide) k3 ?_
  refine kx_go 1 (pc' := 17) (L' := [(0, .inr (.inr (.inl (some 0)))), (1, .inl (Int32.ofNat 0))]) (S' := [.inl (Int32.ofNat 0), .inr (.inr (.inl (some 126)))]) (h' := h') (by with_unfolding_all rfl) ?_
  refine kx_bald rfl (c := 126) (j := 0) (m := 2) (v := .inl (kp_b b)) rfl (by decide) (by decide) (by decide) hb ?_
  refine kx_go 1 (pc' := (if kc_cnd .ne (kp_b b).toInt 0 then 24 else 21)) (L' := [(0, .inr (.inr (.inl (some 0)))), (1, .inl (Int32.ofNat 0))]) (S' := []) (h' := h') (by with_unfolding_all rfl) ?_
  cases b with
  | false =>
    rw [if_neg (fun q => by have := kx_b1.mp q; cases this)]
    refine kx_go 1 (pc' := 23) (L' := [(0, .inr (.inr (.inl (some 0)))), (1, .inl (Int32.ofNat 0))]) (S' := [.inl (Int32.ofInt (-3))]) (h' := h') (by with_unfolding_all rfl) ?_
    exact kc_ret_ok rfl (rv := some (.inl (Int32.ofInt (-3)))) rfl ⟨rfl, Or.inr ⟨rfl, rfl⟩⟩
  | true =>
    rw [if_pos (kx_b1.mpr rfl)]
    refine kx_go 1 (pc' := 25) (L' := [(0, .inr (.inr (.inl (some 0)))), (1, .inl (Int32.ofNat 0))]) (S' := [.inr (.inr (.inl (some 0)))]) (h' := h') (by with_unfolding_all rfl) ?_
    refine kx_getf (c := 0) (v := .inr (.inr (.inl (some 1)))) rfl (by decide) k0 ?_
    refine kx_go 1 (pc' := 29) (L' := [(0, .inr (.inr (.inl (some 0)))), (1, .inl (Int32.ofNat 0))]) (S' := [.inr (.inr (.inl (some 0))), .inr (.inr (.inl (some 1)))]) (h' := h') (by with_unfolding_all rfl) ?_
    refine kx_getf (c := 0) (v := .inr (.inr (.inl (some 63)))) rfl (by decide) k2 ?_
    refine kx_go 1 (pc' := 33) (L' := [(0, .inr (.inr (.inl (some 0)))), (1, .inl (Int32.ofNat 0))]) (S' := [.inl (Int32.ofNat 0), .inr (.inr (.inl (some 63))), .inr (.inr (.inl (some 1)))]) (h' := h') (by with_unfolding_all rfl) ?_
    refine kx_aald (c := 63) (j := 0) (m := 2) (t0 := 3) (v := .inr (.inr (.inl (some 64)))) rfl rfl (by decide) (by decide) (by decide) (by decide) kb ?_
    refine kc_call_rule (M2 := wk_m68) (av := [.inr (.inr (.inl (some 1))), .inr (.inr (.inl (some 64)))]) (r := []) rfl rfl (kc_Con_le (kt_take64_1 (d := 0) hg hw) (by omega)) (fun rv h2 hq => ?_)
    obtain ⟨rfl, rfl⟩ := hq
    show kc_Ev g (d + 3) wk_m159 _ 37 [(0, .inr (.inr (.inl (some 0)))), (1, .inl (Int32.ofNat 0))] [] (kt_K h' 64 1 31)
    refine kx_go 1 (pc' := 38) (L' := [(0, .inr (.inr (.inl (some 0)))), (1, .inl (Int32.ofNat 0))]) (S' := [.inl (Int32.ofNat 1)]) (h' := (kt_K h' 64 1 31)) (by with_unfolding_all rfl) ?_
    exact kc_ret_ok rfl (rv := some (.inl (Int32.ofNat 1))) rfl ⟨rfl, Or.inl ⟨rfl, rfl⟩⟩
set_option maxRecDepth 20000 in
theorem fs_Ximage1 {g : kc_G} {d : Nat} {h : kc_H} (hg : kc_ok g) (hw : kd_wt kd_ty h) : kc_Con g (d + 4) 157 [.inr (.inr (.inl (some 0))), .inl (Int32.ofNat 1)] h (fun rv h' => rv = some (.inl (Int32.ofNat 1)) ∧ h' = kc_upd (kt_K h 1 95 31) 126 1 (.inl (kp_b true))) := by
  have k0 := kx_ofr (hw _ _ _ kv_k0.1)
  have k2 := kx_ofr (hw _ _ _ ks_k0.1)
  have k3 := kx_ofr (hw _ _ _ ks_k0.2.1)
  have kb := kx_ofr (hw _ _ _ ks_k0.2.2.2)
  refine kc_Con_new hg (M := wk_m157) rfl rfl rfl (show 2 ≤ 2 by decide) ?_
  refine kx_go 3 (pc' := 3) (L' := [(0, .inr (.inr (.inl (some 0)))), (1, .inl (Int32.ofNat 1))]) (S' := [.inl (Int32.ofNat 1), .inl (Int32.ofNat 0), .inl (Int32.ofNat 1)]) (h' := h) (by with_unfolding_all rfl) ?_
  refine kc_call_rule (M2 := wk_m19) (av := [.inl (Int32.ofNat 1), .inl (Int32.ofNat 0), .inl (Int32.ofNat 1)]) (r := []) rfl rfl (kc_Con_le (kq_btw (d := 0) hg (by decide) (by decide) (by decide)) (by omega)) (fun rv h' hq => ?_)
  obtain ⟨rfl, rfl⟩ := hq
  show kc_Ev g (d + 3) wk_m157 _ 6 [(0, .inr (.inr (.inl (some 0)))), (1, .inl (Int32.ofNat 1))] [.inl (kp_b (decide (0 ≤ 1 ∧ 1 ≤ 1)))] h'
  refine kx_go 1 (pc' := (if kc_cnd .ne (kp_b (decide (0 ≤ 1 ∧ 1 ≤ 1))).toInt 0 then 12 else 9)) (L' := [(0, .inr (.inr (.inl (some 0)))), (1, .inl (Int32.ofNat 1))]) (S' := []) (h' := h') (by with_unfolding_all rfl) ?_
  rw [if_pos (kx_b1.mpr (decide_eq_true (by decide)))]
  refine kx_go 1 (pc' := 13) (L' := [(0, .inr (.inr (.inl (some 0)))), (1, .inl (Int32.ofNat 1))]) (S' := [.inr (.inr (.inl (some 0)))]) (h' := h') (by with_unfolding_all rfl) ?_
  refine kx_getf (c := 0) (v := .inr (.inr (.inl (some 63)))) rfl (by decide) k2 ?_
  refine kx_go 1 (pc' := 17) (L' := [(0, .inr (.inr (.inl (some 0)))), (1, .inl (Int32.ofNat 1))]) (S' := [.inl (Int32.ofNat 1), .inr (.inr (.inl (some 63)))]) (h' := h') (by with_unfolding_all rfl) ?_
  refine kx_aald (c := 63) (j := 1) (m := 2) (t0 := 3) (v := .inr (.inr (.inl (some 95)))) rfl rfl (by decide) (by decide) (by decide) (by decide) kb ?_
  refine kx_go 1 (pc' := 19) (L' := [(0, .inr (.inr (.inl (some 0)))), (1, .inl (Int32.ofNat 1))]) (S' := [.inr (.inr (.inl (some 0))), .inr (.inr (.inl (some 95)))]) (h' := h') (by with_unfolding_all rfl) ?_
  refine kx_getf (c := 0) (v := .inr (.inr (.inl (some 1)))) rfl (by decide) k0 ?_
  refine kc_call_rule (M2 := wk_m68) (av := [.inr (.inr (.inl (some 95))), .inr (.inr (.inl (some 1)))]) (r := []) rfl rfl (kc_Con_le (kt_take1_95 (d := 0) hg hw) (by omega)) (fun rv h2 hq => ?_)
  obtain ⟨rfl, rfl⟩ := hq
  show kc_Ev g (d + 3) wk_m157 _ 25 [(0, .inr (.inr (.inl (some 0)))), (1, .inl (Int32.ofNat 1))] [] (kt_K h' 1 95 31)
  refine kx_go 1 (pc' := 26) (L' := [(0, .inr (.inr (.inl (some 0)))), (1, .inl (Int32.ofNat 1))]) (S' := [.inr (.inr (.inl (some 0)))]) (h' := (kt_K h' 1 95 31)) (by with_unfolding_all rfl) ?_
  refine kx_getf (c := 0) (v := .inr (.inr (.inl (some 126)))) rfl (by decide) ((show kt_K h' 1 95 31 0 3 = h' 0 3 from if_neg (by decide)).trans k3) ?_
  refine kx_go 2 (pc' := 31) (L' := [(0, .inr (.inr (.inl (some 0)))), (1, .inl (Int32.ofNat 1))]) (S' := [.inl (Int32.ofNat 1), .inl (Int32.ofNat 1), .inr (.inr (.inl (some 126)))]) (h' := (kt_K h' 1 95 31)) (by with_unfolding_all rfl) ?_
  refine kx_bast (w := true) rfl (c := 126) (j := 1) (m := 2) rfl (by decide) (by decide) (by decide) ?_
  refine kx_go 1 (pc' := 33) (L' := [(0, .inr (.inr (.inl (some 0)))), (1, .inl (Int32.ofNat 1))]) (S' := [.inl (Int32.ofNat 1)]) (h' := (kc_upd (kt_K h' 1 95 31) 126 1 (.inl (kp_b true)))) (by with_unfolding_all rfl) ?_
  exact kc_ret_ok rfl (rv := some (.inl (Int32.ofNat 1))) rfl ⟨rfl, rfl⟩
set_option maxRecDepth 20000 in
theorem fs_Xfrom1 {g : kc_G} {d : Nat} {h : kc_H} {b : Bool} (hg : kc_ok g) (hw : kd_wt kd_ty h) (hb : h 126 1 = .inl (kp_b b)) : kc_Con g (d + 4) 159 [.inr (.inr (.inl (some 0))), .inl (Int32.ofNat 1)] h (fun rv h' => rv = some (.inl (fu_af b)) ∧ ((b = true ∧ h' = kt_K h 95 1 31) ∨ (b = false ∧ h' = h))) := by
  have k0 := kx_ofr (hw _ _ _ kv_k0.1)
  have k2 := kx_ofr (hw _ _ _ ks_k0.1)
  have k3 := kx_ofr (hw _ _ _ ks_k0.2.1)
  have kb := kx_ofr (hw _ _ _ ks_k0.2.2.2)
  refine kc_Con_new hg (M := wk_m159) rfl rfl rfl (show 2 ≤ 2 by decide) ?_
  refine kx_go 3 (pc' := 3) (L' := [(0, .inr (.inr (.inl (some 0)))), (1, .inl (Int32.ofNat 1))]) (S' := [.inl (Int32.ofNat 1), .inl (Int32.ofNat 0), .inl (Int32.ofNat 1)]) (h' := h) (by with_unfolding_all rfl) ?_
  refine kc_call_rule (M2 := wk_m19) (av := [.inl (Int32.ofNat 1), .inl (Int32.ofNat 0), .inl (Int32.ofNat 1)]) (r := []) rfl rfl (kc_Con_le (kq_btw (d := 0) hg (by decide) (by decide) (by decide)) (by omega)) (fun rv h' hq => ?_)
  obtain ⟨rfl, rfl⟩ := hq
  show kc_Ev g (d + 3) wk_m159 _ 6 [(0, .inr (.inr (.inl (some 0)))), (1, .inl (Int32.ofNat 1))] [.inl (kp_b (decide (0 ≤ 1 ∧ 1 ≤ 1)))] h'
  refine kx_go 1 (pc' := (if kc_cnd .ne (kp_b (decide (0 ≤ 1 ∧ 1 ≤ 1))).toInt 0 then 12 else 9)) (L' := [(0, .inr (.inr (.inl (some 0)))), (1, .inl (Int32.ofNat 1))]) (S' := []) (h' := h') (by with_unfolding_all rfl) ?_
  rw [if_pos (kx_b1.mpr (decide_eq_true (by decide)))]
  refine kx_go 1 (pc' := 13) (L' := [(0, .inr (.inr (.inl (some 0)))), (1, .inl (Int32.ofNat 1))]) (S' := [.inr (.inr (.inl (some 0)))]) (h' := h') (by with_unfolding_all rfl) ?_
  refine kx_getf (c := 0) (v := .inr (.inr (.inl (some 126)))) rfl (by decide) k3 ?_
  refine kx_go 1 (pc' := 17) (L' := [(0, .inr (.inr (.inl (some 0)))), (1, .inl (Int32.ofNat 1))]) (S' := [.inl (Int32.ofNat 1), .inr (.inr (.inl (some 126)))]) (h' := h') (by with_unfolding_all rfl) ?_
  refine kx_bald rfl (c := 126) (j := 1) (m := 2) (v := .inl (kp_b b)) rfl (by decide) (by decide) (by decide) hb ?_
  refine kx_go 1 (pc' := (if kc_cnd .ne (kp_b b).toInt 0 then 24 else 21)) (L' := [(0, .inr (.inr (.inl (some 0)))), (1, .inl (Int32.ofNat 1))]) (S' := []) (h' := h') (by with_unfolding_all rfl) ?_
  cases b with
  | false =>
    rw [if_neg (fun q => by have := kx_b1.mp q; cases this)]
    refine kx_go 1 (pc' := 23) (L' := [(0, .inr (.inr (.inl (some 0)))), (1, .inl (Int32.ofNat 1))]) (S' := [.inl (Int32.ofInt (-3))]) (h' := h') (by with_unfolding_all rfl) ?_
    exact kc_ret_ok rfl (rv := some (.inl (Int32.ofInt (-3)))) rfl ⟨rfl, Or.inr ⟨rfl, rfl⟩⟩
  | true =>
    rw [if_pos (kx_b1.mpr rfl)]
    refine kx_go 1 (pc' := 25) (L' := [(0, .inr (.inr (.inl (some 0)))), (1, .inl (Int32.ofNat 1))]) (S' := [.inr (.inr (.inl (some 0)))]) (h' := h') (by with_unfolding_all rfl) ?_
    refine kx_getf (c := 0) (v := .inr (.inr (.inl (some 1)))) rfl (by decide) k0 ?_
    refine kx_go 1 (pc' := 29) (L' := [(0, .inr (.inr (.inl (some 0)))), (1, .inl (Int32.ofNat 1))]) (S' := [.inr (.inr (.inl (some 0))), .inr (.inr (.inl (some 1)))]) (h' := h') (by with_unfolding_all rfl) ?_
    refine kx_getf (c := 0) (v := .inr (.inr (.inl (some 63)))) rfl (by decide) k2 ?_
    refine kx_go 1 (pc' := 33) (L' := [(0, .inr (.inr (.inl (some 0)))), (1, .inl (Int32.ofNat 1))]) (S' := [.inl (Int32.ofNat 1), .inr (.inr (.inl (some 63))), .inr (.inr (.inl (some 1)))]) (h' := h') (by with_unfolding_all rfl) ?_
    refine kx_aald (c := 63) (j := 1) (m := 2) (t0 := 3) (v := .inr (.inr (.inl (some 95)))) rfl rfl (by decide) (by decide) (by decide) (by decide) kb ?_
    refine kc_call_rule (M2 := wk_m68) (av := [.inr (.inr (.inl (some 1))), .inr (.inr (.inl (some 95)))]) (r := []) rfl rfl (kc_Con_le (kt_take95_1 (d := 0) hg hw) (by omega)) (fun rv h2 hq => ?_)
    obtain ⟨rfl, rfl⟩ := hq
    show kc_Ev g (d + 3) wk_m159 _ 37 [(0, .inr (.inr (.inl (some 0)))), (1, .inl (Int32.ofNat 1))] [] (kt_K h' 95 1 31)
    refine kx_go 1 (pc' := 38) (L' := [(0, .inr (.inr (.inl (some 0)))), (1, .inl (Int32.ofNat 1))]) (S' := [.inl (Int32.ofNat 1)]) (h' := (kt_K h' 95 1 31)) (by with_unfolding_all rfl) ?_
    exact kc_ret_ok rfl (rv := some (.inl (Int32.ofNat 1))) rfl ⟨rfl, Or.inl ⟨rfl, rfl⟩⟩
