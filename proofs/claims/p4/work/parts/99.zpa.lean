/-! ===== the day's items, exactly ===== -/
def fu_step (v : Nat) (n : Nat → Nat) (B : Nat → Int32) : fu_S := match v with
  | 0 => fu_mule B (Int32.ofNat (n 0)) (Int32.ofNat (n 1)) (Int32.ofNat (n 2))
  | 1 => fu_load B (Int32.ofNat (n 0)) (Int32.ofNat (n 1)) (Int32.ofNat (n 2)) (Int32.ofNat (n 3))
  | 2 => fu_door B
  | 3 => fu_way B (Int32.ofNat (n 0)) (Int32.ofNat (n 1)) (Int32.ofNat (n 2))
  | 4 => fu_lame B (Int32.ofNat (n 0)) (Int32.ofNat (n 1)) (Int32.ofNat (n 2))
  | 5 => fu_ford B (Int32.ofNat (n 0))
  | 6 => fu_ofl B 4 100 (Int32.ofNat (n 0)) (Int32.ofNat (n 1))
  | 7 => fu_ofl B 5 9 (Int32.ofNat (n 0)) (Int32.ofNat (n 1))
  | _ => fu_stones B (Int32.ofNat (n 0)) (Int32.ofNat (n 1))
theorem fu_step_c {v : Nat} {n n' : Nat → Nat} {B : Nat → Int32} (hv : v < 9) (h : ∀ k, k < ks_L (kp_sh v) → n k = n' k) : fu_step v n B = fu_step v n' B := by
  obtain ⟨a0, a1, a2, a3, a4, a5, a6, a7, a8⟩ := kv_ar
  rcases (show v = 0 ∨ v = 1 ∨ v = 2 ∨ v = 3 ∨ v = 4 ∨ v = 5 ∨ v = 6 ∨ v = 7 ∨ v = 8 by omega) with rfl | rfl | rfl | rfl | rfl | rfl | rfl | rfl | rfl
  · show fu_mule B _ _ _ = fu_mule B _ _ _; rw [h 0 (by omega), h 1 (by omega), h 2 (by omega)]
  · show fu_load B _ _ _ _ = fu_load B _ _ _ _; rw [h 0 (by omega), h 1 (by omega), h 2 (by omega), h 3 (by omega)]
  · show fu_door B = fu_door B; exact Eq.refl _
  · show fu_way B _ _ _ = fu_way B _ _ _; rw [h 0 (by omega), h 1 (by omega), h 2 (by omega)]
  · show fu_lame B _ _ _ = fu_lame B _ _ _; rw [h 0 (by omega), h 1 (by omega), h 2 (by omega)]
  · show fu_ford B _ = fu_ford B _; rw [h 0 (by omega)]
  · show fu_ofl B 4 100 _ _ = fu_ofl B 4 100 _ _; rw [h 0 (by omega), h 1 (by omega)]
  · show fu_ofl B 5 9 _ _ = fu_ofl B 5 9 _ _; rw [h 0 (by omega), h 1 (by omega)]
  · show fu_stones B _ _ = fu_stones B _ _; rw [h 0 (by omega), h 1 (by omega)]
theorem fu_g_step {v : Nat} {n : Nat → Nat} {B : Nat → Int32} (hv : v < 9) (hB : fu_BT B) : fu_gd (fu_step v n B).2 := by
  rcases (show v = 0 ∨ v = 1 ∨ v = 2 ∨ v = 3 ∨ v = 4 ∨ v = 5 ∨ v = 6 ∨ v = 7 ∨ v = 8 by omega) with rfl | rfl | rfl | rfl | rfl | rfl | rfl | rfl | rfl
  · exact fu_g_mule hB
  · exact fu_g_load hB
  · exact fu_g_door hB
  · exact fu_g_way hB
  · exact fu_g_lame hB
  · exact fu_g_ford hB
  · exact fu_g_ask hB
  · exact fu_g_drain hB
  · exact fu_g_stones hB
set_option maxRecDepth 20000 in
theorem fu_tell0 {g : kc_G} {h : kc_H} {i : Nat} {B : Nat → Int32} {n : Nat → Nat} (hg : kc_ok g) (hw : kd_wt kd_ty h) (hi : i < 60) (hC : fu_C B 1 h) (hB : fu_BT B) (en : ∀ k, k < 4 → h (130 + i) k = .inl (Int32.ofNat (n k)) ∧ n k < 1000) : kc_Con g 6 181 [.inr (.inr (.inl (some 1))), .inl (Int32.ofNat 0), .inr (.inr (.inl (some (130 + i))))] h (fun rv h' => rv = some (.inl (fu_step 0 n B).1) ∧ h' = fu_cw 1 (fu_step 0 n B).2 h) := by
  obtain ⟨en0, nb0⟩ := en 0 (by omega)
  obtain ⟨en1, nb1⟩ := en 1 (by omega)
  obtain ⟨en2, nb2⟩ := en 2 (by omega)
  refine kc_Con_new hg (M := wk_m181) rfl rfl rfl (show 3 ≤ 3 by decide) ?_
  refine kx_go 2 (pc' := 52) (L' := [(0, .inr (.inr (.inl (some 1)))), (1, .inl (Int32.ofNat 0)), (2, .inr (.inr (.inl (some (130 + i)))))]) (S' := []) (h' := h) (by with_unfolding_all rfl) ?_
  refine kx_go 3 (pc' := 55) (L' := [(0, .inr (.inr (.inl (some 1)))), (1, .inl (Int32.ofNat 0)), (2, .inr (.inr (.inl (some (130 + i)))))]) (S' := [.inl (Int32.ofNat 0), .inr (.inr (.inl (some (130 + i)))), .inr (.inr (.inl (some 1)))]) (h' := h) (by with_unfolding_all rfl) ?_
  refine kx_iald rfl (c := 130 + i) (j := 0) (m := 4) (v := .inl (Int32.ofNat (n 0))) (kr_rows i hi).1 (kr_rows i hi).2 (by decide) (by decide) en0 ?_
  refine kx_go 2 (pc' := 58) (L' := [(0, .inr (.inr (.inl (some 1)))), (1, .inl (Int32.ofNat 0)), (2, .inr (.inr (.inl (some (130 + i)))))]) (S' := [.inl (Int32.ofNat 1), .inr (.inr (.inl (some (130 + i)))), .inl (Int32.ofNat (n 0)), .inr (.inr (.inl (some 1)))]) (h' := h) (by with_unfolding_all rfl) ?_
  refine kx_iald rfl (c := 130 + i) (j := 1) (m := 4) (v := .inl (Int32.ofNat (n 1))) (kr_rows i hi).1 (kr_rows i hi).2 (by decide) (by decide) en1 ?_
  refine kx_go 2 (pc' := 61) (L' := [(0, .inr (.inr (.inl (some 1)))), (1, .inl (Int32.ofNat 0)), (2, .inr (.inr (.inl (some (130 + i)))))]) (S' := [.inl (Int32.ofNat 2), .inr (.inr (.inl (some (130 + i)))), .inl (Int32.ofNat (n 1)), .inl (Int32.ofNat (n 0)), .inr (.inr (.inl (some 1)))]) (h' := h) (by with_unfolding_all rfl) ?_
  refine kx_iald rfl (c := 130 + i) (j := 2) (m := 4) (v := .inl (Int32.ofNat (n 2))) (kr_rows i hi).1 (kr_rows i hi).2 (by decide) (by decide) en2 ?_
  refine kc_call_rule (M2 := wk_m33) (av := [.inr (.inr (.inl (some 1))), .inl (Int32.ofNat (n 0)), .inl (Int32.ofNat (n 1)), .inl (Int32.ofNat (n 2))]) (r := []) rfl rfl (kc_Con_le (fu_c33 (d := 0) hg hw hC hB) (by decide)) (fun rv h9 hq => ?_)
  obtain ⟨rfl, e9⟩ := hq
  exact kc_ret_ok rfl (rv := some (.inl _)) rfl ⟨rfl, e9⟩
set_option maxRecDepth 20000 in
theorem fu_tell1 {g : kc_G} {h : kc_H} {i : Nat} {B : Nat → Int32} {n : Nat → Nat} (hg : kc_ok g) (hw : kd_wt kd_ty h) (hi : i < 60) (hC : fu_C B 1 h) (hB : fu_BT B) (en : ∀ k, k < 4 → h (130 + i) k = .inl (Int32.ofNat (n k)) ∧ n k < 1000) : kc_Con g 6 181 [.inr (.inr (.inl (some 1))), .inl (Int32.ofNat 1), .inr (.inr (.inl (some (130 + i))))] h (fun rv h' => rv = some (.inl (fu_step 1 n B).1) ∧ h' = fu_cw 1 (fu_step 1 n B).2 h) := by
  obtain ⟨en0, nb0⟩ := en 0 (by omega)
  obtain ⟨en1, nb1⟩ := en 1 (by omega)
  obtain ⟨en2, nb2⟩ := en 2 (by omega)
  obtain ⟨en3, nb3⟩ := en 3 (by omega)
  refine kc_Con_new hg (M := wk_m181) rfl rfl rfl (show 3 ≤ 3 by decide) ?_
  refine kx_go 2 (pc' := 66) (L' := [(0, .inr (.inr (.inl (some 1)))), (1, .inl (Int32.ofNat 1)), (2, .inr (.inr (.inl (some (130 + i)))))]) (S' := []) (h' := h) (by with_unfolding_all rfl) ?_
  refine kx_go 3 (pc' := 69) (L' := [(0, .inr (.inr (.inl (some 1)))), (1, .inl (Int32.ofNat 1)), (2, .inr (.inr (.inl (some (130 + i)))))]) (S' := [.inl (Int32.ofNat 0), .inr (.inr (.inl (some (130 + i)))), .inr (.inr (.inl (some 1)))]) (h' := h) (by with_unfolding_all rfl) ?_
  refine kx_iald rfl (c := 130 + i) (j := 0) (m := 4) (v := .inl (Int32.ofNat (n 0))) (kr_rows i hi).1 (kr_rows i hi).2 (by decide) (by decide) en0 ?_
  refine kx_go 2 (pc' := 72) (L' := [(0, .inr (.inr (.inl (some 1)))), (1, .inl (Int32.ofNat 1)), (2, .inr (.inr (.inl (some (130 + i)))))]) (S' := [.inl (Int32.ofNat 1), .inr (.inr (.inl (some (130 + i)))), .inl (Int32.ofNat (n 0)), .inr (.inr (.inl (some 1)))]) (h' := h) (by with_unfolding_all rfl) ?_
  refine kx_iald rfl (c := 130 + i) (j := 1) (m := 4) (v := .inl (Int32.ofNat (n 1))) (kr_rows i hi).1 (kr_rows i hi).2 (by decide) (by decide) en1 ?_
  refine kx_go 2 (pc' := 75) (L' := [(0, .inr (.inr (.inl (some 1)))), (1, .inl (Int32.ofNat 1)), (2, .inr (.inr (.inl (some (130 + i)))))]) (S' := [.inl (Int32.ofNat 2), .inr (.inr (.inl (some (130 + i)))), .inl (Int32.ofNat (n 1)), .inl (Int32.ofNat (n 0)), .inr (.inr (.inl (some 1)))]) (h' := h) (by with_unfolding_all rfl) ?_
  refine kx_iald rfl (c := 130 + i) (j := 2) (m := 4) (v := .inl (Int32.ofNat (n 2))) (kr_rows i hi).1 (kr_rows i hi).2 (by decide) (by decide) en2 ?_
  refine kx_go 2 (pc' := 78) (L' := [(0, .inr (.inr (.inl (some 1)))), (1, .inl (Int32.ofNat 1)), (2, .inr (.inr (.inl (some (130 + i)))))]) (S' := [.inl (Int32.ofNat 3), .inr (.inr (.inl (some (130 + i)))), .inl (Int32.ofNat (n 2)), .inl (Int32.ofNat (n 1)), .inl (Int32.ofNat (n 0)), .inr (.inr (.inl (some 1)))]) (h' := h) (by with_unfolding_all rfl) ?_
  refine kx_iald rfl (c := 130 + i) (j := 3) (m := 4) (v := .inl (Int32.ofNat (n 3))) (kr_rows i hi).1 (kr_rows i hi).2 (by decide) (by decide) en3 ?_
  refine kc_call_rule (M2 := wk_m42) (av := [.inr (.inr (.inl (some 1))), .inl (Int32.ofNat (n 0)), .inl (Int32.ofNat (n 1)), .inl (Int32.ofNat (n 2)), .inl (Int32.ofNat (n 3))]) (r := []) rfl rfl (kc_Con_le (fu_c42 (d := 0) hg hw hC hB) (by decide)) (fun rv h9 hq => ?_)
  obtain ⟨rfl, e9⟩ := hq
  exact kc_ret_ok rfl (rv := some (.inl _)) rfl ⟨rfl, e9⟩
set_option maxRecDepth 20000 in
theorem fu_tell2 {g : kc_G} {h : kc_H} {i : Nat} {B : Nat → Int32} {n : Nat → Nat} (hg : kc_ok g) (hw : kd_wt kd_ty h) (hi : i < 60) (hC : fu_C B 1 h) (hB : fu_BT B) (en : ∀ k, k < 4 → h (130 + i) k = .inl (Int32.ofNat (n k)) ∧ n k < 1000) : kc_Con g 6 181 [.inr (.inr (.inl (some 1))), .inl (Int32.ofNat 2), .inr (.inr (.inl (some (130 + i))))] h (fun rv h' => rv = some (.inl (fu_step 2 n B).1) ∧ h' = fu_cw 1 (fu_step 2 n B).2 h) := by
  refine kc_Con_new hg (M := wk_m181) rfl rfl rfl (show 3 ≤ 3 by decide) ?_
  refine kx_go 2 (pc' := 83) (L' := [(0, .inr (.inr (.inl (some 1)))), (1, .inl (Int32.ofNat 2)), (2, .inr (.inr (.inl (some (130 + i)))))]) (S' := []) (h' := h) (by with_unfolding_all rfl) ?_
  refine kx_go 1 (pc' := 84) (L' := [(0, .inr (.inr (.inl (some 1)))), (1, .inl (Int32.ofNat 2)), (2, .inr (.inr (.inl (some (130 + i)))))]) (S' := [.inr (.inr (.inl (some 1)))]) (h' := h) (by with_unfolding_all rfl) ?_
  refine kc_call_rule (M2 := wk_m14) (av := [.inr (.inr (.inl (some 1)))]) (r := []) rfl rfl (kc_Con_le (fu_c14 (d := 0) hg hw hC hB) (by decide)) (fun rv h9 hq => ?_)
  obtain ⟨rfl, e9⟩ := hq
  exact kc_ret_ok rfl (rv := some (.inl _)) rfl ⟨rfl, e9⟩
set_option maxRecDepth 20000 in
theorem fu_tell3 {g : kc_G} {h : kc_H} {i : Nat} {B : Nat → Int32} {n : Nat → Nat} (hg : kc_ok g) (hw : kd_wt kd_ty h) (hi : i < 60) (hC : fu_C B 1 h) (hB : fu_BT B) (en : ∀ k, k < 4 → h (130 + i) k = .inl (Int32.ofNat (n k)) ∧ n k < 1000) : kc_Con g 6 181 [.inr (.inr (.inl (some 1))), .inl (Int32.ofNat 3), .inr (.inr (.inl (some (130 + i))))] h (fun rv h' => rv = some (.inl (fu_step 3 n B).1) ∧ h' = fu_cw 1 (fu_step 3 n B).2 h) := by
  obtain ⟨en0, nb0⟩ := en 0 (by omega)
  obtain ⟨en1, nb1⟩ := en 1 (by omega)
  obtain ⟨en2, nb2⟩ := en 2 (by omega)
  refine kc_Con_new hg (M := wk_m181) rfl rfl rfl (show 3 ≤ 3 by decide) ?_
  refine kx_go 2 (pc' := 88) (L' := [(0, .inr (.inr (.inl (some 1)))), (1, .inl (Int32.ofNat 3)), (2, .inr (.inr (.inl (some (130 + i)))))]) (S' := []) (h' := h) (by with_unfolding_all rfl) ?_
  refine kx_go 3 (pc' := 91) (L' := [(0, .inr (.inr (.inl (some 1)))), (1, .inl (Int32.ofNat 3)), (2, .inr (.inr (.inl (some (130 + i)))))]) (S' := [.inl (Int32.ofNat 0), .inr (.inr (.inl (some (130 + i)))), .inr (.inr (.inl (some 1)))]) (h' := h) (by with_unfolding_all rfl) ?_
  refine kx_iald rfl (c := 130 + i) (j := 0) (m := 4) (v := .inl (Int32.ofNat (n 0))) (kr_rows i hi).1 (kr_rows i hi).2 (by decide) (by decide) en0 ?_
  refine kx_go 2 (pc' := 94) (L' := [(0, .inr (.inr (.inl (some 1)))), (1, .inl (Int32.ofNat 3)), (2, .inr (.inr (.inl (some (130 + i)))))]) (S' := [.inl (Int32.ofNat 1), .inr (.inr (.inl (some (130 + i)))), .inl (Int32.ofNat (n 0)), .inr (.inr (.inl (some 1)))]) (h' := h) (by with_unfolding_all rfl) ?_
  refine kx_iald rfl (c := 130 + i) (j := 1) (m := 4) (v := .inl (Int32.ofNat (n 1))) (kr_rows i hi).1 (kr_rows i hi).2 (by decide) (by decide) en1 ?_
  refine kx_go 2 (pc' := 97) (L' := [(0, .inr (.inr (.inl (some 1)))), (1, .inl (Int32.ofNat 3)), (2, .inr (.inr (.inl (some (130 + i)))))]) (S' := [.inl (Int32.ofNat 2), .inr (.inr (.inl (some (130 + i)))), .inl (Int32.ofNat (n 1)), .inl (Int32.ofNat (n 0)), .inr (.inr (.inl (some 1)))]) (h' := h) (by with_unfolding_all rfl) ?_
  refine kx_iald rfl (c := 130 + i) (j := 2) (m := 4) (v := .inl (Int32.ofNat (n 2))) (kr_rows i hi).1 (kr_rows i hi).2 (by decide) (by decide) en2 ?_
  refine kc_call_rule (M2 := wk_m17) (av := [.inr (.inr (.inl (some 1))), .inl (Int32.ofNat (n 0)), .inl (Int32.ofNat (n 1)), .inl (Int32.ofNat (n 2))]) (r := []) rfl rfl (kc_Con_le (fu_c17 (d := 0) hg hw hC hB) (by decide)) (fun rv h9 hq => ?_)
  obtain ⟨rfl, e9⟩ := hq
  exact kc_ret_ok rfl (rv := some (.inl _)) rfl ⟨rfl, e9⟩
set_option maxRecDepth 20000 in
theorem fu_tell4 {g : kc_G} {h : kc_H} {i : Nat} {B : Nat → Int32} {n : Nat → Nat} (hg : kc_ok g) (hw : kd_wt kd_ty h) (hi : i < 60) (hC : fu_C B 1 h) (hB : fu_BT B) (en : ∀ k, k < 4 → h (130 + i) k = .inl (Int32.ofNat (n k)) ∧ n k < 1000) : kc_Con g 6 181 [.inr (.inr (.inl (some 1))), .inl (Int32.ofNat 4), .inr (.inr (.inl (some (130 + i))))] h (fun rv h' => rv = some (.inl (fu_step 4 n B).1) ∧ h' = fu_cw 1 (fu_step 4 n B).2 h) := by
  obtain ⟨en0, nb0⟩ := en 0 (by omega)
  obtain ⟨en1, nb1⟩ := en 1 (by omega)
  obtain ⟨en2, nb2⟩ := en 2 (by omega)
  refine kc_Con_new hg (M := wk_m181) rfl rfl rfl (show 3 ≤ 3 by decide) ?_
  refine kx_go 2 (pc' := 102) (L' := [(0, .inr (.inr (.inl (some 1)))), (1, .inl (Int32.ofNat 4)), (2, .inr (.inr (.inl (some (130 + i)))))]) (S' := []) (h' := h) (by with_unfolding_all rfl) ?_
  refine kx_go 3 (pc' := 105) (L' := [(0, .inr (.inr (.inl (some 1)))), (1, .inl (Int32.ofNat 4)), (2, .inr (.inr (.inl (some (130 + i)))))]) (S' := [.inl (Int32.ofNat 0), .inr (.inr (.inl (some (130 + i)))), .inr (.inr (.inl (some 1)))]) (h' := h) (by with_unfolding_all rfl) ?_
  refine kx_iald rfl (c := 130 + i) (j := 0) (m := 4) (v := .inl (Int32.ofNat (n 0))) (kr_rows i hi).1 (kr_rows i hi).2 (by decide) (by decide) en0 ?_
  refine kx_go 2 (pc' := 108) (L' := [(0, .inr (.inr (.inl (some 1)))), (1, .inl (Int32.ofNat 4)), (2, .inr (.inr (.inl (some (130 + i)))))]) (S' := [.inl (Int32.ofNat 1), .inr (.inr (.inl (some (130 + i)))), .inl (Int32.ofNat (n 0)), .inr (.inr (.inl (some 1)))]) (h' := h) (by with_unfolding_all rfl) ?_
  refine kx_iald rfl (c := 130 + i) (j := 1) (m := 4) (v := .inl (Int32.ofNat (n 1))) (kr_rows i hi).1 (kr_rows i hi).2 (by decide) (by decide) en1 ?_
  refine kx_go 2 (pc' := 111) (L' := [(0, .inr (.inr (.inl (some 1)))), (1, .inl (Int32.ofNat 4)), (2, .inr (.inr (.inl (some (130 + i)))))]) (S' := [.inl (Int32.ofNat 2), .inr (.inr (.inl (some (130 + i)))), .inl (Int32.ofNat (n 1)), .inl (Int32.ofNat (n 0)), .inr (.inr (.inl (some 1)))]) (h' := h) (by with_unfolding_all rfl) ?_
  refine kx_iald rfl (c := 130 + i) (j := 2) (m := 4) (v := .inl (Int32.ofNat (n 2))) (kr_rows i hi).1 (kr_rows i hi).2 (by decide) (by decide) en2 ?_
  refine kc_call_rule (M2 := wk_m36) (av := [.inr (.inr (.inl (some 1))), .inl (Int32.ofNat (n 0)), .inl (Int32.ofNat (n 1)), .inl (Int32.ofNat (n 2))]) (r := []) rfl rfl (kc_Con_le (fu_c36 (d := 0) hg hw hC hB) (by decide)) (fun rv h9 hq => ?_)
  obtain ⟨rfl, e9⟩ := hq
  exact kc_ret_ok rfl (rv := some (.inl _)) rfl ⟨rfl, e9⟩
set_option maxRecDepth 20000 in
theorem fu_tell5 {g : kc_G} {h : kc_H} {i : Nat} {B : Nat → Int32} {n : Nat → Nat} (hg : kc_ok g) (hw : kd_wt kd_ty h) (hi : i < 60) (hC : fu_C B 1 h) (hB : fu_BT B) (en : ∀ k, k < 4 → h (130 + i) k = .inl (Int32.ofNat (n k)) ∧ n k < 1000) : kc_Con g 6 181 [.inr (.inr (.inl (some 1))), .inl (Int32.ofNat 5), .inr (.inr (.inl (some (130 + i))))] h (fun rv h' => rv = some (.inl (fu_step 5 n B).1) ∧ h' = fu_cw 1 (fu_step 5 n B).2 h) := by
  obtain ⟨en0, nb0⟩ := en 0 (by omega)
  refine kc_Con_new hg (M := wk_m181) rfl rfl rfl (show 3 ≤ 3 by decide) ?_
  refine kx_go 2 (pc' := 116) (L' := [(0, .inr (.inr (.inl (some 1)))), (1, .inl (Int32.ofNat 5)), (2, .inr (.inr (.inl (some (130 + i)))))]) (S' := []) (h' := h) (by with_unfolding_all rfl) ?_
  refine kx_go 3 (pc' := 119) (L' := [(0, .inr (.inr (.inl (some 1)))), (1, .inl (Int32.ofNat 5)), (2, .inr (.inr (.inl (some (130 + i)))))]) (S' := [.inl (Int32.ofNat 0), .inr (.inr (.inl (some (130 + i)))), .inr (.inr (.inl (some 1)))]) (h' := h) (by with_unfolding_all rfl) ?_
  refine kx_iald rfl (c := 130 + i) (j := 0) (m := 4) (v := .inl (Int32.ofNat (n 0))) (kr_rows i hi).1 (kr_rows i hi).2 (by decide) (by decide) en0 ?_
  refine kc_call_rule (M2 := wk_m24) (av := [.inr (.inr (.inl (some 1))), .inl (Int32.ofNat (n 0))]) (r := []) rfl rfl (kc_Con_le (fu_c24 (d := 0) hg hw hC hB) (by decide)) (fun rv h9 hq => ?_)
  obtain ⟨rfl, e9⟩ := hq
  exact kc_ret_ok rfl (rv := some (.inl _)) rfl ⟨rfl, e9⟩
set_option maxRecDepth 20000 in
theorem fu_tell6 {g : kc_G} {h : kc_H} {i : Nat} {B : Nat → Int32} {n : Nat → Nat} (hg : kc_ok g) (hw : kd_wt kd_ty h) (hi : i < 60) (hC : fu_C B 1 h) (hB : fu_BT B) (en : ∀ k, k < 4 → h (130 + i) k = .inl (Int32.ofNat (n k)) ∧ n k < 1000) : kc_Con g 6 181 [.inr (.inr (.inl (some 1))), .inl (Int32.ofNat 6), .inr (.inr (.inl (some (130 + i))))] h (fun rv h' => rv = some (.inl (fu_step 6 n B).1) ∧ h' = fu_cw 1 (fu_step 6 n B).2 h) := by
  obtain ⟨en0, nb0⟩ := en 0 (by omega)
  obtain ⟨en1, nb1⟩ := en 1 (by omega)
  refine kc_Con_new hg (M := wk_m181) rfl rfl rfl (show 3 ≤ 3 by decide) ?_
  refine kx_go 2 (pc' := 124) (L' := [(0, .inr (.inr (.inl (some 1)))), (1, .inl (Int32.ofNat 6)), (2, .inr (.inr (.inl (some (130 + i)))))]) (S' := []) (h' := h) (by with_unfolding_all rfl) ?_
  refine kx_go 3 (pc' := 127) (L' := [(0, .inr (.inr (.inl (some 1)))), (1, .inl (Int32.ofNat 6)), (2, .inr (.inr (.inl (some (130 + i)))))]) (S' := [.inl (Int32.ofNat 0), .inr (.inr (.inl (some (130 + i)))), .inr (.inr (.inl (some 1)))]) (h' := h) (by with_unfolding_all rfl) ?_
  refine kx_iald rfl (c := 130 + i) (j := 0) (m := 4) (v := .inl (Int32.ofNat (n 0))) (kr_rows i hi).1 (kr_rows i hi).2 (by decide) (by decide) en0 ?_
  refine kx_go 3 (pc' := 131) (L' := [(0, .inr (.inr (.inl (some 1)))), (1, .inl (Int32.ofNat 6)), (2, .inr (.inr (.inl (some (130 + i)))))]) (S' := [.inl (Int32.ofNat 1), .inr (.inr (.inl (some (130 + i)))), .inl (Int32.ofNat 4), .inl (Int32.ofNat (n 0)), .inr (.inr (.inl (some 1)))]) (h' := h) (by with_unfolding_all rfl) ?_
  refine kx_iald rfl (c := 130 + i) (j := 1) (m := 4) (v := .inl (Int32.ofNat (n 1))) (kr_rows i hi).1 (kr_rows i hi).2 (by decide) (by decide) en1 ?_
  refine kx_go 1 (pc' := 134) (L' := [(0, .inr (.inr (.inl (some 1)))), (1, .inl (Int32.ofNat 6)), (2, .inr (.inr (.inl (some (130 + i)))))]) (S' := [.inl (Int32.ofNat 100), .inl (Int32.ofNat (n 1)), .inl (Int32.ofNat 4), .inl (Int32.ofNat (n 0)), .inr (.inr (.inl (some 1)))]) (h' := h) (by with_unfolding_all rfl) ?_
  refine kc_call_rule (M2 := wk_m45) (av := [.inr (.inr (.inl (some 1))), .inl (Int32.ofNat (n 0)), .inl (Int32.ofNat 4), .inl (Int32.ofNat (n 1)), .inl (Int32.ofNat 100)]) (r := []) rfl rfl (kc_Con_le (fu_c45_4 (d := 0) hg hw hC hB) (by decide)) (fun rv h9 hq => ?_)
  obtain ⟨rfl, e9⟩ := hq
  exact kc_ret_ok rfl (rv := some (.inl _)) rfl ⟨rfl, e9⟩
set_option maxRecDepth 20000 in
theorem fu_tell7 {g : kc_G} {h : kc_H} {i : Nat} {B : Nat → Int32} {n : Nat → Nat} (hg : kc_ok g) (hw : kd_wt kd_ty h) (hi : i < 60) (hC : fu_C B 1 h) (hB : fu_BT B) (en : ∀ k, k < 4 → h (130 + i) k = .inl (Int32.ofNat (n k)) ∧ n k < 1000) : kc_Con g 6 181 [.inr (.inr (.inl (some 1))), .inl (Int32.ofNat 7), .inr (.inr (.inl (some (130 + i))))] h (fun rv h' => rv = some (.inl (fu_step 7 n B).1) ∧ h' = fu_cw 1 (fu_step 7 n B).2 h) := by
  obtain ⟨en0, nb0⟩ := en 0 (by omega)
  obtain ⟨en1, nb1⟩ := en 1 (by omega)
  refine kc_Con_new hg (M := wk_m181) rfl rfl rfl (show 3 ≤ 3 by decide) ?_
  refine kx_go 2 (pc' := 138) (L' := [(0, .inr (.inr (.inl (some 1)))), (1, .inl (Int32.ofNat 7)), (2, .inr (.inr (.inl (some (130 + i)))))]) (S' := []) (h' := h) (by with_unfolding_all rfl) ?_
  refine kx_go 3 (pc' := 141) (L' := [(0, .inr (.inr (.inl (some 1)))), (1, .inl (Int32.ofNat 7)), (2, .inr (.inr (.inl (some (130 + i)))))]) (S' := [.inl (Int32.ofNat 0), .inr (.inr (.inl (some (130 + i)))), .inr (.inr (.inl (some 1)))]) (h' := h) (by with_unfolding_all rfl) ?_
  refine kx_iald rfl (c := 130 + i) (j := 0) (m := 4) (v := .inl (Int32.ofNat (n 0))) (kr_rows i hi).1 (kr_rows i hi).2 (by decide) (by decide) en0 ?_
  refine kx_go 3 (pc' := 145) (L' := [(0, .inr (.inr (.inl (some 1)))), (1, .inl (Int32.ofNat 7)), (2, .inr (.inr (.inl (some (130 + i)))))]) (S' := [.inl (Int32.ofNat 1), .inr (.inr (.inl (some (130 + i)))), .inl (Int32.ofNat 5), .inl (Int32.ofNat (n 0)), .inr (.inr (.inl (some 1)))]) (h' := h) (by with_unfolding_all rfl) ?_
  refine kx_iald rfl (c := 130 + i) (j := 1) (m := 4) (v := .inl (Int32.ofNat (n 1))) (kr_rows i hi).1 (kr_rows i hi).2 (by decide) (by decide) en1 ?_
  refine kx_go 1 (pc' := 148) (L' := [(0, .inr (.inr (.inl (some 1)))), (1, .inl (Int32.ofNat 7)), (2, .inr (.inr (.inl (some (130 + i)))))]) (S' := [.inl (Int32.ofNat 9), .inl (Int32.ofNat (n 1)), .inl (Int32.ofNat 5), .inl (Int32.ofNat (n 0)), .inr (.inr (.inl (some 1)))]) (h' := h) (by with_unfolding_all rfl) ?_
  refine kc_call_rule (M2 := wk_m45) (av := [.inr (.inr (.inl (some 1))), .inl (Int32.ofNat (n 0)), .inl (Int32.ofNat 5), .inl (Int32.ofNat (n 1)), .inl (Int32.ofNat 9)]) (r := []) rfl rfl (kc_Con_le (fu_c45_5 (d := 0) hg hw hC hB) (by decide)) (fun rv h9 hq => ?_)
  obtain ⟨rfl, e9⟩ := hq
  exact kc_ret_ok rfl (rv := some (.inl _)) rfl ⟨rfl, e9⟩
set_option maxRecDepth 20000 in
theorem fu_tell8 {g : kc_G} {h : kc_H} {i : Nat} {B : Nat → Int32} {n : Nat → Nat} (hg : kc_ok g) (hw : kd_wt kd_ty h) (hi : i < 60) (hC : fu_C B 1 h) (hB : fu_BT B) (en : ∀ k, k < 4 → h (130 + i) k = .inl (Int32.ofNat (n k)) ∧ n k < 1000) : kc_Con g 6 181 [.inr (.inr (.inl (some 1))), .inl (Int32.ofNat 8), .inr (.inr (.inl (some (130 + i))))] h (fun rv h' => rv = some (.inl (fu_step 8 n B).1) ∧ h' = fu_cw 1 (fu_step 8 n B).2 h) := by
  obtain ⟨en0, nb0⟩ := en 0 (by omega)
  obtain ⟨en1, nb1⟩ := en 1 (by omega)
  refine kc_Con_new hg (M := wk_m181) rfl rfl rfl (show 3 ≤ 3 by decide) ?_
  refine kx_go 2 (pc' := 152) (L' := [(0, .inr (.inr (.inl (some 1)))), (1, .inl (Int32.ofNat 8)), (2, .inr (.inr (.inl (some (130 + i)))))]) (S' := []) (h' := h) (by with_unfolding_all rfl) ?_
  refine kx_go 3 (pc' := 155) (L' := [(0, .inr (.inr (.inl (some 1)))), (1, .inl (Int32.ofNat 8)), (2, .inr (.inr (.inl (some (130 + i)))))]) (S' := [.inl (Int32.ofNat 0), .inr (.inr (.inl (some (130 + i)))), .inr (.inr (.inl (some 1)))]) (h' := h) (by with_unfolding_all rfl) ?_
  refine kx_iald rfl (c := 130 + i) (j := 0) (m := 4) (v := .inl (Int32.ofNat (n 0))) (kr_rows i hi).1 (kr_rows i hi).2 (by decide) (by decide) en0 ?_
  refine kx_go 2 (pc' := 158) (L' := [(0, .inr (.inr (.inl (some 1)))), (1, .inl (Int32.ofNat 8)), (2, .inr (.inr (.inl (some (130 + i)))))]) (S' := [.inl (Int32.ofNat 1), .inr (.inr (.inl (some (130 + i)))), .inl (Int32.ofNat (n 0)), .inr (.inr (.inl (some 1)))]) (h' := h) (by with_unfolding_all rfl) ?_
  refine kx_iald rfl (c := 130 + i) (j := 1) (m := 4) (v := .inl (Int32.ofNat (n 1))) (kr_rows i hi).1 (kr_rows i hi).2 (by decide) (by decide) en1 ?_
  refine kc_call_rule (M2 := wk_m29) (av := [.inr (.inr (.inl (some 1))), .inl (Int32.ofNat (n 0)), .inl (Int32.ofNat (n 1))]) (r := []) rfl rfl (kc_Con_le (fu_c29 (d := 0) hg hw hC hB) (by decide)) (fun rv h9 hq => ?_)
  obtain ⟨rfl, e9⟩ := hq
  exact kc_ret_ok rfl (rv := some (.inl _)) rfl ⟨rfl, e9⟩
theorem fu_tell {g : kc_G} {h : kc_H} {i v : Nat} {B : Nat → Int32} {n : Nat → Nat} (hg : kc_ok g) (hw : kd_wt kd_ty h) (hi : i < 60) (hv : v < 9) (hC : fu_C B 1 h) (hB : fu_BT B) (en : ∀ k, k < 4 → h (130 + i) k = .inl (Int32.ofNat (n k)) ∧ n k < 1000) : kc_Con g 6 181 [.inr (.inr (.inl (some 1))), .inl (Int32.ofNat v), .inr (.inr (.inl (some (130 + i))))] h (fun rv h' => rv = some (.inl (fu_step v n B).1) ∧ h' = fu_cw 1 (fu_step v n B).2 h) := by
  rcases (show v = 0 ∨ v = 1 ∨ v = 2 ∨ v = 3 ∨ v = 4 ∨ v = 5 ∨ v = 6 ∨ v = 7 ∨ v = 8 by omega) with rfl | rfl | rfl | rfl | rfl | rfl | rfl | rfl | rfl
  · exact fu_tell0 hg hw hi hC hB en
  · exact fu_tell1 hg hw hi hC hB en
  · exact fu_tell2 hg hw hi hC hB en
  · exact fu_tell3 hg hw hi hC hB en
  · exact fu_tell4 hg hw hi hC hB en
  · exact fu_tell5 hg hw hi hC hB en
  · exact fu_tell6 hg hw hi hC hB en
  · exact fu_tell7 hg hw hi hC hB en
  · exact fu_tell8 hg hw hi hC hB en
set_option maxRecDepth 20000 in
theorem fu_item0 {g : kc_G} {h : kc_H} {i : Nat} {B : Nat → Int32} {n : Nat → Nat} (hg : kc_ok g) (hw : kd_wt kd_ty h) (hi : i < 60) (hC : fu_B B h) (hB : fu_BT B) (ev : h 264 i = .inl (Int32.ofNat 10)) (en : ∀ k, k < 4 → h 265 (5 * i + k) = .inl (Int32.ofNat (n k)) ∧ n k < 1000) : kc_Con g 6 235 [.inr (.inr (.inl (some 259))), .inl (Int32.ofNat i)] h (fun rv h' => rv = some (.inl (fu_step 0 n B).1) ∧ h' = fu_rw (fu_step 0 n B).2 h) := by
  obtain ⟨en0, nb0⟩ := en 0 (by omega)
  obtain ⟨en1, nb1⟩ := en 1 (by omega)
  obtain ⟨en2, nb2⟩ := en 2 (by omega)
  obtain ⟨en3, nb3⟩ := en 3 (by omega)
  have h11 := kx_ofr (hw _ _ _ kv_kr.1)
  have h12 := kx_ofr (hw _ _ _ kv_kr.2)
  refine kc_Con_new hg (M := wk_m235) rfl rfl rfl (show 2 ≤ 5 by decide) ?_
  refine kx_go 3 (pc' := 3) (L' := [(0, .inr (.inr (.inl (some 259)))), (1, .inl (Int32.ofNat i))]) (S' := [.inl (Int32.ofNat 0), .inl (Int32.ofNat i), .inr (.inr (.inl (some 259)))]) (h' := h) (by with_unfolding_all rfl) ?_
  refine kc_call_rule (M2 := wk_m236) (av := [.inr (.inr (.inl (some 259))), .inl (Int32.ofNat i), .inl (Int32.ofNat 0)]) (r := []) rfl rfl (kc_Con_le (kv_num (d := 0) (x := n 0) hg hi (by decide) h12 en0) (by decide)) (fun rv h' hq => ?_)
  obtain ⟨rfl, rfl⟩ := hq
  show kc_Ev g 5 wk_m235 _ 6 [(0, .inr (.inr (.inl (some 259)))), (1, .inl (Int32.ofNat i))] [.inl (Int32.ofNat (n 0))] h'
  refine kx_go 4 (pc' := 10) (L' := [(2, .inl (Int32.ofNat (n 0))), (0, .inr (.inr (.inl (some 259)))), (1, .inl (Int32.ofNat i))]) (S' := [.inl (Int32.ofNat 1), .inl (Int32.ofNat i), .inr (.inr (.inl (some 259)))]) (h' := h') (by with_unfolding_all rfl) ?_
  refine kc_call_rule (M2 := wk_m236) (av := [.inr (.inr (.inl (some 259))), .inl (Int32.ofNat i), .inl (Int32.ofNat 1)]) (r := []) rfl rfl (kc_Con_le (kv_num (d := 0) (x := n 1) hg hi (by decide) h12 en1) (by decide)) (fun rv h' hq => ?_)
  obtain ⟨rfl, rfl⟩ := hq
  show kc_Ev g 5 wk_m235 _ 13 [(2, .inl (Int32.ofNat (n 0))), (0, .inr (.inr (.inl (some 259)))), (1, .inl (Int32.ofNat i))] [.inl (Int32.ofNat (n 1))] h'
  refine kx_go 4 (pc' := 17) (L' := [(3, .inl (Int32.ofNat (n 1))), (2, .inl (Int32.ofNat (n 0))), (0, .inr (.inr (.inl (some 259)))), (1, .inl (Int32.ofNat i))]) (S' := [.inl (Int32.ofNat 2), .inl (Int32.ofNat i), .inr (.inr (.inl (some 259)))]) (h' := h') (by with_unfolding_all rfl) ?_
  refine kc_call_rule (M2 := wk_m236) (av := [.inr (.inr (.inl (some 259))), .inl (Int32.ofNat i), .inl (Int32.ofNat 2)]) (r := []) rfl rfl (kc_Con_le (kv_num (d := 0) (x := n 2) hg hi (by decide) h12 en2) (by decide)) (fun rv h' hq => ?_)
  obtain ⟨rfl, rfl⟩ := hq
  show kc_Ev g 5 wk_m235 _ 20 [(3, .inl (Int32.ofNat (n 1))), (2, .inl (Int32.ofNat (n 0))), (0, .inr (.inr (.inl (some 259)))), (1, .inl (Int32.ofNat i))] [.inl (Int32.ofNat (n 2))] h'
  refine kx_go 2 (pc' := 23) (L' := [(4, .inl (Int32.ofNat (n 2))), (3, .inl (Int32.ofNat (n 1))), (2, .inl (Int32.ofNat (n 0))), (0, .inr (.inr (.inl (some 259)))), (1, .inl (Int32.ofNat i))]) (S' := [.inr (.inr (.inl (some 259)))]) (h' := h') (by with_unfolding_all rfl) ?_
  refine kx_getf (c := 259) (v := .inr (.inr (.inl (some 264)))) rfl (by decide) h11 ?_
  refine kx_go 1 (pc' := 27) (L' := [(4, .inl (Int32.ofNat (n 2))), (3, .inl (Int32.ofNat (n 1))), (2, .inl (Int32.ofNat (n 0))), (0, .inr (.inr (.inl (some 259)))), (1, .inl (Int32.ofNat i))]) (S' := [.inl (Int32.ofNat i), .inr (.inr (.inl (some 264)))]) (h' := h') (by with_unfolding_all rfl) ?_
  refine kx_iald rfl (c := 264) (j := i) (m := 240) (v := .inl (Int32.ofNat 10)) rfl (by decide) (by decide) (by omega) ev ?_
  refine kx_go 1 (pc' := 76) (L' := [(4, .inl (Int32.ofNat (n 2))), (3, .inl (Int32.ofNat (n 1))), (2, .inl (Int32.ofNat (n 0))), (0, .inr (.inr (.inl (some 259)))), (1, .inl (Int32.ofNat i))]) (S' := []) (h' := h') (by with_unfolding_all rfl) ?_
  refine kx_go 4 (pc' := 81) (L' := [(4, .inl (Int32.ofNat (n 2))), (3, .inl (Int32.ofNat (n 1))), (2, .inl (Int32.ofNat (n 0))), (0, .inr (.inr (.inl (some 259)))), (1, .inl (Int32.ofNat i))]) (S' := [.inl (Int32.ofNat (n 2)), .inl (Int32.ofNat (n 1)), .inl (Int32.ofNat (n 0)), .inr (.inr (.inl (some 259)))]) (h' := h') (by with_unfolding_all rfl) ?_
  refine kc_call_rule (M2 := wk_m34) (av := [.inr (.inr (.inl (some 259))), .inl (Int32.ofNat (n 0)), .inl (Int32.ofNat (n 1)), .inl (Int32.ofNat (n 2))]) (r := []) rfl rfl (kc_Con_le (fu_rmule (d := 0) hg hw hC hB) (by decide)) (fun rv h9 hq => ?_)
  obtain ⟨rfl, e9⟩ := hq
  exact kc_ret_ok rfl (rv := some (.inl _)) rfl ⟨rfl, e9⟩
set_option maxRecDepth 20000 in
theorem fu_item1 {g : kc_G} {h : kc_H} {i : Nat} {B : Nat → Int32} {n : Nat → Nat} (hg : kc_ok g) (hw : kd_wt kd_ty h) (hi : i < 60) (hC : fu_B B h) (hB : fu_BT B) (ev : h 264 i = .inl (Int32.ofNat 11)) (en : ∀ k, k < 4 → h 265 (5 * i + k) = .inl (Int32.ofNat (n k)) ∧ n k < 1000) : kc_Con g 6 235 [.inr (.inr (.inl (some 259))), .inl (Int32.ofNat i)] h (fun rv h' => rv = some (.inl (fu_step 1 n B).1) ∧ h' = fu_rw (fu_step 1 n B).2 h) := by
  obtain ⟨en0, nb0⟩ := en 0 (by omega)
  obtain ⟨en1, nb1⟩ := en 1 (by omega)
  obtain ⟨en2, nb2⟩ := en 2 (by omega)
  obtain ⟨en3, nb3⟩ := en 3 (by omega)
  have h11 := kx_ofr (hw _ _ _ kv_kr.1)
  have h12 := kx_ofr (hw _ _ _ kv_kr.2)
  refine kc_Con_new hg (M := wk_m235) rfl rfl rfl (show 2 ≤ 5 by decide) ?_
  refine kx_go 3 (pc' := 3) (L' := [(0, .inr (.inr (.inl (some 259)))), (1, .inl (Int32.ofNat i))]) (S' := [.inl (Int32.ofNat 0), .inl (Int32.ofNat i), .inr (.inr (.inl (some 259)))]) (h' := h) (by with_unfolding_all rfl) ?_
  refine kc_call_rule (M2 := wk_m236) (av := [.inr (.inr (.inl (some 259))), .inl (Int32.ofNat i), .inl (Int32.ofNat 0)]) (r := []) rfl rfl (kc_Con_le (kv_num (d := 0) (x := n 0) hg hi (by decide) h12 en0) (by decide)) (fun rv h' hq => ?_)
  obtain ⟨rfl, rfl⟩ := hq
  show kc_Ev g 5 wk_m235 _ 6 [(0, .inr (.inr (.inl (some 259)))), (1, .inl (Int32.ofNat i))] [.inl (Int32.ofNat (n 0))] h'
  refine kx_go 4 (pc' := 10) (L' := [(2, .inl (Int32.ofNat (n 0))), (0, .inr (.inr (.inl (some 259)))), (1, .inl (Int32.ofNat i))]) (S' := [.inl (Int32.ofNat 1), .inl (Int32.ofNat i), .inr (.inr (.inl (some 259)))]) (h' := h') (by with_unfolding_all rfl) ?_
  refine kc_call_rule (M2 := wk_m236) (av := [.inr (.inr (.inl (some 259))), .inl (Int32.ofNat i), .inl (Int32.ofNat 1)]) (r := []) rfl rfl (kc_Con_le (kv_num (d := 0) (x := n 1) hg hi (by decide) h12 en1) (by decide)) (fun rv h' hq => ?_)
  obtain ⟨rfl, rfl⟩ := hq
  show kc_Ev g 5 wk_m235 _ 13 [(2, .inl (Int32.ofNat (n 0))), (0, .inr (.inr (.inl (some 259)))), (1, .inl (Int32.ofNat i))] [.inl (Int32.ofNat (n 1))] h'
  refine kx_go 4 (pc' := 17) (L' := [(3, .inl (Int32.ofNat (n 1))), (2, .inl (Int32.ofNat (n 0))), (0, .inr (.inr (.inl (some 259)))), (1, .inl (Int32.ofNat i))]) (S' := [.inl (Int32.ofNat 2), .inl (Int32.ofNat i), .inr (.inr (.inl (some 259)))]) (h' := h') (by with_unfolding_all rfl) ?_
  refine kc_call_rule (M2 := wk_m236) (av := [.inr (.inr (.inl (some 259))), .inl (Int32.ofNat i), .inl (Int32.ofNat 2)]) (r := []) rfl rfl (kc_Con_le (kv_num (d := 0) (x := n 2) hg hi (by decide) h12 en2) (by decide)) (fun rv h' hq => ?_)
  obtain ⟨rfl, rfl⟩ := hq
  show kc_Ev g 5 wk_m235 _ 20 [(3, .inl (Int32.ofNat (n 1))), (2, .inl (Int32.ofNat (n 0))), (0, .inr (.inr (.inl (some 259)))), (1, .inl (Int32.ofNat i))] [.inl (Int32.ofNat (n 2))] h'
  refine kx_go 2 (pc' := 23) (L' := [(4, .inl (Int32.ofNat (n 2))), (3, .inl (Int32.ofNat (n 1))), (2, .inl (Int32.ofNat (n 0))), (0, .inr (.inr (.inl (some 259)))), (1, .inl (Int32.ofNat i))]) (S' := [.inr (.inr (.inl (some 259)))]) (h' := h') (by with_unfolding_all rfl) ?_
  refine kx_getf (c := 259) (v := .inr (.inr (.inl (some 264)))) rfl (by decide) h11 ?_
  refine kx_go 1 (pc' := 27) (L' := [(4, .inl (Int32.ofNat (n 2))), (3, .inl (Int32.ofNat (n 1))), (2, .inl (Int32.ofNat (n 0))), (0, .inr (.inr (.inl (some 259)))), (1, .inl (Int32.ofNat i))]) (S' := [.inl (Int32.ofNat i), .inr (.inr (.inl (some 264)))]) (h' := h') (by with_unfolding_all rfl) ?_
  refine kx_iald rfl (c := 264) (j := i) (m := 240) (v := .inl (Int32.ofNat 11)) rfl (by decide) (by decide) (by omega) ev ?_
  refine kx_go 1 (pc' := 85) (L' := [(4, .inl (Int32.ofNat (n 2))), (3, .inl (Int32.ofNat (n 1))), (2, .inl (Int32.ofNat (n 0))), (0, .inr (.inr (.inl (some 259)))), (1, .inl (Int32.ofNat i))]) (S' := []) (h' := h') (by with_unfolding_all rfl) ?_
  refine kx_go 7 (pc' := 93) (L' := [(4, .inl (Int32.ofNat (n 2))), (3, .inl (Int32.ofNat (n 1))), (2, .inl (Int32.ofNat (n 0))), (0, .inr (.inr (.inl (some 259)))), (1, .inl (Int32.ofNat i))]) (S' := [.inl (Int32.ofNat 3), .inl (Int32.ofNat i), .inr (.inr (.inl (some 259))), .inl (Int32.ofNat (n 2)), .inl (Int32.ofNat (n 1)), .inl (Int32.ofNat (n 0)), .inr (.inr (.inl (some 259)))]) (h' := h') (by with_unfolding_all rfl) ?_
  refine kc_call_rule (M2 := wk_m236) (av := [.inr (.inr (.inl (some 259))), .inl (Int32.ofNat i), .inl (Int32.ofNat 3)]) (r := [.inl (Int32.ofNat (n 2)), .inl (Int32.ofNat (n 1)), .inl (Int32.ofNat (n 0)), .inr (.inr (.inl (some 259)))]) rfl rfl (kc_Con_le (kv_num (d := 0) (x := n 3) hg hi (by decide) h12 en3) (by decide)) (fun rv h' hq => ?_)
  obtain ⟨rfl, rfl⟩ := hq
  show kc_Ev g 5 wk_m235 _ 96 [(4, .inl (Int32.ofNat (n 2))), (3, .inl (Int32.ofNat (n 1))), (2, .inl (Int32.ofNat (n 0))), (0, .inr (.inr (.inl (some 259)))), (1, .inl (Int32.ofNat i))] [.inl (Int32.ofNat (n 3)), .inl (Int32.ofNat (n 2)), .inl (Int32.ofNat (n 1)), .inl (Int32.ofNat (n 0)), .inr (.inr (.inl (some 259)))] h'
  refine kc_call_rule (M2 := wk_m43) (av := [.inr (.inr (.inl (some 259))), .inl (Int32.ofNat (n 0)), .inl (Int32.ofNat (n 1)), .inl (Int32.ofNat (n 2)), .inl (Int32.ofNat (n 3))]) (r := []) rfl rfl (kc_Con_le (fu_rload (d := 0) hg hw hC hB) (by decide)) (fun rv h9 hq => ?_)
  obtain ⟨rfl, e9⟩ := hq
  exact kc_ret_ok rfl (rv := some (.inl _)) rfl ⟨rfl, e9⟩
set_option maxRecDepth 20000 in
theorem fu_item2 {g : kc_G} {h : kc_H} {i : Nat} {B : Nat → Int32} {n : Nat → Nat} (hg : kc_ok g) (hw : kd_wt kd_ty h) (hi : i < 60) (hC : fu_B B h) (hB : fu_BT B) (ev : h 264 i = .inl (Int32.ofNat 12)) (en : ∀ k, k < 4 → h 265 (5 * i + k) = .inl (Int32.ofNat (n k)) ∧ n k < 1000) : kc_Con g 6 235 [.inr (.inr (.inl (some 259))), .inl (Int32.ofNat i)] h (fun rv h' => rv = some (.inl (fu_step 2 n B).1) ∧ h' = fu_rw (fu_step 2 n B).2 h) := by
  obtain ⟨en0, nb0⟩ := en 0 (by omega)
  obtain ⟨en1, nb1⟩ := en 1 (by omega)
  obtain ⟨en2, nb2⟩ := en 2 (by omega)
  obtain ⟨en3, nb3⟩ := en 3 (by omega)
  have h11 := kx_ofr (hw _ _ _ kv_kr.1)
  have h12 := kx_ofr (hw _ _ _ kv_kr.2)
  refine kc_Con_new hg (M := wk_m235) rfl rfl rfl (show 2 ≤ 5 by decide) ?_
  refine kx_go 3 (pc' := 3) (L' := [(0, .inr (.inr (.inl (some 259)))), (1, .inl (Int32.ofNat i))]) (S' := [.inl (Int32.ofNat 0), .inl (Int32.ofNat i), .inr (.inr (.inl (some 259)))]) (h' := h) (by with_unfolding_all rfl) ?_
  refine kc_call_rule (M2 := wk_m236) (av := [.inr (.inr (.inl (some 259))), .inl (Int32.ofNat i), .inl (Int32.ofNat 0)]) (r := []) rfl rfl (kc_Con_le (kv_num (d := 0) (x := n 0) hg hi (by decide) h12 en0) (by decide)) (fun rv h' hq => ?_)
  obtain ⟨rfl, rfl⟩ := hq
  show kc_Ev g 5 wk_m235 _ 6 [(0, .inr (.inr (.inl (some 259)))), (1, .inl (Int32.ofNat i))] [.inl (Int32.ofNat (n 0))] h'
  refine kx_go 4 (pc' := 10) (L' := [(2, .inl (Int32.ofNat (n 0))), (0, .inr (.inr (.inl (some 259)))), (1, .inl (Int32.ofNat i))]) (S' := [.inl (Int32.ofNat 1), .inl (Int32.ofNat i), .inr (.inr (.inl (some 259)))]) (h' := h') (by with_unfolding_all rfl) ?_
  refine kc_call_rule (M2 := wk_m236) (av := [.inr (.inr (.inl (some 259))), .inl (Int32.ofNat i), .inl (Int32.ofNat 1)]) (r := []) rfl rfl (kc_Con_le (kv_num (d := 0) (x := n 1) hg hi (by decide) h12 en1) (by decide)) (fun rv h' hq => ?_)
  obtain ⟨rfl, rfl⟩ := hq
  show kc_Ev g 5 wk_m235 _ 13 [(2, .inl (Int32.ofNat (n 0))), (0, .inr (.inr (.inl (some 259)))), (1, .inl (Int32.ofNat i))] [.inl (Int32.ofNat (n 1))] h'
  refine kx_go 4 (pc' := 17) (L' := [(3, .inl (Int32.ofNat (n 1))), (2, .inl (Int32.ofNat (n 0))), (0, .inr (.inr (.inl (some 259)))), (1, .inl (Int32.ofNat i))]) (S' := [.inl (Int32.ofNat 2), .inl (Int32.ofNat i), .inr (.inr (.inl (some 259)))]) (h' := h') (by with_unfolding_all rfl) ?_
  refine kc_call_rule (M2 := wk_m236) (av := [.inr (.inr (.inl (some 259))), .inl (Int32.ofNat i), .inl (Int32.ofNat 2)]) (r := []) rfl rfl (kc_Con_le (kv_num (d := 0) (x := n 2) hg hi (by decide) h12 en2) (by decide)) (fun rv h' hq => ?_)
  obtain ⟨rfl, rfl⟩ := hq
  show kc_Ev g 5 wk_m235 _ 20 [(3, .inl (Int32.ofNat (n 1))), (2, .inl (Int32.ofNat (n 0))), (0, .inr (.inr (.inl (some 259)))), (1, .inl (Int32.ofNat i))] [.inl (Int32.ofNat (n 2))] h'
  refine kx_go 2 (pc' := 23) (L' := [(4, .inl (Int32.ofNat (n 2))), (3, .inl (Int32.ofNat (n 1))), (2, .inl (Int32.ofNat (n 0))), (0, .inr (.inr (.inl (some 259)))), (1, .inl (Int32.ofNat i))]) (S' := [.inr (.inr (.inl (some 259)))]) (h' := h') (by with_unfolding_all rfl) ?_
  refine kx_getf (c := 259) (v := .inr (.inr (.inl (some 264)))) rfl (by decide) h11 ?_
  refine kx_go 1 (pc' := 27) (L' := [(4, .inl (Int32.ofNat (n 2))), (3, .inl (Int32.ofNat (n 1))), (2, .inl (Int32.ofNat (n 0))), (0, .inr (.inr (.inl (some 259)))), (1, .inl (Int32.ofNat i))]) (S' := [.inl (Int32.ofNat i), .inr (.inr (.inl (some 264)))]) (h' := h') (by with_unfolding_all rfl) ?_
  refine kx_iald rfl (c := 264) (j := i) (m := 240) (v := .inl (Int32.ofNat 12)) rfl (by decide) (by decide) (by omega) ev ?_
  refine kx_go 1 (pc' := 100) (L' := [(4, .inl (Int32.ofNat (n 2))), (3, .inl (Int32.ofNat (n 1))), (2, .inl (Int32.ofNat (n 0))), (0, .inr (.inr (.inl (some 259)))), (1, .inl (Int32.ofNat i))]) (S' := []) (h' := h') (by with_unfolding_all rfl) ?_
  refine kx_go 1 (pc' := 101) (L' := [(4, .inl (Int32.ofNat (n 2))), (3, .inl (Int32.ofNat (n 1))), (2, .inl (Int32.ofNat (n 0))), (0, .inr (.inr (.inl (some 259)))), (1, .inl (Int32.ofNat i))]) (S' := [.inr (.inr (.inl (some 259)))]) (h' := h') (by with_unfolding_all rfl) ?_
  refine kc_call_rule (M2 := wk_m15) (av := [.inr (.inr (.inl (some 259)))]) (r := []) rfl rfl (kc_Con_le (fu_rdoor (d := 0) hg hw hC hB) (by decide)) (fun rv h9 hq => ?_)
  obtain ⟨rfl, e9⟩ := hq
  exact kc_ret_ok rfl (rv := some (.inl _)) rfl ⟨rfl, e9⟩
set_option maxRecDepth 20000 in
theorem fu_item3 {g : kc_G} {h : kc_H} {i : Nat} {B : Nat → Int32} {n : Nat → Nat} (hg : kc_ok g) (hw : kd_wt kd_ty h) (hi : i < 60) (hC : fu_B B h) (hB : fu_BT B) (ev : h 264 i = .inl (Int32.ofNat 13)) (en : ∀ k, k < 4 → h 265 (5 * i + k) = .inl (Int32.ofNat (n k)) ∧ n k < 1000) : kc_Con g 6 235 [.inr (.inr (.inl (some 259))), .inl (Int32.ofNat i)] h (fun rv h' => rv = some (.inl (fu_step 3 n B).1) ∧ h' = fu_rw (fu_step 3 n B).2 h) := by
  obtain ⟨en0, nb0⟩ := en 0 (by omega)
  obtain ⟨en1, nb1⟩ := en 1 (by omega)
  obtain ⟨en2, nb2⟩ := en 2 (by omega)
  obtain ⟨en3, nb3⟩ := en 3 (by omega)
  have h11 := kx_ofr (hw _ _ _ kv_kr.1)
  have h12 := kx_ofr (hw _ _ _ kv_kr.2)
  refine kc_Con_new hg (M := wk_m235) rfl rfl rfl (show 2 ≤ 5 by decide) ?_
  refine kx_go 3 (pc' := 3) (L' := [(0, .inr (.inr (.inl (some 259)))), (1, .inl (Int32.ofNat i))]) (S' := [.inl (Int32.ofNat 0), .inl (Int32.ofNat i), .inr (.inr (.inl (some 259)))]) (h' := h) (by with_unfolding_all rfl) ?_
  refine kc_call_rule (M2 := wk_m236) (av := [.inr (.inr (.inl (some 259))), .inl (Int32.ofNat i), .inl (Int32.ofNat 0)]) (r := []) rfl rfl (kc_Con_le (kv_num (d := 0) (x := n 0) hg hi (by decide) h12 en0) (by decide)) (fun rv h' hq => ?_)
  obtain ⟨rfl, rfl⟩ := hq
  show kc_Ev g 5 wk_m235 _ 6 [(0, .inr (.inr (.inl (some 259)))), (1, .inl (Int32.ofNat i))] [.inl (Int32.ofNat (n 0))] h'
  refine kx_go 4 (pc' := 10) (L' := [(2, .inl (Int32.ofNat (n 0))), (0, .inr (.inr (.inl (some 259)))), (1, .inl (Int32.ofNat i))]) (S' := [.inl (Int32.ofNat 1), .inl (Int32.ofNat i), .inr (.inr (.inl (some 259)))]) (h' := h') (by with_unfolding_all rfl) ?_
  refine kc_call_rule (M2 := wk_m236) (av := [.inr (.inr (.inl (some 259))), .inl (Int32.ofNat i), .inl (Int32.ofNat 1)]) (r := []) rfl rfl (kc_Con_le (kv_num (d := 0) (x := n 1) hg hi (by decide) h12 en1) (by decide)) (fun rv h' hq => ?_)
  obtain ⟨rfl, rfl⟩ := hq
  show kc_Ev g 5 wk_m235 _ 13 [(2, .inl (Int32.ofNat (n 0))), (0, .inr (.inr (.inl (some 259)))), (1, .inl (Int32.ofNat i))] [.inl (Int32.ofNat (n 1))] h'
  refine kx_go 4 (pc' := 17) (L' := [(3, .inl (Int32.ofNat (n 1))), (2, .inl (Int32.ofNat (n 0))), (0, .inr (.inr (.inl (some 259)))), (1, .inl (Int32.ofNat i))]) (S' := [.inl (Int32.ofNat 2), .inl (Int32.ofNat i), .inr (.inr (.inl (some 259)))]) (h' := h') (by with_unfolding_all rfl) ?_
  refine kc_call_rule (M2 := wk_m236) (av := [.inr (.inr (.inl (some 259))), .inl (Int32.ofNat i), .inl (Int32.ofNat 2)]) (r := []) rfl rfl (kc_Con_le (kv_num (d := 0) (x := n 2) hg hi (by decide) h12 en2) (by decide)) (fun rv h' hq => ?_)
  obtain ⟨rfl, rfl⟩ := hq
  show kc_Ev g 5 wk_m235 _ 20 [(3, .inl (Int32.ofNat (n 1))), (2, .inl (Int32.ofNat (n 0))), (0, .inr (.inr (.inl (some 259)))), (1, .inl (Int32.ofNat i))] [.inl (Int32.ofNat (n 2))] h'
  refine kx_go 2 (pc' := 23) (L' := [(4, .inl (Int32.ofNat (n 2))), (3, .inl (Int32.ofNat (n 1))), (2, .inl (Int32.ofNat (n 0))), (0, .inr (.inr (.inl (some 259)))), (1, .inl (Int32.ofNat i))]) (S' := [.inr (.inr (.inl (some 259)))]) (h' := h') (by with_unfolding_all rfl) ?_
  refine kx_getf (c := 259) (v := .inr (.inr (.inl (some 264)))) rfl (by decide) h11 ?_
  refine kx_go 1 (pc' := 27) (L' := [(4, .inl (Int32.ofNat (n 2))), (3, .inl (Int32.ofNat (n 1))), (2, .inl (Int32.ofNat (n 0))), (0, .inr (.inr (.inl (some 259)))), (1, .inl (Int32.ofNat i))]) (S' := [.inl (Int32.ofNat i), .inr (.inr (.inl (some 264)))]) (h' := h') (by with_unfolding_all rfl) ?_
  refine kx_iald rfl (c := 264) (j := i) (m := 240) (v := .inl (Int32.ofNat 13)) rfl (by decide) (by decide) (by omega) ev ?_
  refine kx_go 1 (pc' := 105) (L' := [(4, .inl (Int32.ofNat (n 2))), (3, .inl (Int32.ofNat (n 1))), (2, .inl (Int32.ofNat (n 0))), (0, .inr (.inr (.inl (some 259)))), (1, .inl (Int32.ofNat i))]) (S' := []) (h' := h') (by with_unfolding_all rfl) ?_
  refine kx_go 4 (pc' := 110) (L' := [(4, .inl (Int32.ofNat (n 2))), (3, .inl (Int32.ofNat (n 1))), (2, .inl (Int32.ofNat (n 0))), (0, .inr (.inr (.inl (some 259)))), (1, .inl (Int32.ofNat i))]) (S' := [.inl (Int32.ofNat (n 2)), .inl (Int32.ofNat (n 1)), .inl (Int32.ofNat (n 0)), .inr (.inr (.inl (some 259)))]) (h' := h') (by with_unfolding_all rfl) ?_
  refine kc_call_rule (M2 := wk_m20) (av := [.inr (.inr (.inl (some 259))), .inl (Int32.ofNat (n 0)), .inl (Int32.ofNat (n 1)), .inl (Int32.ofNat (n 2))]) (r := []) rfl rfl (kc_Con_le (fu_rway (d := 0) hg hw hC hB) (by decide)) (fun rv h9 hq => ?_)
  obtain ⟨rfl, e9⟩ := hq
  exact kc_ret_ok rfl (rv := some (.inl _)) rfl ⟨rfl, e9⟩
set_option maxRecDepth 20000 in
theorem fu_item4 {g : kc_G} {h : kc_H} {i : Nat} {B : Nat → Int32} {n : Nat → Nat} (hg : kc_ok g) (hw : kd_wt kd_ty h) (hi : i < 60) (hC : fu_B B h) (hB : fu_BT B) (ev : h 264 i = .inl (Int32.ofNat 14)) (en : ∀ k, k < 4 → h 265 (5 * i + k) = .inl (Int32.ofNat (n k)) ∧ n k < 1000) : kc_Con g 6 235 [.inr (.inr (.inl (some 259))), .inl (Int32.ofNat i)] h (fun rv h' => rv = some (.inl (fu_step 4 n B).1) ∧ h' = fu_rw (fu_step 4 n B).2 h) := by
  obtain ⟨en0, nb0⟩ := en 0 (by omega)
  obtain ⟨en1, nb1⟩ := en 1 (by omega)
  obtain ⟨en2, nb2⟩ := en 2 (by omega)
  obtain ⟨en3, nb3⟩ := en 3 (by omega)
  have h11 := kx_ofr (hw _ _ _ kv_kr.1)
  have h12 := kx_ofr (hw _ _ _ kv_kr.2)
  refine kc_Con_new hg (M := wk_m235) rfl rfl rfl (show 2 ≤ 5 by decide) ?_
  refine kx_go 3 (pc' := 3) (L' := [(0, .inr (.inr (.inl (some 259)))), (1, .inl (Int32.ofNat i))]) (S' := [.inl (Int32.ofNat 0), .inl (Int32.ofNat i), .inr (.inr (.inl (some 259)))]) (h' := h) (by with_unfolding_all rfl) ?_
  refine kc_call_rule (M2 := wk_m236) (av := [.inr (.inr (.inl (some 259))), .inl (Int32.ofNat i), .inl (Int32.ofNat 0)]) (r := []) rfl rfl (kc_Con_le (kv_num (d := 0) (x := n 0) hg hi (by decide) h12 en0) (by decide)) (fun rv h' hq => ?_)
  obtain ⟨rfl, rfl⟩ := hq
  show kc_Ev g 5 wk_m235 _ 6 [(0, .inr (.inr (.inl (some 259)))), (1, .inl (Int32.ofNat i))] [.inl (Int32.ofNat (n 0))] h'
  refine kx_go 4 (pc' := 10) (L' := [(2, .inl (Int32.ofNat (n 0))), (0, .inr (.inr (.inl (some 259)))), (1, .inl (Int32.ofNat i))]) (S' := [.inl (Int32.ofNat 1), .inl (Int32.ofNat i), .inr (.inr (.inl (some 259)))]) (h' := h') (by with_unfolding_all rfl) ?_
  refine kc_call_rule (M2 := wk_m236) (av := [.inr (.inr (.inl (some 259))), .inl (Int32.ofNat i), .inl (Int32.ofNat 1)]) (r := []) rfl rfl (kc_Con_le (kv_num (d := 0) (x := n 1) hg hi (by decide) h12 en1) (by decide)) (fun rv h' hq => ?_)
  obtain ⟨rfl, rfl⟩ := hq
  show kc_Ev g 5 wk_m235 _ 13 [(2, .inl (Int32.ofNat (n 0))), (0, .inr (.inr (.inl (some 259)))), (1, .inl (Int32.ofNat i))] [.inl (Int32.ofNat (n 1))] h'
  refine kx_go 4 (pc' := 17) (L' := [(3, .inl (Int32.ofNat (n 1))), (2, .inl (Int32.ofNat (n 0))), (0, .inr (.inr (.inl (some 259)))), (1, .inl (Int32.ofNat i))]) (S' := [.inl (Int32.ofNat 2), .inl (Int32.ofNat i), .inr (.inr (.inl (some 259)))]) (h' := h') (by with_unfolding_all rfl) ?_
  refine kc_call_rule (M2 := wk_m236) (av := [.inr (.inr (.inl (some 259))), .inl (Int32.ofNat i), .inl (Int32.ofNat 2)]) (r := []) rfl rfl (kc_Con_le (kv_num (d := 0) (x := n 2) hg hi (by decide) h12 en2) (by decide)) (fun rv h' hq => ?_)
  obtain ⟨rfl, rfl⟩ := hq
  show kc_Ev g 5 wk_m235 _ 20 [(3, .inl (Int32.ofNat (n 1))), (2, .inl (Int32.ofNat (n 0))), (0, .inr (.inr (.inl (some 259)))), (1, .inl (Int32.ofNat i))] [.inl (Int32.ofNat (n 2))] h'
  refine kx_go 2 (pc' := 23) (L' := [(4, .inl (Int32.ofNat (n 2))), (3, .inl (Int32.ofNat (n 1))), (2, .inl (Int32.ofNat (n 0))), (0, .inr (.inr (.inl (some 259)))), (1, .inl (Int32.ofNat i))]) (S' := [.inr (.inr (.inl (some 259)))]) (h' := h') (by with_unfolding_all rfl) ?_
  refine kx_getf (c := 259) (v := .inr (.inr (.inl (some 264)))) rfl (by decide) h11 ?_
  refine kx_go 1 (pc' := 27) (L' := [(4, .inl (Int32.ofNat (n 2))), (3, .inl (Int32.ofNat (n 1))), (2, .inl (Int32.ofNat (n 0))), (0, .inr (.inr (.inl (some 259)))), (1, .inl (Int32.ofNat i))]) (S' := [.inl (Int32.ofNat i), .inr (.inr (.inl (some 264)))]) (h' := h') (by with_unfolding_all rfl) ?_
  refine kx_iald rfl (c := 264) (j := i) (m := 240) (v := .inl (Int32.ofNat 14)) rfl (by decide) (by decide) (by omega) ev ?_
  refine kx_go 1 (pc' := 114) (L' := [(4, .inl (Int32.ofNat (n 2))), (3, .inl (Int32.ofNat (n 1))), (2, .inl (Int32.ofNat (n 0))), (0, .inr (.inr (.inl (some 259)))), (1, .inl (Int32.ofNat i))]) (S' := []) (h' := h') (by with_unfolding_all rfl) ?_
  refine kx_go 4 (pc' := 119) (L' := [(4, .inl (Int32.ofNat (n 2))), (3, .inl (Int32.ofNat (n 1))), (2, .inl (Int32.ofNat (n 0))), (0, .inr (.inr (.inl (some 259)))), (1, .inl (Int32.ofNat i))]) (S' := [.inl (Int32.ofNat (n 2)), .inl (Int32.ofNat (n 1)), .inl (Int32.ofNat (n 0)), .inr (.inr (.inl (some 259)))]) (h' := h') (by with_unfolding_all rfl) ?_
  refine kc_call_rule (M2 := wk_m39) (av := [.inr (.inr (.inl (some 259))), .inl (Int32.ofNat (n 0)), .inl (Int32.ofNat (n 1)), .inl (Int32.ofNat (n 2))]) (r := []) rfl rfl (kc_Con_le (fu_rlame (d := 0) hg hw hC hB) (by decide)) (fun rv h9 hq => ?_)
  obtain ⟨rfl, e9⟩ := hq
  exact kc_ret_ok rfl (rv := some (.inl _)) rfl ⟨rfl, e9⟩
set_option maxRecDepth 20000 in
theorem fu_item5 {g : kc_G} {h : kc_H} {i : Nat} {B : Nat → Int32} {n : Nat → Nat} (hg : kc_ok g) (hw : kd_wt kd_ty h) (hi : i < 60) (hC : fu_B B h) (hB : fu_BT B) (ev : h 264 i = .inl (Int32.ofNat 15)) (en : ∀ k, k < 4 → h 265 (5 * i + k) = .inl (Int32.ofNat (n k)) ∧ n k < 1000) : kc_Con g 6 235 [.inr (.inr (.inl (some 259))), .inl (Int32.ofNat i)] h (fun rv h' => rv = some (.inl (fu_step 5 n B).1) ∧ h' = fu_rw (fu_step 5 n B).2 h) := by
  obtain ⟨en0, nb0⟩ := en 0 (by omega)
  obtain ⟨en1, nb1⟩ := en 1 (by omega)
  obtain ⟨en2, nb2⟩ := en 2 (by omega)
  obtain ⟨en3, nb3⟩ := en 3 (by omega)
  have h11 := kx_ofr (hw _ _ _ kv_kr.1)
  have h12 := kx_ofr (hw _ _ _ kv_kr.2)
  refine kc_Con_new hg (M := wk_m235) rfl rfl rfl (show 2 ≤ 5 by decide) ?_
  refine kx_go 3 (pc' := 3) (L' := [(0, .inr (.inr (.inl (some 259)))), (1, .inl (Int32.ofNat i))]) (S' := [.inl (Int32.ofNat 0), .inl (Int32.ofNat i), .inr (.inr (.inl (some 259)))]) (h' := h) (by with_unfolding_all rfl) ?_
  refine kc_call_rule (M2 := wk_m236) (av := [.inr (.inr (.inl (some 259))), .inl (Int32.ofNat i), .inl (Int32.ofNat 0)]) (r := []) rfl rfl (kc_Con_le (kv_num (d := 0) (x := n 0) hg hi (by decide) h12 en0) (by decide)) (fun rv h' hq => ?_)
  obtain ⟨rfl, rfl⟩ := hq
  show kc_Ev g 5 wk_m235 _ 6 [(0, .inr (.inr (.inl (some 259)))), (1, .inl (Int32.ofNat i))] [.inl (Int32.ofNat (n 0))] h'
  refine kx_go 4 (pc' := 10) (L' := [(2, .inl (Int32.ofNat (n 0))), (0, .inr (.inr (.inl (some 259)))), (1, .inl (Int32.ofNat i))]) (S' := [.inl (Int32.ofNat 1), .inl (Int32.ofNat i), .inr (.inr (.inl (some 259)))]) (h' := h') (by with_unfolding_all rfl) ?_
  refine kc_call_rule (M2 := wk_m236) (av := [.inr (.inr (.inl (some 259))), .inl (Int32.ofNat i), .inl (Int32.ofNat 1)]) (r := []) rfl rfl (kc_Con_le (kv_num (d := 0) (x := n 1) hg hi (by decide) h12 en1) (by decide)) (fun rv h' hq => ?_)
  obtain ⟨rfl, rfl⟩ := hq
  show kc_Ev g 5 wk_m235 _ 13 [(2, .inl (Int32.ofNat (n 0))), (0, .inr (.inr (.inl (some 259)))), (1, .inl (Int32.ofNat i))] [.inl (Int32.ofNat (n 1))] h'
  refine kx_go 4 (pc' := 17) (L' := [(3, .inl (Int32.ofNat (n 1))), (2, .inl (Int32.ofNat (n 0))), (0, .inr (.inr (.inl (some 259)))), (1, .inl (Int32.ofNat i))]) (S' := [.inl (Int32.ofNat 2), .inl (Int32.ofNat i), .inr (.inr (.inl (some 259)))]) (h' := h') (by with_unfolding_all rfl) ?_
  refine kc_call_rule (M2 := wk_m236) (av := [.inr (.inr (.inl (some 259))), .inl (Int32.ofNat i), .inl (Int32.ofNat 2)]) (r := []) rfl rfl (kc_Con_le (kv_num (d := 0) (x := n 2) hg hi (by decide) h12 en2) (by decide)) (fun rv h' hq => ?_)
  obtain ⟨rfl, rfl⟩ := hq
  show kc_Ev g 5 wk_m235 _ 20 [(3, .inl (Int32.ofNat (n 1))), (2, .inl (Int32.ofNat (n 0))), (0, .inr (.inr (.inl (some 259)))), (1, .inl (Int32.ofNat i))] [.inl (Int32.ofNat (n 2))] h'
  refine kx_go 2 (pc' := 23) (L' := [(4, .inl (Int32.ofNat (n 2))), (3, .inl (Int32.ofNat (n 1))), (2, .inl (Int32.ofNat (n 0))), (0, .inr (.inr (.inl (some 259)))), (1, .inl (Int32.ofNat i))]) (S' := [.inr (.inr (.inl (some 259)))]) (h' := h') (by with_unfolding_all rfl) ?_
  refine kx_getf (c := 259) (v := .inr (.inr (.inl (some 264)))) rfl (by decide) h11 ?_
  refine kx_go 1 (pc' := 27) (L' := [(4, .inl (Int32.ofNat (n 2))), (3, .inl (Int32.ofNat (n 1))), (2, .inl (Int32.ofNat (n 0))), (0, .inr (.inr (.inl (some 259)))), (1, .inl (Int32.ofNat i))]) (S' := [.inl (Int32.ofNat i), .inr (.inr (.inl (some 264)))]) (h' := h') (by with_unfolding_all rfl) ?_
  refine kx_iald rfl (c := 264) (j := i) (m := 240) (v := .inl (Int32.ofNat 15)) rfl (by decide) (by decide) (by omega) ev ?_
  refine kx_go 1 (pc' := 123) (L' := [(4, .inl (Int32.ofNat (n 2))), (3, .inl (Int32.ofNat (n 1))), (2, .inl (Int32.ofNat (n 0))), (0, .inr (.inr (.inl (some 259)))), (1, .inl (Int32.ofNat i))]) (S' := []) (h' := h') (by with_unfolding_all rfl) ?_
  refine kx_go 2 (pc' := 125) (L' := [(4, .inl (Int32.ofNat (n 2))), (3, .inl (Int32.ofNat (n 1))), (2, .inl (Int32.ofNat (n 0))), (0, .inr (.inr (.inl (some 259)))), (1, .inl (Int32.ofNat i))]) (S' := [.inl (Int32.ofNat (n 0)), .inr (.inr (.inl (some 259)))]) (h' := h') (by with_unfolding_all rfl) ?_
  refine kc_call_rule (M2 := wk_m26) (av := [.inr (.inr (.inl (some 259))), .inl (Int32.ofNat (n 0))]) (r := []) rfl rfl (kc_Con_le (fu_rford (d := 0) hg hw hC hB) (by decide)) (fun rv h9 hq => ?_)
  obtain ⟨rfl, e9⟩ := hq
  exact kc_ret_ok rfl (rv := some (.inl _)) rfl ⟨rfl, e9⟩
set_option maxRecDepth 20000 in
theorem fu_item6 {g : kc_G} {h : kc_H} {i : Nat} {B : Nat → Int32} {n : Nat → Nat} (hg : kc_ok g) (hw : kd_wt kd_ty h) (hi : i < 60) (hC : fu_B B h) (hB : fu_BT B) (ev : h 264 i = .inl (Int32.ofNat 16)) (en : ∀ k, k < 4 → h 265 (5 * i + k) = .inl (Int32.ofNat (n k)) ∧ n k < 1000) : kc_Con g 6 235 [.inr (.inr (.inl (some 259))), .inl (Int32.ofNat i)] h (fun rv h' => rv = some (.inl (fu_step 6 n B).1) ∧ h' = fu_rw (fu_step 6 n B).2 h) := by
  obtain ⟨en0, nb0⟩ := en 0 (by omega)
  obtain ⟨en1, nb1⟩ := en 1 (by omega)
  obtain ⟨en2, nb2⟩ := en 2 (by omega)
  obtain ⟨en3, nb3⟩ := en 3 (by omega)
  have h11 := kx_ofr (hw _ _ _ kv_kr.1)
  have h12 := kx_ofr (hw _ _ _ kv_kr.2)
  refine kc_Con_new hg (M := wk_m235) rfl rfl rfl (show 2 ≤ 5 by decide) ?_
  refine kx_go 3 (pc' := 3) (L' := [(0, .inr (.inr (.inl (some 259)))), (1, .inl (Int32.ofNat i))]) (S' := [.inl (Int32.ofNat 0), .inl (Int32.ofNat i), .inr (.inr (.inl (some 259)))]) (h' := h) (by with_unfolding_all rfl) ?_
  refine kc_call_rule (M2 := wk_m236) (av := [.inr (.inr (.inl (some 259))), .inl (Int32.ofNat i), .inl (Int32.ofNat 0)]) (r := []) rfl rfl (kc_Con_le (kv_num (d := 0) (x := n 0) hg hi (by decide) h12 en0) (by decide)) (fun rv h' hq => ?_)
  obtain ⟨rfl, rfl⟩ := hq
  show kc_Ev g 5 wk_m235 _ 6 [(0, .inr (.inr (.inl (some 259)))), (1, .inl (Int32.ofNat i))] [.inl (Int32.ofNat (n 0))] h'
  refine kx_go 4 (pc' := 10) (L' := [(2, .inl (Int32.ofNat (n 0))), (0, .inr (.inr (.inl (some 259)))), (1, .inl (Int32.ofNat i))]) (S' := [.inl (Int32.ofNat 1), .inl (Int32.ofNat i), .inr (.inr (.inl (some 259)))]) (h' := h') (by with_unfolding_all rfl) ?_
  refine kc_call_rule (M2 := wk_m236) (av := [.inr (.inr (.inl (some 259))), .inl (Int32.ofNat i), .inl (Int32.ofNat 1)]) (r := []) rfl rfl (kc_Con_le (kv_num (d := 0) (x := n 1) hg hi (by decide) h12 en1) (by decide)) (fun rv h' hq => ?_)
  obtain ⟨rfl, rfl⟩ := hq
  show kc_Ev g 5 wk_m235 _ 13 [(2, .inl (Int32.ofNat (n 0))), (0, .inr (.inr (.inl (some 259)))), (1, .inl (Int32.ofNat i))] [.inl (Int32.ofNat (n 1))] h'
  refine kx_go 4 (pc' := 17) (L' := [(3, .inl (Int32.ofNat (n 1))), (2, .inl (Int32.ofNat (n 0))), (0, .inr (.inr (.inl (some 259)))), (1, .inl (Int32.ofNat i))]) (S' := [.inl (Int32.ofNat 2), .inl (Int32.ofNat i), .inr (.inr (.inl (some 259)))]) (h' := h') (by with_unfolding_all rfl) ?_
  refine kc_call_rule (M2 := wk_m236) (av := [.inr (.inr (.inl (some 259))), .inl (Int32.ofNat i), .inl (Int32.ofNat 2)]) (r := []) rfl rfl (kc_Con_le (kv_num (d := 0) (x := n 2) hg hi (by decide) h12 en2) (by decide)) (fun rv h' hq => ?_)
  obtain ⟨rfl, rfl⟩ := hq
  show kc_Ev g 5 wk_m235 _ 20 [(3, .inl (Int32.ofNat (n 1))), (2, .inl (Int32.ofNat (n 0))), (0, .inr (.inr (.inl (some 259)))), (1, .inl (Int32.ofNat i))] [.inl (Int32.ofNat (n 2))] h'
  refine kx_go 2 (pc' := 23) (L' := [(4, .inl (Int32.ofNat (n 2))), (3, .inl (Int32.ofNat (n 1))), (2, .inl (Int32.ofNat (n 0))), (0, .inr (.inr (.inl (some 259)))), (1, .inl (Int32.ofNat i))]) (S' := [.inr (.inr (.inl (some 259)))]) (h' := h') (by with_unfolding_all rfl) ?_
  refine kx_getf (c := 259) (v := .inr (.inr (.inl (some 264)))) rfl (by decide) h11 ?_
  refine kx_go 1 (pc' := 27) (L' := [(4, .inl (Int32.ofNat (n 2))), (3, .inl (Int32.ofNat (n 1))), (2, .inl (Int32.ofNat (n 0))), (0, .inr (.inr (.inl (some 259)))), (1, .inl (Int32.ofNat i))]) (S' := [.inl (Int32.ofNat i), .inr (.inr (.inl (some 264)))]) (h' := h') (by with_unfolding_all rfl) ?_
  refine kx_iald rfl (c := 264) (j := i) (m := 240) (v := .inl (Int32.ofNat 16)) rfl (by decide) (by decide) (by omega) ev ?_
  refine kx_go 1 (pc' := 129) (L' := [(4, .inl (Int32.ofNat (n 2))), (3, .inl (Int32.ofNat (n 1))), (2, .inl (Int32.ofNat (n 0))), (0, .inr (.inr (.inl (some 259)))), (1, .inl (Int32.ofNat i))]) (S' := []) (h' := h') (by with_unfolding_all rfl) ?_
  refine kx_go 3 (pc' := 132) (L' := [(4, .inl (Int32.ofNat (n 2))), (3, .inl (Int32.ofNat (n 1))), (2, .inl (Int32.ofNat (n 0))), (0, .inr (.inr (.inl (some 259)))), (1, .inl (Int32.ofNat i))]) (S' := [.inl (Int32.ofNat (n 1)), .inl (Int32.ofNat (n 0)), .inr (.inr (.inl (some 259)))]) (h' := h') (by with_unfolding_all rfl) ?_
  refine kc_call_rule (M2 := wk_m47) (av := [.inr (.inr (.inl (some 259))), .inl (Int32.ofNat (n 0)), .inl (Int32.ofNat (n 1))]) (r := []) rfl rfl (kc_Con_le (fu_rask (d := 0) hg hw hC hB) (by decide)) (fun rv h9 hq => ?_)
  obtain ⟨rfl, e9⟩ := hq
  exact kc_ret_ok rfl (rv := some (.inl _)) rfl ⟨rfl, e9⟩
set_option maxRecDepth 20000 in
theorem fu_item7 {g : kc_G} {h : kc_H} {i : Nat} {B : Nat → Int32} {n : Nat → Nat} (hg : kc_ok g) (hw : kd_wt kd_ty h) (hi : i < 60) (hC : fu_B B h) (hB : fu_BT B) (ev : h 264 i = .inl (Int32.ofNat 17)) (en : ∀ k, k < 4 → h 265 (5 * i + k) = .inl (Int32.ofNat (n k)) ∧ n k < 1000) : kc_Con g 6 235 [.inr (.inr (.inl (some 259))), .inl (Int32.ofNat i)] h (fun rv h' => rv = some (.inl (fu_step 7 n B).1) ∧ h' = fu_rw (fu_step 7 n B).2 h) := by
  obtain ⟨en0, nb0⟩ := en 0 (by omega)
  obtain ⟨en1, nb1⟩ := en 1 (by omega)
  obtain ⟨en2, nb2⟩ := en 2 (by omega)
  obtain ⟨en3, nb3⟩ := en 3 (by omega)
  have h11 := kx_ofr (hw _ _ _ kv_kr.1)
  have h12 := kx_ofr (hw _ _ _ kv_kr.2)
  refine kc_Con_new hg (M := wk_m235) rfl rfl rfl (show 2 ≤ 5 by decide) ?_
  refine kx_go 3 (pc' := 3) (L' := [(0, .inr (.inr (.inl (some 259)))), (1, .inl (Int32.ofNat i))]) (S' := [.inl (Int32.ofNat 0), .inl (Int32.ofNat i), .inr (.inr (.inl (some 259)))]) (h' := h) (by with_unfolding_all rfl) ?_
  refine kc_call_rule (M2 := wk_m236) (av := [.inr (.inr (.inl (some 259))), .inl (Int32.ofNat i), .inl (Int32.ofNat 0)]) (r := []) rfl rfl (kc_Con_le (kv_num (d := 0) (x := n 0) hg hi (by decide) h12 en0) (by decide)) (fun rv h' hq => ?_)
  obtain ⟨rfl, rfl⟩ := hq
  show kc_Ev g 5 wk_m235 _ 6 [(0, .inr (.inr (.inl (some 259)))), (1, .inl (Int32.ofNat i))] [.inl (Int32.ofNat (n 0))] h'
  refine kx_go 4 (pc' := 10) (L' := [(2, .inl (Int32.ofNat (n 0))), (0, .inr (.inr (.inl (some 259)))), (1, .inl (Int32.ofNat i))]) (S' := [.inl (Int32.ofNat 1), .inl (Int32.ofNat i), .inr (.inr (.inl (some 259)))]) (h' := h') (by with_unfolding_all rfl) ?_
  refine kc_call_rule (M2 := wk_m236) (av := [.inr (.inr (.inl (some 259))), .inl (Int32.ofNat i), .inl (Int32.ofNat 1)]) (r := []) rfl rfl (kc_Con_le (kv_num (d := 0) (x := n 1) hg hi (by decide) h12 en1) (by decide)) (fun rv h' hq => ?_)
  obtain ⟨rfl, rfl⟩ := hq
  show kc_Ev g 5 wk_m235 _ 13 [(2, .inl (Int32.ofNat (n 0))), (0, .inr (.inr (.inl (some 259)))), (1, .inl (Int32.ofNat i))] [.inl (Int32.ofNat (n 1))] h'
  refine kx_go 4 (pc' := 17) (L' := [(3, .inl (Int32.ofNat (n 1))), (2, .inl (Int32.ofNat (n 0))), (0, .inr (.inr (.inl (some 259)))), (1, .inl (Int32.ofNat i))]) (S' := [.inl (Int32.ofNat 2), .inl (Int32.ofNat i), .inr (.inr (.inl (some 259)))]) (h' := h') (by with_unfolding_all rfl) ?_
  refine kc_call_rule (M2 := wk_m236) (av := [.inr (.inr (.inl (some 259))), .inl (Int32.ofNat i), .inl (Int32.ofNat 2)]) (r := []) rfl rfl (kc_Con_le (kv_num (d := 0) (x := n 2) hg hi (by decide) h12 en2) (by decide)) (fun rv h' hq => ?_)
  obtain ⟨rfl, rfl⟩ := hq
  show kc_Ev g 5 wk_m235 _ 20 [(3, .inl (Int32.ofNat (n 1))), (2, .inl (Int32.ofNat (n 0))), (0, .inr (.inr (.inl (some 259)))), (1, .inl (Int32.ofNat i))] [.inl (Int32.ofNat (n 2))] h'
  refine kx_go 2 (pc' := 23) (L' := [(4, .inl (Int32.ofNat (n 2))), (3, .inl (Int32.ofNat (n 1))), (2, .inl (Int32.ofNat (n 0))), (0, .inr (.inr (.inl (some 259)))), (1, .inl (Int32.ofNat i))]) (S' := [.inr (.inr (.inl (some 259)))]) (h' := h') (by with_unfolding_all rfl) ?_
  refine kx_getf (c := 259) (v := .inr (.inr (.inl (some 264)))) rfl (by decide) h11 ?_
  refine kx_go 1 (pc' := 27) (L' := [(4, .inl (Int32.ofNat (n 2))), (3, .inl (Int32.ofNat (n 1))), (2, .inl (Int32.ofNat (n 0))), (0, .inr (.inr (.inl (some 259)))), (1, .inl (Int32.ofNat i))]) (S' := [.inl (Int32.ofNat i), .inr (.inr (.inl (some 264)))]) (h' := h') (by with_unfolding_all rfl) ?_
  refine kx_iald rfl (c := 264) (j := i) (m := 240) (v := .inl (Int32.ofNat 17)) rfl (by decide) (by decide) (by omega) ev ?_
  refine kx_go 1 (pc' := 136) (L' := [(4, .inl (Int32.ofNat (n 2))), (3, .inl (Int32.ofNat (n 1))), (2, .inl (Int32.ofNat (n 0))), (0, .inr (.inr (.inl (some 259)))), (1, .inl (Int32.ofNat i))]) (S' := []) (h' := h') (by with_unfolding_all rfl) ?_
  refine kx_go 3 (pc' := 139) (L' := [(4, .inl (Int32.ofNat (n 2))), (3, .inl (Int32.ofNat (n 1))), (2, .inl (Int32.ofNat (n 0))), (0, .inr (.inr (.inl (some 259)))), (1, .inl (Int32.ofNat i))]) (S' := [.inl (Int32.ofNat (n 1)), .inl (Int32.ofNat (n 0)), .inr (.inr (.inl (some 259)))]) (h' := h') (by with_unfolding_all rfl) ?_
  refine kc_call_rule (M2 := wk_m50) (av := [.inr (.inr (.inl (some 259))), .inl (Int32.ofNat (n 0)), .inl (Int32.ofNat (n 1))]) (r := []) rfl rfl (kc_Con_le (fu_rdrain (d := 0) hg hw hC hB) (by decide)) (fun rv h9 hq => ?_)
  obtain ⟨rfl, e9⟩ := hq
  exact kc_ret_ok rfl (rv := some (.inl _)) rfl ⟨rfl, e9⟩
set_option maxRecDepth 20000 in
theorem fu_item8 {g : kc_G} {h : kc_H} {i : Nat} {B : Nat → Int32} {n : Nat → Nat} (hg : kc_ok g) (hw : kd_wt kd_ty h) (hi : i < 60) (hC : fu_B B h) (hB : fu_BT B) (ev : h 264 i = .inl (Int32.ofNat 18)) (en : ∀ k, k < 4 → h 265 (5 * i + k) = .inl (Int32.ofNat (n k)) ∧ n k < 1000) : kc_Con g 6 235 [.inr (.inr (.inl (some 259))), .inl (Int32.ofNat i)] h (fun rv h' => rv = some (.inl (fu_step 8 n B).1) ∧ h' = fu_rw (fu_step 8 n B).2 h) := by
  obtain ⟨en0, nb0⟩ := en 0 (by omega)
  obtain ⟨en1, nb1⟩ := en 1 (by omega)
  obtain ⟨en2, nb2⟩ := en 2 (by omega)
  obtain ⟨en3, nb3⟩ := en 3 (by omega)
  have h11 := kx_ofr (hw _ _ _ kv_kr.1)
  have h12 := kx_ofr (hw _ _ _ kv_kr.2)
  refine kc_Con_new hg (M := wk_m235) rfl rfl rfl (show 2 ≤ 5 by decide) ?_
  refine kx_go 3 (pc' := 3) (L' := [(0, .inr (.inr (.inl (some 259)))), (1, .inl (Int32.ofNat i))]) (S' := [.inl (Int32.ofNat 0), .inl (Int32.ofNat i), .inr (.inr (.inl (some 259)))]) (h' := h) (by with_unfolding_all rfl) ?_
  refine kc_call_rule (M2 := wk_m236) (av := [.inr (.inr (.inl (some 259))), .inl (Int32.ofNat i), .inl (Int32.ofNat 0)]) (r := []) rfl rfl (kc_Con_le (kv_num (d := 0) (x := n 0) hg hi (by decide) h12 en0) (by decide)) (fun rv h' hq => ?_)
  obtain ⟨rfl, rfl⟩ := hq
  show kc_Ev g 5 wk_m235 _ 6 [(0, .inr (.inr (.inl (some 259)))), (1, .inl (Int32.ofNat i))] [.inl (Int32.ofNat (n 0))] h'
  refine kx_go 4 (pc' := 10) (L' := [(2, .inl (Int32.ofNat (n 0))), (0, .inr (.inr (.inl (some 259)))), (1, .inl (Int32.ofNat i))]) (S' := [.inl (Int32.ofNat 1), .inl (Int32.ofNat i), .inr (.inr (.inl (some 259)))]) (h' := h') (by with_unfolding_all rfl) ?_
  refine kc_call_rule (M2 := wk_m236) (av := [.inr (.inr (.inl (some 259))), .inl (Int32.ofNat i), .inl (Int32.ofNat 1)]) (r := []) rfl rfl (kc_Con_le (kv_num (d := 0) (x := n 1) hg hi (by decide) h12 en1) (by decide)) (fun rv h' hq => ?_)
  obtain ⟨rfl, rfl⟩ := hq
  show kc_Ev g 5 wk_m235 _ 13 [(2, .inl (Int32.ofNat (n 0))), (0, .inr (.inr (.inl (some 259)))), (1, .inl (Int32.ofNat i))] [.inl (Int32.ofNat (n 1))] h'
  refine kx_go 4 (pc' := 17) (L' := [(3, .inl (Int32.ofNat (n 1))), (2, .inl (Int32.ofNat (n 0))), (0, .inr (.inr (.inl (some 259)))), (1, .inl (Int32.ofNat i))]) (S' := [.inl (Int32.ofNat 2), .inl (Int32.ofNat i), .inr (.inr (.inl (some 259)))]) (h' := h') (by with_unfolding_all rfl) ?_
  refine kc_call_rule (M2 := wk_m236) (av := [.inr (.inr (.inl (some 259))), .inl (Int32.ofNat i), .inl (Int32.ofNat 2)]) (r := []) rfl rfl (kc_Con_le (kv_num (d := 0) (x := n 2) hg hi (by decide) h12 en2) (by decide)) (fun rv h' hq => ?_)
  obtain ⟨rfl, rfl⟩ := hq
  show kc_Ev g 5 wk_m235 _ 20 [(3, .inl (Int32.ofNat (n 1))), (2, .inl (Int32.ofNat (n 0))), (0, .inr (.inr (.inl (some 259)))), (1, .inl (Int32.ofNat i))] [.inl (Int32.ofNat (n 2))] h'
  refine kx_go 2 (pc' := 23) (L' := [(4, .inl (Int32.ofNat (n 2))), (3, .inl (Int32.ofNat (n 1))), (2, .inl (Int32.ofNat (n 0))), (0, .inr (.inr (.inl (some 259)))), (1, .inl (Int32.ofNat i))]) (S' := [.inr (.inr (.inl (some 259)))]) (h' := h') (by with_unfolding_all rfl) ?_
  refine kx_getf (c := 259) (v := .inr (.inr (.inl (some 264)))) rfl (by decide) h11 ?_
  refine kx_go 1 (pc' := 27) (L' := [(4, .inl (Int32.ofNat (n 2))), (3, .inl (Int32.ofNat (n 1))), (2, .inl (Int32.ofNat (n 0))), (0, .inr (.inr (.inl (some 259)))), (1, .inl (Int32.ofNat i))]) (S' := [.inl (Int32.ofNat i), .inr (.inr (.inl (some 264)))]) (h' := h') (by with_unfolding_all rfl) ?_
  refine kx_iald rfl (c := 264) (j := i) (m := 240) (v := .inl (Int32.ofNat 18)) rfl (by decide) (by decide) (by omega) ev ?_
  refine kx_go 1 (pc' := 143) (L' := [(4, .inl (Int32.ofNat (n 2))), (3, .inl (Int32.ofNat (n 1))), (2, .inl (Int32.ofNat (n 0))), (0, .inr (.inr (.inl (some 259)))), (1, .inl (Int32.ofNat i))]) (S' := []) (h' := h') (by with_unfolding_all rfl) ?_
  refine kx_go 3 (pc' := 146) (L' := [(4, .inl (Int32.ofNat (n 2))), (3, .inl (Int32.ofNat (n 1))), (2, .inl (Int32.ofNat (n 0))), (0, .inr (.inr (.inl (some 259)))), (1, .inl (Int32.ofNat i))]) (S' := [.inl (Int32.ofNat (n 1)), .inl (Int32.ofNat (n 0)), .inr (.inr (.inl (some 259)))]) (h' := h') (by with_unfolding_all rfl) ?_
  refine kc_call_rule (M2 := wk_m30) (av := [.inr (.inr (.inl (some 259))), .inl (Int32.ofNat (n 0)), .inl (Int32.ofNat (n 1))]) (r := []) rfl rfl (kc_Con_le (fu_rstones (d := 0) hg hw hC hB) (by decide)) (fun rv h9 hq => ?_)
  obtain ⟨rfl, e9⟩ := hq
  exact kc_ret_ok rfl (rv := some (.inl _)) rfl ⟨rfl, e9⟩
theorem fu_item {g : kc_G} {h : kc_H} {i v : Nat} {B : Nat → Int32} {n : Nat → Nat} (hg : kc_ok g) (hw : kd_wt kd_ty h) (hi : i < 60) (hv : v < 9) (hC : fu_B B h) (hB : fu_BT B) (ev : h 264 i = .inl (Int32.ofNat (kp_tv v))) (en : ∀ k, k < 4 → h 265 (5 * i + k) = .inl (Int32.ofNat (n k)) ∧ n k < 1000) : kc_Con g 6 235 [.inr (.inr (.inl (some 259))), .inl (Int32.ofNat i)] h (fun rv h' => rv = some (.inl (fu_step v n B).1) ∧ h' = fu_rw (fu_step v n B).2 h) := by
  rcases (show v = 0 ∨ v = 1 ∨ v = 2 ∨ v = 3 ∨ v = 4 ∨ v = 5 ∨ v = 6 ∨ v = 7 ∨ v = 8 by omega) with rfl | rfl | rfl | rfl | rfl | rfl | rfl | rfl | rfl
  · exact fu_item0 hg hw hi hC hB ev en
  · exact fu_item1 hg hw hi hC hB ev en
  · exact fu_item2 hg hw hi hC hB ev en
  · exact fu_item3 hg hw hi hC hB ev en
  · exact fu_item4 hg hw hi hC hB ev en
  · exact fu_item5 hg hw hi hC hB ev en
  · exact fu_item6 hg hw hi hC hB ev en
  · exact fu_item7 hg hw hi hC hB ev en
  · exact fu_item8 hg hw hi hC hB ev en
