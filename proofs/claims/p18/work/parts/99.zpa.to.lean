section
-- 99.zpa
/-! ===== the day's items, exactly ===== -/
def fu_step (v : Nat) (n : Nat → Nat) (B : Nat → Int32) : fu_S := match v with
  | 0 => fu_mule B (Int32.ofNat (n 0)) (Int32.ofNat (n 1)) (Int32.ofNat (n 2))
  | 1 => fu_load B (Int32.ofNat (n 0)) (Int32.ofNat (n 1)) (Int32.ofNat (n 2)) (Int32.ofNat (n 3))
  | 2 => fu_door B
  | 3 => fu_way B (Int32.ofNat (n 0)) (Int32.ofNat (n 1)) (Int32.ofNat (n 2))
  | 4 => fu_lame B (Int32.ofNat (n 0)) (Int32.ofNat (n 1)) (Int32.ofNat (n 2))
  | 5 => fu_ford B (Int32.ofNat (n 0))
  | 6 => fu_ofl B 4 100 (Int32.ofNat (n 0)) (Int32.ofNat (n 1))
  | 7 => fu_ofl B 5 9 (Int32.ofNat (n 0)) (Int32.ofNat (n 1))
  | _ => fu_stones B (Int32.ofNat (n 0)) (Int32.ofNat (n 1))
theorem fu_step_c {v : Nat} {n n' : Nat → Nat} {B : Nat → Int32} (hv : v < 9) (h : ∀ k, k < ks_L (kp_sh v) → n k = n' k) : fu_step v n B = fu_step v n' B := by
  obtain ⟨a0, a1, a2, a3, a4, a5, a6, a7, a8⟩ := kv_ar
  rcases (show v = 0 ∨ v = 1 ∨ v = 2 ∨ v = 3 ∨ v = 4 ∨ v = 5 ∨ v = 6 ∨ v = 7 ∨ v = 8 by omega) with rfl | rfl | rfl | rfl | rfl | rfl | rfl | rfl | rfl
  · show fu_mule B _ _ _ = fu_mule B _ _ _; rw [h 0 (by omega), h 1 (by omega), h 2 (by omega)]
  · show fu_load B _ _ _ _ = fu_load B _ _ _ _; rw [h 0 (by omega), h 1 (by omega), h 2 (by omega), h 3 (by omega)]
  · show fu_door B = fu_door B; exact Eq.refl _
  · show fu_way B _ _ _ = fu_way B _ _ _; rw [h 0 (by omega), h 1 (by omega), h 2 (by omega)]
  · show fu_lame B _ _ _ = fu_lame B _ _ _; rw [h 0 (by omega), h 1 (by omega), h 2 (by omega)]
  · show fu_ford B _ = fu_ford B _; rw [h 0 (by omega)]
  · show fu_ofl B 4 100 _ _ = fu_ofl B 4 100 _ _; rw [h 0 (by omega), h 1 (by omega)]
  · show fu_ofl B 5 9 _ _ = fu_ofl B 5 9 _ _; rw [h 0 (by omega), h 1 (by omega)]
  · show fu_stones B _ _ = fu_stones B _ _; rw [h 0 (by omega), h 1 (by omega)]
theorem fu_g_step {v : Nat} {n : Nat → Nat} {B : Nat → Int32} (hv : v < 9) (hB : fu_BT B) : fu_gd (fu_step v n B).2 := by
  rcases (show v = 0 ∨ v = 1 ∨ v = 2 ∨ v = 3 ∨ v = 4 ∨ v = 5 ∨ v = 6 ∨ v = 7 ∨ v = 8 by omega) with rfl | rfl | rfl | rfl | rfl | rfl | rfl | rfl | rfl
  · exact fu_g_mule hB
  · exact fu_g_load hB
  · exact fu_g_door hB
  · exact fu_g_way hB
  · exact fu_g_lame hB
  · exact fu_g_ford hB
  · exact fu_g_ask hB
  · exact fu_g_drain hB
  · exact fu_g_stones hB
set_option maxRecDepth 20000 in
theorem fu_tell0 {g : kc_G} {h : kc_H} {i : Nat} {B : Nat → Int32} {n : Nat → Nat} (hg : kc_ok g) (hw : kd_wt kd_ty h) (hi : i < 60) (hC : fu_C B 1 h) (hB : fu_BT B) (en : ∀ k, k < 4 → h (130 + i) k = .inl (Int32.ofNat (n k)) ∧ n k < 1000) : kc_Con g 6 181 [.inr (.inr (.inl (some 1))), .inl (Int32.ofNat 0), .inr (.inr (.inl (some (130 + i))))] h (fun rv h' => rv = some (.inl (fu_step 0 n B).1) ∧ h' = fu_cw 1 (fu_step 0 n B).2 h) := by
  obtain ⟨en0, nb0⟩ := en 0 (by omega)
  obtain ⟨en1, nb1⟩ := en 1 (by omega)
  obtain ⟨en2, nb2⟩ := en 2 (by omega)
  refine kc_Con_new hg (M := wk_m181) rfl rfl rfl (show 3 ≤ 3 by decide) ?_
  refine kx_go 2 (pc' := 52) (L' := [(0, .inr (.inr (.inl (some 1)))), (1, .inl (Int32.ofNat 0)), (2, .inr (.inr (.inl (some (130 + i)))))]) (S' := []) (h' := h) (by with_unfolding_all rfl) ?_
  refine kx_go 3 (pc' := 55) (L' := [(0, .inr (.inr (.inl (some 1)))), (1, .inl (Int32.ofNat 0)), (2, .inr (.inr (.inl (some (130 + i)))))]) (S' := [.inl (Int32.ofNat 0), .inr (.inr (.inl (some (130 + i)))), .inr (.inr (.inl (some 1)))]) (h' := h) (by with_unfolding_all rfl) ?_
  refine kx_iald rfl (c := 130 + i) (j := 0) (m := 4) (v := .inl (Int32.ofNat (n 0))) (kr_rows i hi).1 (kr_rows i hi).2 (by decide) (by decide) en0 ?_
  refine kx_go 2 (pc' := 58) (L' := [(0, .inr (.inr (.inl (some 1)))), (1, .inl (Int32.ofNat 0)), (2, .inr (.inr (.inl (some (130 + i)))))]) (S' := [.inl (Int32.ofNat 1), .inr (.inr (.inl (some (130 + i)))), .inl (Int32.ofNat (n 0)), .inr (.inr (.inl (some 1)))]) (h' := h) (by with_unfolding_all rfl) ?_
  refine kx_iald rfl (c := 130 + i) (j := 1) (m := 4) (v := .inl (Int32.ofNat (n 1))) (kr_rows i hi).1 (kr_rows i hi).2 (by decide) (by decide) en1 ?_
  refine kx_go 2 (pc' := 61) (L' := [(0, .inr (.inr (.inl (some 1)))), (1, .inl (Int32.ofNat 0)), (2, .inr (.inr (.inl (some (130 + i)))))]) (S' := [.inl (Int32.ofNat 2), .inr (.inr (.inl (some (130 + i)))), .inl (Int32.ofNat (n 1)), .inl (Int32.ofNat (n 0)), .inr (.inr (.inl (some 1)))]) (h' := h) (by with_unfolding_all rfl) ?_
  refine kx_iald rfl (c := 130 + i) (j := 2) (m := 4) (v := .inl (Int32.ofNat (n 2))) (kr_rows i hi).1 (kr_rows i hi).2 (by decide) (by decide) en2 ?_
  refine kc_call_rule (M2 := wk_m33) (av := [.inr (.inr (.inl (some 1))), .inl (Int32.ofNat (n 0)), .inl (Int32.ofNat (n 1)), .inl (Int32.ofNat (n 2))]) (r := []) rfl rfl (kc_Con_le (fu_c33 (d := 0) hg hw hC hB) (by decide)) (fun rv h9 hq => ?_)
  obtain ⟨rfl, e9⟩ := hq
  exact kc_ret_ok rfl (rv := some (.inl _)) rfl ⟨rfl, e9⟩
set_option maxRecDepth 20000 in
theorem fu_tell1 {g : kc_G} {h : kc_H} {i : Nat} {B : Nat → Int32} {n : Nat → Nat} (hg : kc_ok g) (hw : kd_wt kd_ty h) (hi : i < 60) (hC : fu_C B 1 h) (hB : fu_BT B) (en : ∀ k, k < 4 → h (130 + i) k = .inl (Int32.ofNat (n k)) ∧ n k < 1000) : kc_Con g 6 181 [.inr (.inr (.inl (some 1))), .inl (Int32.ofNat 1), .inr (.inr (.inl (some (130 + i))))] h (fun rv h' => rv = some (.inl (fu_step 1 n B).1) ∧ h' = fu_cw 1 (fu_step 1 n B).2 h) := by
  obtain ⟨en0, nb0⟩ := en 0 (by omega)
  obtain ⟨en1, nb1⟩ := en 1 (by omega)
  obtain ⟨en2, nb2⟩ := en 2 (by omega)
  obtain ⟨en3, nb3⟩ := en 3 (by omega)
  refine kc_Con_new hg (M := wk_m181) rfl rfl rfl (show 3 ≤ 3 by decide) ?_
  refine kx_go 2 (pc' := 66) (L' := [(0, .inr (.inr (.inl (some 1)))), (1, .inl (Int32.ofNat 1)), (2, .inr (.inr (.inl (some (130 + i)))))]) (S' := []) (h' := h) (by with_unfolding_all rfl) ?_
  refine kx_go 3 (pc' := 69) (L' := [(0, .inr (.inr (.inl (some 1)))), (1, .inl (Int32.ofNat 1)), (2, .inr (.inr (.inl (some (130 + i)))))]) (S' := [.inl (Int32.ofNat 0), .inr (.inr (.inl (some (130 + i)))), .inr (.inr (.inl (some 1)))]) (h' := h) (by with_unfolding_all rfl) ?_
  refine kx_iald rfl (c := 130 + i) (j := 0) (m := 4) (v := .inl (Int32.ofNat (n 0))) (kr_rows i hi).1 (kr_rows i hi).2 (by decide) (by decide) en0 ?_
  refine kx_go 2 (pc' := 72) (L' := [(0, .inr (.inr (.inl (some 1)))), (1, .inl (Int32.ofNat 1)), (2, .inr (.inr (.inl (some (130 + i)))))]) (S' := [.inl (Int32.ofNat 1), .inr (.inr (.inl (some (130 + i)))), .inl (Int32.ofNat (n 0)), .inr (.inr (.inl (some 1)))]) (h' := h) (by with_unfolding_all rfl) ?_
  refine kx_iald rfl (c := 130 + i) (j := 1) (m := 4) (v := .inl (Int32.ofNat (n 1))) (kr_rows i hi).1 (kr_rows i hi).2 (by decide) (by decide) en1 ?_
  refine kx_go 2 (pc' := 75) (L' := [(0, .inr (.inr (.inl (some 1)))), (1, .inl (Int32.ofNat 1)), (2, .inr (.inr (.inl (some (130 + i)))))]) (S' := [.inl (Int32.ofNat 2), .inr (.inr (.inl (some (130 + i)))), .inl (Int32.ofNat (n 1)), .inl (Int32.ofNat (n 0)), .inr (.inr (.inl (some 1)))]) (h' := h) (by with_unfolding_all rfl) ?_
  refine kx_iald rfl (c := 130 + i) (j := 2) (m := 4) (v := .inl (Int32.ofNat (n 2))) (kr_rows i hi).1 (kr_rows i hi).2 (by decide) (by decide) en2 ?_
  refine kx_go 2 (pc' := 78) (L' := [(0, .inr (.inr (.inl (some 1)))), (1, .inl (Int32.ofNat 1)), (2, .inr (.inr (.inl (some (130 + i)))))]) (S' := [.inl (Int32.ofNat 3), .inr (.inr (.inl (some (130 + i)))), .inl (Int32.ofNat (n 2)), .inl (Int32.ofNat (n 1)), .inl (Int32.ofNat (n 0)), .inr (.inr (.inl (some 1)))]) (h' := h) (by with_unfolding_all rfl) ?_
  refine kx_iald rfl (c := 130 + i) (j := 3) (m := 4) (v := .inl (Int32.ofNat (n 3))) (kr_rows i hi).1 (kr_rows i hi).2 (by decide) (by decide) en3 ?_
  refine kc_call_rule (M2 := wk_m42) (av := [.inr (.inr (.inl (some 1))), .inl (Int32.ofNat (n 0)), .inl (Int32.ofNat (n 1)), .inl (Int32.ofNat (n 2)), .inl (Int32.ofNat (n 3))]) (r := []) rfl rfl (kc_Con_le (fu_c42 (d := 0) hg hw hC hB) (by decide)) (fun rv h9 hq => ?_)
  obtain ⟨rfl, e9⟩ := hq
  exact kc_ret_ok rfl (rv := some (.inl _)) rfl ⟨rfl, e9⟩
set_option maxRecDepth 20000 in
theorem fu_tell2 {g : kc_G} {h : kc_H} {i : Nat} {B : Nat → Int32} {n : Nat → Nat} (hg : kc_ok g) (hw : kd_wt kd_ty h) (hi : i < 60) (hC : fu_C B 1 h) (hB : fu_BT B) (en : ∀ k, k < 4 → h (130 + i) k = .inl (Int32.ofNat (n k)) ∧ n k < 1000) : kc_Con g 6 181 [.inr (.inr (.inl (some 1))), .inl (Int32.ofNat 2), .inr (.inr (.inl (some (130 + i))))] h (fun rv h' => rv = some (.inl (fu_step 2 n B).1) ∧ h' = fu_cw 1 (fu_step 2 n B).2 h) := by
  refine kc_Con_new hg (M := wk_m181) rfl rfl rfl (show 3 ≤ 3 by decide) ?_
  refine kx_go 2 (pc' := 83) (L' := [(0, .inr (.inr (.inl (some 1)))), (1, .inl (Int32.ofNat 2)), (2, .inr (.inr (.inl (some (130 + i)))))]) (S' := []) (h' := h) (by with_unfolding_all rfl) ?_
  refine kx_go 1 (pc' := 84) (L' := [(0, .inr (.inr (.inl (some 1)))), (1, .inl (Int32.ofNat 2)), (2, .inr (.inr (.inl (some (130 + i)))))]) (S' := [.inr (.inr (.inl (some 1)))]) (h' := h) (by with_unfolding_all rfl) ?_
  refine kc_call_rule (M2 := wk_m14) (av := [.inr (.inr (.inl (some 1)))]) (r := []) rfl rfl (kc_Con_le (fu_c14 (d := 0) hg hw hC hB) (by decide)) (fun rv h9 hq => ?_)
  obtain ⟨rfl, e9⟩ := hq
  exact kc_ret_ok rfl (rv := some (.inl _)) rfl ⟨rfl, e9⟩
set_option maxRecDepth 20000 in
theorem fu_tell3 {g : kc_G} {h : kc_H} {i : Nat} {B : Nat → Int32} {n : Nat → Nat} (hg : kc_ok g) (hw : kd_wt kd_ty h) (hi : i < 60) (hC : fu_C B 1 h) (hB : fu_BT B) (en : ∀ k, k < 4 → h (130 + i) k = .inl (Int32.ofNat (n k)) ∧ n k < 1000) : kc_Con g 6 181 [.inr (.inr (.inl (some 1))), .inl (Int32.ofNat 3), .inr (.inr (.inl (some (130 + i))))] h (fun rv h' => rv = some (.inl (fu_step 3 n B).1) ∧ h' = fu_cw 1 (fu_step 3 n B).2 h) := by
  obtain ⟨en0, nb0⟩ := en 0 (by omega)
  obtain ⟨en1, nb1⟩ := en 1 (by omega)
  obtain ⟨en2, nb2⟩ := en 2 (by omega)
  refine kc_Con_new hg (M := wk_m181) rfl rfl rfl (show 3 ≤ 3 by decide) ?_
  refine kx_go 2 (pc' := 88) (L' := [(0, .inr (.inr (.inl (some 1)))), (1, .inl (Int32.ofNat 3)), (2, .inr (.inr (.inl (some (130 + i)))))]) (S' := []) (h' := h) (by with_unfolding_all rfl) ?_
  refine kx_go 3 (pc' := 91) (L' := [(0, .inr (.inr (.inl (some 1)))), (1, .inl (Int32.ofNat 3)), (2, .inr (.inr (.inl (some (130 + i)))))]) (S' := [.inl (Int32.ofNat 0), .inr (.inr (.inl (some (130 + i)))), .inr (.inr (.inl (some 1)))]) (h' := h) (by with_unfolding_all rfl) ?_
  refine kx_iald rfl (c := 130 + i) (j := 0) (m := 4) (v := .inl (Int32.ofNat (n 0))) (kr_rows i hi).1 (kr_rows i hi).2 (by decide) (by decide) en0 ?_
  refine kx_go 2 (pc' := 94) (L' := [(0, .inr (.inr (.inl (some 1)))), (1, .inl (Int32.ofNat 3)), (2, .inr (.inr (.inl (some (130 + i)))))]) (S' := [.inl (Int32.ofNat 1), .inr (.inr (.inl (some (130 + i)))), .inl (Int32.ofNat (n 0)), .inr (.inr (.inl (some 1)))]) (h' := h) (by with_unfolding_all rfl) ?_
  refine kx_iald rfl (c := 130 + i) (j := 1) (m := 4) (v := .inl (Int32.ofNat (n 1))) (kr_rows i hi).1 (kr_rows i hi).2 (by decide) (by decide) en1 ?_
  refine kx_go 2 (pc' := 97) (L' := [(0, .inr (.inr (.inl (some 1)))), (1, .inl (Int32.ofNat 3)), (2, .inr (.inr (.inl (some (130 + i)))))]) (S' := [.inl (Int32.ofNat 2), .inr (.inr (.inl (some (130 + i)))), .inl (Int32.ofNat (n 1)), .inl (Int32.ofNat (n 0)), .inr (.inr (.inl (some 1)))]) (h' := h) (by with_unfolding_all rfl) ?_
  refine kx_iald rfl (c := 130 + i) (j := 2) (m := 4) (v := .inl (Int32.ofNat (n 2))) (kr_rows i hi).1 (kr_rows i hi).2 (by decide) (by decide) en2 ?_
  refine kc_call_rule (M2 := wk_m17) (av := [.inr (.inr (.inl (some 1))), .inl (Int32.ofNat (n 0)), .inl (Int32.ofNat (n 1)), .inl (Int32.ofNat (n 2))]) (r := []) rfl rfl (kc_Con_le (fu_c17 (d := 0) hg hw hC hB) (by decide)) (fun rv h9 hq => ?_)
  obtain ⟨rfl, e9⟩ := hq
  exact kc_ret_ok rfl (rv := some (.inl _)) rfl ⟨rfl, e9⟩
set_option maxRecDepth 20000 in
theorem fu_tell4 {g : kc_G} {h : kc_H} {i : Nat} {B : Nat → Int32} {n : Nat → Nat} (hg : kc_ok g) (hw : kd_wt kd_ty h) (hi : i < 60) (hC : fu_C B 1 h) (hB : fu_BT B) (en : ∀ k, k < 4 → h (130 + i) k = .inl (Int32.ofNat (n k)) ∧ n k < 1000) : kc_Con g 6 181 [.inr (.inr (.inl (some 1))), .inl (Int32.ofNat 4), .inr (.inr (.inl (some (130 + i))))] h (fun rv h' => rv = some (.inl (fu_step 4 n B).1) ∧ h' = fu_cw 1 (fu_step 4 n B).2 h) := by
  obtain ⟨en0, nb0⟩ := en 0 (by omega)
  obtain ⟨en1, nb1⟩ := en 1 (by omega)
  obtain ⟨en2, nb2⟩ := en 2 (by omega)
  refine kc_Con_new hg (M := wk_m181) rfl rfl rfl (show 3 ≤ 3 by decide) ?_
  refine kx_go 2 (pc' := 102) (L' := [(0, .inr (.inr (.inl (some 1)))), (1, .inl (Int32.ofNat 4)), (2, .inr (.inr (.inl (some (130 + i)))))]) (S' := []) (h' := h) (by with_unfolding_all rfl) ?_
  refine kx_go 3 (pc' := 105) (L' := [(0, .inr (.inr (.inl (some 1)))), (1, .inl (Int32.ofNat 4)), (2, .inr (.inr (.inl (some (130 + i)))))]) (S' := [.inl (Int32.ofNat 0), .inr (.inr (.inl (some (130 + i)))), .inr (.inr (.inl (some 1)))]) (h' := h) (by with_unfolding_all rfl) ?_
  refine kx_iald rfl (c := 130 + i) (j := 0) (m := 4) (v := .inl (Int32.ofNat (n 0))) (kr_rows i hi).1 (kr_rows i hi).2 (by decide) (by decide) en0 ?_
  refine kx_go 2 (pc' := 108) (L' := [(0, .inr (.inr (.inl (some 1)))), (1, .inl (Int32.ofNat 4)), (2, .inr (.inr (.inl (some (130 + i)))))]) (S' := [.inl (Int32.ofNat 1), .inr (.inr (.inl (some (130 + i)))), .inl (Int32.ofNat (n 0)), .inr (.inr (.inl (some 1)))]) (h' := h) (by with_unfolding_all rfl) ?_
  refine kx_iald rfl (c := 130 + i) (j := 1) (m := 4) (v := .inl (Int32.ofNat (n 1))) (kr_rows i hi).1 (kr_rows i hi).2 (by decide) (by decide) en1 ?_
  refine kx_go 2 (pc' := 111) (L' := [(0, .inr (.inr (.inl (some 1)))), (1, .inl (Int32.ofNat 4)), (2, .inr (.inr (.inl (some (130 + i)))))]) (S' := [.inl (Int32.ofNat 2), .inr (.inr (.inl (some (130 + i)))), .inl (Int32.ofNat (n 1)), .inl (Int32.ofNat (n 0)), .inr (.inr (.inl (some 1)))]) (h' := h) (by with_unfolding_all rfl) ?_
  refine kx_iald rfl (c := 130 + i) (j := 2) (m := 4) (v := .inl (Int32.ofNat (n 2))) (kr_rows i hi).1 (kr_rows i hi).2 (by decide) (by decide) en2 ?_
  refine kc_call_rule (M2 := wk_m36) (av := [.inr (.inr (.inl (some 1))), .inl (Int32.ofNat (n 0)), .inl (Int32.ofNat (n 1)), .inl (Int32.ofNat (n 2))]) (r := []) rfl rfl (kc_Con_le (fu_c36 (d := 0) hg hw hC hB) (by decide)) (fun rv h9 hq => ?_)
  obtain ⟨rfl, e9⟩ := hq
  exact kc_ret_ok rfl (rv := some (.inl _)) rfl ⟨rfl, e9⟩
set_option maxRecDepth 20000 in
theorem fu_tell5 {g : kc_G} {h : kc_H} {i : Nat} {B : Nat → Int32} {n : Nat → Nat} (hg : kc_ok g) (hw : kd_wt kd_ty h) (hi : i < 60) (hC : fu_C B 1 h) (hB : fu_BT B) (en : ∀ k, k < 4 → h (130 + i) k = .inl (Int32.ofNat (n k)) ∧ n k < 1000) : kc_Con g 6 181 [.inr (.inr (.inl (some 1))), .inl (Int32.ofNat 5), .inr (.inr (.inl (some (130 + i))))] h (fun rv h' => rv = some (.inl (fu_step 5 n B).1) ∧ h' = fu_cw 1 (fu_step 5 n B).2 h) := by
  obtain ⟨en0, nb0⟩ := en 0 (by omega)
  refine kc_Con_new hg (M := wk_m181) rfl rfl rfl (show 3 ≤ 3 by decide) ?_
  refine kx_go 2 (pc' := 116) (L' := [(0, .inr (.inr (.inl (some 1)))), (1, .inl (Int32.ofNat 5)), (2, .inr (.inr (.inl (some (130 + i)))))]) (S' := []) (h' := h) (by with_unfolding_all rfl) ?_
  refine kx_go 3 (pc' := 119) (L' := [(0, .inr (.inr (.inl (some 1)))), (1, .inl (Int32.ofNat 5)), (2, .inr (.inr (.inl (some (130 + i)))))]) (S' := [.inl (Int32.ofNat 0), .inr (.inr (.inl (some (130 + i)))), .inr (.inr (.inl (some 1)))]) (h' := h) (by with_unfolding_all rfl) ?_
  refine kx_iald rfl (c := 130 + i) (j := 0) (m := 4) (v := .inl (Int32.ofNat (n 0))) (kr_rows i hi).1 (kr_rows i hi).2 (by decide) (by decide) en0 ?_
  refine kc_call_rule (M2 := wk_m24) (av := [.inr (.inr (.inl (some 1))), .inl (Int32.ofNat (n 0))]) (r := []) rfl rfl (kc_Con_le (fu_c24 (d := 0) hg hw hC hB) (by decide)) (fun rv h9 hq => ?_)
  obtain ⟨rfl, e9⟩ := hq
  exact kc_ret_ok rfl (rv := some (.inl _)) rfl ⟨rfl, e9⟩
set_option maxRecDepth 20000 in
theorem fu_tell6 {g : kc_G} {h : kc_H} {i : Nat} {B : Nat → Int32} {n : Nat → Nat} (hg : kc_ok g) (hw : kd_wt kd_ty h) (hi : i < 60) (hC : fu_C B 1 h) (hB : fu_BT B) (en : ∀ k, k < 4 → h (130 + i) k = .inl (Int32.ofNat (n k)) ∧ n k < 1000) : kc_Con g 6 181 [.inr (.inr (.inl (some 1))), .inl (Int32.ofNat 6), .inr (.inr (.inl (some (130 + i))))] h (fun rv h' => rv = some (.inl (fu_step 6 n B).1) ∧ h' = fu_cw 1 (fu_step 6 n B).2 h) := by
  obtain ⟨en0, nb0⟩ := en 0 (by omega)
  obtain ⟨en1, nb1⟩ := en 1 (by omega)
  refine kc_Con_new hg (M := wk_m181) rfl rfl rfl (show 3 ≤ 3 by decide) ?_
  refine kx_go 2 (pc' := 124) (L' := [(0, .inr (.inr (.inl (some 1)))), (1, .inl (Int32.ofNat 6)), (2, .inr (.inr (.inl (some (130 + i)))))]) (S' := []) (h' := h) (by with_unfolding_all rfl) ?_
  refine kx_go 3 (pc' := 127) (L' := [(0, .inr (.inr (.inl (some 1)))), (1, .inl (Int32.ofNat 6)), (2, .inr (.inr (.inl (some (130 + i)))))]) (S' := [.inl (Int32.ofNat 0), .inr (.inr (.inl (some (130 + i)))), .inr (.inr (.inl (some 1)))]) (h' := h) (by with_unfolding_all rfl) ?_
  refine kx_iald rfl (c := 130 + i) (j := 0) (m := 4) (v := .inl (Int32.ofNat (n 0))) (kr_rows i hi).1 (kr_rows i hi).2 (by decide) (by decide) en0 ?_
  refine kx_go 3 (pc' := 131) (L' := [(0, .inr (.inr (.inl (some 1)))), (1, .inl (Int32.ofNat 6)), (2, .inr (.inr (.inl (some (130 + i)))))]) (S' := [.inl (Int32.ofNat 1), .inr (.inr (.inl (some (130 + i)))), .inl (Int32.ofNat 4), .inl (Int32.ofNat (n 0)), .inr (.inr (.inl (some 1)))]) (h' := h) (by with_unfolding_all rfl) ?_
  refine kx_iald rfl (c := 130 + i) (j := 1) (m := 4) (v := .inl (Int32.ofNat (n 1))) (kr_rows i hi).1 (kr_rows i hi).2 (by decide) (by decide) en1 ?_
  refine kx_go 1 (pc' := 134) (L' := [(0, .inr (.inr (.inl (some 1)))), (1, .inl (Int32.ofNat 6)), (2, .inr (.inr (.inl (some (130 + i)))))]) (S' := [.inl (Int32.ofNat 100), .inl (Int32.ofNat (n 1)), .inl (Int32.ofNat 4), .inl (Int32.ofNat (n 0)), .inr (.inr (.inl (some 1)))]) (h' := h) (by with_unfolding_all rfl) ?_
  refine kc_call_rule (M2 := wk_m45) (av := [.inr (.inr (.inl (some 1))), .inl (Int32.ofNat (n 0)), .inl (Int32.ofNat 4), .inl (Int32.ofNat (n 1)), .inl (Int32.ofNat 100)]) (r := []) rfl rfl (kc_Con_le (fu_c45_4 (d := 0) hg hw hC hB) (by decide)) (fun rv h9 hq => ?_)
  obtain ⟨rfl, e9⟩ := hq
  exact kc_ret_ok rfl (rv := some (.inl _)) rfl ⟨rfl, e9⟩
set_option maxRecDepth 20000 in
theorem fu_tell7 {g : kc_G} {h : kc_H} {i : Nat} {B : Nat → Int32} {n : Nat → Nat} (hg : kc_ok g) (hw : kd_wt kd_ty h) (hi : i < 60) (hC : fu_C B 1 h) (hB : fu_BT B) (en : ∀ k, k < 4 → h (130 + i) k = .inl (Int32.ofNat (n k)) ∧ n k < 1000) : kc_Con g 6 181 [.inr (.inr (.inl (some 1))), .inl (Int32.ofNat 7), .inr (.inr (.inl (some (130 + i))))] h (fun rv h' => rv = some (.inl (fu_step 7 n B).1) ∧ h' = fu_cw 1 (fu_step 7 n B).2 h) := by
  obtain ⟨en0, nb0⟩ := en 0 (by omega)
  obtain ⟨en1, nb1⟩ := en 1 (by omega)
  refine kc_Con_new hg (M := wk_m181) rfl rfl rfl (show 3 ≤ 3 by decide) ?_
  refine kx_go 2 (pc' := 138) (L' := [(0, .inr (.inr (.inl (some 1)))), (1, .inl (Int32.ofNat 7)), (2, .inr (.inr (.inl (some (130 + i)))))]) (S' := []) (h' := h) (by with_unfolding_all rfl) ?_
  refine kx_go 3 (pc' := 141) (L' := [(0, .inr (.inr (.inl (some 1)))), (1, .inl (Int32.ofNat 7)), (2, .inr (.inr (.inl (some (130 + i)))))]) (S' := [.inl (Int32.ofNat 0), .inr (.inr (.inl (some (130 + i)))), .inr (.inr (.inl (some 1)))]) (h' := h) (by with_unfolding_all rfl) ?_
  refine kx_iald rfl (c := 130 + i) (j := 0) (m := 4) (v := .inl (Int32.ofNat (n 0))) (kr_rows i hi).1 (kr_rows i hi).2 (by decide) (by decide) en0 ?_
  refine kx_go 3 (pc' := 145) (L' := [(0, .inr (.inr (.inl (some 1)))), (1, .inl (Int32.ofNat 7)), (2, .inr (.inr (.inl (some (130 + i)))))]) (S' := [.inl (Int32.ofNat 1), .inr (.inr (.inl (some (130 + i)))), .inl (Int32.ofNat 5), .inl (Int32.ofNat (n 0)), .inr (.inr (.inl (some 1)))]) (h' := h) (by with_unfolding_all rfl) ?_
  refine kx_iald rfl (c := 130 + i) (j := 1) (m := 4) (v := .inl (Int32.ofNat (n 1))) (kr_rows i hi).1 (kr_rows i hi).2 (by decide) (by decide) en1 ?_
  refine kx_go 1 (pc' := 148) (L' := [(0, .inr (.inr (.inl (some 1)))), (1, .inl (Int32.ofNat 7)), (2, .inr (.inr (.inl (some (130 + i)))))]) (S' := [.inl (Int32.ofNat 9), .inl (Int32.ofNat (n 1)), .inl (Int32.ofNat 5), .inl (Int32.ofNat (n 0)), .inr (.inr (.inl (some 1)))]) (h' := h) (by with_unfolding_all rfl) ?_
  refine kc_call_rule (M2 := wk_m45) (av := [.inr (.inr (.inl (some 1))), .inl (Int32.ofNat (n 0)), .inl (Int32.ofNat 5), .inl (Int32.ofNat (n 1)), .inl (Int32.ofNat 9)]) (r := []) rfl rfl (kc_Con_le (fu_c45_5 (d := 0) hg hw hC hB) (by decide)) (fun rv h9 hq => ?_)
  obtain ⟨rfl, e9⟩ := hq
  exact kc_ret_ok rfl (rv := some (.inl _)) rfl ⟨rfl, e9⟩
set_option maxRecDepth 20000 in
theorem fu_tell8 {g : kc_G} {h : kc_H} {i : Nat} {B : Nat → Int32} {n : Nat → Nat} (hg : kc_ok g) (hw : kd_wt kd_ty h) (hi : i < 60) (hC : fu_C B 1 h) (hB : fu_BT B) (en : ∀ k, k < 4 → h (130 + i) k = .inl (Int32.ofNat (n k)) ∧ n k < 1000) : kc_Con g 6 181 [.inr (.inr (.inl (some 1))), .inl (Int32.ofNat 8), .inr (.inr (.inl (some (130 + i))))] h (fun rv h' => rv = some (.inl (fu_step 8 n B).1) ∧ h' = fu_cw 1 (fu_step 8 n B).2 h) := by
  obtain ⟨en0, nb0⟩ := en 0 (by omega)
  obtain ⟨en1, nb1⟩ := en 1 (by omega)
  refine kc_Con_new hg (M := wk_m181) rfl rfl rfl (show 3 ≤ 3 by decide) ?_
  refine kx_go 2 (pc' := 152) (L' := [(0, .inr (.inr (.inl (some 1)))), (1, .inl (Int32.ofNat 8)), (2, .inr (.inr (.inl (some (130 + i)))))]) (S' := []) (h' := h) (by with_unfolding_all rfl) ?_
  refine kx_go 3 (pc' := 155) (L' := [(0, .inr (.inr (.inl (some 1)))), (1, .inl (Int32.ofNat 8)), (2, .inr (.inr (.inl (some (130 + i)))))]) (S' := [.inl (Int32.ofNat 0), .inr (.inr (.inl (some (130 + i)))), .inr (.inr (.inl (some 1)))]) (h' := h) (by with_unfolding_all rfl) ?_
  refine kx_iald rfl (c := 130 + i) (j := 0) (m := 4) (v := .inl (Int32.ofNat (n 0))) (kr_rows i hi).1 (kr_rows i hi).2 (by decide) (by decide) en0 ?_
  refine kx_go 2 (pc' := 158) (L' := [(0, .inr (.inr (.inl (some 1)))), (1, .inl (Int32.ofNat 8)), (2, .inr (.inr (.inl (some (130 + i)))))]) (S' := [.inl (Int32.ofNat 1), .inr (.inr (.inl (some (130 + i)))), .inl (Int32.ofNat (n 0)), .inr (.inr (.inl (some 1)))]) (h' := h) (by with_unfolding_all rfl) ?_
  refine kx_iald rfl (c := 130 + i) (j := 1) (m := 4) (v := .inl (Int32.ofNat (n 1))) (kr_rows i hi).1 (kr_rows i hi).2 (by decide) (by decide) en1 ?_
  refine kc_call_rule (M2 := wk_m29) (av := [.inr (.inr (.inl (some 1))), .inl (Int32.ofNat (n 0)), .inl (Int32.ofNat (n 1))]) (r := []) rfl rfl (kc_Con_le (fu_c29 (d := 0) hg hw hC hB) (by decide)) (fun rv h9 hq => ?_)
  obtain ⟨rfl, e9⟩ := hq
  exact kc_ret_ok rfl (rv := some (.inl _)) rfl ⟨rfl, e9⟩
theorem fu_tell {g : kc_G} {h : kc_H} {i v : Nat} {B : Nat → Int32} {n : Nat → Nat} (hg : kc_ok g) (hw : kd_wt kd_ty h) (hi : i < 60) (hv : v < 9) (hC : fu_C B 1 h) (hB : fu_BT B) (en : ∀ k, k < 4 → h (130 + i) k = .inl (Int32.ofNat (n k)) ∧ n k < 1000) : kc_Con g 6 181 [.inr (.inr (.inl (some 1))), .inl (Int32.ofNat v), .inr (.inr (.inl (some (130 + i))))] h (fun rv h' => rv = some (.inl (fu_step v n B).1) ∧ h' = fu_cw 1 (fu_step v n B).2 h) := by
  rcases (show v = 0 ∨ v = 1 ∨ v = 2 ∨ v = 3 ∨ v = 4 ∨ v = 5 ∨ v = 6 ∨ v = 7 ∨ v = 8 by omega) with rfl | rfl | rfl | rfl | rfl | rfl | rfl | rfl | rfl
  · exact fu_tell0 hg hw hi hC hB en
  · exact fu_tell1 hg hw hi hC hB en
  · exact fu_tell2 hg hw hi hC hB en
  · exact fu_tell3 hg hw hi hC hB en
  · exact fu_tell4 hg hw hi hC hB en
  · exact fu_tell5 hg hw hi hC hB en
  · exact fu_tell6 hg hw hi hC hB en
  · exact fu_tell7 hg hw hi hC hB en
  · exact fu_tell8 hg hw hi hC hB en
set_option maxRecDepth 20000 in
theorem fu_item0 {g : kc_G} {h : kc_H} {i : Nat} {B : Nat → Int32} {n : Nat → Nat} (hg : kc_ok g) (hw : kd_wt kd_ty h) (hi : i < 60) (hC : fu_B B h) (hB : fu_BT B) (ev : h 264 i = .inl (Int32.ofNat 10)) (en : ∀ k, k < 4 → h 265 (5 * i + k) = .inl (Int32.ofNat (n k)) ∧ n k < 1000) : kc_Con g 6 235 [.inr (.inr (.inl (some 259))), .inl (Int32.ofNat i)] h (fun rv h' => rv = some (.inl (fu_step 0 n B).1) ∧ h' = fu_rw (fu_step 0 n B).2 h) := by
  obtain ⟨en0, nb0⟩ := en 0 (by omega)
  obtain ⟨en1, nb1⟩ := en 1 (by omega)
  obtain ⟨en2, nb2⟩ := en 2 (by omega)
  obtain ⟨en3, nb3⟩ := en 3 (by omega)
  have h11 := kx_ofr (hw _ _ _ kv_kr.1)
  have h12 := kx_ofr (hw _ _ _ kv_kr.2)
  refine kc_Con_new hg (M := wk_m235) rfl rfl rfl (show 2 ≤ 5 by decide) ?_
  refine kx_go 3 (pc' := 3) (L' := [(0, .inr (.inr (.inl (some 259)))), (1, .inl (Int32.ofNat i))]) (S' := [.inl (Int32.ofNat 0), .inl (Int32.ofNat i), .inr (.inr (.inl (some 259)))]) (h' := h) (by with_unfolding_all rfl) ?_
  refine kc_call_rule (M2 := wk_m236) (av := [.inr (.inr (.inl (some 259))), .inl (Int32.ofNat i), .inl (Int32.ofNat 0)]) (r := []) rfl rfl (kc_Con_le (kv_num (d := 0) (x := n 0) hg hi (by decide) h12 en0) (by decide)) (fun rv h' hq => ?_)
  obtain ⟨rfl, rfl⟩ := hq
  show kc_Ev g 5 wk_m235 _ 6 [(0, .inr (.inr (.inl (some 259)))), (1, .inl (Int32.ofNat i))] [.inl (Int32.ofNat (n 0))] h'
  refine kx_go 4 (pc' := 10) (L' := [(2, .inl (Int32.ofNat (n 0))), (0, .inr (.inr (.inl (some 259)))), (1, .inl (Int32.ofNat i))]) (S' := [.inl (Int32.ofNat 1), .inl (Int32.ofNat i), .inr (.inr (.inl (some 259)))]) (h' := h') (by with_unfolding_all rfl) ?_
  refine kc_call_rule (M2 := wk_m236) (av := [.inr (.inr (.inl (some 259))), .inl (Int32.ofNat i), .inl (Int32.ofNat 1)]) (r := []) rfl rfl (kc_Con_le (kv_num (d := 0) (x := n 1) hg hi (by decide) h12 en1) (by decide)) (fun rv h' hq => ?_)
  obtain ⟨rfl, rfl⟩ := hq
  show kc_Ev g 5 wk_m235 _ 13 [(2, .inl (Int32.ofNat (n 0))), (0, .inr (.inr (.inl (some 259)))), (1, .inl (Int32.ofNat i))] [.inl (Int32.ofNat (n 1))] h'
  refine kx_go 4 (pc' := 17) (L' := [(3, .inl (Int32.ofNat (n 1))), (2, .inl (Int32.ofNat (n 0))), (0, .inr (.inr (.inl (some 259)))), (1, .inl (Int32.ofNat i))]) (S' := [.inl (Int32.ofNat 2), .inl (Int32.ofNat i), .inr (.inr (.inl (some 259)))]) (h' := h') (by with_unfolding_all rfl) ?_
  refine kc_call_rule (M2 := wk_m236) (av := [.inr (.inr (.inl (some 259))), .inl (Int32.ofNat i), .inl (Int32.ofNat 2)]) (r := []) rfl rfl (kc_Con_le (kv_num (d := 0) (x := n 2) hg hi (by decide) h12 en2) (by decide)) (fun rv h' hq => ?_)
  obtain ⟨rfl, rfl⟩ := hq
  show kc_Ev g 5 wk_m235 _ 20 [(3, .inl (Int32.ofNat (n 1))), (2, .inl (Int32.ofNat (n 0))), (0, .inr (.inr (.inl (some 259)))), (1, .inl (Int32.ofNat i))] [.inl (Int32.ofNat (n 2))] h'
  refine kx_go 2 (pc' := 23) (L' := [(4, .inl (Int32.ofNat (n 2))), (3, .inl (Int32.ofNat (n 1))), (2, .inl (Int32.ofNat (n 0))), (0, .inr (.inr (.inl (some 259)))), (1, .inl (Int32.ofNat i))]) (S' := [.inr (.inr (.inl (some 259)))]) (h' := h') (by with_unfolding_all rfl) ?_
  refine kx_getf (c := 259) (v := .inr (.inr (.inl (some 264)))) rfl (by decide) h11 ?_
  refine kx_go 1 (pc' := 27) (L' := [(4, .inl (Int32.ofNat (n 2))), (3, .inl (Int32.ofNat (n 1))), (2, .inl (Int32.ofNat (n 0))), (0, .inr (.inr (.inl (some 259)))), (1, .inl (Int32.ofNat i))]) (S' := [.inl (Int32.ofNat i), .inr (.inr (.inl (some 264)))]) (h' := h') (by with_unfolding_all rfl) ?_
  refine kx_iald rfl (c := 264) (j := i) (m := 240) (v := .inl (Int32.ofNat 10)) rfl (by decide) (by decide) (by omega) ev ?_
  refine kx_go 1 (pc' := 76) (L' := [(4, .inl (Int32.ofNat (n 2))), (3, .inl (Int32.ofNat (n 1))), (2, .inl (Int32.ofNat (n 0))), (0, .inr (.inr (.inl (some 259)))), (1, .inl (Int32.ofNat i))]) (S' := []) (h' := h') (by with_unfolding_all rfl) ?_
  refine kx_go 4 (pc' := 81) (L' := [(4, .inl (Int32.ofNat (n 2))), (3, .inl (Int32.ofNat (n 1))), (2, .inl (Int32.ofNat (n 0))), (0, .inr (.inr (.inl (some 259)))), (1, .inl (Int32.ofNat i))]) (S' := [.inl (Int32.ofNat (n 2)), .inl (Int32.ofNat (n 1)), .inl (Int32.ofNat (n 0)), .inr (.inr (.inl (some 259)))]) (h' := h') (by with_unfolding_all rfl) ?_
  refine kc_call_rule (M2 := wk_m34) (av := [.inr (.inr (.inl (some 259))), .inl (Int32.ofNat (n 0)), .inl (Int32.ofNat (n 1)), .inl (Int32.ofNat (n 2))]) (r := []) rfl rfl (kc_Con_le (fu_rmule (d := 0) hg hw hC hB) (by decide)) (fun rv h9 hq => ?_)
  obtain ⟨rfl, e9⟩ := hq
  exact kc_ret_ok rfl (rv := some (.inl _)) rfl ⟨rfl, e9⟩
set_option maxRecDepth 20000 in
theorem fu_item1 {g : kc_G} {h : kc_H} {i : Nat} {B : Nat → Int32} {n : Nat → Nat} (hg : kc_ok g) (hw : kd_wt kd_ty h) (hi : i < 60) (hC : fu_B B h) (hB : fu_BT B) (ev : h 264 i = .inl (Int32.ofNat 11)) (en : ∀ k, k < 4 → h 265 (5 * i + k) = .inl (Int32.ofNat (n k)) ∧ n k < 1000) : kc_Con g 6 235 [.inr (.inr (.inl (some 259))), .inl (Int32.ofNat i)] h (fun rv h' => rv = some (.inl (fu_step 1 n B).1) ∧ h' = fu_rw (fu_step 1 n B).2 h) := by
  obtain ⟨en0, nb0⟩ := en 0 (by omega)
  obtain ⟨en1, nb1⟩ := en 1 (by omega)
  obtain ⟨en2, nb2⟩ := en 2 (by omega)
  obtain ⟨en3, nb3⟩ := en 3 (by omega)
  have h11 := kx_ofr (hw _ _ _ kv_kr.1)
  have h12 := kx_ofr (hw _ _ _ kv_kr.2)
  refine kc_Con_new hg (M := wk_m235) rfl rfl rfl (show 2 ≤ 5 by decide) ?_
  refine kx_go 3 (pc' := 3) (L' := [(0, .inr (.inr (.inl (some 259)))), (1, .inl (Int32.ofNat i))]) (S' := [.inl (Int32.ofNat 0), .inl (Int32.ofNat i), .inr (.inr (.inl (some 259)))]) (h' := h) (by with_unfolding_all rfl) ?_
  refine kc_call_rule (M2 := wk_m236) (av := [.inr (.inr (.inl (some 259))), .inl (Int32.ofNat i), .inl (Int32.ofNat 0)]) (r := []) rfl rfl (kc_Con_le (kv_num (d := 0) (x := n 0) hg hi (by decide) h12 en0) (by decide)) (fun rv h' hq => ?_)
  obtain ⟨rfl, rfl⟩ := hq
  show kc_Ev g 5 wk_m235 _ 6 [(0, .inr (.inr (.inl (some 259)))), (1, .inl (Int32.ofNat i))] [.inl (Int32.ofNat (n 0))] h'
  refine kx_go 4 (pc' := 10) (L' := [(2, .inl (Int32.ofNat (n 0))), (0, .inr (.inr (.inl (some 259)))), (1, .inl (Int32.ofNat i))]) (S' := [.inl (Int32.ofNat 1), .inl (Int32.ofNat i), .inr (.inr (.inl (some 259)))]) (h' := h') (by with_unfolding_all rfl) ?_
  refine kc_call_rule (M2 := wk_m236) (av := [.inr (.inr (.inl (some 259))), .inl (Int32.ofNat i), .inl (Int32.ofNat 1)]) (r := []) rfl rfl (kc_Con_le (kv_num (d := 0) (x := n 1) hg hi (by decide) h12 en1) (by decide)) (fun rv h' hq => ?_)
  obtain ⟨rfl, rfl⟩ := hq
  show kc_Ev g 5 wk_m235 _ 13 [(2, .inl (Int32.ofNat (n 0))), (0, .inr (.inr (.inl (some 259)))), (1, .inl (Int32.ofNat i))] [.inl (Int32.ofNat (n 1))] h'
  refine kx_go 4 (pc' := 17) (L' := [(3, .inl (Int32.ofNat (n 1))), (2, .inl (Int32.ofNat (n 0))), (0, .inr (.inr (.inl (some 259)))), (1, .inl (Int32.ofNat i))]) (S' := [.inl (Int32.ofNat 2), .inl (Int32.ofNat i), .inr (.inr (.inl (some 259)))]) (h' := h') (by with_unfolding_all rfl) ?_
  refine kc_call_rule (M2 := wk_m236) (av := [.inr (.inr (.inl (some 259))), .inl (Int32.ofNat i), .inl (Int32.ofNat 2)]) (r := []) rfl rfl (kc_Con_le (kv_num (d := 0) (x := n 2) hg hi (by decide) h12 en2) (by decide)) (fun rv h' hq => ?_)
  obtain ⟨rfl, rfl⟩ := hq
  show kc_Ev g 5 wk_m235 _ 20 [(3, .inl (Int32.ofNat (n 1))), (2, .inl (Int32.ofNat (n 0))), (0, .inr (.inr (.inl (some 259)))), (1, .inl (Int32.ofNat i))] [.inl (Int32.ofNat (n 2))] h'
  refine kx_go 2 (pc' := 23) (L' := [(4, .inl (Int32.ofNat (n 2))), (3, .inl (Int32.ofNat (n 1))), (2, .inl (Int32.ofNat (n 0))), (0, .inr (.inr (.inl (some 259)))), (1, .inl (Int32.ofNat i))]) (S' := [.inr (.inr (.inl (some 259)))]) (h' := h') (by with_unfolding_all rfl) ?_
  refine kx_getf (c := 259) (v := .inr (.inr (.inl (some 264)))) rfl (by decide) h11 ?_
  refine kx_go 1 (pc' := 27) (L' := [(4, .inl (Int32.ofNat (n 2))), (3, .inl (Int32.ofNat (n 1))), (2, .inl (Int32.ofNat (n 0))), (0, .inr (.inr (.inl (some 259)))), (1, .inl (Int32.ofNat i))]) (S' := [.inl (Int32.ofNat i), .inr (.inr (.inl (some 264)))]) (h' := h') (by with_unfolding_all rfl) ?_
  refine kx_iald rfl (c := 264) (j := i) (m := 240) (v := .inl (Int32.ofNat 11)) rfl (by decide) (by decide) (by omega) ev ?_
  refine kx_go 1 (pc' := 85) (L' := [(4, .inl (Int32.ofNat (n 2))), (3, .inl (Int32.ofNat (n 1))), (2, .inl (Int32.ofNat (n 0))), (0, .inr (.inr (.inl (some 259)))), (1, .inl (Int32.ofNat i))]) (S' := []) (h' := h') (by with_unfolding_all rfl) ?_
  refine kx_go 7 (pc' := 93) (L' := [(4, .inl (Int32.ofNat (n 2))), (3, .inl (Int32.ofNat (n 1))), (2, .inl (Int32.ofNat (n 0))), (0, .inr (.inr (.inl (some 259)))), (1, .inl (Int32.ofNat i))]) (S' := [.inl (Int32.ofNat 3), .inl (Int32.ofNat i), .inr (.inr (.inl (some 259))), .inl (Int32.ofNat (n 2)), .inl (Int32.ofNat (n 1)), .inl (Int32.ofNat (n 0)), .inr (.inr (.inl (some 259)))]) (h' := h') (by with_unfolding_all rfl) ?_
  refine kc_call_rule (M2 := wk_m236) (av := [.inr (.inr (.inl (some 259))), .inl (Int32.ofNat i), .inl (Int32.ofNat 3)]) (r := [.inl (Int32.ofNat (n 2)), .inl (Int32.ofNat (n 1)), .inl (Int32.ofNat (n 0)), .inr (.inr (.inl (some 259)))]) rfl rfl (kc_Con_le (kv_num (d := 0) (x := n 3) hg hi (by decide) h12 en3) (by decide)) (fun rv h' hq => ?_)
  obtain ⟨rfl, rfl⟩ := hq
  show kc_Ev g 5 wk_m235 _ 96 [(4, .inl (Int32.ofNat (n 2))), (3, .inl (Int32.ofNat (n 1))), (2, .inl (Int32.ofNat (n 0))), (0, .inr (.inr (.inl (some 259)))), (1, .inl (Int32.ofNat i))] [.inl (Int32.ofNat (n 3)), .inl (Int32.ofNat (n 2)), .inl (Int32.ofNat (n 1)), .inl (Int32.ofNat (n 0)), .inr (.inr (.inl (some 259)))] h'
  refine kc_call_rule (M2 := wk_m43) (av := [.inr (.inr (.inl (some 259))), .inl (Int32.ofNat (n 0)), .inl (Int32.ofNat (n 1)), .inl (Int32.ofNat (n 2)), .inl (Int32.ofNat (n 3))]) (r := []) rfl rfl (kc_Con_le (fu_rload (d := 0) hg hw hC hB) (by decide)) (fun rv h9 hq => ?_)
  obtain ⟨rfl, e9⟩ := hq
  exact kc_ret_ok rfl (rv := some (.inl _)) rfl ⟨rfl, e9⟩
set_option maxRecDepth 20000 in
theorem fu_item2 {g : kc_G} {h : kc_H} {i : Nat} {B : Nat → Int32} {n : Nat → Nat} (hg : kc_ok g) (hw : kd_wt kd_ty h) (hi : i < 60) (hC : fu_B B h) (hB : fu_BT B) (ev : h 264 i = .inl (Int32.ofNat 12)) (en : ∀ k, k < 4 → h 265 (5 * i + k) = .inl (Int32.ofNat (n k)) ∧ n k < 1000) : kc_Con g 6 235 [.inr (.inr (.inl (some 259))), .inl (Int32.ofNat i)] h (fun rv h' => rv = some (.inl (fu_step 2 n B).1) ∧ h' = fu_rw (fu_step 2 n B).2 h) := by
  obtain ⟨en0, nb0⟩ := en 0 (by omega)
  obtain ⟨en1, nb1⟩ := en 1 (by omega)
  obtain ⟨en2, nb2⟩ := en 2 (by omega)
  obtain ⟨en3, nb3⟩ := en 3 (by omega)
  have h11 := kx_ofr (hw _ _ _ kv_kr.1)
  have h12 := kx_ofr (hw _ _ _ kv_kr.2)
  refine kc_Con_new hg (M := wk_m235) rfl rfl rfl (show 2 ≤ 5 by decide) ?_
  refine kx_go 3 (pc' := 3) (L' := [(0, .inr (.inr (.inl (some 259)))), (1, .inl (Int32.ofNat i))]) (S' := [.inl (Int32.ofNat 0), .inl (Int32.ofNat i), .inr (.inr (.inl (some 259)))]) (h' := h) (by with_unfolding_all rfl) ?_
  refine kc_call_rule (M2 := wk_m236) (av := [.inr (.inr (.inl (some 259))), .inl (Int32.ofNat i), .inl (Int32.ofNat 0)]) (r := []) rfl rfl (kc_Con_le (kv_num (d := 0) (x := n 0) hg hi (by decide) h12 en0) (by decide)) (fun rv h' hq => ?_)
  obtain ⟨rfl, rfl⟩ := hq
  show kc_Ev g 5 wk_m235 _ 6 [(0, .inr (.inr (.inl (some 259)))), (1, .inl (Int32.ofNat i))] [.inl (Int32.ofNat (n 0))] h'
  refine kx_go 4 (pc' := 10) (L' := [(2, .inl (Int32.ofNat (n 0))), (0, .inr (.inr (.inl (some 259)))), (1, .inl (Int32.ofNat i))]) (S' := [.inl (Int32.ofNat 1), .inl (Int32.ofNat i), .inr (.inr (.inl (some 259)))]) (h' := h') (by with_unfolding_all rfl) ?_
  refine kc_call_rule (M2 := wk_m236) (av := [.inr (.inr (.inl (some 259))), .inl (Int32.ofNat i), .inl (Int32.ofNat 1)]) (r := []) rfl rfl (kc_Con_le (kv_num (d := 0) (x := n 1) hg hi (by decide) h12 en1) (by decide)) (fun rv h' hq => ?_)
  obtain ⟨rfl, rfl⟩ := hq
  show kc_Ev g 5 wk_m235 _ 13 [(2, .inl (Int32.ofNat (n 0))), (0, .inr (.inr (.inl (some 259)))), (1, .inl (Int32.ofNat i))] [.inl (Int32.ofNat (n 1))] h'
  refine kx_go 4 (pc' := 17) (L' := [(3, .inl (Int32.ofNat (n 1))), (2, .inl (Int32.ofNat (n 0))), (0, .inr (.inr (.inl (some 259)))), (1, .inl (Int32.ofNat i))]) (S' := [.inl (Int32.ofNat 2), .inl (Int32.ofNat i), .inr (.inr (.inl (some 259)))]) (h' := h') (by with_unfolding_all rfl) ?_
  refine kc_call_rule (M2 := wk_m236) (av := [.inr (.inr (.inl (some 259))), .inl (Int32.ofNat i), .inl (Int32.ofNat 2)]) (r := []) rfl rfl (kc_Con_le (kv_num (d := 0) (x := n 2) hg hi (by decide) h12 en2) (by decide)) (fun rv h' hq => ?_)
  obtain ⟨rfl, rfl⟩ := hq
  show kc_Ev g 5 wk_m235 _ 20 [(3, .inl (Int32.ofNat (n 1))), (2, .inl (Int32.ofNat (n 0))), (0, .inr (.inr (.inl (some 259)))), (1, .inl (Int32.ofNat i))] [.inl (Int32.ofNat (n 2))] h'
  refine kx_go 2 (pc' := 23) (L' := [(4, .inl (Int32.ofNat (n 2))), (3, .inl (Int32.ofNat (n 1))), (2, .inl (Int32.ofNat (n 0))), (0, .inr (.inr (.inl (some 259)))), (1, .inl (Int32.ofNat i))]) (S' := [.inr (.inr (.inl (some 259)))]) (h' := h') (by with_unfolding_all rfl) ?_
  refine kx_getf (c := 259) (v := .inr (.inr (.inl (some 264)))) rfl (by decide) h11 ?_
  refine kx_go 1 (pc' := 27) (L' := [(4, .inl (Int32.ofNat (n 2))), (3, .inl (Int32.ofNat (n 1))), (2, .inl (Int32.ofNat (n 0))), (0, .inr (.inr (.inl (some 259)))), (1, .inl (Int32.ofNat i))]) (S' := [.inl (Int32.ofNat i), .inr (.inr (.inl (some 264)))]) (h' := h') (by with_unfolding_all rfl) ?_
  refine kx_iald rfl (c := 264) (j := i) (m := 240) (v := .inl (Int32.ofNat 12)) rfl (by decide) (by decide) (by omega) ev ?_
  refine kx_go 1 (pc' := 100) (L' := [(4, .inl (Int32.ofNat (n 2))), (3, .inl (Int32.ofNat (n 1))), (2, .inl (Int32.ofNat (n 0))), (0, .inr (.inr (.inl (some 259)))), (1, .inl (Int32.ofNat i))]) (S' := []) (h' := h') (by with_unfolding_all rfl) ?_
  refine kx_go 1 (pc' := 101) (L' := [(4, .inl (Int32.ofNat (n 2))), (3, .inl (Int32.ofNat (n 1))), (2, .inl (Int32.ofNat (n 0))), (0, .inr (.inr (.inl (some 259)))), (1, .inl (Int32.ofNat i))]) (S' := [.inr (.inr (.inl (some 259)))]) (h' := h') (by with_unfolding_all rfl) ?_
  refine kc_call_rule (M2 := wk_m15) (av := [.inr (.inr (.inl (some 259)))]) (r := []) rfl rfl (kc_Con_le (fu_rdoor (d := 0) hg hw hC hB) (by decide)) (fun rv h9 hq => ?_)
  obtain ⟨rfl, e9⟩ := hq
  exact kc_ret_ok rfl (rv := some (.inl _)) rfl ⟨rfl, e9⟩
set_option maxRecDepth 20000 in
theorem fu_item3 {g : kc_G} {h : kc_H} {i : Nat} {B : Nat → Int32} {n : Nat → Nat} (hg : kc_ok g) (hw : kd_wt kd_ty h) (hi : i < 60) (hC : fu_B B h) (hB : fu_BT B) (ev : h 264 i = .inl (Int32.ofNat 13)) (en : ∀ k, k < 4 → h 265 (5 * i + k) = .inl (Int32.ofNat (n k)) ∧ n k < 1000) : kc_Con g 6 235 [.inr (.inr (.inl (some 259))), .inl (Int32.ofNat i)] h (fun rv h' => rv = some (.inl (fu_step 3 n B).1) ∧ h' = fu_rw (fu_step 3 n B).2 h) := by
  obtain ⟨en0, nb0⟩ := en 0 (by omega)
  obtain ⟨en1, nb1⟩ := en 1 (by omega)
  obtain ⟨en2, nb2⟩ := en 2 (by omega)
  obtain ⟨en3, nb3⟩ := en 3 (by omega)
  have h11 := kx_ofr (hw _ _ _ kv_kr.1)
  have h12 := kx_ofr (hw _ _ _ kv_kr.2)
  refine kc_Con_new hg (M := wk_m235) rfl rfl rfl (show 2 ≤ 5 by decide) ?_
  refine kx_go 3 (pc' := 3) (L' := [(0, .inr (.inr (.inl (some 259)))), (1, .inl (Int32.ofNat i))]) (S' := [.inl (Int32.ofNat 0), .inl (Int32.ofNat i), .inr (.inr (.inl (some 259)))]) (h' := h) (by with_unfolding_all rfl) ?_
  refine kc_call_rule (M2 := wk_m236) (av := [.inr (.inr (.inl (some 259))), .inl (Int32.ofNat i), .inl (Int32.ofNat 0)]) (r := []) rfl rfl (kc_Con_le (kv_num (d := 0) (x := n 0) hg hi (by decide) h12 en0) (by decide)) (fun rv h' hq => ?_)
  obtain ⟨rfl, rfl⟩ := hq
  show kc_Ev g 5 wk_m235 _ 6 [(0, .inr (.inr (.inl (some 259)))), (1, .inl (Int32.ofNat i))] [.inl (Int32.ofNat (n 0))] h'
  refine kx_go 4 (pc' := 10) (L' := [(2, .inl (Int32.ofNat (n 0))), (0, .inr (.inr (.inl (some 259)))), (1, .inl (Int32.ofNat i))]) (S' := [.inl (Int32.ofNat 1), .inl (Int32.ofNat i), .inr (.inr (.inl (some 259)))]) (h' := h') (by with_unfolding_all rfl) ?_
  refine kc_call_rule (M2 := wk_m236) (av := [.inr (.inr (.inl (some 259))), .inl (Int32.ofNat i), .inl (Int32.ofNat 1)]) (r := []) rfl rfl (kc_Con_le (kv_num (d := 0) (x := n 1) hg hi (by decide) h12 en1) (by decide)) (fun rv h' hq => ?_)
  obtain ⟨rfl, rfl⟩ := hq
  show kc_Ev g 5 wk_m235 _ 13 [(2, .inl (Int32.ofNat (n 0))), (0, .inr (.inr (.inl (some 259)))), (1, .inl (Int32.ofNat i))] [.inl (Int32.ofNat (n 1))] h'
  refine kx_go 4 (pc' := 17) (L' := [(3, .inl (Int32.ofNat (n 1))), (2, .inl (Int32.ofNat (n 0))), (0, .inr (.inr (.inl (some 259)))), (1, .inl (Int32.ofNat i))]) (S' := [.inl (Int32.ofNat 2), .inl (Int32.ofNat i), .inr (.inr (.inl (some 259)))]) (h' := h') (by with_unfolding_all rfl) ?_
  refine kc_call_rule (M2 := wk_m236) (av := [.inr (.inr (.inl (some 259))), .inl (Int32.ofNat i), .inl (Int32.ofNat 2)]) (r := []) rfl rfl (kc_Con_le (kv_num (d := 0) (x := n 2) hg hi (by decide) h12 en2) (by decide)) (fun rv h' hq => ?_)
  obtain ⟨rfl, rfl⟩ := hq
  show kc_Ev g 5 wk_m235 _ 20 [(3, .inl (Int32.ofNat (n 1))), (2, .inl (Int32.ofNat (n 0))), (0, .inr (.inr (.inl (some 259)))), (1, .inl (Int32.ofNat i))] [.inl (Int32.ofNat (n 2))] h'
  refine kx_go 2 (pc' := 23) (L' := [(4, .inl (Int32.ofNat (n 2))), (3, .inl (Int32.ofNat (n 1))), (2, .inl (Int32.ofNat (n 0))), (0, .inr (.inr (.inl (some 259)))), (1, .inl (Int32.ofNat i))]) (S' := [.inr (.inr (.inl (some 259)))]) (h' := h') (by with_unfolding_all rfl) ?_
  refine kx_getf (c := 259) (v := .inr (.inr (.inl (some 264)))) rfl (by decide) h11 ?_
  refine kx_go 1 (pc' := 27) (L' := [(4, .inl (Int32.ofNat (n 2))), (3, .inl (Int32.ofNat (n 1))), (2, .inl (Int32.ofNat (n 0))), (0, .inr (.inr (.inl (some 259)))), (1, .inl (Int32.ofNat i))]) (S' := [.inl (Int32.ofNat i), .inr (.inr (.inl (some 264)))]) (h' := h') (by with_unfolding_all rfl) ?_
  refine kx_iald rfl (c := 264) (j := i) (m := 240) (v := .inl (Int32.ofNat 13)) rfl (by decide) (by decide) (by omega) ev ?_
  refine kx_go 1 (pc' := 105) (L' := [(4, .inl (Int32.ofNat (n 2))), (3, .inl (Int32.ofNat (n 1))), (2, .inl (Int32.ofNat (n 0))), (0, .inr (.inr (.inl (some 259)))), (1, .inl (Int32.ofNat i))]) (S' := []) (h' := h') (by with_unfolding_all rfl) ?_
  refine kx_go 4 (pc' := 110) (L' := [(4, .inl (Int32.ofNat (n 2))), (3, .inl (Int32.ofNat (n 1))), (2, .inl (Int32.ofNat (n 0))), (0, .inr (.inr (.inl (some 259)))), (1, .inl (Int32.ofNat i))]) (S' := [.inl (Int32.ofNat (n 2)), .inl (Int32.ofNat (n 1)), .inl (Int32.ofNat (n 0)), .inr (.inr (.inl (some 259)))]) (h' := h') (by with_unfolding_all rfl) ?_
  refine kc_call_rule (M2 := wk_m20) (av := [.inr (.inr (.inl (some 259))), .inl (Int32.ofNat (n 0)), .inl (Int32.ofNat (n 1)), .inl (Int32.ofNat (n 2))]) (r := []) rfl rfl (kc_Con_le (fu_rway (d := 0) hg hw hC hB) (by decide)) (fun rv h9 hq => ?_)
  obtain ⟨rfl, e9⟩ := hq
  exact kc_ret_ok rfl (rv := some (.inl _)) rfl ⟨rfl, e9⟩
set_option maxRecDepth 20000 in
theorem fu_item4 {g : kc_G} {h : kc_H} {i : Nat} {B : Nat → Int32} {n : Nat → Nat} (hg : kc_ok g) (hw : kd_wt kd_ty h) (hi : i < 60) (hC : fu_B B h) (hB : fu_BT B) (ev : h 264 i = .inl (Int32.ofNat 14)) (en : ∀ k, k < 4 → h 265 (5 * i + k) = .inl (Int32.ofNat (n k)) ∧ n k < 1000) : kc_Con g 6 235 [.inr (.inr (.inl (some 259))), .inl (Int32.ofNat i)] h (fun rv h' => rv = some (.inl (fu_step 4 n B).1) ∧ h' = fu_rw (fu_step 4 n B).2 h) := by
  obtain ⟨en0, nb0⟩ := en 0 (by omega)
  obtain ⟨en1, nb1⟩ := en 1 (by omega)
  obtain ⟨en2, nb2⟩ := en 2 (by omega)
  obtain ⟨en3, nb3⟩ := en 3 (by omega)
  have h11 := kx_ofr (hw _ _ _ kv_kr.1)
  have h12 := kx_ofr (hw _ _ _ kv_kr.2)
  refine kc_Con_new hg (M := wk_m235) rfl rfl rfl (show 2 ≤ 5 by decide) ?_
  refine kx_go 3 (pc' := 3) (L' := [(0, .inr (.inr (.inl (some 259)))), (1, .inl (Int32.ofNat i))]) (S' := [.inl (Int32.ofNat 0), .inl (Int32.ofNat i), .inr (.inr (.inl (some 259)))]) (h' := h) (by with_unfolding_all rfl) ?_
  refine kc_call_rule (M2 := wk_m236) (av := [.inr (.inr (.inl (some 259))), .inl (Int32.ofNat i), .inl (Int32.ofNat 0)]) (r := []) rfl rfl (kc_Con_le (kv_num (d := 0) (x := n 0) hg hi (by decide) h12 en0) (by decide)) (fun rv h' hq => ?_)
  obtain ⟨rfl, rfl⟩ := hq
  show kc_Ev g 5 wk_m235 _ 6 [(0, .inr (.inr (.inl (some 259)))), (1, .inl (Int32.ofNat i))] [.inl (Int32.ofNat (n 0))] h'
  refine kx_go 4 (pc' := 10) (L' := [(2, .inl (Int32.ofNat (n 0))), (0, .inr (.inr (.inl (some 259)))), (1, .inl (Int32.ofNat i))]) (S' := [.inl (Int32.ofNat 1), .inl (Int32.ofNat i), .inr (.inr (.inl (some 259)))]) (h' := h') (by with_unfolding_all rfl) ?_
  refine kc_call_rule (M2 := wk_m236) (av := [.inr (.inr (.inl (some 259))), .inl (Int32.ofNat i), .inl (Int32.ofNat 1)]) (r := []) rfl rfl (kc_Con_le (kv_num (d := 0) (x := n 1) hg hi (by decide) h12 en1) (by decide)) (fun rv h' hq => ?_)
  obtain ⟨rfl, rfl⟩ := hq
  show kc_Ev g 5 wk_m235 _ 13 [(2, .inl (Int32.ofNat (n 0))), (0, .inr (.inr (.inl (some 259)))), (1, .inl (Int32.ofNat i))] [.inl (Int32.ofNat (n 1))] h'
  refine kx_go 4 (pc' := 17) (L' := [(3, .inl (Int32.ofNat (n 1))), (2, .inl (Int32.ofNat (n 0))), (0, .inr (.inr (.inl (some 259)))), (1, .inl (Int32.ofNat i))]) (S' := [.inl (Int32.ofNat 2), .inl (Int32.ofNat i), .inr (.inr (.inl (some 259)))]) (h' := h') (by with_unfolding_all rfl) ?_
  refine kc_call_rule (M2 := wk_m236) (av := [.inr (.inr (.inl (some 259))), .inl (Int32.ofNat i), .inl (Int32.ofNat 2)]) (r := []) rfl rfl (kc_Con_le (kv_num (d := 0) (x := n 2) hg hi (by decide) h12 en2) (by decide)) (fun rv h' hq => ?_)
  obtain ⟨rfl, rfl⟩ := hq
  show kc_Ev g 5 wk_m235 _ 20 [(3, .inl (Int32.ofNat (n 1))), (2, .inl (Int32.ofNat (n 0))), (0, .inr (.inr (.inl (some 259)))), (1, .inl (Int32.ofNat i))] [.inl (Int32.ofNat (n 2))] h'
  refine kx_go 2 (pc' := 23) (L' := [(4, .inl (Int32.ofNat (n 2))), (3, .inl (Int32.ofNat (n 1))), (2, .inl (Int32.ofNat (n 0))), (0, .inr (.inr (.inl (some 259)))), (1, .inl (Int32.ofNat i))]) (S' := [.inr (.inr (.inl (some 259)))]) (h' := h') (by with_unfolding_all rfl) ?_
  refine kx_getf (c := 259) (v := .inr (.inr (.inl (some 264)))) rfl (by decide) h11 ?_
  refine kx_go 1 (pc' := 27) (L' := [(4, .inl (Int32.ofNat (n 2))), (3, .inl (Int32.ofNat (n 1))), (2, .inl (Int32.ofNat (n 0))), (0, .inr (.inr (.inl (some 259)))), (1, .inl (Int32.ofNat i))]) (S' := [.inl (Int32.ofNat i), .inr (.inr (.inl (some 264)))]) (h' := h') (by with_unfolding_all rfl) ?_
  refine kx_iald rfl (c := 264) (j := i) (m := 240) (v := .inl (Int32.ofNat 14)) rfl (by decide) (by decide) (by omega) ev ?_
  refine kx_go 1 (pc' := 114) (L' := [(4, .inl (Int32.ofNat (n 2))), (3, .inl (Int32.ofNat (n 1))), (2, .inl (Int32.ofNat (n 0))), (0, .inr (.inr (.inl (some 259)))), (1, .inl (Int32.ofNat i))]) (S' := []) (h' := h') (by with_unfolding_all rfl) ?_
  refine kx_go 4 (pc' := 119) (L' := [(4, .inl (Int32.ofNat (n 2))), (3, .inl (Int32.ofNat (n 1))), (2, .inl (Int32.ofNat (n 0))), (0, .inr (.inr (.inl (some 259)))), (1, .inl (Int32.ofNat i))]) (S' := [.inl (Int32.ofNat (n 2)), .inl (Int32.ofNat (n 1)), .inl (Int32.ofNat (n 0)), .inr (.inr (.inl (some 259)))]) (h' := h') (by with_unfolding_all rfl) ?_
  refine kc_call_rule (M2 := wk_m39) (av := [.inr (.inr (.inl (some 259))), .inl (Int32.ofNat (n 0)), .inl (Int32.ofNat (n 1)), .inl (Int32.ofNat (n 2))]) (r := []) rfl rfl (kc_Con_le (fu_rlame (d := 0) hg hw hC hB) (by decide)) (fun rv h9 hq => ?_)
  obtain ⟨rfl, e9⟩ := hq
  exact kc_ret_ok rfl (rv := some (.inl _)) rfl ⟨rfl, e9⟩
set_option maxRecDepth 20000 in
theorem fu_item5 {g : kc_G} {h : kc_H} {i : Nat} {B : Nat → Int32} {n : Nat → Nat} (hg : kc_ok g) (hw : kd_wt kd_ty h) (hi : i < 60) (hC : fu_B B h) (hB : fu_BT B) (ev : h 264 i = .inl (Int32.ofNat 15)) (en : ∀ k, k < 4 → h 265 (5 * i + k) = .inl (Int32.ofNat (n k)) ∧ n k < 1000) : kc_Con g 6 235 [.inr (.inr (.inl (some 259))), .inl (Int32.ofNat i)] h (fun rv h' => rv = some (.inl (fu_step 5 n B).1) ∧ h' = fu_rw (fu_step 5 n B).2 h) := by
  obtain ⟨en0, nb0⟩ := en 0 (by omega)
  obtain ⟨en1, nb1⟩ := en 1 (by omega)
  obtain ⟨en2, nb2⟩ := en 2 (by omega)
  obtain ⟨en3, nb3⟩ := en 3 (by omega)
  have h11 := kx_ofr (hw _ _ _ kv_kr.1)
  have h12 := kx_ofr (hw _ _ _ kv_kr.2)
  refine kc_Con_new hg (M := wk_m235) rfl rfl rfl (show 2 ≤ 5 by decide) ?_
  refine kx_go 3 (pc' := 3) (L' := [(0, .inr (.inr (.inl (some 259)))), (1, .inl (Int32.ofNat i))]) (S' := [.inl (Int32.ofNat 0), .inl (Int32.ofNat i), .inr (.inr (.inl (some 259)))]) (h' := h) (by with_unfolding_all rfl) ?_
  refine kc_call_rule (M2 := wk_m236) (av := [.inr (.inr (.inl (some 259))), .inl (Int32.ofNat i), .inl (Int32.ofNat 0)]) (r := []) rfl rfl (kc_Con_le (kv_num (d := 0) (x := n 0) hg hi (by decide) h12 en0) (by decide)) (fun rv h' hq => ?_)
  obtain ⟨rfl, rfl⟩ := hq
  show kc_Ev g 5 wk_m235 _ 6 [(0, .inr (.inr (.inl (some 259)))), (1, .inl (Int32.ofNat i))] [.inl (Int32.ofNat (n 0))] h'
  refine kx_go 4 (pc' := 10) (L' := [(2, .inl (Int32.ofNat (n 0))), (0, .inr (.inr (.inl (some 259)))), (1, .inl (Int32.ofNat i))]) (S' := [.inl (Int32.ofNat 1), .inl (Int32.ofNat i), .inr (.inr (.inl (some 259)))]) (h' := h') (by with_unfolding_all rfl) ?_
  refine kc_call_rule (M2 := wk_m236) (av := [.inr (.inr (.inl (some 259))), .inl (Int32.ofNat i), .inl (Int32.ofNat 1)]) (r := []) rfl rfl (kc_Con_le (kv_num (d := 0) (x := n 1) hg hi (by decide) h12 en1) (by decide)) (fun rv h' hq => ?_)
  obtain ⟨rfl, rfl⟩ := hq
  show kc_Ev g 5 wk_m235 _ 13 [(2, .inl (Int32.ofNat (n 0))), (0, .inr (.inr (.inl (some 259)))), (1, .inl (Int32.ofNat i))] [.inl (Int32.ofNat (n 1))] h'
  refine kx_go 4 (pc' := 17) (L' := [(3, .inl (Int32.ofNat (n 1))), (2, .inl (Int32.ofNat (n 0))), (0, .inr (.inr (.inl (some 259)))), (1, .inl (Int32.ofNat i))]) (S' := [.inl (Int32.ofNat 2), .inl (Int32.ofNat i), .inr (.inr (.inl (some 259)))]) (h' := h') (by with_unfolding_all rfl) ?_
  refine kc_call_rule (M2 := wk_m236) (av := [.inr (.inr (.inl (some 259))), .inl (Int32.ofNat i), .inl (Int32.ofNat 2)]) (r := []) rfl rfl (kc_Con_le (kv_num (d := 0) (x := n 2) hg hi (by decide) h12 en2) (by decide)) (fun rv h' hq => ?_)
  obtain ⟨rfl, rfl⟩ := hq
  show kc_Ev g 5 wk_m235 _ 20 [(3, .inl (Int32.ofNat (n 1))), (2, .inl (Int32.ofNat (n 0))), (0, .inr (.inr (.inl (some 259)))), (1, .inl (Int32.ofNat i))] [.inl (Int32.ofNat (n 2))] h'
  refine kx_go 2 (pc' := 23) (L' := [(4, .inl (Int32.ofNat (n 2))), (3, .inl (Int32.ofNat (n 1))), (2, .inl (Int32.ofNat (n 0))), (0, .inr (.inr (.inl (some 259)))), (1, .inl (Int32.ofNat i))]) (S' := [.inr (.inr (.inl (some 259)))]) (h' := h') (by with_unfolding_all rfl) ?_
  refine kx_getf (c := 259) (v := .inr (.inr (.inl (some 264)))) rfl (by decide) h11 ?_
  refine kx_go 1 (pc' := 27) (L' := [(4, .inl (Int32.ofNat (n 2))), (3, .inl (Int32.ofNat (n 1))), (2, .inl (Int32.ofNat (n 0))), (0, .inr (.inr (.inl (some 259)))), (1, .inl (Int32.ofNat i))]) (S' := [.inl (Int32.ofNat i), .inr (.inr (.inl (some 264)))]) (h' := h') (by with_unfolding_all rfl) ?_
  refine kx_iald rfl (c := 264) (j := i) (m := 240) (v := .inl (Int32.ofNat 15)) rfl (by decide) (by decide) (by omega) ev ?_
  refine kx_go 1 (pc' := 123) (L' := [(4, .inl (Int32.ofNat (n 2))), (3, .inl (Int32.ofNat (n 1))), (2, .inl (Int32.ofNat (n 0))), (0, .inr (.inr (.inl (some 259)))), (1, .inl (Int32.ofNat i))]) (S' := []) (h' := h') (by with_unfolding_all rfl) ?_
  refine kx_go 2 (pc' := 125) (L' := [(4, .inl (Int32.ofNat (n 2))), (3, .inl (Int32.ofNat (n 1))), (2, .inl (Int32.ofNat (n 0))), (0, .inr (.inr (.inl (some 259)))), (1, .inl (Int32.ofNat i))]) (S' := [.inl (Int32.ofNat (n 0)), .inr (.inr (.inl (some 259)))]) (h' := h') (by with_unfolding_all rfl) ?_
  refine kc_call_rule (M2 := wk_m26) (av := [.inr (.inr (.inl (some 259))), .inl (Int32.ofNat (n 0))]) (r := []) rfl rfl (kc_Con_le (fu_rford (d := 0) hg hw hC hB) (by decide)) (fun rv h9 hq => ?_)
  obtain ⟨rfl, e9⟩ := hq
  exact kc_ret_ok rfl (rv := some (.inl _)) rfl ⟨rfl, e9⟩
set_option maxRecDepth 20000 in
theorem fu_item6 {g : kc_G} {h : kc_H} {i : Nat} {B : Nat → Int32} {n : Nat → Nat} (hg : kc_ok g) (hw : kd_wt kd_ty h) (hi : i < 60) (hC : fu_B B h) (hB : fu_BT B) (ev : h 264 i = .inl (Int32.ofNat 16)) (en : ∀ k, k < 4 → h 265 (5 * i + k) = .inl (Int32.ofNat (n k)) ∧ n k < 1000) : kc_Con g 6 235 [.inr (.inr (.inl (some 259))), .inl (Int32.ofNat i)] h (fun rv h' => rv = some (.inl (fu_step 6 n B).1) ∧ h' = fu_rw (fu_step 6 n B).2 h) := by
  obtain ⟨en0, nb0⟩ := en 0 (by omega)
  obtain ⟨en1, nb1⟩ := en 1 (by omega)
  obtain ⟨en2, nb2⟩ := en 2 (by omega)
  obtain ⟨en3, nb3⟩ := en 3 (by omega)
  have h11 := kx_ofr (hw _ _ _ kv_kr.1)
  have h12 := kx_ofr (hw _ _ _ kv_kr.2)
  refine kc_Con_new hg (M := wk_m235) rfl rfl rfl (show 2 ≤ 5 by decide) ?_
  refine kx_go 3 (pc' := 3) (L' := [(0, .inr (.inr (.inl (some 259)))), (1, .inl (Int32.ofNat i))]) (S' := [.inl (Int32.ofNat 0), .inl (Int32.ofNat i), .inr (.inr (.inl (some 259)))]) (h' := h) (by with_unfolding_all rfl) ?_
  refine kc_call_rule (M2 := wk_m236) (av := [.inr (.inr (.inl (some 259))), .inl (Int32.ofNat i), .inl (Int32.ofNat 0)]) (r := []) rfl rfl (kc_Con_le (kv_num (d := 0) (x := n 0) hg hi (by decide) h12 en0) (by decide)) (fun rv h' hq => ?_)
  obtain ⟨rfl, rfl⟩ := hq
  show kc_Ev g 5 wk_m235 _ 6 [(0, .inr (.inr (.inl (some 259)))), (1, .inl (Int32.ofNat i))] [.inl (Int32.ofNat (n 0))] h'
  refine kx_go 4 (pc' := 10) (L' := [(2, .inl (Int32.ofNat (n 0))), (0, .inr (.inr (.inl (some 259)))), (1, .inl (Int32.ofNat i))]) (S' := [.inl (Int32.ofNat 1), .inl (Int32.ofNat i), .inr (.inr (.inl (some 259)))]) (h' := h') (by with_unfolding_all rfl) ?_
  refine kc_call_rule (M2 := wk_m236) (av := [.inr (.inr (.inl (some 259))), .inl (Int32.ofNat i), .inl (Int32.ofNat 1)]) (r := []) rfl rfl (kc_Con_le (kv_num (d := 0) (x := n 1) hg hi (by decide) h12 en1) (by decide)) (fun rv h' hq => ?_)
  obtain ⟨rfl, rfl⟩ := hq
  show kc_Ev g 5 wk_m235 _ 13 [(2, .inl (Int32.ofNat (n 0))), (0, .inr (.inr (.inl (some 259)))), (1, .inl (Int32.ofNat i))] [.inl (Int32.ofNat (n 1))] h'
  refine kx_go 4 (pc' := 17) (L' := [(3, .inl (Int32.ofNat (n 1))), (2, .inl (Int32.ofNat (n 0))), (0, .inr (.inr (.inl (some 259)))), (1, .inl (Int32.ofNat i))]) (S' := [.inl (Int32.ofNat 2), .inl (Int32.ofNat i), .inr (.inr (.inl (some 259)))]) (h' := h') (by with_unfolding_all rfl) ?_
  refine kc_call_rule (M2 := wk_m236) (av := [.inr (.inr (.inl (some 259))), .inl (Int32.ofNat i), .inl (Int32.ofNat 2)]) (r := []) rfl rfl (kc_Con_le (kv_num (d := 0) (x := n 2) hg hi (by decide) h12 en2) (by decide)) (fun rv h' hq => ?_)
  obtain ⟨rfl, rfl⟩ := hq
  show kc_Ev g 5 wk_m235 _ 20 [(3, .inl (Int32.ofNat (n 1))), (2, .inl (Int32.ofNat (n 0))), (0, .inr (.inr (.inl (some 259)))), (1, .inl (Int32.ofNat i))] [.inl (Int32.ofNat (n 2))] h'
  refine kx_go 2 (pc' := 23) (L' := [(4, .inl (Int32.ofNat (n 2))), (3, .inl (Int32.ofNat (n 1))), (2, .inl (Int32.ofNat (n 0))), (0, .inr (.inr (.inl (some 259)))), (1, .inl (Int32.ofNat i))]) (S' := [.inr (.inr (.inl (some 259)))]) (h' := h') (by with_unfolding_all rfl) ?_
  refine kx_getf (c := 259) (v := .inr (.inr (.inl (some 264)))) rfl (by decide) h11 ?_
  refine kx_go 1 (pc' := 27) (L' := [(4, .inl (Int32.ofNat (n 2))), (3, .inl (Int32.ofNat (n 1))), (2, .inl (Int32.ofNat (n 0))), (0, .inr (.inr (.inl (some 259)))), (1, .inl (Int32.ofNat i))]) (S' := [.inl (Int32.ofNat i), .inr (.inr (.inl (some 264)))]) (h' := h') (by with_unfolding_all rfl) ?_
  refine kx_iald rfl (c := 264) (j := i) (m := 240) (v := .inl (Int32.ofNat 16)) rfl (by decide) (by decide) (by omega) ev ?_
  refine kx_go 1 (pc' := 129) (L' := [(4, .inl (Int32.ofNat (n 2))), (3, .inl (Int32.ofNat (n 1))), (2, .inl (Int32.ofNat (n 0))), (0, .inr (.inr (.inl (some 259)))), (1, .inl (Int32.ofNat i))]) (S' := []) (h' := h') (by with_unfolding_all rfl) ?_
  refine kx_go 3 (pc' := 132) (L' := [(4, .inl (Int32.ofNat (n 2))), (3, .inl (Int32.ofNat (n 1))), (2, .inl (Int32.ofNat (n 0))), (0, .inr (.inr (.inl (some 259)))), (1, .inl (Int32.ofNat i))]) (S' := [.inl (Int32.ofNat (n 1)), .inl (Int32.ofNat (n 0)), .inr (.inr (.inl (some 259)))]) (h' := h') (by with_unfolding_all rfl) ?_
  refine kc_call_rule (M2 := wk_m47) (av := [.inr (.inr (.inl (some 259))), .inl (Int32.ofNat (n 0)), .inl (Int32.ofNat (n 1))]) (r := []) rfl rfl (kc_Con_le (fu_rask (d := 0) hg hw hC hB) (by decide)) (fun rv h9 hq => ?_)
  obtain ⟨rfl, e9⟩ := hq
  exact kc_ret_ok rfl (rv := some (.inl _)) rfl ⟨rfl, e9⟩
set_option maxRecDepth 20000 in
theorem fu_item7 {g : kc_G} {h : kc_H} {i : Nat} {B : Nat → Int32} {n : Nat → Nat} (hg : kc_ok g) (hw : kd_wt kd_ty h) (hi : i < 60) (hC : fu_B B h) (hB : fu_BT B) (ev : h 264 i = .inl (Int32.ofNat 17)) (en : ∀ k, k < 4 → h 265 (5 * i + k) = .inl (Int32.ofNat (n k)) ∧ n k < 1000) : kc_Con g 6 235 [.inr (.inr (.inl (some 259))), .inl (Int32.ofNat i)] h (fun rv h' => rv = some (.inl (fu_step 7 n B).1) ∧ h' = fu_rw (fu_step 7 n B).2 h) := by
  obtain ⟨en0, nb0⟩ := en 0 (by omega)
  obtain ⟨en1, nb1⟩ := en 1 (by omega)
  obtain ⟨en2, nb2⟩ := en 2 (by omega)
  obtain ⟨en3, nb3⟩ := en 3 (by omega)
  have h11 := kx_ofr (hw _ _ _ kv_kr.1)
  have h12 := kx_ofr (hw _ _ _ kv_kr.2)
  refine kc_Con_new hg (M := wk_m235) rfl rfl rfl (show 2 ≤ 5 by decide) ?_
  refine kx_go 3 (pc' := 3) (L' := [(0, .inr (.inr (.inl (some 259)))), (1, .inl (Int32.ofNat i))]) (S' := [.inl (Int32.ofNat 0), .inl (Int32.ofNat i), .inr (.inr (.inl (some 259)))]) (h' := h) (by with_unfolding_all rfl) ?_
  refine kc_call_rule (M2 := wk_m236) (av := [.inr (.inr (.inl (some 259))), .inl (Int32.ofNat i), .inl (Int32.ofNat 0)]) (r := []) rfl rfl (kc_Con_le (kv_num (d := 0) (x := n 0) hg hi (by decide) h12 en0) (by decide)) (fun rv h' hq => ?_)
  obtain ⟨rfl, rfl⟩ := hq
  show kc_Ev g 5 wk_m235 _ 6 [(0, .inr (.inr (.inl (some 259)))), (1, .inl (Int32.ofNat i))] [.inl (Int32.ofNat (n 0))] h'
  refine kx_go 4 (pc' := 10) (L' := [(2, .inl (Int32.ofNat (n 0))), (0, .inr (.inr (.inl (some 259)))), (1, .inl (Int32.ofNat i))]) (S' := [.inl (Int32.ofNat 1), .inl (Int32.ofNat i), .inr (.inr (.inl (some 259)))]) (h' := h') (by with_unfolding_all rfl) ?_
  refine kc_call_rule (M2 := wk_m236) (av := [.inr (.inr (.inl (some 259))), .inl (Int32.ofNat i), .inl (Int32.ofNat 1)]) (r := []) rfl rfl (kc_Con_le (kv_num (d := 0) (x := n 1) hg hi (by decide) h12 en1) (by decide)) (fun rv h' hq => ?_)
  obtain ⟨rfl, rfl⟩ := hq
  show kc_Ev g 5 wk_m235 _ 13 [(2, .inl (Int32.ofNat (n 0))), (0, .inr (.inr (.inl (some 259)))), (1, .inl (Int32.ofNat i))] [.inl (Int32.ofNat (n 1))] h'
  refine kx_go 4 (pc' := 17) (L' := [(3, .inl (Int32.ofNat (n 1))), (2, .inl (Int32.ofNat (n 0))), (0, .inr (.inr (.inl (some 259)))), (1, .inl (Int32.ofNat i))]) (S' := [.inl (Int32.ofNat 2), .inl (Int32.ofNat i), .inr (.inr (.inl (some 259)))]) (h' := h') (by with_unfolding_all rfl) ?_
  refine kc_call_rule (M2 := wk_m236) (av := [.inr (.inr (.inl (some 259))), .inl (Int32.ofNat i), .inl (Int32.ofNat 2)]) (r := []) rfl rfl (kc_Con_le (kv_num (d := 0) (x := n 2) hg hi (by decide) h12 en2) (by decide)) (fun rv h' hq => ?_)
  obtain ⟨rfl, rfl⟩ := hq
  show kc_Ev g 5 wk_m235 _ 20 [(3, .inl (Int32.ofNat (n 1))), (2, .inl (Int32.ofNat (n 0))), (0, .inr (.inr (.inl (some 259)))), (1, .inl (Int32.ofNat i))] [.inl (Int32.ofNat (n 2))] h'
  refine kx_go 2 (pc' := 23) (L' := [(4, .inl (Int32.ofNat (n 2))), (3, .inl (Int32.ofNat (n 1))), (2, .inl (Int32.ofNat (n 0))), (0, .inr (.inr (.inl (some 259)))), (1, .inl (Int32.ofNat i))]) (S' := [.inr (.inr (.inl (some 259)))]) (h' := h') (by with_unfolding_all rfl) ?_
  refine kx_getf (c := 259) (v := .inr (.inr (.inl (some 264)))) rfl (by decide) h11 ?_
  refine kx_go 1 (pc' := 27) (L' := [(4, .inl (Int32.ofNat (n 2))), (3, .inl (Int32.ofNat (n 1))), (2, .inl (Int32.ofNat (n 0))), (0, .inr (.inr (.inl (some 259)))), (1, .inl (Int32.ofNat i))]) (S' := [.inl (Int32.ofNat i), .inr (.inr (.inl (some 264)))]) (h' := h') (by with_unfolding_all rfl) ?_
  refine kx_iald rfl (c := 264) (j := i) (m := 240) (v := .inl (Int32.ofNat 17)) rfl (by decide) (by decide) (by omega) ev ?_
  refine kx_go 1 (pc' := 136) (L' := [(4, .inl (Int32.ofNat (n 2))), (3, .inl (Int32.ofNat (n 1))), (2, .inl (Int32.ofNat (n 0))), (0, .inr (.inr (.inl (some 259)))), (1, .inl (Int32.ofNat i))]) (S' := []) (h' := h') (by with_unfolding_all rfl) ?_
  refine kx_go 3 (pc' := 139) (L' := [(4, .inl (Int32.ofNat (n 2))), (3, .inl (Int32.ofNat (n 1))), (2, .inl (Int32.ofNat (n 0))), (0, .inr (.inr (.inl (some 259)))), (1, .inl (Int32.ofNat i))]) (S' := [.inl (Int32.ofNat (n 1)), .inl (Int32.ofNat (n 0)), .inr (.inr (.inl (some 259)))]) (h' := h') (by with_unfolding_all rfl) ?_
  refine kc_call_rule (M2 := wk_m50) (av := [.inr (.inr (.inl (some 259))), .inl (Int32.ofNat (n 0)), .inl (Int32.ofNat (n 1))]) (r := []) rfl rfl (kc_Con_le (fu_rdrain (d := 0) hg hw hC hB) (by decide)) (fun rv h9 hq => ?_)
  obtain ⟨rfl, e9⟩ := hq
  exact kc_ret_ok rfl (rv := some (.inl _)) rfl ⟨rfl, e9⟩
set_option maxRecDepth 20000 in
theorem fu_item8 {g : kc_G} {h : kc_H} {i : Nat} {B : Nat → Int32} {n : Nat → Nat} (hg : kc_ok g) (hw : kd_wt kd_ty h) (hi : i < 60) (hC : fu_B B h) (hB : fu_BT B) (ev : h 264 i = .inl (Int32.ofNat 18)) (en : ∀ k, k < 4 → h 265 (5 * i + k) = .inl (Int32.ofNat (n k)) ∧ n k < 1000) : kc_Con g 6 235 [.inr (.inr (.inl (some 259))), .inl (Int32.ofNat i)] h (fun rv h' => rv = some (.inl (fu_step 8 n B).1) ∧ h' = fu_rw (fu_step 8 n B).2 h) := by
  obtain ⟨en0, nb0⟩ := en 0 (by omega)
  obtain ⟨en1, nb1⟩ := en 1 (by omega)
  obtain ⟨en2, nb2⟩ := en 2 (by omega)
  obtain ⟨en3, nb3⟩ := en 3 (by omega)
  have h11 := kx_ofr (hw _ _ _ kv_kr.1)
  have h12 := kx_ofr (hw _ _ _ kv_kr.2)
  refine kc_Con_new hg (M := wk_m235) rfl rfl rfl (show 2 ≤ 5 by decide) ?_
  refine kx_go 3 (pc' := 3) (L' := [(0, .inr (.inr (.inl (some 259)))), (1, .inl (Int32.ofNat i))]) (S' := [.inl (Int32.ofNat 0), .inl (Int32.ofNat i), .inr (.inr (.inl (some 259)))]) (h' := h) (by with_unfolding_all rfl) ?_
  refine kc_call_rule (M2 := wk_m236) (av := [.inr (.inr (.inl (some 259))), .inl (Int32.ofNat i), .inl (Int32.ofNat 0)]) (r := []) rfl rfl (kc_Con_le (kv_num (d := 0) (x := n 0) hg hi (by decide) h12 en0) (by decide)) (fun rv h' hq => ?_)
  obtain ⟨rfl, rfl⟩ := hq
  show kc_Ev g 5 wk_m235 _ 6 [(0, .inr (.inr (.inl (some 259)))), (1, .inl (Int32.ofNat i))] [.inl (Int32.ofNat (n 0))] h'
  refine kx_go 4 (pc' := 10) (L' := [(2, .inl (Int32.ofNat (n 0))), (0, .inr (.inr (.inl (some 259)))), (1, .inl (Int32.ofNat i))]) (S' := [.inl (Int32.ofNat 1), .inl (Int32.ofNat i), .inr (.inr (.inl (some 259)))]) (h' := h') (by with_unfolding_all rfl) ?_
  refine kc_call_rule (M2 := wk_m236) (av := [.inr (.inr (.inl (some 259))), .inl (Int32.ofNat i), .inl (Int32.ofNat 1)]) (r := []) rfl rfl (kc_Con_le (kv_num (d := 0) (x := n 1) hg hi (by decide) h12 en1) (by decide)) (fun rv h' hq => ?_)
  obtain ⟨rfl, rfl⟩ := hq
  show kc_Ev g 5 wk_m235 _ 13 [(2, .inl (Int32.ofNat (n 0))), (0, .inr (.inr (.inl (some 259)))), (1, .inl (Int32.ofNat i))] [.inl (Int32.ofNat (n 1))] h'
  refine kx_go 4 (pc' := 17) (L' := [(3, .inl (Int32.ofNat (n 1))), (2, .inl (Int32.ofNat (n 0))), (0, .inr (.inr (.inl (some 259)))), (1, .inl (Int32.ofNat i))]) (S' := [.inl (Int32.ofNat 2), .inl (Int32.ofNat i), .inr (.inr (.inl (some 259)))]) (h' := h') (by with_unfolding_all rfl) ?_
  refine kc_call_rule (M2 := wk_m236) (av := [.inr (.inr (.inl (some 259))), .inl (Int32.ofNat i), .inl (Int32.ofNat 2)]) (r := []) rfl rfl (kc_Con_le (kv_num (d := 0) (x := n 2) hg hi (by decide) h12 en2) (by decide)) (fun rv h' hq => ?_)
  obtain ⟨rfl, rfl⟩ := hq
  show kc_Ev g 5 wk_m235 _ 20 [(3, .inl (Int32.ofNat (n 1))), (2, .inl (Int32.ofNat (n 0))), (0, .inr (.inr (.inl (some 259)))), (1, .inl (Int32.ofNat i))] [.inl (Int32.ofNat (n 2))] h'
  refine kx_go 2 (pc' := 23) (L' := [(4, .inl (Int32.ofNat (n 2))), (3, .inl (Int32.ofNat (n 1))), (2, .inl (Int32.ofNat (n 0))), (0, .inr (.inr (.inl (some 259)))), (1, .inl (Int32.ofNat i))]) (S' := [.inr (.inr (.inl (some 259)))]) (h' := h') (by with_unfolding_all rfl) ?_
  refine kx_getf (c := 259) (v := .inr (.inr (.inl (some 264)))) rfl (by decide) h11 ?_
  refine kx_go 1 (pc' := 27) (L' := [(4, .inl (Int32.ofNat (n 2))), (3, .inl (Int32.ofNat (n 1))), (2, .inl (Int32.ofNat (n 0))), (0, .inr (.inr (.inl (some 259)))), (1, .inl (Int32.ofNat i))]) (S' := [.inl (Int32.ofNat i), .inr (.inr (.inl (some 264)))]) (h' := h') (by with_unfolding_all rfl) ?_
  refine kx_iald rfl (c := 264) (j := i) (m := 240) (v := .inl (Int32.ofNat 18)) rfl (by decide) (by decide) (by omega) ev ?_
  refine kx_go 1 (pc' := 143) (L' := [(4, .inl (Int32.ofNat (n 2))), (3, .inl (Int32.ofNat (n 1))), (2, .inl (Int32.ofNat (n 0))), (0, .inr (.inr (.inl (some 259)))), (1, .inl (Int32.ofNat i))]) (S' := []) (h' := h') (by with_unfolding_all rfl) ?_
  refine kx_go 3 (pc' := 146) (L' := [(4, .inl (Int32.ofNat (n 2))), (3, .inl (Int32.ofNat (n 1))), (2, .inl (Int32.ofNat (n 0))), (0, .inr (.inr (.inl (some 259)))), (1, .inl (Int32.ofNat i))]) (S' := [.inl (Int32.ofNat (n 1)), .inl (Int32.ofNat (n 0)), .inr (.inr (.inl (some 259)))]) (h' := h') (by with_unfolding_all rfl) ?_
  refine kc_call_rule (M2 := wk_m30) (av := [.inr (.inr (.inl (some 259))), .inl (Int32.ofNat (n 0)), .inl (Int32.ofNat (n 1))]) (r := []) rfl rfl (kc_Con_le (fu_rstones (d := 0) hg hw hC hB) (by decide)) (fun rv h9 hq => ?_)
  obtain ⟨rfl, e9⟩ := hq
  exact kc_ret_ok rfl (rv := some (.inl _)) rfl ⟨rfl, e9⟩
theorem fu_item {g : kc_G} {h : kc_H} {i v : Nat} {B : Nat → Int32} {n : Nat → Nat} (hg : kc_ok g) (hw : kd_wt kd_ty h) (hi : i < 60) (hv : v < 9) (hC : fu_B B h) (hB : fu_BT B) (ev : h 264 i = .inl (Int32.ofNat (kp_tv v))) (en : ∀ k, k < 4 → h 265 (5 * i + k) = .inl (Int32.ofNat (n k)) ∧ n k < 1000) : kc_Con g 6 235 [.inr (.inr (.inl (some 259))), .inl (Int32.ofNat i)] h (fun rv h' => rv = some (.inl (fu_step v n B).1) ∧ h' = fu_rw (fu_step v n B).2 h) := by
  rcases (show v = 0 ∨ v = 1 ∨ v = 2 ∨ v = 3 ∨ v = 4 ∨ v = 5 ∨ v = 6 ∨ v = 7 ∨ v = 8 by omega) with rfl | rfl | rfl | rfl | rfl | rfl | rfl | rfl | rfl
  · exact fu_item0 hg hw hi hC hB ev en
  · exact fu_item1 hg hw hi hC hB ev en
  · exact fu_item2 hg hw hi hC hB ev en
  · exact fu_item3 hg hw hi hC hB ev en
  · exact fu_item4 hg hw hi hC hB ev en
  · exact fu_item5 hg hw hi hC hB ev en
  · exact fu_item6 hg hw hi hC hB ev en
  · exact fu_item7 hg hw hi hC hB ev en
  · exact fu_item8 hg hw hi hC hB ev en
end
section
-- 99.zpb
/-! ===== the day's items one behind the other, exactly ===== -/
def fu_fold : List (Nat × List Nat) → Nat → (Nat → Int32) → (Nat → Int32) ⊕ Nat
  | [], _, B => .inl B
  | q :: l, i, B => if (fu_step q.1 (fun k => q.2.getD k 0) B).1.toInt < 0 then .inr i else fu_fold l (i + 1) (fu_bw (fu_step q.1 (fun k => q.2.getD k 0) B).2 B)
set_option maxRecDepth 20000 in
theorem fu_dayl {g : kc_G} {d : Nat} {Q : Option kc_V → kc_H → Prop} {hB : kc_H} {z1 : Int32} {l : List (Nat × List Nat)} {out : (Nat → Int32) ⊕ Nat} (hg : kc_ok g) (hd : 6 ≤ d) (hit : hB 127 1 = .inl (Int32.ofNat l.length)) (hl60 : l.length ≤ 60) (hl : ∀ (i : Nat) (q : Nat × List Nat), l[i]? = some q → kp_okI q ∧ q.1 < 9 ∧ q.2.length = ks_L (kp_sh q.1)) (hat : ∀ (i : Nat) (q : Nat × List Nat), l[i]? = some q → hB 128 i = .inl (Int32.ofNat q.1) ∧ ∀ k x, q.2[k]? = some x → hB (130 + i) k = .inl (Int32.ofNat x))
    (hQ1 : ∀ (hE : kc_H) (B : Nat → Int32), kd_wt kd_ty hE → (∀ c b, c < 1 ∨ 32 ≤ c → hE c b = hB c b) → fu_C B 1 hE → fu_BT B → out = .inl B → Q (some (.inl (Int32.ofNat l.length))) hE) (hQ0 : ∀ (hE : kc_H) (i : Nat), kd_wt kd_ty hE → (∀ c b, c < 1 ∨ 32 ≤ c → hE c b = hB c b) → out = .inr i → Q (some (.inl (Int32.ofInt (-1000) - Int32.ofNat i))) (kt_K hE 32 1 31)) : ∀ (u i : Nat) (hh : kc_H) (B : Nat → Int32), l.length - i = u → i ≤ l.length → kd_wt kd_ty hh → (∀ c b, c < 1 ∨ 32 ≤ c → hh c b = hB c b) → fu_C B 1 hh → fu_BT B → fu_fold (l.drop i) i B = out → kc_Ev g d wk_m67 Q 39 [(2, .inl (Int32.ofNat i)), (1, .inl (z1)), (0, .inr (.inr (.inl (some 0))))] [] hh := by
  intro u
  induction u with
  | zero =>
    intro i hh B hu hi hw hfr hC hBT hf
    have k0 := kx_ofr (hw _ _ _ kv_k0.1)
    have k4 := kx_ofr (hw _ _ _ kv_k0.2.2)
    have eit : hh 127 1 = .inl (Int32.ofNat l.length) := (hfr _ _ (by omega)).trans hit
    refine kx_go 2 (pc' := 41) (L' := [(2, .inl (Int32.ofNat i)), (1, .inl (z1)), (0, .inr (.inr (.inl (some 0))))]) (S' := [.inr (.inr (.inl (some 0))), .inl (Int32.ofNat i)]) (h' := hh) (by with_unfolding_all rfl) ?_
    refine kx_getf (c := 0) (v := .inr (.inr (.inl (some 127)))) rfl (by decide) k4 ?_
    refine kx_getf (c := 127) (v := .inl (Int32.ofNat l.length)) rfl (by decide) eit ?_
    refine kx_go 1 (pc' := (if kc_cnd .ge (Int32.ofNat i).toInt (Int32.ofNat l.length).toInt then 101 else 50)) (L' := [(2, .inl (Int32.ofNat i)), (1, .inl (z1)), (0, .inr (.inr (.inl (some 0))))]) (S' := []) (h' := hh) (by with_unfolding_all rfl) ?_
    rw [if_pos ((kx_ge (by omega) (by omega)).mpr (by omega))]
    refine kx_go 1 (pc' := 102) (L' := [(2, .inl (Int32.ofNat i)), (1, .inl (z1)), (0, .inr (.inr (.inl (some 0))))]) (S' := [.inr (.inr (.inl (some 0)))]) (h' := hh) (by with_unfolding_all rfl) ?_
    refine kx_getf (c := 0) (v := .inr (.inr (.inl (some 127)))) rfl (by decide) k4 ?_
    refine kx_getf (c := 127) (v := .inl (Int32.ofNat l.length)) rfl (by decide) eit ?_
    have hnil : l.drop i = [] := List.drop_eq_nil_of_le (by omega)
    rw [hnil] at hf
    exact kc_ret_ok rfl (rv := some (.inl (Int32.ofNat l.length))) rfl (hQ1 hh B hw hfr hC hBT hf.symm)
  | succ u ih =>
    intro i hh B hu hi hw hfr hC hBT hf
    have k0 := kx_ofr (hw _ _ _ kv_k0.1)
    have k4 := kx_ofr (hw _ _ _ kv_k0.2.2)
    have eit : hh 127 1 = .inl (Int32.ofNat l.length) := (hfr _ _ (by omega)).trans hit
    refine kx_go 2 (pc' := 41) (L' := [(2, .inl (Int32.ofNat i)), (1, .inl (z1)), (0, .inr (.inr (.inl (some 0))))]) (S' := [.inr (.inr (.inl (some 0))), .inl (Int32.ofNat i)]) (h' := hh) (by with_unfolding_all rfl) ?_
    refine kx_getf (c := 0) (v := .inr (.inr (.inl (some 127)))) rfl (by decide) k4 ?_
    refine kx_getf (c := 127) (v := .inl (Int32.ofNat l.length)) rfl (by decide) eit ?_
    refine kx_go 1 (pc' := (if kc_cnd .ge (Int32.ofNat i).toInt (Int32.ofNat l.length).toInt then 101 else 50)) (L' := [(2, .inl (Int32.ofNat i)), (1, .inl (z1)), (0, .inr (.inr (.inl (some 0))))]) (S' := []) (h' := hh) (by with_unfolding_all rfl) ?_
    rw [if_neg (fun q => by have := (kx_ge (by omega) (by omega)).mp q; omega)]
    obtain ⟨q, hq⟩ : ∃ q, l[i]? = some q := ⟨l[i]'(by omega), List.getElem?_eq_getElem (by omega)⟩
    obtain ⟨hqo, hq9, hql⟩ := hl i q hq
    obtain ⟨a1, a2⟩ := hat i q hq
    have ew : hh 128 i = .inl (Int32.ofNat q.1) := (hfr _ _ (by omega)).trans a1
    have er : ∀ k, hh (130 + i) k = hB (130 + i) k := fun k => hfr _ _ (by omega)
    have hrow : hh 129 i = .inr (.inr (.inl (some (130 + i)))) := kx_ofr (hw _ _ _ (kr_k129 i (by omega)))
    obtain ⟨nf, hnf⟩ : ∃ nf : Nat → Nat, ∀ k, k < 4 → hh (130 + i) k = .inl (Int32.ofNat (nf k)) ∧ nf k < 1000 := by
      have : ∀ k, ∃ v, k < 4 → hh (130 + i) k = .inl (Int32.ofNat v) ∧ v < 1000 := fun k => by
        by_cases hk : k < 4
        · obtain ⟨v, v1, v2⟩ := kx_ofg (by omega) (hw _ _ _ (kr_k130 i (by omega) k hk))
          exact ⟨v, fun _ => ⟨v2, by omega⟩⟩
        · exact ⟨0, fun q => absurd q hk⟩
      exact Classical.axiomOfChoice this
    have hst : fu_step q.1 nf B = fu_step q.1 (fun k => q.2.getD k 0) B := fu_step_c hq9 (fun k hk => by
      have hk2 : k < q.2.length := by omega
      have e1 := a2 k q.2[k] (List.getElem?_eq_getElem hk2)
      have e2 := (hnf k (by have := hqo.2.1; omega)).1
      rw [er k, e1] at e2
      have e3 : Int32.ofNat q.2[k] = Int32.ofNat (nf k) := Sum.inl.inj e2
      have e4 : (Int32.ofNat q.2[k]).toInt = (Int32.ofNat (nf k)).toInt := by rw [e3]
      have e5 := hqo.2.2 q.2[k] (List.getElem_mem hk2)
      have e6 := (hnf k (by have := hqo.2.1; omega)).2
      rw [kx_ti (by omega), kx_ti (by omega)] at e4
      show nf k = q.2.getD k 0
      rw [List.getD_eq_getElem?_getD, List.getElem?_eq_getElem hk2]
      show nf k = q.2[k]
      omega)
    refine kx_go 1 (pc' := 51) (L' := [(2, .inl (Int32.ofNat i)), (1, .inl (z1)), (0, .inr (.inr (.inl (some 0))))]) (S' := [.inr (.inr (.inl (some 0)))]) (h' := hh) (by with_unfolding_all rfl) ?_
    refine kx_getf (c := 0) (v := .inr (.inr (.inl (some 1)))) rfl (by decide) k0 ?_
    refine kx_go 1 (pc' := 55) (L' := [(2, .inl (Int32.ofNat i)), (1, .inl (z1)), (0, .inr (.inr (.inl (some 0))))]) (S' := [.inr (.inr (.inl (some 0))), .inr (.inr (.inl (some 1)))]) (h' := hh) (by with_unfolding_all rfl) ?_
    refine kx_getf (c := 0) (v := .inr (.inr (.inl (some 127)))) rfl (by decide) k4 ?_
    refine kx_getf (c := 127) (v := .inr (.inr (.inl (some 128)))) rfl (by decide) (kx_ofr (hw _ _ _ kr_k127.2.1)) ?_
    refine kx_go 1 (pc' := 62) (L' := [(2, .inl (Int32.ofNat i)), (1, .inl (z1)), (0, .inr (.inr (.inl (some 0))))]) (S' := [.inl (Int32.ofNat i), .inr (.inr (.inl (some 128))), .inr (.inr (.inl (some 1)))]) (h' := hh) (by with_unfolding_all rfl) ?_
    refine kx_iald rfl (c := 128) (j := i) (m := 60) (v := .inl (Int32.ofNat q.1)) rfl (by decide) (by decide) (by omega) ew ?_
    refine kx_go 1 (pc' := 64) (L' := [(2, .inl (Int32.ofNat i)), (1, .inl (z1)), (0, .inr (.inr (.inl (some 0))))]) (S' := [.inr (.inr (.inl (some 0))), .inl (Int32.ofNat q.1), .inr (.inr (.inl (some 1)))]) (h' := hh) (by with_unfolding_all rfl) ?_
    refine kx_getf (c := 0) (v := .inr (.inr (.inl (some 127)))) rfl (by decide) k4 ?_
    refine kx_getf (c := 127) (v := .inr (.inr (.inl (some 129)))) rfl (by decide) (kx_ofr (hw _ _ _ kr_k127.2.2.1)) ?_
    refine kx_go 1 (pc' := 71) (L' := [(2, .inl (Int32.ofNat i)), (1, .inl (z1)), (0, .inr (.inr (.inl (some 0))))]) (S' := [.inl (Int32.ofNat i), .inr (.inr (.inl (some 129))), .inl (Int32.ofNat q.1), .inr (.inr (.inl (some 1)))]) (h' := hh) (by with_unfolding_all rfl) ?_
    refine kx_aald (c := 129) (j := i) (m := 60) (t0 := 2) (v := .inr (.inr (.inl (some (130 + i))))) rfl rfl (by decide) (by decide) (by decide) (by omega) hrow ?_
    refine kc_call_rule (M2 := wk_m181) (av := [.inr (.inr (.inl (some 1))), .inl (Int32.ofNat q.1), .inr (.inr (.inl (some (130 + i))))]) (r := []) rfl rfl (kc_Con_le (fu_tell hg hw (show i < 60 by omega) hq9 hC hBT hnf) hd) (fun rv h2 hq2 => ?_)
    rw [hst] at hq2
    have gd := fu_g_step (v := q.1) (n := fun k => q.2.getD k 0) hq9 hBT
    have hfo : fu_fold (q :: l.drop (i + 1)) i B = if (fu_step q.1 (fun k => q.2.getD k 0) B).1.toInt < 0 then .inr i else fu_fold (l.drop (i + 1)) (i + 1) (fu_bw (fu_step q.1 (fun k => q.2.getD k 0) B).2 B) := rfl
    generalize fu_step q.1 (fun k => q.2.getD k 0) B = S at hq2 gd hfo
    obtain ⟨rfl, hh2⟩ := hq2
    have hw2 : kd_wt kd_ty h2 := by rw [hh2]; exact fu_wt_c gd hw
    have hfr2 : ∀ c b, c < 1 ∨ 32 ≤ c → h2 c b = hB c b := fun c b hc => by rw [hh2, fu_cw_o gd (by omega)]; exact hfr c b hc
    have hC2 : fu_C (fu_bw S.2 B) 1 h2 := by rw [hh2]; exact fu_C_w gd hC
    have hB2 : fu_BT (fu_bw S.2 B) := fu_BT_w gd hBT
    have hdr : l.drop i = q :: l.drop (i + 1) := by
      rw [List.drop_eq_getElem_cons (show i < l.length by omega)]
      congr 1
      have := List.getElem?_eq_getElem (l := l) (i := i) (by omega)
      rw [this] at hq
      exact Option.some.inj hq
    rw [hdr] at hf
    show kc_Ev g d wk_m67 Q 75 [(2, .inl (Int32.ofNat i)), (1, .inl (z1)), (0, .inr (.inr (.inl (some 0))))] [.inl S.1] h2
    refine kx_go 1 (pc' := (if kc_cnd .ge (S.1).toInt 0 then 95 else 78)) (L' := [(2, .inl (Int32.ofNat i)), (1, .inl (z1)), (0, .inr (.inr (.inl (some 0))))]) (S' := []) (h' := h2) (by with_unfolding_all rfl) ?_
    rcases (show 0 ≤ S.1.toInt ∨ S.1.toInt < 0 by omega) with r0 | r0
    · rw [if_pos (kv_g0 r0)]
      refine kx_go 2 (pc' := 39) (L' := [(2, .inl ((Int32.ofNat i) + Int32.ofInt 1)), (1, .inl (z1)), (0, .inr (.inr (.inl (some 0))))]) (S' := []) (h' := h2) (by with_unfolding_all rfl) ?_
      rw [kx_inc]
      refine ih (i + 1) h2 (fu_bw S.2 B) (by omega) (by omega) hw2 hfr2 hC2 hB2 ?_
      rw [← hf, hfo, if_neg (by omega)]
    · rw [if_neg (kv_g1 r0)]
      have j0 := kx_ofr (hw2 _ _ _ kv_k0.1)
      have j1 := kx_ofr (hw2 _ _ _ kv_k0.2.1)
      refine kx_go 1 (pc' := 79) (L' := [(2, .inl (Int32.ofNat i)), (1, .inl (z1)), (0, .inr (.inr (.inl (some 0))))]) (S' := [.inr (.inr (.inl (some 0)))]) (h' := h2) (by with_unfolding_all rfl) ?_
      refine kx_getf (c := 0) (v := .inr (.inr (.inl (some 1)))) rfl (by decide) j0 ?_
      refine kx_go 1 (pc' := 83) (L' := [(2, .inl (Int32.ofNat i)), (1, .inl (z1)), (0, .inr (.inr (.inl (some 0))))]) (S' := [.inr (.inr (.inl (some 0))), .inr (.inr (.inl (some 1)))]) (h' := h2) (by with_unfolding_all rfl) ?_
      refine kx_getf (c := 0) (v := .inr (.inr (.inl (some 32)))) rfl (by decide) j1 ?_
      refine kc_call_rule (M2 := wk_m68) (av := [.inr (.inr (.inl (some 1))), .inr (.inr (.inl (some 32)))]) (r := []) rfl rfl (kc_Con_le (kt_take32_1 (d := 0) hg hw2) (by omega)) (fun rv h3 hq3 => ?_)
      obtain ⟨rfl, rfl⟩ := hq3
      show kc_Ev g d wk_m67 Q 89 [(2, .inl (Int32.ofNat i)), (1, .inl (z1)), (0, .inr (.inr (.inl (some 0))))] [] (kt_K h2 32 1 31)
      refine kx_go 3 (pc' := 94) (L' := [(2, .inl (Int32.ofNat i)), (1, .inl (z1)), (0, .inr (.inr (.inl (some 0))))]) (S' := [.inl ((Int32.ofInt (-1000)) - (Int32.ofNat i))]) (h' := (kt_K h2 32 1 31)) (by with_unfolding_all rfl) ?_
      refine kc_ret_ok rfl (rv := some (.inl ((Int32.ofInt (-1000)) - (Int32.ofNat i)))) rfl (hQ0 h2 i hw2 hfr2 ?_)
      rw [← hf, hfo, if_pos r0]
set_option maxRecDepth 20000 in
theorem fu_dayr {g : kc_G} {d : Nat} {Q : Option kc_V → kc_H → Prop} {hB : kc_H} {l : List (Nat × List Nat)} {out : (Nat → Int32) ⊕ Nat} (hg : kc_ok g) (hd : 6 ≤ d) (hit : hB 259 13 = .inl (Int32.ofNat l.length)) (hl60 : l.length ≤ 60) (hl : ∀ (i : Nat) (q : Nat × List Nat), l[i]? = some q → kp_okI q ∧ q.1 < 9 ∧ q.2.length = ks_L (kp_sh q.1)) (hat : ∀ (i : Nat) (q : Nat × List Nat), l[i]? = some q → hB 264 i = .inl (Int32.ofNat (kp_tv q.1)) ∧ ∀ k x, q.2[k]? = some x → hB 265 (5 * i + k) = .inl (Int32.ofNat x))
    (hQ1 : ∀ (hE : kc_H) (B : Nat → Int32), kd_wt kd_ty hE → (∀ c b, ¬ c = 260 → hE c b = hB c b) → fu_B B hE → fu_BT B → out = .inl B → Q (some (.inl (Int32.ofNat l.length))) hE) (hQ0 : ∀ (hE : kc_H) (i : Nat), kd_wt kd_ty hE → (∀ c b, ¬ c = 260 → hE c b = hB c b) → out = .inr i → Q (some (.inl (Int32.ofInt (-1000) - Int32.ofNat i))) (kz_cp hE 260 0 263 0 650)) : ∀ (u i : Nat) (hh : kc_H) (B : Nat → Int32), l.length - i = u → i ≤ l.length → kd_wt kd_ty hh → (∀ c b, ¬ c = 260 → hh c b = hB c b) → fu_B B hh → fu_BT B → fu_fold (l.drop i) i B = out → kc_Ev g d wk_m71 Q 49 [(1, .inl (Int32.ofNat i)), (0, .inr (.inr (.inl (some 259))))] [] hh := by
  intro u
  induction u with
  | zero =>
    intro i hh B hu hi hw hfr hC hBT hf
    have eit : hh 259 13 = .inl (Int32.ofNat l.length) := (hfr _ _ (by omega)).trans hit
    refine kx_go 2 (pc' := 51) (L' := [(1, .inl (Int32.ofNat i)), (0, .inr (.inr (.inl (some 259))))]) (S' := [.inr (.inr (.inl (some 259))), .inl (Int32.ofNat i)]) (h' := hh) (by with_unfolding_all rfl) ?_
    refine kx_getf (c := 259) (v := .inl (Int32.ofNat l.length)) rfl (by decide) eit ?_
    refine kx_go 1 (pc' := (if kc_cnd .ge (Int32.ofNat i).toInt (Int32.ofNat l.length).toInt then 104 else 57)) (L' := [(1, .inl (Int32.ofNat i)), (0, .inr (.inr (.inl (some 259))))]) (S' := []) (h' := hh) (by with_unfolding_all rfl) ?_
    rw [if_pos ((kx_ge (by omega) (by omega)).mpr (by omega))]
    refine kx_go 1 (pc' := 105) (L' := [(1, .inl (Int32.ofNat i)), (0, .inr (.inr (.inl (some 259))))]) (S' := [.inr (.inr (.inl (some 259)))]) (h' := hh) (by with_unfolding_all rfl) ?_
    refine kx_getf (c := 259) (v := .inl (Int32.ofNat l.length)) rfl (by decide) eit ?_
    have hnil : l.drop i = [] := List.drop_eq_nil_of_le (by omega)
    rw [hnil] at hf
    exact kc_ret_ok rfl (rv := some (.inl (Int32.ofNat l.length))) rfl (hQ1 hh B hw hfr hC hBT hf.symm)
  | succ u ih =>
    intro i hh B hu hi hw hfr hC hBT hf
    have eit : hh 259 13 = .inl (Int32.ofNat l.length) := (hfr _ _ (by omega)).trans hit
    refine kx_go 2 (pc' := 51) (L' := [(1, .inl (Int32.ofNat i)), (0, .inr (.inr (.inl (some 259))))]) (S' := [.inr (.inr (.inl (some 259))), .inl (Int32.ofNat i)]) (h' := hh) (by with_unfolding_all rfl) ?_
    refine kx_getf (c := 259) (v := .inl (Int32.ofNat l.length)) rfl (by decide) eit ?_
    refine kx_go 1 (pc' := (if kc_cnd .ge (Int32.ofNat i).toInt (Int32.ofNat l.length).toInt then 104 else 57)) (L' := [(1, .inl (Int32.ofNat i)), (0, .inr (.inr (.inl (some 259))))]) (S' := []) (h' := hh) (by with_unfolding_all rfl) ?_
    rw [if_neg (fun q => by have := (kx_ge (by omega) (by omega)).mp q; omega)]
    obtain ⟨q, hq⟩ : ∃ q, l[i]? = some q := ⟨l[i]'(by omega), List.getElem?_eq_getElem (by omega)⟩
    obtain ⟨hqo, hq9, hql⟩ := hl i q hq
    obtain ⟨a1, a2⟩ := hat i q hq
    have ew : hh 264 i = .inl (Int32.ofNat (kp_tv q.1)) := (hfr _ _ (by omega)).trans a1
    have er : ∀ k, hh 265 (5 * i + k) = hB 265 (5 * i + k) := fun k => hfr _ _ (by omega)
    obtain ⟨nf, hnf⟩ : ∃ nf : Nat → Nat, ∀ k, k < 4 → hh 265 (5 * i + k) = .inl (Int32.ofNat (nf k)) ∧ nf k < 1000 := by
      have : ∀ k, ∃ v, k < 4 → hh 265 (5 * i + k) = .inl (Int32.ofNat v) ∧ v < 1000 := fun k => by
        by_cases hk : k < 4
        · obtain ⟨v, v1, v2⟩ := kx_ofg (by omega) (hw _ _ _ (km_k265 (5 * i + k) (by omega)))
          exact ⟨v, fun _ => ⟨v2, by omega⟩⟩
        · exact ⟨0, fun q => absurd q hk⟩
      exact Classical.axiomOfChoice this
    have hst : fu_step q.1 nf B = fu_step q.1 (fun k => q.2.getD k 0) B := fu_step_c hq9 (fun k hk => by
      have hk2 : k < q.2.length := by omega
      have e1 := a2 k q.2[k] (List.getElem?_eq_getElem hk2)
      have e2 := (hnf k (by have := hqo.2.1; omega)).1
      rw [er k, e1] at e2
      have e3 : Int32.ofNat q.2[k] = Int32.ofNat (nf k) := Sum.inl.inj e2
      have e4 : (Int32.ofNat q.2[k]).toInt = (Int32.ofNat (nf k)).toInt := by rw [e3]
      have e5 := hqo.2.2 q.2[k] (List.getElem_mem hk2)
      have e6 := (hnf k (by have := hqo.2.1; omega)).2
      rw [kx_ti (by omega), kx_ti (by omega)] at e4
      show nf k = q.2.getD k 0
      rw [List.getD_eq_getElem?_getD, List.getElem?_eq_getElem hk2]
      show nf k = q.2[k]
      omega)
    refine kx_go 2 (pc' := 59) (L' := [(1, .inl (Int32.ofNat i)), (0, .inr (.inr (.inl (some 259))))]) (S' := [.inl (Int32.ofNat i), .inr (.inr (.inl (some 259)))]) (h' := hh) (by with_unfolding_all rfl) ?_
    refine kc_call_rule (M2 := wk_m235) (av := [.inr (.inr (.inl (some 259))), .inl (Int32.ofNat i)]) (r := []) rfl rfl (kc_Con_le (fu_item hg hw (show i < 60 by omega) hq9 hC hBT ew hnf) hd) (fun rv h2 hq2 => ?_)
    rw [hst] at hq2
    have gd := fu_g_step (v := q.1) (n := fun k => q.2.getD k 0) hq9 hBT
    have hfo : fu_fold (q :: l.drop (i + 1)) i B = if (fu_step q.1 (fun k => q.2.getD k 0) B).1.toInt < 0 then .inr i else fu_fold (l.drop (i + 1)) (i + 1) (fu_bw (fu_step q.1 (fun k => q.2.getD k 0) B).2 B) := rfl
    generalize fu_step q.1 (fun k => q.2.getD k 0) B = S at hq2 gd hfo
    obtain ⟨rfl, hh2⟩ := hq2
    have hw2 : kd_wt kd_ty h2 := by rw [hh2]; exact fu_wt_r gd hw
    have hfr2 : ∀ c b, ¬ c = 260 → h2 c b = hB c b := fun c b hc => by rw [hh2, fu_rw_o hc]; exact hfr c b hc
    have hC2 : fu_B (fu_bw S.2 B) h2 := by rw [hh2]; exact fu_B_w hC
    have hB2 : fu_BT (fu_bw S.2 B) := fu_BT_w gd hBT
    have hdr : l.drop i = q :: l.drop (i + 1) := by
      rw [List.drop_eq_getElem_cons (show i < l.length by omega)]
      congr 1
      have := List.getElem?_eq_getElem (l := l) (i := i) (by omega)
      rw [this] at hq
      exact Option.some.inj hq
    rw [hdr] at hf
    show kc_Ev g d wk_m71 Q 62 [(1, .inl (Int32.ofNat i)), (0, .inr (.inr (.inl (some 259))))] [.inl S.1] h2
    refine kx_go 1 (pc' := (if kc_cnd .ge (S.1).toInt 0 then 98 else 65)) (L' := [(1, .inl (Int32.ofNat i)), (0, .inr (.inr (.inl (some 259))))]) (S' := []) (h' := h2) (by with_unfolding_all rfl) ?_
    rcases (show 0 ≤ S.1.toInt ∨ S.1.toInt < 0 by omega) with r0 | r0
    · rw [if_pos (kv_g0 r0)]
      refine kx_go 2 (pc' := 49) (L' := [(1, .inl ((Int32.ofNat i) + Int32.ofInt 1)), (0, .inr (.inr (.inl (some 259))))]) (S' := []) (h' := h2) (by with_unfolding_all rfl) ?_
      rw [kx_inc]
      refine ih (i + 1) h2 (fu_bw S.2 B) (by omega) (by omega) hw2 hfr2 hC2 hB2 ?_
      rw [← hf, hfo, if_neg (by omega)]
    · rw [if_neg (kv_g1 r0)]
      refine kx_go 2 (pc' := 67) (L' := [(2, .inl (Int32.ofNat 0)), (1, .inl (Int32.ofNat i)), (0, .inr (.inr (.inl (some 259))))]) (S' := []) (h' := h2) (by with_unfolding_all rfl) ?_
      have key := kz_dy2 (g := g) (d := d) (Q := Q) (h := h2) (i := i) (fun k hk => kz_int_r hw2 (by rw [(kz_k260 k hk).2.2.2]; exact (kz_k260 k hk).1)) 650 0 (by omega) (by omega) ?_
      · rw [kz_0, kz_wid hw2] at key
        exact key
      rw [kz_wid hw2]
      refine kx_go 3 (pc' := 97) (L' := [(2, .inl (Int32.ofNat 650)), (1, .inl (Int32.ofNat i)), (0, .inr (.inr (.inl (some 259))))]) (S' := [.inl ((Int32.ofInt (-1000)) - (Int32.ofNat i))]) (h' := (kz_cp h2 260 0 263 0 650)) (by with_unfolding_all rfl) ?_
      refine kc_ret_ok rfl (rv := some (.inl ((Int32.ofInt (-1000)) - (Int32.ofNat i)))) rfl (hQ0 h2 i hw2 hfr2 ?_)
      rw [← hf, hfo, if_pos r0]
end
section
-- 99.zpc
/-! ===== the day, exactly ===== -/
def fu_bv (j : Nat) : Option Nat := if j < 4 then some 0 else if j < 10 then none else if j < 46 then some 1 else if j < 58 then some 0 else none
theorem fu_bvb {j v : Nat} (h : fu_bv j = some v) : j < 58 ∧ v < 2 := by
  unfold fu_bv at h
  by_cases c1 : j < 4
  · rw [if_pos c1] at h; cases h; omega
  · rw [if_neg c1] at h
    by_cases c2 : j < 10
    · rw [if_pos c2] at h; cases h
    · rw [if_neg c2] at h
      by_cases c3 : j < 46
      · rw [if_pos c3] at h; cases h; omega
      · rw [if_neg c3] at h
        by_cases c4 : j < 58
        · rw [if_pos c4] at h; cases h; omega
        · rw [if_neg c4] at h; cases h
def fu_bl : List (Nat × Nat) := (List.range 58).filterMap fun j => (fu_bv j).map fun v => (j, v)
def fu_beg (B : Nat → Int32) : Nat → Int32 := fun j => match fu_bv j with
  | some v => Int32.ofNat v
  | none => B j
def fu_F2 : kd_F := fu_bl.map fun q => (1 + (fu_p q.1).1, (fu_p q.1).2, (0, 2147483648 + q.2, 2147483648 + q.2))
def fu_F12 : kd_F := fu_bl.map fun q => (260, q.1, (0, 2147483648 + q.2, 2147483648 + q.2))
def fu_T2 : kd_Tc := ([(3, 1, 1)], [], [(none, fu_F2, [(1, 1, 0, 3), (3, 10, 0, 5)])])
def fu_T12 : kd_Tc := ([(3, 259, 259)], [], [(none, fu_F12, [(260, 260, 0, 3), (260, 260, 10, 57)])])
theorem fu_rn2 : kd_runv kd_ty kd_x2 2 (kd_call kd_ty kd_xt (kd_ctl []) 1200 1) [] 0 fu_T2 1200 = true := by decide +kernel
theorem fu_h2 {g : kc_G} (hg : kc_ok g) : kd_holdv g 2 kd_ty 2 [] 0 fu_T2 := kd_newv hg kd_xk2 rfl rfl rfl rfl (fun h0 => kd_call_r (d0 := 0) hg kd_xt_ok (kd_ctl_r [] (fun q hq => by cases hq)) 1) fu_rn2
theorem fu_rn12 : kd_runv kd_ty kd_x12 2 (kd_call kd_ty kd_xt (kd_ctl []) 1200 0) [] 0 fu_T12 1200 = true := by decide +kernel
theorem fu_h12 {g : kc_G} (hg : kc_ok g) : kd_holdv g 1 kd_ty 12 [] 0 fu_T12 := kd_newv hg kd_xk12 rfl rfl rfl rfl (fun h0 => kd_call_r (d0 := 0) hg kd_xt_ok (kd_ctl_r [] (fun q hq => by cases hq)) 0) fu_rn12
def fu_k3 (j : Nat) : Bool := match fu_bv j with
  | some v => fu_bl.any (fun q => Nat.beq q.1 j && Nat.beq q.2 v)
  | none => !(fu_t j) || ((!(Nat.beq (1 + (fu_p j).1) 1 && Nat.blt (fu_p j).2 4) && !(Nat.ble 3 (1 + (fu_p j).1) && (Nat.ble (1 + (fu_p j).1) 10 && Nat.blt (fu_p j).2 6))) && (!(Nat.blt j 4) && !(Nat.ble 10 j && Nat.blt j 58)))
theorem fu_k3_all : ∀ j, j < 650 → fu_k3 j = true := by decide +kernel
theorem fu_mem {j v : Nat} (hj : j < 650) (h : fu_bv j = some v) : (j, v) ∈ fu_bl := by
  have k := fu_k3_all j hj
  unfold fu_k3 at k
  rw [h] at k
  obtain ⟨q, q1, q2⟩ := List.any_eq_true.mp k
  rw [Bool.and_eq_true] at q2
  have e1 := Nat.eq_of_beq_eq_true q2.1
  have e2 := Nat.eq_of_beq_eq_true q2.2
  obtain ⟨a, b⟩ := q
  simp only at e1 e2
  rw [← e1, ← e2]
  exact q1
theorem fu_bfar {j : Nat} (hj : j < 650) (ht : fu_t j = true) (h : fu_bv j = none) : ¬ (1 + (fu_p j).1 = 1 ∧ (fu_p j).2 < 4) ∧ ¬ (3 ≤ 1 + (fu_p j).1 ∧ 1 + (fu_p j).1 ≤ 10 ∧ (fu_p j).2 < 6) ∧ ¬ j < 4 ∧ ¬ (10 ≤ j ∧ j < 58) := by
  have k := fu_k3_all j hj
  unfold fu_k3 at k
  rw [h] at k
  simp only [ht, Bool.not_true, Bool.false_or, Bool.and_eq_true, Bool.not_eq_true'] at k
  obtain ⟨⟨k1, k2⟩, k3, k4⟩ := k
  refine ⟨fun q => ?_, fun q => ?_, fun q => ?_, fun q => ?_⟩
  · rw [q.1, show Nat.blt (fu_p j).2 4 = true from Nat.ble_eq_true_of_le q.2] at k1
    cases k1
  · rw [Nat.ble_eq_true_of_le q.1, Nat.ble_eq_true_of_le q.2.1, show Nat.blt (fu_p j).2 6 = true from Nat.ble_eq_true_of_le q.2.2] at k2
    cases k2
  · rw [show Nat.blt j 4 = true from Nat.ble_eq_true_of_le q] at k3
    cases k3
  · rw [Nat.ble_eq_true_of_le q.1, show Nat.blt j 58 = true from Nat.ble_eq_true_of_le q.2] at k4
    cases k4
theorem fu_memF2 {j v : Nat} (h : (j, v) ∈ fu_bl) : ((1 + (fu_p j).1, (fu_p j).2, (0, 2147483648 + v, 2147483648 + v)) : Nat × Nat × kd_V) ∈ fu_F2 := List.mem_map.mpr ⟨(j, v), h, rfl⟩
theorem fu_memF12 {j v : Nat} (h : (j, v) ∈ fu_bl) : ((260, j, (0, 2147483648 + v, 2147483648 + v)) : Nat × Nat × kd_V) ∈ fu_F12 := List.mem_map.mpr ⟨(j, v), h, rfl⟩
theorem fu_beg_c {B : Nat → Int32} {h h' : kc_H} {σ : Nat → Nat} (hC : fu_C B 1 h) (hF : kd_gF 0 σ fu_F2 h') (hfr : kd_fr [(1, 1, 0, 3), (3, 10, 0, 5)] h h') : fu_C (fu_beg B) 1 h' := fun j hj ht => by
  cases e : fu_bv j with
  | some v =>
    have k := hF _ (fu_memF2 (fu_mem hj e))
    have hv : v < 2147483648 := by have := (fu_bvb e).2; omega
    have k : h' (1 + (fu_p j).1) (fu_p j).2 = .inl (Int32.ofNat v) := kx_ofs (n := 0) (ρ := σ) (k := v) hv k
    rw [k]
    unfold fu_beg
    rw [e]
  | none =>
    obtain ⟨n1, n2, -, -⟩ := fu_bfar hj ht e
    rw [hfr _ _ (fun q hq => by
      simp only [List.mem_cons, List.not_mem_nil, or_false] at hq
      rcases hq with rfl | rfl <;> exact kb_inr (by (try dsimp only); omega)), hC j hj ht]
    unfold fu_beg
    rw [e]
theorem fu_beg_r {B : Nat → Int32} {h h' : kc_H} {σ : Nat → Nat} (hC : fu_B B h) (hF : kd_gF 0 σ fu_F12 h') (hfr : kd_fr [(260, 260, 0, 3), (260, 260, 10, 57)] h h') : fu_B (fu_beg B) h' := fun j hj ht => by
  cases e : fu_bv j with
  | some v =>
    have k := hF _ (fu_memF12 (fu_mem hj e))
    have hv : v < 2147483648 := by have := (fu_bvb e).2; omega
    have k : h' 260 j = .inl (Int32.ofNat v) := kx_ofs (n := 0) (ρ := σ) (k := v) hv k
    rw [k]
    unfold fu_beg
    rw [e]
  | none =>
    obtain ⟨-, -, n1, n2⟩ := fu_bfar hj ht e
    rw [hfr _ _ (fun q hq => by
      simp only [List.mem_cons, List.not_mem_nil, or_false] at hq
      rcases hq with rfl | rfl <;> exact kb_inr (by (try dsimp only); omega)), hC j hj ht]
    unfold fu_beg
    rw [e]
def fu_out (t : Nat → Nat) (n : Nat) (B : Nat → Int32) : Option (Nat × ((Nat → Int32) ⊕ Nat)) := match kp_its t n 9 0 61 0 with
  | none => none
  | some l => some (l.length, fu_fold l 0 (fu_beg B))
def fu_dP (B : Nat → Int32) (o : Option (Nat × ((Nat → Int32) ⊕ Nat))) (rv : Option kc_V) (B' : Nat → Int32) : Prop := match o with
  | none => (∃ s : Nat, rv = some (.inl (Int32.ofInt (-10) - Int32.ofNat s))) ∧ B' = B
  | some (k, .inl B2) => rv = some (.inl (Int32.ofNat k)) ∧ B' = B2
  | some (_, .inr i) => rv = some (.inl (Int32.ofInt (-1000) - Int32.ofNat i)) ∧ B' = B
def fu_d67 (h : kc_H) (B : Nat → Int32) (o : Option (Nat × ((Nat → Int32) ⊕ Nat))) : Option kc_V → kc_H → Prop := fun rv h' => ∃ B', fu_dP B o rv B' ∧ fu_C B' 1 h' ∧ kd_wt kd_ty h' ∧ ∀ c i, c < 1 ∨ 63 ≤ c → c < 127 ∨ 190 ≤ c → h' c i = h c i
def fu_d71 (h : kc_H) (B : Nat → Int32) (o : Option (Nat × ((Nat → Int32) ⊕ Nat))) : Option kc_V → kc_H → Prop := fun rv h' => ∃ B', fu_dP B o rv B' ∧ fu_B B' h' ∧ kd_wt kd_ty h' ∧ (∀ c i, c < 259 ∨ c = 261 ∨ c = 262 → h' c i = h c i) ∧ (B' = B → ∀ i, i < 5 → h' 260 (150 + i) = h 260 (150 + i))
theorem fu_dP0 {B : Nat → Int32} {s : Nat} {o : Option (Nat × ((Nat → Int32) ⊕ Nat))} (h : o = none) : fu_dP B o (some (.inl (Int32.ofInt (-10) - Int32.ofNat s))) B := by
  subst h
  exact ⟨⟨s, rfl⟩, rfl⟩
theorem fu_dP1 {B B2 : Nat → Int32} {k : Nat} {o : Option (Nat × ((Nat → Int32) ⊕ Nat))} (h : o = some (k, .inl B2)) : fu_dP B o (some (.inl (Int32.ofNat k))) B2 := by
  subst h
  exact ⟨rfl, rfl⟩
theorem fu_dP2 {B : Nat → Int32} {k i : Nat} {o : Option (Nat × ((Nat → Int32) ⊕ Nat))} (h : o = some (k, .inr i)) : fu_dP B o (some (.inl (Int32.ofInt (-1000) - Int32.ofNat i))) B := by
  subst h
  exact ⟨rfl, rfl⟩
theorem fu_outn {t : Nat → Nat} {n : Nat} {B : Nat → Int32} (h : kp_its t n 9 0 61 0 = none) : fu_out t n B = none := by
  unfold fu_out
  rw [h]
theorem fu_outs {t : Nat → Nat} {n : Nat} {B : Nat → Int32} {l : List (Nat × List Nat)} (h : kp_its t n 9 0 61 0 = some l) : fu_out t n B = some (l.length, fu_fold l 0 (fu_beg B)) := by
  unfold fu_out
  rw [h]
theorem fu_Ceq {B : Nat → Int32} {o : Nat} {h h' : kc_H} (e : ∀ c i, o ≤ c → c < o + 31 → h' c i = h c i) (hC : fu_C B o h) : fu_C B o h' := fun j hj ht => by
  have := (fu_qp hj (fu_te ht)).2.1
  rw [e _ _ (by omega) (by omega)]
  exact hC j hj ht
theorem fu_Req {B : Nat → Int32} {r f : Nat} {h h' : kc_H} (e : ∀ i, f ≤ i → i < f + 650 → h' r i = h r i) (hC : fu_R B r f h) : fu_R B r f h' := fun j hj ht => by
  rw [e _ (by omega) (by omega)]
  exact hC j hj ht
theorem fu_Beq {B : Nat → Int32} {h h' : kc_H} (e : ∀ i, i < 650 → h' 260 i = h 260 i) (hC : fu_B B h) : fu_B B h' := fun j hj ht => by
  rw [e _ hj]
  exact hC j hj ht
/-- a copied day -/
theorem fu_Ck {B : Nat → Int32} {a b : Nat} {h h' : kc_H} (e : ∀ k, k < 31 → ∀ i, i < kt_ln k → h' (b + k) i = h (a + k) i) (hC : fu_C B a h) : fu_C B b h' := fun j hj ht => by
  obtain ⟨-, q1, q2⟩ := fu_qp hj (fu_te ht)
  rw [e _ q1 _ q2]
  exact hC j hj ht
set_option maxRecDepth 20000 in
theorem fu_day67 {g : kc_G} {h : kc_H} {n : Nat} {t : Nat → Nat} {B : Nat → Int32} (hg : kc_ok g) (hC : fu_C B 1 h) (hw : kd_wt kd_ty h) (hn : n ≤ 240) (hb : ∀ j, j < 240 → t j < 256) (ht : ∀ j, j < 240 → h 29 j = .inl (Int32.ofNat (t j))) (ha4 : h 31 0 = .inl (Int32.ofNat n)) : kc_Con g 15 67 [.inr (.inr (.inl (some 0)))] h (fu_d67 h B (fu_out t n B)) := by
  have k0 := kx_ofr (hw _ _ _ kv_k0.1)
  have k4 := kx_ofr (hw _ _ _ kv_k0.2.2)
  obtain ⟨s0, -, es0⟩ := kx_ofg (by omega) (hw _ _ _ kv_k127.2)
  obtain ⟨q0, -, eq0⟩ := kx_ofg (by omega) (hw _ _ _ kv_k127.1)
  refine kc_Con_new hg (M := wk_m67) rfl rfl rfl (show 1 ≤ 3 by decide) ?_
  refine kx_go 1 (pc' := 1) (L' := [(0, .inr (.inr (.inl (some 0))))]) (S' := [.inr (.inr (.inl (some 0)))]) (h' := h) (by with_unfolding_all rfl) ?_
  refine kx_getf (c := 0) (v := .inr (.inr (.inl (some 127)))) rfl (by decide) k4 ?_
  refine kx_go 1 (pc' := 5) (L' := [(0, .inr (.inr (.inl (some 0))))]) (S' := [.inl (Int32.ofNat 0), .inr (.inr (.inl (some 127)))]) (h' := h) (by with_unfolding_all rfl) ?_
  refine kc_call_rule (M2 := wk_m61) (av := [.inr (.inr (.inl (some 127))), .inl (Int32.ofNat 0)]) (r := []) rfl rfl (kc_Con_le (kr_read0 (d := 0) (n := n) (t := t) hg hn hb ht (fun i hi => kx_ofr (hw _ _ _ (kr_k129 i hi))) (kx_ofr (hw _ _ _ kv_k127b)) (kx_ofr (hw _ _ _ kr_k1.1)) (kx_ofr (hw _ _ _ kr_k1.2.2.1)) (kx_ofr (hw _ _ _ kr_k1.2.1)) ha4 (kx_ofr (hw _ _ _ kr_k127.2.1)) (kx_ofr (hw _ _ _ kr_k127.2.2.1)) eq0 es0) (by decide)) (fun rv h1 hq => ?_)
  have hpost := kr_post (g := g) hw (Or.inl rfl) hn (by decide) hq
  obtain ⟨pp, pp1, -, -, hw1, hfr1⟩ := hpost
  obtain rfl := List.mem_singleton.mp pp1
  simp only at hfr1
  unfold kr_Qr at hq
  cases hk : kp_its t n 9 0 61 0 with
  | none =>
    rw [hk] at hq
    obtain ⟨hx, it2, p2, k2, s2, rfl, ⟨-, -, hs2, -, -⟩, -⟩ := hq
    show kc_Ev g 14 wk_m67 _ 8 [(0, .inr (.inr (.inl (some 0))))] [.inl (Int32.ofNat s2)] h1
    refine kx_go 4 (pc' := (if kc_cnd .eq (Int32.ofNat s2).toInt (Int32.ofInt (-1)).toInt then 19 else 14)) (L' := [(1, .inl (Int32.ofNat s2)), (0, .inr (.inr (.inl (some 0))))]) (S' := []) (h' := h1) (by with_unfolding_all rfl) ?_
    rw [if_neg (kx_nm1 (by omega))]
    refine kx_go 3 (pc' := 18) (L' := [(1, .inl (Int32.ofNat s2)), (0, .inr (.inr (.inl (some 0))))]) (S' := [.inl ((Int32.ofInt (-10)) - (Int32.ofNat s2))]) (h' := h1) (by with_unfolding_all rfl) ?_
    refine kc_ret_ok rfl (rv := some (.inl ((Int32.ofInt (-10)) - (Int32.ofNat s2)))) rfl ⟨B, fu_dP0 (fu_outn hk), fu_Ceq (fun c i c1 c2 => ?_) hC, hw1, fun c i c1 c2 => ?_⟩
    · exact hfr1 c i (fun q hq => by
        simp only [kr_W, List.mem_cons, List.not_mem_nil, or_false] at hq
        rcases hq with rfl | rfl | rfl | rfl <;> exact kb_inr (by (try dsimp only); omega))
    · exact hfr1 c i (fun q hq => by
        simp only [kr_W, List.mem_cons, List.not_mem_nil, or_false] at hq
        rcases hq with rfl | rfl | rfl | rfl <;> exact kb_inr (by (try dsimp only); omega))
  | some l =>
    rw [hk] at hq
    obtain ⟨p2, k2, s2, rfl, ⟨hp2, hk2, hs2⟩, hh1⟩ := hq
    obtain ⟨hall, hlen⟩ := kp_its_ok hn (by decide) 61 0 0 l (by omega) (by omega) hk
    show kc_Ev g 14 wk_m67 _ 8 [(0, .inr (.inr (.inl (some 0))))] [.inl (Int32.ofInt (-1))] h1
    refine kx_go 4 (pc' := (if kc_cnd .eq (Int32.ofInt (-1)).toInt (Int32.ofInt (-1)).toInt then 19 else 14)) (L' := [(1, .inl (Int32.ofInt (-1))), (0, .inr (.inr (.inl (some 0))))]) (S' := []) (h' := h1) (by with_unfolding_all rfl) ?_
    rw [if_pos kx_m1]
    have j0 := kx_ofr (hw1 _ _ _ kv_k0.1)
    have j1 := kx_ofr (hw1 _ _ _ kv_k0.2.1)
    refine kx_go 1 (pc' := 20) (L' := [(1, .inl (Int32.ofInt (-1))), (0, .inr (.inr (.inl (some 0))))]) (S' := [.inr (.inr (.inl (some 0)))]) (h' := h1) (by with_unfolding_all rfl) ?_
    refine kx_getf (c := 0) (v := .inr (.inr (.inl (some 32)))) rfl (by decide) j1 ?_
    refine kx_go 1 (pc' := 24) (L' := [(1, .inl (Int32.ofInt (-1))), (0, .inr (.inr (.inl (some 0))))]) (S' := [.inr (.inr (.inl (some 0))), .inr (.inr (.inl (some 32)))]) (h' := h1) (by with_unfolding_all rfl) ?_
    refine kx_getf (c := 0) (v := .inr (.inr (.inl (some 1)))) rfl (by decide) j0 ?_
    refine kc_call_rule (M2 := wk_m68) (av := [.inr (.inr (.inl (some 32))), .inr (.inr (.inl (some 1)))]) (r := []) rfl rfl (kc_Con_le (kt_take1_32 (d := 0) hg hw1) (by decide)) (fun rv h2 hq2 => ?_)
    obtain ⟨rfl, hh2⟩ := hq2
    have hw2 : kd_wt kd_ty h2 := by rw [hh2]; exact kt_K_wt hw1 kt_ty1_32
    have i0 := kx_ofr (hw2 _ _ _ kv_k0.1)
    show kc_Ev g 14 wk_m67 _ 30 [(1, .inl (Int32.ofInt (-1))), (0, .inr (.inr (.inl (some 0))))] [] h2
    refine kx_go 1 (pc' := 31) (L' := [(1, .inl (Int32.ofInt (-1))), (0, .inr (.inr (.inl (some 0))))]) (S' := [.inr (.inr (.inl (some 0)))]) (h' := h2) (by with_unfolding_all rfl) ?_
    refine kx_getf (c := 0) (v := .inr (.inr (.inl (some 1)))) rfl (by decide) i0 ?_
    refine kc_call_rule (M2 := wk_m2) (av := [.inr (.inr (.inl (some 1)))]) (r := []) rfl rfl (kc_Con_le (fu_h2 hg (fun _ => 0) _ h2 kv_bx0 hw2 ⟨⟨1, rfl, by decide, by decide⟩, trivial⟩ (fun q hq => by cases hq)) (by decide)) (fun rv h3 hq3 => ?_)
    obtain ⟨pp, p1, pr, pF, hw3, hfr3⟩ := hq3
    obtain rfl := List.mem_singleton.mp p1
    cases rv with
    | some y => exact pr.elim
    | none =>
      have hfr3 : kd_fr kv_W2 h2 h3 := kd_cvW_r _ (by decide) hfr3
      have near : ∀ c i, c < 127 → h1 c i = h c i := fun c i hc => hfr1 c i (fun q hq => by
        simp only [kr_W, List.mem_cons, List.not_mem_nil, or_false] at hq
        rcases hq with rfl | rfl | rfl | rfl <;> exact kb_inr (by (try dsimp only); omega))
      have hC2 : fu_C B 1 h2 := fu_Ceq (fun c i c1 c2 => by
        rw [hh2]
        unfold kt_K
        rw [if_neg (by omega)]
        exact near c i (by omega)) hC
      have hC3 : fu_C (fu_beg B) 1 h3 := fu_beg_c hC2 pF hfr3
      have hB3 : fu_BT (fu_beg B) := fu_C_T hw3 hC3
      show kc_Ev g 14 wk_m67 _ 37 [(1, .inl (Int32.ofInt (-1))), (0, .inr (.inr (.inl (some 0))))] [] h3
      refine kx_go 2 (pc' := 39) (L' := [(2, .inl (Int32.ofNat 0)), (1, .inl (Int32.ofInt (-1))), (0, .inr (.inr (.inl (some 0))))]) (S' := []) (h' := h3) (by with_unfolding_all rfl) ?_
      /- cells far from a Told: as behind the reading -/
      have far : ∀ c i, 63 ≤ c → h3 c i = h1 c i := fun c i hc => by
        rw [hfr3 c i (fun q hq => by
          simp only [kv_W2, List.mem_cons, List.not_mem_nil, or_false] at hq
          rcases hq with rfl | rfl <;> exact kb_inr (by (try dsimp only); omega)), hh2]
        unfold kt_K
        rw [if_neg (by omega)]
      have hit : h3 127 1 = .inl (Int32.ofNat l.length) := by
        rw [far 127 1 (by decide), hh1]
        rfl
      have hat : ∀ (i : Nat) (q : Nat × List Nat), l[i]? = some q → h3 128 i = .inl (Int32.ofNat q.1) ∧ ∀ k x, q.2[k]? = some x → h3 (130 + i) k = .inl (Int32.ofNat x) := fun i q hq => by
        obtain ⟨a1, a2⟩ := kr_ws_at l h 0 i q hq
        rw [Nat.zero_add] at a1 a2
        have e1 : ∀ c b, ¬ c = 127 → h1 c b = kr_ws h 0 l c b := fun c b hc => by
          rw [hh1]
          unfold kr_H kj
          rw [if_neg hc, if_neg hc]
        exact ⟨by rw [far 128 i (by decide), e1 128 i (by decide)]; exact a1, fun k x hx => by rw [far (130 + i) k (by omega), e1 (130 + i) k (by omega)]; exact a2 k x hx⟩
      /- the copy: the spare has what the day had -/
      have sp : ∀ k, k < 31 → ∀ i, i < kt_ln k → h3 (32 + k) i = h1 (1 + k) i := fun k hk i hi => by
        rw [hfr3 (32 + k) i (fun q hq => by
          simp only [kv_W2, List.mem_cons, List.not_mem_nil, or_false] at hq
          rcases hq with rfl | rfl <;> exact kb_inr (by (try dsimp only); omega)), hh2]
        unfold kt_K
        rw [show 32 + k - 32 = k from by omega, if_pos ⟨by omega, by omega, hi⟩]
      have rest : ∀ (hE : kc_H) (c i : Nat), (∀ c b, c < 1 ∨ 32 ≤ c → hE c b = h3 c b) → c < 1 ∨ 63 ≤ c → c < 127 ∨ 190 ≤ c → hE c i = h c i := fun hE c i hfrE c1 c2 => by
        rw [hfrE c i (by omega), hfr3 c i (fun q hq => by
          simp only [kv_W2, List.mem_cons, List.not_mem_nil, or_false] at hq
          rcases hq with rfl | rfl <;> exact kb_inr (by (try dsimp only); omega)), hh2]
        unfold kt_K
        rw [if_neg (by omega)]
        exact hfr1 c i (fun q hq => by
          simp only [kr_W, List.mem_cons, List.not_mem_nil, or_false] at hq
          rcases hq with rfl | rfl | rfl | rfl <;> exact kb_inr (by (try dsimp only); omega))
      refine fu_dayl (z1 := Int32.ofInt (-1)) (l := l) (hB := h3) (out := fu_fold l 0 (fu_beg B)) hg (by decide) hit (by omega) (fun i q hq => ?_) hat ?_ ?_ l.length 0 h3 (fu_beg B) (by omega) (by omega) hw3 (fun _ _ _ => rfl) hC3 hB3 ?_
      · obtain ⟨b1, -, b3, b4⟩ := hall q (List.mem_of_getElem? hq)
        exact ⟨b1, by omega, b4⟩
      · intro hE B2 hwE hfrE hCE hBE hfo
        exact ⟨B2, fu_dP1 (by rw [fu_outs hk, hfo]), hCE, hwE, fun c i c1 c2 => rest hE c i hfrE c1 c2⟩
      · intro hE i hwE hfrE hno
        have bk : ∀ k, k < 31 → ∀ i, i < kt_ln k → kt_K hE 32 1 31 (1 + k) i = h (1 + k) i := fun k hk i hi => by
          unfold kt_K
          rw [show 1 + k - 1 = k from by omega, if_pos ⟨by omega, by omega, hi⟩, hfrE (32 + k) i (by omega), sp k hk i hi, near (1 + k) i (by omega)]
        refine ⟨B, fu_dP2 (by rw [fu_outs hk, hno]), fu_Ck bk hC, kt_K_wt hwE kt_ty32_1, fun c i c1 c2 => ?_⟩
        rw [show kt_K hE 32 1 31 c i = hE c i from if_neg (by omega)]
        exact rest hE c i hfrE c1 c2
      · rw [List.drop_zero]
theorem fu_BT_beg {B : Nat → Int32} (hB : fu_BT B) : fu_BT (fu_beg B) := fun j hj ht => by
  unfold fu_beg
  cases e : fu_bv j with
  | some v =>
    have k := (show ∀ j, j < 58 → (match fu_bv j with
      | some v => Nat.ble (fu_ty j).1 (2147483648 + v) && (Nat.ble (2147483648 + v) (fu_ty j).2 && Nat.blt v 2)
      | none => true) = true from by decide +kernel) j (fu_bvb e).1
    rw [e] at k
    simp only [Bool.and_eq_true] at k
    have k3 : v < 2 := Nat.le_of_ble_eq_true k.2.2
    show (fu_ty j).1 ≤ kd_nb (Int32.ofNat v) ∧ kd_nb (Int32.ofNat v) ≤ (fu_ty j).2
    rw [kx_nb (by omega)]
    exact ⟨Nat.le_of_ble_eq_true k.1, Nat.le_of_ble_eq_true k.2.1⟩
  | none => exact hB j hj ht
set_option maxRecDepth 20000 in
theorem fu_day71 {g : kc_G} {h : kc_H} {n : Nat} {t : Nat → Nat} {B : Nat → Int32} (hg : kc_ok g) (hC : fu_B B h) (hBT : fu_BT B) (hw : kd_wt kd_ty h) (hn : n ≤ 240) (hb : ∀ j, j < 240 → t j < 256) (ht : ∀ j, j < 240 → h 260 (170 + j) = .inl (Int32.ofNat (t j))) (hnt : h 260 160 = .inl (Int32.ofNat n)) : kc_Con g 10 71 [.inr (.inr (.inl (some 259)))] h (fu_d71 h B (fu_out t n B)) := by
  obtain ⟨s0, -, es0⟩ := kx_ofg (by omega) (hw _ _ _ kv_k259.1)
  obtain ⟨q0, -, eq0⟩ := kx_ofg (by omega) (hw _ _ _ kv_k259.2.1)
  obtain ⟨v0, hv0, ev0⟩ := kx_ofg (by omega) (hw _ _ _ kv_k259.2.2)
  refine kc_Con_new hg (M := wk_m71) rfl rfl rfl (show 1 ≤ 3 by decide) ?_
  refine kx_go 2 (pc' := 2) (L' := [(0, .inr (.inr (.inl (some 259))))]) (S' := [.inl (Int32.ofNat 0), .inr (.inr (.inl (some 259)))]) (h' := h) (by with_unfolding_all rfl) ?_
  refine kc_call_rule (M2 := wk_m64) (av := [.inr (.inr (.inl (some 259))), .inl (Int32.ofNat 0)]) (r := []) rfl rfl (kc_Con_le (km_reads0 (d := 0) (n := n) (t := t) hg hn hb hnt (fun j hj => by rw [show 170 + 240 * 0 + j = 170 + j from by omega]; exact ht j hj) (by omega) (kx_ofr (hw _ _ _ kz_k.1)) es0 eq0 ev0 (kx_ofr (hw _ _ _ kv_kr.1)) (kx_ofr (hw _ _ _ kv_kr.2))) (by decide)) (fun rv h1 hq => ?_)
  have hpost := km_post hw (by decide) hn (by decide) hq
  obtain ⟨pp, pp1, -, -, hw1, hfr1⟩ := hpost
  obtain rfl := List.mem_singleton.mp pp1
  simp only at hfr1
  unfold km_Qr at hq
  have near : ∀ i, h1 260 i = h 260 i := fun i => hfr1 260 i (fun q hq => by
    simp only [km_W, List.mem_cons, List.not_mem_nil, or_false] at hq
    rcases hq with rfl | rfl | rfl | rfl <;> exact kb_inr (by (try dsimp only); omega))
  cases hk : kp_its t n 9 0 61 0 with
  | none =>
    rw [hk] at hq
    obtain ⟨hx, it2, a2, s2, k2, u2, rfl, -, -⟩ := hq
    show kc_Ev g 9 wk_m71 _ 5 [(0, .inr (.inr (.inl (some 259))))] [.inl (Int32.ofNat 0)] h1
    refine kx_go 1 (pc' := 8) (L' := [(0, .inr (.inr (.inl (some 259))))]) (S' := []) (h' := h1) (by with_unfolding_all rfl) ?_
    obtain ⟨s1, -, es1⟩ := kx_ofg (by omega) (hw1 _ _ _ kv_k259.1)
    refine kx_go 2 (pc' := 11) (L' := [(0, .inr (.inr (.inl (some 259))))]) (S' := [.inr (.inr (.inl (some 259))), .inl (Int32.ofInt (-10))]) (h' := h1) (by with_unfolding_all rfl) ?_
    refine kx_getf (c := 259) (v := .inl (Int32.ofNat s1)) rfl (by decide) es1 ?_
    refine kx_go 1 (pc' := 15) (L' := [(0, .inr (.inr (.inl (some 259))))]) (S' := [.inl ((Int32.ofInt (-10)) - (Int32.ofNat s1))]) (h' := h1) (by with_unfolding_all rfl) ?_
    refine kc_ret_ok rfl (rv := some (.inl ((Int32.ofInt (-10)) - (Int32.ofNat s1)))) rfl ⟨B, fu_dP0 (fu_outn hk), fu_Beq (fun i _ => near i) hC, hw1, fun c i hc => ?_, fun _ i _ => near _⟩
    exact hfr1 c i (fun q hq => by
      simp only [km_W, List.mem_cons, List.not_mem_nil, or_false] at hq
      rcases hq with rfl | rfl | rfl | rfl <;> exact kb_inr (by (try dsimp only); omega))
  | some l =>
    rw [hk] at hq
    obtain ⟨a2, s2, k2, u2, rfl, -, hh1⟩ := hq
    obtain ⟨hall, hlen⟩ := kp_its_ok hn (by decide) 61 0 0 l (by omega) (by omega) hk
    show kc_Ev g 9 wk_m71 _ 5 [(0, .inr (.inr (.inl (some 259))))] [.inl (Int32.ofNat 1)] h1
    refine kx_go 1 (pc' := 16) (L' := [(0, .inr (.inr (.inl (some 259))))]) (S' := []) (h' := h1) (by with_unfolding_all rfl) ?_
    refine kx_go 2 (pc' := 18) (L' := [(1, .inl (Int32.ofNat 0)), (0, .inr (.inr (.inl (some 259))))]) (S' := []) (h' := h1) (by with_unfolding_all rfl) ?_
    have key := kz_dy1 (g := g) (d := 9) (Q := fu_d71 h B (fu_out t n B)) (h := h1) (fun k hk => kz_int_r hw1 (kz_k260 k hk).1) 650 0 (by omega) (by omega) ?_
    · rw [kz_0, kz_wid hw1] at key
      exact key
    rw [kz_wid hw1]
    generalize hh2 : kz_cp h1 263 0 260 0 650 = h2
    have hw2 : kd_wt kd_ty h2 := by
      rw [← hh2]
      exact kz_cp_wt hw1 (fun j hj => by rw [Nat.zero_add, (kz_k260 j hj).2.2.2])
    refine kx_go 1 (pc' := 44) (L' := [(1, .inl (Int32.ofNat 650)), (0, .inr (.inr (.inl (some 259))))]) (S' := [.inr (.inr (.inl (some 259)))]) (h' := h2) (by with_unfolding_all rfl) ?_
    refine kc_call_rule (M2 := wk_m12) (av := [.inr (.inr (.inl (some 259)))]) (r := []) rfl rfl (kc_Con_le (fu_h12 hg (fun _ => 0) _ h2 kv_bx0 hw2 ⟨⟨259, rfl, by decide, by decide⟩, trivial⟩ (fun q hq => by cases hq)) (by decide)) (fun rv h3 hq3 => ?_)
    obtain ⟨pp, p1, pr, pF, hw3, hfr3⟩ := hq3
    obtain rfl := List.mem_singleton.mp p1
    cases rv with
    | some y => exact pr.elim
    | none =>
      have hfr3 : kd_fr kv_W12 h2 h3 := kd_cvW_r _ (by decide) hfr3
      have hC2 : fu_B B h2 := fu_Beq (fun i _ => by rw [← hh2, kz_n (by decide), near i]) hC
      have hC3 : fu_B (fu_beg B) h3 := fu_beg_r hC2 pF hfr3
      have hB3 : fu_BT (fu_beg B) := fu_BT_beg hBT
      show kc_Ev g 9 wk_m71 _ 47 [(1, .inl (Int32.ofNat 650)), (0, .inr (.inr (.inl (some 259))))] [] h3
      refine kx_go 2 (pc' := 49) (L' := [(1, .inl (Int32.ofNat 0)), (0, .inr (.inr (.inl (some 259))))]) (S' := []) (h' := h3) (by with_unfolding_all rfl) ?_
      have far3 : ∀ c i, ¬ c = 260 → h3 c i = h2 c i := fun c i hc => hfr3 c i (fun q hq => by
        simp only [kv_W12, List.mem_cons, List.not_mem_nil, or_false] at hq
        rcases hq with rfl | rfl <;> exact kb_inr (by (try dsimp only); omega))
      have far : ∀ c i, ¬ c = 260 → ¬ c = 263 → h3 c i = h1 c i := fun c i hc hc2 => by
        rw [far3 c i hc, ← hh2]
        exact kz_n hc2
      have as3 : ∀ i, i < 650 → h3 263 i = h 260 i := fun i hi => by
        rw [far3 263 i (by decide), ← hh2, ← near i]
        unfold kz_cp
        rw [if_pos ⟨rfl, by omega, by omega⟩, show 0 + (i - 0) = i from by omega]
      have hit : h3 259 13 = .inl (Int32.ofNat l.length) := by
        rw [far 259 13 (by decide) (by decide), hh1]
        rfl
      have hat : ∀ (i : Nat) (q : Nat × List Nat), l[i]? = some q → h3 264 i = .inl (Int32.ofNat (kp_tv q.1)) ∧ ∀ k x, q.2[k]? = some x → h3 265 (5 * i + k) = .inl (Int32.ofNat x) := fun i q hq => by
        obtain ⟨a1, a2⟩ := km_ns_at l h 0 i q hq (fun q hq => (hall q hq).1.2.1)
        rw [Nat.zero_add] at a1 a2
        have e1 : ∀ c b, ¬ c = 259 → h1 c b = km_ns h 0 l c b := fun c b hc => by
          rw [hh1, km_o hc, kmj_o hc]
        exact ⟨by rw [far 264 i (by decide) (by decide), e1 264 i (by decide)]; exact a1, fun k x hx => by rw [far 265 (5 * i + k) (by decide) (by decide), e1 265 (5 * i + k) (by decide)]; exact a2 k x hx⟩
      have rest : ∀ (hE : kc_H) (c i : Nat), (∀ c b, ¬ c = 260 → hE c b = h3 c b) → c < 259 ∨ c = 261 ∨ c = 262 → hE c i = h c i := fun hE c i hfrE hc => by
        rw [hfrE c i (by omega), far c i (by omega) (by omega)]
        exact hfr1 c i (fun q hq => by
          simp only [km_W, List.mem_cons, List.not_mem_nil, or_false] at hq
          rcases hq with rfl | rfl | rfl | rfl <;> exact kb_inr (by (try dsimp only); omega))
      refine kf_lo (L := [(1, .inl (Int32.ofNat 0)), (0, .inr (.inr (.inl (some 259))))]) (by intro q hq; simp only [List.mem_cons, List.not_mem_nil, or_false] at hq; rcases hq with rfl | rfl <;> rfl) ?_
      refine fu_dayr (l := l) (hB := h3) (out := fu_fold l 0 (fu_beg B)) hg (by decide) hit (by omega) (fun i q hq => ?_) hat ?_ ?_ l.length 0 h3 (fu_beg B) (by omega) (by omega) hw3 (fun _ _ _ => rfl) hC3 hB3 ?_
      · obtain ⟨b1, -, b3, b4⟩ := hall q (List.mem_of_getElem? hq)
        exact ⟨b1, by omega, b4⟩
      · intro hE B2 hwE hfrE hCE hBE hfo
        refine ⟨B2, fu_dP1 (by rw [fu_outs hk, hfo]), hCE, hwE, fun c i hc => rest hE c i hfrE hc, fun e i hi => ?_⟩
        rw [hCE (150 + i) (by omega) (fu_fli i hi).2.1, hC (150 + i) (by omega) (fu_fli i hi).2.1, e]
      · intro hE i hwE hfrE hno
        have bk : ∀ i, i < 650 → kz_cp hE 260 0 263 0 650 260 i = h 260 i := fun i hi => by
          unfold kz_cp
          rw [if_pos ⟨rfl, by omega, by omega⟩, show 0 + (i - 0) = i from by omega, hfrE 263 i (by decide), as3 i hi]
        refine ⟨B, fu_dP2 (by rw [fu_outs hk, hno]), fu_Beq bk hC, kz_cp_wt hwE (fun j hj => by rw [Nat.zero_add, (kz_k260 j hj).2.2.2]), fun c i hc => ?_, fun _ i hi => bk _ (by omega)⟩
        rw [kz_n (by omega)]
        exact rest hE c i hfrE hc
      · rw [List.drop_zero]
end
