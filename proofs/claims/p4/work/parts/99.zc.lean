/-! ===== the day: an item told, class ===== -/
/-- what an item does to the counts and the fords; nothing: it is refused -/
def kv_step (v : Nat) (n : Nat → Nat) (D M L : Nat) (f : Nat → Nat) : Option (Nat × Nat × Nat × (Nat → Nat)) := match v with
  | 0 => if 1 ≤ n 0 ∧ n 0 ≤ 999 ∧ n 1 ≤ 99 ∧ n 2 ≤ 99 ∧ M < 3 then some (D, M + 1, L, f) else none
  | 1 => if 1 ≤ n 0 ∧ n 0 ≤ 99 ∧ n 1 ≤ 1 ∧ n 2 ≤ D ∧ n 3 ≤ D ∧ ¬ n 2 = n 3 ∧ L < 10 then some (D, M, L + 1, f) else none
  | 2 => if D < 5 then some (D + 1, M, L, f) else none
  | 3 => if n 0 ≤ D ∧ n 1 ≤ D ∧ 1 ≤ n 2 ∧ n 2 ≤ 99 ∧ ¬ n 0 = n 1 then some (D, M, L, f) else none
  | 4 => if n 0 < M ∧ n 1 ≤ 1 ∧ n 2 ≤ 999 then some (D, M, L, f) else none
  | 5 => if 1 ≤ n 0 ∧ n 0 ≤ D ∧ f (n 0) = 0 then some (D, M, L, fun i => if i = n 0 then 1 else f i) else none
  | 6 => if n 0 < L ∧ n 1 ≤ 100 then some (D, M, L, f) else none
  | 7 => if n 0 < L ∧ n 1 ≤ 9 then some (D, M, L, f) else none
  | _ => if n 0 ≤ D ∧ n 1 ≤ 9 then some (D, M, L, f) else none
theorem kv_ar : ks_L (kp_sh 0) = 3 ∧ ks_L (kp_sh 1) = 4 ∧ ks_L (kp_sh 2) = 0 ∧ ks_L (kp_sh 3) = 3 ∧ ks_L (kp_sh 4) = 3 ∧ ks_L (kp_sh 5) = 1 ∧ ks_L (kp_sh 6) = 2 ∧ ks_L (kp_sh 7) = 2 ∧ ks_L (kp_sh 8) = 2 := by decide +kernel
theorem kv_step_c {v : Nat} {n n' : Nat → Nat} {D M L : Nat} {f : Nat → Nat} (hv : v < 9) (h : ∀ k, k < ks_L (kp_sh v) → n k = n' k) : kv_step v n D M L f = kv_step v n' D M L f := by
  obtain ⟨a0, a1, a2, a3, a4, a5, a6, a7, a8⟩ := kv_ar
  rcases (show v = 0 ∨ v = 1 ∨ v = 2 ∨ v = 3 ∨ v = 4 ∨ v = 5 ∨ v = 6 ∨ v = 7 ∨ v = 8 by omega) with rfl | rfl | rfl | rfl | rfl | rfl | rfl | rfl | rfl
  · unfold kv_step; rw [h 0 (by omega), h 1 (by omega), h 2 (by omega)]; all_goals rfl
  · unfold kv_step; rw [h 0 (by omega), h 1 (by omega), h 2 (by omega), h 3 (by omega)]; all_goals rfl
  · rfl
  · unfold kv_step; rw [h 0 (by omega), h 1 (by omega), h 2 (by omega)]; all_goals rfl
  · unfold kv_step; rw [h 0 (by omega), h 1 (by omega), h 2 (by omega)]; all_goals rfl
  · unfold kv_step; rw [h 0 (by omega)]; all_goals rfl
  · unfold kv_step; rw [h 0 (by omega), h 1 (by omega)]; all_goals rfl
  · unfold kv_step; rw [h 0 (by omega), h 1 (by omega)]; all_goals rfl
  · unfold kv_step; rw [h 0 (by omega), h 1 (by omega)]; all_goals rfl
def kv_fold : List (Nat × List Nat) → Nat → Nat → Nat → (Nat → Nat) → Option (Nat × Nat × Nat × (Nat → Nat))
  | [], D, M, L, f => some (D, M, L, f)
  | q :: l, D, M, L, f => match kv_step q.1 (fun k => q.2.getD k 0) D M L f with
    | some s => kv_fold l s.1 s.2.1 s.2.2.1 s.2.2.2
    | none => none
def kv_Cs (h : kc_H) (D M L : Nat) (f : Nat → Nat) : Prop := kv_C h D M L ∧ ∀ i, i < 6 → f i ≤ 1 ∧ h 9 i = .inl (Int32.ofNat (f i))
def kv_Rs (h : kc_H) (D M L : Nat) (f : Nat → Nat) : Prop := kv_R h D M L ∧ ∀ i, i < 6 → f i ≤ 1 ∧ h 260 (46 + i) = .inl (Int32.ofNat (f i))
def kv_WC : kd_W := [(1, 1, 0, 2), (3, 8, 0, 5), (9, 10, 0, 5), (12, 14, 0, 4), (16, 25, 0, 6)]
def kv_WR : kd_W := [(260, 260, 0, 2), (260, 260, 10, 149)]
def kv_Pc (h : kc_H) (o : Option (Nat × Nat × Nat × (Nat → Nat))) : Option kc_V → kc_H → Prop := fun rv h' => ∃ r : Int32, rv = some (.inl r) ∧ kd_wt kd_ty h' ∧ kd_fr kv_WC h h' ∧ ((∃ D M L f, o = some (D, M, L, f) ∧ 0 ≤ r.toInt ∧ kv_Cs h' D M L f) ∨ (o = none ∧ r.toInt < 0))
def kv_Pr (h : kc_H) (o : Option (Nat × Nat × Nat × (Nat → Nat))) : Option kc_V → kc_H → Prop := fun rv h' => ∃ r : Int32, rv = some (.inl r) ∧ kd_wt kd_ty h' ∧ kd_fr kv_WR h h' ∧ ((∃ D M L f, o = some (D, M, L, f) ∧ 0 ≤ r.toInt ∧ kv_Rs h' D M L f) ∨ (o = none ∧ r.toInt < 0))
theorem kv_fr1 {W : kd_W} {h h' : kc_H} (hfr : kd_fr W h h') {c i : Nat} (hx : (W.all fun q => !kd_inr c q.1 q.2.1 i q.2.2.1 q.2.2.2) = true) : h' c i = h c i := hfr c i (fun q hq => by
  have := List.all_eq_true.mp hx q hq
  cases e : kd_inr c q.1 q.2.1 i q.2.2.1 q.2.2.2 with
  | false => rfl
  | true => rw [e] at this; cases this)
theorem kv_fr0 {W : kd_W} {h : kc_H} : kd_fr W h h := fun _ _ _ => rfl
theorem kv_fr_tr {W : kd_W} {h h1 h2 : kc_H} (a : kd_fr W h h1) (b : kd_fr W h1 h2) : kd_fr W h h2 := fun c i hq => (b c i hq).trans (a c i hq)
theorem kv_g0 {r : Int32} (h : 0 ≤ r.toInt) : kc_cnd .ge r.toInt 0 = true := by
  unfold kc_cnd
  simp only [Bool.not_eq_true', decide_eq_false_iff_not]
  omega
theorem kv_g1 {r : Int32} (h : r.toInt < 0) : ¬ kc_cnd .ge r.toInt 0 = true := by
  unfold kc_cnd
  simp only [Bool.not_eq_true', decide_eq_false_iff_not]
  omega
set_option maxRecDepth 20000 in
theorem kv_tell0 {g : kc_G} {h : kc_H} {i D M L : Nat} {f n : Nat → Nat} (hg : kc_ok g) (hw : kd_wt kd_ty h) (hi : i < 60) (hC : kv_Cs h D M L f) (en : ∀ k, k < 4 → h (130 + i) k = .inl (Int32.ofNat (n k)) ∧ n k < 1000) : kc_Con g 6 181 [.inr (.inr (.inl (some 1))), .inl (Int32.ofNat 0), .inr (.inr (.inl (some (130 + i))))] h (kv_Pc h (kv_step 0 n D M L f)) := by
  obtain ⟨hC, ef⟩ := hC
  obtain ⟨hD, hM, hL, eD, eM, eL⟩ := hC
  have hC : kv_C h D M L := ⟨hD, hM, hL, eD, eM, eL⟩
  obtain ⟨en0, nb0⟩ := en 0 (by omega)
  have t0 : (Int32.ofNat (n 0)).toInt = n 0 := kx_ti (by omega)
  obtain ⟨en1, nb1⟩ := en 1 (by omega)
  have t1 : (Int32.ofNat (n 1)).toInt = n 1 := kx_ti (by omega)
  obtain ⟨en2, nb2⟩ := en 2 (by omega)
  have t2 : (Int32.ofNat (n 2)).toInt = n 2 := kx_ti (by omega)
  refine kc_Con_new hg (M := wk_m181) rfl rfl rfl (show 3 ≤ 3 by decide) ?_
  refine kx_go 2 (pc' := 52) (L' := [(0, .inr (.inr (.inl (some 1)))), (1, .inl (Int32.ofNat 0)), (2, .inr (.inr (.inl (some (130 + i)))))]) (S' := []) (h' := h) (by with_unfolding_all rfl) ?_
  refine kx_go 3 (pc' := 55) (L' := [(0, .inr (.inr (.inl (some 1)))), (1, .inl (Int32.ofNat 0)), (2, .inr (.inr (.inl (some (130 + i)))))]) (S' := [.inl (Int32.ofNat 0), .inr (.inr (.inl (some (130 + i)))), .inr (.inr (.inl (some 1)))]) (h' := h) (by with_unfolding_all rfl) ?_
  refine kx_iald rfl (c := 130 + i) (j := 0) (m := 4) (v := .inl (Int32.ofNat (n 0))) (kr_rows i hi).1 (kr_rows i hi).2 (by decide) (by decide) en0 ?_
  refine kx_go 2 (pc' := 58) (L' := [(0, .inr (.inr (.inl (some 1)))), (1, .inl (Int32.ofNat 0)), (2, .inr (.inr (.inl (some (130 + i)))))]) (S' := [.inl (Int32.ofNat 1), .inr (.inr (.inl (some (130 + i)))), .inl (Int32.ofNat (n 0)), .inr (.inr (.inl (some 1)))]) (h' := h) (by with_unfolding_all rfl) ?_
  refine kx_iald rfl (c := 130 + i) (j := 1) (m := 4) (v := .inl (Int32.ofNat (n 1))) (kr_rows i hi).1 (kr_rows i hi).2 (by decide) (by decide) en1 ?_
  refine kx_go 2 (pc' := 61) (L' := [(0, .inr (.inr (.inl (some 1)))), (1, .inl (Int32.ofNat 0)), (2, .inr (.inr (.inl (some (130 + i)))))]) (S' := [.inl (Int32.ofNat 2), .inr (.inr (.inl (some (130 + i)))), .inl (Int32.ofNat (n 1)), .inl (Int32.ofNat (n 0)), .inr (.inr (.inl (some 1)))]) (h' := h) (by with_unfolding_all rfl) ?_
  refine kx_iald rfl (c := 130 + i) (j := 2) (m := 4) (v := .inl (Int32.ofNat (n 2))) (kr_rows i hi).1 (kr_rows i hi).2 (by decide) (by decide) en2 ?_
  refine kc_call_rule (M2 := wk_m33) (av := [.inr (.inr (.inl (some 1))), .inl (Int32.ofNat (n 0)), .inl (Int32.ofNat (n 1)), .inl (Int32.ofNat (n 2))]) (r := []) rfl rfl (kc_Con_le (kv_cmule hg hw hC) (by decide)) (fun rv h' hq => ?_)
  obtain ⟨r, rfl, hw2, hfr, hq⟩ := hq
  refine kc_ret_ok rfl (rv := some (.inl r)) rfl ⟨r, rfl, hw2, ?_, ?_⟩
  · exact kd_cvW_r [(1, 1, 1, 1), (12, 14, 0, 4)] (by decide) hfr
  · rcases hq with ⟨k, r0, e1⟩ | ⟨k, r0, rfl⟩
    · refine Or.inl ⟨D, M + 1, L, f, if_pos (by omega), r0, ⟨by omega, by omega, by omega, ?_, ?_, ?_⟩, fun i hi => ?_⟩
      · exact (kv_fr1 hfr (by decide)).trans eD
      · exact e1
      · exact (kv_fr1 hfr (by decide)).trans eL
      · exact ⟨(ef i hi).1, (kv_fr1 hfr ((show ∀ i, i < 6 → (([(1, 1, 1, 1), (12, 14, 0, 4)] : kd_W).all fun q => !kd_inr 9 q.1 q.2.1 i q.2.2.1 q.2.2.2) = true from by decide) i hi)).trans (ef i hi).2⟩
    · exact Or.inr ⟨if_neg (by omega), r0⟩
set_option maxRecDepth 20000 in
theorem kv_tell1 {g : kc_G} {h : kc_H} {i D M L : Nat} {f n : Nat → Nat} (hg : kc_ok g) (hw : kd_wt kd_ty h) (hi : i < 60) (hC : kv_Cs h D M L f) (en : ∀ k, k < 4 → h (130 + i) k = .inl (Int32.ofNat (n k)) ∧ n k < 1000) : kc_Con g 6 181 [.inr (.inr (.inl (some 1))), .inl (Int32.ofNat 1), .inr (.inr (.inl (some (130 + i))))] h (kv_Pc h (kv_step 1 n D M L f)) := by
  obtain ⟨hC, ef⟩ := hC
  obtain ⟨hD, hM, hL, eD, eM, eL⟩ := hC
  have hC : kv_C h D M L := ⟨hD, hM, hL, eD, eM, eL⟩
  obtain ⟨en0, nb0⟩ := en 0 (by omega)
  have t0 : (Int32.ofNat (n 0)).toInt = n 0 := kx_ti (by omega)
  obtain ⟨en1, nb1⟩ := en 1 (by omega)
  have t1 : (Int32.ofNat (n 1)).toInt = n 1 := kx_ti (by omega)
  obtain ⟨en2, nb2⟩ := en 2 (by omega)
  have t2 : (Int32.ofNat (n 2)).toInt = n 2 := kx_ti (by omega)
  obtain ⟨en3, nb3⟩ := en 3 (by omega)
  have t3 : (Int32.ofNat (n 3)).toInt = n 3 := kx_ti (by omega)
  refine kc_Con_new hg (M := wk_m181) rfl rfl rfl (show 3 ≤ 3 by decide) ?_
  refine kx_go 2 (pc' := 66) (L' := [(0, .inr (.inr (.inl (some 1)))), (1, .inl (Int32.ofNat 1)), (2, .inr (.inr (.inl (some (130 + i)))))]) (S' := []) (h' := h) (by with_unfolding_all rfl) ?_
  refine kx_go 3 (pc' := 69) (L' := [(0, .inr (.inr (.inl (some 1)))), (1, .inl (Int32.ofNat 1)), (2, .inr (.inr (.inl (some (130 + i)))))]) (S' := [.inl (Int32.ofNat 0), .inr (.inr (.inl (some (130 + i)))), .inr (.inr (.inl (some 1)))]) (h' := h) (by with_unfolding_all rfl) ?_
  refine kx_iald rfl (c := 130 + i) (j := 0) (m := 4) (v := .inl (Int32.ofNat (n 0))) (kr_rows i hi).1 (kr_rows i hi).2 (by decide) (by decide) en0 ?_
  refine kx_go 2 (pc' := 72) (L' := [(0, .inr (.inr (.inl (some 1)))), (1, .inl (Int32.ofNat 1)), (2, .inr (.inr (.inl (some (130 + i)))))]) (S' := [.inl (Int32.ofNat 1), .inr (.inr (.inl (some (130 + i)))), .inl (Int32.ofNat (n 0)), .inr (.inr (.inl (some 1)))]) (h' := h) (by with_unfolding_all rfl) ?_
  refine kx_iald rfl (c := 130 + i) (j := 1) (m := 4) (v := .inl (Int32.ofNat (n 1))) (kr_rows i hi).1 (kr_rows i hi).2 (by decide) (by decide) en1 ?_
  refine kx_go 2 (pc' := 75) (L' := [(0, .inr (.inr (.inl (some 1)))), (1, .inl (Int32.ofNat 1)), (2, .inr (.inr (.inl (some (130 + i)))))]) (S' := [.inl (Int32.ofNat 2), .inr (.inr (.inl (some (130 + i)))), .inl (Int32.ofNat (n 1)), .inl (Int32.ofNat (n 0)), .inr (.inr (.inl (some 1)))]) (h' := h) (by with_unfolding_all rfl) ?_
  refine kx_iald rfl (c := 130 + i) (j := 2) (m := 4) (v := .inl (Int32.ofNat (n 2))) (kr_rows i hi).1 (kr_rows i hi).2 (by decide) (by decide) en2 ?_
  refine kx_go 2 (pc' := 78) (L' := [(0, .inr (.inr (.inl (some 1)))), (1, .inl (Int32.ofNat 1)), (2, .inr (.inr (.inl (some (130 + i)))))]) (S' := [.inl (Int32.ofNat 3), .inr (.inr (.inl (some (130 + i)))), .inl (Int32.ofNat (n 2)), .inl (Int32.ofNat (n 1)), .inl (Int32.ofNat (n 0)), .inr (.inr (.inl (some 1)))]) (h' := h) (by with_unfolding_all rfl) ?_
  refine kx_iald rfl (c := 130 + i) (j := 3) (m := 4) (v := .inl (Int32.ofNat (n 3))) (kr_rows i hi).1 (kr_rows i hi).2 (by decide) (by decide) en3 ?_
  refine kc_call_rule (M2 := wk_m42) (av := [.inr (.inr (.inl (some 1))), .inl (Int32.ofNat (n 0)), .inl (Int32.ofNat (n 1)), .inl (Int32.ofNat (n 2)), .inl (Int32.ofNat (n 3))]) (r := []) rfl rfl (kc_Con_le (kv_cload hg hw hC) (by decide)) (fun rv h' hq => ?_)
  obtain ⟨r, rfl, hw2, hfr, hq⟩ := hq
  refine kc_ret_ok rfl (rv := some (.inl r)) rfl ⟨r, rfl, hw2, ?_, ?_⟩
  · exact kd_cvW_r [(1, 1, 2, 2), (16, 25, 0, 6)] (by decide) hfr
  · rcases hq with ⟨k, r0, e1⟩ | ⟨k, r0, rfl⟩
    · refine Or.inl ⟨D, M, L + 1, f, if_pos (by omega), r0, ⟨by omega, by omega, by omega, ?_, ?_, ?_⟩, fun i hi => ?_⟩
      · exact (kv_fr1 hfr (by decide)).trans eD
      · exact (kv_fr1 hfr (by decide)).trans eM
      · exact e1
      · exact ⟨(ef i hi).1, (kv_fr1 hfr ((show ∀ i, i < 6 → (([(1, 1, 2, 2), (16, 25, 0, 6)] : kd_W).all fun q => !kd_inr 9 q.1 q.2.1 i q.2.2.1 q.2.2.2) = true from by decide) i hi)).trans (ef i hi).2⟩
    · exact Or.inr ⟨if_neg (by omega), r0⟩
set_option maxRecDepth 20000 in
theorem kv_tell2 {g : kc_G} {h : kc_H} {i D M L : Nat} {f n : Nat → Nat} (hg : kc_ok g) (hw : kd_wt kd_ty h) (hi : i < 60) (hC : kv_Cs h D M L f) (en : ∀ k, k < 4 → h (130 + i) k = .inl (Int32.ofNat (n k)) ∧ n k < 1000) : kc_Con g 6 181 [.inr (.inr (.inl (some 1))), .inl (Int32.ofNat 2), .inr (.inr (.inl (some (130 + i))))] h (kv_Pc h (kv_step 2 n D M L f)) := by
  obtain ⟨hC, ef⟩ := hC
  obtain ⟨hD, hM, hL, eD, eM, eL⟩ := hC
  have hC : kv_C h D M L := ⟨hD, hM, hL, eD, eM, eL⟩
  refine kc_Con_new hg (M := wk_m181) rfl rfl rfl (show 3 ≤ 3 by decide) ?_
  refine kx_go 2 (pc' := 83) (L' := [(0, .inr (.inr (.inl (some 1)))), (1, .inl (Int32.ofNat 2)), (2, .inr (.inr (.inl (some (130 + i)))))]) (S' := []) (h' := h) (by with_unfolding_all rfl) ?_
  refine kx_go 1 (pc' := 84) (L' := [(0, .inr (.inr (.inl (some 1)))), (1, .inl (Int32.ofNat 2)), (2, .inr (.inr (.inl (some (130 + i)))))]) (S' := [.inr (.inr (.inl (some 1)))]) (h' := h) (by with_unfolding_all rfl) ?_
  refine kc_call_rule (M2 := wk_m14) (av := [.inr (.inr (.inl (some 1)))]) (r := []) rfl rfl (kc_Con_le (kv_cdoor hg hw hC) (by decide)) (fun rv h' hq => ?_)
  obtain ⟨r, rfl, hw2, hfr, hq⟩ := hq
  refine kc_ret_ok rfl (rv := some (.inl r)) rfl ⟨r, rfl, hw2, ?_, ?_⟩
  · exact kd_cvW_r [(1, 1, 0, 0)] (by decide) hfr
  · rcases hq with ⟨k, rfl, e1⟩ | ⟨k, rfl, rfl⟩
    · refine Or.inl ⟨D + 1, M, L, f, if_pos (by omega), (by rw [kx_ti (by omega)]; omega), ⟨by omega, by omega, by omega, ?_, ?_, ?_⟩, fun i hi => ?_⟩
      · exact e1
      · exact (kv_fr1 hfr (by decide)).trans eM
      · exact (kv_fr1 hfr (by decide)).trans eL
      · exact ⟨(ef i hi).1, (kv_fr1 hfr ((show ∀ i, i < 6 → (([(1, 1, 0, 0)] : kd_W).all fun q => !kd_inr 9 q.1 q.2.1 i q.2.2.1 q.2.2.2) = true from by decide) i hi)).trans (ef i hi).2⟩
    · exact Or.inr ⟨if_neg (by omega), by decide⟩
set_option maxRecDepth 20000 in
theorem kv_tell3 {g : kc_G} {h : kc_H} {i D M L : Nat} {f n : Nat → Nat} (hg : kc_ok g) (hw : kd_wt kd_ty h) (hi : i < 60) (hC : kv_Cs h D M L f) (en : ∀ k, k < 4 → h (130 + i) k = .inl (Int32.ofNat (n k)) ∧ n k < 1000) : kc_Con g 6 181 [.inr (.inr (.inl (some 1))), .inl (Int32.ofNat 3), .inr (.inr (.inl (some (130 + i))))] h (kv_Pc h (kv_step 3 n D M L f)) := by
  obtain ⟨hC, ef⟩ := hC
  obtain ⟨hD, hM, hL, eD, eM, eL⟩ := hC
  have hC : kv_C h D M L := ⟨hD, hM, hL, eD, eM, eL⟩
  obtain ⟨en0, nb0⟩ := en 0 (by omega)
  have t0 : (Int32.ofNat (n 0)).toInt = n 0 := kx_ti (by omega)
  obtain ⟨en1, nb1⟩ := en 1 (by omega)
  have t1 : (Int32.ofNat (n 1)).toInt = n 1 := kx_ti (by omega)
  obtain ⟨en2, nb2⟩ := en 2 (by omega)
  have t2 : (Int32.ofNat (n 2)).toInt = n 2 := kx_ti (by omega)
  refine kc_Con_new hg (M := wk_m181) rfl rfl rfl (show 3 ≤ 3 by decide) ?_
  refine kx_go 2 (pc' := 88) (L' := [(0, .inr (.inr (.inl (some 1)))), (1, .inl (Int32.ofNat 3)), (2, .inr (.inr (.inl (some (130 + i)))))]) (S' := []) (h' := h) (by with_unfolding_all rfl) ?_
  refine kx_go 3 (pc' := 91) (L' := [(0, .inr (.inr (.inl (some 1)))), (1, .inl (Int32.ofNat 3)), (2, .inr (.inr (.inl (some (130 + i)))))]) (S' := [.inl (Int32.ofNat 0), .inr (.inr (.inl (some (130 + i)))), .inr (.inr (.inl (some 1)))]) (h' := h) (by with_unfolding_all rfl) ?_
  refine kx_iald rfl (c := 130 + i) (j := 0) (m := 4) (v := .inl (Int32.ofNat (n 0))) (kr_rows i hi).1 (kr_rows i hi).2 (by decide) (by decide) en0 ?_
  refine kx_go 2 (pc' := 94) (L' := [(0, .inr (.inr (.inl (some 1)))), (1, .inl (Int32.ofNat 3)), (2, .inr (.inr (.inl (some (130 + i)))))]) (S' := [.inl (Int32.ofNat 1), .inr (.inr (.inl (some (130 + i)))), .inl (Int32.ofNat (n 0)), .inr (.inr (.inl (some 1)))]) (h' := h) (by with_unfolding_all rfl) ?_
  refine kx_iald rfl (c := 130 + i) (j := 1) (m := 4) (v := .inl (Int32.ofNat (n 1))) (kr_rows i hi).1 (kr_rows i hi).2 (by decide) (by decide) en1 ?_
  refine kx_go 2 (pc' := 97) (L' := [(0, .inr (.inr (.inl (some 1)))), (1, .inl (Int32.ofNat 3)), (2, .inr (.inr (.inl (some (130 + i)))))]) (S' := [.inl (Int32.ofNat 2), .inr (.inr (.inl (some (130 + i)))), .inl (Int32.ofNat (n 1)), .inl (Int32.ofNat (n 0)), .inr (.inr (.inl (some 1)))]) (h' := h) (by with_unfolding_all rfl) ?_
  refine kx_iald rfl (c := 130 + i) (j := 2) (m := 4) (v := .inl (Int32.ofNat (n 2))) (kr_rows i hi).1 (kr_rows i hi).2 (by decide) (by decide) en2 ?_
  refine kc_call_rule (M2 := wk_m17) (av := [.inr (.inr (.inl (some 1))), .inl (Int32.ofNat (n 0)), .inl (Int32.ofNat (n 1)), .inl (Int32.ofNat (n 2))]) (r := []) rfl rfl (kc_Con_le (kv_cway hg hw hC) (by decide)) (fun rv h' hq => ?_)
  obtain ⟨r, rfl, hw2, hfr, hq⟩ := hq
  refine kc_ret_ok rfl (rv := some (.inl r)) rfl ⟨r, rfl, hw2, ?_, ?_⟩
  · exact kd_cvW_r [(3, 8, 0, 5)] (by decide) hfr
  · rcases hq with ⟨k, r0⟩ | ⟨k, r0, rfl⟩
    · refine Or.inl ⟨D, M, L, f, if_pos (by omega), r0, ⟨by omega, by omega, by omega, ?_, ?_, ?_⟩, fun i hi => ?_⟩
      · exact (kv_fr1 hfr (by decide)).trans eD
      · exact (kv_fr1 hfr (by decide)).trans eM
      · exact (kv_fr1 hfr (by decide)).trans eL
      · exact ⟨(ef i hi).1, (kv_fr1 hfr ((show ∀ i, i < 6 → (([(3, 8, 0, 5)] : kd_W).all fun q => !kd_inr 9 q.1 q.2.1 i q.2.2.1 q.2.2.2) = true from by decide) i hi)).trans (ef i hi).2⟩
    · exact Or.inr ⟨if_neg (by omega), r0⟩
set_option maxRecDepth 20000 in
theorem kv_tell4 {g : kc_G} {h : kc_H} {i D M L : Nat} {f n : Nat → Nat} (hg : kc_ok g) (hw : kd_wt kd_ty h) (hi : i < 60) (hC : kv_Cs h D M L f) (en : ∀ k, k < 4 → h (130 + i) k = .inl (Int32.ofNat (n k)) ∧ n k < 1000) : kc_Con g 6 181 [.inr (.inr (.inl (some 1))), .inl (Int32.ofNat 4), .inr (.inr (.inl (some (130 + i))))] h (kv_Pc h (kv_step 4 n D M L f)) := by
  obtain ⟨hC, ef⟩ := hC
  obtain ⟨hD, hM, hL, eD, eM, eL⟩ := hC
  have hC : kv_C h D M L := ⟨hD, hM, hL, eD, eM, eL⟩
  obtain ⟨en0, nb0⟩ := en 0 (by omega)
  have t0 : (Int32.ofNat (n 0)).toInt = n 0 := kx_ti (by omega)
  obtain ⟨en1, nb1⟩ := en 1 (by omega)
  have t1 : (Int32.ofNat (n 1)).toInt = n 1 := kx_ti (by omega)
  obtain ⟨en2, nb2⟩ := en 2 (by omega)
  have t2 : (Int32.ofNat (n 2)).toInt = n 2 := kx_ti (by omega)
  refine kc_Con_new hg (M := wk_m181) rfl rfl rfl (show 3 ≤ 3 by decide) ?_
  refine kx_go 2 (pc' := 102) (L' := [(0, .inr (.inr (.inl (some 1)))), (1, .inl (Int32.ofNat 4)), (2, .inr (.inr (.inl (some (130 + i)))))]) (S' := []) (h' := h) (by with_unfolding_all rfl) ?_
  refine kx_go 3 (pc' := 105) (L' := [(0, .inr (.inr (.inl (some 1)))), (1, .inl (Int32.ofNat 4)), (2, .inr (.inr (.inl (some (130 + i)))))]) (S' := [.inl (Int32.ofNat 0), .inr (.inr (.inl (some (130 + i)))), .inr (.inr (.inl (some 1)))]) (h' := h) (by with_unfolding_all rfl) ?_
  refine kx_iald rfl (c := 130 + i) (j := 0) (m := 4) (v := .inl (Int32.ofNat (n 0))) (kr_rows i hi).1 (kr_rows i hi).2 (by decide) (by decide) en0 ?_
  refine kx_go 2 (pc' := 108) (L' := [(0, .inr (.inr (.inl (some 1)))), (1, .inl (Int32.ofNat 4)), (2, .inr (.inr (.inl (some (130 + i)))))]) (S' := [.inl (Int32.ofNat 1), .inr (.inr (.inl (some (130 + i)))), .inl (Int32.ofNat (n 0)), .inr (.inr (.inl (some 1)))]) (h' := h) (by with_unfolding_all rfl) ?_
  refine kx_iald rfl (c := 130 + i) (j := 1) (m := 4) (v := .inl (Int32.ofNat (n 1))) (kr_rows i hi).1 (kr_rows i hi).2 (by decide) (by decide) en1 ?_
  refine kx_go 2 (pc' := 111) (L' := [(0, .inr (.inr (.inl (some 1)))), (1, .inl (Int32.ofNat 4)), (2, .inr (.inr (.inl (some (130 + i)))))]) (S' := [.inl (Int32.ofNat 2), .inr (.inr (.inl (some (130 + i)))), .inl (Int32.ofNat (n 1)), .inl (Int32.ofNat (n 0)), .inr (.inr (.inl (some 1)))]) (h' := h) (by with_unfolding_all rfl) ?_
  refine kx_iald rfl (c := 130 + i) (j := 2) (m := 4) (v := .inl (Int32.ofNat (n 2))) (kr_rows i hi).1 (kr_rows i hi).2 (by decide) (by decide) en2 ?_
  refine kc_call_rule (M2 := wk_m36) (av := [.inr (.inr (.inl (some 1))), .inl (Int32.ofNat (n 0)), .inl (Int32.ofNat (n 1)), .inl (Int32.ofNat (n 2))]) (r := []) rfl rfl (kc_Con_le (kv_clame hg hw hC) (by decide)) (fun rv h' hq => ?_)
  obtain ⟨r, rfl, hw2, hfr, hq⟩ := hq
  refine kc_ret_ok rfl (rv := some (.inl r)) rfl ⟨r, rfl, hw2, ?_, ?_⟩
  · exact kd_cvW_r [(12, 14, 0, 4)] (by decide) hfr
  · rcases hq with ⟨k, r0⟩ | ⟨k, r0, rfl⟩
    · refine Or.inl ⟨D, M, L, f, if_pos (by omega), r0, ⟨by omega, by omega, by omega, ?_, ?_, ?_⟩, fun i hi => ?_⟩
      · exact (kv_fr1 hfr (by decide)).trans eD
      · exact (kv_fr1 hfr (by decide)).trans eM
      · exact (kv_fr1 hfr (by decide)).trans eL
      · exact ⟨(ef i hi).1, (kv_fr1 hfr ((show ∀ i, i < 6 → (([(12, 14, 0, 4)] : kd_W).all fun q => !kd_inr 9 q.1 q.2.1 i q.2.2.1 q.2.2.2) = true from by decide) i hi)).trans (ef i hi).2⟩
    · exact Or.inr ⟨if_neg (by omega), r0⟩
set_option maxRecDepth 20000 in
theorem kv_tell5 {g : kc_G} {h : kc_H} {i D M L : Nat} {f n : Nat → Nat} (hg : kc_ok g) (hw : kd_wt kd_ty h) (hi : i < 60) (hC : kv_Cs h D M L f) (en : ∀ k, k < 4 → h (130 + i) k = .inl (Int32.ofNat (n k)) ∧ n k < 1000) : kc_Con g 6 181 [.inr (.inr (.inl (some 1))), .inl (Int32.ofNat 5), .inr (.inr (.inl (some (130 + i))))] h (kv_Pc h (kv_step 5 n D M L f)) := by
  obtain ⟨hC, ef⟩ := hC
  obtain ⟨hD, hM, hL, eD, eM, eL⟩ := hC
  have hC : kv_C h D M L := ⟨hD, hM, hL, eD, eM, eL⟩
  obtain ⟨en0, nb0⟩ := en 0 (by omega)
  have t0 : (Int32.ofNat (n 0)).toInt = n 0 := kx_ti (by omega)
  refine kc_Con_new hg (M := wk_m181) rfl rfl rfl (show 3 ≤ 3 by decide) ?_
  refine kx_go 2 (pc' := 116) (L' := [(0, .inr (.inr (.inl (some 1)))), (1, .inl (Int32.ofNat 5)), (2, .inr (.inr (.inl (some (130 + i)))))]) (S' := []) (h' := h) (by with_unfolding_all rfl) ?_
  refine kx_go 3 (pc' := 119) (L' := [(0, .inr (.inr (.inl (some 1)))), (1, .inl (Int32.ofNat 5)), (2, .inr (.inr (.inl (some (130 + i)))))]) (S' := [.inl (Int32.ofNat 0), .inr (.inr (.inl (some (130 + i)))), .inr (.inr (.inl (some 1)))]) (h' := h) (by with_unfolding_all rfl) ?_
  refine kx_iald rfl (c := 130 + i) (j := 0) (m := 4) (v := .inl (Int32.ofNat (n 0))) (kr_rows i hi).1 (kr_rows i hi).2 (by decide) (by decide) en0 ?_
  obtain ⟨f0, f1, f2⟩ : ∃ f0, f0 ≤ 1 ∧ (1 ≤ (Int32.ofNat (n 0)).toInt → (Int32.ofNat (n 0)).toInt ≤ 5 → f (n 0) = f0 ∧ h 9 (Int32.ofNat (n 0)).toInt.toNat = .inl (Int32.ofNat f0)) := by
    by_cases e : n 0 < 6
    · refine ⟨f (n 0), (ef (n 0) e).1, fun _ _ => ⟨rfl, ?_⟩⟩
      rw [show (Int32.ofNat (n 0)).toInt.toNat = n 0 from by omega]
      exact (ef (n 0) e).2
    · exact ⟨0, by decide, fun _ q => absurd q (by omega)⟩
  refine kc_call_rule (M2 := wk_m24) (av := [.inr (.inr (.inl (some 1))), .inl (Int32.ofNat (n 0))]) (r := []) rfl rfl (kc_Con_le (kv_cford hg hw hC (f := f0) f1 (fun q1 q2 => (f2 q1 q2).2)) (by decide)) (fun rv h' hq => ?_)
  have f3 : 1 ≤ n 0 → n 0 ≤ D → f (n 0) = f0 := fun q1 q2 => (f2 (by omega) (by omega)).1
  obtain ⟨r, rfl, hw2, hfr, hq⟩ := hq
  refine kc_ret_ok rfl (rv := some (.inl r)) rfl ⟨r, rfl, hw2, ?_, ?_⟩
  · intro c b hx
    have x1 := kd_inr_f (hx (9, 10, 0, 5) (by decide))
    simp only at x1
    rcases hq with ⟨k, -, -⟩ | ⟨-, -, rfl⟩
    · exact hfr c b (fun q hq => by
        obtain rfl := List.mem_singleton.mp hq
        exact kb_inr (by (try dsimp only); omega))
    · rfl
  · rcases hq with ⟨k, r0, e1⟩ | ⟨k, r0, rfl⟩
    · refine Or.inl ⟨D, M, L, (fun i => if i = n 0 then 1 else f i), if_pos (by omega), r0, ⟨by omega, by omega, by omega, ?_, ?_, ?_⟩, fun i hi => ?_⟩
      · exact (hfr 1 0 (fun q hq => by obtain rfl := List.mem_singleton.mp hq; exact kb_inr (by (try dsimp only); omega))).trans eD
      · exact (hfr 1 1 (fun q hq => by obtain rfl := List.mem_singleton.mp hq; exact kb_inr (by (try dsimp only); omega))).trans eM
      · exact (hfr 1 2 (fun q hq => by obtain rfl := List.mem_singleton.mp hq; exact kb_inr (by (try dsimp only); omega))).trans eL
      · by_cases e : i = n 0
        · refine ⟨by show (if i = n 0 then 1 else f i) ≤ 1; rw [if_pos e]; omega, ?_⟩
          show h' 9 i = .inl (Int32.ofNat (if i = n 0 then 1 else f i))
          rw [if_pos e, e, ← e1, show (Int32.ofNat (n 0)).toInt.toNat = n 0 from by omega]
        · refine ⟨by show (if i = n 0 then 1 else f i) ≤ 1; rw [if_neg e]; exact (ef i hi).1, ?_⟩
          show h' 9 i = .inl (Int32.ofNat (if i = n 0 then 1 else f i))
          rw [if_neg e, hfr 9 i (fun q hq => by obtain rfl := List.mem_singleton.mp hq; exact kb_inr (by (try dsimp only); omega))]
          exact (ef i hi).2
    · exact Or.inr ⟨if_neg (by omega), r0⟩
set_option maxRecDepth 20000 in
theorem kv_tell6 {g : kc_G} {h : kc_H} {i D M L : Nat} {f n : Nat → Nat} (hg : kc_ok g) (hw : kd_wt kd_ty h) (hi : i < 60) (hC : kv_Cs h D M L f) (en : ∀ k, k < 4 → h (130 + i) k = .inl (Int32.ofNat (n k)) ∧ n k < 1000) : kc_Con g 6 181 [.inr (.inr (.inl (some 1))), .inl (Int32.ofNat 6), .inr (.inr (.inl (some (130 + i))))] h (kv_Pc h (kv_step 6 n D M L f)) := by
  obtain ⟨hC, ef⟩ := hC
  obtain ⟨hD, hM, hL, eD, eM, eL⟩ := hC
  have hC : kv_C h D M L := ⟨hD, hM, hL, eD, eM, eL⟩
  obtain ⟨en0, nb0⟩ := en 0 (by omega)
  have t0 : (Int32.ofNat (n 0)).toInt = n 0 := kx_ti (by omega)
  obtain ⟨en1, nb1⟩ := en 1 (by omega)
  have t1 : (Int32.ofNat (n 1)).toInt = n 1 := kx_ti (by omega)
  refine kc_Con_new hg (M := wk_m181) rfl rfl rfl (show 3 ≤ 3 by decide) ?_
  refine kx_go 2 (pc' := 124) (L' := [(0, .inr (.inr (.inl (some 1)))), (1, .inl (Int32.ofNat 6)), (2, .inr (.inr (.inl (some (130 + i)))))]) (S' := []) (h' := h) (by with_unfolding_all rfl) ?_
  refine kx_go 3 (pc' := 127) (L' := [(0, .inr (.inr (.inl (some 1)))), (1, .inl (Int32.ofNat 6)), (2, .inr (.inr (.inl (some (130 + i)))))]) (S' := [.inl (Int32.ofNat 0), .inr (.inr (.inl (some (130 + i)))), .inr (.inr (.inl (some 1)))]) (h' := h) (by with_unfolding_all rfl) ?_
  refine kx_iald rfl (c := 130 + i) (j := 0) (m := 4) (v := .inl (Int32.ofNat (n 0))) (kr_rows i hi).1 (kr_rows i hi).2 (by decide) (by decide) en0 ?_
  refine kx_go 3 (pc' := 131) (L' := [(0, .inr (.inr (.inl (some 1)))), (1, .inl (Int32.ofNat 6)), (2, .inr (.inr (.inl (some (130 + i)))))]) (S' := [.inl (Int32.ofNat 1), .inr (.inr (.inl (some (130 + i)))), .inl (Int32.ofNat 4), .inl (Int32.ofNat (n 0)), .inr (.inr (.inl (some 1)))]) (h' := h) (by with_unfolding_all rfl) ?_
  refine kx_iald rfl (c := 130 + i) (j := 1) (m := 4) (v := .inl (Int32.ofNat (n 1))) (kr_rows i hi).1 (kr_rows i hi).2 (by decide) (by decide) en1 ?_
  refine kx_go 1 (pc' := 134) (L' := [(0, .inr (.inr (.inl (some 1)))), (1, .inl (Int32.ofNat 6)), (2, .inr (.inr (.inl (some (130 + i)))))]) (S' := [.inl (Int32.ofNat 100), .inl (Int32.ofNat (n 1)), .inl (Int32.ofNat 4), .inl (Int32.ofNat (n 0)), .inr (.inr (.inl (some 1)))]) (h' := h) (by with_unfolding_all rfl) ?_
  refine kc_call_rule (M2 := wk_m45) (av := [.inr (.inr (.inl (some 1))), .inl (Int32.ofNat (n 0)), .inl (Int32.ofNat 4), .inl (Int32.ofNat (n 1)), .inl (Int32.ofNat 100)]) (r := []) rfl rfl (kc_Con_le (kv_cask hg hw hC) (by decide)) (fun rv h' hq => ?_)
  obtain ⟨r, rfl, hw2, hfr, hq⟩ := hq
  refine kc_ret_ok rfl (rv := some (.inl r)) rfl ⟨r, rfl, hw2, ?_, ?_⟩
  · exact kd_cvW_r [(16, 25, 0, 6)] (by decide) hfr
  · rcases hq with ⟨k, r0⟩ | ⟨k, r0, rfl⟩
    · refine Or.inl ⟨D, M, L, f, if_pos (by omega), r0, ⟨by omega, by omega, by omega, ?_, ?_, ?_⟩, fun i hi => ?_⟩
      · exact (kv_fr1 hfr (by decide)).trans eD
      · exact (kv_fr1 hfr (by decide)).trans eM
      · exact (kv_fr1 hfr (by decide)).trans eL
      · exact ⟨(ef i hi).1, (kv_fr1 hfr ((show ∀ i, i < 6 → (([(16, 25, 0, 6)] : kd_W).all fun q => !kd_inr 9 q.1 q.2.1 i q.2.2.1 q.2.2.2) = true from by decide) i hi)).trans (ef i hi).2⟩
    · exact Or.inr ⟨if_neg (by omega), r0⟩
set_option maxRecDepth 20000 in
theorem kv_tell7 {g : kc_G} {h : kc_H} {i D M L : Nat} {f n : Nat → Nat} (hg : kc_ok g) (hw : kd_wt kd_ty h) (hi : i < 60) (hC : kv_Cs h D M L f) (en : ∀ k, k < 4 → h (130 + i) k = .inl (Int32.ofNat (n k)) ∧ n k < 1000) : kc_Con g 6 181 [.inr (.inr (.inl (some 1))), .inl (Int32.ofNat 7), .inr (.inr (.inl (some (130 + i))))] h (kv_Pc h (kv_step 7 n D M L f)) := by
  obtain ⟨hC, ef⟩ := hC
  obtain ⟨hD, hM, hL, eD, eM, eL⟩ := hC
  have hC : kv_C h D M L := ⟨hD, hM, hL, eD, eM, eL⟩
  obtain ⟨en0, nb0⟩ := en 0 (by omega)
  have t0 : (Int32.ofNat (n 0)).toInt = n 0 := kx_ti (by omega)
  obtain ⟨en1, nb1⟩ := en 1 (by omega)
  have t1 : (Int32.ofNat (n 1)).toInt = n 1 := kx_ti (by omega)
  refine kc_Con_new hg (M := wk_m181) rfl rfl rfl (show 3 ≤ 3 by decide) ?_
  refine kx_go 2 (pc' := 138) (L' := [(0, .inr (.inr (.inl (some 1)))), (1, .inl (Int32.ofNat 7)), (2, .inr (.inr (.inl (some (130 + i)))))]) (S' := []) (h' := h) (by with_unfolding_all rfl) ?_
  refine kx_go 3 (pc' := 141) (L' := [(0, .inr (.inr (.inl (some 1)))), (1, .inl (Int32.ofNat 7)), (2, .inr (.inr (.inl (some (130 + i)))))]) (S' := [.inl (Int32.ofNat 0), .inr (.inr (.inl (some (130 + i)))), .inr (.inr (.inl (some 1)))]) (h' := h) (by with_unfolding_all rfl) ?_
  refine kx_iald rfl (c := 130 + i) (j := 0) (m := 4) (v := .inl (Int32.ofNat (n 0))) (kr_rows i hi).1 (kr_rows i hi).2 (by decide) (by decide) en0 ?_
  refine kx_go 3 (pc' := 145) (L' := [(0, .inr (.inr (.inl (some 1)))), (1, .inl (Int32.ofNat 7)), (2, .inr (.inr (.inl (some (130 + i)))))]) (S' := [.inl (Int32.ofNat 1), .inr (.inr (.inl (some (130 + i)))), .inl (Int32.ofNat 5), .inl (Int32.ofNat (n 0)), .inr (.inr (.inl (some 1)))]) (h' := h) (by with_unfolding_all rfl) ?_
  refine kx_iald rfl (c := 130 + i) (j := 1) (m := 4) (v := .inl (Int32.ofNat (n 1))) (kr_rows i hi).1 (kr_rows i hi).2 (by decide) (by decide) en1 ?_
  refine kx_go 1 (pc' := 148) (L' := [(0, .inr (.inr (.inl (some 1)))), (1, .inl (Int32.ofNat 7)), (2, .inr (.inr (.inl (some (130 + i)))))]) (S' := [.inl (Int32.ofNat 9), .inl (Int32.ofNat (n 1)), .inl (Int32.ofNat 5), .inl (Int32.ofNat (n 0)), .inr (.inr (.inl (some 1)))]) (h' := h) (by with_unfolding_all rfl) ?_
  refine kc_call_rule (M2 := wk_m45) (av := [.inr (.inr (.inl (some 1))), .inl (Int32.ofNat (n 0)), .inl (Int32.ofNat 5), .inl (Int32.ofNat (n 1)), .inl (Int32.ofNat 9)]) (r := []) rfl rfl (kc_Con_le (kv_cdrain hg hw hC) (by decide)) (fun rv h' hq => ?_)
  obtain ⟨r, rfl, hw2, hfr, hq⟩ := hq
  refine kc_ret_ok rfl (rv := some (.inl r)) rfl ⟨r, rfl, hw2, ?_, ?_⟩
  · exact kd_cvW_r [(16, 25, 0, 6)] (by decide) hfr
  · rcases hq with ⟨k, r0⟩ | ⟨k, r0, rfl⟩
    · refine Or.inl ⟨D, M, L, f, if_pos (by omega), r0, ⟨by omega, by omega, by omega, ?_, ?_, ?_⟩, fun i hi => ?_⟩
      · exact (kv_fr1 hfr (by decide)).trans eD
      · exact (kv_fr1 hfr (by decide)).trans eM
      · exact (kv_fr1 hfr (by decide)).trans eL
      · exact ⟨(ef i hi).1, (kv_fr1 hfr ((show ∀ i, i < 6 → (([(16, 25, 0, 6)] : kd_W).all fun q => !kd_inr 9 q.1 q.2.1 i q.2.2.1 q.2.2.2) = true from by decide) i hi)).trans (ef i hi).2⟩
    · exact Or.inr ⟨if_neg (by omega), r0⟩
set_option maxRecDepth 20000 in
theorem kv_tell8 {g : kc_G} {h : kc_H} {i D M L : Nat} {f n : Nat → Nat} (hg : kc_ok g) (hw : kd_wt kd_ty h) (hi : i < 60) (hC : kv_Cs h D M L f) (en : ∀ k, k < 4 → h (130 + i) k = .inl (Int32.ofNat (n k)) ∧ n k < 1000) : kc_Con g 6 181 [.inr (.inr (.inl (some 1))), .inl (Int32.ofNat 8), .inr (.inr (.inl (some (130 + i))))] h (kv_Pc h (kv_step 8 n D M L f)) := by
  obtain ⟨hC, ef⟩ := hC
  obtain ⟨hD, hM, hL, eD, eM, eL⟩ := hC
  have hC : kv_C h D M L := ⟨hD, hM, hL, eD, eM, eL⟩
  obtain ⟨en0, nb0⟩ := en 0 (by omega)
  have t0 : (Int32.ofNat (n 0)).toInt = n 0 := kx_ti (by omega)
  obtain ⟨en1, nb1⟩ := en 1 (by omega)
  have t1 : (Int32.ofNat (n 1)).toInt = n 1 := kx_ti (by omega)
  refine kc_Con_new hg (M := wk_m181) rfl rfl rfl (show 3 ≤ 3 by decide) ?_
  refine kx_go 2 (pc' := 152) (L' := [(0, .inr (.inr (.inl (some 1)))), (1, .inl (Int32.ofNat 8)), (2, .inr (.inr (.inl (some (130 + i)))))]) (S' := []) (h' := h) (by with_unfolding_all rfl) ?_
  refine kx_go 3 (pc' := 155) (L' := [(0, .inr (.inr (.inl (some 1)))), (1, .inl (Int32.ofNat 8)), (2, .inr (.inr (.inl (some (130 + i)))))]) (S' := [.inl (Int32.ofNat 0), .inr (.inr (.inl (some (130 + i)))), .inr (.inr (.inl (some 1)))]) (h' := h) (by with_unfolding_all rfl) ?_
  refine kx_iald rfl (c := 130 + i) (j := 0) (m := 4) (v := .inl (Int32.ofNat (n 0))) (kr_rows i hi).1 (kr_rows i hi).2 (by decide) (by decide) en0 ?_
  refine kx_go 2 (pc' := 158) (L' := [(0, .inr (.inr (.inl (some 1)))), (1, .inl (Int32.ofNat 8)), (2, .inr (.inr (.inl (some (130 + i)))))]) (S' := [.inl (Int32.ofNat 1), .inr (.inr (.inl (some (130 + i)))), .inl (Int32.ofNat (n 0)), .inr (.inr (.inl (some 1)))]) (h' := h) (by with_unfolding_all rfl) ?_
  refine kx_iald rfl (c := 130 + i) (j := 1) (m := 4) (v := .inl (Int32.ofNat (n 1))) (kr_rows i hi).1 (kr_rows i hi).2 (by decide) (by decide) en1 ?_
  refine kc_call_rule (M2 := wk_m29) (av := [.inr (.inr (.inl (some 1))), .inl (Int32.ofNat (n 0)), .inl (Int32.ofNat (n 1))]) (r := []) rfl rfl (kc_Con_le (kv_cstones hg hw hC) (by decide)) (fun rv h' hq => ?_)
  obtain ⟨r, rfl, hw2, hfr, hq⟩ := hq
  refine kc_ret_ok rfl (rv := some (.inl r)) rfl ⟨r, rfl, hw2, ?_, ?_⟩
  · exact kd_cvW_r [(10, 10, 0, 5)] (by decide) hfr
  · rcases hq with ⟨k, r0⟩ | ⟨k, r0, rfl⟩
    · refine Or.inl ⟨D, M, L, f, if_pos (by omega), r0, ⟨by omega, by omega, by omega, ?_, ?_, ?_⟩, fun i hi => ?_⟩
      · exact (kv_fr1 hfr (by decide)).trans eD
      · exact (kv_fr1 hfr (by decide)).trans eM
      · exact (kv_fr1 hfr (by decide)).trans eL
      · exact ⟨(ef i hi).1, (kv_fr1 hfr ((show ∀ i, i < 6 → (([(10, 10, 0, 5)] : kd_W).all fun q => !kd_inr 9 q.1 q.2.1 i q.2.2.1 q.2.2.2) = true from by decide) i hi)).trans (ef i hi).2⟩
    · exact Or.inr ⟨if_neg (by omega), r0⟩
theorem kv_tell {g : kc_G} {h : kc_H} {i D M L v : Nat} {f n : Nat → Nat} (hg : kc_ok g) (hw : kd_wt kd_ty h) (hi : i < 60) (hv : v < 9) (hC : kv_Cs h D M L f) (en : ∀ k, k < 4 → h (130 + i) k = .inl (Int32.ofNat (n k)) ∧ n k < 1000) : kc_Con g 6 181 [.inr (.inr (.inl (some 1))), .inl (Int32.ofNat v), .inr (.inr (.inl (some (130 + i))))] h (kv_Pc h (kv_step v n D M L f)) := by
  rcases (show v = 0 ∨ v = 1 ∨ v = 2 ∨ v = 3 ∨ v = 4 ∨ v = 5 ∨ v = 6 ∨ v = 7 ∨ v = 8 by omega) with rfl | rfl | rfl | rfl | rfl | rfl | rfl | rfl | rfl
  · exact kv_tell0 hg hw hi hC en
  · exact kv_tell1 hg hw hi hC en
  · exact kv_tell2 hg hw hi hC en
  · exact kv_tell3 hg hw hi hC en
  · exact kv_tell4 hg hw hi hC en
  · exact kv_tell5 hg hw hi hC en
  · exact kv_tell6 hg hw hi hC en
  · exact kv_tell7 hg hw hi hC en
  · exact kv_tell8 hg hw hi hC en
