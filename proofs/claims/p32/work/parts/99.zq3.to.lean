section
-- 99.zq3
/-! ===== the search, class: repeats, judge, mayDoBetter ===== -/
def fs_al (B : Nat → Int32) (k m : Nat) : Bool := ms_all (fun e => decide (fa_n B (60 + 5 * k + e) = fa_n B (60 + 5 * m + e))) 5
theorem fs_cap0 {B : Nat → Int32} {m : Nat} : fs_cap B (2 * m) = fa_n B (60 + 5 * m + 3) ∧ fs_cap B (2 * m + 1) = fa_n B (60 + 5 * m + 4) := by
  unfold fs_cap
  rw [show 2 * m / 2 = m by omega, show (2 * m + 1) / 2 = m by omega, show 2 * m % 2 = 0 by omega, show (2 * m + 1) % 2 = 1 by omega]
  exact ⟨rfl, rfl⟩
theorem fs_al_ok {B : Nat → Int32} {k m : Nat} (h : fs_al B k m = true) : fs_cap B (2 * k) = fs_cap B (2 * m) ∧ fs_cap B (2 * k + 1) = fs_cap B (2 * m + 1) ∧ fs_most B k = fs_most B m := by
  unfold fs_al at h
  have q := (ms_all_iff 5).mp h
  rw [fs_cap0.1, fs_cap0.2, fs_cap0.1, fs_cap0.2]
  exact ⟨of_decide_eq_true (q 3 (by decide)), of_decide_eq_true (q 4 (by decide)), of_decide_eq_true (q 0 (by decide))⟩
theorem fs_max {a b : Nat} (ha : a < 2147483648) (hb : b < 2147483648) : (if Int32.ofNat a < Int32.ofNat b then Int32.ofNat b else Int32.ofNat a) = Int32.ofNat (Nat.max a b) := by
  by_cases c : a < b
  · rw [if_pos (Int32.lt_iff_toInt_lt.mpr (by rw [kx_ti ha, kx_ti hb]; omega)), show Nat.max a b = b from Nat.max_eq_right (by omega)]
  · rw [if_neg (fun q => c (by have := Int32.lt_iff_toInt_lt.mp q; rw [kx_ti ha, kx_ti hb] at this; omega)), show Nat.max a b = a from Nat.max_eq_left (by omega)]
set_option maxRecDepth 20000 in
theorem fs_c211l {g : kc_G} {d : Nat} {h : kc_H} {B : Nat → Int32} {k m : Nat} (hw : kd_wt kd_ty h) (hC : fu_C B 1 h) (hB : fu_BT B) (hk : k < 3) (hm : m < 3) : ∀ (u e : Nat), 5 - e = u → e ≤ 5 → (∀ j, j < e → fa_n B (60 + 5 * k + j) = fa_n B (60 + 5 * m + j)) → kc_Ev g d wk_m211 (fun rv h' => rv = some (.inl (kp_b (fs_al B k m))) ∧ h' = h) 2 [(2, .inl (Int32.ofNat e)), (0, .inr (.inr (.inl (some (1 + (11 + k)))))), (1, .inr (.inr (.inl (some (1 + (11 + m))))))] [] h := by
  intro u
  induction u with
  | zero =>
    intro e hu he hok
    refine kx_go 3 (pc' := (if kc_cnd .ge (Int32.ofNat e).toInt (Int32.ofNat 5).toInt then 24 else 7)) (L' := [(2, .inl (Int32.ofNat e)), (0, .inr (.inr (.inl (some (1 + (11 + k)))))), (1, .inr (.inr (.inl (some (1 + (11 + m))))))]) (S' := []) (h' := h) (by with_unfolding_all rfl) ?_
    rw [if_pos ((kx_ge (by omega) (by omega)).mpr (by omega))]
    refine kx_go 1 (pc' := 25) (L' := [(2, .inl (Int32.ofNat e)), (0, .inr (.inr (.inl (some (1 + (11 + k)))))), (1, .inr (.inr (.inl (some (1 + (11 + m))))))]) (S' := [.inl (Int32.ofNat 1)]) (h' := h) (by with_unfolding_all rfl) ?_
    rw [show fs_al B k m = true from (ms_all_iff 5).mpr (fun j hj => decide_eq_true (hok j (by omega)))]
    exact kc_ret_ok rfl (rv := some (.inl (Int32.ofNat 1))) rfl ⟨rfl, rfl⟩
  | succ u ih =>
    intro e hu he hok
    refine kx_go 3 (pc' := (if kc_cnd .ge (Int32.ofNat e).toInt (Int32.ofNat 5).toInt then 24 else 7)) (L' := [(2, .inl (Int32.ofNat e)), (0, .inr (.inr (.inl (some (1 + (11 + k)))))), (1, .inr (.inr (.inl (some (1 + (11 + m))))))]) (S' := []) (h' := h) (by with_unfolding_all rfl) ?_
    rw [if_neg (fun q => by have := (kx_ge (by omega) (by omega)).mp q; omega)]
    have uk := fs_mu hC hB hk (show e < 5 by omega)
    have um := fs_mu hC hB hm (show e < 5 by omega)
    refine kx_go 2 (pc' := 9) (L' := [(2, .inl (Int32.ofNat e)), (0, .inr (.inr (.inl (some (1 + (11 + k)))))), (1, .inr (.inr (.inl (some (1 + (11 + m))))))]) (S' := [.inl (Int32.ofNat e), .inr (.inr (.inl (some (1 + (11 + k)))))]) (h' := h) (by with_unfolding_all rfl) ?_
    refine kx_iald (c := 1 + (11 + k)) (j := e) (m := 5) (v := .inl (Int32.ofNat (fa_n B (60 + 5 * k + e)))) rfl (fu_smu k (by omega)).1.1 (fu_smu k (by omega)).1.2 (by decide) (by omega) uk.1 ?_
    refine kx_go 2 (pc' := 12) (L' := [(2, .inl (Int32.ofNat e)), (0, .inr (.inr (.inl (some (1 + (11 + k)))))), (1, .inr (.inr (.inl (some (1 + (11 + m))))))]) (S' := [.inl (Int32.ofNat e), .inr (.inr (.inl (some (1 + (11 + m))))), .inl (Int32.ofNat (fa_n B (60 + 5 * k + e)))]) (h' := h) (by with_unfolding_all rfl) ?_
    refine kx_iald (c := 1 + (11 + m)) (j := e) (m := 5) (v := .inl (Int32.ofNat (fa_n B (60 + 5 * m + e)))) rfl (fu_smu m (by omega)).1.1 (fu_smu m (by omega)).1.2 (by decide) (by omega) um.1 ?_
    refine kx_go 1 (pc' := (if kc_cnd .eq (Int32.ofNat (fa_n B (60 + 5 * k + e))).toInt (Int32.ofNat (fa_n B (60 + 5 * m + e))).toInt then 18 else 16)) (L' := [(2, .inl (Int32.ofNat e)), (0, .inr (.inr (.inl (some (1 + (11 + k)))))), (1, .inr (.inr (.inl (some (1 + (11 + m))))))]) (S' := []) (h' := h) (by with_unfolding_all rfl) ?_
    by_cases q : fa_n B (60 + 5 * k + e) = fa_n B (60 + 5 * m + e)
    · rw [if_pos ((kx_eq (by omega) (by omega)).mpr q)]
      refine kx_go 2 (pc' := 2) (L' := [(2, .inl ((Int32.ofNat e) + Int32.ofInt 1)), (0, .inr (.inr (.inl (some (1 + (11 + k)))))), (1, .inr (.inr (.inl (some (1 + (11 + m))))))]) (S' := []) (h' := h) (by with_unfolding_all rfl) ?_
      rw [kx_inc]
      refine kf_lo (L := [(2, .inl (Int32.ofNat (e + 1))), (0, .inr (.inr (.inl (some (1 + (11 + k)))))), (1, .inr (.inr (.inl (some (1 + (11 + m))))))]) (by intro q hq; simp only [List.mem_cons, List.not_mem_nil, or_false] at hq; rcases hq with rfl | rfl | rfl <;> rfl) ?_
      exact ih (e + 1) (by omega) (by omega) (fun j hj => by
        by_cases c : j = e
        · rw [c]; exact q
        · exact hok j (by omega))
    · rw [if_neg (fun z => q ((kx_eq (by omega) (by omega)).mp z))]
      refine kx_go 1 (pc' := 17) (L' := [(2, .inl (Int32.ofNat e)), (0, .inr (.inr (.inl (some (1 + (11 + k)))))), (1, .inr (.inr (.inl (some (1 + (11 + m))))))]) (S' := [.inl (Int32.ofNat 0)]) (h' := h) (by with_unfolding_all rfl) ?_
      rw [show fs_al B k m = false from fs_all_no (show e < 5 by omega) (fun z => q (of_decide_eq_true z))]
      exact kc_ret_ok rfl (rv := some (.inl (Int32.ofNat 0))) rfl ⟨rfl, rfl⟩
set_option maxRecDepth 20000 in
theorem fs_c211 {g : kc_G} {d : Nat} {h : kc_H} {B : Nat → Int32} {k m : Nat} (hg : kc_ok g) (hw : kd_wt kd_ty h) (hC : fu_C B 1 h) (hB : fu_BT B) (hk : k < 3) (hm : m < 3) : kc_Con g (d + 1) 211 [.inr (.inr (.inl (some (1 + (11 + k))))), .inr (.inr (.inl (some (1 + (11 + m)))))] h (fun rv h' => rv = some (.inl (kp_b (fs_al B k m))) ∧ h' = h) := by
  refine kc_Con_new hg (M := wk_m211) rfl rfl rfl (show 2 ≤ 3 by decide) ?_
  refine kx_go 2 (pc' := 2) (L' := [(2, .inl (Int32.ofNat 0)), (0, .inr (.inr (.inl (some (1 + (11 + k)))))), (1, .inr (.inr (.inl (some (1 + (11 + m))))))]) (S' := []) (h' := h) (by with_unfolding_all rfl) ?_
  exact fs_c211l hw hC hB hk hm 5 0 (by omega) (by omega) (fun j hj => by omega)
set_option maxRecDepth 20000 in
theorem fs_c210l {g : kc_G} {d : Nat} {h : kc_H} {B : Nat → Int32} {c : Nat → Nat} {l x : Nat} (hg : kc_ok g) (hw : kd_wt kd_ty h) (hC : fu_C B 1 h) (hB : fu_BT B) (hx6 : x < 6) (hl : l ≤ 10) (hh : ∀ m, m < 3 → h 223 m = .inl (Int32.ofNat (ms_h c m l))) (h0 : ms_h c (x / 2) l = 0) (hne : (decide (x % 2 = 1) && decide (fs_cap B (2 * (x / 2)) = fs_cap B (2 * (x / 2) + 1))) = false) : ∀ (u k : Nat), x / 2 - k = u → k ≤ x / 2 → (∀ j, j < k → (decide (ms_h c j l = 0) && fs_al B j (x / 2)) = false) → kc_Ev g (d + 1) wk_m210 (fun rv h' => rv = some (.inl (kp_b (ms_rep (fs_cap B) (fs_al B) l c x))) ∧ h' = h) 46 [(4, .inl (Int32.ofNat k)), (3, .inr (.inr (.inl (some (1 + (11 + (x / 2))))))), (2, .inl (Int32.ofNat (x / 2))), (0, .inr (.inr (.inl (some 220)))), (1, .inl (Int32.ofNat x))] [] h := by
  intro u
  induction u with
  | zero =>
    intro k hu hk hok
    refine kx_go 3 (pc' := (if kc_cnd .ge (Int32.ofNat k).toInt (Int32.ofNat (x / 2)).toInt then 87 else 52)) (L' := [(4, .inl (Int32.ofNat k)), (3, .inr (.inr (.inl (some (1 + (11 + (x / 2))))))), (2, .inl (Int32.ofNat (x / 2))), (0, .inr (.inr (.inl (some 220)))), (1, .inl (Int32.ofNat x))]) (S' := []) (h' := h) (by with_unfolding_all rfl) ?_
    rw [if_pos ((kx_ge (by omega) (by omega)).mpr (by omega))]
    refine kx_go 1 (pc' := 88) (L' := [(4, .inl (Int32.ofNat k)), (3, .inr (.inr (.inl (some (1 + (11 + (x / 2))))))), (2, .inl (Int32.ofNat (x / 2))), (0, .inr (.inr (.inl (some 220)))), (1, .inl (Int32.ofNat x))]) (S' := [.inl (Int32.ofNat 0)]) (h' := h) (by with_unfolding_all rfl) ?_
    have e : ms_any (fun k => decide (ms_h c k l = 0) && fs_al B k (x / 2)) (x / 2) = false := Bool.eq_false_iff.mpr (fun q => by
      obtain ⟨j, j1, j2⟩ := (ms_any_iff _).mp q
      rw [hok j (by omega)] at j2
      cases j2)
    have e2 : ms_rep (fs_cap B) (fs_al B) l c x = false := by
      unfold ms_rep
      rw [hne, e, Bool.false_or, Bool.and_false]
    rw [e2]
    exact kc_ret_ok rfl (rv := some (.inl (Int32.ofNat 0))) rfl ⟨rfl, rfl⟩
  | succ u ih =>
    intro k hu hk hok
    refine kx_go 3 (pc' := (if kc_cnd .ge (Int32.ofNat k).toInt (Int32.ofNat (x / 2)).toInt then 87 else 52)) (L' := [(4, .inl (Int32.ofNat k)), (3, .inr (.inr (.inl (some (1 + (11 + (x / 2))))))), (2, .inl (Int32.ofNat (x / 2))), (0, .inr (.inr (.inl (some 220)))), (1, .inl (Int32.ofNat x))]) (S' := []) (h' := h) (by with_unfolding_all rfl) ?_
    rw [if_neg (fun q => by have := (kx_ge (by omega) (by omega)).mp q; omega)]
    have hk3 : k < 3 := by omega
    have hm3 : x / 2 < 3 := by omega
    have hhl := ms_h_le (c := c) (m := k) l
    have go : (decide (ms_h c k l = 0) && fs_al B k (x / 2)) = false → kc_Ev g (d + 1) wk_m210 (fun rv h' => rv = some (.inl (kp_b (ms_rep (fs_cap B) (fs_al B) l c x))) ∧ h' = h) 81 [(4, .inl (Int32.ofNat k)), (3, .inr (.inr (.inl (some (1 + (11 + (x / 2))))))), (2, .inl (Int32.ofNat (x / 2))), (0, .inr (.inr (.inl (some 220)))), (1, .inl (Int32.ofNat x))] [] h := by
      intro hf
      refine kx_go 2 (pc' := 46) (L' := [(4, .inl ((Int32.ofNat k) + Int32.ofInt 1)), (3, .inr (.inr (.inl (some (1 + (11 + (x / 2))))))), (2, .inl (Int32.ofNat (x / 2))), (0, .inr (.inr (.inl (some 220)))), (1, .inl (Int32.ofNat x))]) (S' := []) (h' := h) (by with_unfolding_all rfl) ?_
      rw [kx_inc]
      exact ih (k + 1) (by omega) (by omega) (fun j hj => by
        by_cases q : j = k
        · rw [q]; exact hf
        · exact hok j (by omega))
    refine kx_go 1 (pc' := 53) (L' := [(4, .inl (Int32.ofNat k)), (3, .inr (.inr (.inl (some (1 + (11 + (x / 2))))))), (2, .inl (Int32.ofNat (x / 2))), (0, .inr (.inr (.inl (some 220)))), (1, .inl (Int32.ofNat x))]) (S' := [.inr (.inr (.inl (some 220)))]) (h' := h) (by with_unfolding_all rfl) ?_
    refine kx_getf (c := 220) (v := .inr (.inr (.inl (some 223)))) rfl (by decide) (kx_ofr (hw _ _ _ fs_k220_8)) ?_
    refine kx_go 1 (pc' := 58) (L' := [(4, .inl (Int32.ofNat k)), (3, .inr (.inr (.inl (some (1 + (11 + (x / 2))))))), (2, .inl (Int32.ofNat (x / 2))), (0, .inr (.inr (.inl (some 220)))), (1, .inl (Int32.ofNat x))]) (S' := [.inl (Int32.ofNat k), .inr (.inr (.inl (some 223)))]) (h' := h) (by with_unfolding_all rfl) ?_
    refine kx_iald (c := 223) (j := k) (m := 3) (v := .inl (Int32.ofNat (ms_h c k l))) rfl rfl (by decide) (by decide) (by omega) (hh k hk3) ?_
    refine kx_go 1 (pc' := (if kc_cnd .ne (Int32.ofNat (ms_h c k l)).toInt 0 then 81 else 62)) (L' := [(4, .inl (Int32.ofNat k)), (3, .inr (.inr (.inl (some (1 + (11 + (x / 2))))))), (2, .inl (Int32.ofNat (x / 2))), (0, .inr (.inr (.inl (some 220)))), (1, .inl (Int32.ofNat x))]) (S' := []) (h' := h) (by with_unfolding_all rfl) ?_
    by_cases q0 : ms_h c k l = 0
    · rw [if_neg (fa_z (by omega) q0)]
      refine kx_go 1 (pc' := 63) (L' := [(4, .inl (Int32.ofNat k)), (3, .inr (.inr (.inl (some (1 + (11 + (x / 2))))))), (2, .inl (Int32.ofNat (x / 2))), (0, .inr (.inr (.inl (some 220)))), (1, .inl (Int32.ofNat x))]) (S' := [.inr (.inr (.inl (some 220)))]) (h' := h) (by with_unfolding_all rfl) ?_
      refine kx_getf (c := 220) (v := .inr (.inr (.inl (some 1)))) rfl (by decide) (kx_ofr (hw _ _ _ fs_k220_0)) ?_
      refine kx_getf (c := 1) (v := .inr (.inr (.inl (some 11)))) rfl (by decide) (kx_ofr (hw _ _ _ fs_k1_7)) ?_
      refine kx_go 1 (pc' := 71) (L' := [(4, .inl (Int32.ofNat k)), (3, .inr (.inr (.inl (some (1 + (11 + (x / 2))))))), (2, .inl (Int32.ofNat (x / 2))), (0, .inr (.inr (.inl (some 220)))), (1, .inl (Int32.ofNat x))]) (S' := [.inl (Int32.ofNat k), .inr (.inr (.inl (some 11)))]) (h' := h) (by with_unfolding_all rfl) ?_
      refine kx_aald rfl (c := 11) (j := k) (m := 3) (t0 := 2) (v := .inr (.inr (.inl (some (1 + (11 + k)))))) rfl (by decide) (by decide) (by decide) (by omega) (kx_ofr (hw _ _ _ (fu_smu k (by omega)).2)) ?_
      refine kx_go 1 (pc' := 73) (L' := [(4, .inl (Int32.ofNat k)), (3, .inr (.inr (.inl (some (1 + (11 + (x / 2))))))), (2, .inl (Int32.ofNat (x / 2))), (0, .inr (.inr (.inl (some 220)))), (1, .inl (Int32.ofNat x))]) (S' := [.inr (.inr (.inl (some (1 + (11 + (x / 2)))))), .inr (.inr (.inl (some (1 + (11 + k)))))]) (h' := h) (by with_unfolding_all rfl) ?_
      refine kc_call_rule (M2 := wk_m211) (av := [.inr (.inr (.inl (some (1 + (11 + k))))), .inr (.inr (.inl (some (1 + (11 + (x / 2))))))]) (r := []) rfl rfl (kc_Con_le (fs_c211 (d := 0) hg hw hC hB hk3 hm3) (by omega)) (fun rv hcc hq => ?_)
      obtain ⟨rfl, e9⟩ := hq
      rw [e9]
      clear e9
      show kc_Ev g (d + 1) wk_m210 _ 76 [(4, .inl (Int32.ofNat k)), (3, .inr (.inr (.inl (some (1 + (11 + (x / 2))))))), (2, .inl (Int32.ofNat (x / 2))), (0, .inr (.inr (.inl (some 220)))), (1, .inl (Int32.ofNat x))] [.inl (kp_b (fs_al B k (x / 2)))] h
      refine kx_go 1 (pc' := (if kc_cnd .eq (kp_b (fs_al B k (x / 2))).toInt 0 then 81 else 79)) (L' := [(4, .inl (Int32.ofNat k)), (3, .inr (.inr (.inl (some (1 + (11 + (x / 2))))))), (2, .inl (Int32.ofNat (x / 2))), (0, .inr (.inr (.inl (some 220)))), (1, .inl (Int32.ofNat x))]) (S' := []) (h' := h) (by with_unfolding_all rfl) ?_
      cases e : fs_al B k (x / 2) with
      | false =>
        rw [if_pos (kx_b0.mpr rfl)]
        exact go (by rw [e, Bool.and_false])
      | true =>
        rw [if_neg fa_b0t]
        refine kx_go 1 (pc' := 80) (L' := [(4, .inl (Int32.ofNat k)), (3, .inr (.inr (.inl (some (1 + (11 + (x / 2))))))), (2, .inl (Int32.ofNat (x / 2))), (0, .inr (.inr (.inl (some 220)))), (1, .inl (Int32.ofNat x))]) (S' := [.inl (Int32.ofNat 1)]) (h' := h) (by with_unfolding_all rfl) ?_
        have e2 : ms_rep (fs_cap B) (fs_al B) l c x = true := by
          unfold ms_rep
          rw [decide_eq_true h0, (ms_any_iff (p := fun k => decide (ms_h c k l = 0) && fs_al B k (x / 2)) (x / 2)).mpr ⟨k, by omega, by rw [decide_eq_true q0, e]; rfl⟩, Bool.or_true]
          rfl
        rw [e2]
        exact kc_ret_ok rfl (rv := some (.inl (Int32.ofNat 1))) rfl ⟨rfl, rfl⟩
    · rw [if_pos (fa_nz (by omega) q0)]
      exact go (by rw [decide_eq_false q0, Bool.false_and])
set_option maxRecDepth 20000 in
theorem fs_c210 {g : kc_G} {d : Nat} {h : kc_H} {B : Nat → Int32} {c : Nat → Nat} {l x : Nat} (hg : kc_ok g) (hw : kd_wt kd_ty h) (hC : fu_C B 1 h) (hB : fu_BT B) (hx6 : x < 6) (hl : l ≤ 10) (hh : ∀ m, m < 3 → h 223 m = .inl (Int32.ofNat (ms_h c m l))) : kc_Con g (d + 2) 210 [.inr (.inr (.inl (some 220))), .inl (Int32.ofNat x)] h (fun rv h' => rv = some (.inl (kp_b (ms_rep (fs_cap B) (fs_al B) l c x))) ∧ h' = h) := by
  refine kc_Con_new hg (M := wk_m210) rfl rfl rfl (show 2 ≤ 5 by decide) ?_
  have m3 : x / 2 < 3 := by omega
  have hhl := ms_h_le (c := c) (m := x / 2) l
  refine kx_go 5 (pc' := 5) (L' := [(2, .inl ((Int32.ofNat x) >>> ((Int32.ofNat 1) &&& 31))), (0, .inr (.inr (.inl (some 220)))), (1, .inl (Int32.ofNat x))]) (S' := [.inr (.inr (.inl (some 220)))]) (h' := h) (by with_unfolding_all rfl) ?_
  refine kx_getf (c := 220) (v := .inr (.inr (.inl (some 223)))) rfl (by decide) (kx_ofr (hw _ _ _ fs_k220_8)) ?_
  refine kx_go 1 (pc' := 9) (L' := [(2, .inl ((Int32.ofNat x) >>> ((Int32.ofNat 1) &&& 31))), (0, .inr (.inr (.inl (some 220)))), (1, .inl (Int32.ofNat x))]) (S' := [.inl ((Int32.ofNat x) >>> ((Int32.ofNat 1) &&& 31)), .inr (.inr (.inl (some 223)))]) (h' := h) (by with_unfolding_all rfl) ?_
  rw [fs_shr x hx6]
  refine kx_iald (c := 223) (j := x / 2) (m := 3) (v := .inl (Int32.ofNat (ms_h c (x / 2) l))) rfl rfl (by decide) (by decide) (by omega) (hh (x / 2) m3) ?_
  refine kx_go 1 (pc' := (if kc_cnd .le (Int32.ofNat (ms_h c (x / 2) l)).toInt 0 then 15 else 13)) (L' := [(2, .inl (Int32.ofNat (x / 2))), (0, .inr (.inr (.inl (some 220)))), (1, .inl (Int32.ofNat x))]) (S' := []) (h' := h) (by with_unfolding_all rfl) ?_
  by_cases h0 : ms_h c (x / 2) l = 0
  · rw [if_pos (fu_ile.mpr (by rw [kx_ti (by omega)]; omega))]
    have v0 := fs_mu hC hB m3 (show 3 < 5 by decide)
    have v1 := fs_mu hC hB m3 (show 4 < 5 by decide)
    have u0 : h (1 + (11 + x / 2)) 3 = .inl (Int32.ofNat (fs_cap B (2 * (x / 2)))) := by rw [fs_cap0.1]; exact v0.1
    have u1 : h (1 + (11 + x / 2)) 4 = .inl (Int32.ofNat (fs_cap B (2 * (x / 2) + 1))) := by rw [fs_cap0.2]; exact v1.1
    have c0 := fs_capl hB (show 2 * (x / 2) < 6 by omega)
    have c1 := fs_capl hB (show 2 * (x / 2) + 1 < 6 by omega)
    have tail : (decide (x % 2 = 1) && decide (fs_cap B (2 * (x / 2)) = fs_cap B (2 * (x / 2) + 1))) = false → kc_Ev g (d + 1) wk_m210 (fun rv h' => rv = some (.inl (kp_b (ms_rep (fs_cap B) (fs_al B) l c x))) ∧ h' = h) 43 [(3, .inr (.inr (.inl (some (1 + (11 + (x / 2))))))), (2, .inl (Int32.ofNat (x / 2))), (0, .inr (.inr (.inl (some 220)))), (1, .inl (Int32.ofNat x))] [] h := by
      intro hne
      refine kx_go 2 (pc' := 46) (L' := [(4, .inl (Int32.ofNat 0)), (3, .inr (.inr (.inl (some (1 + (11 + (x / 2))))))), (2, .inl (Int32.ofNat (x / 2))), (0, .inr (.inr (.inl (some 220)))), (1, .inl (Int32.ofNat x))]) (S' := []) (h' := h) (by with_unfolding_all rfl) ?_
      exact fs_c210l hg hw hC hB hx6 hl hh h0 hne (x / 2) 0 (by omega) (by omega) (fun j hj => by omega)
    refine kx_go 1 (pc' := 16) (L' := [(2, .inl (Int32.ofNat (x / 2))), (0, .inr (.inr (.inl (some 220)))), (1, .inl (Int32.ofNat x))]) (S' := [.inr (.inr (.inl (some 220)))]) (h' := h) (by with_unfolding_all rfl) ?_
    refine kx_getf (c := 220) (v := .inr (.inr (.inl (some 1)))) rfl (by decide) (kx_ofr (hw _ _ _ fs_k220_0)) ?_
    refine kx_getf (c := 1) (v := .inr (.inr (.inl (some 11)))) rfl (by decide) (kx_ofr (hw _ _ _ fs_k1_7)) ?_
    refine kx_go 1 (pc' := 23) (L' := [(2, .inl (Int32.ofNat (x / 2))), (0, .inr (.inr (.inl (some 220)))), (1, .inl (Int32.ofNat x))]) (S' := [.inl (Int32.ofNat (x / 2)), .inr (.inr (.inl (some 11)))]) (h' := h) (by with_unfolding_all rfl) ?_
    refine kx_aald rfl (c := 11) (j := x / 2) (m := 3) (t0 := 2) (v := .inr (.inr (.inl (some (1 + (11 + (x / 2))))))) rfl (by decide) (by decide) (by decide) (by omega) (kx_ofr (hw _ _ _ (fu_smu (x / 2) (by omega)).2)) ?_
    refine kx_go 6 (pc' := (if kc_cnd .ne ((Int32.ofNat x) &&& (Int32.ofNat 1)).toInt (Int32.ofNat 1).toInt then 43 else 32)) (L' := [(3, .inr (.inr (.inl (some (1 + (11 + (x / 2))))))), (2, .inl (Int32.ofNat (x / 2))), (0, .inr (.inr (.inl (some 220)))), (1, .inl (Int32.ofNat x))]) (S' := []) (h' := h) (by with_unfolding_all rfl) ?_
    rw [fs_an1 x hx6]
    by_cases q1 : x % 2 = 1
    · rw [if_neg (fun q => (kx_ne (by omega) (by omega)).mp q q1)]
      refine kx_go 2 (pc' := 34) (L' := [(3, .inr (.inr (.inl (some (1 + (11 + (x / 2))))))), (2, .inl (Int32.ofNat (x / 2))), (0, .inr (.inr (.inl (some 220)))), (1, .inl (Int32.ofNat x))]) (S' := [.inl (Int32.ofNat 3), .inr (.inr (.inl (some (1 + (11 + (x / 2))))))]) (h' := h) (by with_unfolding_all rfl) ?_
      refine kx_iald (c := 1 + (11 + (x / 2))) (j := 3) (m := 5) (v := .inl (Int32.ofNat (fs_cap B (2 * (x / 2))))) rfl (fu_smu (x / 2) (by omega)).1.1 (fu_smu (x / 2) (by omega)).1.2 (by decide) (by omega) u0 ?_
      refine kx_go 2 (pc' := 37) (L' := [(3, .inr (.inr (.inl (some (1 + (11 + (x / 2))))))), (2, .inl (Int32.ofNat (x / 2))), (0, .inr (.inr (.inl (some 220)))), (1, .inl (Int32.ofNat x))]) (S' := [.inl (Int32.ofNat 4), .inr (.inr (.inl (some (1 + (11 + (x / 2)))))), .inl (Int32.ofNat (fs_cap B (2 * (x / 2))))]) (h' := h) (by with_unfolding_all rfl) ?_
      refine kx_iald (c := 1 + (11 + (x / 2))) (j := 4) (m := 5) (v := .inl (Int32.ofNat (fs_cap B (2 * (x / 2) + 1)))) rfl (fu_smu (x / 2) (by omega)).1.1 (fu_smu (x / 2) (by omega)).1.2 (by decide) (by omega) u1 ?_
      refine kx_go 1 (pc' := (if kc_cnd .ne (Int32.ofNat (fs_cap B (2 * (x / 2)))).toInt (Int32.ofNat (fs_cap B (2 * (x / 2) + 1))).toInt then 43 else 41)) (L' := [(3, .inr (.inr (.inl (some (1 + (11 + (x / 2))))))), (2, .inl (Int32.ofNat (x / 2))), (0, .inr (.inr (.inl (some 220)))), (1, .inl (Int32.ofNat x))]) (S' := []) (h' := h) (by with_unfolding_all rfl) ?_
      by_cases q2 : fs_cap B (2 * (x / 2)) = fs_cap B (2 * (x / 2) + 1)
      · rw [if_neg (fun q => (kx_ne (by omega) (by omega)).mp q q2)]
        refine kx_go 1 (pc' := 42) (L' := [(3, .inr (.inr (.inl (some (1 + (11 + (x / 2))))))), (2, .inl (Int32.ofNat (x / 2))), (0, .inr (.inr (.inl (some 220)))), (1, .inl (Int32.ofNat x))]) (S' := [.inl (Int32.ofNat 1)]) (h' := h) (by with_unfolding_all rfl) ?_
        have e2 : ms_rep (fs_cap B) (fs_al B) l c x = true := by
          unfold ms_rep
          rw [decide_eq_true h0, decide_eq_true q1, decide_eq_true q2]
          rfl
        rw [e2]
        exact kc_ret_ok rfl (rv := some (.inl (Int32.ofNat 1))) rfl ⟨rfl, rfl⟩
      · rw [if_pos ((kx_ne (by omega) (by omega)).mpr q2)]
        exact tail (by rw [decide_eq_false q2, Bool.and_false])
    · rw [if_pos ((kx_ne (by omega) (by omega)).mpr q1)]
      exact tail (by rw [decide_eq_false q1, Bool.false_and])
  · rw [if_neg (fun q => (fu_ile.mp q) (by rw [kx_ti (by omega)]; omega))]
    refine kx_go 1 (pc' := 14) (L' := [(2, .inl (Int32.ofNat (x / 2))), (0, .inr (.inr (.inl (some 220)))), (1, .inl (Int32.ofNat x))]) (S' := [.inl (Int32.ofNat 0)]) (h' := h) (by with_unfolding_all rfl) ?_
    have e2 : ms_rep (fs_cap B) (fs_al B) l c x = false := by
      unfold ms_rep
      rw [decide_eq_false h0, Bool.false_and]
    rw [e2]
    exact kc_ret_ok rfl (rv := some (.inl (Int32.ofNat 0))) rfl ⟨rfl, rfl⟩
theorem ms_d_b {a b v : Nat} (ha : a ≤ v) (hb : b ≤ v) : ms_d a b ≤ v := by
  unfold ms_d
  omega
theorem ms_max_b {f : Nat → Nat} {v : Nat} (k : Nat) (h : ∀ j, j < k → f j ≤ v) : ms_max f k ≤ v := (ms_max_le k).mpr h
theorem fs_db {F E : Nat → Nat} {co : Nat → Bool} {W : Nat → Nat → Nat} {L n : Nat} (hb : fs_Gb F E co W L n) {c : Nat → Nat} {l i m : Nat} (hl : l ≤ L) : ms_d (ms_s (ms_v W (fs_O F E)) c (2 * m) i l) (ms_s (ms_v W (fs_O F E)) c (2 * m + 1) i l) ≤ 990 := ms_d_b (fs_sb hb hl).1 (fs_sb hb hl).1
theorem fs_wlb {F E : Nat → Nat} {co : Nat → Bool} {W : Nat → Nat → Nat} {L n : Nat} (hb : fs_Gb F E co W L n) {c : Nat → Nat} {M i : Nat} : ms_wl (ms_v W (fs_O F E)) L M c i ≤ 990 := ms_max_b M (fun m _ => fs_db hb (Nat.le_refl _))
theorem fs_wob {F E : Nat → Nat} {co : Nat → Bool} {W : Nat → Nat → Nat} {L n : Nat} (hb : fs_Gb F E co W L n) {c : Nat → Nat} {M k : Nat} : ms_wo (ms_v W (fs_O F E)) L M k c ≤ 990 := ms_max_b k (fun i _ => fs_wlb hb)
theorem fs_nmax {a b v : Nat} (ha : a ≤ v) (hb : b ≤ v) : Nat.max a b ≤ v := Nat.max_le.mpr ⟨ha, hb⟩
set_option maxRecDepth 20000 in
theorem fs_c108l {g : kc_G} {d : Nat} {h : kc_H} {B : Nat → Int32} {M : Nat} {F E : Nat → Nat} {co : Nat → Bool} {W : Nat → Nat → Nat} {L n : Nat} {c : Nat → Nat} (hg : kc_ok g) (hw : kd_wt kd_ty h) (hC : fu_C B 1 h) (hb : fs_Gb F E co W L n) (hG : fs_G F E co W L n h) (hM : M ≤ 3) (eM : B 1 = Int32.ofNat M) (hbo : fs_bo (ms_v W (fs_O F E)) (ms_v (fun _ _ => 1) (fs_O F E)) c (fun _ => L) h) : ∀ (u i : Nat), n - i = u → i ≤ n → kc_Ev g (d + 1) wk_m108 (fun rv h' => rv = some (.inl (Int32.ofNat (ms_wo (ms_v W (fs_O F E)) L M n c))) ∧ h' = h) 4 [(2, .inl (Int32.ofNat i)), (1, .inl (Int32.ofNat (ms_max (ms_wl (ms_v W (fs_O F E)) L M c) i))), (0, .inr (.inr (.inl (some 220))))] [] h := by
  have hn := hb.1
  have hL := hb.2.1
  have eM1 : h 1 1 = .inl (Int32.ofNat M) := (fu_C0 hC).2.1.trans (by rw [eM])
  intro u
  induction u with
  | zero =>
    intro i hu hi
    refine kx_go 2 (pc' := 6) (L' := [(2, .inl (Int32.ofNat i)), (1, .inl (Int32.ofNat (ms_max (ms_wl (ms_v W (fs_O F E)) L M c) i))), (0, .inr (.inr (.inl (some 220))))]) (S' := [.inr (.inr (.inl (some 220))), .inl (Int32.ofNat i)]) (h' := h) (by with_unfolding_all rfl) ?_
    refine kx_getf (c := 220) (v := .inr (.inr (.inl (some 204)))) rfl (by decide) (kx_ofr (hw _ _ _ fs_k220_1)) ?_
    refine kx_getf (c := 204) (v := .inl (Int32.ofNat n)) rfl (by decide) hG.1 ?_
    refine kx_go 1 (pc' := (if kc_cnd .ge (Int32.ofNat i).toInt (Int32.ofNat n).toInt then 54 else 15)) (L' := [(2, .inl (Int32.ofNat i)), (1, .inl (Int32.ofNat (ms_max (ms_wl (ms_v W (fs_O F E)) L M c) i))), (0, .inr (.inr (.inl (some 220))))]) (S' := []) (h' := h) (by with_unfolding_all rfl) ?_
    rw [if_pos ((kx_ge (by omega) (by omega)).mpr (by omega))]
    obtain rfl : i = n := by omega
    refine kx_go 1 (pc' := 55) (L' := [(2, .inl (Int32.ofNat i)), (1, .inl (Int32.ofNat (ms_max (ms_wl (ms_v W (fs_O F E)) L M c) i))), (0, .inr (.inr (.inl (some 220))))]) (S' := [.inl (Int32.ofNat (ms_max (ms_wl (ms_v W (fs_O F E)) L M c) i))]) (h' := h) (by with_unfolding_all rfl) ?_
    exact kc_ret_ok rfl (rv := some (.inl (Int32.ofNat (ms_wo (ms_v W (fs_O F E)) L M i c)))) rfl ⟨rfl, rfl⟩
  | succ u ih =>
    intro i hu hi
    refine kx_go 2 (pc' := 6) (L' := [(2, .inl (Int32.ofNat i)), (1, .inl (Int32.ofNat (ms_max (ms_wl (ms_v W (fs_O F E)) L M c) i))), (0, .inr (.inr (.inl (some 220))))]) (S' := [.inr (.inr (.inl (some 220))), .inl (Int32.ofNat i)]) (h' := h) (by with_unfolding_all rfl) ?_
    refine kx_getf (c := 220) (v := .inr (.inr (.inl (some 204)))) rfl (by decide) (kx_ofr (hw _ _ _ fs_k220_1)) ?_
    refine kx_getf (c := 204) (v := .inl (Int32.ofNat n)) rfl (by decide) hG.1 ?_
    refine kx_go 1 (pc' := (if kc_cnd .ge (Int32.ofNat i).toInt (Int32.ofNat n).toInt then 54 else 15)) (L' := [(2, .inl (Int32.ofNat i)), (1, .inl (Int32.ofNat (ms_max (ms_wl (ms_v W (fs_O F E)) L M c) i))), (0, .inr (.inr (.inl (some 220))))]) (S' := []) (h' := h) (by with_unfolding_all rfl) ?_
    rw [if_neg (fun q => by have := (kx_ge (by omega) (by omega)).mp q; omega)]
    have inner : ∀ (v m : Nat), M - m = v → m ≤ M → kc_Ev g (d + 1) wk_m108 (fun rv h' => rv = some (.inl (Int32.ofNat (ms_wo (ms_v W (fs_O F E)) L M n c))) ∧ h' = h) 17 [(3, .inl (Int32.ofNat m)), (2, .inl (Int32.ofNat i)), (1, .inl (Int32.ofNat (Nat.max (ms_max (ms_wl (ms_v W (fs_O F E)) L M c) i) (ms_max (fun m => ms_d (ms_s (ms_v W (fs_O F E)) c (2 * m) i L) (ms_s (ms_v W (fs_O F E)) c (2 * m + 1) i L)) m)))), (0, .inr (.inr (.inl (some 220))))] [] h := by
      intro v
      induction v with
      | zero =>
        intro m hv hm
        refine kx_go 2 (pc' := 19) (L' := [(3, .inl (Int32.ofNat m)), (2, .inl (Int32.ofNat i)), (1, .inl (Int32.ofNat (Nat.max (ms_max (ms_wl (ms_v W (fs_O F E)) L M c) i) (ms_max (fun m => ms_d (ms_s (ms_v W (fs_O F E)) c (2 * m) i L) (ms_s (ms_v W (fs_O F E)) c (2 * m + 1) i L)) m)))), (0, .inr (.inr (.inl (some 220))))]) (S' := [.inr (.inr (.inl (some 220))), .inl (Int32.ofNat m)]) (h' := h) (by with_unfolding_all rfl) ?_
        refine kx_getf (c := 220) (v := .inr (.inr (.inl (some 1)))) rfl (by decide) (kx_ofr (hw _ _ _ fs_k220_0)) ?_
        refine kx_getf (c := 1) (v := .inl (Int32.ofNat M)) rfl (by decide) eM1 ?_
        refine kx_go 1 (pc' := (if kc_cnd .ge (Int32.ofNat m).toInt (Int32.ofNat M).toInt then 48 else 28)) (L' := [(3, .inl (Int32.ofNat m)), (2, .inl (Int32.ofNat i)), (1, .inl (Int32.ofNat (Nat.max (ms_max (ms_wl (ms_v W (fs_O F E)) L M c) i) (ms_max (fun m => ms_d (ms_s (ms_v W (fs_O F E)) c (2 * m) i L) (ms_s (ms_v W (fs_O F E)) c (2 * m + 1) i L)) m)))), (0, .inr (.inr (.inl (some 220))))]) (S' := []) (h' := h) (by with_unfolding_all rfl) ?_
        rw [if_pos ((kx_ge (by omega) (by omega)).mpr (by omega))]
        have em : m = M := by omega
        rw [em]
        refine kx_go 2 (pc' := 4) (L' := [(2, .inl ((Int32.ofNat i) + Int32.ofInt 1)), (3, .inl (Int32.ofNat M)), (1, .inl (Int32.ofNat (Nat.max (ms_max (ms_wl (ms_v W (fs_O F E)) L M c) i) (ms_max (fun m => ms_d (ms_s (ms_v W (fs_O F E)) c (2 * m) i L) (ms_s (ms_v W (fs_O F E)) c (2 * m + 1) i L)) M)))), (0, .inr (.inr (.inl (some 220))))]) (S' := []) (h' := h) (by with_unfolding_all rfl) ?_
        rw [kx_inc]
        refine kf_lo (L := [(2, .inl (Int32.ofNat (i + 1))), (1, .inl (Int32.ofNat (Nat.max (ms_max (ms_wl (ms_v W (fs_O F E)) L M c) i) (ms_max (fun m => ms_d (ms_s (ms_v W (fs_O F E)) c (2 * m) i L) (ms_s (ms_v W (fs_O F E)) c (2 * m + 1) i L)) M)))), (0, .inr (.inr (.inl (some 220))))]) (by intro q hq; simp only [List.mem_cons, List.not_mem_nil, or_false] at hq; rcases hq with rfl | rfl | rfl <;> rfl) ?_
        exact ih (i + 1) (by omega) (by omega)
      | succ v ih2 =>
        intro m hv hm
        refine kx_go 2 (pc' := 19) (L' := [(3, .inl (Int32.ofNat m)), (2, .inl (Int32.ofNat i)), (1, .inl (Int32.ofNat (Nat.max (ms_max (ms_wl (ms_v W (fs_O F E)) L M c) i) (ms_max (fun m => ms_d (ms_s (ms_v W (fs_O F E)) c (2 * m) i L) (ms_s (ms_v W (fs_O F E)) c (2 * m + 1) i L)) m)))), (0, .inr (.inr (.inl (some 220))))]) (S' := [.inr (.inr (.inl (some 220))), .inl (Int32.ofNat m)]) (h' := h) (by with_unfolding_all rfl) ?_
        refine kx_getf (c := 220) (v := .inr (.inr (.inl (some 1)))) rfl (by decide) (kx_ofr (hw _ _ _ fs_k220_0)) ?_
        refine kx_getf (c := 1) (v := .inl (Int32.ofNat M)) rfl (by decide) eM1 ?_
        refine kx_go 1 (pc' := (if kc_cnd .ge (Int32.ofNat m).toInt (Int32.ofNat M).toInt then 48 else 28)) (L' := [(3, .inl (Int32.ofNat m)), (2, .inl (Int32.ofNat i)), (1, .inl (Int32.ofNat (Nat.max (ms_max (ms_wl (ms_v W (fs_O F E)) L M c) i) (ms_max (fun m => ms_d (ms_s (ms_v W (fs_O F E)) c (2 * m) i L) (ms_s (ms_v W (fs_O F E)) c (2 * m + 1) i L)) m)))), (0, .inr (.inr (.inl (some 220))))]) (S' := []) (h' := h) (by with_unfolding_all rfl) ?_
        rw [if_neg (fun q => by have := (kx_ge (by omega) (by omega)).mp q; omega)]
        have b0 := (hbo i (by omega) (2 * m) (by omega)).1
        have b1 := (hbo i (by omega) (2 * m + 1) (by omega)).1
        have l0 := (fs_sb (c := c) (s := 2 * m) (i := i) hb (Nat.le_refl L)).1
        have l1 := (fs_sb (c := c) (s := 2 * m + 1) (i := i) hb (Nat.le_refl L)).1
        have l2 : ms_max (ms_wl (ms_v W (fs_O F E)) L M c) i ≤ 990 := ms_max_b _ (fun j _ => fs_wlb hb)
        have l3 : ms_max (fun m => ms_d (ms_s (ms_v W (fs_O F E)) c (2 * m) i L) (ms_s (ms_v W (fs_O F E)) c (2 * m + 1) i L)) m ≤ 990 := ms_max_b _ (fun j _ => fs_db hb (Nat.le_refl L))
        have l4 := fs_nmax l2 l3
        have l5 := fs_db (c := c) (i := i) (m := m) hb (Nat.le_refl L)
        refine kx_go 4 (pc' := 32) (L' := [(3, .inl (Int32.ofNat m)), (2, .inl (Int32.ofNat i)), (1, .inl (Int32.ofNat (Nat.max (ms_max (ms_wl (ms_v W (fs_O F E)) L M c) i) (ms_max (fun m => ms_d (ms_s (ms_v W (fs_O F E)) c (2 * m) i L) (ms_s (ms_v W (fs_O F E)) c (2 * m + 1) i L)) m)))), (0, .inr (.inr (.inl (some 220))))]) (S' := [.inl (Int32.ofNat m), .inl (Int32.ofNat i), .inr (.inr (.inl (some 220))), .inl (Int32.ofNat (Nat.max (ms_max (ms_wl (ms_v W (fs_O F E)) L M c) i) (ms_max (fun m => ms_d (ms_s (ms_v W (fs_O F E)) c (2 * m) i L) (ms_s (ms_v W (fs_O F E)) c (2 * m + 1) i L)) m)))]) (h' := h) (by with_unfolding_all rfl) ?_
        refine kc_call_rule (M2 := wk_m207) (av := [.inr (.inr (.inl (some 220))), .inl (Int32.ofNat i), .inl (Int32.ofNat m)]) (r := [.inl (Int32.ofNat (Nat.max (ms_max (ms_wl (ms_v W (fs_O F E)) L M c) i) (ms_max (fun m => ms_d (ms_s (ms_v W (fs_O F E)) c (2 * m) i L) (ms_s (ms_v W (fs_O F E)) c (2 * m + 1) i L)) m)))]) rfl rfl (kc_Con_le (fs_c207 (d := 0) hg hw (show i < 5 by omega) (show m < 3 by omega) b0 b1) (by omega)) (fun rv hcc hq => ?_)
        obtain ⟨rfl, e9⟩ := hq
        rw [e9]
        clear e9
        show kc_Ev g (d + 1) wk_m108 _ 35 [(3, .inl (Int32.ofNat m)), (2, .inl (Int32.ofNat i)), (1, .inl (Int32.ofNat (Nat.max (ms_max (ms_wl (ms_v W (fs_O F E)) L M c) i) (ms_max (fun m => ms_d (ms_s (ms_v W (fs_O F E)) c (2 * m) i L) (ms_s (ms_v W (fs_O F E)) c (2 * m + 1) i L)) m)))), (0, .inr (.inr (.inl (some 220))))] [.inl (Int32.ofNat (ms_s (ms_v W (fs_O F E)) c (2 * m) i L) - Int32.ofNat (ms_s (ms_v W (fs_O F E)) c (2 * m + 1) i L)), .inl (Int32.ofNat (Nat.max (ms_max (ms_wl (ms_v W (fs_O F E)) L M c) i) (ms_max (fun m => ms_d (ms_s (ms_v W (fs_O F E)) c (2 * m) i L) (ms_s (ms_v W (fs_O F E)) c (2 * m + 1) i L)) m)))] h
        refine kc_math_ok (AS' := [.inl (if (0 : Int32) ≤ Int32.ofNat (ms_s (ms_v W (fs_O F E)) c (2 * m) i L) - Int32.ofNat (ms_s (ms_v W (fs_O F E)) c (2 * m + 1) i L) then Int32.ofNat (ms_s (ms_v W (fs_O F E)) c (2 * m) i L) - Int32.ofNat (ms_s (ms_v W (fs_O F E)) c (2 * m + 1) i L) else 0 - (Int32.ofNat (ms_s (ms_v W (fs_O F E)) c (2 * m) i L) - Int32.ofNat (ms_s (ms_v W (fs_O F E)) c (2 * m + 1) i L))), .inl (Int32.ofNat (Nat.max (ms_max (ms_wl (ms_v W (fs_O F E)) L M c) i) (ms_max (fun m => ms_d (ms_s (ms_v W (fs_O F E)) c (2 * m) i L) (ms_s (ms_v W (fs_O F E)) c (2 * m + 1) i L)) m)))]) rfl (by with_unfolding_all rfl) ?_
        rw [fa_ab (by omega) (by omega)]
        show kc_Ev g (d + 1) wk_m108 _ 38 [(3, .inl (Int32.ofNat m)), (2, .inl (Int32.ofNat i)), (1, .inl (Int32.ofNat (Nat.max (ms_max (ms_wl (ms_v W (fs_O F E)) L M c) i) (ms_max (fun m => ms_d (ms_s (ms_v W (fs_O F E)) c (2 * m) i L) (ms_s (ms_v W (fs_O F E)) c (2 * m + 1) i L)) m)))), (0, .inr (.inr (.inl (some 220))))] [.inl (Int32.ofNat (ms_d (ms_s (ms_v W (fs_O F E)) c (2 * m) i L) (ms_s (ms_v W (fs_O F E)) c (2 * m + 1) i L))), .inl (Int32.ofNat (Nat.max (ms_max (ms_wl (ms_v W (fs_O F E)) L M c) i) (ms_max (fun m => ms_d (ms_s (ms_v W (fs_O F E)) c (2 * m) i L) (ms_s (ms_v W (fs_O F E)) c (2 * m + 1) i L)) m)))] h
        refine kc_math_ok (AS' := [.inl (if Int32.ofNat (Nat.max (ms_max (ms_wl (ms_v W (fs_O F E)) L M c) i) (ms_max (fun m => ms_d (ms_s (ms_v W (fs_O F E)) c (2 * m) i L) (ms_s (ms_v W (fs_O F E)) c (2 * m + 1) i L)) m)) < Int32.ofNat (ms_d (ms_s (ms_v W (fs_O F E)) c (2 * m) i L) (ms_s (ms_v W (fs_O F E)) c (2 * m + 1) i L)) then Int32.ofNat (ms_d (ms_s (ms_v W (fs_O F E)) c (2 * m) i L) (ms_s (ms_v W (fs_O F E)) c (2 * m + 1) i L)) else Int32.ofNat (Nat.max (ms_max (ms_wl (ms_v W (fs_O F E)) L M c) i) (ms_max (fun m => ms_d (ms_s (ms_v W (fs_O F E)) c (2 * m) i L) (ms_s (ms_v W (fs_O F E)) c (2 * m + 1) i L)) m)))]) rfl (by with_unfolding_all rfl) ?_
        rw [fs_max (by omega) (by omega)]
        refine kx_go 3 (pc' := 17) (L' := [(3, .inl ((Int32.ofNat m) + Int32.ofInt 1)), (1, .inl (Int32.ofNat (Nat.max (Nat.max (ms_max (ms_wl (ms_v W (fs_O F E)) L M c) i) (ms_max (fun m => ms_d (ms_s (ms_v W (fs_O F E)) c (2 * m) i L) (ms_s (ms_v W (fs_O F E)) c (2 * m + 1) i L)) m)) (ms_d (ms_s (ms_v W (fs_O F E)) c (2 * m) i L) (ms_s (ms_v W (fs_O F E)) c (2 * m + 1) i L))))), (2, .inl (Int32.ofNat i)), (0, .inr (.inr (.inl (some 220))))]) (S' := []) (h' := h) (by with_unfolding_all rfl) ?_
        rw [kx_inc, show Nat.max (Nat.max (ms_max (ms_wl (ms_v W (fs_O F E)) L M c) i) (ms_max (fun m => ms_d (ms_s (ms_v W (fs_O F E)) c (2 * m) i L) (ms_s (ms_v W (fs_O F E)) c (2 * m + 1) i L)) m)) (ms_d (ms_s (ms_v W (fs_O F E)) c (2 * m) i L) (ms_s (ms_v W (fs_O F E)) c (2 * m + 1) i L)) = Nat.max (ms_max (ms_wl (ms_v W (fs_O F E)) L M c) i) (ms_max (fun m => ms_d (ms_s (ms_v W (fs_O F E)) c (2 * m) i L) (ms_s (ms_v W (fs_O F E)) c (2 * m + 1) i L)) (m + 1)) from Nat.max_assoc _ _ _]
        refine kf_lo (L := [(3, .inl (Int32.ofNat (m + 1))), (2, .inl (Int32.ofNat i)), (1, .inl (Int32.ofNat (Nat.max (ms_max (ms_wl (ms_v W (fs_O F E)) L M c) i) (ms_max (fun m => ms_d (ms_s (ms_v W (fs_O F E)) c (2 * m) i L) (ms_s (ms_v W (fs_O F E)) c (2 * m + 1) i L)) (m + 1))))), (0, .inr (.inr (.inl (some 220))))]) (by intro q hq; simp only [List.mem_cons, List.not_mem_nil, or_false] at hq; rcases hq with rfl | rfl | rfl | rfl <;> rfl) ?_
        exact ih2 (m + 1) (by omega) (by omega)
    refine kx_go 2 (pc' := 17) (L' := [(3, .inl (Int32.ofNat 0)), (2, .inl (Int32.ofNat i)), (1, .inl (Int32.ofNat (ms_max (ms_wl (ms_v W (fs_O F E)) L M c) i))), (0, .inr (.inr (.inl (some 220))))]) (S' := []) (h' := h) (by with_unfolding_all rfl) ?_
    have e0 : ms_max (ms_wl (ms_v W (fs_O F E)) L M c) i = Nat.max (ms_max (ms_wl (ms_v W (fs_O F E)) L M c) i) (ms_max (fun m => ms_d (ms_s (ms_v W (fs_O F E)) c (2 * m) i L) (ms_s (ms_v W (fs_O F E)) c (2 * m + 1) i L)) 0) := (Nat.max_zero _).symm
    rw [e0]
    exact inner M 0 (by omega) (by omega)
set_option maxRecDepth 20000 in
theorem fs_c108 {g : kc_G} {d : Nat} {h : kc_H} {B : Nat → Int32} {M : Nat} {F E : Nat → Nat} {co : Nat → Bool} {W : Nat → Nat → Nat} {L n : Nat} {c : Nat → Nat} (hg : kc_ok g) (hw : kd_wt kd_ty h) (hC : fu_C B 1 h) (hb : fs_Gb F E co W L n) (hG : fs_G F E co W L n h) (hM : M ≤ 3) (eM : B 1 = Int32.ofNat M) (hbo : fs_bo (ms_v W (fs_O F E)) (ms_v (fun _ _ => 1) (fs_O F E)) c (fun _ => L) h) : kc_Con g (d + 2) 108 [.inr (.inr (.inl (some 220)))] h (fun rv h' => rv = some (.inl (Int32.ofNat (ms_wo (ms_v W (fs_O F E)) L M n c))) ∧ h' = h) := by
  refine kc_Con_new hg (M := wk_m108) rfl rfl rfl (show 1 ≤ 4 by decide) ?_
  refine kx_go 4 (pc' := 4) (L' := [(2, .inl (Int32.ofNat 0)), (1, .inl (Int32.ofNat 0)), (0, .inr (.inr (.inl (some 220))))]) (S' := []) (h' := h) (by with_unfolding_all rfl) ?_
  exact fs_c108l hg hw hC hb hG hM eM hbo n 0 (by omega) (by omega)
theorem ms_r_b {V : Nat → Nat → Nat} {i b : Nat} : ∀ k l, (∀ j, l ≤ j → j < l + k → V j i ≤ b) → ms_r V i k l ≤ b * k
  | 0, _, _ => Nat.zero_le _
  | k + 1, l, h => by
    have h1 := ms_r_b (V := V) (i := i) (b := b) k (l + 1) (fun j h1 h2 => h j (by omega) (by omega))
    have h2 := h l (by omega) (by omega)
    show ms_r V i k (l + 1) + V l i ≤ b * (k + 1)
    rw [Nat.mul_add, Nat.mul_one]
    omega
theorem fs_rb {F E : Nat → Nat} {co : Nat → Bool} {W : Nat → Nat → Nat} {L n : Nat} (hb : fs_Gb F E co W L n) {l i : Nat} (hl : l ≤ L) : ms_r (ms_v W (fs_O F E)) i (L - l) l ≤ 990 := by
  have h1 := ms_r_b (V := ms_v W (fs_O F E)) (i := i) (L - l) l (fun j h1 h2 => (fs_vb hb (show j < L by omega)).1)
  have := hb.2.1
  omega
theorem fs_mayl {F E : Nat → Nat} {W : Nat → Nat → Nat} {c : Nat → Nat} {L M l b i : Nat} (hin : F l ≤ i ∧ i < E l) : ms_mayl W (fs_O F E) L M l c b i = true ↔ ∀ m, m < M → ms_d (ms_s (ms_v W (fs_O F E)) c (2 * m) i (l + 1)) (ms_s (ms_v W (fs_O F E)) c (2 * m + 1) i (l + 1)) < b + ms_r (ms_v W (fs_O F E)) i (L - (l + 1)) (l + 1) := by
  unfold ms_mayl
  have e : fs_O F E l i = true := decide_eq_true hin
  rw [e, Bool.not_true, Bool.false_or, ms_all_iff]
  exact ⟨fun q m hm => of_decide_eq_true (q m hm), fun q m hm => decide_eq_true (q m hm)⟩
set_option maxRecDepth 20000 in
theorem fs_c212l {g : kc_G} {d : Nat} {h : kc_H} {B : Nat → Int32} {M : Nat} {F E : Nat → Nat} {co : Nat → Bool} {W : Nat → Nat → Nat} {L n : Nat} {c : Nat → Nat} {l b : Nat} (hg : kc_ok g) (hw : kd_wt kd_ty h) (hC : fu_C B 1 h) (hb : fs_Gb F E co W L n) (hG : fs_G F E co W L n h) (hM : M ≤ 3) (eM : B 1 = Int32.ofNat M) (hbl : b ≤ 1000001) (hby : h 220 5 = .inl (Int32.ofNat 0)) (hbe : h 220 2 = .inl (Int32.ofNat b)) (h0 : 0 < b) (hst : ∀ l, l ≤ L → ∀ i, i < n → h (237 + l) i = .inl (Int32.ofNat (ms_r (ms_v W (fs_O F E)) i (L - l) l))) (hl : l < L) (hbo : fs_bo (ms_v W (fs_O F E)) (ms_v (fun _ _ => 1) (fs_O F E)) c (fun _ => l + 1) h) : ∀ (u i : Nat), E l - i = u → F l ≤ i → i ≤ E l → (∀ j, F l ≤ j → j < i → ms_mayl W (fs_O F E) L M l c b j = true) → kc_Ev g (d + 2) wk_m212 (fun rv h' => rv = some (.inl (kp_b (ms_may W (fs_O F E) L M n l c b))) ∧ h' = h) 52 [(3, .inl (Int32.ofNat i)), (2, .inl (Int32.ofNat (E l))), (0, .inr (.inr (.inl (some 220)))), (1, .inl (Int32.ofNat l))] [] h := by
  have hn := hb.1
  have hL := hb.2.1
  have kl := hb.2.2.1 l hl
  have eM1 : h 1 1 = .inl (Int32.ofNat M) := (fu_C0 hC).2.1.trans (by rw [eM])
  intro u
  induction u with
  | zero =>
    intro i hu hi1 hi2 hok
    refine kx_go 3 (pc' := (if kc_cnd .ge (Int32.ofNat i).toInt (Int32.ofNat (E l)).toInt then 118 else 57)) (L' := [(3, .inl (Int32.ofNat i)), (2, .inl (Int32.ofNat (E l))), (0, .inr (.inr (.inl (some 220)))), (1, .inl (Int32.ofNat l))]) (S' := []) (h' := h) (by with_unfolding_all rfl) ?_
    rw [if_pos ((kx_ge (by omega) (by omega)).mpr (by omega))]
    refine kx_go 1 (pc' := 119) (L' := [(3, .inl (Int32.ofNat i)), (2, .inl (Int32.ofNat (E l))), (0, .inr (.inr (.inl (some 220)))), (1, .inl (Int32.ofNat l))]) (S' := [.inl (Int32.ofNat 1)]) (h' := h) (by with_unfolding_all rfl) ?_
    have e : ms_may W (fs_O F E) L M n l c b = true := by
      unfold ms_may
      rw [decide_eq_true h0, Bool.true_and]
      exact (ms_all_iff n).mpr (fun j hj => by
        by_cases q : F l ≤ j ∧ j < E l
        · exact hok j q.1 (by omega)
        · unfold ms_mayl fs_O
          rw [decide_eq_false q]
          rfl)
    rw [e]
    exact kc_ret_ok rfl (rv := some (.inl (Int32.ofNat 1))) rfl ⟨rfl, rfl⟩
  | succ u ih =>
    intro i hu hi1 hi2 hok
    refine kx_go 3 (pc' := (if kc_cnd .ge (Int32.ofNat i).toInt (Int32.ofNat (E l)).toInt then 118 else 57)) (L' := [(3, .inl (Int32.ofNat i)), (2, .inl (Int32.ofNat (E l))), (0, .inr (.inr (.inl (some 220)))), (1, .inl (Int32.ofNat l))]) (S' := []) (h' := h) (by with_unfolding_all rfl) ?_
    rw [if_neg (fun q => by have := (kx_ge (by omega) (by omega)).mp q; omega)]
    have hin : F l ≤ i ∧ i < E l := by omega
    have hk := fs_mayl (W := W) (L := L) (M := M) (c := c) (b := b) hin
    have lr := fs_rb (i := i) hb (show l + 1 ≤ L by omega)
    have inner : ∀ (v m : Nat), M - m = v → m ≤ M → (∀ j, j < m → ms_d (ms_s (ms_v W (fs_O F E)) c (2 * j) i (l + 1)) (ms_s (ms_v W (fs_O F E)) c (2 * j + 1) i (l + 1)) < b + ms_r (ms_v W (fs_O F E)) i (L - (l + 1)) (l + 1)) → kc_Ev g (d + 2) wk_m212 (fun rv h' => rv = some (.inl (kp_b (ms_may W (fs_O F E) L M n l c b))) ∧ h' = h) 77 [(5, .inl (Int32.ofNat m)), (4, .inl (Int32.ofNat (b + ms_r (ms_v W (fs_O F E)) i (L - (l + 1)) (l + 1)))), (3, .inl (Int32.ofNat i)), (2, .inl (Int32.ofNat (E l))), (0, .inr (.inr (.inl (some 220)))), (1, .inl (Int32.ofNat l))] [] h := by
      intro v
      induction v with
      | zero =>
        intro m hv hm hokm
        refine kx_go 2 (pc' := 80) (L' := [(5, .inl (Int32.ofNat m)), (4, .inl (Int32.ofNat (b + ms_r (ms_v W (fs_O F E)) i (L - (l + 1)) (l + 1)))), (3, .inl (Int32.ofNat i)), (2, .inl (Int32.ofNat (E l))), (0, .inr (.inr (.inl (some 220)))), (1, .inl (Int32.ofNat l))]) (S' := [.inr (.inr (.inl (some 220))), .inl (Int32.ofNat m)]) (h' := h) (by with_unfolding_all rfl) ?_
        refine kx_getf (c := 220) (v := .inr (.inr (.inl (some 1)))) rfl (by decide) (kx_ofr (hw _ _ _ fs_k220_0)) ?_
        refine kx_getf (c := 1) (v := .inl (Int32.ofNat M)) rfl (by decide) eM1 ?_
        refine kx_go 1 (pc' := (if kc_cnd .ge (Int32.ofNat m).toInt (Int32.ofNat M).toInt then 112 else 89)) (L' := [(5, .inl (Int32.ofNat m)), (4, .inl (Int32.ofNat (b + ms_r (ms_v W (fs_O F E)) i (L - (l + 1)) (l + 1)))), (3, .inl (Int32.ofNat i)), (2, .inl (Int32.ofNat (E l))), (0, .inr (.inr (.inl (some 220)))), (1, .inl (Int32.ofNat l))]) (S' := []) (h' := h) (by with_unfolding_all rfl) ?_
        rw [if_pos ((kx_ge (by omega) (by omega)).mpr (by omega))]
        refine kx_go 2 (pc' := 52) (L' := [(3, .inl ((Int32.ofNat i) + Int32.ofInt 1)), (5, .inl (Int32.ofNat m)), (4, .inl (Int32.ofNat (b + ms_r (ms_v W (fs_O F E)) i (L - (l + 1)) (l + 1)))), (2, .inl (Int32.ofNat (E l))), (0, .inr (.inr (.inl (some 220)))), (1, .inl (Int32.ofNat l))]) (S' := []) (h' := h) (by with_unfolding_all rfl) ?_
        rw [kx_inc]
        refine kf_lo (L := [(3, .inl (Int32.ofNat (i + 1))), (2, .inl (Int32.ofNat (E l))), (0, .inr (.inr (.inl (some 220)))), (1, .inl (Int32.ofNat l))]) (by intro q hq; simp only [List.mem_cons, List.not_mem_nil, or_false] at hq; rcases hq with rfl | rfl | rfl | rfl <;> rfl) ?_
        exact ih (i + 1) (by omega) (by omega) (by omega) (fun j h1 h2 => by
          by_cases e : j = i
          · rw [e]; exact hk.mpr (fun m' hm' => hokm m' (by omega))
          · exact hok j h1 (by omega))
      | succ v ih2 =>
        intro m hv hm hokm
        refine kx_go 2 (pc' := 80) (L' := [(5, .inl (Int32.ofNat m)), (4, .inl (Int32.ofNat (b + ms_r (ms_v W (fs_O F E)) i (L - (l + 1)) (l + 1)))), (3, .inl (Int32.ofNat i)), (2, .inl (Int32.ofNat (E l))), (0, .inr (.inr (.inl (some 220)))), (1, .inl (Int32.ofNat l))]) (S' := [.inr (.inr (.inl (some 220))), .inl (Int32.ofNat m)]) (h' := h) (by with_unfolding_all rfl) ?_
        refine kx_getf (c := 220) (v := .inr (.inr (.inl (some 1)))) rfl (by decide) (kx_ofr (hw _ _ _ fs_k220_0)) ?_
        refine kx_getf (c := 1) (v := .inl (Int32.ofNat M)) rfl (by decide) eM1 ?_
        refine kx_go 1 (pc' := (if kc_cnd .ge (Int32.ofNat m).toInt (Int32.ofNat M).toInt then 112 else 89)) (L' := [(5, .inl (Int32.ofNat m)), (4, .inl (Int32.ofNat (b + ms_r (ms_v W (fs_O F E)) i (L - (l + 1)) (l + 1)))), (3, .inl (Int32.ofNat i)), (2, .inl (Int32.ofNat (E l))), (0, .inr (.inr (.inl (some 220)))), (1, .inl (Int32.ofNat l))]) (S' := []) (h' := h) (by with_unfolding_all rfl) ?_
        rw [if_neg (fun q => by have := (kx_ge (by omega) (by omega)).mp q; omega)]
        have b0 := (hbo i (by omega) (2 * m) (by omega)).1
        have b1 := (hbo i (by omega) (2 * m + 1) (by omega)).1
        have l0 := (fs_sb (c := c) (s := 2 * m) (i := i) hb (show l + 1 ≤ L by omega)).1
        have l1 := (fs_sb (c := c) (s := 2 * m + 1) (i := i) hb (show l + 1 ≤ L by omega)).1
        have l5 := fs_db (c := c) (i := i) (m := m) hb (show l + 1 ≤ L by omega)
        refine kx_go 3 (pc' := 93) (L' := [(5, .inl (Int32.ofNat m)), (4, .inl (Int32.ofNat (b + ms_r (ms_v W (fs_O F E)) i (L - (l + 1)) (l + 1)))), (3, .inl (Int32.ofNat i)), (2, .inl (Int32.ofNat (E l))), (0, .inr (.inr (.inl (some 220)))), (1, .inl (Int32.ofNat l))]) (S' := [.inl (Int32.ofNat m), .inl (Int32.ofNat i), .inr (.inr (.inl (some 220)))]) (h' := h) (by with_unfolding_all rfl) ?_
        refine kc_call_rule (M2 := wk_m207) (av := [.inr (.inr (.inl (some 220))), .inl (Int32.ofNat i), .inl (Int32.ofNat m)]) (r := []) rfl rfl (kc_Con_le (fs_c207 (d := 0) hg hw (show i < 5 by omega) (show m < 3 by omega) b0 b1) (by omega)) (fun rv hcc hq => ?_)
        obtain ⟨rfl, e9⟩ := hq
        rw [e9]
        clear e9
        show kc_Ev g (d + 2) wk_m212 _ 96 [(5, .inl (Int32.ofNat m)), (4, .inl (Int32.ofNat (b + ms_r (ms_v W (fs_O F E)) i (L - (l + 1)) (l + 1)))), (3, .inl (Int32.ofNat i)), (2, .inl (Int32.ofNat (E l))), (0, .inr (.inr (.inl (some 220)))), (1, .inl (Int32.ofNat l))] [.inl (Int32.ofNat (ms_s (ms_v W (fs_O F E)) c (2 * m) i (l + 1)) - Int32.ofNat (ms_s (ms_v W (fs_O F E)) c (2 * m + 1) i (l + 1)))] h
        refine kc_math_ok (AS' := [.inl (if (0 : Int32) ≤ Int32.ofNat (ms_s (ms_v W (fs_O F E)) c (2 * m) i (l + 1)) - Int32.ofNat (ms_s (ms_v W (fs_O F E)) c (2 * m + 1) i (l + 1)) then Int32.ofNat (ms_s (ms_v W (fs_O F E)) c (2 * m) i (l + 1)) - Int32.ofNat (ms_s (ms_v W (fs_O F E)) c (2 * m + 1) i (l + 1)) else 0 - (Int32.ofNat (ms_s (ms_v W (fs_O F E)) c (2 * m) i (l + 1)) - Int32.ofNat (ms_s (ms_v W (fs_O F E)) c (2 * m + 1) i (l + 1))))]) rfl (by with_unfolding_all rfl) ?_
        rw [fa_ab (by omega) (by omega)]
        show kc_Ev g (d + 2) wk_m212 _ 99 [(5, .inl (Int32.ofNat m)), (4, .inl (Int32.ofNat (b + ms_r (ms_v W (fs_O F E)) i (L - (l + 1)) (l + 1)))), (3, .inl (Int32.ofNat i)), (2, .inl (Int32.ofNat (E l))), (0, .inr (.inr (.inl (some 220)))), (1, .inl (Int32.ofNat l))] [.inl (Int32.ofNat (ms_d (ms_s (ms_v W (fs_O F E)) c (2 * m) i (l + 1)) (ms_s (ms_v W (fs_O F E)) c (2 * m + 1) i (l + 1))))] h
        refine kx_go 2 (pc' := (if kc_cnd .lt (Int32.ofNat (ms_d (ms_s (ms_v W (fs_O F E)) c (2 * m) i (l + 1)) (ms_s (ms_v W (fs_O F E)) c (2 * m + 1) i (l + 1)))).toInt (Int32.ofNat (b + ms_r (ms_v W (fs_O F E)) i (L - (l + 1)) (l + 1))).toInt then 106 else 104)) (L' := [(5, .inl (Int32.ofNat m)), (4, .inl (Int32.ofNat (b + ms_r (ms_v W (fs_O F E)) i (L - (l + 1)) (l + 1)))), (3, .inl (Int32.ofNat i)), (2, .inl (Int32.ofNat (E l))), (0, .inr (.inr (.inl (some 220)))), (1, .inl (Int32.ofNat l))]) (S' := []) (h' := h) (by with_unfolding_all rfl) ?_
        by_cases q1 : ms_d (ms_s (ms_v W (fs_O F E)) c (2 * m) i (l + 1)) (ms_s (ms_v W (fs_O F E)) c (2 * m + 1) i (l + 1)) < b + ms_r (ms_v W (fs_O F E)) i (L - (l + 1)) (l + 1)
        · rw [if_pos ((kx_lt (by omega) (by omega)).mpr q1)]
          refine kx_go 2 (pc' := 77) (L' := [(5, .inl ((Int32.ofNat m) + Int32.ofInt 1)), (4, .inl (Int32.ofNat (b + ms_r (ms_v W (fs_O F E)) i (L - (l + 1)) (l + 1)))), (3, .inl (Int32.ofNat i)), (2, .inl (Int32.ofNat (E l))), (0, .inr (.inr (.inl (some 220)))), (1, .inl (Int32.ofNat l))]) (S' := []) (h' := h) (by with_unfolding_all rfl) ?_
          rw [kx_inc]
          exact ih2 (m + 1) (by omega) (by omega) (fun j hj => by
            by_cases e : j = m
            · rw [e]; exact q1
            · exact hokm j (by omega))
        · rw [if_neg (fun q => q1 ((kx_lt (by omega) (by omega)).mp q))]
          refine kx_go 1 (pc' := 105) (L' := [(5, .inl (Int32.ofNat m)), (4, .inl (Int32.ofNat (b + ms_r (ms_v W (fs_O F E)) i (L - (l + 1)) (l + 1)))), (3, .inl (Int32.ofNat i)), (2, .inl (Int32.ofNat (E l))), (0, .inr (.inr (.inl (some 220)))), (1, .inl (Int32.ofNat l))]) (S' := [.inl (Int32.ofNat 0)]) (h' := h) (by with_unfolding_all rfl) ?_
          have e : ms_may W (fs_O F E) L M n l c b = false := by
            unfold ms_may
            rw [fs_all_no (show i < n by omega) (fun q => q1 (hk.mp q m (by omega))), Bool.and_false]
          rw [e]
          exact kc_ret_ok rfl (rv := some (.inl (Int32.ofNat 0))) rfl ⟨rfl, rfl⟩
    refine kx_go 1 (pc' := 58) (L' := [(3, .inl (Int32.ofNat i)), (2, .inl (Int32.ofNat (E l))), (0, .inr (.inr (.inl (some 220)))), (1, .inl (Int32.ofNat l))]) (S' := [.inr (.inr (.inl (some 220)))]) (h' := h) (by with_unfolding_all rfl) ?_
    refine kx_getf (c := 220) (v := .inl (Int32.ofNat b)) rfl (by decide) hbe ?_
    refine kx_go 1 (pc' := 62) (L' := [(3, .inl (Int32.ofNat i)), (2, .inl (Int32.ofNat (E l))), (0, .inr (.inr (.inl (some 220)))), (1, .inl (Int32.ofNat l))]) (S' := [.inr (.inr (.inl (some 220))), .inl (Int32.ofNat b)]) (h' := h) (by with_unfolding_all rfl) ?_
    refine kx_getf (c := 220) (v := .inr (.inr (.inl (some 236)))) rfl (by decide) (kx_ofr (hw _ _ _ fs_k220_11)) ?_
    refine kx_go 3 (pc' := 68) (L' := [(3, .inl (Int32.ofNat i)), (2, .inl (Int32.ofNat (E l))), (0, .inr (.inr (.inl (some 220)))), (1, .inl (Int32.ofNat l))]) (S' := [.inl ((Int32.ofNat l) + (Int32.ofNat 1)), .inr (.inr (.inl (some 236))), .inl (Int32.ofNat b)]) (h' := h) (by with_unfolding_all rfl) ?_
    rw [kx_add]
    refine kx_aald rfl (c := 236) (j := l + 1) (m := 11) (t0 := 2) (v := .inr (.inr (.inl (some (237 + (l + 1)))))) rfl (by decide) (by decide) (by decide) (by omega) (kx_ofr (hw _ _ _ (fs_k236 (l + 1) (by omega)).2)) ?_
    refine kx_go 1 (pc' := 70) (L' := [(3, .inl (Int32.ofNat i)), (2, .inl (Int32.ofNat (E l))), (0, .inr (.inr (.inl (some 220)))), (1, .inl (Int32.ofNat l))]) (S' := [.inl (Int32.ofNat i), .inr (.inr (.inl (some (237 + (l + 1))))), .inl (Int32.ofNat b)]) (h' := h) (by with_unfolding_all rfl) ?_
    refine kx_iald (c := 237 + (l + 1)) (j := i) (m := 5) (v := .inl (Int32.ofNat (ms_r (ms_v W (fs_O F E)) i (L - (l + 1)) (l + 1)))) rfl (fs_k236 (l + 1) (by omega)).1.1 (fs_k236 (l + 1) (by omega)).1.2 (by decide) (by omega) (hst (l + 1) (by omega) i (by omega)) ?_
    refine kx_go 4 (pc' := 77) (L' := [(5, .inl (Int32.ofNat 0)), (4, .inl ((Int32.ofNat b) + (Int32.ofNat (ms_r (ms_v W (fs_O F E)) i (L - (l + 1)) (l + 1))))), (3, .inl (Int32.ofNat i)), (2, .inl (Int32.ofNat (E l))), (0, .inr (.inr (.inl (some 220)))), (1, .inl (Int32.ofNat l))]) (S' := []) (h' := h) (by with_unfolding_all rfl) ?_
    rw [kx_add]
    exact inner M 0 (by omega) (by omega) (fun j hj => by omega)
set_option maxRecDepth 20000 in
theorem fs_c212 {g : kc_G} {d : Nat} {h : kc_H} {B : Nat → Int32} {M : Nat} {F E : Nat → Nat} {co : Nat → Bool} {W : Nat → Nat → Nat} {L n : Nat} {c : Nat → Nat} {l b : Nat} (hg : kc_ok g) (hw : kd_wt kd_ty h) (hC : fu_C B 1 h) (hb : fs_Gb F E co W L n) (hG : fs_G F E co W L n h) (hM : M ≤ 3) (eM : B 1 = Int32.ofNat M) (hbl : b ≤ 1000001) (hby : h 220 5 = .inl (Int32.ofNat 0)) (hbe : h 220 2 = .inl (Int32.ofNat b)) (hst : ∀ l, l ≤ L → ∀ i, i < n → h (237 + l) i = .inl (Int32.ofNat (ms_r (ms_v W (fs_O F E)) i (L - l) l))) (hl : l < L) (hbo : fs_bo (ms_v W (fs_O F E)) (ms_v (fun _ _ => 1) (fs_O F E)) c (fun _ => l + 1) h) : kc_Con g (d + 3) 212 [.inr (.inr (.inl (some 220))), .inl (Int32.ofNat l)] h (fun rv h' => rv = some (.inl (kp_b (ms_may W (fs_O F E) L M n l c b))) ∧ h' = h) := by
  have kl := hb.2.2.1 l hl
  refine kc_Con_new hg (M := wk_m212) rfl rfl rfl (show 2 ≤ 6 by decide) ?_
  refine kx_go 1 (pc' := 1) (L' := [(0, .inr (.inr (.inl (some 220)))), (1, .inl (Int32.ofNat l))]) (S' := [.inr (.inr (.inl (some 220)))]) (h' := h) (by with_unfolding_all rfl) ?_
  refine kx_getf (c := 220) (v := .inl (Int32.ofNat 0)) rfl (by decide) hby ?_
  refine kx_go 1 (pc' := (if kc_cnd .eq (Int32.ofNat 0).toInt 0 then 25 else 7)) (L' := [(0, .inr (.inr (.inl (some 220)))), (1, .inl (Int32.ofNat l))]) (S' := []) (h' := h) (by with_unfolding_all rfl) ?_
  rw [if_pos (fu_ieq.mpr (by decide))]
  refine kx_go 1 (pc' := 26) (L' := [(0, .inr (.inr (.inl (some 220)))), (1, .inl (Int32.ofNat l))]) (S' := [.inr (.inr (.inl (some 220)))]) (h' := h) (by with_unfolding_all rfl) ?_
  refine kx_getf (c := 220) (v := .inl (Int32.ofNat b)) rfl (by decide) hbe ?_
  refine kx_go 1 (pc' := (if kc_cnd .gt (Int32.ofNat b).toInt 0 then 34 else 32)) (L' := [(0, .inr (.inr (.inl (some 220)))), (1, .inl (Int32.ofNat l))]) (S' := []) (h' := h) (by with_unfolding_all rfl) ?_
  by_cases h0 : 0 < b
  · rw [if_pos (fu_igt.mpr (by rw [kx_ti (by omega)]; omega))]
    refine kx_go 1 (pc' := 35) (L' := [(0, .inr (.inr (.inl (some 220)))), (1, .inl (Int32.ofNat l))]) (S' := [.inr (.inr (.inl (some 220)))]) (h' := h) (by with_unfolding_all rfl) ?_
    refine kx_getf (c := 220) (v := .inr (.inr (.inl (some 204)))) rfl (by decide) (kx_ofr (hw _ _ _ fs_k220_1)) ?_
    refine kx_go 1 (pc' := 39) (L' := [(0, .inr (.inr (.inl (some 220)))), (1, .inl (Int32.ofNat l))]) (S' := [.inl (Int32.ofNat l), .inr (.inr (.inl (some 204)))]) (h' := h) (by with_unfolding_all rfl) ?_
    refine kc_call_rule (M2 := wk_m204) (av := [.inr (.inr (.inl (some 204))), .inl (Int32.ofNat l)]) (r := []) rfl rfl (kc_Con_le (fs_c204 (d := 0) hg hw hb hG hl) (by omega)) (fun rv hcc hq => ?_)
    obtain ⟨rfl, e9⟩ := hq
    rw [e9]
    clear e9
    show kc_Ev g (d + 2) wk_m212 _ 42 [(0, .inr (.inr (.inl (some 220)))), (1, .inl (Int32.ofNat l))] [.inl (Int32.ofNat (E l))] h
    refine kx_go 2 (pc' := 44) (L' := [(2, .inl (Int32.ofNat (E l))), (0, .inr (.inr (.inl (some 220)))), (1, .inl (Int32.ofNat l))]) (S' := [.inr (.inr (.inl (some 220)))]) (h' := h) (by with_unfolding_all rfl) ?_
    refine kx_getf (c := 220) (v := .inr (.inr (.inl (some 204)))) rfl (by decide) (kx_ofr (hw _ _ _ fs_k220_1)) ?_
    refine kx_go 1 (pc' := 48) (L' := [(2, .inl (Int32.ofNat (E l))), (0, .inr (.inr (.inl (some 220)))), (1, .inl (Int32.ofNat l))]) (S' := [.inl (Int32.ofNat l), .inr (.inr (.inl (some 204)))]) (h' := h) (by with_unfolding_all rfl) ?_
    refine kc_call_rule (M2 := wk_m203) (av := [.inr (.inr (.inl (some 204))), .inl (Int32.ofNat l)]) (r := []) rfl rfl (kc_Con_le (fs_c203 (d := 0) hg hw hb hG hl) (by omega)) (fun rv hcc hq => ?_)
    obtain ⟨rfl, e9⟩ := hq
    rw [e9]
    clear e9
    show kc_Ev g (d + 2) wk_m212 _ 51 [(2, .inl (Int32.ofNat (E l))), (0, .inr (.inr (.inl (some 220)))), (1, .inl (Int32.ofNat l))] [.inl (Int32.ofNat (F l))] h
    refine kx_go 1 (pc' := 52) (L' := [(3, .inl (Int32.ofNat (F l))), (2, .inl (Int32.ofNat (E l))), (0, .inr (.inr (.inl (some 220)))), (1, .inl (Int32.ofNat l))]) (S' := []) (h' := h) (by with_unfolding_all rfl) ?_
    exact fs_c212l hg hw hC hb hG hM eM hbl hby hbe h0 hst hl hbo (E l - F l) (F l) rfl (Nat.le_refl _) kl.2.2.1 (fun j h1 h2 => by omega)
  · rw [if_neg (fun q => by have := fu_igt.mp q; rw [kx_ti (by omega)] at this; omega)]
    refine kx_go 1 (pc' := 33) (L' := [(0, .inr (.inr (.inl (some 220)))), (1, .inl (Int32.ofNat l))]) (S' := [.inl (Int32.ofNat 0)]) (h' := h) (by with_unfolding_all rfl) ?_
    have e : ms_may W (fs_O F E) L M n l c b = false := by
      unfold ms_may
      rw [decide_eq_false h0, Bool.false_and]
    rw [e]
    exact kc_ret_ok rfl (rv := some (.inl (Int32.ofNat 0))) rfl ⟨rfl, rfl⟩
end
section
-- 99.zq4
/-! ===== the search, class: judge and seek ===== -/
def fs_fr (h0 h : kc_H) : Prop := ∀ a x, ¬ (a = 220 ∧ x = 2) → ¬ (221 ≤ a ∧ a ≤ 235) → h a x = h0 a x
def fs_Z (B : Nat → Int32) (F E : Nat → Nat) (co : Nat → Bool) (W : Nat → Nat → Nat) (L n : Nat) (h : kc_H) : Prop := fu_C B 1 h ∧ fs_G F E co W L n h ∧ h 220 5 = .inl (Int32.ofNat 0) ∧ ∀ l, l ≤ L → ∀ i, i < n → h (237 + l) i = .inl (Int32.ofNat (ms_r (ms_v W (fs_O F E)) i (L - l) l))
def fs_H (h0 : kc_H) (F E : Nat → Nat) (W : Nat → Nat → Nat) (L : Nat) (c : Nat → Nat) (l : Nat) (S : ms_S) (h : kc_H) : Prop := kd_wt kd_ty h ∧ fs_fr h0 h ∧ fs_bo (ms_v W (fs_O F E)) (ms_v (fun _ _ => 1) (fs_O F E)) c (fun _ => l) h ∧ (∀ j, j < l → h 222 j = .inl (Int32.ofNat (c j))) ∧ (∀ m, m < 3 → h 223 m = .inl (Int32.ofNat (ms_h c m l))) ∧ h 220 2 = .inl (Int32.ofNat S.1) ∧ ∀ j, j < L → h 221 j = .inl (Int32.ofNat (S.2 j))
theorem fs_Z_f {B : Nat → Int32} {F E : Nat → Nat} {co : Nat → Bool} {W : Nat → Nat → Nat} {L n : Nat} {h0 h : kc_H} (hL : L ≤ 10) (hF : fs_fr h0 h) (hZ : fs_Z B F E co W L n h0) : fs_Z B F E co W L n h := ⟨fs_C_f (fun a x q => hF a x (by omega) (by omega)) hZ.1, fs_G_f hL (fun a x q1 q2 => hF a x (by omega) (by omega)) hZ.2.1, (hF 220 5 (by decide) (by decide)).trans hZ.2.2.1, fun l hl i hi => (hF (237 + l) i (by omega) (by omega)).trans (hZ.2.2.2 l hl i hi)⟩
theorem fs_k2x : (∀ i, i < 10 → kd_rn (kd_ty 221) i = some (0, 2147483648, 2147483648 + 5)) ∧ (∀ i, i < 10 → kd_rn (kd_ty 222) i = some (0, 2147483648, 2147483648 + 5)) ∧ (∀ i, i < 3 → kd_rn (kd_ty 223) i = some (0, 0, 4294967295)) ∧ kd_rn (kd_ty 220) 2 = some (0, 0, 4294967295) := ⟨by decide +kernel, by decide +kernel, by decide +kernel, by decide +kernel⟩
theorem fs_cp_wt {h : kc_H} {a b m : Nat} (hw : kd_wt kd_ty h) (hk : ∀ i, i < m → kd_rn (kd_ty b) i = kd_rn (kd_ty a) i) : kd_wt kd_ty (kc_cpy h b a m) := fun c i v hv => by
  unfold kc_cpy
  by_cases e : c = b ∧ i < m
  · rw [if_pos e]
    rw [e.1, hk i e.2] at hv
    exact hw a i v hv
  · rw [if_neg e]
    exact hw c i v hv
theorem fs_cp_o {h : kc_H} {a b m x y : Nat} (hx : ¬ x = b) : kc_cpy h b a m x y = h x y := if_neg (fun q => hx q.1)
theorem fs_cp_i {h : kc_H} {a b m y : Nat} (hy : y < m) : kc_cpy h b a m b y = h a y := if_pos ⟨rfl, hy⟩
theorem fs_code {h0 : kc_H} {F E : Nat → Nat} {W : Nat → Nat → Nat} {L : Nat} {c : Nat → Nat} {l : Nat} {S : ms_S} {h : kc_H} (hL : L ≤ 10) (hl : l ≤ L) (hH : fs_H h0 F E W L c l S h) (hc : ∀ j, j < l → c j < 2147483648) : ∀ j, j < l → c j < 6 := fun j hj => by
  obtain ⟨v, v1, v2⟩ := kx_ofg (by decide) (hH.1 222 j _ (fs_k2x.2.1 j (by omega)))
  rw [hH.2.2.2.1 j hj] at v2
  have e := Sum.inl.inj v2
  have e2 := congrArg Int32.toInt e
  rw [kx_ti (hc j hj), kx_ti (by omega)] at e2
  omega
set_option maxRecDepth 20000 in
theorem fs_c119 {g : kc_G} {d : Nat} {h0 : kc_H} {h : kc_H} {B : Nat → Int32} {M : Nat} {F E : Nat → Nat} {co : Nat → Bool} {W : Nat → Nat → Nat} {L n : Nat} {c : Nat → Nat} {S : ms_S} (hg : kc_ok g) (hb : fs_Gb F E co W L n) (hZ : fs_Z B F E co W L n h0) (hM : M ≤ 3) (eM : B 1 = Int32.ofNat M) (hS : S.1 ≤ 1000001) (hH : fs_H h0 F E W L c L S h) : kc_Con g (d + 3) 119 [.inr (.inr (.inl (some 220)))] h (fun rv h' => rv = none ∧ fs_H h0 F E W L c L (ms_j true (ms_wo (ms_v W (fs_O F E)) L M n c) c S) h') := by
  have hn := hb.1
  have hL := hb.2.1
  have hZ2 := fs_Z_f hL hH.2.1 hZ
  obtain ⟨hw, hF, hbo, hr, hh, hbe, hfo⟩ := hH
  have hw0 := fs_wob (c := c) (M := M) (k := n) hb
  refine kc_Con_new hg (M := wk_m119) rfl rfl rfl (show 1 ≤ 3 by decide) ?_
  refine kx_go 1 (pc' := 1) (L' := [(0, .inr (.inr (.inl (some 220))))]) (S' := [.inr (.inr (.inl (some 220)))]) (h' := h) (by with_unfolding_all rfl) ?_
  refine kx_getf (c := 220) (v := .inl (Int32.ofNat 0)) rfl (by decide) hZ2.2.2.1 ?_
  refine kx_go 1 (pc' := (if kc_cnd .eq (Int32.ofNat 0).toInt 0 then 30 else 7)) (L' := [(0, .inr (.inr (.inl (some 220))))]) (S' := []) (h' := h) (by with_unfolding_all rfl) ?_
  rw [if_pos (fu_ieq.mpr (by decide))]
  refine kx_go 1 (pc' := 31) (L' := [(0, .inr (.inr (.inl (some 220))))]) (S' := [.inr (.inr (.inl (some 220)))]) (h' := h) (by with_unfolding_all rfl) ?_
  refine kc_call_rule (M2 := wk_m108) (av := [.inr (.inr (.inl (some 220)))]) (r := []) rfl rfl (kc_Con_le (fs_c108 (d := 0) hg hw hZ2.1 hb hZ2.2.1 hM eM hbo) (by omega)) (fun rv hcc hq => ?_)
  obtain ⟨rfl, e9⟩ := hq
  rw [e9]
  clear e9
  show kc_Ev g (d + 2) wk_m119 _ 34 [(0, .inr (.inr (.inl (some 220))))] [.inl (Int32.ofNat (ms_wo (ms_v W (fs_O F E)) L M n c))] h
  refine kx_go 3 (pc' := 37) (L' := [(1, .inl (Int32.ofNat (ms_wo (ms_v W (fs_O F E)) L M n c))), (0, .inr (.inr (.inl (some 220))))]) (S' := [.inr (.inr (.inl (some 220))), .inl (Int32.ofNat (ms_wo (ms_v W (fs_O F E)) L M n c))]) (h' := h) (by with_unfolding_all rfl) ?_
  refine kx_getf (c := 220) (v := .inl (Int32.ofNat S.1)) rfl (by decide) hbe ?_
  refine kx_go 1 (pc' := (if kc_cnd .lt (Int32.ofNat (ms_wo (ms_v W (fs_O F E)) L M n c)).toInt (Int32.ofNat S.1).toInt then 44 else 43)) (L' := [(1, .inl (Int32.ofNat (ms_wo (ms_v W (fs_O F E)) L M n c))), (0, .inr (.inr (.inl (some 220))))]) (S' := []) (h' := h) (by with_unfolding_all rfl) ?_
  by_cases q0 : ms_wo (ms_v W (fs_O F E)) L M n c < S.1
  · rw [if_pos ((kx_lt (by omega) (by omega)).mpr q0)]
    refine kx_go 2 (pc' := 46) (L' := [(1, .inl (Int32.ofNat (ms_wo (ms_v W (fs_O F E)) L M n c))), (0, .inr (.inr (.inl (some 220))))]) (S' := [.inl (Int32.ofNat (ms_wo (ms_v W (fs_O F E)) L M n c)), .inr (.inr (.inl (some 220)))]) (h' := h) (by with_unfolding_all rfl) ?_
    have hw1 : kd_wt kd_ty (kc_upd h 220 2 (.inl (Int32.ofNat (ms_wo (ms_v W (fs_O F E)) L M n c)))) := fa_wa fs_k2x.2.2.2 hw
    refine kx_go 1 (pc' := 49) (L' := [(1, .inl (Int32.ofNat (ms_wo (ms_v W (fs_O F E)) L M n c))), (0, .inr (.inr (.inl (some 220))))]) (S' := []) (h' := (kc_upd h 220 2 (.inl (Int32.ofNat (ms_wo (ms_v W (fs_O F E)) L M n c))))) (by with_unfolding_all rfl) ?_
    refine kx_go 1 (pc' := 50) (L' := [(1, .inl (Int32.ofNat (ms_wo (ms_v W (fs_O F E)) L M n c))), (0, .inr (.inr (.inl (some 220))))]) (S' := [.inr (.inr (.inl (some 220)))]) (h' := (kc_upd h 220 2 (.inl (Int32.ofNat (ms_wo (ms_v W (fs_O F E)) L M n c))))) (by with_unfolding_all rfl) ?_
    refine kx_getf (c := 220) (v := .inr (.inr (.inl (some 222)))) rfl (by decide) (kx_ofr (hw1 _ _ _ fs_k220_7)) ?_
    refine kx_go 2 (pc' := 55) (L' := [(1, .inl (Int32.ofNat (ms_wo (ms_v W (fs_O F E)) L M n c))), (0, .inr (.inr (.inl (some 220))))]) (S' := [.inr (.inr (.inl (some 220))), .inl (Int32.ofNat 0), .inr (.inr (.inl (some 222)))]) (h' := (kc_upd h 220 2 (.inl (Int32.ofNat (ms_wo (ms_v W (fs_O F E)) L M n c))))) (by with_unfolding_all rfl) ?_
    refine kx_getf (c := 220) (v := .inr (.inr (.inl (some 221)))) rfl (by decide) (kx_ofr (hw1 _ _ _ fs_k220_4)) ?_
    refine kx_go 2 (pc' := 61) (L' := [(1, .inl (Int32.ofNat (ms_wo (ms_v W (fs_O F E)) L M n c))), (0, .inr (.inr (.inl (some 220))))]) (S' := [.inl (Int32.ofNat 10), .inl (Int32.ofNat 0), .inr (.inr (.inl (some 221))), .inl (Int32.ofNat 0), .inr (.inr (.inl (some 222)))]) (h' := (kc_upd h 220 2 (.inl (Int32.ofNat (ms_wo (ms_v W (fs_O F E)) L M n c))))) (by with_unfolding_all rfl) ?_
    refine kc_heap_ok rfl (dd := 3) (AS' := []) (h' := kc_cpy (kc_upd h 220 2 (.inl (Int32.ofNat (ms_wo (ms_v W (fs_O F E)) L M n c)))) 221 222 10) (by with_unfolding_all rfl) ?_
    have eS : ms_j true (ms_wo (ms_v W (fs_O F E)) L M n c) c S = (ms_wo (ms_v W (fs_O F E)) L M n c, c) := if_pos ⟨rfl, q0⟩
    refine kc_ret_ok rfl (rv := none) rfl ⟨rfl, ?_⟩
    rw [eS]
    refine ⟨fs_cp_wt hw1 (fun i hi => by rw [fs_k2x.1 i hi, fs_k2x.2.1 i hi]), fun a x h1 h2 => (fs_cp_o (by omega)).trans ((fu_ne h1).trans (hF a x h1 h2)), fs_bo_f (fun a x h1 h2 => (fs_cp_o (by omega)).trans (fu_ne (by omega))) hbo, fun j hj => (fs_cp_o (by decide)).trans ((fu_ne (by omega)).trans (hr j hj)), fun m hm => (fs_cp_o (by decide)).trans ((fu_ne (by omega)).trans (hh m hm)), (fs_cp_o (by decide)).trans fu_eq, fun j hj => (fs_cp_i (by omega)).trans ((fu_ne (by omega)).trans (hr j hj))⟩
  · rw [if_neg (fun q => q0 ((kx_lt (by omega) (by omega)).mp q))]
    have eS : ms_j true (ms_wo (ms_v W (fs_O F E)) L M n c) c S = S := if_neg (fun q => q0 q.2)
    refine kc_ret_ok rfl (rv := none) rfl ⟨rfl, ?_⟩
    rw [eS]
    exact ⟨hw, hF, hbo, hr, hh, hbe, hfo⟩
theorem ms_h_c {c c' : Nat → Nat} {m : Nat} : ∀ l, (∀ j, j < l → c' j = c j) → ms_h c' m l = ms_h c m l
  | 0, _ => rfl
  | l + 1, h => by
    show ms_h c' m l + (if c' l / 2 = m then 1 else 0) = ms_h c m l + (if c l / 2 = m then 1 else 0)
    rw [ms_h_c l (fun j hj => h j (by omega)), h l (by omega)]
theorem fs_H_c {h0 : kc_H} {F E : Nat → Nat} {W : Nat → Nat → Nat} {L : Nat} {c c' : Nat → Nat} {l : Nat} {S : ms_S} {h : kc_H} (hc : ∀ j, j < l → c' j = c j) (hH : fs_H h0 F E W L c l S h) : fs_H h0 F E W L c' l S h := by
  obtain ⟨hw, hF, hbo, hr, hh, hbe, hfo⟩ := hH
  exact ⟨hw, hF, fs_bo_c hc hbo, fun j hj => by rw [hc j hj]; exact hr j hj, fun m hm => by rw [ms_h_c l hc]; exact hh m hm, hbe, hfo⟩
/-- a code is put down -/
theorem fs_H_row {h0 : kc_H} {F E : Nat → Nat} {W : Nat → Nat → Nat} {L : Nat} {c : Nat → Nat} {l x : Nat} {S : ms_S} {h : kc_H} (hl : l < 10) (hx : x < 6) (hH : fs_H h0 F E W L c l S h) : fs_H h0 F E W L (ms_u c l x) l S (kc_upd h 222 l (.inl (Int32.ofNat x))) := by
  obtain ⟨hw, hF, hbo, hr, hh, hbe, hfo⟩ := fs_H_c (c' := ms_u c l x) (fun j hj => ms_un (by omega)) hH
  exact ⟨fa_wn (fs_k2x.2.1 l hl) (show x ≤ 5 by omega) (by decide) hw, fun a y h1 h2 => (fu_ne (by omega)).trans (hF a y h1 h2), fs_bo_f (fun a y h1 h2 => fu_ne (by omega)) hbo, fun j hj => (fu_ne (by omega)).trans (hr j hj), fun m hm => (fu_ne (by omega)).trans (hh m hm), (fu_ne (by omega)).trans hbe, fun j hj => (fu_ne (by omega)).trans (hfo j hj)⟩
/-- a LOAD on its SIDE, its MULE counted -/
theorem fs_H_on {h0 : kc_H} {F E : Nat → Nat} {W : Nat → Nat → Nat} {L : Nat} {c : Nat → Nat} {l x : Nat} {S : ms_S} {h h2 : kc_H} (hl : l < 10) (hcx : c l = x) (hx : x < 6) (hr0 : h 222 l = .inl (Int32.ofNat x)) (hH : fs_H h0 F E W L c l S h) (hw2 : kd_wt kd_ty h2) (hbo2 : fs_bo (ms_v W (fs_O F E)) (ms_v (fun _ _ => 1) (fs_O F E)) c (fun _ => l + 1) h2) (hF2 : ∀ a y, ¬ (225 ≤ a ∧ a ≤ 235) → h2 a y = h a y) : fs_H h0 F E W L c (l + 1) S (kc_upd h2 223 (x / 2) (.inl (Int32.ofNat (ms_h c (x / 2) (l + 1))))) := by
  obtain ⟨hw, hF, hbo, hr, hh, hbe, hfo⟩ := hH
  refine ⟨fa_wa (fs_k2x.2.2.1 (x / 2) (by omega)) hw2, fun a y h1 h3 => (fu_ne (by omega)).trans ((hF2 a y (by omega)).trans (hF a y h1 h3)), fs_bo_f (fun a y h1 h3 => fu_ne (by omega)) hbo2, fun j hj => ?_, fun m hm => ?_, (fu_ne (by omega)).trans ((hF2 _ _ (by decide)).trans hbe), fun j hj => (fu_ne (by omega)).trans ((hF2 _ _ (by decide)).trans (hfo j hj))⟩
  · rw [fu_ne (by omega), hF2 _ _ (by decide)]
    by_cases e : j = l
    · rw [e, hr0, hcx]
    · exact hr j (by omega)
  · by_cases e : m = x / 2
    · rw [e, fu_eq]
    · rw [fu_ne (fun q => e q.2), hF2 _ _ (by decide), hh m hm]
      have : ms_h c m (l + 1) = ms_h c m l := by
        show ms_h c m l + (if c l / 2 = m then 1 else 0) = _
        rw [if_neg (by rw [hcx]; omega), Nat.add_zero]
      rw [this]
/-- and down again -/
theorem fs_H_off {h0 : kc_H} {F E : Nat → Nat} {W : Nat → Nat → Nat} {L : Nat} {c : Nat → Nat} {l x : Nat} {S : ms_S} {h h2 : kc_H} (hcx : c l = x) (hx : x < 6) (hH : fs_H h0 F E W L c (l + 1) S h) (hw2 : kd_wt kd_ty h2) (hbo2 : fs_bo (ms_v W (fs_O F E)) (ms_v (fun _ _ => 1) (fs_O F E)) c (fun _ => l) h2) (hF2 : ∀ a y, ¬ (225 ≤ a ∧ a ≤ 235) → h2 a y = kc_upd h 223 (x / 2) (.inl (Int32.ofNat (ms_h c (x / 2) l))) a y) : fs_H h0 F E W L c l S h2 := by
  obtain ⟨hw, hF, hbo, hr, hh, hbe, hfo⟩ := hH
  refine ⟨hw2, fun a y h1 h3 => (hF2 a y (by omega)).trans ((fu_ne (by omega)).trans (hF a y h1 h3)), hbo2, fun j hj => (hF2 _ _ (by decide)).trans ((fu_ne (by omega)).trans (hr j (by omega))), fun m hm => ?_, (hF2 _ _ (by decide)).trans ((fu_ne (by omega)).trans hbe), fun j hj => (hF2 _ _ (by decide)).trans ((fu_ne (by omega)).trans (hfo j hj))⟩
  rw [hF2 _ _ (by decide)]
  by_cases e : m = x / 2
  · rw [e, fu_eq]
  · rw [fu_ne (fun q => e q.2), hh m hm]
    have : ms_h c m (l + 1) = ms_h c m l := by
      show ms_h c m l + (if c l / 2 = m then 1 else 0) = _
      rw [if_neg (by rw [hcx]; omega), Nat.add_zero]
    rw [this]
theorem ms_h_in {c : Nat → Nat} {l x : Nat} (hcx : c l = x) : ms_h c (x / 2) (l + 1) = ms_h c (x / 2) l + 1 := by
  show ms_h c (x / 2) l + (if c l / 2 = x / 2 then 1 else 0) = _
  rw [hcx, if_pos rfl]
theorem ms_sk_le {Q : Nat} {rep : Nat → (Nat → Nat) → Nat → Bool} {ok : Nat → (Nat → Nat) → Bool} {may : Nat → (Nat → Nat) → Nat → Bool} {J : (Nat → Nat) → ms_S → ms_S} (hJ : ∀ c s, (J c s).1 ≤ s.1) : ∀ k l c s, (ms_sk Q rep ok may J k l c s).1 ≤ s.1
  | 0, _, c, s => hJ c s
  | k + 1, l, c, s => by
    refine ms_for_ind (fun _ t => t.1 ≤ s.1) s (Nat.le_refl _) Q (fun x t hx hP => ?_)
    show (if rep l c x = true then t else if ok l (ms_u c l x) = true ∧ may l (ms_u c l x) t.1 = true then ms_sk Q rep ok may J k (l + 1) (ms_u c l x) t else t).1 ≤ s.1
    by_cases e1 : rep l c x = true
    · rw [if_pos e1]; exact hP
    · rw [if_neg e1]
      by_cases e2 : ok l (ms_u c l x) = true ∧ may l (ms_u c l x) t.1 = true
      · rw [if_pos e2]
        exact Nat.le_trans (ms_sk_le hJ k (l + 1) (ms_u c l x) t) hP
      · rw [if_neg e2]; exact hP
theorem ms_j_le {b : Bool} {v : Nat} {c : Nat → Nat} {S : ms_S} : (ms_j b v c S).1 ≤ S.1 := by
  unfold ms_j
  by_cases e : b = true ∧ v < S.1
  · rw [if_pos e]; exact Nat.le_of_lt e.2
  · rw [if_neg e]; exact Nat.le_refl _
def fs_Jc (F E : Nat → Nat) (W : Nat → Nat → Nat) (L M n : Nat) (c : Nat → Nat) (S : ms_S) : ms_S := ms_j true (ms_wo (ms_v W (fs_O F E)) L M n c) c S
def fs_sk (B : Nat → Int32) (F E : Nat → Nat) (W : Nat → Nat → Nat) (L M n : Nat) : Nat → Nat → (Nat → Nat) → ms_S → ms_S := ms_sk (2 * M) (ms_rep (fs_cap B) (fs_al B)) (ms_ok W (fs_O F E) (fs_cap B) (fs_most B) n) (ms_may W (fs_O F E) L M n) (fs_Jc F E W L M n)
def fs_sb1 (B : Nat → Int32) (F E : Nat → Nat) (W : Nat → Nat → Nat) (L M n k l : Nat) (c : Nat → Nat) (x : Nat) (s : ms_S) : ms_S := if ms_rep (fs_cap B) (fs_al B) l c x = true then s else if ms_ok W (fs_O F E) (fs_cap B) (fs_most B) n l (ms_u c l x) = true ∧ ms_may W (fs_O F E) L M n l (ms_u c l x) s.1 = true then fs_sk B F E W L M n k (l + 1) (ms_u c l x) s else s
theorem fs_sb1_r {B : Nat → Int32} {F E : Nat → Nat} {W : Nat → Nat → Nat} {L M n k l : Nat} {c : Nat → Nat} {x : Nat} {s : ms_S} (e : ms_rep (fs_cap B) (fs_al B) l c x = true) : fs_sb1 B F E W L M n k l c x s = s := if_pos e
theorem fs_sb1_n {B : Nat → Int32} {F E : Nat → Nat} {W : Nat → Nat → Nat} {L M n k l : Nat} {c : Nat → Nat} {x : Nat} {s : ms_S} (e : ms_rep (fs_cap B) (fs_al B) l c x = false) (e2 : ¬ (ms_ok W (fs_O F E) (fs_cap B) (fs_most B) n l (ms_u c l x) = true ∧ ms_may W (fs_O F E) L M n l (ms_u c l x) s.1 = true)) : fs_sb1 B F E W L M n k l c x s = s := by
  unfold fs_sb1
  rw [if_neg (by rw [e]; decide), if_neg e2]
theorem fs_sb1_g {B : Nat → Int32} {F E : Nat → Nat} {W : Nat → Nat → Nat} {L M n k l : Nat} {c : Nat → Nat} {x : Nat} {s : ms_S} (e : ms_rep (fs_cap B) (fs_al B) l c x = false) (e2 : ms_ok W (fs_O F E) (fs_cap B) (fs_most B) n l (ms_u c l x) = true ∧ ms_may W (fs_O F E) L M n l (ms_u c l x) s.1 = true) : fs_sb1 B F E W L M n k l c x s = fs_sk B F E W L M n k (l + 1) (ms_u c l x) s := by
  unfold fs_sb1
  rw [if_neg (by rw [e]; decide), if_pos e2]
theorem fs_sb1_le {B : Nat → Int32} {F E : Nat → Nat} {W : Nat → Nat → Nat} {L M n k l : Nat} {c : Nat → Nat} {x : Nat} {s : ms_S} : (fs_sb1 B F E W L M n k l c x s).1 ≤ s.1 := by
  unfold fs_sb1
  by_cases e1 : ms_rep (fs_cap B) (fs_al B) l c x = true
  · rw [if_pos e1]; exact Nat.le_refl _
  · rw [if_neg e1]
    by_cases e2 : ms_ok W (fs_O F E) (fs_cap B) (fs_most B) n l (ms_u c l x) = true ∧ ms_may W (fs_O F E) L M n l (ms_u c l x) s.1 = true
    · rw [if_pos e2]; exact ms_sk_le (fun _ _ => ms_j_le) k (l + 1) _ s
    · rw [if_neg e2]; exact Nat.le_refl _
set_option maxRecDepth 20000 in
theorem fs_c118 {g : kc_G} {d : Nat} {h0 : kc_H} {B : Nat → Int32} {M : Nat} {F E : Nat → Nat} {co : Nat → Bool} {W : Nat → Nat → Nat} {L n : Nat} (hg : kc_ok g) (hB : fu_BT B) (hb : fs_Gb F E co W L n) (hZ : fs_Z B F E co W L n h0) (hM : M ≤ 3) (eM : B 1 = Int32.ofNat M) (eL : B 2 = Int32.ofNat L) : ∀ (k l : Nat) (c : Nat → Nat) (S : ms_S) (h : kc_H), l + k = L → (∀ j, j < l → c j < 2 * M) → S.1 ≤ 1000001 → fs_H h0 F E W L c l S h → kc_Con g (d + k + 5) 118 [.inr (.inr (.inl (some 220))), .inl (Int32.ofNat l)] h (fun rv h' => rv = none ∧ fs_H h0 F E W L c l (fs_sk B F E W L M n k l c S) h') := by
  intro k
  induction k with
  | zero =>
    intro l c S h hl hc hS hH
    obtain rfl : l = L := by omega
    have hL := hb.2.1
    have hZ2 := fs_Z_f hL hH.2.1 hZ
    have hw := hH.1
    refine kc_Con_new hg (M := wk_m118) rfl rfl rfl (show 2 ≤ 5 by decide) ?_
    refine kx_go 2 (pc' := 2) (L' := [(0, .inr (.inr (.inl (some 220)))), (1, .inl (Int32.ofNat l))]) (S' := [.inr (.inr (.inl (some 220))), .inl (Int32.ofNat l)]) (h' := h) (by with_unfolding_all rfl) ?_
    refine kx_getf (c := 220) (v := .inr (.inr (.inl (some 1)))) rfl (by decide) (kx_ofr (hw _ _ _ fs_k220_0)) ?_
    refine kx_getf (c := 1) (v := .inl (Int32.ofNat l)) rfl (by decide) ((fu_C0 hZ2.1).2.2.1.trans (by rw [eL])) ?_
    refine kx_go 1 (pc' := (if kc_cnd .lt (Int32.ofNat l).toInt (Int32.ofNat l).toInt then 16 else 11)) (L' := [(0, .inr (.inr (.inl (some 220)))), (1, .inl (Int32.ofNat l))]) (S' := []) (h' := h) (by with_unfolding_all rfl) ?_
    rw [if_neg (fun q => by have := (kx_lt (by omega) (by omega)).mp q; omega)]
    refine kx_go 1 (pc' := 12) (L' := [(0, .inr (.inr (.inl (some 220)))), (1, .inl (Int32.ofNat l))]) (S' := [.inr (.inr (.inl (some 220)))]) (h' := h) (by with_unfolding_all rfl) ?_
    refine kc_call_rule (M2 := wk_m119) (av := [.inr (.inr (.inl (some 220)))]) (r := []) rfl rfl (kc_Con_le (fs_c119 (d := d) hg hb hZ hM eM hS hH) (by omega)) (fun rv h2 hq => ?_)
    obtain ⟨rfl, H2⟩ := hq
    show kc_Ev g (d + 0 + 4) wk_m118 _ 15 [(0, .inr (.inr (.inl (some 220)))), (1, .inl (Int32.ofNat l))] [] h2
    exact kc_ret_ok rfl (rv := none) rfl ⟨rfl, H2⟩
  | succ k ih =>
    intro l c S h hl hc hS hH
    have hL := hb.2.1
    have hlL : l < L := by omega
    have kl := hb.2.2.1 l hlL
    have hn := hb.1
    have loop : ∀ (u x : Nat) (h : kc_H), 2 * M - x = u → x ≤ 2 * M → fs_H h0 F E W L c l (ms_for (fs_sb1 B F E W L M n k l c) x S) h → kc_Ev g (d + (k + 1) + 4) wk_m118 (fun rv h' => rv = none ∧ fs_H h0 F E W L c l (fs_sk B F E W L M n (k + 1) l c S) h') 37 [(4, .inl (Int32.ofNat x)), (3, .inl (Int32.ofNat (E l))), (2, .inl (Int32.ofNat (F l))), (0, .inr (.inr (.inl (some 220)))), (1, .inl (Int32.ofNat l))] [] h := by
      intro u
      induction u with
      | zero =>
        intro x h hu hx hH
        have hZ2 := fs_Z_f hL hH.2.1 hZ
        have hw := hH.1
        refine kx_go 3 (pc' := 41) (L' := [(4, .inl (Int32.ofNat x)), (3, .inl (Int32.ofNat (E l))), (2, .inl (Int32.ofNat (F l))), (0, .inr (.inr (.inl (some 220)))), (1, .inl (Int32.ofNat l))]) (S' := [.inr (.inr (.inl (some 220))), .inl (Int32.ofNat 2), .inl (Int32.ofNat x)]) (h' := h) (by with_unfolding_all rfl) ?_
        refine kx_getf (c := 220) (v := .inr (.inr (.inl (some 1)))) rfl (by decide) (kx_ofr (hw _ _ _ fs_k220_0)) ?_
        refine kx_getf (c := 1) (v := .inl (Int32.ofNat M)) rfl (by decide) ((fu_C0 hZ2.1).2.1.trans (by rw [eM])) ?_
        refine kx_go 2 (pc' := (if kc_cnd .ge (Int32.ofNat x).toInt ((Int32.ofNat 2) * (Int32.ofNat M)).toInt then 142 else 51)) (L' := [(4, .inl (Int32.ofNat x)), (3, .inl (Int32.ofNat (E l))), (2, .inl (Int32.ofNat (F l))), (0, .inr (.inr (.inl (some 220)))), (1, .inl (Int32.ofNat l))]) (S' := []) (h' := h) (by with_unfolding_all rfl) ?_
        rw [kx_mul]
        rw [if_pos ((kx_ge (by omega) (by omega)).mpr (by omega))]
        have ex : x = 2 * M := by omega
        rw [ex] at hH
        exact kc_ret_ok rfl (rv := none) rfl ⟨rfl, hH⟩
      | succ u ihu =>
        intro x h hu hx hH
        have hZ2 := fs_Z_f hL hH.2.1 hZ
        have hw := hH.1
        refine kx_go 3 (pc' := 41) (L' := [(4, .inl (Int32.ofNat x)), (3, .inl (Int32.ofNat (E l))), (2, .inl (Int32.ofNat (F l))), (0, .inr (.inr (.inl (some 220)))), (1, .inl (Int32.ofNat l))]) (S' := [.inr (.inr (.inl (some 220))), .inl (Int32.ofNat 2), .inl (Int32.ofNat x)]) (h' := h) (by with_unfolding_all rfl) ?_
        refine kx_getf (c := 220) (v := .inr (.inr (.inl (some 1)))) rfl (by decide) (kx_ofr (hw _ _ _ fs_k220_0)) ?_
        refine kx_getf (c := 1) (v := .inl (Int32.ofNat M)) rfl (by decide) ((fu_C0 hZ2.1).2.1.trans (by rw [eM])) ?_
        refine kx_go 2 (pc' := (if kc_cnd .ge (Int32.ofNat x).toInt ((Int32.ofNat 2) * (Int32.ofNat M)).toInt then 142 else 51)) (L' := [(4, .inl (Int32.ofNat x)), (3, .inl (Int32.ofNat (E l))), (2, .inl (Int32.ofNat (F l))), (0, .inr (.inr (.inl (some 220)))), (1, .inl (Int32.ofNat l))]) (S' := []) (h' := h) (by with_unfolding_all rfl) ?_
        rw [kx_mul]
        rw [if_neg (fun q => by have := (kx_ge (by omega) (by omega)).mp q; omega)]
        have hx6 : x < 6 := by omega
        have hSx : (ms_for (fs_sb1 B F E W L M n k l c) x S).1 ≤ 1000001 := Nat.le_trans (ms_for_ind (fun _ t => t.1 ≤ S.1) S (Nat.le_refl _) x (fun y t _ hP => Nat.le_trans fs_sb1_le hP)) hS
        have hhl := ms_h_le (c := c) (m := x / 2) l
        have next : ∀ (h : kc_H), fs_H h0 F E W L c l (fs_sb1 B F E W L M n k l c x (ms_for (fs_sb1 B F E W L M n k l c) x S)) h → kc_Ev g (d + (k + 1) + 4) wk_m118 (fun rv h' => rv = none ∧ fs_H h0 F E W L c l (fs_sk B F E W L M n (k + 1) l c S) h') 136 [(4, .inl (Int32.ofNat x)), (3, .inl (Int32.ofNat (E l))), (2, .inl (Int32.ofNat (F l))), (0, .inr (.inr (.inl (some 220)))), (1, .inl (Int32.ofNat l))] [] h := by
          intro h hH
          refine kx_go 2 (pc' := 37) (L' := [(4, .inl ((Int32.ofNat x) + Int32.ofInt 1)), (3, .inl (Int32.ofNat (E l))), (2, .inl (Int32.ofNat (F l))), (0, .inr (.inr (.inl (some 220)))), (1, .inl (Int32.ofNat l))]) (S' := []) (h' := h) (by with_unfolding_all rfl) ?_
          rw [kx_inc]
          exact ihu (x + 1) h (by omega) (by omega) hH
        refine kx_go 2 (pc' := 54) (L' := [(4, .inl (Int32.ofNat x)), (3, .inl (Int32.ofNat (E l))), (2, .inl (Int32.ofNat (F l))), (0, .inr (.inr (.inl (some 220)))), (1, .inl (Int32.ofNat l))]) (S' := [.inl (Int32.ofNat x), .inr (.inr (.inl (some 220)))]) (h' := h) (by with_unfolding_all rfl) ?_
        refine kc_call_rule (M2 := wk_m210) (av := [.inr (.inr (.inl (some 220))), .inl (Int32.ofNat x)]) (r := []) rfl rfl (kc_Con_le (fs_c210 (d := d) hg hw hZ2.1 hB hx6 (show l ≤ 10 by omega) hH.2.2.2.2.1) (by omega)) (fun rv hcc hq => ?_)
        obtain ⟨rfl, e9⟩ := hq
        rw [e9]
        clear e9
        show kc_Ev g (d + (k + 1) + 4) wk_m118 _ 57 [(4, .inl (Int32.ofNat x)), (3, .inl (Int32.ofNat (E l))), (2, .inl (Int32.ofNat (F l))), (0, .inr (.inr (.inl (some 220)))), (1, .inl (Int32.ofNat l))] [.inl (kp_b (ms_rep (fs_cap B) (fs_al B) l c x))] h
        refine kx_go 1 (pc' := (if kc_cnd .eq (kp_b (ms_rep (fs_cap B) (fs_al B) l c x)).toInt 0 then 63 else 60)) (L' := [(4, .inl (Int32.ofNat x)), (3, .inl (Int32.ofNat (E l))), (2, .inl (Int32.ofNat (F l))), (0, .inr (.inr (.inl (some 220)))), (1, .inl (Int32.ofNat l))]) (S' := []) (h' := h) (by with_unfolding_all rfl) ?_
        cases e1 : ms_rep (fs_cap B) (fs_al B) l c x with
        | true =>
          rw [if_neg fa_b0t]
          refine kx_go 1 (pc' := 136) (L' := [(4, .inl (Int32.ofNat x)), (3, .inl (Int32.ofNat (E l))), (2, .inl (Int32.ofNat (F l))), (0, .inr (.inr (.inl (some 220)))), (1, .inl (Int32.ofNat l))]) (S' := []) (h' := h) (by with_unfolding_all rfl) ?_
          exact next h (by rw [fs_sb1_r e1]; exact hH)
        | false =>
          rw [if_pos (kx_b0.mpr rfl)]
          have off : ∀ (h : kc_H) (S2 : ms_S), fs_H h0 F E W L (ms_u c l x) (l + 1) S2 h → fs_sb1 B F E W L M n k l c x (ms_for (fs_sb1 B F E W L M n k l c) x S) = S2 → kc_Ev g (d + (k + 1) + 4) wk_m118 (fun rv h' => rv = none ∧ fs_H h0 F E W L c l (fs_sk B F E W L M n (k + 1) l c S) h') 115 [(4, .inl (Int32.ofNat x)), (3, .inl (Int32.ofNat (E l))), (2, .inl (Int32.ofNat (F l))), (0, .inr (.inr (.inl (some 220)))), (1, .inl (Int32.ofNat l))] [] h := by
            intro h S2 hH eS
            have hw := hH.1
            have e5 : ms_u c l x l = x := ms_ue
            have hin := ms_h_in (c := ms_u c l x) (l := l) e5
            have hhl2 := ms_h_le (c := ms_u c l x) (m := x / 2) (l + 1)
            have hrl : h 222 l = .inl (Int32.ofNat (ms_u c l x l)) := hH.2.2.2.1 l (by omega)
            have hm3 : x / 2 < 3 := by omega
            refine kx_go 1 (pc' := 116) (L' := [(4, .inl (Int32.ofNat x)), (3, .inl (Int32.ofNat (E l))), (2, .inl (Int32.ofNat (F l))), (0, .inr (.inr (.inl (some 220)))), (1, .inl (Int32.ofNat l))]) (S' := [.inr (.inr (.inl (some 220)))]) (h' := h) (by with_unfolding_all rfl) ?_
            refine kx_getf (c := 220) (v := .inr (.inr (.inl (some 223)))) rfl (by decide) (kx_ofr (hw _ _ _ fs_k220_8)) ?_
            refine kx_go 4 (pc' := 124) (L' := [(4, .inl (Int32.ofNat x)), (3, .inl (Int32.ofNat (E l))), (2, .inl (Int32.ofNat (F l))), (0, .inr (.inr (.inl (some 220)))), (1, .inl (Int32.ofNat l))]) (S' := [.inl ((Int32.ofNat x) >>> ((Int32.ofNat 1) &&& 31)), .inr (.inr (.inl (some 223))), .inl ((Int32.ofNat x) >>> ((Int32.ofNat 1) &&& 31)), .inr (.inr (.inl (some 223)))]) (h' := h) (by with_unfolding_all rfl) ?_
            rw [fs_shr x hx6]
            refine kx_iald (c := 223) (j := x / 2) (m := 3) (v := .inl (Int32.ofNat (ms_h (ms_u c l x) (x / 2) (l + 1)))) rfl rfl (by decide) (by decide) (by omega) (hH.2.2.2.2.1 (x / 2) hm3) ?_
            refine kx_go 2 (pc' := 127) (L' := [(4, .inl (Int32.ofNat x)), (3, .inl (Int32.ofNat (E l))), (2, .inl (Int32.ofNat (F l))), (0, .inr (.inr (.inl (some 220)))), (1, .inl (Int32.ofNat l))]) (S' := [.inl ((Int32.ofNat (ms_h (ms_u c l x) (x / 2) (l + 1))) - (Int32.ofNat 1)), .inl (Int32.ofNat (x / 2)), .inr (.inr (.inl (some 223)))]) (h' := h) (by with_unfolding_all rfl) ?_
            rw [hin, kx_sub (by omega), Nat.add_sub_cancel]
            refine kx_iast (c := 223) (j := x / 2) (m := 3) rfl rfl (by decide) (by decide) (by omega) ?_
            have hw1 : kd_wt kd_ty (kc_upd h 223 (x / 2) (.inl (Int32.ofNat (ms_h (ms_u c l x) (x / 2) l)))) := fa_wa (fs_k2x.2.2.1 (x / 2) hm3) hw
            have hZ3 : fs_Z B F E co W L n (kc_upd h 223 (x / 2) (.inl (Int32.ofNat (ms_h (ms_u c l x) (x / 2) l)))) := fs_Z_f hL (fun a y h1 h2 => (fu_ne (by omega)).trans (hH.2.1 a y h1 h2)) hZ
            have hbo1 : fs_bo (ms_v W (fs_O F E)) (ms_v (fun _ _ => 1) (fs_O F E)) (ms_u c l x) (fun _ => l + 1) (kc_upd h 223 (x / 2) (.inl (Int32.ofNat (ms_h (ms_u c l x) (x / 2) l)))) := fs_bo_f (fun a y h1 h2 => fu_ne (by omega)) hH.2.2.1
            refine kx_go 5 (pc' := 133) (L' := [(4, .inl (Int32.ofNat x)), (3, .inl (Int32.ofNat (E l))), (2, .inl (Int32.ofNat (F l))), (0, .inr (.inr (.inl (some 220)))), (1, .inl (Int32.ofNat l))]) (S' := [.inl (Int32.ofInt (-1)), .inl (Int32.ofNat (E l)), .inl (Int32.ofNat (F l)), .inl (Int32.ofNat l), .inr (.inr (.inl (some 220)))]) (h' := (kc_upd h 223 (x / 2) (.inl (Int32.ofNat (ms_h (ms_u c l x) (x / 2) l))))) (by with_unfolding_all rfl) ?_
            refine kc_call_rule (M2 := wk_m205) (av := [.inr (.inr (.inl (some 220))), .inl (Int32.ofNat l), .inl (Int32.ofNat (F l)), .inl (Int32.ofNat (E l)), .inl (Int32.ofInt (-1))]) (r := []) rfl rfl (kc_Con_le (fs_c205d (d := d) (c := ms_u c l x) hg hw1 hb hZ3.2.1 hlL (by rw [e5]; exact hx6) ((fu_ne (by omega)).trans hrl) hbo1) (by omega)) (fun rv h2 hq => ?_)
            obtain ⟨rfl, hw2, hbo2, hF2⟩ := hq
            show kc_Ev g (d + (k + 1) + 4) wk_m118 _ 136 [(4, .inl (Int32.ofNat x)), (3, .inl (Int32.ofNat (E l))), (2, .inl (Int32.ofNat (F l))), (0, .inr (.inr (.inl (some 220)))), (1, .inl (Int32.ofNat l))] [] h2
            exact next h2 (by
              rw [eS]
              exact fs_H_c (c := ms_u c l x) (fun j hj => (ms_un (by omega)).symm) (fs_H_off e5 hx6 hH hw2 hbo2 hF2))
          refine kx_go 1 (pc' := 64) (L' := [(4, .inl (Int32.ofNat x)), (3, .inl (Int32.ofNat (E l))), (2, .inl (Int32.ofNat (F l))), (0, .inr (.inr (.inl (some 220)))), (1, .inl (Int32.ofNat l))]) (S' := [.inr (.inr (.inl (some 220)))]) (h' := h) (by with_unfolding_all rfl) ?_
          refine kx_getf (c := 220) (v := .inr (.inr (.inl (some 222)))) rfl (by decide) (kx_ofr (hw _ _ _ fs_k220_7)) ?_
          refine kx_go 2 (pc' := 70) (L' := [(4, .inl (Int32.ofNat x)), (3, .inl (Int32.ofNat (E l))), (2, .inl (Int32.ofNat (F l))), (0, .inr (.inr (.inl (some 220)))), (1, .inl (Int32.ofNat l))]) (S' := [.inl (Int32.ofNat x), .inl (Int32.ofNat l), .inr (.inr (.inl (some 222)))]) (h' := h) (by with_unfolding_all rfl) ?_
          refine kx_iast (c := 222) (j := l) (m := 10) rfl rfl (by decide) (by decide) (by omega) ?_
          have e5 : ms_u c l x l = x := ms_ue
          have H1 := fs_H_row (show l < 10 by omega) hx6 hH
          have er : (kc_upd h 222 l (.inl (Int32.ofNat x))) 222 l = .inl (Int32.ofNat x) := fu_eq
          generalize kc_upd h 222 l (.inl (Int32.ofNat x)) = h1 at H1 er ⊢
          have hw1 := H1.1
          have hZ3 := fs_Z_f hL H1.2.1 hZ
          refine kx_go 5 (pc' := 76) (L' := [(4, .inl (Int32.ofNat x)), (3, .inl (Int32.ofNat (E l))), (2, .inl (Int32.ofNat (F l))), (0, .inr (.inr (.inl (some 220)))), (1, .inl (Int32.ofNat l))]) (S' := [.inl (Int32.ofNat 1), .inl (Int32.ofNat (E l)), .inl (Int32.ofNat (F l)), .inl (Int32.ofNat l), .inr (.inr (.inl (some 220)))]) (h' := h1) (by with_unfolding_all rfl) ?_
          refine kc_call_rule (M2 := wk_m205) (av := [.inr (.inr (.inl (some 220))), .inl (Int32.ofNat l), .inl (Int32.ofNat (F l)), .inl (Int32.ofNat (E l)), .inl (Int32.ofNat 1)]) (r := []) rfl rfl (kc_Con_le (fs_c205u (d := d) (c := ms_u c l x) hg hw1 hb hZ3.2.1 hlL (by rw [e5]; exact hx6) (by rw [e5]; exact er) H1.2.2.1) (by omega)) (fun rv h2 hq => ?_)
          obtain ⟨rfl, hw2, hbo2, hF2⟩ := hq
          show kc_Ev g (d + (k + 1) + 4) wk_m118 _ 79 [(4, .inl (Int32.ofNat x)), (3, .inl (Int32.ofNat (E l))), (2, .inl (Int32.ofNat (F l))), (0, .inr (.inr (.inl (some 220)))), (1, .inl (Int32.ofNat l))] [] h2
          have hin := ms_h_in (c := ms_u c l x) (l := l) e5
          have hhl2 := ms_h_le (c := ms_u c l x) (m := x / 2) (l + 1)
          have hm3 : x / 2 < 3 := by omega
          have e223 : h2 223 (x / 2) = .inl (Int32.ofNat (ms_h (ms_u c l x) (x / 2) l)) := (hF2 _ _ (by decide)).trans (H1.2.2.2.2.1 (x / 2) hm3)
          refine kx_go 1 (pc' := 80) (L' := [(4, .inl (Int32.ofNat x)), (3, .inl (Int32.ofNat (E l))), (2, .inl (Int32.ofNat (F l))), (0, .inr (.inr (.inl (some 220)))), (1, .inl (Int32.ofNat l))]) (S' := [.inr (.inr (.inl (some 220)))]) (h' := h2) (by with_unfolding_all rfl) ?_
          refine kx_getf (c := 220) (v := .inr (.inr (.inl (some 223)))) rfl (by decide) (kx_ofr (hw2 _ _ _ fs_k220_8)) ?_
          refine kx_go 4 (pc' := 88) (L' := [(4, .inl (Int32.ofNat x)), (3, .inl (Int32.ofNat (E l))), (2, .inl (Int32.ofNat (F l))), (0, .inr (.inr (.inl (some 220)))), (1, .inl (Int32.ofNat l))]) (S' := [.inl ((Int32.ofNat x) >>> ((Int32.ofNat 1) &&& 31)), .inr (.inr (.inl (some 223))), .inl ((Int32.ofNat x) >>> ((Int32.ofNat 1) &&& 31)), .inr (.inr (.inl (some 223)))]) (h' := h2) (by with_unfolding_all rfl) ?_
          rw [fs_shr x hx6]
          refine kx_iald (c := 223) (j := x / 2) (m := 3) (v := .inl (Int32.ofNat (ms_h (ms_u c l x) (x / 2) l))) rfl rfl (by decide) (by decide) (by omega) e223 ?_
          refine kx_go 2 (pc' := 91) (L' := [(4, .inl (Int32.ofNat x)), (3, .inl (Int32.ofNat (E l))), (2, .inl (Int32.ofNat (F l))), (0, .inr (.inr (.inl (some 220)))), (1, .inl (Int32.ofNat l))]) (S' := [.inl ((Int32.ofNat (ms_h (ms_u c l x) (x / 2) l)) + (Int32.ofNat 1)), .inl (Int32.ofNat (x / 2)), .inr (.inr (.inl (some 223)))]) (h' := h2) (by with_unfolding_all rfl) ?_
          rw [kx_add, ← hin]
          refine kx_iast (c := 223) (j := x / 2) (m := 3) rfl rfl (by decide) (by decide) (by omega) ?_
          have H3 := fs_H_on (show l < 10 by omega) e5 hx6 er H1 hw2 hbo2 hF2
          generalize (kc_upd h2 223 (x / 2) (.inl (Int32.ofNat (ms_h (ms_u c l x) (x / 2) (l + 1))))) = h3 at H3 ⊢
          have hw3 := H3.1
          have hZ4 := fs_Z_f hL H3.2.1 hZ
          have hr3 : h3 222 l = .inl (Int32.ofNat (ms_u c l x l)) := H3.2.2.2.1 l (by omega)
          refine kx_go 2 (pc' := 94) (L' := [(4, .inl (Int32.ofNat x)), (3, .inl (Int32.ofNat (E l))), (2, .inl (Int32.ofNat (F l))), (0, .inr (.inr (.inl (some 220)))), (1, .inl (Int32.ofNat l))]) (S' := [.inl (Int32.ofNat l), .inr (.inr (.inl (some 220)))]) (h' := h3) (by with_unfolding_all rfl) ?_
          refine kc_call_rule (M2 := wk_m206) (av := [.inr (.inr (.inl (some 220))), .inl (Int32.ofNat l)]) (r := []) rfl rfl (kc_Con_le (fs_c206 (d := d) (c := ms_u c l x) hg hw3 hZ4.1 hB hb hZ4.2.1 hlL (by rw [e5]; exact hx6) hr3 H3.2.2.1) (by omega)) (fun rv hcc hq => ?_)
          obtain ⟨rfl, e9⟩ := hq
          rw [e9]
          clear e9
          show kc_Ev g (d + (k + 1) + 4) wk_m118 _ 97 [(4, .inl (Int32.ofNat x)), (3, .inl (Int32.ofNat (E l))), (2, .inl (Int32.ofNat (F l))), (0, .inr (.inr (.inl (some 220)))), (1, .inl (Int32.ofNat l))] [.inl (kp_b (ms_ok W (fs_O F E) (fs_cap B) (fs_most B) n l (ms_u c l x)))] h3
          refine kx_go 1 (pc' := (if kc_cnd .eq (kp_b (ms_ok W (fs_O F E) (fs_cap B) (fs_most B) n l (ms_u c l x))).toInt 0 then 115 else 100)) (L' := [(4, .inl (Int32.ofNat x)), (3, .inl (Int32.ofNat (E l))), (2, .inl (Int32.ofNat (F l))), (0, .inr (.inr (.inl (some 220)))), (1, .inl (Int32.ofNat l))]) (S' := []) (h' := h3) (by with_unfolding_all rfl) ?_
          cases e2 : ms_ok W (fs_O F E) (fs_cap B) (fs_most B) n l (ms_u c l x) with
          | false =>
            rw [if_pos (kx_b0.mpr rfl)]
            exact off h3 _ H3 (fs_sb1_n e1 (fun q => by rw [e2] at q; cases q.1))
          | true =>
            rw [if_neg fa_b0t]
            refine kx_go 2 (pc' := 102) (L' := [(4, .inl (Int32.ofNat x)), (3, .inl (Int32.ofNat (E l))), (2, .inl (Int32.ofNat (F l))), (0, .inr (.inr (.inl (some 220)))), (1, .inl (Int32.ofNat l))]) (S' := [.inl (Int32.ofNat l), .inr (.inr (.inl (some 220)))]) (h' := h3) (by with_unfolding_all rfl) ?_
            refine kc_call_rule (M2 := wk_m212) (av := [.inr (.inr (.inl (some 220))), .inl (Int32.ofNat l)]) (r := []) rfl rfl (kc_Con_le (fs_c212 (d := d) (c := ms_u c l x) hg hw3 hZ4.1 hb hZ4.2.1 hM eM hSx hZ4.2.2.1 H3.2.2.2.2.2.1 hZ4.2.2.2 hlL H3.2.2.1) (by omega)) (fun rv hcc hq => ?_)
            obtain ⟨rfl, e9⟩ := hq
            rw [e9]
            clear e9
            show kc_Ev g (d + (k + 1) + 4) wk_m118 _ 105 [(4, .inl (Int32.ofNat x)), (3, .inl (Int32.ofNat (E l))), (2, .inl (Int32.ofNat (F l))), (0, .inr (.inr (.inl (some 220)))), (1, .inl (Int32.ofNat l))] [.inl (kp_b (ms_may W (fs_O F E) L M n l (ms_u c l x) (ms_for (fs_sb1 B F E W L M n k l c) x S).1))] h3
            refine kx_go 1 (pc' := (if kc_cnd .eq (kp_b (ms_may W (fs_O F E) L M n l (ms_u c l x) (ms_for (fs_sb1 B F E W L M n k l c) x S).1)).toInt 0 then 115 else 108)) (L' := [(4, .inl (Int32.ofNat x)), (3, .inl (Int32.ofNat (E l))), (2, .inl (Int32.ofNat (F l))), (0, .inr (.inr (.inl (some 220)))), (1, .inl (Int32.ofNat l))]) (S' := []) (h' := h3) (by with_unfolding_all rfl) ?_
            cases e3 : ms_may W (fs_O F E) L M n l (ms_u c l x) (ms_for (fs_sb1 B F E W L M n k l c) x S).1 with
            | false =>
              rw [if_pos (kx_b0.mpr rfl)]
              exact off h3 _ H3 (fs_sb1_n e1 (fun q => by rw [e3] at q; cases q.2))
            | true =>
              rw [if_neg fa_b0t]
              refine kx_go 4 (pc' := 112) (L' := [(4, .inl (Int32.ofNat x)), (3, .inl (Int32.ofNat (E l))), (2, .inl (Int32.ofNat (F l))), (0, .inr (.inr (.inl (some 220)))), (1, .inl (Int32.ofNat l))]) (S' := [.inl ((Int32.ofNat l) + (Int32.ofNat 1)), .inr (.inr (.inl (some 220)))]) (h' := h3) (by with_unfolding_all rfl) ?_
              rw [kx_add]
              refine kc_call_rule (M2 := wk_m118) (av := [.inr (.inr (.inl (some 220))), .inl (Int32.ofNat (l + 1))]) (r := []) rfl rfl (kc_Con_le (ih (l + 1) (ms_u c l x) (ms_for (fs_sb1 B F E W L M n k l c) x S) h3 (by omega) (fun j hj => by
                  by_cases e : j = l
                  · rw [e, e5]; omega
                  · rw [ms_un e]; exact hc j (by omega)) hSx H3) (by omega)) (fun rv h4 hq => ?_)
              obtain ⟨rfl, H4⟩ := hq
              show kc_Ev g (d + (k + 1) + 4) wk_m118 _ 115 [(4, .inl (Int32.ofNat x)), (3, .inl (Int32.ofNat (E l))), (2, .inl (Int32.ofNat (F l))), (0, .inr (.inr (.inl (some 220)))), (1, .inl (Int32.ofNat l))] [] h4
              exact off h4 _ H4 (fs_sb1_g e1 ⟨e2, e3⟩)
    have hZ2 := fs_Z_f hL hH.2.1 hZ
    have hw := hH.1
    refine kc_Con_new hg (M := wk_m118) rfl rfl rfl (show 2 ≤ 5 by decide) ?_
    refine kx_go 2 (pc' := 2) (L' := [(0, .inr (.inr (.inl (some 220)))), (1, .inl (Int32.ofNat l))]) (S' := [.inr (.inr (.inl (some 220))), .inl (Int32.ofNat l)]) (h' := h) (by with_unfolding_all rfl) ?_
    refine kx_getf (c := 220) (v := .inr (.inr (.inl (some 1)))) rfl (by decide) (kx_ofr (hw _ _ _ fs_k220_0)) ?_
    refine kx_getf (c := 1) (v := .inl (Int32.ofNat L)) rfl (by decide) ((fu_C0 hZ2.1).2.2.1.trans (by rw [eL])) ?_
    refine kx_go 1 (pc' := (if kc_cnd .lt (Int32.ofNat l).toInt (Int32.ofNat L).toInt then 16 else 11)) (L' := [(0, .inr (.inr (.inl (some 220)))), (1, .inl (Int32.ofNat l))]) (S' := []) (h' := h) (by with_unfolding_all rfl) ?_
    rw [if_pos ((kx_lt (by omega) (by omega)).mpr hlL)]
    refine kx_go 1 (pc' := 17) (L' := [(0, .inr (.inr (.inl (some 220)))), (1, .inl (Int32.ofNat l))]) (S' := [.inr (.inr (.inl (some 220)))]) (h' := h) (by with_unfolding_all rfl) ?_
    refine kx_getf (c := 220) (v := .inr (.inr (.inl (some 204)))) rfl (by decide) (kx_ofr (hw _ _ _ fs_k220_1)) ?_
    refine kx_go 1 (pc' := 21) (L' := [(0, .inr (.inr (.inl (some 220)))), (1, .inl (Int32.ofNat l))]) (S' := [.inl (Int32.ofNat l), .inr (.inr (.inl (some 204)))]) (h' := h) (by with_unfolding_all rfl) ?_
    refine kc_call_rule (M2 := wk_m203) (av := [.inr (.inr (.inl (some 204))), .inl (Int32.ofNat l)]) (r := []) rfl rfl (kc_Con_le (fs_c203 (d := d) hg hw hb hZ2.2.1 hlL) (by omega)) (fun rv hcc hq => ?_)
    obtain ⟨rfl, e9⟩ := hq
    rw [e9]
    clear e9
    show kc_Ev g (d + (k + 1) + 4) wk_m118 _ 24 [(0, .inr (.inr (.inl (some 220)))), (1, .inl (Int32.ofNat l))] [.inl (Int32.ofNat (F l))] h
    refine kx_go 2 (pc' := 26) (L' := [(2, .inl (Int32.ofNat (F l))), (0, .inr (.inr (.inl (some 220)))), (1, .inl (Int32.ofNat l))]) (S' := [.inr (.inr (.inl (some 220)))]) (h' := h) (by with_unfolding_all rfl) ?_
    refine kx_getf (c := 220) (v := .inr (.inr (.inl (some 204)))) rfl (by decide) (kx_ofr (hw _ _ _ fs_k220_1)) ?_
    refine kx_go 1 (pc' := 30) (L' := [(2, .inl (Int32.ofNat (F l))), (0, .inr (.inr (.inl (some 220)))), (1, .inl (Int32.ofNat l))]) (S' := [.inl (Int32.ofNat l), .inr (.inr (.inl (some 204)))]) (h' := h) (by with_unfolding_all rfl) ?_
    refine kc_call_rule (M2 := wk_m204) (av := [.inr (.inr (.inl (some 204))), .inl (Int32.ofNat l)]) (r := []) rfl rfl (kc_Con_le (fs_c204 (d := d) hg hw hb hZ2.2.1 hlL) (by omega)) (fun rv hcc hq => ?_)
    obtain ⟨rfl, e9⟩ := hq
    rw [e9]
    clear e9
    show kc_Ev g (d + (k + 1) + 4) wk_m118 _ 33 [(2, .inl (Int32.ofNat (F l))), (0, .inr (.inr (.inl (some 220)))), (1, .inl (Int32.ofNat l))] [.inl (Int32.ofNat (E l))] h
    refine kx_go 3 (pc' := 37) (L' := [(4, .inl (Int32.ofNat 0)), (3, .inl (Int32.ofNat (E l))), (2, .inl (Int32.ofNat (F l))), (0, .inr (.inr (.inl (some 220)))), (1, .inl (Int32.ofNat l))]) (S' := []) (h' := h) (by with_unfolding_all rfl) ?_
    exact loop (2 * M) 0 h (by omega) (by omega) hH
end
section
-- 99.zq5
/-! ===== the search, class: how it begins ===== -/
def fs_fl (h : kc_H) (c m : Nat) (v : Int32) : kc_H := fun a b => if a = c ∧ b < m then .inl v else h a b
theorem fs_fl_0 {h : kc_H} {c : Nat} {v : Int32} : fs_fl h c 0 v = h := by
  funext a b
  exact if_neg (fun q => by omega)
theorem fs_fl_s {h : kc_H} {c i : Nat} {v : Int32} : kc_upd (fs_fl h c i v) c i (.inl v) = fs_fl h c (i + 1) v := by
  funext a b
  by_cases e : a = c ∧ b = i
  · rw [e.1, e.2, fu_eq]
    exact (if_pos ⟨rfl, Nat.lt_succ_self i⟩).symm
  · rw [fu_ne e]
    unfold fs_fl
    by_cases e2 : a = c ∧ b < i
    · rw [if_pos e2, if_pos ⟨e2.1, by omega⟩]
    · rw [if_neg e2, if_neg (fun q => by omega)]
theorem fs_fl_i {h : kc_H} {c m b : Nat} {v : Int32} (hb : b < m) : fs_fl h c m v c b = .inl v := if_pos ⟨rfl, hb⟩
theorem fs_fl_o {h : kc_H} {c m a b : Nat} {v : Int32} (ha : ¬ a = c) : fs_fl h c m v a b = h a b := if_neg (fun q => ha q.1)
theorem fs_fl_wt {h : kc_H} {c m : Nat} {v : Int32} (hw : kd_wt kd_ty h) (hk : ∀ i, i < m → ∃ a b, kd_rn (kd_ty c) i = some (0, a, b) ∧ a ≤ kd_nb v ∧ kd_nb v ≤ b) : kd_wt kd_ty (fs_fl h c m v) := fun c' i t ht => by
  unfold fs_fl
  by_cases e : c' = c ∧ i < m
  · rw [if_pos e]
    obtain ⟨a, b, k1, k2, k3⟩ := hk i e.2
    rw [e.1, k1] at ht
    cases ht
    exact ⟨v, rfl, k2, k3⟩
  · rw [if_neg e]
    exact hw c' i t ht
theorem fs_any {v : Int32} : 0 ≤ kd_nb v ∧ kd_nb v ≤ 4294967295 := ⟨Nat.zero_le _, kd_nb_M v⟩
set_option maxRecDepth 20000 in
theorem fs_filll {g : kc_G} {d : Nat} {h : kc_H} {c m : Nat} {v : Int32} (hs : kc_shp c = some (0, 0, m)) (hc : c < kc_N) (hm : m < 1000) : ∀ u i : Nat, m - i = u → i ≤ m → kc_Ev g d wk_m3 (fun rv h' => rv = none ∧ h' = fs_fl h c m v) 5 [(3, .inl (Int32.ofNat m)), (2, .inl (Int32.ofNat i)), (0, .inr (.inr (.inl (some (c))))), (1, .inl (v))] [] (fs_fl h c i v) := by
  intro u
  induction u with
  | zero =>
    intro i hu hi
    refine kx_go 3 (pc' := (if kc_cnd .ge (Int32.ofNat i).toInt (Int32.ofNat m).toInt then 20 else 10)) (L' := [(3, .inl (Int32.ofNat m)), (2, .inl (Int32.ofNat i)), (0, .inr (.inr (.inl (some (c))))), (1, .inl (v))]) (S' := []) (h' := (fs_fl h c i v)) (by with_unfolding_all rfl) ?_
    rw [if_pos ((kx_ge (by omega) (by omega)).mpr (by omega))]
    obtain rfl : i = m := by omega
    exact kc_ret_ok rfl (rv := none) rfl ⟨rfl, rfl⟩
  | succ u ih =>
    intro i hu hi
    refine kx_go 3 (pc' := (if kc_cnd .ge (Int32.ofNat i).toInt (Int32.ofNat m).toInt then 20 else 10)) (L' := [(3, .inl (Int32.ofNat m)), (2, .inl (Int32.ofNat i)), (0, .inr (.inr (.inl (some (c))))), (1, .inl (v))]) (S' := []) (h' := (fs_fl h c i v)) (by with_unfolding_all rfl) ?_
    rw [if_neg (fun q => by have := (kx_ge (by omega) (by omega)).mp q; omega)]
    refine kx_go 3 (pc' := 13) (L' := [(3, .inl (Int32.ofNat m)), (2, .inl (Int32.ofNat i)), (0, .inr (.inr (.inl (some (c))))), (1, .inl (v))]) (S' := [.inl (v), .inl (Int32.ofNat i), .inr (.inr (.inl (some (c))))]) (h' := (fs_fl h c i v)) (by with_unfolding_all rfl) ?_
    refine kx_iast (c := c) (j := i) (m := m) rfl hs hc (by omega) (by omega) ?_
    rw [fs_fl_s]
    refine kx_go 2 (pc' := 5) (L' := [(2, .inl ((Int32.ofNat i) + Int32.ofInt 1)), (3, .inl (Int32.ofNat m)), (0, .inr (.inr (.inl (some (c))))), (1, .inl (v))]) (S' := []) (h' := (fs_fl h c (i + 1) v)) (by with_unfolding_all rfl) ?_
    rw [kx_inc]
    refine kf_lo (L := [(3, .inl (Int32.ofNat m)), (2, .inl (Int32.ofNat (i + 1))), (0, .inr (.inr (.inl (some (c))))), (1, .inl (v))]) (by intro q hq; simp only [List.mem_cons, List.not_mem_nil, or_false] at hq; rcases hq with rfl | rfl | rfl | rfl <;> rfl) ?_
    exact ih (i + 1) (by omega) (by omega)
set_option maxRecDepth 20000 in
theorem fs_fill {g : kc_G} {d : Nat} {h : kc_H} {c m : Nat} {v : Int32} (hg : kc_ok g) (hs : kc_shp c = some (0, 0, m)) (hc : c < kc_N) (hm : m < 1000) : kc_Con g (d + 1) 3 [.inr (.inr (.inl (some c))), .inl v] h (fun rv h' => rv = none ∧ h' = fs_fl h c m v) := by
  refine kc_Con_new hg (M := wk_m3) rfl rfl rfl (show 2 ≤ 4 by decide) ?_
  refine kx_go 3 (pc' := 3) (L' := [(2, .inl (Int32.ofNat 0)), (0, .inr (.inr (.inl (some (c))))), (1, .inl (v))]) (S' := [.inr (.inr (.inl (some (c))))]) (h' := h) (by with_unfolding_all rfl) ?_
  refine kx_alen (c := c) (m := m) (t0 := 0) rfl hs hc ?_
  refine kx_go 1 (pc' := 5) (L' := [(3, .inl (Int32.ofNat m)), (2, .inl (Int32.ofNat 0)), (0, .inr (.inr (.inl (some (c))))), (1, .inl (v))]) (S' := []) (h' := h) (by with_unfolding_all rfl) ?_
  refine kf_lo (L := [(3, .inl (Int32.ofNat m)), (2, .inl (Int32.ofNat 0)), (0, .inr (.inr (.inl (some (c))))), (1, .inl (v))]) (by intro q hq; simp only [List.mem_cons, List.not_mem_nil, or_false] at hq; rcases hq with rfl | rfl | rfl | rfl <;> rfl) ?_
  have k := fs_filll (g := g) (d := d) (h := h) (v := v) hs hc hm m 0 rfl (Nat.zero_le _)
  rw [fs_fl_0] at k
  exact k
set_option maxRecDepth 20000 in
theorem fs_c102l {g : kc_G} {d : Nat} {h0 : kc_H} (hg : kc_ok g) : ∀ (u i : Nat) (h : kc_H), 5 - i = u → i ≤ 5 → kd_wt kd_ty h → (∀ j, j < i → ∀ s, s < 6 → h (225 + j) s = .inl (Int32.ofNat 0) ∧ h (231 + j) s = .inl (Int32.ofNat 0)) → (∀ a x, ¬ (225 ≤ a ∧ a ≤ 235) → h a x = h0 a x) → kc_Ev g (d + 1) wk_m102 (fun rv h' => rv = none ∧ kd_wt kd_ty h' ∧ (∀ i, i < 5 → ∀ s, s < 6 → h' (225 + i) s = .inl (Int32.ofNat 0) ∧ h' (231 + i) s = .inl (Int32.ofNat 0)) ∧ ∀ a x, ¬ (225 ≤ a ∧ a ≤ 235) → h' a x = h0 a x) 2 [(1, .inl (Int32.ofNat i)), (0, .inr (.inr (.inl (some 220))))] [] h := by
  intro u
  induction u with
  | zero =>
    intro i h hu hi hw hz hF
    refine kx_go 3 (pc' := (if kc_cnd .ge (Int32.ofNat i).toInt (Int32.ofNat 5).toInt then 33 else 7)) (L' := [(1, .inl (Int32.ofNat i)), (0, .inr (.inr (.inl (some 220))))]) (S' := []) (h' := h) (by with_unfolding_all rfl) ?_
    rw [if_pos ((kx_ge (by omega) (by omega)).mpr (by omega))]
    exact kc_ret_ok rfl (rv := none) rfl ⟨rfl, hw, fun j hj => hz j (by omega), hF⟩
  | succ u ih =>
    intro i h hu hi hw hz hF
    refine kx_go 3 (pc' := (if kc_cnd .ge (Int32.ofNat i).toInt (Int32.ofNat 5).toInt then 33 else 7)) (L' := [(1, .inl (Int32.ofNat i)), (0, .inr (.inr (.inl (some 220))))]) (S' := []) (h' := h) (by with_unfolding_all rfl) ?_
    rw [if_neg (fun q => by have := (kx_ge (by omega) (by omega)).mp q; omega)]
    refine kx_go 1 (pc' := 8) (L' := [(1, .inl (Int32.ofNat i)), (0, .inr (.inr (.inl (some 220))))]) (S' := [.inr (.inr (.inl (some 220)))]) (h' := h) (by with_unfolding_all rfl) ?_
    refine kx_getf (c := 220) (v := .inr (.inr (.inl (some 224)))) rfl (by decide) (kx_ofr (hw _ _ _ fs_k220_9)) ?_
    refine kx_go 1 (pc' := 12) (L' := [(1, .inl (Int32.ofNat i)), (0, .inr (.inr (.inl (some 220))))]) (S' := [.inl (Int32.ofNat i), .inr (.inr (.inl (some 224)))]) (h' := h) (by with_unfolding_all rfl) ?_
    refine kx_aald rfl (c := 224) (j := i) (m := 5) (t0 := 2) (v := .inr (.inr (.inl (some (225 + i))))) rfl (by decide) (by decide) (by decide) (by omega) (kx_ofr (hw _ _ _ (fs_k224 i (by omega)).2)) ?_
    refine kx_go 1 (pc' := 14) (L' := [(1, .inl (Int32.ofNat i)), (0, .inr (.inr (.inl (some 220))))]) (S' := [.inl (Int32.ofNat 0), .inr (.inr (.inl (some (225 + i))))]) (h' := h) (by with_unfolding_all rfl) ?_
    refine kc_call_rule (M2 := wk_m3) (av := [.inr (.inr (.inl (some (225 + i)))), .inl (Int32.ofNat 0)]) (r := []) rfl rfl (kc_Con_le (fs_fill (d := 0) (c := 225 + i) (m := 6) (v := Int32.ofNat 0) hg (fs_k224 i (by omega)).1.1 (fs_k224 i (by omega)).1.2 (by decide)) (by omega)) (fun rv h2 hq => ?_)
    obtain ⟨rfl, eh⟩ := hq
    show kc_Ev g (d + 1) wk_m102 _ 17 [(1, .inl (Int32.ofNat i)), (0, .inr (.inr (.inl (some 220))))] [] h2
    subst eh
    have hw1 : kd_wt kd_ty (fs_fl h (225 + i) 6 (Int32.ofNat 0)) := fs_fl_wt hw (fun j hj => ⟨_, _, fs_kb.1 i (by omega) j hj, fs_any⟩)
    refine kx_go 1 (pc' := 18) (L' := [(1, .inl (Int32.ofNat i)), (0, .inr (.inr (.inl (some 220))))]) (S' := [.inr (.inr (.inl (some 220)))]) (h' := (fs_fl h (225 + i) 6 (Int32.ofNat 0))) (by with_unfolding_all rfl) ?_
    refine kx_getf (c := 220) (v := .inr (.inr (.inl (some 230)))) rfl (by decide) (kx_ofr (hw1 _ _ _ fs_k220_10)) ?_
    refine kx_go 1 (pc' := 22) (L' := [(1, .inl (Int32.ofNat i)), (0, .inr (.inr (.inl (some 220))))]) (S' := [.inl (Int32.ofNat i), .inr (.inr (.inl (some 230)))]) (h' := (fs_fl h (225 + i) 6 (Int32.ofNat 0))) (by with_unfolding_all rfl) ?_
    refine kx_aald rfl (c := 230) (j := i) (m := 5) (t0 := 2) (v := .inr (.inr (.inl (some (231 + i))))) rfl (by decide) (by decide) (by decide) (by omega) (kx_ofr (hw1 _ _ _ (fs_k230 i (by omega)).2)) ?_
    refine kx_go 1 (pc' := 24) (L' := [(1, .inl (Int32.ofNat i)), (0, .inr (.inr (.inl (some 220))))]) (S' := [.inl (Int32.ofNat 0), .inr (.inr (.inl (some (231 + i))))]) (h' := (fs_fl h (225 + i) 6 (Int32.ofNat 0))) (by with_unfolding_all rfl) ?_
    refine kc_call_rule (M2 := wk_m3) (av := [.inr (.inr (.inl (some (231 + i)))), .inl (Int32.ofNat 0)]) (r := []) rfl rfl (kc_Con_le (fs_fill (d := 0) (c := 231 + i) (m := 6) (v := Int32.ofNat 0) hg (fs_k230 i (by omega)).1.1 (fs_k230 i (by omega)).1.2 (by decide)) (by omega)) (fun rv h3 hq => ?_)
    obtain ⟨rfl, eh⟩ := hq
    show kc_Ev g (d + 1) wk_m102 _ 27 [(1, .inl (Int32.ofNat i)), (0, .inr (.inr (.inl (some 220))))] [] h3
    subst eh
    have hw2 : kd_wt kd_ty (fs_fl (fs_fl h (225 + i) 6 (Int32.ofNat 0)) (231 + i) 6 (Int32.ofNat 0)) := fs_fl_wt hw1 (fun j hj => ⟨_, _, fs_kb.2 i (by omega) j hj, fs_any⟩)
    refine kx_go 2 (pc' := 2) (L' := [(1, .inl ((Int32.ofNat i) + Int32.ofInt 1)), (0, .inr (.inr (.inl (some 220))))]) (S' := []) (h' := (fs_fl (fs_fl h (225 + i) 6 (Int32.ofNat 0)) (231 + i) 6 (Int32.ofNat 0))) (by with_unfolding_all rfl) ?_
    rw [kx_inc]
    exact ih (i + 1) _ (by omega) (by omega) hw2 (fun j hj t ht => by
      by_cases e : j = i
      · subst e
        exact ⟨(fs_fl_o (by omega)).trans (fs_fl_i ht), fs_fl_i ht⟩
      · exact ⟨(fs_fl_o (by omega)).trans ((fs_fl_o (by omega)).trans (hz j (by omega) t ht).1), (fs_fl_o (by omega)).trans ((fs_fl_o (by omega)).trans (hz j (by omega) t ht).2)⟩) (fun a y ha => (fs_fl_o (by omega)).trans ((fs_fl_o (by omega)).trans (hF a y ha)))
set_option maxRecDepth 20000 in
theorem fs_c102 {g : kc_G} {d : Nat} {h : kc_H} (hg : kc_ok g) (hw : kd_wt kd_ty h) : kc_Con g (d + 2) 102 [.inr (.inr (.inl (some 220)))] h (fun rv h' => rv = none ∧ kd_wt kd_ty h' ∧ (∀ i, i < 5 → ∀ s, s < 6 → h' (225 + i) s = .inl (Int32.ofNat 0) ∧ h' (231 + i) s = .inl (Int32.ofNat 0)) ∧ ∀ a x, ¬ (225 ≤ a ∧ a ≤ 235) → h' a x = h a x) := by
  refine kc_Con_new hg (M := wk_m102) rfl rfl rfl (show 1 ≤ 2 by decide) ?_
  refine kx_go 2 (pc' := 2) (L' := [(1, .inl (Int32.ofNat 0)), (0, .inr (.inr (.inl (some 220))))]) (S' := []) (h' := h) (by with_unfolding_all rfl) ?_
  exact fs_c102l (h0 := h) hg 5 0 h (by omega) (by omega) hw (fun j hj => by omega) (fun a y _ => rfl)
theorem fs_im1 {k : Nat} : Int32.ofInt (((k + 1 : Nat) : Int) - 1) = Int32.ofNat k := by
  rw [show ((k + 1 : Nat) : Int) - 1 = (k : Int) by omega, Int32.ofInt_eq_ofNat]
theorem fs_im2 {k : Nat} : Int32.ofNat k + Int32.ofInt (-1) = Int32.ofInt ((k : Int) - 1) := by
  rw [← Int32.ofInt_eq_ofNat, ← Int32.ofInt_add]
  rfl
theorem fs_im3 {k : Nat} : Int32.ofNat k - Int32.ofNat 1 = Int32.ofInt ((k : Int) - 1) := by
  rw [← Int32.ofInt_eq_ofNat, ← Int32.ofInt_eq_ofNat, ← Int32.ofInt_sub]
  rfl
theorem fs_k237 : ∀ l, l < 11 → ∀ i, i < 5 → kd_rn (kd_ty (237 + l)) i = some (0, 0, 4294967295) := by decide +kernel
def fs_bz (h : kc_H) : Prop := (∀ i, i < 5 → ∀ s, s < 6 → h (225 + i) s = .inl (Int32.ofNat 0) ∧ h (231 + i) s = .inl (Int32.ofNat 0)) ∧ ∀ m, m < 3 → h 223 m = .inl (Int32.ofNat 0)
set_option maxRecDepth 20000 in
theorem fs_c117l {g : kc_G} {d : Nat} {h0 : kc_H} {B : Nat → Int32} {F E : Nat → Nat} {co : Nat → Bool} {W : Nat → Nat → Nat} {L n : Nat} (hg : kc_ok g) (hC0 : fu_C B 1 h0) (hb : fs_Gb F E co W L n) (hG0 : fs_G F E co W L n h0) (eL : B 2 = Int32.ofNat L) : ∀ (k : Nat) (h : kc_H), k ≤ L → kd_wt kd_ty h → fs_bz h → (∀ l, k ≤ l → l ≤ L → ∀ i, i < n → h (237 + l) i = .inl (Int32.ofNat (ms_r (ms_v W (fs_O F E)) i (L - l) l))) → (∀ a x, ¬ (223 ≤ a ∧ a ≤ 247) → h a x = h0 a x) → kc_Ev g (d + 2) wk_m117 (fun rv h' => rv = none ∧ kd_wt kd_ty h' ∧ fs_bz h' ∧ (∀ l, 0 ≤ l → l ≤ L → ∀ i, i < n → h' (237 + l) i = .inl (Int32.ofNat (ms_r (ms_v W (fs_O F E)) i (L - l) l))) ∧ ∀ a x, ¬ (223 ≤ a ∧ a ≤ 247) → h' a x = h0 a x) 38 [(1, .inl (Int32.ofInt ((k : Int) - 1))), (0, .inr (.inr (.inl (some 220))))] [] h := by
  have hL := hb.2.1
  have hn := hb.1
  intro k
  induction k with
  | zero =>
    intro h hk hw hz hst hF
    refine kx_go 2 (pc' := (if kc_cnd .lt (Int32.ofInt (((0 : Nat) : Int) - 1)).toInt 0 then 140 else 42)) (L' := [(1, .inl (Int32.ofInt (((0 : Nat) : Int) - 1))), (0, .inr (.inr (.inl (some 220))))]) (S' := []) (h' := h) (by with_unfolding_all rfl) ?_
    rw [if_pos (fu_ilt.mpr (by decide))]
    exact kc_ret_ok rfl (rv := none) rfl ⟨rfl, hw, hz, hst, hF⟩
  | succ k ih =>
    intro h hk hw hz hst hF
    have hZ2 : fu_C B 1 h ∧ fs_G F E co W L n h := ⟨fs_C_f (fun a x q => hF a x (by omega)) hC0, fs_G_f hL (fun a x q1 q2 => hF a x (by omega)) hG0⟩
    have kl := hb.2.2.1 k (by omega)
    rw [fs_im1]
    refine kx_go 2 (pc' := (if kc_cnd .lt (Int32.ofNat k).toInt 0 then 140 else 42)) (L' := [(1, .inl (Int32.ofNat k)), (0, .inr (.inr (.inl (some 220))))]) (S' := []) (h' := h) (by with_unfolding_all rfl) ?_
    rw [if_neg (fun q => by have := fu_ilt.mp q; rw [kx_ti (by omega)] at this; omega)]
    have inner : ∀ (v i : Nat) (h : kc_H), n - i = v → i ≤ n → kd_wt kd_ty h → fs_bz h → (∀ j, j < i → h (237 + k) j = .inl (Int32.ofNat (ms_r (ms_v W (fs_O F E)) j (L - k) k))) → (∀ l, k + 1 ≤ l → l ≤ L → ∀ i, i < n → h (237 + l) i = .inl (Int32.ofNat (ms_r (ms_v W (fs_O F E)) i (L - l) l))) → (∀ a x, ¬ (223 ≤ a ∧ a ≤ 247) → h a x = h0 a x) → kc_Ev g (d + 2) wk_m117 (fun rv h' => rv = none ∧ kd_wt kd_ty h' ∧ fs_bz h' ∧ (∀ l, 0 ≤ l → l ≤ L → ∀ i, i < n → h' (237 + l) i = .inl (Int32.ofNat (ms_r (ms_v W (fs_O F E)) i (L - l) l))) ∧ ∀ a x, ¬ (223 ≤ a ∧ a ≤ 247) → h' a x = h0 a x) 63 [(4, .inl (Int32.ofNat i)), (3, .inl (Int32.ofNat (E k))), (2, .inl (Int32.ofNat (F k))), (1, .inl (Int32.ofNat k)), (0, .inr (.inr (.inl (some 220))))] [] h := by
      intro v
      induction v with
      | zero =>
        intro i h hv hi hw hz hin hst hF
        have hZ2 : fu_C B 1 h ∧ fs_G F E co W L n h := ⟨fs_C_f (fun a x q => hF a x (by omega)) hC0, fs_G_f hL (fun a x q1 q2 => hF a x (by omega)) hG0⟩
        refine kx_go 2 (pc' := 66) (L' := [(4, .inl (Int32.ofNat i)), (3, .inl (Int32.ofNat (E k))), (2, .inl (Int32.ofNat (F k))), (1, .inl (Int32.ofNat k)), (0, .inr (.inr (.inl (some 220))))]) (S' := [.inr (.inr (.inl (some 220))), .inl (Int32.ofNat i)]) (h' := h) (by with_unfolding_all rfl) ?_
        refine kx_getf (c := 220) (v := .inr (.inr (.inl (some 204)))) rfl (by decide) (kx_ofr (hw _ _ _ fs_k220_1)) ?_
        refine kx_getf (c := 204) (v := .inl (Int32.ofNat n)) rfl (by decide) hZ2.2.1 ?_
        refine kx_go 1 (pc' := (if kc_cnd .ge (Int32.ofNat i).toInt (Int32.ofNat n).toInt then 134 else 75)) (L' := [(4, .inl (Int32.ofNat i)), (3, .inl (Int32.ofNat (E k))), (2, .inl (Int32.ofNat (F k))), (1, .inl (Int32.ofNat k)), (0, .inr (.inr (.inl (some 220))))]) (S' := []) (h' := h) (by with_unfolding_all rfl) ?_
        rw [if_pos ((kx_ge (by omega) (by omega)).mpr (by omega))]
        refine kx_go 2 (pc' := 38) (L' := [(1, .inl ((Int32.ofNat k) + Int32.ofInt (-1))), (4, .inl (Int32.ofNat i)), (3, .inl (Int32.ofNat (E k))), (2, .inl (Int32.ofNat (F k))), (0, .inr (.inr (.inl (some 220))))]) (S' := []) (h' := h) (by with_unfolding_all rfl) ?_
        rw [fs_im2]
        refine kf_lo (L := [(1, .inl (Int32.ofInt ((k : Int) - 1))), (0, .inr (.inr (.inl (some 220))))]) (by intro q hq; simp only [List.mem_cons, List.not_mem_nil, or_false] at hq; rcases hq with rfl | rfl <;> rfl) ?_
        exact ih h (by omega) hw hz (fun l h1 h2 i' hi' => by
          by_cases e : l = k
          · subst e; exact hin i' (by omega)
          · exact hst l (by omega) h2 i' hi') hF
      | succ v ihv =>
        intro i h hv hi hw hz hin hst hF
        have hZ2 : fu_C B 1 h ∧ fs_G F E co W L n h := ⟨fs_C_f (fun a x q => hF a x (by omega)) hC0, fs_G_f hL (fun a x q1 q2 => hF a x (by omega)) hG0⟩
        refine kx_go 2 (pc' := 66) (L' := [(4, .inl (Int32.ofNat i)), (3, .inl (Int32.ofNat (E k))), (2, .inl (Int32.ofNat (F k))), (1, .inl (Int32.ofNat k)), (0, .inr (.inr (.inl (some 220))))]) (S' := [.inr (.inr (.inl (some 220))), .inl (Int32.ofNat i)]) (h' := h) (by with_unfolding_all rfl) ?_
        refine kx_getf (c := 220) (v := .inr (.inr (.inl (some 204)))) rfl (by decide) (kx_ofr (hw _ _ _ fs_k220_1)) ?_
        refine kx_getf (c := 204) (v := .inl (Int32.ofNat n)) rfl (by decide) hZ2.2.1 ?_
        refine kx_go 1 (pc' := (if kc_cnd .ge (Int32.ofNat i).toInt (Int32.ofNat n).toInt then 134 else 75)) (L' := [(4, .inl (Int32.ofNat i)), (3, .inl (Int32.ofNat (E k))), (2, .inl (Int32.ofNat (F k))), (1, .inl (Int32.ofNat k)), (0, .inr (.inr (.inl (some 220))))]) (S' := []) (h' := h) (by with_unfolding_all rfl) ?_
        rw [if_neg (fun q => by have := (kx_ge (by omega) (by omega)).mp q; omega)]
        have er : ms_r (ms_v W (fs_O F E)) i (L - k) k = ms_r (ms_v W (fs_O F E)) i (L - (k + 1)) (k + 1) + ms_v W (fs_O F E) k i := by
          rw [show L - k = L - (k + 1) + 1 by omega]
          rfl
        have put : kc_Ev g (d + 2) wk_m117 (fun rv h' => rv = none ∧ kd_wt kd_ty h' ∧ fs_bz h' ∧ (∀ l, 0 ≤ l → l ≤ L → ∀ i, i < n → h' (237 + l) i = .inl (Int32.ofNat (ms_r (ms_v W (fs_O F E)) i (L - l) l))) ∧ ∀ a x, ¬ (223 ≤ a ∧ a ≤ 247) → h' a x = h0 a x) 105 [(5, .inl (Int32.ofNat (ms_v W (fs_O F E) k i))), (4, .inl (Int32.ofNat i)), (3, .inl (Int32.ofNat (E k))), (2, .inl (Int32.ofNat (F k))), (1, .inl (Int32.ofNat k)), (0, .inr (.inr (.inl (some 220))))] [] h := by
          refine kx_go 1 (pc' := 106) (L' := [(5, .inl (Int32.ofNat (ms_v W (fs_O F E) k i))), (4, .inl (Int32.ofNat i)), (3, .inl (Int32.ofNat (E k))), (2, .inl (Int32.ofNat (F k))), (1, .inl (Int32.ofNat k)), (0, .inr (.inr (.inl (some 220))))]) (S' := [.inr (.inr (.inl (some 220)))]) (h' := h) (by with_unfolding_all rfl) ?_
          refine kx_getf (c := 220) (v := .inr (.inr (.inl (some 236)))) rfl (by decide) (kx_ofr (hw _ _ _ fs_k220_11)) ?_
          refine kx_go 1 (pc' := 110) (L' := [(5, .inl (Int32.ofNat (ms_v W (fs_O F E) k i))), (4, .inl (Int32.ofNat i)), (3, .inl (Int32.ofNat (E k))), (2, .inl (Int32.ofNat (F k))), (1, .inl (Int32.ofNat k)), (0, .inr (.inr (.inl (some 220))))]) (S' := [.inl (Int32.ofNat k), .inr (.inr (.inl (some 236)))]) (h' := h) (by with_unfolding_all rfl) ?_
          refine kx_aald rfl (c := 236) (j := k) (m := 11) (t0 := 2) (v := .inr (.inr (.inl (some (237 + k))))) rfl (by decide) (by decide) (by decide) (by omega) (kx_ofr (hw _ _ _ (fs_k236 k (by omega)).2)) ?_
          refine kx_go 2 (pc' := 114) (L' := [(5, .inl (Int32.ofNat (ms_v W (fs_O F E) k i))), (4, .inl (Int32.ofNat i)), (3, .inl (Int32.ofNat (E k))), (2, .inl (Int32.ofNat (F k))), (1, .inl (Int32.ofNat k)), (0, .inr (.inr (.inl (some 220))))]) (S' := [.inr (.inr (.inl (some 220))), .inl (Int32.ofNat i), .inr (.inr (.inl (some (237 + k))))]) (h' := h) (by with_unfolding_all rfl) ?_
          refine kx_getf (c := 220) (v := .inr (.inr (.inl (some 236)))) rfl (by decide) (kx_ofr (hw _ _ _ fs_k220_11)) ?_
          refine kx_go 3 (pc' := 120) (L' := [(5, .inl (Int32.ofNat (ms_v W (fs_O F E) k i))), (4, .inl (Int32.ofNat i)), (3, .inl (Int32.ofNat (E k))), (2, .inl (Int32.ofNat (F k))), (1, .inl (Int32.ofNat k)), (0, .inr (.inr (.inl (some 220))))]) (S' := [.inl ((Int32.ofNat k) + (Int32.ofNat 1)), .inr (.inr (.inl (some 236))), .inl (Int32.ofNat i), .inr (.inr (.inl (some (237 + k))))]) (h' := h) (by with_unfolding_all rfl) ?_
          rw [kx_add]
          refine kx_aald rfl (c := 236) (j := k + 1) (m := 11) (t0 := 2) (v := .inr (.inr (.inl (some (237 + (k + 1)))))) rfl (by decide) (by decide) (by decide) (by omega) (kx_ofr (hw _ _ _ (fs_k236 (k + 1) (by omega)).2)) ?_
          refine kx_go 1 (pc' := 123) (L' := [(5, .inl (Int32.ofNat (ms_v W (fs_O F E) k i))), (4, .inl (Int32.ofNat i)), (3, .inl (Int32.ofNat (E k))), (2, .inl (Int32.ofNat (F k))), (1, .inl (Int32.ofNat k)), (0, .inr (.inr (.inl (some 220))))]) (S' := [.inl (Int32.ofNat i), .inr (.inr (.inl (some (237 + (k + 1))))), .inl (Int32.ofNat i), .inr (.inr (.inl (some (237 + k))))]) (h' := h) (by with_unfolding_all rfl) ?_
          refine kx_iald (c := 237 + (k + 1)) (j := i) (m := 5) (v := .inl (Int32.ofNat (ms_r (ms_v W (fs_O F E)) i (L - (k + 1)) (k + 1)))) rfl (fs_k236 (k + 1) (by omega)).1.1 (fs_k236 (k + 1) (by omega)).1.2 (by decide) (by omega) (hst (k + 1) (by omega) (by omega) i (by omega)) ?_
          refine kx_go 2 (pc' := 127) (L' := [(5, .inl (Int32.ofNat (ms_v W (fs_O F E) k i))), (4, .inl (Int32.ofNat i)), (3, .inl (Int32.ofNat (E k))), (2, .inl (Int32.ofNat (F k))), (1, .inl (Int32.ofNat k)), (0, .inr (.inr (.inl (some 220))))]) (S' := [.inl ((Int32.ofNat (ms_r (ms_v W (fs_O F E)) i (L - (k + 1)) (k + 1))) + (Int32.ofNat (ms_v W (fs_O F E) k i))), .inl (Int32.ofNat i), .inr (.inr (.inl (some (237 + k))))]) (h' := h) (by with_unfolding_all rfl) ?_
          rw [kx_add, ← er]
          refine kx_iast (c := 237 + k) (j := i) (m := 5) rfl (fs_k236 k (by omega)).1.1 (fs_k236 k (by omega)).1.2 (by decide) (by omega) ?_
          refine kx_go 2 (pc' := 63) (L' := [(4, .inl ((Int32.ofNat i) + Int32.ofInt 1)), (5, .inl (Int32.ofNat (ms_v W (fs_O F E) k i))), (3, .inl (Int32.ofNat (E k))), (2, .inl (Int32.ofNat (F k))), (1, .inl (Int32.ofNat k)), (0, .inr (.inr (.inl (some 220))))]) (S' := []) (h' := (kc_upd h (237 + k) i (.inl (Int32.ofNat (ms_r (ms_v W (fs_O F E)) i (L - k) k))))) (by with_unfolding_all rfl) ?_
          rw [kx_inc]
          refine kf_lo (L := [(4, .inl (Int32.ofNat (i + 1))), (3, .inl (Int32.ofNat (E k))), (2, .inl (Int32.ofNat (F k))), (1, .inl (Int32.ofNat k)), (0, .inr (.inr (.inl (some 220))))]) (by intro q hq; simp only [List.mem_cons, List.not_mem_nil, or_false] at hq; rcases hq with rfl | rfl | rfl | rfl | rfl <;> rfl) ?_
          exact ihv (i + 1) _ (by omega) (by omega) (fa_wa (fs_k237 k (by omega) i (by omega)) hw) ⟨fun j hj s hs => ⟨(fu_ne (by omega)).trans (hz.1 j hj s hs).1, (fu_ne (by omega)).trans (hz.1 j hj s hs).2⟩, fun m hm => (fu_ne (by omega)).trans (hz.2 m hm)⟩ (fun j hj => by
            by_cases e : j = i
            · rw [e]; exact fu_eq
            · exact (fu_ne (fun q => e q.2)).trans (hin j (by omega))) (fun l h1 h2 j hj => (fu_ne (by omega)).trans (hst l h1 h2 j hj)) (fun a y ha => (fu_ne (by omega)).trans (hF a y ha))
        refine kx_go 3 (pc' := (if kc_cnd .lt (Int32.ofNat i).toInt (Int32.ofNat (F k)).toInt then 102 else 81)) (L' := [(4, .inl (Int32.ofNat i)), (3, .inl (Int32.ofNat (E k))), (2, .inl (Int32.ofNat (F k))), (1, .inl (Int32.ofNat k)), (0, .inr (.inr (.inl (some 220))))]) (S' := []) (h' := h) (by with_unfolding_all rfl) ?_
        by_cases c1 : i < F k
        · rw [if_pos ((kx_lt (by omega) (by omega)).mpr c1)]
          have z : ms_v W (fs_O F E) k i = 0 := if_neg (by unfold fs_O; rw [decide_eq_false (by omega)]; decide)
          rw [z] at put
          refine kx_go 2 (pc' := 105) (L' := [(5, .inl (Int32.ofNat 0)), (4, .inl (Int32.ofNat i)), (3, .inl (Int32.ofNat (E k))), (2, .inl (Int32.ofNat (F k))), (1, .inl (Int32.ofNat k)), (0, .inr (.inr (.inl (some 220))))]) (S' := []) (h' := h) (by with_unfolding_all rfl) ?_
          exact put
        · rw [if_neg (fun q => c1 ((kx_lt (by omega) (by omega)).mp q))]
          refine kx_go 3 (pc' := (if kc_cnd .ge (Int32.ofNat i).toInt (Int32.ofNat (E k)).toInt then 102 else 87)) (L' := [(4, .inl (Int32.ofNat i)), (3, .inl (Int32.ofNat (E k))), (2, .inl (Int32.ofNat (F k))), (1, .inl (Int32.ofNat k)), (0, .inr (.inr (.inl (some 220))))]) (S' := []) (h' := h) (by with_unfolding_all rfl) ?_
          by_cases c2 : E k ≤ i
          · rw [if_pos ((kx_ge (by omega) (by omega)).mpr c2)]
            have z : ms_v W (fs_O F E) k i = 0 := if_neg (by unfold fs_O; rw [decide_eq_false (by omega)]; decide)
            rw [z] at put
            refine kx_go 2 (pc' := 105) (L' := [(5, .inl (Int32.ofNat 0)), (4, .inl (Int32.ofNat i)), (3, .inl (Int32.ofNat (E k))), (2, .inl (Int32.ofNat (F k))), (1, .inl (Int32.ofNat k)), (0, .inr (.inr (.inl (some 220))))]) (S' := []) (h' := h) (by with_unfolding_all rfl) ?_
            exact put
          · rw [if_neg (fun q => c2 ((kx_ge (by omega) (by omega)).mp q))]
            have z : ms_v W (fs_O F E) k i = W k i := if_pos (decide_eq_true (by omega))
            rw [z] at put
            refine kx_go 1 (pc' := 88) (L' := [(4, .inl (Int32.ofNat i)), (3, .inl (Int32.ofNat (E k))), (2, .inl (Int32.ofNat (F k))), (1, .inl (Int32.ofNat k)), (0, .inr (.inr (.inl (some 220))))]) (S' := [.inr (.inr (.inl (some 220)))]) (h' := h) (by with_unfolding_all rfl) ?_
            refine kx_getf (c := 220) (v := .inr (.inr (.inl (some 204)))) rfl (by decide) (kx_ofr (hw _ _ _ fs_k220_1)) ?_
            refine kx_getf (c := 204) (v := .inr (.inr (.inl (some 208)))) rfl (by decide) (kx_ofr (hw _ _ _ fs_k204_6)) ?_
            refine kx_go 1 (pc' := 95) (L' := [(4, .inl (Int32.ofNat i)), (3, .inl (Int32.ofNat (E k))), (2, .inl (Int32.ofNat (F k))), (1, .inl (Int32.ofNat k)), (0, .inr (.inr (.inl (some 220))))]) (S' := [.inl (Int32.ofNat k), .inr (.inr (.inl (some 208)))]) (h' := h) (by with_unfolding_all rfl) ?_
            refine kx_aald rfl (c := 208) (j := k) (m := 10) (t0 := 2) (v := .inr (.inr (.inl (some (209 + k))))) rfl (by decide) (by decide) (by decide) (by omega) (kx_ofr (hw _ _ _ (fs_k208 k (by omega)).2)) ?_
            refine kx_go 1 (pc' := 98) (L' := [(4, .inl (Int32.ofNat i)), (3, .inl (Int32.ofNat (E k))), (2, .inl (Int32.ofNat (F k))), (1, .inl (Int32.ofNat k)), (0, .inr (.inr (.inl (some 220))))]) (S' := [.inl (Int32.ofNat i), .inr (.inr (.inl (some (209 + k))))]) (h' := h) (by with_unfolding_all rfl) ?_
            refine kx_iald (c := 209 + k) (j := i) (m := 5) (v := .inl (Int32.ofNat (W k i))) rfl (fs_k208 k (by omega)).1.1 (fs_k208 k (by omega)).1.2 (by decide) (by omega) (hZ2.2.2.2.2 k (by omega) i (by omega)) ?_
            refine kx_go 2 (pc' := 105) (L' := [(5, .inl (Int32.ofNat (W k i))), (4, .inl (Int32.ofNat i)), (3, .inl (Int32.ofNat (E k))), (2, .inl (Int32.ofNat (F k))), (1, .inl (Int32.ofNat k)), (0, .inr (.inr (.inl (some 220))))]) (S' := []) (h' := h) (by with_unfolding_all rfl) ?_
            exact put
    refine kx_go 1 (pc' := 43) (L' := [(1, .inl (Int32.ofNat k)), (0, .inr (.inr (.inl (some 220))))]) (S' := [.inr (.inr (.inl (some 220)))]) (h' := h) (by with_unfolding_all rfl) ?_
    refine kx_getf (c := 220) (v := .inr (.inr (.inl (some 204)))) rfl (by decide) (kx_ofr (hw _ _ _ fs_k220_1)) ?_
    refine kx_go 1 (pc' := 47) (L' := [(1, .inl (Int32.ofNat k)), (0, .inr (.inr (.inl (some 220))))]) (S' := [.inl (Int32.ofNat k), .inr (.inr (.inl (some 204)))]) (h' := h) (by with_unfolding_all rfl) ?_
    refine kc_call_rule (M2 := wk_m203) (av := [.inr (.inr (.inl (some 204))), .inl (Int32.ofNat k)]) (r := []) rfl rfl (kc_Con_le (fs_c203 (d := 0) hg hw hb hZ2.2 (show k < L by omega)) (by omega)) (fun rv hcc hq => ?_)
    obtain ⟨rfl, e9⟩ := hq
    rw [e9]
    clear e9
    show kc_Ev g (d + 2) wk_m117 _ 50 [(1, .inl (Int32.ofNat k)), (0, .inr (.inr (.inl (some 220))))] [.inl (Int32.ofNat (F k))] h
    refine kx_go 2 (pc' := 52) (L' := [(2, .inl (Int32.ofNat (F k))), (1, .inl (Int32.ofNat k)), (0, .inr (.inr (.inl (some 220))))]) (S' := [.inr (.inr (.inl (some 220)))]) (h' := h) (by with_unfolding_all rfl) ?_
    refine kx_getf (c := 220) (v := .inr (.inr (.inl (some 204)))) rfl (by decide) (kx_ofr (hw _ _ _ fs_k220_1)) ?_
    refine kx_go 1 (pc' := 56) (L' := [(2, .inl (Int32.ofNat (F k))), (1, .inl (Int32.ofNat k)), (0, .inr (.inr (.inl (some 220))))]) (S' := [.inl (Int32.ofNat k), .inr (.inr (.inl (some 204)))]) (h' := h) (by with_unfolding_all rfl) ?_
    refine kc_call_rule (M2 := wk_m204) (av := [.inr (.inr (.inl (some 204))), .inl (Int32.ofNat k)]) (r := []) rfl rfl (kc_Con_le (fs_c204 (d := 0) hg hw hb hZ2.2 (show k < L by omega)) (by omega)) (fun rv hcc hq => ?_)
    obtain ⟨rfl, e9⟩ := hq
    rw [e9]
    clear e9
    show kc_Ev g (d + 2) wk_m117 _ 59 [(2, .inl (Int32.ofNat (F k))), (1, .inl (Int32.ofNat k)), (0, .inr (.inr (.inl (some 220))))] [.inl (Int32.ofNat (E k))] h
    refine kx_go 3 (pc' := 63) (L' := [(4, .inl (Int32.ofNat 0)), (3, .inl (Int32.ofNat (E k))), (2, .inl (Int32.ofNat (F k))), (1, .inl (Int32.ofNat k)), (0, .inr (.inr (.inl (some 220))))]) (S' := []) (h' := h) (by with_unfolding_all rfl) ?_
    refine kf_lo (L := [(4, .inl (Int32.ofNat 0)), (3, .inl (Int32.ofNat (E k))), (2, .inl (Int32.ofNat (F k))), (1, .inl (Int32.ofNat k)), (0, .inr (.inr (.inl (some 220))))]) (by intro q hq; simp only [List.mem_cons, List.not_mem_nil, or_false] at hq; rcases hq with rfl | rfl | rfl | rfl | rfl <;> rfl) ?_
    exact inner n 0 h (by omega) (by omega) hw hz (fun j hj => by omega) hst hF
set_option maxRecDepth 20000 in
theorem fs_c117 {g : kc_G} {d : Nat} {h : kc_H} {B : Nat → Int32} {F E : Nat → Nat} {co : Nat → Bool} {W : Nat → Nat → Nat} {L n : Nat} (hg : kc_ok g) (hw : kd_wt kd_ty h) (hC0 : fu_C B 1 h) (hb : fs_Gb F E co W L n) (hG0 : fs_G F E co W L n h) (eL : B 2 = Int32.ofNat L) : kc_Con g (d + 3) 117 [.inr (.inr (.inl (some 220)))] h (fun rv h' => rv = none ∧ kd_wt kd_ty h' ∧ fs_bz h' ∧ (∀ l, 0 ≤ l → l ≤ L → ∀ i, i < n → h' (237 + l) i = .inl (Int32.ofNat (ms_r (ms_v W (fs_O F E)) i (L - l) l))) ∧ ∀ a x, ¬ (223 ≤ a ∧ a ≤ 247) → h' a x = h a x) := by
  have hL := hb.2.1
  have hn := hb.1
  refine kc_Con_new hg (M := wk_m117) rfl rfl rfl (show 1 ≤ 6 by decide) ?_
  refine kx_go 1 (pc' := 1) (L' := [(0, .inr (.inr (.inl (some 220))))]) (S' := [.inr (.inr (.inl (some 220)))]) (h' := h) (by with_unfolding_all rfl) ?_
  refine kc_call_rule (M2 := wk_m102) (av := [.inr (.inr (.inl (some 220)))]) (r := []) rfl rfl (kc_Con_le (fs_c102 (d := 0) hg hw) (by omega)) (fun rv h2 hq => ?_)
  obtain ⟨rfl, hw2, hz, hF⟩ := hq
  show kc_Ev g (d + 2) wk_m117 _ 4 [(0, .inr (.inr (.inl (some 220))))] [] h2
  refine kx_go 1 (pc' := 5) (L' := [(0, .inr (.inr (.inl (some 220))))]) (S' := [.inr (.inr (.inl (some 220)))]) (h' := h2) (by with_unfolding_all rfl) ?_
  refine kx_getf (c := 220) (v := .inr (.inr (.inl (some 223)))) rfl (by decide) (kx_ofr (hw2 _ _ _ fs_k220_8)) ?_
  refine kx_go 1 (pc' := 9) (L' := [(0, .inr (.inr (.inl (some 220))))]) (S' := [.inl (Int32.ofNat 0), .inr (.inr (.inl (some 223)))]) (h' := h2) (by with_unfolding_all rfl) ?_
  refine kc_call_rule (M2 := wk_m3) (av := [.inr (.inr (.inl (some 223))), .inl (Int32.ofNat 0)]) (r := []) rfl rfl (kc_Con_le (fs_fill (d := 0) (c := 223) (m := 3) (v := Int32.ofNat 0) hg rfl (by decide) (by decide)) (by omega)) (fun rv h3 hq => ?_)
  obtain ⟨rfl, eh⟩ := hq
  show kc_Ev g (d + 2) wk_m117 _ 12 [(0, .inr (.inr (.inl (some 220))))] [] h3
  subst eh
  have hw3 : kd_wt kd_ty (fs_fl h2 223 3 (Int32.ofNat 0)) := fs_fl_wt hw2 (fun j hj => ⟨_, _, fs_k2x.2.2.1 j hj, fs_any⟩)
  have hF3 : ∀ a x, ¬ (223 ≤ a ∧ a ≤ 247) → fs_fl h2 223 3 (Int32.ofNat 0) a x = h a x := fun a y ha => (fs_fl_o (by omega)).trans (hF a y (by omega))
  have hz3 : fs_bz (fs_fl h2 223 3 (Int32.ofNat 0)) := ⟨fun i hi t ht => ⟨(fs_fl_o (by omega)).trans (hz i hi t ht).1, (fs_fl_o (by omega)).trans (hz i hi t ht).2⟩, fun m hm => fs_fl_i hm⟩
  generalize fs_fl h2 223 3 (Int32.ofNat 0) = h4 at hw3 hF3 hz3 ⊢
  have eL4 : h4 1 2 = .inl (Int32.ofNat L) := (hF3 1 2 (by decide)).trans ((fu_C0 hC0).2.2.1.trans (by rw [eL]))
  refine kx_go 1 (pc' := 13) (L' := [(0, .inr (.inr (.inl (some 220))))]) (S' := [.inr (.inr (.inl (some 220)))]) (h' := h4) (by with_unfolding_all rfl) ?_
  refine kx_getf (c := 220) (v := .inr (.inr (.inl (some 236)))) rfl (by decide) (kx_ofr (hw3 _ _ _ fs_k220_11)) ?_
  refine kx_go 1 (pc' := 17) (L' := [(0, .inr (.inr (.inl (some 220))))]) (S' := [.inr (.inr (.inl (some 220))), .inr (.inr (.inl (some 236)))]) (h' := h4) (by with_unfolding_all rfl) ?_
  refine kx_getf (c := 220) (v := .inr (.inr (.inl (some 1)))) rfl (by decide) (kx_ofr (hw3 _ _ _ fs_k220_0)) ?_
  refine kx_getf (c := 1) (v := .inl (Int32.ofNat L)) rfl (by decide) eL4 ?_
  refine kx_aald rfl (c := 236) (j := L) (m := 11) (t0 := 2) (v := .inr (.inr (.inl (some (237 + L))))) rfl (by decide) (by decide) (by decide) (by omega) (kx_ofr (hw3 _ _ _ (fs_k236 L (by omega)).2)) ?_
  refine kx_go 1 (pc' := 25) (L' := [(0, .inr (.inr (.inl (some 220))))]) (S' := [.inl (Int32.ofNat 0), .inr (.inr (.inl (some (237 + L))))]) (h' := h4) (by with_unfolding_all rfl) ?_
  refine kc_call_rule (M2 := wk_m3) (av := [.inr (.inr (.inl (some (237 + L)))), .inl (Int32.ofNat 0)]) (r := []) rfl rfl (kc_Con_le (fs_fill (d := 0) (c := 237 + L) (m := 5) (v := Int32.ofNat 0) hg (fs_k236 L (by omega)).1.1 (fs_k236 L (by omega)).1.2 (by decide)) (by omega)) (fun rv h5 hq => ?_)
  obtain ⟨rfl, eh⟩ := hq
  show kc_Ev g (d + 2) wk_m117 _ 28 [(0, .inr (.inr (.inl (some 220))))] [] h5
  subst eh
  have hw5 : kd_wt kd_ty (fs_fl h4 (237 + L) 5 (Int32.ofNat 0)) := fs_fl_wt hw3 (fun j hj => ⟨_, _, fs_k237 L (by omega) j hj, fs_any⟩)
  have hF5 : ∀ a x, ¬ (223 ≤ a ∧ a ≤ 247) → fs_fl h4 (237 + L) 5 (Int32.ofNat 0) a x = h a x := fun a y ha => (fs_fl_o (by omega)).trans (hF3 a y ha)
  have hz5 : fs_bz (fs_fl h4 (237 + L) 5 (Int32.ofNat 0)) := ⟨fun i hi t ht => ⟨(fs_fl_o (by omega)).trans (hz3.1 i hi t ht).1, (fs_fl_o (by omega)).trans (hz3.1 i hi t ht).2⟩, fun m hm => (fs_fl_o (by omega)).trans (hz3.2 m hm)⟩
  have hs5 : ∀ l, L ≤ l → l ≤ L → ∀ i, i < n → fs_fl h4 (237 + L) 5 (Int32.ofNat 0) (237 + l) i = .inl (Int32.ofNat (ms_r (ms_v W (fs_O F E)) i (L - l) l)) := fun l h1 h2 i hi => by
    obtain rfl : l = L := by omega
    rw [Nat.sub_self]
    exact fs_fl_i (by omega)
  generalize fs_fl h4 (237 + L) 5 (Int32.ofNat 0) = h6 at hw5 hF5 hz5 hs5 ⊢
  have eL6 : h6 1 2 = .inl (Int32.ofNat L) := (hF5 1 2 (by decide)).trans ((fu_C0 hC0).2.2.1.trans (by rw [eL]))
  refine kx_go 1 (pc' := 29) (L' := [(0, .inr (.inr (.inl (some 220))))]) (S' := [.inr (.inr (.inl (some 220)))]) (h' := h6) (by with_unfolding_all rfl) ?_
  refine kx_getf (c := 220) (v := .inr (.inr (.inl (some 1)))) rfl (by decide) (kx_ofr (hw5 _ _ _ fs_k220_0)) ?_
  refine kx_getf (c := 1) (v := .inl (Int32.ofNat L)) rfl (by decide) eL6 ?_
  refine kx_go 3 (pc' := 38) (L' := [(1, .inl ((Int32.ofNat L) - (Int32.ofNat 1))), (0, .inr (.inr (.inl (some 220))))]) (S' := []) (h' := h6) (by with_unfolding_all rfl) ?_
  rw [fs_im3]
  refine kf_lo (L := [(1, .inl (Int32.ofInt ((L : Int) - 1))), (0, .inr (.inr (.inl (some 220))))]) (by intro q hq; simp only [List.mem_cons, List.not_mem_nil, or_false] at hq; rcases hq with rfl | rfl <;> rfl) ?_
  exact fs_c117l (h0 := h) hg hC0 hb hG0 eL L h6 (Nat.le_refl _) hw5 hz5 hs5 hF5
theorem fs_k2205 : kd_rn (kd_ty 220) 5 = some (0, 2147483648, 2147483648 + 1) := by decide +kernel
set_option maxRecDepth 20000 in
theorem fs_c116 {g : kc_G} {d : Nat} {h : kc_H} {B : Nat → Int32} {M : Nat} {F E : Nat → Nat} {co : Nat → Bool} {W : Nat → Nat → Nat} {L n : Nat} {b : Nat} {f : Nat → Nat} (hg : kc_ok g) (hw : kd_wt kd_ty h) (hB : fu_BT B) (hC : fu_C B 1 h) (hb : fs_Gb F E co W L n) (hG : fs_G F E co W L n h) (hM : M ≤ 3) (eM : B 1 = Int32.ofNat M) (eL : B 2 = Int32.ofNat L) (hbl : b ≤ 1000001) (hf : ∀ j, j < L → h 221 j = .inl (Int32.ofNat (f j))) : kc_Con g (d + L + 6) 116 [.inr (.inr (.inl (some 220))), .inl (Int32.ofNat b)] h (fun rv h' => rv = some (.inl (kp_b (decide ((fs_sk B F E W L M n L 0 (fun _ => 0) (b, f)).1 < b)))) ∧ kd_wt kd_ty h' ∧ (∀ a x, ¬ (220 ≤ a ∧ a ≤ 247) → h' a x = h a x) ∧ h' 220 2 = .inl (Int32.ofNat (fs_sk B F E W L M n L 0 (fun _ => 0) (b, f)).1) ∧ ∀ j, j < L → h' 221 j = .inl (Int32.ofNat ((fs_sk B F E W L M n L 0 (fun _ => 0) (b, f)).2 j))) := by
  have hL := hb.2.1
  have hn := hb.1
  have hle : (fs_sk B F E W L M n L 0 (fun _ => 0) (b, f)).1 ≤ b := ms_sk_le (fun _ _ => ms_j_le) L 0 _ _
  refine kc_Con_new hg (M := wk_m116) rfl rfl rfl (show 2 ≤ 2 by decide) ?_
  refine kx_go 2 (pc' := 2) (L' := [(0, .inr (.inr (.inl (some 220)))), (1, .inl (Int32.ofNat b))]) (S' := [.inl (Int32.ofNat 0), .inr (.inr (.inl (some 220)))]) (h' := h) (by with_unfolding_all rfl) ?_
  have hw1 : kd_wt kd_ty (kc_upd h 220 5 (.inl (Int32.ofNat 0))) := fa_wn (u := 1) fs_k2205 (by omega) (by decide) hw
  refine kx_go 1 (pc' := 5) (L' := [(0, .inr (.inr (.inl (some 220)))), (1, .inl (Int32.ofNat b))]) (S' := []) (h' := (kc_upd h 220 5 (.inl (Int32.ofNat 0)))) (by with_unfolding_all rfl) ?_
  refine kx_go 2 (pc' := 7) (L' := [(0, .inr (.inr (.inl (some 220)))), (1, .inl (Int32.ofNat b))]) (S' := [.inl (Int32.ofNat b), .inr (.inr (.inl (some 220)))]) (h' := (kc_upd h 220 5 (.inl (Int32.ofNat 0)))) (by with_unfolding_all rfl) ?_
  have hw2 : kd_wt kd_ty (kc_upd (kc_upd h 220 5 (.inl (Int32.ofNat 0))) 220 2 (.inl (Int32.ofNat b))) := fa_wa fs_k2x.2.2.2 hw1
  refine kx_go 1 (pc' := 10) (L' := [(0, .inr (.inr (.inl (some 220)))), (1, .inl (Int32.ofNat b))]) (S' := []) (h' := (kc_upd (kc_upd h 220 5 (.inl (Int32.ofNat 0))) 220 2 (.inl (Int32.ofNat b)))) (by with_unfolding_all rfl) ?_
  have hF2 : ∀ a x, ¬ a = 220 → (kc_upd (kc_upd h 220 5 (.inl (Int32.ofNat 0))) 220 2 (.inl (Int32.ofNat b))) a x = h a x := fun a y ha => (fu_ne (by omega)).trans (fu_ne (by omega))
  have e5 : (kc_upd (kc_upd h 220 5 (.inl (Int32.ofNat 0))) 220 2 (.inl (Int32.ofNat b))) 220 5 = .inl (Int32.ofNat 0) := (fu_ne (by omega)).trans fu_eq
  have e2 : (kc_upd (kc_upd h 220 5 (.inl (Int32.ofNat 0))) 220 2 (.inl (Int32.ofNat b))) 220 2 = .inl (Int32.ofNat b) := fu_eq
  generalize (kc_upd (kc_upd h 220 5 (.inl (Int32.ofNat 0))) 220 2 (.inl (Int32.ofNat b))) = h2 at hw2 hF2 e5 e2 ⊢
  have hC2 := fs_C_f (h' := h2) (fun a y q => hF2 a y (by omega)) hC
  have hG2 := fs_G_f (h' := h2) hL (fun a y q1 q2 => hF2 a y (by omega)) hG
  refine kx_go 1 (pc' := 11) (L' := [(0, .inr (.inr (.inl (some 220)))), (1, .inl (Int32.ofNat b))]) (S' := [.inr (.inr (.inl (some 220)))]) (h' := h2) (by with_unfolding_all rfl) ?_
  refine kc_call_rule (M2 := wk_m117) (av := [.inr (.inr (.inl (some 220)))]) (r := []) rfl rfl (kc_Con_le (fs_c117 (d := d) hg hw2 hC2 hb hG2 eL) (by omega)) (fun rv h3 hq => ?_)
  obtain ⟨rfl, hw3, hz3, hs3, hF3⟩ := hq
  show kc_Ev g (d + L + 5) wk_m116 _ 14 [(0, .inr (.inr (.inl (some 220)))), (1, .inl (Int32.ofNat b))] [] h3
  have hZ : fs_Z B F E co W L n h3 := ⟨fs_C_f (fun a y q => hF3 a y (by omega)) hC2, fs_G_f hL (fun a y q1 q2 => hF3 a y (by omega)) hG2, (hF3 220 5 (by decide)).trans e5, fun l hl => hs3 l (Nat.zero_le _) hl⟩
  have H3 : fs_H h3 F E W L (fun _ => 0) 0 (b, f) h3 := ⟨hw3, fun _ _ _ _ => rfl, fun i hi s hs => hz3.1 i hi s hs, fun j hj => by omega, fun m hm => hz3.2 m hm, (hF3 220 2 (by decide)).trans e2, fun j hj => (hF3 221 j (by decide)).trans ((hF2 221 j (by decide)).trans (hf j hj))⟩
  refine kx_go 2 (pc' := 16) (L' := [(0, .inr (.inr (.inl (some 220)))), (1, .inl (Int32.ofNat b))]) (S' := [.inl (Int32.ofNat 0), .inr (.inr (.inl (some 220)))]) (h' := h3) (by with_unfolding_all rfl) ?_
  refine kc_call_rule (M2 := wk_m118) (av := [.inr (.inr (.inl (some 220))), .inl (Int32.ofNat 0)]) (r := []) rfl rfl (kc_Con_le (fs_c118 (d := d) hg hB hb hZ hM eM eL L 0 (fun _ => 0) (b, f) h3 (by omega) (fun j hj => by omega) hbl H3) (by omega)) (fun rv h4 hq => ?_)
  obtain ⟨rfl, H4⟩ := hq
  show kc_Ev g (d + L + 5) wk_m116 _ 19 [(0, .inr (.inr (.inl (some 220)))), (1, .inl (Int32.ofNat b))] [] h4
  have e4 : h4 220 2 = .inl (Int32.ofNat (fs_sk B F E W L M n L 0 (fun _ => 0) (b, f)).1) := H4.2.2.2.2.2.1
  have hF4 : ∀ a x, ¬ (220 ≤ a ∧ a ≤ 247) → h4 a x = h a x := fun a y ha => (H4.2.1 a y (by omega) (by omega)).trans ((hF3 a y (by omega)).trans (hF2 a y (by omega)))
  have hfo : ∀ j, j < L → h4 221 j = .inl (Int32.ofNat ((fs_sk B F E W L M n L 0 (fun _ => 0) (b, f)).2 j)) := H4.2.2.2.2.2.2
  have hw4 := H4.1
  refine kx_go 1 (pc' := 20) (L' := [(0, .inr (.inr (.inl (some 220)))), (1, .inl (Int32.ofNat b))]) (S' := [.inr (.inr (.inl (some 220)))]) (h' := h4) (by with_unfolding_all rfl) ?_
  refine kx_getf (c := 220) (v := .inl (Int32.ofNat (fs_sk B F E W L M n L 0 (fun _ => 0) (b, f)).1)) rfl (by decide) e4 ?_
  refine kx_go 2 (pc' := (if kc_cnd .ge (Int32.ofNat (fs_sk B F E W L M n L 0 (fun _ => 0) (b, f)).1).toInt (Int32.ofNat b).toInt then 31 else 27)) (L' := [(0, .inr (.inr (.inl (some 220)))), (1, .inl (Int32.ofNat b))]) (S' := []) (h' := h4) (by with_unfolding_all rfl) ?_
  by_cases c : (fs_sk B F E W L M n L 0 (fun _ => 0) (b, f)).1 < b
  · rw [if_neg (fun q => by have := (kx_ge (by omega) (by omega)).mp q; omega), decide_eq_true c]
    refine kx_go 2 (pc' := 32) (L' := [(0, .inr (.inr (.inl (some 220)))), (1, .inl (Int32.ofNat b))]) (S' := [.inl (Int32.ofNat 1)]) (h' := h4) (by with_unfolding_all rfl) ?_
    exact kc_ret_ok rfl (rv := some (.inl (Int32.ofNat 1))) rfl ⟨rfl, hw4, hF4, e4, hfo⟩
  · rw [if_pos ((kx_ge (by omega) (by omega)).mpr (by omega)), decide_eq_false c]
    refine kx_go 1 (pc' := 32) (L' := [(0, .inr (.inr (.inl (some 220)))), (1, .inl (Int32.ofNat b))]) (S' := [.inl (Int32.ofNat 0)]) (h' := h4) (by with_unfolding_all rfl) ?_
    exact kc_ret_ok rfl (rv := some (.inl (Int32.ofNat 0))) rfl ⟨rfl, hw4, hF4, e4, hfo⟩
end
