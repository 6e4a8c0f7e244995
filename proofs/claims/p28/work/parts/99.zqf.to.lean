section
-- 99.zqf
/-! ===== BEST, class ===== -/
def fs_or (f : Nat → Nat) (n : Nat) (h : kc_H) : Prop := ∀ j, j < n → h 252 j = .inl (Int32.ofNat (f j)) ∧ f j < 6
theorem fs_k252 : (∀ l, l < 5 → kd_rn (kd_ty 252) l = some (0, 2147483648, 2147483648 + 5)) ∧ (∀ l, l < 5 → kd_rn (kd_ty 251) l = some (0, 2147483648, 2147483648 + 5)) ∧ kd_rn (kd_ty 250) 3 = some (0, 0, 4294967295) ∧ kd_rn (kd_ty 250) 4 = some (0, 0, 4294967295) := ⟨by decide +kernel, by decide +kernel, by decide +kernel, by decide +kernel⟩
theorem ms_tree_at {Q L : Nat} {bor : (Nat → Nat) → Bool} {val : (Nat → Nat) → Nat} (hL6 : ∀ c r : Nat → Nat, (∀ j, j < L → r j = c j) → bor r = bor c ∧ val r = val c) : ∀ (k l : Nat) (c : Nat → Nat) (s : ms_S), l + k = L → (∀ j, j < l → c j < Q) → (ms_tree Q (ms_J bor val) k l c s).1 = s.1 ∨ ∃ r, ms_x Q L l c r ∧ bor r = true ∧ (ms_tree Q (ms_J bor val) k l c s).1 = val r
  | 0, l, c, s, hl, hc => by
    obtain rfl : l = L := by omega
    show (ms_J bor val c s).1 = s.1 ∨ ∃ r, ms_x Q l l c r ∧ bor r = true ∧ (ms_J bor val c s).1 = val r
    unfold ms_J ms_j
    by_cases e : bor c = true ∧ val c < s.1
    · rw [if_pos e]; exact Or.inr ⟨c, ⟨fun _ _ => rfl, hc⟩, e.1, rfl⟩
    · rw [if_neg e]; exact Or.inl rfl
  | k + 1, l, c, s, hl, hc => by
    refine ms_for_ind (f := fun x s => ms_tree Q (ms_J bor val) k (l + 1) (ms_u c l x) s) (fun _ t => t.1 = s.1 ∨ ∃ r, ms_x Q L l c r ∧ bor r = true ∧ t.1 = val r) s (Or.inl rfl) Q (fun x t hx hP => ?_)
    rcases ms_tree_at (L := L) hL6 k (l + 1) (ms_u c l x) t (by omega) (fun j hj => by
      by_cases e : j = l
      · rw [e, ms_ue]; exact hx
      · rw [ms_un e]; exact hc j (by omega)) with e | ⟨r, r1, r2, r3⟩
    · rw [e]; exact hP
    · exact Or.inr ⟨r, (ms_xu r1).1, r2, r3⟩
theorem fs_T_v {B : Nat → Int32} {D : Nat → Nat} {n L M v w : Nat} {f g : Nat → Nat} (hvw : v ≤ w) : ((fs_T B D n L M v f).1 < v ↔ (fs_T B D n L M w g).1 < v) ∧ ((fs_T B D n L M v f).1 < v → (fs_T B D n L M v f).1 = (fs_T B D n L M w g).1) := by
  have h6 : ∀ c r : Nat → Nat, (∀ j, j < L → r j = c j) → fs_bor B D n L M r = fs_bor B D n L M c ∧ fs_wo B D n L M r = fs_wo B D n L M c := fun c r h => ⟨ms_bor_c h, ms_wo_c h⟩
  have a1 := ms_tree_at (Q := 2 * M) (bor := fs_bor B D n L M) (val := fs_wo B D n L M) h6 L 0 (fun _ => 0) (v, f) (by omega) (fun j hj => by omega)
  have a2 := ms_tree_at (Q := 2 * M) (bor := fs_bor B D n L M) (val := fs_wo B D n L M) h6 L 0 (fun _ => 0) (w, g) (by omega) (fun j hj => by omega)
  have b1 := ms_tree_le (Q := 2 * M) (bor := fs_bor B D n L M) (val := fs_wo B D n L M) h6 L 0 (fun _ => 0) (v, f) (by omega)
  have b2 := ms_tree_le (Q := 2 * M) (bor := fs_bor B D n L M) (val := fs_wo B D n L M) h6 L 0 (fun _ => 0) (w, g) (by omega)
  unfold fs_T
  generalize ms_tree (2 * M) (ms_J (fs_bor B D n L M) (fs_wo B D n L M)) L 0 (fun _ => 0) (v, f) = X at a1 b1 ⊢
  generalize ms_tree (2 * M) (ms_J (fs_bor B D n L M) (fs_wo B D n L M)) L 0 (fun _ => 0) (w, g) = Y at a2 b2 ⊢
  have c1 : X.1 = v ∨ Y.1 ≤ X.1 := by
    rcases a1 with e | ⟨r, r1, r2, r3⟩
    · exact Or.inl e
    · exact Or.inr (by rw [r3]; exact b2.2 r r1 r2)
  have c2 : Y.1 = w ∨ X.1 ≤ Y.1 := by
    rcases a2 with e | ⟨r, r1, r2, r3⟩
    · exact Or.inl e
    · exact Or.inr (by rw [r3]; exact b1.2 r r1 r2)
  have d1 : X.1 ≤ v := b1.1
  omega
set_option maxRecDepth 20000 in
theorem fs_c201l {g : kc_G} {d : Nat} {h : kc_H} {B : Nat → Int32} {D : Nat → Nat} {n x : Nat} (hw : kd_wt kd_ty h) (hC : fu_C B 1 h) (hn : n ≤ 5) (en : B 3 = Int32.ofNat n) (hl : ∀ k, k < n → h 27 k = .inl (Int32.ofNat (D k))) (hD : ∀ k, k < n → D k < 6) (hx : x < 7) : ∀ (u k : Nat), n - k = u → k ≤ n → (∀ j, j < k → ¬ D j = x) → kc_Ev g d wk_m201 (fun rv h' => rv = some (.inl (kp_b (pb_il D n x))) ∧ h' = h) 2 [(2, .inl (Int32.ofNat k)), (0, .inr (.inr (.inl (some 1)))), (1, .inl (Int32.ofNat x))] [] h := by
  intro u
  induction u with
  | zero =>
    intro k hu hk hno
    refine kx_go 2 (pc' := 4) (L' := [(2, .inl (Int32.ofNat k)), (0, .inr (.inr (.inl (some 1)))), (1, .inl (Int32.ofNat x))]) (S' := [.inr (.inr (.inl (some 1))), .inl (Int32.ofNat k)]) (h' := h) (by with_unfolding_all rfl) ?_
    refine kx_getf (c := 1) (v := .inl (Int32.ofNat n)) rfl (by decide) ((fu_C0 hC).2.2.2.trans (by rw [en])) ?_
    refine kx_go 1 (pc' := (if kc_cnd .ge (Int32.ofNat k).toInt (Int32.ofNat n).toInt then 28 else 10)) (L' := [(2, .inl (Int32.ofNat k)), (0, .inr (.inr (.inl (some 1)))), (1, .inl (Int32.ofNat x))]) (S' := []) (h' := h) (by with_unfolding_all rfl) ?_
    rw [if_pos ((kx_ge (by omega) (by omega)).mpr (by omega))]
    have e : pb_il D n x = false := Bool.eq_false_iff.mpr (fun q => by
      obtain ⟨j, j1, j2⟩ := (ms_any_iff n).mp q
      exact hno j (by omega) (of_decide_eq_true j2))
    rw [e]
    refine kx_go 1 (pc' := 29) (L' := [(2, .inl (Int32.ofNat k)), (0, .inr (.inr (.inl (some 1)))), (1, .inl (Int32.ofNat x))]) (S' := [.inl (Int32.ofNat 0)]) (h' := h) (by with_unfolding_all rfl) ?_
    exact kc_ret_ok rfl (rv := some (.inl (Int32.ofNat 0))) rfl ⟨rfl, rfl⟩
  | succ u ih =>
    intro k hu hk hno
    refine kx_go 2 (pc' := 4) (L' := [(2, .inl (Int32.ofNat k)), (0, .inr (.inr (.inl (some 1)))), (1, .inl (Int32.ofNat x))]) (S' := [.inr (.inr (.inl (some 1))), .inl (Int32.ofNat k)]) (h' := h) (by with_unfolding_all rfl) ?_
    refine kx_getf (c := 1) (v := .inl (Int32.ofNat n)) rfl (by decide) ((fu_C0 hC).2.2.2.trans (by rw [en])) ?_
    refine kx_go 1 (pc' := (if kc_cnd .ge (Int32.ofNat k).toInt (Int32.ofNat n).toInt then 28 else 10)) (L' := [(2, .inl (Int32.ofNat k)), (0, .inr (.inr (.inl (some 1)))), (1, .inl (Int32.ofNat x))]) (S' := []) (h' := h) (by with_unfolding_all rfl) ?_
    rw [if_neg (fun q => by have := (kx_ge (by omega) (by omega)).mp q; omega)]
    have hkn : k < n := by omega
    have d6 := hD k hkn
    refine kx_go 1 (pc' := 11) (L' := [(2, .inl (Int32.ofNat k)), (0, .inr (.inr (.inl (some 1)))), (1, .inl (Int32.ofNat x))]) (S' := [.inr (.inr (.inl (some 1)))]) (h' := h) (by with_unfolding_all rfl) ?_
    refine kx_getf (c := 1) (v := .inr (.inr (.inl (some 27)))) rfl (by decide) (kx_ofr (hw _ _ _ fs_k1_10)) ?_
    refine kx_go 1 (pc' := 15) (L' := [(2, .inl (Int32.ofNat k)), (0, .inr (.inr (.inl (some 1)))), (1, .inl (Int32.ofNat x))]) (S' := [.inl (Int32.ofNat k), .inr (.inr (.inl (some 27)))]) (h' := h) (by with_unfolding_all rfl) ?_
    refine kx_iald (c := 27) (j := k) (m := 5) (v := .inl (Int32.ofNat (D k))) rfl rfl (by decide) (by decide) (by omega) (hl k hkn) ?_
    refine kx_go 2 (pc' := (if kc_cnd .ne (Int32.ofNat (D k)).toInt (Int32.ofNat x).toInt then 22 else 20)) (L' := [(2, .inl (Int32.ofNat k)), (0, .inr (.inr (.inl (some 1)))), (1, .inl (Int32.ofNat x))]) (S' := []) (h' := h) (by with_unfolding_all rfl) ?_
    by_cases c : D k = x
    · rw [if_neg (fun q => (kx_ne (by omega) (by omega)).mp q c), show pb_il D n x = true from (ms_any_iff n).mpr ⟨k, hkn, decide_eq_true c⟩]
      refine kx_go 1 (pc' := 21) (L' := [(2, .inl (Int32.ofNat k)), (0, .inr (.inr (.inl (some 1)))), (1, .inl (Int32.ofNat x))]) (S' := [.inl (Int32.ofNat 1)]) (h' := h) (by with_unfolding_all rfl) ?_
      exact kc_ret_ok rfl (rv := some (.inl (Int32.ofNat 1))) rfl ⟨rfl, rfl⟩
    · rw [if_pos ((kx_ne (by omega) (by omega)).mpr c)]
      refine kx_go 2 (pc' := 2) (L' := [(2, .inl ((Int32.ofNat k) + Int32.ofInt 1)), (0, .inr (.inr (.inl (some 1)))), (1, .inl (Int32.ofNat x))]) (S' := []) (h' := h) (by with_unfolding_all rfl) ?_
      rw [kx_inc]
      exact ih (k + 1) (by omega) (by omega) (fun j hj => by
        by_cases e : j = k
        · rw [e]; exact c
        · exact hno j (by omega))
set_option maxRecDepth 20000 in
theorem fs_c201 {g : kc_G} {d : Nat} {h : kc_H} {B : Nat → Int32} {D : Nat → Nat} {n x : Nat} (hg : kc_ok g) (hw : kd_wt kd_ty h) (hC : fu_C B 1 h) (hn : n ≤ 5) (en : B 3 = Int32.ofNat n) (hl : ∀ k, k < n → h 27 k = .inl (Int32.ofNat (D k))) (hD : ∀ k, k < n → D k < 6) (hx : x < 7) : kc_Con g (d + 1) 201 [.inr (.inr (.inl (some 1))), .inl (Int32.ofNat x)] h (fun rv h' => rv = some (.inl (kp_b (pb_il D n x))) ∧ h' = h) := by
  refine kc_Con_new hg (M := wk_m201) rfl rfl rfl (show 2 ≤ 3 by decide) ?_
  refine kx_go 2 (pc' := 2) (L' := [(2, .inl (Int32.ofNat 0)), (0, .inr (.inr (.inl (some 1)))), (1, .inl (Int32.ofNat x))]) (S' := []) (h' := h) (by with_unfolding_all rfl) ?_
  exact fs_c201l hw hC hn en hl hD hx n 0 (by omega) (by omega) (fun j hj => by omega)
set_option maxRecDepth 20000 in
theorem fs_c127l {g : kc_G} {d : Nat} {h0 : kc_H} {B : Nat → Int32} {D : Nat → Nat} {n X : Nat} (hg : kc_ok g) (hC0 : fu_C B 1 h0) (hn : n ≤ 5) (en : B 3 = Int32.ofNat n) (eX : B 0 = Int32.ofNat X) (hX : X ≤ 5) (hl : ∀ k, k < n → h0 27 k = .inl (Int32.ofNat (D k))) (hD : ∀ k, k < n → D k < 6) : ∀ (u e : Nat) (h : kc_H), X - e = u → e ≤ X → kd_wt kd_ty h → fs_ls D n e 252 h → (∀ a x, ¬ a = 252 → h a x = h0 a x) → kc_Ev g (d + 1) wk_m127 (fun rv h' => rv = none ∧ kd_wt kd_ty h' ∧ fs_ls D n X 252 h' ∧ ∀ a x, ¬ a = 252 → h' a x = h0 a x) 4 [(2, .inl (Int32.ofNat (e + 1))), (1, .inl (Int32.ofNat (pb_ls D n e).1)), (0, .inr (.inr (.inl (some 250))))] [] h := by
  intro u
  induction u with
  | zero =>
    intro e h hu he hw hls hF
    have hC : fu_C B 1 h := fs_C_f (fun a x q => hF a x (by omega)) hC0
    have pl := pb_ls_p (D := D) (n := n) e
    refine kx_go 2 (pc' := 6) (L' := [(2, .inl (Int32.ofNat (e + 1))), (1, .inl (Int32.ofNat (pb_ls D n e).1)), (0, .inr (.inr (.inl (some 250))))]) (S' := [.inr (.inr (.inl (some 250))), .inl (Int32.ofNat (e + 1))]) (h' := h) (by with_unfolding_all rfl) ?_
    refine kx_getf (c := 250) (v := .inr (.inr (.inl (some 1)))) rfl (by decide) (kx_ofr (hw _ _ _ fs_k250_0)) ?_
    refine kx_getf (c := 1) (v := .inl (Int32.ofNat X)) rfl (by decide) ((fu_C0 hC).1.trans (by rw [eX])) ?_
    refine kx_go 1 (pc' := (if kc_cnd .gt (Int32.ofNat (e + 1)).toInt (Int32.ofNat X).toInt then 47 else 15)) (L' := [(2, .inl (Int32.ofNat (e + 1))), (1, .inl (Int32.ofNat (pb_ls D n e).1)), (0, .inr (.inr (.inl (some 250))))]) (S' := []) (h' := h) (by with_unfolding_all rfl) ?_
    rw [if_pos ((kx_gt (by omega) (by omega)).mpr (by omega))]
    obtain rfl : e = X := by omega
    exact kc_ret_ok rfl (rv := none) rfl ⟨rfl, hw, hls, hF⟩
  | succ u ih =>
    intro e h hu he hw hls hF
    have hC : fu_C B 1 h := fs_C_f (fun a x q => hF a x (by omega)) hC0
    have pl := pb_ls_p (D := D) (n := n) e
    refine kx_go 2 (pc' := 6) (L' := [(2, .inl (Int32.ofNat (e + 1))), (1, .inl (Int32.ofNat (pb_ls D n e).1)), (0, .inr (.inr (.inl (some 250))))]) (S' := [.inr (.inr (.inl (some 250))), .inl (Int32.ofNat (e + 1))]) (h' := h) (by with_unfolding_all rfl) ?_
    refine kx_getf (c := 250) (v := .inr (.inr (.inl (some 1)))) rfl (by decide) (kx_ofr (hw _ _ _ fs_k250_0)) ?_
    refine kx_getf (c := 1) (v := .inl (Int32.ofNat X)) rfl (by decide) ((fu_C0 hC).1.trans (by rw [eX])) ?_
    refine kx_go 1 (pc' := (if kc_cnd .gt (Int32.ofNat (e + 1)).toInt (Int32.ofNat X).toInt then 47 else 15)) (L' := [(2, .inl (Int32.ofNat (e + 1))), (1, .inl (Int32.ofNat (pb_ls D n e).1)), (0, .inr (.inr (.inl (some 250))))]) (S' := []) (h' := h) (by with_unfolding_all rfl) ?_
    rw [if_neg (fun q => by have := (kx_gt (by omega) (by omega)).mp q; omega)]
    refine kx_go 3 (pc' := (if kc_cnd .ge (Int32.ofNat (pb_ls D n e).1).toInt (Int32.ofNat 5).toInt then 47 else 20)) (L' := [(2, .inl (Int32.ofNat (e + 1))), (1, .inl (Int32.ofNat (pb_ls D n e).1)), (0, .inr (.inr (.inl (some 250))))]) (S' := []) (h' := h) (by with_unfolding_all rfl) ?_
    rw [if_neg (fun q => by have := (kx_ge (by omega) (by omega)).mp q; omega)]
    refine kx_go 1 (pc' := 21) (L' := [(2, .inl (Int32.ofNat (e + 1))), (1, .inl (Int32.ofNat (pb_ls D n e).1)), (0, .inr (.inr (.inl (some 250))))]) (S' := [.inr (.inr (.inl (some 250)))]) (h' := h) (by with_unfolding_all rfl) ?_
    refine kx_getf (c := 250) (v := .inr (.inr (.inl (some 1)))) rfl (by decide) (kx_ofr (hw _ _ _ fs_k250_0)) ?_
    refine kx_go 1 (pc' := 25) (L' := [(2, .inl (Int32.ofNat (e + 1))), (1, .inl (Int32.ofNat (pb_ls D n e).1)), (0, .inr (.inr (.inl (some 250))))]) (S' := [.inl (Int32.ofNat (e + 1)), .inr (.inr (.inl (some 1)))]) (h' := h) (by with_unfolding_all rfl) ?_
    refine kc_call_rule (M2 := wk_m201) (av := [.inr (.inr (.inl (some 1))), .inl (Int32.ofNat (e + 1))]) (r := []) rfl rfl (kc_Con_le (fs_c201 (d := d) (D := D) hg hw hC hn en (fun k hk => (hF 27 k (by decide)).trans (hl k hk)) hD (show e + 1 < 7 by omega)) (by omega)) (fun rv hcc hq => ?_)
    obtain ⟨rfl, e9⟩ := hq
    rw [e9]
    clear e9
    show kc_Ev g (d + 1) wk_m127 _ 28 [(2, .inl (Int32.ofNat (e + 1))), (1, .inl (Int32.ofNat (pb_ls D n e).1)), (0, .inr (.inr (.inl (some 250))))] [.inl (kp_b (pb_il D n (e + 1)))] h
    refine kx_go 1 (pc' := (if kc_cnd .eq (kp_b (pb_il D n (e + 1))).toInt 0 then 41 else 31)) (L' := [(2, .inl (Int32.ofNat (e + 1))), (1, .inl (Int32.ofNat (pb_ls D n e).1)), (0, .inr (.inr (.inl (some 250))))]) (S' := []) (h' := h) (by with_unfolding_all rfl) ?_
    have eL : pb_ls D n (e + 1) = if pb_il D n (e + 1) = true then ((pb_ls D n e).1 + 1, ms_u (pb_ls D n e).2 (pb_ls D n e).1 (e + 1)) else pb_ls D n e := rfl
    cases q2 : pb_il D n (e + 1) with
    | false =>
      rw [if_pos (kx_b0.mpr rfl)]
      refine kx_go 2 (pc' := 4) (L' := [(2, .inl ((Int32.ofNat (e + 1)) + Int32.ofInt 1)), (1, .inl (Int32.ofNat (pb_ls D n e).1)), (0, .inr (.inr (.inl (some 250))))]) (S' := []) (h' := h) (by with_unfolding_all rfl) ?_
      rw [kx_inc]
      have e9 : pb_ls D n (e + 1) = pb_ls D n e := by rw [eL, if_neg (by rw [q2]; decide)]
      have k9 := ih (e + 1) h (by omega) (by omega) hw (by unfold fs_ls; rw [e9]; exact hls) hF
      rw [e9] at k9
      exact k9
    | true =>
      rw [if_neg fa_b0t]
      refine kx_go 1 (pc' := 32) (L' := [(2, .inl (Int32.ofNat (e + 1))), (1, .inl (Int32.ofNat (pb_ls D n e).1)), (0, .inr (.inr (.inl (some 250))))]) (S' := [.inr (.inr (.inl (some 250)))]) (h' := h) (by with_unfolding_all rfl) ?_
      refine kx_getf (c := 250) (v := .inr (.inr (.inl (some 252)))) rfl (by decide) (kx_ofr (hw _ _ _ fs_k250_6)) ?_
      refine kx_go 2 (pc' := 37) (L' := [(2, .inl (Int32.ofNat (e + 1))), (1, .inl (Int32.ofNat (pb_ls D n e).1)), (0, .inr (.inr (.inl (some 250))))]) (S' := [.inl (Int32.ofNat (e + 1)), .inl (Int32.ofNat (pb_ls D n e).1), .inr (.inr (.inl (some 252)))]) (h' := h) (by with_unfolding_all rfl) ?_
      refine kx_iast (c := 252) (j := (pb_ls D n e).1) (m := 5) rfl rfl (by decide) (by decide) (by omega) ?_
      refine kx_go 3 (pc' := 4) (L' := [(2, .inl ((Int32.ofNat (e + 1)) + Int32.ofInt 1)), (1, .inl ((Int32.ofNat (pb_ls D n e).1) + Int32.ofInt 1)), (0, .inr (.inr (.inl (some 250))))]) (S' := []) (h' := (kc_upd h 252 ((pb_ls D n e).1) (.inl (Int32.ofNat (e + 1))))) (by with_unfolding_all rfl) ?_
      rw [kx_inc, kx_inc]
      have e9 : pb_ls D n (e + 1) = ((pb_ls D n e).1 + 1, ms_u (pb_ls D n e).2 (pb_ls D n e).1 (e + 1)) := by rw [eL, if_pos q2]
      have k9 := ih (e + 1) (kc_upd h 252 (pb_ls D n e).1 (.inl (Int32.ofNat (e + 1)))) (by omega) (by omega) (fa_wn (fs_k252.1 _ (by omega)) (show e + 1 ≤ 5 by omega) (by decide) hw) (by
        unfold fs_ls
        rw [e9]
        intro j hj
        have hj : j < (pb_ls D n e).1 + 1 := hj
        show _ = Sum.inl (Int32.ofNat (ms_u (pb_ls D n e).2 (pb_ls D n e).1 (e + 1) j))
        by_cases c : j = (pb_ls D n e).1
        · rw [c, fu_eq, ms_ue]
        · rw [fu_ne (fun q => c q.2), ms_un c]
          exact hls j (by omega)) (fun a y ha => (fu_ne (fun q => ha q.1)).trans (hF a y ha))
      rw [e9] at k9
      refine kf_lo (L := [(2, .inl (Int32.ofNat (e + 1 + 1))), (1, .inl (Int32.ofNat ((pb_ls D n e).1 + 1))), (0, .inr (.inr (.inl (some 250))))]) (by intro q hq; simp only [List.mem_cons, List.not_mem_nil, or_false] at hq; rcases hq with rfl | rfl | rfl <;> rfl) ?_
      exact k9
set_option maxRecDepth 20000 in
theorem fs_c127 {g : kc_G} {d : Nat} {h0 : kc_H} {B : Nat → Int32} {D : Nat → Nat} {n X : Nat} (hw0 : kd_wt kd_ty h0) (hg : kc_ok g) (hC0 : fu_C B 1 h0) (hn : n ≤ 5) (en : B 3 = Int32.ofNat n) (eX : B 0 = Int32.ofNat X) (hX : X ≤ 5) (hl : ∀ k, k < n → h0 27 k = .inl (Int32.ofNat (D k))) (hD : ∀ k, k < n → D k < 6) : kc_Con g (d + 2) 127 [.inr (.inr (.inl (some 250)))] h0 (fun rv h' => rv = none ∧ kd_wt kd_ty h' ∧ fs_ls D n X 252 h' ∧ ∀ a x, ¬ a = 252 → h' a x = h0 a x) := by
  refine kc_Con_new hg (M := wk_m127) rfl rfl rfl (show 1 ≤ 3 by decide) ?_
  refine kx_go 4 (pc' := 4) (L' := [(2, .inl (Int32.ofNat 1)), (1, .inl (Int32.ofNat 0)), (0, .inr (.inr (.inl (some 250))))]) (S' := []) (h' := h0) (by with_unfolding_all rfl) ?_
  exact fs_c127l hg hC0 hn en eX hX hl hD X 0 h0 (by omega) (by omega) hw0 (fun j hj => by cases hj) (fun _ _ _ => rfl)
set_option maxRecDepth 20000 in
theorem fs_c213 {g : kc_G} {d : Nat} {h : kc_H} {f : Nat → Nat} {n a b : Nat} (hg : kc_ok g) (hw : kd_wt kd_ty h) (hn : n ≤ 5) (ha : a < n) (hb : b < n) (hr : fs_or f n h) : kc_Con g (d + 1) 213 [.inr (.inr (.inl (some 250))), .inl (Int32.ofNat a), .inl (Int32.ofNat b)] h (fun rv h' => rv = none ∧ kd_wt kd_ty h' ∧ fs_or (pb_sw f a b) n h' ∧ ∀ x y, ¬ x = 252 → h' x y = h x y) := by
  have ra := hr a ha
  have rb := hr b hb
  refine kc_Con_new hg (M := wk_m213) rfl rfl rfl (show 3 ≤ 4 by decide) ?_
  refine kx_go 1 (pc' := 1) (L' := [(0, .inr (.inr (.inl (some 250)))), (1, .inl (Int32.ofNat a)), (2, .inl (Int32.ofNat b))]) (S' := [.inr (.inr (.inl (some 250)))]) (h' := h) (by with_unfolding_all rfl) ?_
  refine kx_getf (c := 250) (v := .inr (.inr (.inl (some 252)))) rfl (by decide) (kx_ofr (hw _ _ _ fs_k250_6)) ?_
  refine kx_go 1 (pc' := 5) (L' := [(0, .inr (.inr (.inl (some 250)))), (1, .inl (Int32.ofNat a)), (2, .inl (Int32.ofNat b))]) (S' := [.inl (Int32.ofNat a), .inr (.inr (.inl (some 252)))]) (h' := h) (by with_unfolding_all rfl) ?_
  refine kx_iald (c := 252) (j := a) (m := 5) (v := .inl (Int32.ofNat (f a))) rfl rfl (by decide) (by decide) (by omega) ra.1 ?_
  refine kx_go 2 (pc' := 8) (L' := [(3, .inl (Int32.ofNat (f a))), (0, .inr (.inr (.inl (some 250)))), (1, .inl (Int32.ofNat a)), (2, .inl (Int32.ofNat b))]) (S' := [.inr (.inr (.inl (some 250)))]) (h' := h) (by with_unfolding_all rfl) ?_
  refine kx_getf (c := 250) (v := .inr (.inr (.inl (some 252)))) rfl (by decide) (kx_ofr (hw _ _ _ fs_k250_6)) ?_
  refine kx_go 2 (pc' := 13) (L' := [(3, .inl (Int32.ofNat (f a))), (0, .inr (.inr (.inl (some 250)))), (1, .inl (Int32.ofNat a)), (2, .inl (Int32.ofNat b))]) (S' := [.inr (.inr (.inl (some 250))), .inl (Int32.ofNat a), .inr (.inr (.inl (some 252)))]) (h' := h) (by with_unfolding_all rfl) ?_
  refine kx_getf (c := 250) (v := .inr (.inr (.inl (some 252)))) rfl (by decide) (kx_ofr (hw _ _ _ fs_k250_6)) ?_
  refine kx_go 1 (pc' := 17) (L' := [(3, .inl (Int32.ofNat (f a))), (0, .inr (.inr (.inl (some 250)))), (1, .inl (Int32.ofNat a)), (2, .inl (Int32.ofNat b))]) (S' := [.inl (Int32.ofNat b), .inr (.inr (.inl (some 252))), .inl (Int32.ofNat a), .inr (.inr (.inl (some 252)))]) (h' := h) (by with_unfolding_all rfl) ?_
  refine kx_iald (c := 252) (j := b) (m := 5) (v := .inl (Int32.ofNat (f b))) rfl rfl (by decide) (by decide) (by omega) rb.1 ?_
  refine kx_iast (c := 252) (j := a) (m := 5) rfl rfl (by decide) (by decide) (by omega) ?_
  have hw1 : kd_wt kd_ty (kc_upd h 252 a (.inl (Int32.ofNat (f b)))) := fa_wn (fs_k252.1 a (by omega)) (show f b ≤ 5 by omega) (by decide) hw
  refine kx_go 1 (pc' := 20) (L' := [(3, .inl (Int32.ofNat (f a))), (0, .inr (.inr (.inl (some 250)))), (1, .inl (Int32.ofNat a)), (2, .inl (Int32.ofNat b))]) (S' := [.inr (.inr (.inl (some 250)))]) (h' := (kc_upd h 252 a (.inl (Int32.ofNat (f b))))) (by with_unfolding_all rfl) ?_
  refine kx_getf (c := 250) (v := .inr (.inr (.inl (some 252)))) rfl (by decide) (kx_ofr (hw1 _ _ _ fs_k250_6)) ?_
  refine kx_go 2 (pc' := 25) (L' := [(3, .inl (Int32.ofNat (f a))), (0, .inr (.inr (.inl (some 250)))), (1, .inl (Int32.ofNat a)), (2, .inl (Int32.ofNat b))]) (S' := [.inl (Int32.ofNat (f a)), .inl (Int32.ofNat b), .inr (.inr (.inl (some 252)))]) (h' := (kc_upd h 252 a (.inl (Int32.ofNat (f b))))) (by with_unfolding_all rfl) ?_
  refine kx_iast (c := 252) (j := b) (m := 5) rfl rfl (by decide) (by decide) (by omega) ?_
  refine kc_ret_ok rfl (rv := none) rfl ⟨rfl, fa_wn (fs_k252.1 b (by omega)) (show f a ≤ 5 by omega) (by decide) hw1, fun j hj => ?_, fun x y q => (fu_ne (fun e => q e.1)).trans (fu_ne (fun e => q e.1))⟩
  unfold pb_sw
  by_cases e1 : j = b
  · rw [e1, ms_ue]; exact ⟨fu_eq, ra.2⟩
  · rw [ms_un e1]
    by_cases e2 : j = a
    · rw [e2, ms_ue]; exact ⟨(fu_ne (fun q => e1 (e2.trans q.2))).trans fu_eq, rb.2⟩
    · rw [ms_un e2]; exact ⟨(fu_ne (fun q => e1 q.2)).trans ((fu_ne (fun q => e2 q.2)).trans (hr j hj).1), (hr j hj).2⟩
def fs_oq (h0 : kc_H) (n : Nat) (z : Option (Nat → Nat)) (rv : Option kc_V) (h' : kc_H) : Prop := kd_wt kd_ty h' ∧ (∀ a x, ¬ a = 252 → h' a x = h0 a x) ∧ match z with
  | none => rv = some (.inl (kp_b false))
  | some f2 => rv = some (.inl (kp_b true)) ∧ fs_or f2 n h'
theorem fs_im6 {n : Nat} : Int32.ofNat n - Int32.ofNat 2 = Int32.ofInt ((n : Int) - 2) := by
  rw [← Int32.ofInt_eq_ofNat, ← Int32.ofInt_eq_ofNat, ← Int32.ofInt_sub]
  rfl
set_option maxRecDepth 20000 in
theorem fs_c128r {g : kc_G} {d : Nat} {h0 : kc_H} {n : Nat} (hg : kc_ok g) (hn : n ≤ 5) : ∀ (u a b : Nat) (f : Nat → Nat) (h : kc_H), b ≤ a + 2 * u → a + u ≤ 100 → b < n → kd_wt kd_ty h → fs_or f n h → (∀ x y, ¬ x = 252 → h x y = h0 x y) → kc_Ev g (d + 1) wk_m128 (fs_oq h0 n (some (pb_rev u a b f))) 100 [(4, .inl (Int32.ofNat b)), (3, .inl (Int32.ofNat a)), (0, .inr (.inr (.inl (some 250))))] [] h := by
  intro u
  induction u with
  | zero =>
    intro a b f h hu hau hb hw hr hF
    refine kx_go 3 (pc' := (if kc_cnd .ge (Int32.ofNat a).toInt (Int32.ofNat b).toInt then 122 else 106)) (L' := [(4, .inl (Int32.ofNat b)), (3, .inl (Int32.ofNat a)), (0, .inr (.inr (.inl (some 250))))]) (S' := []) (h' := h) (by with_unfolding_all rfl) ?_
    rw [if_pos ((kx_ge (by omega) (by omega)).mpr (by omega))]
    refine kx_go 1 (pc' := 123) (L' := [(4, .inl (Int32.ofNat b)), (3, .inl (Int32.ofNat a)), (0, .inr (.inr (.inl (some 250))))]) (S' := [.inl (Int32.ofNat 1)]) (h' := h) (by with_unfolding_all rfl) ?_
    exact kc_ret_ok rfl (rv := some (.inl (kp_b true))) rfl ⟨hw, hF, rfl, hr⟩
  | succ u ih =>
    intro a b f h hu hau hb hw hr hF
    refine kx_go 3 (pc' := (if kc_cnd .ge (Int32.ofNat a).toInt (Int32.ofNat b).toInt then 122 else 106)) (L' := [(4, .inl (Int32.ofNat b)), (3, .inl (Int32.ofNat a)), (0, .inr (.inr (.inl (some 250))))]) (S' := []) (h' := h) (by with_unfolding_all rfl) ?_
    have eR : pb_rev (u + 1) a b f = if a < b then pb_rev u (a + 1) (b - 1) (pb_sw f a b) else f := rfl
    rw [eR]
    by_cases c : a < b
    · rw [if_pos c, if_neg (fun q => by have := (kx_ge (by omega) (by omega)).mp q; omega)]
      refine kx_go 3 (pc' := 110) (L' := [(4, .inl (Int32.ofNat b)), (3, .inl (Int32.ofNat a)), (0, .inr (.inr (.inl (some 250))))]) (S' := [.inl (Int32.ofNat b), .inl (Int32.ofNat a), .inr (.inr (.inl (some 250)))]) (h' := h) (by with_unfolding_all rfl) ?_
      refine kc_call_rule (M2 := wk_m213) (av := [.inr (.inr (.inl (some 250))), .inl (Int32.ofNat a), .inl (Int32.ofNat b)]) (r := []) rfl rfl (kc_Con_le (fs_c213 (d := d) hg hw hn (show a < n by omega) hb hr) (by omega)) (fun rv h2 hq => ?_)
      obtain ⟨rfl, hw2, hr2, hF2⟩ := hq
      show kc_Ev g (d + 1) wk_m128 _ 113 [(4, .inl (Int32.ofNat b)), (3, .inl (Int32.ofNat a)), (0, .inr (.inr (.inl (some 250))))] [] h2
      refine kx_go 3 (pc' := 100) (L' := [(4, .inl ((Int32.ofNat b) + Int32.ofInt (-1))), (3, .inl ((Int32.ofNat a) + Int32.ofInt 1)), (0, .inr (.inr (.inl (some 250))))]) (S' := []) (h' := h2) (by with_unfolding_all rfl) ?_
      rw [kx_inc, fs_im2, show (b : Int) - 1 = ((b - 1 : Nat) : Int) by omega, Int32.ofInt_eq_ofNat]
      refine kf_lo (L := [(4, .inl (Int32.ofNat (b - 1))), (3, .inl (Int32.ofNat (a + 1))), (0, .inr (.inr (.inl (some 250))))]) (by intro q hq; simp only [List.mem_cons, List.not_mem_nil, or_false] at hq; rcases hq with rfl | rfl | rfl <;> rfl) ?_
      exact ih (a + 1) (b - 1) (pb_sw f a b) h2 (by omega) (by omega) (by omega) hw2 hr2 (fun x y q => (hF2 x y q).trans (hF x y q))
    · rw [if_neg c, if_pos ((kx_ge (by omega) (by omega)).mpr (by omega))]
      refine kx_go 1 (pc' := 123) (L' := [(4, .inl (Int32.ofNat b)), (3, .inl (Int32.ofNat a)), (0, .inr (.inr (.inl (some 250))))]) (S' := [.inl (Int32.ofNat 1)]) (h' := h) (by with_unfolding_all rfl) ?_
      exact kc_ret_ok rfl (rv := some (.inl (kp_b true))) rfl ⟨hw, hF, rfl, hr⟩
set_option maxRecDepth 20000 in
theorem fs_c128n {g : kc_G} {d : Nat} {h : kc_H} {f : Nat → Nat} {n k : Nat} (hg : kc_ok g) (hw : kd_wt kd_ty h) (hn : n ≤ 5) (hk : k + 1 < n) (en : h 1 3 = .inl (Int32.ofNat n)) (hr : fs_or f n h) : ∀ (t : Nat), k + t < n → kc_Ev g (d + 1) wk_m128 (fs_oq h n (some (pb_rev n (k + 1) (n - 1) (pb_sw f k (pb_ne f k t))))) 53 [(2, .inl (Int32.ofNat (k + t))), (1, .inl (Int32.ofNat k)), (0, .inr (.inr (.inl (some 250))))] [] h := by
  have e3 : h 1 3 = .inl (Int32.ofNat n) := en
  have rk := hr k (by omega)
  intro t
  induction t with
  | zero =>
    intro ht
    refine kx_go 3 (pc' := (if kc_cnd .le (Int32.ofNat (k + 0)).toInt (Int32.ofNat k).toInt then 79 else 58)) (L' := [(2, .inl (Int32.ofNat (k + 0))), (1, .inl (Int32.ofNat k)), (0, .inr (.inr (.inl (some 250))))]) (S' := []) (h' := h) (by with_unfolding_all rfl) ?_
    rw [if_pos ((kx_le (by omega) (by omega)).mpr (by omega))]
    refine kx_go 3 (pc' := 82) (L' := [(2, .inl (Int32.ofNat (k + 0))), (1, .inl (Int32.ofNat k)), (0, .inr (.inr (.inl (some 250))))]) (S' := [.inl (Int32.ofNat (k + 0)), .inl (Int32.ofNat k), .inr (.inr (.inl (some 250)))]) (h' := h) (by with_unfolding_all rfl) ?_
    refine kc_call_rule (M2 := wk_m213) (av := [.inr (.inr (.inl (some 250))), .inl (Int32.ofNat k), .inl (Int32.ofNat (k + 0))]) (r := []) rfl rfl (kc_Con_le (fs_c213 (d := d) hg hw hn (show k < n by omega) (show k + 0 < n by omega) hr) (by omega)) (fun rv h2 hq => ?_)
    obtain ⟨rfl, hw2, hr2, hF2⟩ := hq
    show kc_Ev g (d + 1) wk_m128 _ 85 [(2, .inl (Int32.ofNat (k + 0))), (1, .inl (Int32.ofNat k)), (0, .inr (.inr (.inl (some 250))))] [] h2
    refine kx_go 5 (pc' := 90) (L' := [(3, .inl ((Int32.ofNat k) + (Int32.ofNat 1))), (2, .inl (Int32.ofNat (k + 0))), (1, .inl (Int32.ofNat k)), (0, .inr (.inr (.inl (some 250))))]) (S' := [.inr (.inr (.inl (some 250)))]) (h' := h2) (by with_unfolding_all rfl) ?_
    refine kx_getf (c := 250) (v := .inr (.inr (.inl (some 1)))) rfl (by decide) (kx_ofr (hw2 _ _ _ fs_k250_0)) ?_
    refine kx_getf (c := 1) (v := .inl (Int32.ofNat n)) rfl (by decide) ((hF2 1 3 (by decide)).trans e3) ?_
    refine kx_go 3 (pc' := 100) (L' := [(4, .inl ((Int32.ofNat n) - (Int32.ofNat 1))), (3, .inl ((Int32.ofNat k) + (Int32.ofNat 1))), (2, .inl (Int32.ofNat (k + 0))), (1, .inl (Int32.ofNat k)), (0, .inr (.inr (.inl (some 250))))]) (S' := []) (h' := h2) (by with_unfolding_all rfl) ?_
    rw [kx_add, kx_sub (by omega)]
    refine kf_lo (L := [(4, .inl (Int32.ofNat (n - 1))), (3, .inl (Int32.ofNat (k + 1))), (0, .inr (.inr (.inl (some 250))))]) (by intro q hq; simp only [List.mem_cons, List.not_mem_nil, or_false] at hq; rcases hq with rfl | rfl | rfl <;> rfl) ?_
    exact fs_c128r (h0 := h) hg hn n (k + 1) (n - 1) _ h2 (by omega) (by omega) (by omega) hw2 hr2 hF2
  | succ t ih =>
    intro ht
    have rt := hr (k + t + 1) (by omega)
    have eN : pb_ne f k (t + 1) = if f (k + t + 1) < f k then pb_ne f k t else k + t + 1 := rfl
    refine kx_go 3 (pc' := (if kc_cnd .le (Int32.ofNat (k + t + 1)).toInt (Int32.ofNat k).toInt then 79 else 58)) (L' := [(2, .inl (Int32.ofNat (k + t + 1))), (1, .inl (Int32.ofNat k)), (0, .inr (.inr (.inl (some 250))))]) (S' := []) (h' := h) (by with_unfolding_all rfl) ?_
    rw [if_neg (fun q => by have := (kx_le (by omega) (by omega)).mp q; omega)]
    refine kx_go 1 (pc' := 59) (L' := [(2, .inl (Int32.ofNat (k + t + 1))), (1, .inl (Int32.ofNat k)), (0, .inr (.inr (.inl (some 250))))]) (S' := [.inr (.inr (.inl (some 250)))]) (h' := h) (by with_unfolding_all rfl) ?_
    refine kx_getf (c := 250) (v := .inr (.inr (.inl (some 252)))) rfl (by decide) (kx_ofr (hw _ _ _ fs_k250_6)) ?_
    refine kx_go 1 (pc' := 63) (L' := [(2, .inl (Int32.ofNat (k + t + 1))), (1, .inl (Int32.ofNat k)), (0, .inr (.inr (.inl (some 250))))]) (S' := [.inl (Int32.ofNat (k + t + 1)), .inr (.inr (.inl (some 252)))]) (h' := h) (by with_unfolding_all rfl) ?_
    refine kx_iald (c := 252) (j := k + t + 1) (m := 5) (v := .inl (Int32.ofNat (f (k + t + 1)))) rfl rfl (by decide) (by decide) (by omega) rt.1 ?_
    refine kx_go 1 (pc' := 65) (L' := [(2, .inl (Int32.ofNat (k + t + 1))), (1, .inl (Int32.ofNat k)), (0, .inr (.inr (.inl (some 250))))]) (S' := [.inr (.inr (.inl (some 250))), .inl (Int32.ofNat (f (k + t + 1)))]) (h' := h) (by with_unfolding_all rfl) ?_
    refine kx_getf (c := 250) (v := .inr (.inr (.inl (some 252)))) rfl (by decide) (kx_ofr (hw _ _ _ fs_k250_6)) ?_
    refine kx_go 1 (pc' := 69) (L' := [(2, .inl (Int32.ofNat (k + t + 1))), (1, .inl (Int32.ofNat k)), (0, .inr (.inr (.inl (some 250))))]) (S' := [.inl (Int32.ofNat k), .inr (.inr (.inl (some 252))), .inl (Int32.ofNat (f (k + t + 1)))]) (h' := h) (by with_unfolding_all rfl) ?_
    refine kx_iald (c := 252) (j := k) (m := 5) (v := .inl (Int32.ofNat (f k))) rfl rfl (by decide) (by decide) (by omega) rk.1 ?_
    refine kx_go 1 (pc' := (if kc_cnd .ge (Int32.ofNat (f (k + t + 1))).toInt (Int32.ofNat (f k)).toInt then 79 else 73)) (L' := [(2, .inl (Int32.ofNat (k + t + 1))), (1, .inl (Int32.ofNat k)), (0, .inr (.inr (.inl (some 250))))]) (S' := []) (h' := h) (by with_unfolding_all rfl) ?_
    by_cases c : f (k + t + 1) < f k
    · rw [show pb_ne f k (t + 1) = pb_ne f k t from if_pos c, if_neg (fun q => by have := (kx_ge (by omega) (by omega)).mp q; omega)]
      refine kx_go 2 (pc' := 53) (L' := [(2, .inl ((Int32.ofNat (k + t + 1)) + Int32.ofInt (-1))), (1, .inl (Int32.ofNat k)), (0, .inr (.inr (.inl (some 250))))]) (S' := []) (h' := h) (by with_unfolding_all rfl) ?_
      rw [fs_dn1 (show k + t + 1 = (k + t) + 1 from rfl)]
      exact ih (by omega)
    · rw [show pb_ne f k (t + 1) = k + t + 1 from if_neg c, if_pos ((kx_ge (by omega) (by omega)).mpr (by omega))]
      refine kx_go 3 (pc' := 82) (L' := [(2, .inl (Int32.ofNat (k + t + 1))), (1, .inl (Int32.ofNat k)), (0, .inr (.inr (.inl (some 250))))]) (S' := [.inl (Int32.ofNat (k + t + 1)), .inl (Int32.ofNat k), .inr (.inr (.inl (some 250)))]) (h' := h) (by with_unfolding_all rfl) ?_
      refine kc_call_rule (M2 := wk_m213) (av := [.inr (.inr (.inl (some 250))), .inl (Int32.ofNat k), .inl (Int32.ofNat (k + t + 1))]) (r := []) rfl rfl (kc_Con_le (fs_c213 (d := d) hg hw hn (show k < n by omega) (show k + t + 1 < n by omega) hr) (by omega)) (fun rv h2 hq => ?_)
      obtain ⟨rfl, hw2, hr2, hF2⟩ := hq
      show kc_Ev g (d + 1) wk_m128 _ 85 [(2, .inl (Int32.ofNat (k + t + 1))), (1, .inl (Int32.ofNat k)), (0, .inr (.inr (.inl (some 250))))] [] h2
      refine kx_go 5 (pc' := 90) (L' := [(3, .inl ((Int32.ofNat k) + (Int32.ofNat 1))), (2, .inl (Int32.ofNat (k + t + 1))), (1, .inl (Int32.ofNat k)), (0, .inr (.inr (.inl (some 250))))]) (S' := [.inr (.inr (.inl (some 250)))]) (h' := h2) (by with_unfolding_all rfl) ?_
      refine kx_getf (c := 250) (v := .inr (.inr (.inl (some 1)))) rfl (by decide) (kx_ofr (hw2 _ _ _ fs_k250_0)) ?_
      refine kx_getf (c := 1) (v := .inl (Int32.ofNat n)) rfl (by decide) ((hF2 1 3 (by decide)).trans e3) ?_
      refine kx_go 3 (pc' := 100) (L' := [(4, .inl ((Int32.ofNat n) - (Int32.ofNat 1))), (3, .inl ((Int32.ofNat k) + (Int32.ofNat 1))), (2, .inl (Int32.ofNat (k + t + 1))), (1, .inl (Int32.ofNat k)), (0, .inr (.inr (.inl (some 250))))]) (S' := []) (h' := h2) (by with_unfolding_all rfl) ?_
      rw [kx_add, kx_sub (by omega)]
      refine kf_lo (L := [(4, .inl (Int32.ofNat (n - 1))), (3, .inl (Int32.ofNat (k + 1))), (0, .inr (.inr (.inl (some 250))))]) (by intro q hq; simp only [List.mem_cons, List.not_mem_nil, or_false] at hq; rcases hq with rfl | rfl | rfl <;> rfl) ?_
      exact fs_c128r (h0 := h) hg hn n (k + 1) (n - 1) _ h2 (by omega) (by omega) (by omega) hw2 hr2 hF2
set_option maxRecDepth 20000 in
theorem fs_c128l {g : kc_G} {d : Nat} {h : kc_H} {f : Nat → Nat} {n : Nat} (hg : kc_ok g) (hw : kd_wt kd_ty h) (hn : n ≤ 5) (en : h 1 3 = .inl (Int32.ofNat n)) (hr : fs_or f n h) : ∀ (r : Nat), r ≤ n - 1 → pb_ri f (n - 1) = pb_ri f r → kc_Ev g (d + 1) wk_m128 (fs_oq h n (pb_no n f)) 10 [(1, .inl (Int32.ofInt ((r : Int) - 1))), (0, .inr (.inr (.inl (some 250))))] [] h := by
  have e3 : h 1 3 = .inl (Int32.ofNat n) := en
  intro r
  induction r with
  | zero =>
    intro hrn e
    refine kx_go 2 (pc' := (if kc_cnd .lt (Int32.ofInt (((0 : Nat) : Int) - 1)).toInt 0 then 37 else 14)) (L' := [(1, .inl (Int32.ofInt (((0 : Nat) : Int) - 1))), (0, .inr (.inr (.inl (some 250))))]) (S' := []) (h' := h) (by with_unfolding_all rfl) ?_
    rw [if_pos (fu_ilt.mpr (by decide))]
    refine kx_go 2 (pc' := (if kc_cnd .ge (Int32.ofInt (((0 : Nat) : Int) - 1)).toInt 0 then 43 else 41)) (L' := [(1, .inl (Int32.ofInt (((0 : Nat) : Int) - 1))), (0, .inr (.inr (.inl (some 250))))]) (S' := []) (h' := h) (by with_unfolding_all rfl) ?_
    rw [if_neg (fun q => (fu_ige.mp q) (by decide))]
    refine kx_go 1 (pc' := 42) (L' := [(1, .inl (Int32.ofInt (((0 : Nat) : Int) - 1))), (0, .inr (.inr (.inl (some 250))))]) (S' := [.inl (Int32.ofNat 0)]) (h' := h) (by with_unfolding_all rfl) ?_
    have eN : pb_no n f = none := by
      unfold pb_no
      rw [e]
      rfl
    rw [eN]
    exact kc_ret_ok rfl (rv := some (.inl (kp_b false))) rfl ⟨hw, fun _ _ _ => rfl, rfl⟩
  | succ k ih =>
    intro hrn e
    have r0 := hr k (by omega)
    have r1 := hr (k + 1) (by omega)
    rw [fs_im1]
    have eR : pb_ri f (k + 1) = if f (k + 1) < f k then pb_ri f k else some k := rfl
    rw [eR] at e
    refine kx_go 2 (pc' := (if kc_cnd .lt (Int32.ofNat k).toInt 0 then 37 else 14)) (L' := [(1, .inl (Int32.ofNat k)), (0, .inr (.inr (.inl (some 250))))]) (S' := []) (h' := h) (by with_unfolding_all rfl) ?_
    rw [if_neg (fun q => by have := fu_ilt.mp q; rw [kx_ti (by omega)] at this; omega)]
    refine kx_go 1 (pc' := 15) (L' := [(1, .inl (Int32.ofNat k)), (0, .inr (.inr (.inl (some 250))))]) (S' := [.inr (.inr (.inl (some 250)))]) (h' := h) (by with_unfolding_all rfl) ?_
    refine kx_getf (c := 250) (v := .inr (.inr (.inl (some 252)))) rfl (by decide) (kx_ofr (hw _ _ _ fs_k250_6)) ?_
    refine kx_go 1 (pc' := 19) (L' := [(1, .inl (Int32.ofNat k)), (0, .inr (.inr (.inl (some 250))))]) (S' := [.inl (Int32.ofNat k), .inr (.inr (.inl (some 252)))]) (h' := h) (by with_unfolding_all rfl) ?_
    refine kx_iald (c := 252) (j := k) (m := 5) (v := .inl (Int32.ofNat (f k))) rfl rfl (by decide) (by decide) (by omega) r0.1 ?_
    refine kx_go 1 (pc' := 21) (L' := [(1, .inl (Int32.ofNat k)), (0, .inr (.inr (.inl (some 250))))]) (S' := [.inr (.inr (.inl (some 250))), .inl (Int32.ofNat (f k))]) (h' := h) (by with_unfolding_all rfl) ?_
    refine kx_getf (c := 250) (v := .inr (.inr (.inl (some 252)))) rfl (by decide) (kx_ofr (hw _ _ _ fs_k250_6)) ?_
    refine kx_go 3 (pc' := 27) (L' := [(1, .inl (Int32.ofNat k)), (0, .inr (.inr (.inl (some 250))))]) (S' := [.inl ((Int32.ofNat k) + (Int32.ofNat 1)), .inr (.inr (.inl (some 252))), .inl (Int32.ofNat (f k))]) (h' := h) (by with_unfolding_all rfl) ?_
    rw [kx_add]
    refine kx_iald (c := 252) (j := k + 1) (m := 5) (v := .inl (Int32.ofNat (f (k + 1)))) rfl rfl (by decide) (by decide) (by omega) r1.1 ?_
    refine kx_go 1 (pc' := (if kc_cnd .le (Int32.ofNat (f k)).toInt (Int32.ofNat (f (k + 1))).toInt then 37 else 31)) (L' := [(1, .inl (Int32.ofNat k)), (0, .inr (.inr (.inl (some 250))))]) (S' := []) (h' := h) (by with_unfolding_all rfl) ?_
    by_cases c : f (k + 1) < f k
    · rw [if_pos c] at e
      rw [if_neg (fun q => by have := (kx_le (by omega) (by omega)).mp q; omega)]
      refine kx_go 2 (pc' := 10) (L' := [(1, .inl ((Int32.ofNat k) + Int32.ofInt (-1))), (0, .inr (.inr (.inl (some 250))))]) (S' := []) (h' := h) (by with_unfolding_all rfl) ?_
      rw [fs_im2]
      exact ih (by omega) e
    · rw [if_neg c] at e
      rw [if_pos ((kx_le (by omega) (by omega)).mpr (by omega))]
      refine kx_go 2 (pc' := (if kc_cnd .ge (Int32.ofNat k).toInt 0 then 43 else 41)) (L' := [(1, .inl (Int32.ofNat k)), (0, .inr (.inr (.inl (some 250))))]) (S' := []) (h' := h) (by with_unfolding_all rfl) ?_
      rw [if_pos (fu_ige.mpr (by rw [kx_ti (by omega)]; omega))]
      refine kx_go 1 (pc' := 44) (L' := [(1, .inl (Int32.ofNat k)), (0, .inr (.inr (.inl (some 250))))]) (S' := [.inr (.inr (.inl (some 250)))]) (h' := h) (by with_unfolding_all rfl) ?_
      refine kx_getf (c := 250) (v := .inr (.inr (.inl (some 1)))) rfl (by decide) (kx_ofr (hw _ _ _ fs_k250_0)) ?_
      refine kx_getf (c := 1) (v := .inl (Int32.ofNat n)) rfl (by decide) e3 ?_
      refine kx_go 3 (pc' := 53) (L' := [(2, .inl ((Int32.ofNat n) - (Int32.ofNat 1))), (1, .inl (Int32.ofNat k)), (0, .inr (.inr (.inl (some 250))))]) (S' := []) (h' := h) (by with_unfolding_all rfl) ?_
      rw [kx_sub (by omega)]
      have eN : pb_no n f = some (pb_rev n (k + 1) (n - 1) (pb_sw f k (pb_ne f k (n - 1 - k)))) := by
        unfold pb_no
        rw [e]
      rw [eN]
      have k9 := fs_c128n (g := g) (d := d) hg hw hn (show k + 1 < n by omega) en hr (n - 1 - k) (by omega)
      rw [show k + (n - 1 - k) = n - 1 by omega] at k9
      exact k9
set_option maxRecDepth 20000 in
theorem fs_c128 {g : kc_G} {d : Nat} {h : kc_H} {f : Nat → Nat} {n : Nat} (hg : kc_ok g) (hw : kd_wt kd_ty h) (hn : n ≤ 5) (en : h 1 3 = .inl (Int32.ofNat n)) (hr : fs_or f n h) : kc_Con g (d + 2) 128 [.inr (.inr (.inl (some 250)))] h (fs_oq h n (pb_no n f)) := by
  have e3 : h 1 3 = .inl (Int32.ofNat n) := en
  refine kc_Con_new hg (M := wk_m128) rfl rfl rfl (show 1 ≤ 5 by decide) ?_
  refine kx_go 1 (pc' := 1) (L' := [(0, .inr (.inr (.inl (some 250))))]) (S' := [.inr (.inr (.inl (some 250)))]) (h' := h) (by with_unfolding_all rfl) ?_
  refine kx_getf (c := 250) (v := .inr (.inr (.inl (some 1)))) rfl (by decide) (kx_ofr (hw _ _ _ fs_k250_0)) ?_
  refine kx_getf (c := 1) (v := .inl (Int32.ofNat n)) rfl (by decide) e3 ?_
  refine kx_go 3 (pc' := 10) (L' := [(1, .inl ((Int32.ofNat n) - (Int32.ofNat 2))), (0, .inr (.inr (.inl (some 250))))]) (S' := []) (h' := h) (by with_unfolding_all rfl) ?_
  rw [fs_im6]
  cases n with
  | zero =>
    refine kx_go 2 (pc' := (if kc_cnd .lt (Int32.ofInt (((0 : Nat) : Int) - 2)).toInt 0 then 37 else 14)) (L' := [(1, .inl (Int32.ofInt (((0 : Nat) : Int) - 2))), (0, .inr (.inr (.inl (some 250))))]) (S' := []) (h' := h) (by with_unfolding_all rfl) ?_
    rw [if_pos (fu_ilt.mpr (by decide))]
    refine kx_go 2 (pc' := (if kc_cnd .ge (Int32.ofInt (((0 : Nat) : Int) - 2)).toInt 0 then 43 else 41)) (L' := [(1, .inl (Int32.ofInt (((0 : Nat) : Int) - 2))), (0, .inr (.inr (.inl (some 250))))]) (S' := []) (h' := h) (by with_unfolding_all rfl) ?_
    rw [if_neg (fun q => (fu_ige.mp q) (by decide))]
    refine kx_go 1 (pc' := 42) (L' := [(1, .inl (Int32.ofInt (((0 : Nat) : Int) - 2))), (0, .inr (.inr (.inl (some 250))))]) (S' := [.inl (Int32.ofNat 0)]) (h' := h) (by with_unfolding_all rfl) ?_
    exact kc_ret_ok rfl (rv := some (.inl (kp_b false))) rfl ⟨hw, fun _ _ _ => rfl, rfl⟩
  | succ n =>
    rw [show ((n + 1 : Nat) : Int) - 2 = (n : Int) - 1 by omega]
    exact fs_c128l hg hw hn en hr n (by omega) rfl
def fs_CS (h0 : kc_H) (S : Nat → Nat) (n : Nat) (l : List Nat) (U : pb_U) (h : kc_H) : Prop := kd_wt kd_ty h ∧ fs_or (fun j => S (pb_g l j)) n h ∧ (h 250 3 = .inl (Int32.ofNat U.1) ∧ U.1 ≤ 1000000) ∧ (h 250 4 = .inl (Int32.ofNat U.2.1) ∧ U.2.1 ≤ 1000) ∧ (U.1 < 1000000 → ∀ j, j < n → h 251 j = .inl (Int32.ofNat (U.2.2 j))) ∧ (¬ U.1 < 1000000 → U.2.1 = 0) ∧ ∀ a x, ¬ (204 ≤ a ∧ a ≤ 252) → h a x = h0 a x
set_option maxRecDepth 20000 in
theorem fs_c126l {g : kc_G} {d : Nat} {h0 : kc_H} {B : Nat → Int32} {S : Nat → Nat} {n L M : Nat} (hg : kc_ok g) (hB : fu_BT B) (hC0 : fu_C B 1 h0) (hn : n ≤ 5) (en : B 3 = Int32.ofNat n) (hL : L ≤ 10) (eL : B 2 = Int32.ofNat L) (hM : M ≤ 3) (eM : B 1 = Int32.ofNat M) (hS : ∀ j, j < n → S j < 6) (hSm : ∀ i j, i < n → j < n → (S i < S j ↔ i < j)) : ∀ (u k : Nat) (l : List Nat) (U : pb_U) (h : kc_H), k + u = 120 → pb_w n u l = true → fs_CS h0 S n l U h → kc_Ev g (d + 17) wk_m126 (fun rv h' => rv = some (.inl (kp_b (decide ((pb_it B S n L M u l U).1 < 1000000)))) ∧ kd_wt kd_ty h' ∧ (h' 250 3 = .inl (Int32.ofNat (pb_it B S n L M u l U).1)) ∧ (h' 250 4 = .inl (Int32.ofNat (pb_it B S n L M u l U).2.1)) ∧ ((pb_it B S n L M u l U).1 < 1000000 → ∀ j, j < n → h' 251 j = .inl (Int32.ofNat ((pb_it B S n L M u l U).2.2 j))) ∧ ∀ a x, ¬ (204 ≤ a ∧ a ≤ 252) → h' a x = h0 a x) 19 [(2, .inl (Int32.ofNat k)), (1, .inl (kp_b true)), (0, .inr (.inr (.inl (some 250))))] [] h := by
  have hend : ∀ (k : Nat) (U2 : pb_U) (h : kc_H), k ≤ 120 → kd_wt kd_ty h → (h 250 3 = .inl (Int32.ofNat U2.1) ∧ U2.1 ≤ 1000000) → h 250 4 = .inl (Int32.ofNat U2.2.1) → (U2.1 < 1000000 → ∀ j, j < n → h 251 j = .inl (Int32.ofNat (U2.2.2 j))) → (∀ a x, ¬ (204 ≤ a ∧ a ≤ 252) → h a x = h0 a x) → kc_Ev g (d + 17) wk_m126 (fun rv h' => rv = some (.inl (kp_b (decide ((U2).1 < 1000000)))) ∧ kd_wt kd_ty h' ∧ (h' 250 3 = .inl (Int32.ofNat (U2).1)) ∧ (h' 250 4 = .inl (Int32.ofNat (U2).2.1)) ∧ ((U2).1 < 1000000 → ∀ j, j < n → h' 251 j = .inl (Int32.ofNat ((U2).2.2 j))) ∧ ∀ a x, ¬ (204 ≤ a ∧ a ≤ 252) → h' a x = h0 a x) 19 [(2, .inl (Int32.ofNat k)), (1, .inl (kp_b false)), (0, .inr (.inr (.inl (some 250))))] [] h := by
    intro k U2 h hk hw e3 e4 e5 hF
    have l3 := e3.2
    have at133 : kc_Ev g (d + 17) wk_m126 (fun rv h' => rv = some (.inl (kp_b (decide ((U2).1 < 1000000)))) ∧ kd_wt kd_ty h' ∧ (h' 250 3 = .inl (Int32.ofNat (U2).1)) ∧ (h' 250 4 = .inl (Int32.ofNat (U2).2.1)) ∧ ((U2).1 < 1000000 → ∀ j, j < n → h' 251 j = .inl (Int32.ofNat ((U2).2.2 j))) ∧ ∀ a x, ¬ (204 ≤ a ∧ a ≤ 252) → h' a x = h0 a x) 133 [(2, .inl (Int32.ofNat k)), (1, .inl (kp_b false)), (0, .inr (.inr (.inl (some 250))))] [] h := by
      refine kx_go 1 (pc' := 134) (L' := [(2, .inl (Int32.ofNat k)), (1, .inl (kp_b false)), (0, .inr (.inr (.inl (some 250))))]) (S' := [.inr (.inr (.inl (some 250)))]) (h' := h) (by with_unfolding_all rfl) ?_
      refine kx_getf (c := 250) (v := .inl (Int32.ofNat U2.1)) rfl (by decide) e3.1 ?_
      refine kx_go 2 (pc' := (if kc_cnd .ge (Int32.ofNat U2.1).toInt (Int32.ofNat 1000000).toInt then 146 else 142)) (L' := [(2, .inl (Int32.ofNat k)), (1, .inl (kp_b false)), (0, .inr (.inr (.inl (some 250))))]) (S' := []) (h' := h) (by with_unfolding_all rfl) ?_
      by_cases c : U2.1 < 1000000
      · rw [if_neg (fun q => by have := (kx_ge (by omega) (by omega)).mp q; omega), decide_eq_true c]
        refine kx_go 2 (pc' := 147) (L' := [(2, .inl (Int32.ofNat k)), (1, .inl (kp_b false)), (0, .inr (.inr (.inl (some 250))))]) (S' := [.inl (Int32.ofNat 1)]) (h' := h) (by with_unfolding_all rfl) ?_
        exact kc_ret_ok rfl (rv := some (.inl (Int32.ofNat 1))) rfl ⟨rfl, hw, e3.1, e4, e5, hF⟩
      · rw [if_pos ((kx_ge (by omega) (by omega)).mpr (by omega)), decide_eq_false c]
        refine kx_go 1 (pc' := 147) (L' := [(2, .inl (Int32.ofNat k)), (1, .inl (kp_b false)), (0, .inr (.inr (.inl (some 250))))]) (S' := [.inl (Int32.ofNat 0)]) (h' := h) (by with_unfolding_all rfl) ?_
        exact kc_ret_ok rfl (rv := some (.inl (Int32.ofNat 0))) rfl ⟨rfl, hw, e3.1, e4, e5, hF⟩
    refine kx_go 3 (pc' := (if kc_cnd .ge (Int32.ofNat k).toInt (Int32.ofNat 120).toInt then 133 else 25)) (L' := [(2, .inl (Int32.ofNat k)), (1, .inl (kp_b false)), (0, .inr (.inr (.inl (some 250))))]) (S' := []) (h' := h) (by with_unfolding_all rfl) ?_
    by_cases c : k < 120
    · rw [if_neg (fun q => by have := (kx_ge (by omega) (by omega)).mp q; omega)]
      refine kx_go 2 (pc' := (if kc_cnd .eq (kp_b false).toInt 0 then 133 else 29)) (L' := [(2, .inl (Int32.ofNat k)), (1, .inl (kp_b false)), (0, .inr (.inr (.inl (some 250))))]) (S' := []) (h' := h) (by with_unfolding_all rfl) ?_
      rw [if_pos (kx_b0.mpr rfl)]
      exact at133
    · rw [if_pos ((kx_ge (by omega) (by omega)).mpr (by omega))]
      exact at133
  intro u
  induction u with
  | zero =>
    intro k l U h hk hp
    have hp : false = true := hp
    cases hp
  | succ u ih =>
    intro k l U h hk hp hR
    obtain ⟨w1, w2, w3, w4⟩ := pb_w_s hp
    have hDl := pb_Dl hS w2
    obtain ⟨hw, hr, e3, e4, e5, e6, hF⟩ := hR
    have hC : fu_C B 1 h := fs_C_f (fun a x q => hF a x (by omega)) hC0
    have e13 : h 1 3 = .inl (Int32.ofNat n) := (fu_C0 hC).2.2.2.trans (by rw [en])
    have next : ∀ (h : kc_H) (v : Int32), fs_CS h0 S n l (pb_st B S n L M l U) h → kc_Ev g (d + 17) wk_m126 (fun rv h' => rv = some (.inl (kp_b (decide ((pb_it B S n L M (u + 1) l U).1 < 1000000)))) ∧ kd_wt kd_ty h' ∧ (h' 250 3 = .inl (Int32.ofNat (pb_it B S n L M (u + 1) l U).1)) ∧ (h' 250 4 = .inl (Int32.ofNat (pb_it B S n L M (u + 1) l U).2.1)) ∧ ((pb_it B S n L M (u + 1) l U).1 < 1000000 → ∀ j, j < n → h' 251 j = .inl (Int32.ofNat ((pb_it B S n L M (u + 1) l U).2.2 j))) ∧ ∀ a x, ¬ (204 ≤ a ∧ a ≤ 252) → h' a x = h0 a x) 122 [(3, .inl (v)), (2, .inl (Int32.ofNat k)), (1, .inl (kp_b true)), (0, .inr (.inr (.inl (some 250))))] [] h := by
      intro h v hR
      obtain ⟨hw, hr, e3, e4, e5, e6, hF⟩ := hR
      have hC : fu_C B 1 h := fs_C_f (fun a x q => hF a x (by omega)) hC0
      have e13 : h 1 3 = .inl (Int32.ofNat n) := (fu_C0 hC).2.2.2.trans (by rw [en])
      refine kx_go 1 (pc' := 123) (L' := [(3, .inl (v)), (2, .inl (Int32.ofNat k)), (1, .inl (kp_b true)), (0, .inr (.inr (.inl (some 250))))]) (S' := [.inr (.inr (.inl (some 250)))]) (h' := h) (by with_unfolding_all rfl) ?_
      refine kc_call_rule (M2 := wk_m128) (av := [.inr (.inr (.inl (some 250)))]) (r := []) rfl rfl (kc_Con_le (fs_c128 (d := d) hg hw hn e13 hr) (by omega)) (fun rv h2 hq => ?_)
      obtain ⟨hw2, hF2, hq⟩ := hq
      have hS2 := pb_no_S (S := S) (f := pb_g l) (o := fun j => S (pb_g l j)) (n := n) (fun j _ => rfl) (fun i j hi hj => hSm _ _ (w2 i hi) (w2 j hj))
      rcases hS2 with ⟨z1, z2⟩ | ⟨f2, o2, z1, z2, z3⟩
      · rw [z2] at hq
        have hq : rv = some (.inl (kp_b false)) := hq
        subst hq
        have em : pb_m n (pb_nr n n (pb_g l)) = none := by rw [w1, z1]; rfl
        have eI : pb_it B S n L M (u + 1) l U = pb_st B S n L M l U := by
          show (match pb_m n (pb_nr n n (pb_g l)) with | none => pb_st B S n L M l U | some l2 => pb_it B S n L M u l2 (pb_st B S n L M l U)) = _
          rw [em]
        rw [eI]
        show kc_Ev g (d + 17) wk_m126 _ 126 [(3, .inl (v)), (2, .inl (Int32.ofNat k)), (1, .inl (kp_b true)), (0, .inr (.inr (.inl (some 250))))] [.inl (kp_b false)] h2
        refine kx_go 3 (pc' := 19) (L' := [(2, .inl ((Int32.ofNat k) + Int32.ofInt 1)), (1, .inl (kp_b false)), (3, .inl (v)), (0, .inr (.inr (.inl (some 250))))]) (S' := []) (h' := h2) (by with_unfolding_all rfl) ?_
        rw [kx_inc]
        refine kf_lo (L := [(2, .inl (Int32.ofNat (k + 1))), (1, .inl (kp_b false)), (0, .inr (.inr (.inl (some 250))))]) (by intro q hq; simp only [List.mem_cons, List.not_mem_nil, or_false] at hq; rcases hq with rfl | rfl | rfl <;> rfl) ?_
        exact hend (k + 1) _ h2 (by omega) hw2 ⟨(hF2 _ _ (by omega)).trans e3.1, e3.2⟩ ((hF2 _ _ (by omega)).trans e4.1) (fun q j hj => (hF2 _ _ (by omega)).trans (e5 q j hj)) (fun a y q => (hF2 a y (by omega)).trans (hF a y q))
      · rw [z2] at hq
        obtain ⟨hq, hr2⟩ : rv = some (.inl (kp_b true)) ∧ fs_or o2 n h2 := hq
        subst hq
        have em : pb_m n (pb_nr n n (pb_g l)) = some ((List.range n).map f2) := by rw [w1, z1]; rfl
        have eI : pb_it B S n L M (u + 1) l U = pb_it B S n L M u ((List.range n).map f2) (pb_st B S n L M l U) := by
          show (match pb_m n (pb_nr n n (pb_g l)) with | none => pb_st B S n L M l U | some l2 => pb_it B S n L M u l2 (pb_st B S n L M l U)) = _
          rw [em]
        rw [eI]
        show kc_Ev g (d + 17) wk_m126 _ 126 [(3, .inl (v)), (2, .inl (Int32.ofNat k)), (1, .inl (kp_b true)), (0, .inr (.inr (.inl (some 250))))] [.inl (kp_b true)] h2
        refine kx_go 3 (pc' := 19) (L' := [(2, .inl ((Int32.ofNat k) + Int32.ofInt 1)), (1, .inl (kp_b true)), (3, .inl (v)), (0, .inr (.inr (.inl (some 250))))]) (S' := []) (h' := h2) (by with_unfolding_all rfl) ?_
        rw [kx_inc]
        refine kf_lo (L := [(2, .inl (Int32.ofNat (k + 1))), (1, .inl (kp_b true)), (0, .inr (.inr (.inl (some 250))))]) (by intro q hq; simp only [List.mem_cons, List.not_mem_nil, or_false] at hq; rcases hq with rfl | rfl | rfl <;> rfl) ?_
        exact ih (k + 1) ((List.range n).map f2) _ h2 (by omega) (w4 _ em) ⟨hw2, fun j hj => by
          have q := hr2 j hj
          rw [z3 j hj] at q
          show h2 252 j = .inl (Int32.ofNat (S (pb_g ((List.range n).map f2) j))) ∧ S (pb_g ((List.range n).map f2) j) < 6
          rw [pb_gm hj]
          exact q, ⟨(hF2 _ _ (by omega)).trans e3.1, e3.2⟩, ⟨(hF2 _ _ (by omega)).trans e4.1, e4.2⟩, fun q j hj => (hF2 _ _ (by omega)).trans (e5 q j hj), e6, fun a y q => (hF2 a y (by omega)).trans (hF a y q)⟩
    refine kx_go 3 (pc' := (if kc_cnd .ge (Int32.ofNat k).toInt (Int32.ofNat 120).toInt then 133 else 25)) (L' := [(2, .inl (Int32.ofNat k)), (1, .inl (kp_b true)), (0, .inr (.inr (.inl (some 250))))]) (S' := []) (h' := h) (by with_unfolding_all rfl) ?_
    rw [if_neg (fun q => by have := (kx_ge (by omega) (by omega)).mp q; omega)]
    refine kx_go 2 (pc' := (if kc_cnd .eq (kp_b true).toInt 0 then 133 else 29)) (L' := [(2, .inl (Int32.ofNat k)), (1, .inl (kp_b true)), (0, .inr (.inr (.inl (some 250))))]) (S' := []) (h' := h) (by with_unfolding_all rfl) ?_
    rw [if_neg fa_b0t]
    refine kx_go 1 (pc' := 30) (L' := [(2, .inl (Int32.ofNat k)), (1, .inl (kp_b true)), (0, .inr (.inr (.inl (some 250))))]) (S' := [.inr (.inr (.inl (some 250)))]) (h' := h) (by with_unfolding_all rfl) ?_
    refine kx_getf (c := 250) (v := .inr (.inr (.inl (some 204)))) rfl (by decide) (kx_ofr (hw _ _ _ fs_k250_1)) ?_
    refine kx_go 1 (pc' := 34) (L' := [(2, .inl (Int32.ofNat k)), (1, .inl (kp_b true)), (0, .inr (.inr (.inl (some 250))))]) (S' := [.inr (.inr (.inl (some 250))), .inr (.inr (.inl (some 204)))]) (h' := h) (by with_unfolding_all rfl) ?_
    refine kx_getf (c := 250) (v := .inr (.inr (.inl (some 252)))) rfl (by decide) (kx_ofr (hw _ _ _ fs_k250_6)) ?_
    refine kx_go 1 (pc' := 38) (L' := [(2, .inl (Int32.ofNat k)), (1, .inl (kp_b true)), (0, .inr (.inr (.inl (some 250))))]) (S' := [.inr (.inr (.inl (some 250))), .inr (.inr (.inl (some 252))), .inr (.inr (.inl (some 204)))]) (h' := h) (by with_unfolding_all rfl) ?_
    refine kx_getf (c := 250) (v := .inr (.inr (.inl (some 1)))) rfl (by decide) (kx_ofr (hw _ _ _ fs_k250_0)) ?_
    refine kx_getf (c := 1) (v := .inl (Int32.ofNat n)) rfl (by decide) e13 ?_
    refine kc_call_rule (M2 := wk_m100) (av := [.inr (.inr (.inl (some 204))), .inr (.inr (.inl (some 252))), .inl (Int32.ofNat n)]) (r := []) rfl rfl (kc_Con_le (fs_c100x252 (d := d) (D := pb_D S n l) hw hg hB hC hn hL eL (fun j hj => by rw [show pb_D S n l j = S (pb_g l j) from if_pos hj]; exact (hr j hj).1) hDl) (by omega)) (fun rv h2 hq => ?_)
    obtain ⟨rfl, hP, hQ⟩ := hq
    show kc_Ev g (d + 17) wk_m126 _ 47 [(2, .inl (Int32.ofNat k)), (1, .inl (kp_b true)), (0, .inr (.inr (.inl (some 250))))] [] h2
    have hw2 := hP.1
    have hF2 := hP.2.2.2.2
    have hC2 := fs_C_f (h' := h2) (fun a y q => hF2 a y (by omega)) hC
    have hG2 := fs_Q_G hP.2.1 hQ
    have efar : h2 204 2 = .inl (Int32.ofNat (pb_f B S n l)) := hP.2.2.1
    have farl : pb_f B S n l ≤ 99 * n := fs_farl hB hDl n
    have R2 : fs_CS h0 S n l U h2 := ⟨hw2, fun j hj => ⟨(hF2 _ _ (by omega)).trans (hr j hj).1, (hr j hj).2⟩, ⟨(hF2 _ _ (by omega)).trans e3.1, e3.2⟩, ⟨(hF2 _ _ (by omega)).trans e4.1, e4.2⟩, fun q j hj => (hF2 _ _ (by omega)).trans (e5 q j hj), e6, fun a y q => (hF2 a y (by omega)).trans (hF a y q)⟩
    have l3 := e3.2
    have l4 := e4.2
    obtain ⟨f, hf⟩ := fs_fnd (c := 221) hw2 hL fs_k2x.1
    have run : ∀ v : Nat, v ≤ 1000000 → (pb_v B S n L M l < v ↔ pb_v B S n L M l < 1000000 ∧ (pb_v B S n L M l < U.1 ∨ (pb_v B S n L M l = U.1 ∧ pb_f B S n l < U.2.1))) → kc_Ev g (d + 17) wk_m126 (fun rv h' => rv = some (.inl (kp_b (decide ((pb_it B S n L M (u + 1) l U).1 < 1000000)))) ∧ kd_wt kd_ty h' ∧ (h' 250 3 = .inl (Int32.ofNat (pb_it B S n L M (u + 1) l U).1)) ∧ (h' 250 4 = .inl (Int32.ofNat (pb_it B S n L M (u + 1) l U).2.1)) ∧ ((pb_it B S n L M (u + 1) l U).1 < 1000000 → ∀ j, j < n → h' 251 j = .inl (Int32.ofNat ((pb_it B S n L M (u + 1) l U).2.2 j))) ∧ ∀ a x, ¬ (204 ≤ a ∧ a ≤ 252) → h' a x = h0 a x) 75 [(3, .inl (Int32.ofNat v)), (2, .inl (Int32.ofNat k)), (1, .inl (kp_b true)), (0, .inr (.inr (.inl (some 250))))] [] h2 := by
      intro v hv hiff
      have hT := fs_T_c (B := B) (D := pb_D S n l) (n := n) (L := L) (M := M) (v := v) (f := f)
      have hv2 := fs_T_v (B := B) (D := pb_D S n l) (n := n) (L := L) (M := M) (v := v) (w := 1000000) (f := f) (g := fun _ => 0) hv
      have H116 := fs_c116 (g := g) (d := d) (f := f) (b := v) hg hw2 hB hC2 (fs_gb (D := pb_D S n l) (L := L) hB hn hL) hG2 hM eM eL (by omega) hf
      rw [hT] at H116
      refine kx_go 1 (pc' := 76) (L' := [(3, .inl (Int32.ofNat v)), (2, .inl (Int32.ofNat k)), (1, .inl (kp_b true)), (0, .inr (.inr (.inl (some 250))))]) (S' := [.inr (.inr (.inl (some 250)))]) (h' := h2) (by with_unfolding_all rfl) ?_
      refine kx_getf (c := 250) (v := .inr (.inr (.inl (some 220)))) rfl (by decide) (kx_ofr (hw2 _ _ _ fs_k250_2)) ?_
      refine kx_go 1 (pc' := 80) (L' := [(3, .inl (Int32.ofNat v)), (2, .inl (Int32.ofNat k)), (1, .inl (kp_b true)), (0, .inr (.inr (.inl (some 250))))]) (S' := [.inl (Int32.ofNat v), .inr (.inr (.inl (some 220)))]) (h' := h2) (by with_unfolding_all rfl) ?_
      refine kc_call_rule (M2 := wk_m116) (av := [.inr (.inr (.inl (some 220))), .inl (Int32.ofNat v)]) (r := []) rfl rfl (kc_Con_le (H116) (by omega)) (fun rv h3 hq => ?_)
      obtain ⟨rfl, hw3, hF3, e33, hfo⟩ := hq
      show kc_Ev g (d + 17) wk_m126 _ 83 [(3, .inl (Int32.ofNat v)), (2, .inl (Int32.ofNat k)), (1, .inl (kp_b true)), (0, .inr (.inr (.inl (some 250))))] [.inl (kp_b (decide ((fs_T B (pb_D S n l) n L M v f).1 < v)))] h3
      have R3 : fs_CS h0 S n l U h3 := ⟨hw3, fun j hj => ⟨(hF3 _ _ (by omega)).trans (R2.2.1 j hj).1, (hr j hj).2⟩, ⟨(hF3 _ _ (by omega)).trans R2.2.2.1.1, e3.2⟩, ⟨(hF3 _ _ (by omega)).trans R2.2.2.2.1.1, e4.2⟩, fun q j hj => (hF3 _ _ (by omega)).trans (R2.2.2.2.2.1 q j hj), e6, fun a y q => (hF3 a y (by omega)).trans (R2.2.2.2.2.2.2 a y q)⟩
      refine kx_go 1 (pc' := (if kc_cnd .eq (kp_b (decide ((fs_T B (pb_D S n l) n L M v f).1 < v))).toInt 0 then 122 else 86)) (L' := [(3, .inl (Int32.ofNat v)), (2, .inl (Int32.ofNat k)), (1, .inl (kp_b true)), (0, .inr (.inr (.inl (some 250))))]) (S' := []) (h' := h3) (by with_unfolding_all rfl) ?_
      by_cases c : (fs_T B (pb_D S n l) n L M v f).1 < v
      · rw [decide_eq_true c, if_neg fa_b0t]
        have ev : (fs_T B (pb_D S n l) n L M v f).1 = pb_v B S n L M l := hv2.2 c
        have hq := hiff.mp (by rw [← ev]; exact c)
        have est : pb_st B S n L M l U = (pb_v B S n L M l, pb_f B S n l, pb_D S n l) := if_pos hq
        rw [ev] at e33
        refine kx_go 2 (pc' := 88) (L' := [(3, .inl (Int32.ofNat v)), (2, .inl (Int32.ofNat k)), (1, .inl (kp_b true)), (0, .inr (.inr (.inl (some 250))))]) (S' := [.inr (.inr (.inl (some 250))), .inr (.inr (.inl (some 250)))]) (h' := h3) (by with_unfolding_all rfl) ?_
        refine kx_getf (c := 250) (v := .inr (.inr (.inl (some 220)))) rfl (by decide) (kx_ofr (hw3 _ _ _ fs_k250_2)) ?_
        refine kx_getf (c := 220) (v := .inl (Int32.ofNat (pb_v B S n L M l))) rfl (by decide) e33 ?_
        have hw4 : kd_wt kd_ty (kc_upd h3 250 3 (.inl (Int32.ofNat (pb_v B S n L M l)))) := fa_wa fs_k252.2.2.1 hw3
        refine kx_go 1 (pc' := 97) (L' := [(3, .inl (Int32.ofNat v)), (2, .inl (Int32.ofNat k)), (1, .inl (kp_b true)), (0, .inr (.inr (.inl (some 250))))]) (S' := []) (h' := (kc_upd h3 250 3 (.inl (Int32.ofNat (pb_v B S n L M l))))) (by with_unfolding_all rfl) ?_
        refine kx_go 2 (pc' := 99) (L' := [(3, .inl (Int32.ofNat v)), (2, .inl (Int32.ofNat k)), (1, .inl (kp_b true)), (0, .inr (.inr (.inl (some 250))))]) (S' := [.inr (.inr (.inl (some 250))), .inr (.inr (.inl (some 250)))]) (h' := (kc_upd h3 250 3 (.inl (Int32.ofNat (pb_v B S n L M l))))) (by with_unfolding_all rfl) ?_
        refine kx_getf (c := 250) (v := .inr (.inr (.inl (some 204)))) rfl (by decide) (kx_ofr (hw4 _ _ _ fs_k250_1)) ?_
        refine kx_getf (c := 204) (v := .inl (Int32.ofNat (pb_f B S n l))) rfl (by decide) ((fu_ne (by decide)).trans ((hF3 204 2 (by decide)).trans efar)) ?_
        have hw5 : kd_wt kd_ty (kc_upd (kc_upd h3 250 3 (.inl (Int32.ofNat (pb_v B S n L M l)))) 250 4 (.inl (Int32.ofNat (pb_f B S n l)))) := fa_wa fs_k252.2.2.2 hw4
        refine kx_go 1 (pc' := 108) (L' := [(3, .inl (Int32.ofNat v)), (2, .inl (Int32.ofNat k)), (1, .inl (kp_b true)), (0, .inr (.inr (.inl (some 250))))]) (S' := []) (h' := (kc_upd (kc_upd h3 250 3 (.inl (Int32.ofNat (pb_v B S n L M l)))) 250 4 (.inl (Int32.ofNat (pb_f B S n l))))) (by with_unfolding_all rfl) ?_
        have o5 : ∀ a x, ¬ a = 250 → (kc_upd (kc_upd h3 250 3 (.inl (Int32.ofNat (pb_v B S n L M l)))) 250 4 (.inl (Int32.ofNat (pb_f B S n l)))) a x = h3 a x := fun a y q => (fu_ne (fun e => q e.1)).trans (fu_ne (fun e => q e.1))
        have e53 : (kc_upd (kc_upd h3 250 3 (.inl (Int32.ofNat (pb_v B S n L M l)))) 250 4 (.inl (Int32.ofNat (pb_f B S n l)))) 250 3 = .inl (Int32.ofNat (pb_v B S n L M l)) := (fu_ne (by decide)).trans fu_eq
        have e54 : (kc_upd (kc_upd h3 250 3 (.inl (Int32.ofNat (pb_v B S n L M l)))) 250 4 (.inl (Int32.ofNat (pb_f B S n l)))) 250 4 = .inl (Int32.ofNat (pb_f B S n l)) := fu_eq
        generalize (kc_upd (kc_upd h3 250 3 (.inl (Int32.ofNat (pb_v B S n L M l)))) 250 4 (.inl (Int32.ofNat (pb_f B S n l)))) = h5 at hw5 o5 e53 e54 ⊢
        refine kx_go 1 (pc' := 109) (L' := [(3, .inl (Int32.ofNat v)), (2, .inl (Int32.ofNat k)), (1, .inl (kp_b true)), (0, .inr (.inr (.inl (some 250))))]) (S' := [.inr (.inr (.inl (some 250)))]) (h' := h5) (by with_unfolding_all rfl) ?_
        refine kx_getf (c := 250) (v := .inr (.inr (.inl (some 252)))) rfl (by decide) (kx_ofr (hw5 _ _ _ fs_k250_6)) ?_
        refine kx_go 2 (pc' := 114) (L' := [(3, .inl (Int32.ofNat v)), (2, .inl (Int32.ofNat k)), (1, .inl (kp_b true)), (0, .inr (.inr (.inl (some 250))))]) (S' := [.inr (.inr (.inl (some 250))), .inl (Int32.ofNat 0), .inr (.inr (.inl (some 252)))]) (h' := h5) (by with_unfolding_all rfl) ?_
        refine kx_getf (c := 250) (v := .inr (.inr (.inl (some 251)))) rfl (by decide) (kx_ofr (hw5 _ _ _ fs_k250_5)) ?_
        refine kx_go 2 (pc' := 119) (L' := [(3, .inl (Int32.ofNat v)), (2, .inl (Int32.ofNat k)), (1, .inl (kp_b true)), (0, .inr (.inr (.inl (some 250))))]) (S' := [.inl (Int32.ofNat 5), .inl (Int32.ofNat 0), .inr (.inr (.inl (some 251))), .inl (Int32.ofNat 0), .inr (.inr (.inl (some 252)))]) (h' := h5) (by with_unfolding_all rfl) ?_
        refine kc_heap_ok rfl (dd := 3) (AS' := []) (h' := kc_cpy h5 251 252 5) (by with_unfolding_all rfl) ?_
        refine next _ _ ?_
        rw [est]
        refine ⟨fs_cp_wt hw5 (fun i hi => by rw [fs_k252.2.1 i hi, fs_k252.1 i hi]), fun j hj => ⟨(fs_cp_o (by decide)).trans ((o5 _ _ (by omega)).trans (R3.2.1 j hj).1), (hr j hj).2⟩, ⟨(fs_cp_o (by decide)).trans e53, Nat.le_of_lt hq.1⟩, ⟨(fs_cp_o (by decide)).trans e54, by show pb_f B S n l ≤ 1000; omega⟩, fun _ j hj => ?_, fun q => absurd hq.1 q, fun a y q => (fs_cp_o (by omega)).trans ((o5 a y (by omega)).trans (R3.2.2.2.2.2.2 a y q))⟩
        show kc_cpy h5 251 252 5 251 j = .inl (Int32.ofNat (pb_D S n l j))
        rw [show pb_D S n l j = S (pb_g l j) from if_pos hj]
        exact (fs_cp_i (by omega)).trans ((o5 _ _ (by omega)).trans (R3.2.1 j hj).1)
      · rw [decide_eq_false c, if_pos (kx_b0.mpr rfl)]
        exact next h3 _ (by rw [show pb_st B S n L M l U = U from if_neg (fun q => c (hv2.1.mpr (hiff.mpr q)))]; exact R3)
    refine kx_go 1 (pc' := 48) (L' := [(2, .inl (Int32.ofNat k)), (1, .inl (kp_b true)), (0, .inr (.inr (.inl (some 250))))]) (S' := [.inr (.inr (.inl (some 250)))]) (h' := h2) (by with_unfolding_all rfl) ?_
    refine kx_getf (c := 250) (v := .inr (.inr (.inl (some 204)))) rfl (by decide) (kx_ofr (hw2 _ _ _ fs_k250_1)) ?_
    refine kx_getf (c := 204) (v := .inl (Int32.ofNat (pb_f B S n l))) rfl (by decide) efar ?_
    refine kx_go 1 (pc' := 55) (L' := [(2, .inl (Int32.ofNat k)), (1, .inl (kp_b true)), (0, .inr (.inr (.inl (some 250))))]) (S' := [.inr (.inr (.inl (some 250))), .inl (Int32.ofNat (pb_f B S n l))]) (h' := h2) (by with_unfolding_all rfl) ?_
    refine kx_getf (c := 250) (v := .inl (Int32.ofNat U.2.1)) rfl (by decide) R2.2.2.2.1.1 ?_
    refine kx_go 1 (pc' := (if kc_cnd .ge (Int32.ofNat (pb_f B S n l)).toInt (Int32.ofNat U.2.1).toInt then 70 else 61)) (L' := [(2, .inl (Int32.ofNat k)), (1, .inl (kp_b true)), (0, .inr (.inr (.inl (some 250))))]) (S' := []) (h' := h2) (by with_unfolding_all rfl) ?_
    by_cases c : pb_f B S n l < U.2.1
    · rw [if_neg (fun q => by have := (kx_ge (by omega) (by omega)).mp q; omega)]
      refine kx_go 1 (pc' := 62) (L' := [(2, .inl (Int32.ofNat k)), (1, .inl (kp_b true)), (0, .inr (.inr (.inl (some 250))))]) (S' := [.inr (.inr (.inl (some 250)))]) (h' := h2) (by with_unfolding_all rfl) ?_
      refine kx_getf (c := 250) (v := .inl (Int32.ofNat U.1)) rfl (by decide) R2.2.2.1.1 ?_
      refine kx_go 4 (pc' := 75) (L' := [(3, .inl ((Int32.ofNat U.1) + (Int32.ofNat 1))), (2, .inl (Int32.ofNat k)), (1, .inl (kp_b true)), (0, .inr (.inr (.inl (some 250))))]) (S' := []) (h' := h2) (by with_unfolding_all rfl) ?_
      rw [kx_add]
      have hU : U.1 < 1000000 := Decidable.byContradiction (fun q => by have := e6 q; omega)
      exact run (U.1 + 1) (by omega) (by omega)
    · rw [if_pos ((kx_ge (by omega) (by omega)).mpr (by omega))]
      refine kx_go 1 (pc' := 71) (L' := [(2, .inl (Int32.ofNat k)), (1, .inl (kp_b true)), (0, .inr (.inr (.inl (some 250))))]) (S' := [.inr (.inr (.inl (some 250)))]) (h' := h2) (by with_unfolding_all rfl) ?_
      refine kx_getf (c := 250) (v := .inl (Int32.ofNat U.1)) rfl (by decide) R2.2.2.1.1 ?_
      refine kx_go 1 (pc' := 75) (L' := [(3, .inl (Int32.ofNat U.1)), (2, .inl (Int32.ofNat k)), (1, .inl (kp_b true)), (0, .inr (.inr (.inl (some 250))))]) (S' := []) (h' := h2) (by with_unfolding_all rfl) ?_
      exact run U.1 l3 (by omega)
set_option maxRecDepth 20000 in
theorem fs_c126 {g : kc_G} {d : Nat} {h0 : kc_H} {B : Nat → Int32} {n L M X : Nat} (hw0 : kd_wt kd_ty h0) (hg : kc_ok g) (hB : fu_BT B) (hC0 : fu_C B 1 h0) (hn : n ≤ 5) (en : B 3 = Int32.ofNat n) (hL : L ≤ 10) (eL : B 2 = Int32.ofNat L) (hM : M ≤ 3) (eM : B 1 = Int32.ofNat M) (hX : X ≤ 5) (eX : B 0 = Int32.ofNat X) (hdl : ∀ i j, i < n → j < n → fs_D B n i = fs_D B n j → i = j) (hdp : ∀ i, i < n → 1 ≤ fs_D B n i ∧ fs_D B n i ≤ X) : kc_Con g (d + 18) 126 [.inr (.inr (.inl (some 250)))] h0 (fun rv h' => rv = some (.inl (kp_b (decide ((pb_it B (pb_ls (fs_D B n) n X).2 n L M 120 (List.range n) (1000000, 0, fun _ => 0)).1 < 1000000)))) ∧ kd_wt kd_ty h' ∧ (h' 250 3 = .inl (Int32.ofNat (pb_it B (pb_ls (fs_D B n) n X).2 n L M 120 (List.range n) (1000000, 0, fun _ => 0)).1)) ∧ (h' 250 4 = .inl (Int32.ofNat (pb_it B (pb_ls (fs_D B n) n X).2 n L M 120 (List.range n) (1000000, 0, fun _ => 0)).2.1)) ∧ ((pb_it B (pb_ls (fs_D B n) n X).2 n L M 120 (List.range n) (1000000, 0, fun _ => 0)).1 < 1000000 → ∀ j, j < n → h' 251 j = .inl (Int32.ofNat ((pb_it B (pb_ls (fs_D B n) n X).2 n L M 120 (List.range n) (1000000, 0, fun _ => 0)).2.2 j))) ∧ ∀ a x, ¬ (204 ≤ a ∧ a ≤ 252) → h' a x = h0 a x) := by
  have hD6 := fun k => fs_Dl hB hn k
  have pl := pb_ls_p (D := fs_D B n) (n := n) X
  have pn := pb_ls_n hdp hdl
  have hS6 : ∀ j, j < n → (pb_ls (fs_D B n) n X).2 j < 6 := fun j hj => by have := (pl.2.1 j (by omega)).2; omega
  have hSm : ∀ i j, i < n → j < n → ((pb_ls (fs_D B n) n X).2 i < (pb_ls (fs_D B n) n X).2 j ↔ i < j) := fun i j hi hj => by
    rcases Nat.lt_trichotomy i j with q | q | q
    · have := pl.2.2.1 i j q (by omega); omega
    · rw [q]; omega
    · have := pl.2.2.1 j i q (by omega); omega
  have hfl : ∀ k, k < n → h0 27 k = .inl (Int32.ofNat (fs_D B n k)) := fun k hk => (fu_Cj (c := 26) (i := k) hC0 (by omega) (fu_fli k (by omega)).2.1 (fu_fli k (by omega)).1).trans (by rw [fs_Dv hB hn hk])
  refine kc_Con_new hg (M := wk_m126) rfl rfl rfl (show 1 ≤ 4 by decide) ?_
  refine kx_go 2 (pc' := 3) (L' := [(0, .inr (.inr (.inl (some 250))))]) (S' := [.inl (Int32.ofNat 1000000), .inr (.inr (.inl (some 250)))]) (h' := h0) (by with_unfolding_all rfl) ?_
  have hw1 : kd_wt kd_ty (kc_upd h0 250 3 (.inl (Int32.ofNat 1000000))) := fa_wa fs_k252.2.2.1 hw0
  refine kx_go 1 (pc' := 6) (L' := [(0, .inr (.inr (.inl (some 250))))]) (S' := []) (h' := (kc_upd h0 250 3 (.inl (Int32.ofNat 1000000)))) (by with_unfolding_all rfl) ?_
  refine kx_go 2 (pc' := 8) (L' := [(0, .inr (.inr (.inl (some 250))))]) (S' := [.inl (Int32.ofNat 0), .inr (.inr (.inl (some 250)))]) (h' := (kc_upd h0 250 3 (.inl (Int32.ofNat 1000000)))) (by with_unfolding_all rfl) ?_
  have hw2 : kd_wt kd_ty (kc_upd (kc_upd h0 250 3 (.inl (Int32.ofNat 1000000))) 250 4 (.inl (Int32.ofNat 0))) := fa_wa fs_k252.2.2.2 hw1
  refine kx_go 1 (pc' := 11) (L' := [(0, .inr (.inr (.inl (some 250))))]) (S' := []) (h' := (kc_upd (kc_upd h0 250 3 (.inl (Int32.ofNat 1000000))) 250 4 (.inl (Int32.ofNat 0)))) (by with_unfolding_all rfl) ?_
  have o2 : ∀ a x, ¬ a = 250 → (kc_upd (kc_upd h0 250 3 (.inl (Int32.ofNat 1000000))) 250 4 (.inl (Int32.ofNat 0))) a x = h0 a x := fun a y q => (fu_ne (fun e => q e.1)).trans (fu_ne (fun e => q e.1))
  have e23 : (kc_upd (kc_upd h0 250 3 (.inl (Int32.ofNat 1000000))) 250 4 (.inl (Int32.ofNat 0))) 250 3 = .inl (Int32.ofNat 1000000) := (fu_ne (by decide)).trans fu_eq
  have e24 : (kc_upd (kc_upd h0 250 3 (.inl (Int32.ofNat 1000000))) 250 4 (.inl (Int32.ofNat 0))) 250 4 = .inl (Int32.ofNat 0) := fu_eq
  generalize (kc_upd (kc_upd h0 250 3 (.inl (Int32.ofNat 1000000))) 250 4 (.inl (Int32.ofNat 0))) = h2 at hw2 o2 e23 e24 ⊢
  refine kx_go 1 (pc' := 12) (L' := [(0, .inr (.inr (.inl (some 250))))]) (S' := [.inr (.inr (.inl (some 250)))]) (h' := h2) (by with_unfolding_all rfl) ?_
  refine kc_call_rule (M2 := wk_m127) (av := [.inr (.inr (.inl (some 250)))]) (r := []) rfl rfl (kc_Con_le (fs_c127 (d := d) (D := fs_D B n) hw2 hg (fs_C_f (fun a y q => o2 a y (by omega)) hC0) hn en eX hX (fun k hk => (o2 27 k (by omega)).trans (hfl k hk)) (fun k _ => hD6 k)) (by omega)) (fun rv h3 hq => ?_)
  obtain ⟨rfl, hw3, hls, hF3⟩ := hq
  show kc_Ev g (d + 17) wk_m126 _ 15 [(0, .inr (.inr (.inl (some 250))))] [] h3
  refine kx_go 4 (pc' := 19) (L' := [(2, .inl (Int32.ofNat 0)), (1, .inl (Int32.ofNat 1)), (0, .inr (.inr (.inl (some 250))))]) (S' := []) (h' := h3) (by with_unfolding_all rfl) ?_
  refine kf_lo (L := [(2, .inl (Int32.ofNat 0)), (1, .inl (kp_b true)), (0, .inr (.inr (.inl (some 250))))]) (by intro q hq; simp only [List.mem_cons, List.not_mem_nil, or_false] at hq; rcases hq with rfl | rfl | rfl <;> rfl) ?_
  exact fs_c126l (S := (pb_ls (fs_D B n) n X).2) hg hB hC0 hn en hL eL hM eM hS6 hSm 120 0 (List.range n) (1000000, 0, fun _ => 0) h3 (by omega) (pb_w_ok n (by omega)) ⟨hw3, fun j hj => by
    show h3 252 j = .inl (Int32.ofNat ((pb_ls (fs_D B n) n X).2 (pb_g (List.range n) j))) ∧ (pb_ls (fs_D B n) n X).2 (pb_g (List.range n) j) < 6
    rw [pb_gr hj]
    exact ⟨hls j (by omega), hS6 j hj⟩, ⟨(hF3 _ _ (by omega)).trans e23, Nat.le_refl _⟩, ⟨(hF3 _ _ (by omega)).trans e24, Nat.zero_le _⟩, fun q => absurd q (Nat.lt_irrefl _), fun _ => rfl, fun a y q => (hF3 a y (by omega)).trans (o2 a y (by omega))⟩
set_option maxRecDepth 20000 in
theorem fs_c125t {g : kc_G} {d : Nat} {h0 : kc_H} {B : Nat → Int32} {n L M X : Nat} {a : Int32} (hw0 : kd_wt kd_ty h0) (hg : kc_ok g) (hB : fu_BT B) (hC0 : fu_C B 1 h0) (hn : n ≤ 5) (en : B 3 = Int32.ofNat n) (hL : L ≤ 10) (eL : B 2 = Int32.ofNat L) (hM : M ≤ 3) (eM : B 1 = Int32.ofNat M) (hX : X ≤ 5) (eX : B 0 = Int32.ofNat X) (hdl : ∀ i j, i < n → j < n → fs_D B n i = fs_D B n j → i = j) (hdp : ∀ i, i < n → 1 ≤ fs_D B n i ∧ fs_D B n i ≤ X) (ha : a = Int32.ofInt (-1) ∨ a = Int32.ofNat 10 ∨ ∃ l, l < n ∧ a = Int32.ofNat l) : kc_Ev g (d + 18) wk_m125 (fun rv h' => rv = some (.inl (pb_bv B X n L M a)) ∧ kd_wt kd_ty h' ∧ ∀ a x, ¬ (204 ≤ a ∧ a ≤ 252) → h' a x = h0 a x) 31 [(0, .inr (.inr (.inl (some 0)))), (1, .inl (a))] [] h0 := by
  unfold pb_bv
  refine kx_go 1 (pc' := 32) (L' := [(0, .inr (.inr (.inl (some 0)))), (1, .inl (a))]) (S' := [.inr (.inr (.inl (some 0)))]) (h' := h0) (by with_unfolding_all rfl) ?_
  refine kx_getf (c := 0) (v := .inr (.inr (.inl (some 1)))) rfl (by decide) (kx_ofr (hw0 _ _ _ fs_k0_0)) ?_
  refine kc_call_rule (M2 := wk_m115) (av := [.inr (.inr (.inl (some 1)))]) (r := []) rfl rfl (kc_Con_le (fs_c115 (d := d) hg hC0 hM eM hL eL) (by omega)) (fun rv hcc hq => ?_)
  obtain ⟨rfl, e9⟩ := hq
  rw [e9]
  clear e9
  show kc_Ev g (d + 18) wk_m125 _ 38 [(0, .inr (.inr (.inl (some 0)))), (1, .inl (a))] [.inl (kp_b (decide (5000 < fs_hn M L)))] h0
  refine kx_go 1 (pc' := (if kc_cnd .eq (kp_b (decide (5000 < fs_hn M L))).toInt 0 then 44 else 41)) (L' := [(0, .inr (.inr (.inl (some 0)))), (1, .inl (a))]) (S' := []) (h' := h0) (by with_unfolding_all rfl) ?_
  by_cases c : 5000 < fs_hn M L
  · rw [decide_eq_true c, if_neg fa_b0t, if_pos c]
    refine kx_go 1 (pc' := 43) (L' := [(0, .inr (.inr (.inl (some 0)))), (1, .inl (a))]) (S' := [.inl (Int32.ofInt (-20))]) (h' := h0) (by with_unfolding_all rfl) ?_
    exact kc_ret_ok rfl (rv := some (.inl (Int32.ofInt (-20)))) rfl ⟨rfl, hw0, fun _ _ _ => rfl⟩
  · rw [decide_eq_false c, if_pos (kx_b0.mpr rfl), if_neg c]
    have H126 := fs_c126 (g := g) (d := d) hw0 hg hB hC0 hn en hL eL hM eM hX eX hdl hdp
    generalize pb_it B (pb_ls (fs_D B n) n X).2 n L M 120 (List.range n) (1000000, 0, fun _ => 0) = U at H126 ⊢
    refine kx_go 1 (pc' := 45) (L' := [(0, .inr (.inr (.inl (some 0)))), (1, .inl (a))]) (S' := [.inr (.inr (.inl (some 0)))]) (h' := h0) (by with_unfolding_all rfl) ?_
    refine kx_getf (c := 0) (v := .inr (.inr (.inl (some 250)))) rfl (by decide) (kx_ofr (hw0 _ _ _ fs_k0_8)) ?_
    refine kc_call_rule (M2 := wk_m126) (av := [.inr (.inr (.inl (some 250)))]) (r := []) rfl rfl (kc_Con_le (H126) (by omega)) (fun rv h2 hq => ?_)
    obtain ⟨rfl, hw2, e3, e4, e5, hF2⟩ := hq
    show kc_Ev g (d + 18) wk_m125 _ 51 [(0, .inr (.inr (.inl (some 0)))), (1, .inl (a))] [.inl (kp_b (decide (U.1 < 1000000)))] h2
    refine kx_go 1 (pc' := (if kc_cnd .ne (kp_b (decide (U.1 < 1000000))).toInt 0 then 57 else 54)) (L' := [(0, .inr (.inr (.inl (some 0)))), (1, .inl (a))]) (S' := []) (h' := h2) (by with_unfolding_all rfl) ?_
    by_cases c2 : U.1 < 1000000
    · rw [decide_eq_true c2, if_pos (kx_b1.mpr rfl), if_pos c2]
      refine kx_go 3 (pc' := (if kc_cnd .ne (a).toInt (Int32.ofInt (-1)).toInt then 70 else 62)) (L' := [(0, .inr (.inr (.inl (some 0)))), (1, .inl (a))]) (S' := []) (h' := h2) (by with_unfolding_all rfl) ?_
      rcases ha with ha | ha | ⟨l, hll, ha⟩
      · subst ha
        rw [if_neg kx_m2, if_pos rfl]
        refine kx_go 1 (pc' := 63) (L' := [(0, .inr (.inr (.inl (some 0)))), (1, .inl (Int32.ofInt (-1)))]) (S' := [.inr (.inr (.inl (some 0)))]) (h' := h2) (by with_unfolding_all rfl) ?_
        refine kx_getf (c := 0) (v := .inr (.inr (.inl (some 250)))) rfl (by decide) (kx_ofr (hw2 _ _ _ fs_k0_8)) ?_
        refine kx_getf (c := 250) (v := .inl (Int32.ofNat U.1)) rfl (by decide) e3 ?_
        exact kc_ret_ok rfl (rv := some (.inl (Int32.ofNat U.1))) rfl ⟨rfl, hw2, hF2⟩
      · subst ha
        rw [if_pos (kx_nm2 (by decide)), if_neg (by decide), if_pos rfl]
        refine kx_go 3 (pc' := (if kc_cnd .ne (Int32.ofNat 10).toInt (Int32.ofNat 10).toInt then 86 else 76)) (L' := [(0, .inr (.inr (.inl (some 0)))), (1, .inl (Int32.ofNat 10))]) (S' := []) (h' := h2) (by with_unfolding_all rfl) ?_
        rw [if_neg (fun q => (kx_ne (by omega) (by omega)).mp q rfl)]
        refine kx_go 1 (pc' := 77) (L' := [(0, .inr (.inr (.inl (some 0)))), (1, .inl (Int32.ofNat 10))]) (S' := [.inr (.inr (.inl (some 0)))]) (h' := h2) (by with_unfolding_all rfl) ?_
        refine kx_getf (c := 0) (v := .inr (.inr (.inl (some 250)))) rfl (by decide) (kx_ofr (hw2 _ _ _ fs_k0_8)) ?_
        refine kx_getf (c := 250) (v := .inl (Int32.ofNat U.2.1)) rfl (by decide) e4 ?_
        refine kx_go 1 (pc' := 95) (L' := [(0, .inr (.inr (.inl (some 0)))), (1, .inl (Int32.ofNat 10))]) (S' := [.inl (Int32.ofNat U.2.1)]) (h' := h2) (by with_unfolding_all rfl) ?_
        exact kc_ret_ok rfl (rv := some (.inl (Int32.ofNat U.2.1))) rfl ⟨rfl, hw2, hF2⟩
      · subst ha
        have l1 : ¬ Int32.ofNat l = Int32.ofInt (-1) := fun q => by have := congrArg Int32.toInt q; rw [kx_ti (by omega), show (Int32.ofInt (-1)).toInt = -1 by decide] at this; omega
        have l2 : ¬ Int32.ofNat l = Int32.ofNat 10 := fun q => by have := congrArg Int32.toInt q; rw [kx_ti (by omega), kx_ti (by omega)] at this; omega
        rw [if_pos (kx_nm2 (by omega)), if_neg l1, if_neg l2, kx_ti (show l < 2147483648 by omega), Int.toNat_natCast]
        refine kx_go 3 (pc' := (if kc_cnd .ne (Int32.ofNat l).toInt (Int32.ofNat 10).toInt then 86 else 76)) (L' := [(0, .inr (.inr (.inl (some 0)))), (1, .inl (Int32.ofNat l))]) (S' := []) (h' := h2) (by with_unfolding_all rfl) ?_
        rw [if_pos ((kx_ne (by omega) (by omega)).mpr (by omega))]
        refine kx_go 1 (pc' := 87) (L' := [(0, .inr (.inr (.inl (some 0)))), (1, .inl (Int32.ofNat l))]) (S' := [.inr (.inr (.inl (some 0)))]) (h' := h2) (by with_unfolding_all rfl) ?_
        refine kx_getf (c := 0) (v := .inr (.inr (.inl (some 250)))) rfl (by decide) (kx_ofr (hw2 _ _ _ fs_k0_8)) ?_
        refine kx_getf (c := 250) (v := .inr (.inr (.inl (some 251)))) rfl (by decide) (kx_ofr (hw2 _ _ _ fs_k250_5)) ?_
        refine kx_go 1 (pc' := 94) (L' := [(0, .inr (.inr (.inl (some 0)))), (1, .inl (Int32.ofNat l))]) (S' := [.inl (Int32.ofNat l), .inr (.inr (.inl (some 251)))]) (h' := h2) (by with_unfolding_all rfl) ?_
        refine kx_iald (c := 251) (j := l) (m := 5) (v := .inl (Int32.ofNat (U.2.2 l))) rfl rfl (by decide) (by decide) (by omega) (e5 c2 l hll) ?_
        exact kc_ret_ok rfl (rv := some (.inl (Int32.ofNat (U.2.2 l)))) rfl ⟨rfl, hw2, hF2⟩
    · rw [decide_eq_false c2, if_neg (show ¬ (kc_cnd .ne (kp_b false).toInt 0 = true) from fun q => by have := kx_b1.mp q; cases this), if_neg c2]
      refine kx_go 1 (pc' := 56) (L' := [(0, .inr (.inr (.inl (some 0)))), (1, .inl (a))]) (S' := [.inl (Int32.ofInt (-5))]) (h' := h2) (by with_unfolding_all rfl) ?_
      exact kc_ret_ok rfl (rv := some (.inl (Int32.ofInt (-5)))) rfl ⟨rfl, hw2, hF2⟩
set_option maxRecDepth 20000 in
theorem fs_c125 {g : kc_G} {d : Nat} {h0 : kc_H} {B : Nat → Int32} {n L M X : Nat} {a : Int32} (hw0 : kd_wt kd_ty h0) (hg : kc_ok g) (hB : fu_BT B) (hC0 : fu_C B 1 h0) (hn : n ≤ 5) (en : B 3 = Int32.ofNat n) (hL : L ≤ 10) (eL : B 2 = Int32.ofNat L) (hM : M ≤ 3) (eM : B 1 = Int32.ofNat M) (hX : X ≤ 5) (eX : B 0 = Int32.ofNat X) (hdl : ∀ i j, i < n → j < n → fs_D B n i = fs_D B n j → i = j) (hdp : ∀ i, i < n → 1 ≤ fs_D B n i ∧ fs_D B n i ≤ X) : kc_Con g (d + 19) 125 [.inr (.inr (.inl (some 0))), .inl a] h0 (fun rv h' => rv = some (.inl (pb_best B X n L M a)) ∧ kd_wt kd_ty h' ∧ ∀ a x, ¬ (204 ≤ a ∧ a ≤ 252) → h' a x = h0 a x) := by
  have z3 : (Int32.ofNat n - Int32.ofNat 1).toInt = (n : Int) - 1 := by rw [fs_im3, fs_ti (by omega) (by omega)]
  unfold pb_best
  refine kc_Con_new hg (M := wk_m125) rfl rfl rfl (show 2 ≤ 2 by decide) ?_
  refine kx_go 3 (pc' := (if kc_cnd .eq (a).toInt (Int32.ofInt (-1)).toInt then 31 else 5)) (L' := [(0, .inr (.inr (.inl (some 0)))), (1, .inl (a))]) (S' := []) (h' := h0) (by with_unfolding_all rfl) ?_
  by_cases e : a = Int32.ofInt (-1)
  · rw [if_pos (fu_ieq.mpr (by rw [e])), if_pos (Or.inl e)]
    exact fs_c125t hw0 hg hB hC0 hn en hL eL hM eM hX eX hdl hdp (Or.inl e)
  · rw [if_neg (fun q => fs_m1n e (fu_ieq.mp q))]
    refine kx_go 3 (pc' := (if kc_cnd .eq (a).toInt (Int32.ofNat 10).toInt then 31 else 11)) (L' := [(0, .inr (.inr (.inl (some 0)))), (1, .inl (a))]) (S' := []) (h' := h0) (by with_unfolding_all rfl) ?_
    by_cases e1 : a = Int32.ofNat 10
    · rw [if_pos (fu_ieq.mpr (by rw [e1])), if_pos (Or.inr (Or.inl e1))]
      exact fs_c125t hw0 hg hB hC0 hn en hL eL hM eM hX eX hdl hdp (Or.inr (Or.inl e1))
    · rw [if_neg (fun q => e1 (Int32.toInt_inj.mp (fu_ieq.mp q)))]
      refine kx_go 3 (pc' := 14) (L' := [(0, .inr (.inr (.inl (some 0)))), (1, .inl (a))]) (S' := [.inr (.inr (.inl (some 0))), .inl (Int32.ofNat 0), .inl (a)]) (h' := h0) (by with_unfolding_all rfl) ?_
      refine kx_getf (c := 0) (v := .inr (.inr (.inl (some 1)))) rfl (by decide) (kx_ofr (hw0 _ _ _ fs_k0_0)) ?_
      refine kx_getf (c := 1) (v := .inl (Int32.ofNat n)) rfl (by decide) ((fu_C0 hC0).2.2.2.trans (by rw [en])) ?_
      refine kx_go 2 (pc' := 22) (L' := [(0, .inr (.inr (.inl (some 0)))), (1, .inl (a))]) (S' := [.inl ((Int32.ofNat n) - (Int32.ofNat 1)), .inl (Int32.ofNat 0), .inl (a)]) (h' := h0) (by with_unfolding_all rfl) ?_
      refine kc_call_rule (M2 := wk_m19) (av := [.inl (a), .inl (Int32.ofNat 0), .inl ((Int32.ofNat n) - (Int32.ofNat 1))]) (r := []) rfl rfl (kc_Con_le (fu_bt (d := 0) (lo := 0) (hi := (n : Int) - 1) hg rfl z3) (by omega)) (fun rv hcc hq => ?_)
      obtain ⟨rfl, e9⟩ := hq
      rw [e9]
      clear e9
      show kc_Ev g (d + 18) wk_m125 _ 25 [(0, .inr (.inr (.inl (some 0)))), (1, .inl (a))] [.inl (kp_b (fu_in a 0 ((n : Int) - 1)))] h0
      refine kx_go 1 (pc' := (if kc_cnd .ne (kp_b (fu_in a 0 ((n : Int) - 1))).toInt 0 then 31 else 28)) (L' := [(0, .inr (.inr (.inl (some 0)))), (1, .inl (a))]) (S' := []) (h' := h0) (by with_unfolding_all rfl) ?_
      cases e2 : fu_in a 0 ((n : Int) - 1) with
      | false =>
        rw [if_neg (show ¬ (kc_cnd .ne (kp_b false).toInt 0 = true) from fun q => by have := kx_b1.mp q; cases this), if_neg (fun q => q.elim e (fun q => q.elim e1 (fun q => by cases q)))]
        refine kx_go 1 (pc' := 30) (L' := [(0, .inr (.inr (.inl (some 0)))), (1, .inl (a))]) (S' := [.inl (Int32.ofInt (-10))]) (h' := h0) (by with_unfolding_all rfl) ?_
        exact kc_ret_ok rfl (rv := some (.inl (Int32.ofInt (-10)))) rfl ⟨rfl, hw0, fun _ _ _ => rfl⟩
      | true =>
        rw [if_pos (kx_b1.mpr rfl), if_pos (Or.inr (Or.inr rfl))]
        obtain ⟨l, hl9, el, -, hl⟩ := fu_in_n (u := 4) e2 (Int.le_refl 0) (by omega)
        exact fs_c125t hw0 hg hB hC0 hn en hL eL hM eM hX eX hdl hdp (Or.inr (Or.inr ⟨l, by omega, el⟩))
end
section
-- 99.zqg
/-! ===== BEST: the DOORS of THE LINE are among the DOORS ===== -/
def kJ (h : kc_H) (r f : Nat) : Prop := ∀ i n X v : Nat, i < n → n ≤ 5 → X ≤ 5 → v ≤ 5 → h r (f + 3) = .inl (Int32.ofNat n) → h r (f + 0) = .inl (Int32.ofNat X) → h r (f + 150 + i) = .inl (Int32.ofNat v) → v ≤ X
theorem kJ_eq {h h' : kc_H} {r f r' f' : Nat} (e0 : h' r' (f' + 0) = h r (f + 0)) (e3 : h' r' (f' + 3) = h r (f + 3)) (e : ∀ i, i < 5 → h' r' (f' + 150 + i) = h r (f + 150 + i)) (hJ : kJ h r f) : kJ h' r' f' := fun i n X v h1 h2 h3 h4 q1 q2 q3 => hJ i n X v h1 h2 h3 h4 (e3.symm.trans q1) (e0.symm.trans q2) ((e i (by omega)).symm.trans q3)
theorem kJ_0 {h : kc_H} {r f : Nat} (e : h r (f + 3) = .inl (Int32.ofNat 0)) : kJ h r f := fun i n X v h1 h2 h3 h4 q1 q2 q3 => by
  have := fu_iN (by omega) (by omega) (e.symm.trans q1)
  omega
def fj_K (h : kc_H) : Prop := kJ h 260 0 ∧ kJ h 261 0 ∧ kJ h 261 650
def fj_I (h : kc_H) : Prop := fu_I h ∧ fj_K h
/-- images as they were, the book's line told anew -/
theorem fj_now {h h' : kc_H} (hK : fj_K h) (e : ∀ i, h' 261 i = h 261 i) (hJ : kJ h' 260 0) : fj_K h' := ⟨hJ, kJ_eq (e _) (e _) (fun _ _ => e _) hK.2.1, kJ_eq (e _) (e _) (fun _ _ => e _) hK.2.2⟩
theorem fj_same {h h' : kc_H} (hK : fj_K h) (e1 : ∀ i, h' 261 i = h 261 i) (e0 : ∀ i, h' 260 i = h 260 i) : fj_K h' := fj_now hK e1 (kJ_eq (e0 _) (e0 _) (fun _ _ => e0 _) hK.1)
/-- place 0 is left alone -/
def fj_sd (l : List (Nat × Int32)) : Prop := ∀ q ∈ l, ¬ q.1 = 0
theorem fj_sd_nil : fj_sd [] := fun q h => by cases h
theorem fj_sd_cons {j : Nat} {v : Int32} {l : List (Nat × Int32)} (h1 : ¬ j = 0) (h : fj_sd l) : fj_sd ((j, v) :: l) := fun q hq => by
  rcases List.mem_cons.mp hq with rfl | hq
  · exact h1
  · exact h q hq
theorem fj_kJ {l : List (Nat × Int32)} {h : kc_H} (gd : fu_gd l) (h0 : fj_sd l) (hs : fu_sd l) (hL : kJ h 260 0) : kJ (fu_rw l (fu_cw 1 l h)) 260 0 := by
  refine kJ_eq ?_ ?_ (fun i hi => ?_) hL
  · rw [fu_rw_i (fun q hq e => h0 q hq (by omega)), fu_cw_o gd (by omega)]
  · rw [fu_rw_i (fun q hq e => (hs q hq).1 (by omega)), fu_cw_o gd (by omega)]
  · rw [fu_rw_i (fun q hq e => (hs q hq).2 (by omega)), fu_cw_o gd (by omega)]
theorem fj_s_way {B : Nat → Int32} {a b c : Int32} (hB : fu_BT B) : fj_sd (fu_way B a b c).2 := by
  obtain ⟨D, D5, eD⟩ := fu_n0 hB
  unfold fu_way
  split
  · rename_i e
    simp only [Bool.and_eq_true] at e
    obtain ⟨e1, e2, -, e4⟩ := e
    rw [eD, kx_ti (by omega)] at e1 e2
    obtain ⟨x, x5, rfl, -⟩ := fu_in_n (u := 5) e1 (by omega) (by omega)
    obtain ⟨y, y5, rfl, -⟩ := fu_in_n (u := 5) e2 (by omega) (by omega)
    have e4 := fu_in_t e4
    rw [fu_tn (by omega), fu_tn (by omega)]
    have hx : x < 6 := by omega
    have hy : y < 6 := by omega
    exact fj_sd_cons (by omega) (fj_sd_cons (by omega) fj_sd_nil)
  · exact fj_sd_nil
theorem fj_s_ford {B : Nat → Int32} {a : Int32} (hB : fu_BT B) : fj_sd (fu_ford B a).2 := by
  obtain ⟨D, D5, eD⟩ := fu_n0 hB
  unfold fu_ford
  split
  · rename_i e1
    rw [eD, kx_ti (by omega)] at e1
    obtain ⟨x, x5, rfl, -⟩ := fu_in_n (u := 5) e1 (by omega) (by omega)
    rw [fu_tn (by omega)]
    have hx : x < 6 := by omega
    split
    · exact fj_sd_nil
    · exact fj_sd_cons (by omega) fj_sd_nil
  · exact fj_sd_nil
theorem fj_s_stones {B : Nat → Int32} {a b : Int32} (hB : fu_BT B) : fj_sd (fu_stones B a b).2 := by
  obtain ⟨D, D5, eD⟩ := fu_n0 hB
  unfold fu_stones
  split
  · rename_i e
    simp only [Bool.and_eq_true] at e
    obtain ⟨e1, e2⟩ := e
    rw [eD, kx_ti (by omega)] at e1
    obtain ⟨x, x5, rfl, -⟩ := fu_in_n (u := 5) e1 (by omega) (by omega)
    have e2 := fu_in_t e2
    rw [fu_tn (by omega)]
    have hx : x < 6 := by omega
    exact fj_sd_cons (by omega) fj_sd_nil
  · exact fj_sd_nil
theorem fj_s_mule {B : Nat → Int32} {a b c : Int32} (hB : fu_BT B) : fj_sd (fu_mule B a b c).2 := by
  obtain ⟨M, M3, eM⟩ := fu_n1 hB
  unfold fu_mule
  split
  · rename_i e
    simp only [Bool.and_eq_true] at e
    obtain ⟨e1, e2, e3⟩ := e
    have e1 := fu_in_t e1
    have e2 := fu_in_t e2
    have e3 := fu_in_t e3
    rw [eM, kx_ti (by omega)]
    split
    · rw [← Int32.ofNat_add]
      have hm : M < 3 := by omega
      obtain ⟨f0, f1, f2, f3, f4, f5⟩ := fu_fmu M hm
      rw [Int.toNat_natCast]
      exact fj_sd_cons (by omega) (fj_sd_cons (by omega) (fj_sd_cons (by omega) (fj_sd_cons (by omega) (fj_sd_cons (by omega) (fj_sd_cons (by omega) fj_sd_nil)))))
    · exact fj_sd_nil
  · exact fj_sd_nil
theorem fj_s_lame {B : Nat → Int32} {a b c : Int32} (hB : fu_BT B) : fj_sd (fu_lame B a b c).2 := by
  obtain ⟨M, M3, eM⟩ := fu_n1 hB
  unfold fu_lame
  split
  · rename_i e
    simp only [Bool.and_eq_true] at e
    obtain ⟨e1, e2, e3⟩ := e
    rw [eM, kx_ti (by omega)] at e1
    obtain ⟨x, x5, rfl, x6, x7⟩ := fu_in_n (u := 3) e1 (by omega) (by omega)
    obtain ⟨y, y5, rfl, -⟩ := fu_in_n (u := 1) e2 (by omega) (by omega)
    have e3 := fu_in_t e3
    rw [fu_tn (by omega), fu_tn (by omega)]
    have hm : x < 3 := by omega
    obtain ⟨f0, -, -, -, f4, f5⟩ := fu_fmu x hm
    rcases (show y = 0 ∨ y = 1 by omega) with rfl | rfl
    · exact fj_sd_cons (by omega) fj_sd_nil
    · exact fj_sd_cons (by omega) fj_sd_nil
  · exact fj_sd_nil
theorem fj_s_load {B : Nat → Int32} {a b c e : Int32} (hB : fu_BT B) : fj_sd (fu_load B a b c e).2 := by
  obtain ⟨D, D5, eD⟩ := fu_n0 hB
  obtain ⟨L, L10, eL⟩ := fu_n2 hB
  unfold fu_load
  split
  · rename_i q
    simp only [Bool.and_eq_true] at q
    obtain ⟨e1, e2, e3, e4, -⟩ := q
    rw [eD, kx_ti (by omega)] at e3 e4
    have e1 := fu_in_t e1
    have e2 := fu_in_t e2
    have e3 := fu_in_t e3
    have e4 := fu_in_t e4
    rw [eL, kx_ti (by omega)]
    split
    · rw [← Int32.ofNat_add]
      have hm : L < 10 := by omega
      obtain ⟨f0, f1, f2, f3, f4, f5, f6, f7⟩ := fu_flo L hm
      rw [Int.toNat_natCast]
      exact fj_sd_cons (by omega) (fj_sd_cons (by omega) (fj_sd_cons (by omega) (fj_sd_cons (by omega) (fj_sd_cons (by omega) (fj_sd_cons (by omega) (fj_sd_cons (by omega) (fj_sd_cons (by omega) fj_sd_nil)))))))
    · exact fj_sd_nil
  · exact fj_sd_nil
theorem fj_s_ask {B : Nat → Int32} {a b : Int32} (hB : fu_BT B) : fj_sd (fu_ofl B 4 100 a b).2 := by
  obtain ⟨L, L10, eL⟩ := fu_n2 hB
  unfold fu_ofl
  split
  · rename_i e
    simp only [Bool.and_eq_true] at e
    obtain ⟨e1, e2⟩ := e
    rw [eL, kx_ti (by omega)] at e1
    obtain ⟨x, x5, rfl, x6, x7⟩ := fu_in_n (u := 10) e1 (by omega) (by omega)
    have e2 := fu_in_t e2
    rw [fu_tn (by omega)]
    have hm : x < 10 := by omega
    obtain ⟨f0, -, -, -, -, f5, -, -⟩ := fu_flo x hm
    exact fj_sd_cons (by omega) fj_sd_nil
  · exact fj_sd_nil
theorem fj_s_drain {B : Nat → Int32} {a b : Int32} (hB : fu_BT B) : fj_sd (fu_ofl B 5 9 a b).2 := by
  obtain ⟨L, L10, eL⟩ := fu_n2 hB
  unfold fu_ofl
  split
  · rename_i e
    simp only [Bool.and_eq_true] at e
    obtain ⟨e1, e2⟩ := e
    rw [eL, kx_ti (by omega)] at e1
    obtain ⟨x, x5, rfl, x6, x7⟩ := fu_in_n (u := 10) e1 (by omega) (by omega)
    have e2 := fu_in_t e2
    rw [fu_tn (by omega)]
    have hm : x < 10 := by omega
    obtain ⟨f0, -, -, -, -, -, f6, -⟩ := fu_flo x hm
    exact fj_sd_cons (by omega) fj_sd_nil
  · exact fj_sd_nil
theorem fj_s_put {B : Nat → Int32} {a b : Int32} : fj_sd (fu_put B a b).2 := by
  unfold fu_put
  by_cases e : (fu_in a 0 1 && fu_in b 1 (if a.toInt = 0 then 20 else 9)) = true
  · rw [if_pos e]
    rw [Bool.and_eq_true] at e
    obtain ⟨e1, e2⟩ := e
    obtain ⟨x, x5, rfl, x6, x7⟩ := fu_in_n (u := 1) e1 (by omega) (by omega)
    have e2 := fu_in_t e2
    rw [fu_tn (by omega)]
    rcases (show x = 0 ∨ x = 1 by omega) with rfl | rfl
    · rw [if_pos (by decide)] at e2
      exact fj_sd_cons (by omega) fj_sd_nil
    · rw [if_neg (by decide)] at e2
      exact fj_sd_cons (by omega) fj_sd_nil
  · rw [if_neg e]
    exact fj_sd_nil
theorem fj_s_clr {B : Nat → Int32} {a : Int32} : fj_sd (fu_clr B a).2 := by
  unfold fu_clr
  split
  · rename_i e1
    obtain ⟨x, x5, rfl, x6, x7⟩ := fu_in_n (u := 1) e1 (by omega) (by omega)
    rw [fu_tn (by omega)]
    have hx : x < 2 := by omega
    exact fj_sd_cons (by omega) fj_sd_nil
  · exact fj_sd_nil
theorem fj_door {h : kc_H} {B : Nat → Int32} (hR : fu_B B h) (hB : fu_BT B) (hL : kJ h 260 0) : kJ (fu_rw (fu_door B).2 (fu_cw 1 (fu_door B).2 h)) 260 0 := by
  have gd := fu_g_door hB
  have hs := fu_s_door hB
  obtain ⟨D, D5, eD⟩ := fu_n0 hB
  intro i n X v h1 h2 h3 h4 q1 q2 q3
  have k3 : fu_rw (fu_door B).2 (fu_cw 1 (fu_door B).2 h) 260 (0 + 3) = h 260 (0 + 3) := by rw [fu_rw_i (fun q hq e => (hs q hq).1 (by omega)), fu_cw_o gd (by omega)]
  have k4 : fu_rw (fu_door B).2 (fu_cw 1 (fu_door B).2 h) 260 (0 + 150 + i) = h 260 (0 + 150 + i) := by rw [fu_rw_i (fun q hq e => (hs q hq).2 (by omega)), fu_cw_o gd (by omega)]
  have e0 : h 260 (0 + 0) = .inl (Int32.ofNat D) := (hR 0 (by decide) (by decide)).trans (by rw [eD])
  have hv := hL i n D v h1 h2 D5 h4 (k3.symm.trans q1) e0 (k4.symm.trans q3)
  by_cases c : (fu_door B).2 = []
  · rw [c] at q2
    have := fu_iN (by omega) (by omega) (e0.symm.trans q2)
    omega
  · have hd : (fu_door B).2 = [(0, Int32.ofNat (D + 1))] := by
      unfold fu_door at c ⊢
      rw [eD, kx_ti (by omega)] at c ⊢
      split
      · first | rfl | rw [← Int32.ofNat_add] | (rw [kx_inc1]) | simp_all
      · first | rfl | simp_all
    rw [hd] at q2
    have e0 : kc_upd (fu_cw 1 [(0, Int32.ofNat (D + 1))] h) 260 0 (.inl (Int32.ofNat (D + 1))) 260 0 = .inl (Int32.ofNat (D + 1)) := fu_eq
    have q2 : (.inl (Int32.ofNat (D + 1)) : kc_V) = .inl (Int32.ofNat X) := e0.symm.trans q2
    have := fu_iN (by omega) (by omega) q2
    omega
theorem fj_line {h : kc_H} {B : Nat → Int32} {a : Int32} (hR : fu_B B h) (hB : fu_BT B) (hL : kJ h 260 0) : kJ (fu_rw (fu_line B a).2 (fu_cw 1 (fu_line B a).2 h)) 260 0 := by
  obtain ⟨D, D5, eD⟩ := fu_n0 hB
  obtain ⟨n, n5, en⟩ := fu_n3 hB
  have gd := fu_g_line (a := a) hB
  by_cases c1 : fu_in a 1 (B 0).toInt = true
  · by_cases c2 : fu_il B a n = true
    · have key : fu_line B a = (Int32.ofInt (-3), []) := by unfold fu_line; rw [if_pos c1, en, kx_ti (by omega), Int.toNat_natCast, if_pos c2]
      rw [key]
      exact hL
    · by_cases c3 : n < 5
      · have key : fu_line B a = (Int32.ofNat (n + 1), [(150 + n, a), (3, Int32.ofNat (n + 1))]) := by unfold fu_line; rw [if_pos c1, en, kx_ti (by omega), Int.toNat_natCast, if_neg c2, if_pos (show (n : Int) < 5 by omega), kx_inc1]
        have q1 := c1
        rw [eD, kx_ti (by omega)] at q1
        obtain ⟨dd, dd5, rfl, d1, d2⟩ := fu_in_n (u := 5) q1 (by omega) (by omega)
        have gd2 := gd
        rw [key] at gd2
        have hm : ∀ i, ¬ i = 3 → ¬ i = 150 + n → (fu_rw (fu_line B (Int32.ofNat dd)).2 (fu_cw 1 (fu_line B (Int32.ofNat dd)).2 h)) 260 i = h 260 i := fun i i1 i2 => by
          rw [key, fu_rw_i (fun q hq => ?_), fu_cw_o gd2 (Or.inr (by decide))]
          simp only [List.mem_cons, List.not_mem_nil, or_false] at hq
          rcases hq with rfl | rfl
          · exact fun q => i2 q.symm
          · exact fun q => i1 q.symm
        intro i m X v h1 h2 h3 h4 q1 q2 q3
        have e3 : (fu_rw (fu_line B (Int32.ofNat dd)).2 (fu_cw 1 (fu_line B (Int32.ofNat dd)).2 h)) 260 (0 + 3) = .inl (Int32.ofNat (n + 1)) := by
          rw [key]
          exact fu_rw2b
        have em := fu_iN (by omega) (by omega) (e3.symm.trans q1)
        have e0 := (hm (0 + 0) (by decide) (by omega)).symm.trans q2
        have eX : (.inl (Int32.ofNat D) : kc_V) = .inl (Int32.ofNat X) := ((hR 0 (by decide) (by decide)).trans (by rw [eD])).symm.trans e0
        have eX := fu_iN (by omega) (by omega) eX
        by_cases e : i = n
        · rw [e] at q3
          have e5 : (fu_rw (fu_line B (Int32.ofNat dd)).2 (fu_cw 1 (fu_line B (Int32.ofNat dd)).2 h)) 260 (0 + 150 + n) = .inl (Int32.ofNat dd) := by
            rw [key, Nat.zero_add]
            exact fu_rw2a (by omega)
          have := fu_iN (by omega) (by omega) (e5.symm.trans q3)
          omega
        · exact hL i n X v (by omega) n5 h3 h4 ((hR 3 (by decide) (by decide)).trans (by rw [en])) e0 ((hm _ (by omega) (by omega)).symm.trans q3)
      · have key : fu_line B a = (Int32.ofInt (-3), []) := by unfold fu_line; rw [if_pos c1, en, kx_ti (by omega), Int.toNat_natCast, if_neg c2, if_neg (show ¬ (n : Int) < 5 by omega)]
        rw [key]
        exact hL
  · have key : fu_line B a = (Int32.ofInt (-2), []) := by unfold fu_line; rw [if_neg c1]
    rw [key]
    exact hL
theorem fj_both {g : kc_G} {idc idr : Nat} {av : List kc_V} {h : kc_H} {B : Nat → Int32} {S : fu_S} (hI : fu_I h) (hK : fj_K h) (hC : fu_C B 1 h) (hR : fu_B B h) (gd : fu_gd S.2) (c1 : kc_Con g 30 idc (.inr (.inr (.inl (some 0))) :: av) h (fun rv h' => rv = some (.inl S.1) ∧ h' = fu_cw 1 S.2 h)) (c2 : ∀ h1, kd_wt kd_ty h1 → fu_B B h1 → (∀ i, h1 260 i = h 260 i) → kc_Con g 30 idr (.inr (.inr (.inl (some 259))) :: av) h1 (fun rv h' => rv = some (.inl S.1) ∧ h' = fu_rw S.2 h1)) (hk : kI (fu_rw S.2 (fu_cw 1 S.2 h)) 260 0) (hk2 : kJ (fu_rw S.2 (fu_cw 1 S.2 h)) 260 0) : kc_Con g 30 idc (.inr (.inr (.inl (some 0))) :: av) h (fun rv h1 => ∃ z : Int32, rv = some (.inl z) ∧ kc_Con g 30 idr (.inr (.inr (.inl (some 259))) :: av) h1 (fun rv2 h2 => rv2 = some (.inl z) ∧ fj_I h2)) := by
  refine kc_Con_mono c1 (fun rv h1 hq => ?_)
  obtain ⟨rfl, rfl⟩ := hq
  have hw1 := fu_wt_c gd hI.1
  have hR1 : fu_B B (fu_cw 1 S.2 h) := fu_Beq (fun i _ => fu_cw_o gd (Or.inr (by decide))) hR
  refine ⟨S.1, rfl, kc_Con_mono (c2 _ hw1 hR1 (fun i => fu_cw_o gd (Or.inr (by decide)))) (fun rv h2 hq => ?_)⟩
  obtain ⟨rfl, rfl⟩ := hq
  exact ⟨rfl, fu_now hI (fu_wt_r gd hw1) ⟨fu_bw S.2 B, fu_Ceq (fun c i c1 c2 => fu_rw_o (by omega)) (fu_C_w gd hC), fu_B_w hR1⟩ (fun c i a b => (fu_rw_o (by omega)).trans (fu_cw_o gd (by omega))) (fun c i a => (fu_rw_o (by omega)).trans (fu_cw_o gd (by omega))) hk, fj_now hK (fun i => (fu_rw_o (by omega)).trans (fu_cw_o gd (by omega))) hk2⟩
theorem fJ_Xdoor {g : kc_G} {h : kc_H} (hg : kc_ok g) (hJ : fj_I h) : kc_Con g 30 13 [.inr (.inr (.inl (some 0)))] h (fun rv h1 => ∃ z : Int32, rv = some (.inl z) ∧ kc_Con g 30 15 [.inr (.inr (.inl (some 259)))] h1 (fun rv2 h2 => rv2 = some (.inl z) ∧ fj_I h2)) := by
  obtain ⟨hI, hK⟩ := hJ
  obtain ⟨B, hC, hR⟩ := hI.2.1
  have hB := fu_C_T hI.1 hC
  exact fj_both hI hK hC hR (fu_g_door hB) (kc_Con_le (fu_cdoor (d := 0) hg hI.1 hC hB) (by decide)) (fun h1 w1 r1 _ => kc_Con_le (fu_rdoor (d := 0) hg w1 r1 hB) (by decide)) (fu_kI (fu_g_door hB) (fu_s_door hB) hI.2.2.2.2.2.1) (fj_door hR hB hK.1)
theorem fJ_Xway {g : kc_G} {h : kc_H} {a b c : Int32} (hg : kc_ok g) (hJ : fj_I h) : kc_Con g 30 16 [.inr (.inr (.inl (some 0))), .inl a, .inl b, .inl c] h (fun rv h1 => ∃ z : Int32, rv = some (.inl z) ∧ kc_Con g 30 20 [.inr (.inr (.inl (some 259))), .inl a, .inl b, .inl c] h1 (fun rv2 h2 => rv2 = some (.inl z) ∧ fj_I h2)) := by
  obtain ⟨hI, hK⟩ := hJ
  obtain ⟨B, hC, hR⟩ := hI.2.1
  have hB := fu_C_T hI.1 hC
  exact fj_both hI hK hC hR (fu_g_way hB) (kc_Con_le (fu_cway (d := 0) hg hI.1 hC hB) (by decide)) (fun h1 w1 r1 _ => kc_Con_le (fu_rway (d := 0) hg w1 r1 hB) (by decide)) (fu_kI (fu_g_way hB) (fu_s_way hB) hI.2.2.2.2.2.1) (fj_kJ (fu_g_way hB) (fj_s_way hB) (fu_s_way hB) hK.1)
theorem fJ_Xford {g : kc_G} {h : kc_H} {a : Int32} (hg : kc_ok g) (hJ : fj_I h) : kc_Con g 30 23 [.inr (.inr (.inl (some 0))), .inl a] h (fun rv h1 => ∃ z : Int32, rv = some (.inl z) ∧ kc_Con g 30 26 [.inr (.inr (.inl (some 259))), .inl a] h1 (fun rv2 h2 => rv2 = some (.inl z) ∧ fj_I h2)) := by
  obtain ⟨hI, hK⟩ := hJ
  obtain ⟨B, hC, hR⟩ := hI.2.1
  have hB := fu_C_T hI.1 hC
  exact fj_both hI hK hC hR (fu_g_ford hB) (kc_Con_le (fu_cford (d := 0) hg hI.1 hC hB) (by decide)) (fun h1 w1 r1 _ => kc_Con_le (fu_rford (d := 0) hg w1 r1 hB) (by decide)) (fu_kI (fu_g_ford hB) (fu_s_ford hB) hI.2.2.2.2.2.1) (fj_kJ (fu_g_ford hB) (fj_s_ford hB) (fu_s_ford hB) hK.1)
theorem fJ_Xstones {g : kc_G} {h : kc_H} {a b : Int32} (hg : kc_ok g) (hJ : fj_I h) : kc_Con g 30 28 [.inr (.inr (.inl (some 0))), .inl a, .inl b] h (fun rv h1 => ∃ z : Int32, rv = some (.inl z) ∧ kc_Con g 30 30 [.inr (.inr (.inl (some 259))), .inl a, .inl b] h1 (fun rv2 h2 => rv2 = some (.inl z) ∧ fj_I h2)) := by
  obtain ⟨hI, hK⟩ := hJ
  obtain ⟨B, hC, hR⟩ := hI.2.1
  have hB := fu_C_T hI.1 hC
  exact fj_both hI hK hC hR (fu_g_stones hB) (kc_Con_le (fu_cstones (d := 0) hg hI.1 hC hB) (by decide)) (fun h1 w1 r1 _ => kc_Con_le (fu_rstones (d := 0) hg w1 r1 hB) (by decide)) (fu_kI (fu_g_stones hB) (fu_s_stones hB) hI.2.2.2.2.2.1) (fj_kJ (fu_g_stones hB) (fj_s_stones hB) (fu_s_stones hB) hK.1)
theorem fJ_Xmule {g : kc_G} {h : kc_H} {a b c : Int32} (hg : kc_ok g) (hJ : fj_I h) : kc_Con g 30 32 [.inr (.inr (.inl (some 0))), .inl a, .inl b, .inl c] h (fun rv h1 => ∃ z : Int32, rv = some (.inl z) ∧ kc_Con g 30 34 [.inr (.inr (.inl (some 259))), .inl a, .inl b, .inl c] h1 (fun rv2 h2 => rv2 = some (.inl z) ∧ fj_I h2)) := by
  obtain ⟨hI, hK⟩ := hJ
  obtain ⟨B, hC, hR⟩ := hI.2.1
  have hB := fu_C_T hI.1 hC
  exact fj_both hI hK hC hR (fu_g_mule hB) (kc_Con_le (fu_cmule (d := 0) hg hI.1 hC hB) (by decide)) (fun h1 w1 r1 _ => kc_Con_le (fu_rmule (d := 0) hg w1 r1 hB) (by decide)) (fu_kI (fu_g_mule hB) (fu_s_mule hB) hI.2.2.2.2.2.1) (fj_kJ (fu_g_mule hB) (fj_s_mule hB) (fu_s_mule hB) hK.1)
theorem fJ_Xlame {g : kc_G} {h : kc_H} {a b c : Int32} (hg : kc_ok g) (hJ : fj_I h) : kc_Con g 30 35 [.inr (.inr (.inl (some 0))), .inl a, .inl b, .inl c] h (fun rv h1 => ∃ z : Int32, rv = some (.inl z) ∧ kc_Con g 30 39 [.inr (.inr (.inl (some 259))), .inl a, .inl b, .inl c] h1 (fun rv2 h2 => rv2 = some (.inl z) ∧ fj_I h2)) := by
  obtain ⟨hI, hK⟩ := hJ
  obtain ⟨B, hC, hR⟩ := hI.2.1
  have hB := fu_C_T hI.1 hC
  exact fj_both hI hK hC hR (fu_g_lame hB) (kc_Con_le (fu_clame (d := 0) hg hI.1 hC hB) (by decide)) (fun h1 w1 r1 _ => kc_Con_le (fu_rlame (d := 0) hg w1 r1 hB) (by decide)) (fu_kI (fu_g_lame hB) (fu_s_lame hB) hI.2.2.2.2.2.1) (fj_kJ (fu_g_lame hB) (fj_s_lame hB) (fu_s_lame hB) hK.1)
theorem fJ_Xload {g : kc_G} {h : kc_H} {a b c e : Int32} (hg : kc_ok g) (hJ : fj_I h) : kc_Con g 30 41 [.inr (.inr (.inl (some 0))), .inl a, .inl b, .inl c, .inl e] h (fun rv h1 => ∃ z : Int32, rv = some (.inl z) ∧ kc_Con g 30 43 [.inr (.inr (.inl (some 259))), .inl a, .inl b, .inl c, .inl e] h1 (fun rv2 h2 => rv2 = some (.inl z) ∧ fj_I h2)) := by
  obtain ⟨hI, hK⟩ := hJ
  obtain ⟨B, hC, hR⟩ := hI.2.1
  have hB := fu_C_T hI.1 hC
  exact fj_both hI hK hC hR (fu_g_load hB) (kc_Con_le (fu_cload (d := 0) hg hI.1 hC hB) (by decide)) (fun h1 w1 r1 _ => kc_Con_le (fu_rload (d := 0) hg w1 r1 hB) (by decide)) (fu_kI (fu_g_load hB) (fu_s_load hB) hI.2.2.2.2.2.1) (fj_kJ (fu_g_load hB) (fj_s_load hB) (fu_s_load hB) hK.1)
theorem fJ_Xask {g : kc_G} {h : kc_H} {a b : Int32} (hg : kc_ok g) (hJ : fj_I h) : kc_Con g 30 44 [.inr (.inr (.inl (some 0))), .inl a, .inl b] h (fun rv h1 => ∃ z : Int32, rv = some (.inl z) ∧ kc_Con g 30 47 [.inr (.inr (.inl (some 259))), .inl a, .inl b] h1 (fun rv2 h2 => rv2 = some (.inl z) ∧ fj_I h2)) := by
  obtain ⟨hI, hK⟩ := hJ
  obtain ⟨B, hC, hR⟩ := hI.2.1
  have hB := fu_C_T hI.1 hC
  exact fj_both hI hK hC hR (fu_g_ask hB) (kc_Con_le (fu_cask (d := 0) hg hI.1 hC hB) (by decide)) (fun h1 w1 r1 _ => kc_Con_le (fu_rask (d := 0) hg w1 r1 hB) (by decide)) (fu_kI (fu_g_ask hB) (fu_s_ask hB) hI.2.2.2.2.2.1) (fj_kJ (fu_g_ask hB) (fj_s_ask hB) (fu_s_ask hB) hK.1)
theorem fJ_Xdrain {g : kc_G} {h : kc_H} {a b : Int32} (hg : kc_ok g) (hJ : fj_I h) : kc_Con g 30 49 [.inr (.inr (.inl (some 0))), .inl a, .inl b] h (fun rv h1 => ∃ z : Int32, rv = some (.inl z) ∧ kc_Con g 30 50 [.inr (.inr (.inl (some 259))), .inl a, .inl b] h1 (fun rv2 h2 => rv2 = some (.inl z) ∧ fj_I h2)) := by
  obtain ⟨hI, hK⟩ := hJ
  obtain ⟨B, hC, hR⟩ := hI.2.1
  have hB := fu_C_T hI.1 hC
  exact fj_both hI hK hC hR (fu_g_drain hB) (kc_Con_le (fu_cdrain (d := 0) hg hI.1 hC hB) (by decide)) (fun h1 w1 r1 _ => kc_Con_le (fu_rdrain (d := 0) hg w1 r1 hB) (by decide)) (fu_kI (fu_g_drain hB) (fu_s_drain hB) hI.2.2.2.2.2.1) (fj_kJ (fu_g_drain hB) (fj_s_drain hB) (fu_s_drain hB) hK.1)
theorem fJ_Xput {g : kc_G} {h : kc_H} {a b : Int32} (hg : kc_ok g) (hJ : fj_I h) : kc_Con g 30 51 [.inr (.inr (.inl (some 0))), .inl a, .inl b] h (fun rv h1 => ∃ z : Int32, rv = some (.inl z) ∧ kc_Con g 30 53 [.inr (.inr (.inl (some 259))), .inl a, .inl b] h1 (fun rv2 h2 => rv2 = some (.inl z) ∧ fj_I h2)) := by
  obtain ⟨hI, hK⟩ := hJ
  obtain ⟨B, hC, hR⟩ := hI.2.1
  have hB := fu_C_T hI.1 hC
  exact fj_both hI hK hC hR (fu_g_put) (kc_Con_le (fu_cput (d := 0) hg hI.1 hC hB) (by decide)) (fun h1 w1 r1 _ => kc_Con_le (fu_rput (d := 0) hg w1 r1 hB) (by decide)) (fu_kI (fu_g_put) (fu_s_put) hI.2.2.2.2.2.1) (fj_kJ (fu_g_put) (fj_s_put) (fu_s_put) hK.1)
theorem fJ_Xclear {g : kc_G} {h : kc_H} {a : Int32} (hg : kc_ok g) (hJ : fj_I h) : kc_Con g 30 58 [.inr (.inr (.inl (some 0))), .inl a] h (fun rv h1 => ∃ z : Int32, rv = some (.inl z) ∧ kc_Con g 30 59 [.inr (.inr (.inl (some 259))), .inl a] h1 (fun rv2 h2 => rv2 = some (.inl z) ∧ fj_I h2)) := by
  obtain ⟨hI, hK⟩ := hJ
  obtain ⟨B, hC, hR⟩ := hI.2.1
  have hB := fu_C_T hI.1 hC
  exact fj_both hI hK hC hR (fu_g_clr) (kc_Con_le (fu_c58 (d := 0) hg hI.1 hC hB) (by decide)) (fun h1 w1 r1 _ => kc_Con_le (fu_rclr (d := 0) hg w1 r1 hB) (by decide)) (fu_kI (fu_g_clr) (fu_s_clr) hI.2.2.2.2.2.1) (fj_kJ (fu_g_clr) (fj_s_clr) (fu_s_clr) hK.1)
theorem fJ_Xunline {g : kc_G} {h : kc_H} (hg : kc_ok g) (hJ : fj_I h) : kc_Con g 30 95 [.inr (.inr (.inl (some 0)))] h (fun rv h1 => ∃ z : Int32, rv = some (.inl z) ∧ kc_Con g 30 96 [.inr (.inr (.inl (some 259)))] h1 (fun rv2 h2 => rv2 = some (.inl z) ∧ fj_I h2)) := by
  obtain ⟨hI, hK⟩ := hJ
  obtain ⟨B, hC, hR⟩ := hI.2.1
  have hB := fu_C_T hI.1 hC
  refine fj_both (S := fu_unl B) hI hK hC hR fu_g_unl (kc_Con_le (fu_c95 (d := 0) hg hI.1 hC hB) (by decide)) (fun h1 w1 r1 _ => kc_Con_le (fu_runl (d := 0) hg w1 r1 hB) (by decide)) ⟨0, fun _ => 0, by decide, ?_, fun i hi => absurd hi (by omega), fun i j _ hj => absurd hj (by omega)⟩ (kJ_0 ?_)
  all_goals show kc_upd (fu_cw 1 (fu_unl B).2 h) 260 3 (.inl (Int32.ofNat 0)) 260 3 = .inl (Int32.ofNat 0)
  all_goals exact fu_eq
theorem fJ_Xline {g : kc_G} {h : kc_H} {a : Int32} (hg : kc_ok g) (hJ : fj_I h) : kc_Con g 30 93 [.inr (.inr (.inl (some 0))), .inl a] h (fun rv h1 => ∃ z : Int32, rv = some (.inl z) ∧ kc_Con g 30 94 [.inr (.inr (.inl (some 259))), .inl a] h1 (fun rv2 h2 => rv2 = some (.inl z) ∧ fj_I h2)) := by
  obtain ⟨hI, hK⟩ := hJ
  obtain ⟨B, hC, hR⟩ := hI.2.1
  have hB := fu_C_T hI.1 hC
  refine fj_both (S := fu_line B a) hI hK hC hR (fu_g_line hB) (kc_Con_le (fu_cline (d := 0) hg hI.1 hC hB) (by decide)) (fun h1 w1 r1 e1 => kc_Con_le (fu_rline (d := 0) hg w1 r1 hB (fun n l dd n5 en hl5 ha d1 d2 hno => ?_)) (by decide)) (fu_kIl hI.2.2.2.2.2.1 hR hB) (fj_line hR hB hK.1)
  obtain ⟨b1, b2⟩ := fu_kI4 (dd := dd) hI.2.2.2.2.2.1 n5 (by rw [hR 3 (by decide) (by decide), en]) hl5 (fun i hi => by rw [← e1]; exact ha i hi) (by omega)
  exact fu_n4 n5 (by omega) hl5 b1 b2 hno
theorem fJ_Xcount {g : kc_G} {h : kc_H} {a : Int32} (hg : kc_ok g) (hJ : fj_I h) : kc_Con g 30 161 [.inr (.inr (.inl (some 0))), .inl a] h (fun rv h1 => ∃ z : Int32, rv = some (.inl z) ∧ kc_Con g 30 163 [.inr (.inr (.inl (some 259))), .inl a] h1 (fun rv2 h2 => rv2 = some (.inl z) ∧ fj_I h2)) := by
  obtain ⟨hI, hK⟩ := hJ
  obtain ⟨B, hC, hR⟩ := hI.2.1
  exact fj_both (S := (fu_cnt B a, [])) hI hK hC hR fu_gd_nil (kc_Con_le (fu_ccnt (d := 0) hg hI.1 hC) (by decide)) (fun h1 w1 r1 _ => kc_Con_le (fu_rcnt (d := 0) hg w1 r1) (by decide)) hI.2.2.2.2.2.1 hK.1
theorem fJ_Xtyp {g : kc_G} {h : kc_H} {x n : Nat} {v : Int64} (hg : kc_ok g) (hJ : fj_I h) (hx : x < 2) (n1 : 1 ≤ n) (n8 : n ≤ 8) : kc_Con g 30 54 [.inr (.inr (.inl (some 0))), .inl (Int32.ofNat x), .inr (.inl v), .inl (Int32.ofNat n)] h (fun rv h1 => ∃ z : Int32, rv = some (.inl z) ∧ kc_Con g 30 56 [.inr (.inr (.inl (some 259))), .inl (Int32.ofNat x), .inr (.inl v), .inl (Int32.ofNat n)] h1 (fun rv2 h2 => rv2 = some (.inl z) ∧ fj_I h2)) := by
  obtain ⟨hI, hK⟩ := hJ
  obtain ⟨B, hC, hR⟩ := hI.2.1
  have hB := fu_C_T hI.1 hC
  obtain ⟨c, c1, ec⟩ := fu_nat (by decide) (fu_fby x hx).2.2 (hB (160 + x) (by omega) (fu_fby x hx).2.1)
  have hc : h 31 x = .inl (Int32.ofNat c) := (fu_Cj (c := 30) hC (by omega) (fu_fby x hx).2.1 (fu_fby x hx).1).trans (by rw [ec])
  refine kc_Con_mono (kc_Con_le (fq_54 (d := 0) (v := v) hg (kx_ofr (hI.1 _ _ _ kv_k0.1)) hx (kx_ofr (hI.1 _ _ _ kr_k1.1)) (kx_ofr (hI.1 _ _ _ kr_k1.2.1)) (kx_ofr (hI.1 _ _ _ (ku_kt.2.1 x hx))) hc n1 n8 c1) (by decide)) (fun rv h1 hq => ?_)
  rcases hq with ⟨q1, rfl, rfl⟩ | ⟨q1, rfl, rfl⟩
  · have hw1 : kd_wt kd_ty (kq_F h (29 + x) 0 31 x c (kq_c v) n n) := ku_Fwt hI.1 n8 q1 (fun i _ => ku_clt v i) (ku_kt.1 x hx) (fun j hj => by rw [Nat.zero_add]; exact ku_kt.2.2 x hx j hj)
    have e1 : ∀ a b, ¬ a = 31 → ¬ a = 29 + x → kq_F h (29 + x) 0 31 x c (kq_c v) n n a b = h a b := fun a b p1 p2 => kq_o (Or.inl p1) (Or.inl p2)
    have hR1 : fu_B B (kq_F h (29 + x) 0 31 x c (kq_c v) n n) := fu_Beq (fun i _ => e1 260 i (by decide) (by omega)) hR
    have hC1 := fu_tyc_C (v := v) hx q1 hC
    generalize hh : kq_F h (29 + x) 0 31 x c (kq_c v) n n = h1 at hw1 e1 hR1 hC1
    refine ⟨_, rfl, kc_Con_mono (kc_Con_le (fq_56 (d := 0) (c := c) (v := v) hg hx (kx_ofr (hw1 _ _ _ kz_k.1)) ((hR1 (160 + x) (by omega) (fu_fby x hx).2.1).trans (by rw [ec])) n1 n8 c1) (by decide)) (fun rv h2 hq => ?_)⟩
    rcases hq with ⟨q2, rfl, rfl⟩ | ⟨q2, -, -⟩
    · have e2 : ∀ a b, ¬ a = 260 → kq_F h1 260 (170 + 240 * x) 260 (160 + x) c (kq_r v) n n a b = h1 a b := fun a b p1 => kq_o (Or.inl p1) (Or.inl p1)
      have e3 : ∀ b, b < 160 → kq_F h1 260 (170 + 240 * x) 260 (160 + x) c (kq_r v) n n 260 b = h 260 b := fun b p1 => (kq_o (Or.inr (by omega)) (Or.inr (Or.inl (by omega)))).trans (e1 260 b (by decide) (by omega))
      refine ⟨rfl, fu_now hI (ku_Fwt hw1 n8 q2 (fun i hi => ku_rlt v hi) (km_k260.1 x hx) (fun j hj => by rw [show 170 + 240 * x + j = 170 + (240 * x + j) from by omega]; exact km_k260.2 _ (by omega))) ⟨fu_tyB B x n c v, fu_Ceq (fun a b a1 a2 => e2 a b (by omega)) hC1, fu_tyc_B n8 hR1⟩ (fun a b a1 a2 => (e2 a b (by omega)).trans (e1 a b (by omega) (by omega))) (fun a b a1 => (e2 a b (by omega)).trans (e1 a b (by omega) (by omega))) (kI_eq (e3 _ (by omega)) (fun i hi => e3 _ (by omega)) hI.2.2.2.2.2.1), fj_now hK (fun i => (e2 261 i (by omega)).trans (e1 261 i (by omega) (by omega))) (kJ_eq (e3 _ (by omega)) (e3 _ (by omega)) (fun i hi => e3 _ (by omega)) hK.1)⟩
    · omega
  · refine ⟨_, rfl, kc_Con_mono (kc_Con_le (fq_56 (d := 0) (c := c) (v := v) hg hx (kx_ofr (hI.1 _ _ _ kz_k.1)) ((hR (160 + x) (by omega) (fu_fby x hx).2.1).trans (by rw [ec])) n1 n8 c1) (by decide)) (fun rv h2 hq => ?_)⟩
    rcases hq with ⟨q2, -, -⟩ | ⟨q2, rfl, rfl⟩
    · omega
    · exact ⟨rfl, hI, hK⟩
theorem fj_pair {g : kc_G} {idc idr dc dr : Nat} {xc xr : List kc_V} {h : kc_H} {z : Int32} (hI : fj_I h) (hdc : dc ≤ 30) (hdr : dr ≤ 30) (c1 : kc_Con g dc idc xc h (fun rv h' => rv = some (.inl z) ∧ h' = h)) (c2 : kc_Con g dr idr xr h (fun rv h' => rv = some (.inl z) ∧ h' = h)) : kc_Con g 30 idc xc h (fun rv h1 => ∃ z : Int32, rv = some (.inl z) ∧ kc_Con g 30 idr xr h1 (fun rv2 h2 => rv2 = some (.inl z) ∧ fj_I h2)) := by
  refine kc_Con_mono (kc_Con_le c1 hdc) (fun rv h1 hq => ?_)
  obtain ⟨rfl, rfl⟩ := hq
  refine ⟨z, rfl, kc_Con_mono (kc_Con_le c2 hdr) (fun rv h2 hq => ?_)⟩
  obtain ⟨rfl, rfl⟩ := hq
  exact ⟨rfl, hI⟩
theorem fJ_Xtype {g : kc_G} {h : kc_H} {a e : Int32} {v : Int64} (hg : kc_ok g) (hJ : fj_I h) : kc_Con g 30 54 [.inr (.inr (.inl (some 0))), .inl a, .inr (.inl v), .inl e] h (fun rv h1 => ∃ z : Int32, rv = some (.inl z) ∧ kc_Con g 30 56 [.inr (.inr (.inl (some 259))), .inl a, .inr (.inl v), .inl e] h1 (fun rv2 h2 => rv2 = some (.inl z) ∧ fj_I h2)) := by
  obtain ⟨hI, hK⟩ := hJ
  have alo := kv_lo a
  have ahi := kv_hi a
  have elo := kv_lo e
  have ehi := kv_hi e
  rcases (show (0 ≤ a.toInt ∧ a.toInt ≤ 1 ∧ 1 ≤ e.toInt ∧ e.toInt ≤ 8) ∨ a.toInt < 0 ∨ 1 < a.toInt ∨ (a.toInt = 0 ∧ e.toInt < 1) ∨ (a.toInt = 0 ∧ 8 < e.toInt) ∨ (a.toInt = 1 ∧ e.toInt < 1) ∨ (a.toInt = 1 ∧ 8 < e.toInt) by omega) with k | k | k | k | k | k | k
  · obtain ⟨x, x1, -, rfl⟩ := ku_nat (u := 1) k.1 (by omega)
    obtain ⟨n, n1, en, rfl⟩ := ku_nat (a := e) (u := 8) (by omega) (by omega)
    exact fJ_Xtyp hg ⟨hI, hK⟩ (by omega) (by omega) n1
  · exact fj_pair ⟨hI, hK⟩ (by decide) (by decide) (fu_no2 (kd_h54tl hg) (by decide +kernel) hI.1 ⟨⟨0, rfl, by decide, by decide⟩, kv_gi (by omega) (by omega), ku_tJ v, kv_gi (by omega) (by omega), trivial⟩ (fun q hq => by cases hq)) (fu_no2 (kd_h56tl hg) (by decide +kernel) hI.1 ⟨⟨259, rfl, by decide, by decide⟩, kv_gi (by omega) (by omega), ku_tJ v, kv_gi (by omega) (by omega), trivial⟩ (fun q hq => by cases hq))
  · exact fj_pair ⟨hI, hK⟩ (by decide) (by decide) (fu_no2 (kd_h54th hg) (by decide +kernel) hI.1 ⟨⟨0, rfl, by decide, by decide⟩, kv_gi (by omega) (by omega), ku_tJ v, kv_gi (by omega) (by omega), trivial⟩ (fun q hq => by cases hq)) (fu_no2 (kd_h56th hg) (by decide +kernel) hI.1 ⟨⟨259, rfl, by decide, by decide⟩, kv_gi (by omega) (by omega), ku_tJ v, kv_gi (by omega) (by omega), trivial⟩ (fun q hq => by cases hq))
  · exact fj_pair ⟨hI, hK⟩ (by decide) (by decide) (fu_no2 (kd_h54nl hg) (by decide +kernel) hI.1 ⟨⟨0, rfl, by decide, by decide⟩, kv_gi (by omega) (by omega), ku_tJ v, kv_gi (by omega) (by omega), trivial⟩ (fun q hq => by cases hq)) (fu_no2 (kd_h56nl hg) (by decide +kernel) hI.1 ⟨⟨259, rfl, by decide, by decide⟩, kv_gi (by omega) (by omega), ku_tJ v, kv_gi (by omega) (by omega), trivial⟩ (fun q hq => by cases hq))
  · exact fj_pair ⟨hI, hK⟩ (by decide) (by decide) (fu_no2 (kd_h54nh hg) (by decide +kernel) hI.1 ⟨⟨0, rfl, by decide, by decide⟩, kv_gi (by omega) (by omega), ku_tJ v, kv_gi (by omega) (by omega), trivial⟩ (fun q hq => by cases hq)) (fu_no2 (kd_h56nh hg) (by decide +kernel) hI.1 ⟨⟨259, rfl, by decide, by decide⟩, kv_gi (by omega) (by omega), ku_tJ v, kv_gi (by omega) (by omega), trivial⟩ (fun q hq => by cases hq))
  · exact fj_pair ⟨hI, hK⟩ (by decide) (by decide) (fu_no2 (kd_h54ml hg) (by decide +kernel) hI.1 ⟨⟨0, rfl, by decide, by decide⟩, kv_gi (by omega) (by omega), ku_tJ v, kv_gi (by omega) (by omega), trivial⟩ (fun q hq => by cases hq)) (fu_no2 (kd_h56ml hg) (by decide +kernel) hI.1 ⟨⟨259, rfl, by decide, by decide⟩, kv_gi (by omega) (by omega), ku_tJ v, kv_gi (by omega) (by omega), trivial⟩ (fun q hq => by cases hq))
  · exact fj_pair ⟨hI, hK⟩ (by decide) (by decide) (fu_no2 (kd_h54mh hg) (by decide +kernel) hI.1 ⟨⟨0, rfl, by decide, by decide⟩, kv_gi (by omega) (by omega), ku_tJ v, kv_gi (by omega) (by omega), trivial⟩ (fun q hq => by cases hq)) (fu_no2 (kd_h56mh hg) (by decide +kernel) hI.1 ⟨⟨259, rfl, by decide, by decide⟩, kv_gi (by omega) (by omega), ku_tJ v, kv_gi (by omega) (by omega), trivial⟩ (fun q hq => by cases hq))
theorem fJ_Ximage0 {g : kc_G} {h : kc_H} (hg : kc_ok g) (hJ : fj_I h) : kc_Con g 30 157 [.inr (.inr (.inl (some 0))), .inl (Int32.ofNat 0)] h (fun rv h1 => ∃ z : Int32, rv = some (.inl z) ∧ kc_Con g 30 158 [.inr (.inr (.inl (some 259))), .inl (Int32.ofNat 0)] h1 (fun rv2 h2 => rv2 = some (.inl z) ∧ fj_I h2)) := by
  obtain ⟨hI, hK⟩ := hJ
  obtain ⟨B, hC, hR⟩ := hI.2.1
  refine kc_Con_mono (kc_Con_le (fs_Ximage0 (d := 0) hg hI.1) (by decide)) (fun rv h1 hq => ?_)
  obtain ⟨rfl, hh1⟩ := hq
  have hw1 : kd_wt kd_ty h1 := by rw [hh1]; exact kz_wtb (ku_k126 0 (by decide)) (kt_K_wt hI.1 kt_ty1_64)
  have key := kz_image (d := 0) (h := h1) (i := 0) hg (by decide) (fun k hk => kz_int_r hw1 (kz_k260 k hk).1)
  rw [kz_wid hw1] at key
  refine ⟨_, rfl, kc_Con_mono (kc_Con_le key (by decide)) (fun rv h2 hq2 => ?_)⟩
  obtain ⟨rfl, hh2⟩ := hq2
  refine ⟨rfl, ?_⟩
  have hw2 : kd_wt kd_ty h2 := by
    rw [hh2]
    exact kz_wtb (kz_k262 0 (by decide)) (kz_cp_wt hw1 (fun j hj => by
      obtain ⟨-, a1, a2, -⟩ := kz_k260 j hj
      rw [Nat.zero_add]
      first | exact a1 | exact a2 | (rw [show 650 * 0 + j = j from by omega]; exact a1)))
  have f1 : ∀ c k, ¬ (64 ≤ c ∧ c < 64 + 31) → ¬ c = 126 → h1 c k = h c k := fun c k q1 q2 => by
    rw [hh1, kj_uo q2]
    unfold kt_K
    rw [if_neg (by omega)]
  have f2 : ∀ c k, ¬ (c = 261 ∧ 0 ≤ k ∧ k < 0 + 650) → ¬ c = 262 → h2 c k = h1 c k := fun c k q1 q2 => by
    rw [hh2, kj_uo q2]
    unfold kz_cp
    rw [if_neg (by omega)]
  have g1 : ∀ k, k < 31 → ∀ m, m < kt_ln k → h2 (64 + k) m = h (1 + k) m := fun k hk m hm => by
    rw [f2 _ _ (by omega) (by omega), hh1, kj_uo (by omega)]
    unfold kt_K
    rw [show 64 + k - 64 = k from by omega, if_pos ⟨by omega, by omega, hm⟩]
  have g2 : ∀ m, m < 650 → h2 261 (0 + m) = h 260 m := fun m hm => by
    rw [hh2, kj_uo (by decide)]
    unfold kz_cp
    rw [if_pos ⟨rfl, by omega, by omega⟩, f1 260 _ (by omega) (by omega), show 0 + (0 + m - 650 * 0) = m from by omega]
  have now : ∀ c k, c < 63 ∨ c = 260 → h2 c k = h c k := fun c k q => by rw [f2 c k (by omega) (by omega), f1 c k (by omega) (by omega)]
  obtain ⟨-, -, b1, b3, b5, hL, b6, b7⟩ := hI
  have C1 : fu_C B 64 h2 := fu_Ck g1 hC
  have R1 : fu_R B 261 0 h2 := fun j hj ht => by rw [g2 j hj]; exact hR j hj ht
  have far : ∀ c k, 95 ≤ c → c < 95 + 31 → h2 c k = h c k := fun c k c1 c2 => by rw [f2 c k (by omega) (by omega), f1 c k (by omega) (by omega)]
  have far2 : ∀ k, 650 ≤ k → k < 650 + 650 → h2 261 k = h 261 k := fun k c1 c2 => by rw [f2 261 k (by omega) (by omega), f1 261 k (by omega) (by omega)]
  have kq : ∀ k, ¬ k = 0 → h2 262 k = h 262 k := fun k q => by
    rw [hh2, fu_ne (by omega)]
    exact (kz_n (by decide)).trans (f1 262 k (by omega) (by omega))
  have mineI : kI h2 261 0 := by
    obtain ⟨n, l, a1, a2, a3, a4⟩ := hL
    refine ⟨n, l, a1, ?_, fun k hk => ⟨(a3 k hk).1, (a3 k hk).2.1, ?_⟩, a4⟩
    · rw [g2 3 (by decide)]; rw [Nat.zero_add] at a2; exact a2
    · rw [show 0 + 150 + k = 0 + (150 + k) from by omega, g2 (150 + k) (by omega)]
      have := (a3 k hk).2.2
      rw [Nat.zero_add] at this
      exact this
  have kp : ∀ k, k < 2 → h2 126 k = h2 262 k := fun k hk => by
    have w1 : ∀ k, ¬ k = 0 → h1 126 k = h 126 k := fun k q => by
      rw [hh1, fu_ne (by omega)]
      unfold kt_K
      rw [if_neg (by omega)]
    have w2 : ∀ k, ¬ k = 0 → h2 262 k = h1 262 k := fun k q => by
      rw [hh2, fu_ne (by omega)]
      exact kz_n (by decide)
    rw [f2 126 k (by omega) (by omega)]
    by_cases e : k = 0
    · subst e
      rw [hh1, hh2]
      exact fu_eq.trans fu_eq.symm
    · rw [w1 k e, w2 k e, f1 262 k (by omega) (by omega)]
      exact b5 k hk
  have mineJ : kJ h2 261 0 := kJ_eq (r := 260) (f := 0) (by rw [g2 0 (by decide)]) (by rw [g2 3 (by decide)]) (fun k hk => (congrArg (h2 261) (show 0 + 150 + k = 0 + (150 + k) from by omega)).trans ((g2 (150 + k) (by omega)).trans (congrArg (h 260) (show 150 + k = 0 + 150 + k from by omega)))) hK.1
  exact ⟨⟨hw2, ⟨B, fu_Ceq (fun c i c1 c2 => now c i (by omega)) hC, fu_Beq (fun i _ => now 260 i (by omega)) hR⟩, Or.inr ⟨B, C1, R1⟩, fu_Meq (kq 1 (by decide)) far far2 b3, kp, kI_eq (now _ _ (by omega)) (fun k _ => now _ _ (by omega)) hL, mineI, kI_eq (far2 _ (by omega) (by omega)) (fun k hk => far2 _ (by omega) (by omega)) b7⟩, kJ_eq (now _ _ (by omega)) (now _ _ (by omega)) (fun k _ => now _ _ (by omega)) hK.1, mineJ, kJ_eq (far2 _ (by omega) (by omega)) (far2 _ (by omega) (by omega)) (fun k hk => far2 _ (by omega) (by omega)) hK.2.2⟩
theorem fJ_Xfrom0 {g : kc_G} {h : kc_H} (hg : kc_ok g) (hJ : fj_I h) : kc_Con g 30 159 [.inr (.inr (.inl (some 0))), .inl (Int32.ofNat 0)] h (fun rv h1 => ∃ z : Int32, rv = some (.inl z) ∧ kc_Con g 30 160 [.inr (.inr (.inl (some 259))), .inl (Int32.ofNat 0)] h1 (fun rv2 h2 => rv2 = some (.inl z) ∧ fj_I h2)) := by
  obtain ⟨hI, hK⟩ := hJ
  obtain ⟨bo, eb⟩ := ku_kb hI.1 (i := 0) (by decide)
  obtain ⟨-, -, b1, b3, b5, hL, b6, b7⟩ := id hI
  refine kc_Con_mono (kc_Con_le (fs_Xfrom0 (d := 0) hg hI.1 eb) (by decide)) (fun rv h1 hq => ?_)
  obtain ⟨rfl, hq⟩ := hq
  have hw1 : kd_wt kd_ty h1 := by
    rcases hq with ⟨-, rfl⟩ | ⟨-, rfl⟩
    · exact kt_K_wt hI.1 kt_ty64_1
    · exact hI.1
  have f1 : ∀ c k, ¬ (1 ≤ c ∧ c < 32) → h1 c k = h c k := fun c k q1 => by
    rcases hq with ⟨-, rfl⟩ | ⟨-, rfl⟩
    · unfold kt_K
      rw [if_neg (by omega)]
    · rfl
  have eb1 : h1 262 0 = .inl (kp_b bo) := by
    rw [f1 262 0 (by omega), ← b5 0 (by decide)]
    exact eb
  have hty : ∀ j, j < 650 → kd_rn (kd_ty 261) (650 * 0 + j) = kd_rn (kd_ty 260) j := fun j hj => by
    obtain ⟨-, a1, a2, -⟩ := kz_k260 j hj
    first | exact a2 | (rw [show 650 * 0 + j = j from by omega]; exact a1)
  have key := kz_from (d := 0) (h := h1) (i := 0) (b := bo) hg (by decide) eb1 (fun k hk => kz_int_r hw1 (by rw [hty k hk]; exact (kz_k260 k hk).1))
  rw [kz_wid hw1] at key
  refine ⟨_, rfl, kc_Con_mono (kc_Con_le key (by decide)) (fun rv h2 hq2 => ?_)⟩
  rcases hq with ⟨eb0, hh1⟩ | ⟨eb0, rfl⟩
  · rcases hq2 with ⟨-, rfl, hh2⟩ | ⟨eb2, -, -⟩
    · refine ⟨by rw [eb0]; rfl, ?_⟩
      obtain ⟨B1, c1, c2⟩ : ∃ B, fu_C B 64 h ∧ fu_R B 261 0 h := by
        rcases b1 with q | q
        · rw [← b5 0 (by decide), eb, eb0] at q
          exact absurd q (by decide)
        · exact q
      have hw2 : kd_wt kd_ty h2 := by
        rw [hh2]
        exact kz_cp_wt hw1 (fun j hj => by rw [hty j hj, Nat.zero_add])
      have f2 : ∀ c k, ¬ (c = 260 ∧ k < 650) → h2 c k = h1 c k := fun c k q1 => by
        rw [hh2]
        unfold kz_cp
        rw [if_neg (by omega)]
      have g1 : ∀ k, k < 31 → ∀ m, m < kt_ln k → h2 (1 + k) m = h (64 + k) m := fun k hk m hm => by
        rw [f2 _ _ (by omega), hh1]
        unfold kt_K
        rw [show 1 + k - 1 = k from by omega, if_pos ⟨by omega, by omega, hm⟩]
      have g2 : ∀ m, m < 650 → h2 260 m = h 261 (0 + m) := fun m hm => by
        rw [hh2]
        unfold kz_cp
        rw [if_pos ⟨rfl, by omega, by omega⟩, f1 261 _ (by omega), show 650 * 0 + (m - 0) = 0 + m from by omega]
      refine ⟨fu_now hI hw2 ⟨B1, fu_Ck g1 c1, fun j hj ht => by rw [g2 j hj]; exact c2 j hj ht⟩ (fun c k q1 q2 => by rw [f2 c k (by omega), f1 c k (by omega)]) (fun c k q => by rw [f2 c k (by omega), f1 c k (by omega)]) ?_, fj_now hK (fun i => by rw [f2 261 i (by omega), f1 261 i (by omega)]) (kJ_eq (r := 261) (f := 0) (g2 (0 + 0) (by decide)) (g2 (0 + 3) (by decide)) (fun k hk => by rw [g2 (0 + 150 + k) (by omega), show 0 + (0 + 150 + k) = 0 + 150 + k from by omega]) hK.2.1)⟩
      obtain ⟨n, l, a1, a2, a3, a4⟩ := b6
      refine ⟨n, l, a1, ?_, fun k hk => ⟨(a3 k hk).1, (a3 k hk).2.1, ?_⟩, a4⟩
      · rw [g2 (0 + 3) (by decide)]; exact a2
      · rw [g2 (0 + 150 + k) (by omega), show 0 + (0 + 150 + k) = 0 + 150 + k from by omega]
        exact (a3 k hk).2.2
    · rw [eb0] at eb2
      cases eb2
  · rcases hq2 with ⟨eb2, -, -⟩ | ⟨-, rfl, rfl⟩
    · rw [eb0] at eb2
      cases eb2
    · exact ⟨by rw [eb0]; rfl, hI, hK⟩
theorem fJ_Ximage1 {g : kc_G} {h : kc_H} (hg : kc_ok g) (hJ : fj_I h) : kc_Con g 30 157 [.inr (.inr (.inl (some 0))), .inl (Int32.ofNat 1)] h (fun rv h1 => ∃ z : Int32, rv = some (.inl z) ∧ kc_Con g 30 158 [.inr (.inr (.inl (some 259))), .inl (Int32.ofNat 1)] h1 (fun rv2 h2 => rv2 = some (.inl z) ∧ fj_I h2)) := by
  obtain ⟨hI, hK⟩ := hJ
  obtain ⟨B, hC, hR⟩ := hI.2.1
  refine kc_Con_mono (kc_Con_le (fs_Ximage1 (d := 0) hg hI.1) (by decide)) (fun rv h1 hq => ?_)
  obtain ⟨rfl, hh1⟩ := hq
  have hw1 : kd_wt kd_ty h1 := by rw [hh1]; exact kz_wtb (ku_k126 1 (by decide)) (kt_K_wt hI.1 kt_ty1_95)
  have key := kz_image (d := 0) (h := h1) (i := 1) hg (by decide) (fun k hk => kz_int_r hw1 (kz_k260 k hk).1)
  rw [kz_wid hw1] at key
  refine ⟨_, rfl, kc_Con_mono (kc_Con_le key (by decide)) (fun rv h2 hq2 => ?_)⟩
  obtain ⟨rfl, hh2⟩ := hq2
  refine ⟨rfl, ?_⟩
  have hw2 : kd_wt kd_ty h2 := by
    rw [hh2]
    exact kz_wtb (kz_k262 1 (by decide)) (kz_cp_wt hw1 (fun j hj => by
      obtain ⟨-, a1, a2, -⟩ := kz_k260 j hj
      rw [Nat.zero_add]
      first | exact a1 | exact a2 | (rw [show 650 * 0 + j = j from by omega]; exact a1)))
  have f1 : ∀ c k, ¬ (95 ≤ c ∧ c < 95 + 31) → ¬ c = 126 → h1 c k = h c k := fun c k q1 q2 => by
    rw [hh1, kj_uo q2]
    unfold kt_K
    rw [if_neg (by omega)]
  have f2 : ∀ c k, ¬ (c = 261 ∧ 650 ≤ k ∧ k < 650 + 650) → ¬ c = 262 → h2 c k = h1 c k := fun c k q1 q2 => by
    rw [hh2, kj_uo q2]
    unfold kz_cp
    rw [if_neg (by omega)]
  have g1 : ∀ k, k < 31 → ∀ m, m < kt_ln k → h2 (95 + k) m = h (1 + k) m := fun k hk m hm => by
    rw [f2 _ _ (by omega) (by omega), hh1, kj_uo (by omega)]
    unfold kt_K
    rw [show 95 + k - 95 = k from by omega, if_pos ⟨by omega, by omega, hm⟩]
  have g2 : ∀ m, m < 650 → h2 261 (650 + m) = h 260 m := fun m hm => by
    rw [hh2, kj_uo (by decide)]
    unfold kz_cp
    rw [if_pos ⟨rfl, by omega, by omega⟩, f1 260 _ (by omega) (by omega), show 0 + (650 + m - 650 * 1) = m from by omega]
  have now : ∀ c k, c < 63 ∨ c = 260 → h2 c k = h c k := fun c k q => by rw [f2 c k (by omega) (by omega), f1 c k (by omega) (by omega)]
  obtain ⟨-, -, b1, b3, b5, hL, b6, b7⟩ := hI
  have C1 : fu_C B 95 h2 := fu_Ck g1 hC
  have R1 : fu_R B 261 650 h2 := fun j hj ht => by rw [g2 j hj]; exact hR j hj ht
  have far : ∀ c k, 64 ≤ c → c < 64 + 31 → h2 c k = h c k := fun c k c1 c2 => by rw [f2 c k (by omega) (by omega), f1 c k (by omega) (by omega)]
  have far2 : ∀ k, 0 ≤ k → k < 0 + 650 → h2 261 k = h 261 k := fun k c1 c2 => by rw [f2 261 k (by omega) (by omega), f1 261 k (by omega) (by omega)]
  have kq : ∀ k, ¬ k = 1 → h2 262 k = h 262 k := fun k q => by
    rw [hh2, fu_ne (by omega)]
    exact (kz_n (by decide)).trans (f1 262 k (by omega) (by omega))
  have mineI : kI h2 261 650 := by
    obtain ⟨n, l, a1, a2, a3, a4⟩ := hL
    refine ⟨n, l, a1, ?_, fun k hk => ⟨(a3 k hk).1, (a3 k hk).2.1, ?_⟩, a4⟩
    · rw [g2 3 (by decide)]; rw [Nat.zero_add] at a2; exact a2
    · rw [show 650 + 150 + k = 650 + (150 + k) from by omega, g2 (150 + k) (by omega)]
      have := (a3 k hk).2.2
      rw [Nat.zero_add] at this
      exact this
  have kp : ∀ k, k < 2 → h2 126 k = h2 262 k := fun k hk => by
    have w1 : ∀ k, ¬ k = 1 → h1 126 k = h 126 k := fun k q => by
      rw [hh1, fu_ne (by omega)]
      unfold kt_K
      rw [if_neg (by omega)]
    have w2 : ∀ k, ¬ k = 1 → h2 262 k = h1 262 k := fun k q => by
      rw [hh2, fu_ne (by omega)]
      exact kz_n (by decide)
    rw [f2 126 k (by omega) (by omega)]
    by_cases e : k = 1
    · subst e
      rw [hh1, hh2]
      exact fu_eq.trans fu_eq.symm
    · rw [w1 k e, w2 k e, f1 262 k (by omega) (by omega)]
      exact b5 k hk
  have mineJ : kJ h2 261 650 := kJ_eq (r := 260) (f := 0) (by rw [g2 0 (by decide)]) (by rw [g2 3 (by decide)]) (fun k hk => (congrArg (h2 261) (show 650 + 150 + k = 650 + (150 + k) from by omega)).trans ((g2 (150 + k) (by omega)).trans (congrArg (h 260) (show 150 + k = 0 + 150 + k from by omega)))) hK.1
  exact ⟨⟨hw2, ⟨B, fu_Ceq (fun c i c1 c2 => now c i (by omega)) hC, fu_Beq (fun i _ => now 260 i (by omega)) hR⟩, fu_Meq (kq 0 (by decide)) far far2 b1, Or.inr ⟨B, C1, R1⟩, kp, kI_eq (now _ _ (by omega)) (fun k _ => now _ _ (by omega)) hL, kI_eq (far2 _ (by omega) (by omega)) (fun k hk => far2 _ (by omega) (by omega)) b6, mineI⟩, kJ_eq (now _ _ (by omega)) (now _ _ (by omega)) (fun k _ => now _ _ (by omega)) hK.1, kJ_eq (far2 _ (by omega) (by omega)) (far2 _ (by omega) (by omega)) (fun k hk => far2 _ (by omega) (by omega)) hK.2.1, mineJ⟩
theorem fJ_Xfrom1 {g : kc_G} {h : kc_H} (hg : kc_ok g) (hJ : fj_I h) : kc_Con g 30 159 [.inr (.inr (.inl (some 0))), .inl (Int32.ofNat 1)] h (fun rv h1 => ∃ z : Int32, rv = some (.inl z) ∧ kc_Con g 30 160 [.inr (.inr (.inl (some 259))), .inl (Int32.ofNat 1)] h1 (fun rv2 h2 => rv2 = some (.inl z) ∧ fj_I h2)) := by
  obtain ⟨hI, hK⟩ := hJ
  obtain ⟨bo, eb⟩ := ku_kb hI.1 (i := 1) (by decide)
  obtain ⟨-, -, b1, b3, b5, hL, b6, b7⟩ := id hI
  refine kc_Con_mono (kc_Con_le (fs_Xfrom1 (d := 0) hg hI.1 eb) (by decide)) (fun rv h1 hq => ?_)
  obtain ⟨rfl, hq⟩ := hq
  have hw1 : kd_wt kd_ty h1 := by
    rcases hq with ⟨-, rfl⟩ | ⟨-, rfl⟩
    · exact kt_K_wt hI.1 kt_ty95_1
    · exact hI.1
  have f1 : ∀ c k, ¬ (1 ≤ c ∧ c < 32) → h1 c k = h c k := fun c k q1 => by
    rcases hq with ⟨-, rfl⟩ | ⟨-, rfl⟩
    · unfold kt_K
      rw [if_neg (by omega)]
    · rfl
  have eb1 : h1 262 1 = .inl (kp_b bo) := by
    rw [f1 262 1 (by omega), ← b5 1 (by decide)]
    exact eb
  have hty : ∀ j, j < 650 → kd_rn (kd_ty 261) (650 * 1 + j) = kd_rn (kd_ty 260) j := fun j hj => by
    obtain ⟨-, a1, a2, -⟩ := kz_k260 j hj
    first | exact a2 | (rw [show 650 * 0 + j = j from by omega]; exact a1)
  have key := kz_from (d := 0) (h := h1) (i := 1) (b := bo) hg (by decide) eb1 (fun k hk => kz_int_r hw1 (by rw [hty k hk]; exact (kz_k260 k hk).1))
  rw [kz_wid hw1] at key
  refine ⟨_, rfl, kc_Con_mono (kc_Con_le key (by decide)) (fun rv h2 hq2 => ?_)⟩
  rcases hq with ⟨eb0, hh1⟩ | ⟨eb0, rfl⟩
  · rcases hq2 with ⟨-, rfl, hh2⟩ | ⟨eb2, -, -⟩
    · refine ⟨by rw [eb0]; rfl, ?_⟩
      obtain ⟨B1, c1, c2⟩ : ∃ B, fu_C B 95 h ∧ fu_R B 261 650 h := by
        rcases b3 with q | q
        · rw [← b5 1 (by decide), eb, eb0] at q
          exact absurd q (by decide)
        · exact q
      have hw2 : kd_wt kd_ty h2 := by
        rw [hh2]
        exact kz_cp_wt hw1 (fun j hj => by rw [hty j hj, Nat.zero_add])
      have f2 : ∀ c k, ¬ (c = 260 ∧ k < 650) → h2 c k = h1 c k := fun c k q1 => by
        rw [hh2]
        unfold kz_cp
        rw [if_neg (by omega)]
      have g1 : ∀ k, k < 31 → ∀ m, m < kt_ln k → h2 (1 + k) m = h (95 + k) m := fun k hk m hm => by
        rw [f2 _ _ (by omega), hh1]
        unfold kt_K
        rw [show 1 + k - 1 = k from by omega, if_pos ⟨by omega, by omega, hm⟩]
      have g2 : ∀ m, m < 650 → h2 260 m = h 261 (650 + m) := fun m hm => by
        rw [hh2]
        unfold kz_cp
        rw [if_pos ⟨rfl, by omega, by omega⟩, f1 261 _ (by omega), show 650 * 1 + (m - 0) = 650 + m from by omega]
      refine ⟨fu_now hI hw2 ⟨B1, fu_Ck g1 c1, fun j hj ht => by rw [g2 j hj]; exact c2 j hj ht⟩ (fun c k q1 q2 => by rw [f2 c k (by omega), f1 c k (by omega)]) (fun c k q => by rw [f2 c k (by omega), f1 c k (by omega)]) ?_, fj_now hK (fun i => by rw [f2 261 i (by omega), f1 261 i (by omega)]) (kJ_eq (r := 261) (f := 650) (g2 (0 + 0) (by decide)) (g2 (0 + 3) (by decide)) (fun k hk => by rw [g2 (0 + 150 + k) (by omega), show 650 + (0 + 150 + k) = 650 + 150 + k from by omega]) hK.2.2)⟩
      obtain ⟨n, l, a1, a2, a3, a4⟩ := b7
      refine ⟨n, l, a1, ?_, fun k hk => ⟨(a3 k hk).1, (a3 k hk).2.1, ?_⟩, a4⟩
      · rw [g2 (0 + 3) (by decide)]; exact a2
      · rw [g2 (0 + 150 + k) (by omega), show 650 + (0 + 150 + k) = 650 + 150 + k from by omega]
        exact (a3 k hk).2.2
    · rw [eb0] at eb2
      cases eb2
  · rcases hq2 with ⟨eb2, -, -⟩ | ⟨-, rfl, rfl⟩
    · rw [eb0] at eb2
      cases eb2
    · exact ⟨by rw [eb0]; rfl, hI, hK⟩
theorem fJ_Ximage {g : kc_G} {h : kc_H} {a : Int32} (hg : kc_ok g) (hJ : fj_I h) : kc_Con g 30 157 [.inr (.inr (.inl (some 0))), .inl a] h (fun rv h1 => ∃ z : Int32, rv = some (.inl z) ∧ kc_Con g 30 158 [.inr (.inr (.inl (some 259))), .inl a] h1 (fun rv2 h2 => rv2 = some (.inl z) ∧ fj_I h2)) := by
  obtain ⟨hI, hK⟩ := hJ
  have alo := kv_lo a
  have ahi := kv_hi a
  rcases (show (0 ≤ a.toInt ∧ a.toInt ≤ 1) ∨ a.toInt < 0 ∨ 1 < a.toInt by omega) with k | k | k
  · obtain ⟨x, x1, -, rfl⟩ := ku_nat (u := 1) k.1 (by omega)
    rcases (show x = 0 ∨ x = 1 by omega) with rfl | rfl
    · exact fJ_Ximage0 hg ⟨hI, hK⟩
    · exact fJ_Ximage1 hg ⟨hI, hK⟩
  · exact fj_pair ⟨hI, hK⟩ (by decide) (by decide) (fu_no2 (kd_h157tl hg) (by decide +kernel) hI.1 ⟨⟨0, rfl, by decide, by decide⟩, kv_gi (by omega) (by omega), trivial⟩ (fun q hq => by cases hq)) (fu_no2 (kd_h158a hg) (by decide +kernel) hI.1 ⟨⟨259, rfl, by decide, by decide⟩, kv_gi (by omega) (by omega), trivial⟩ (fun q hq => by cases hq))
  · exact fj_pair ⟨hI, hK⟩ (by decide) (by decide) (fu_no2 (kd_h157th hg) (by decide +kernel) hI.1 ⟨⟨0, rfl, by decide, by decide⟩, kv_gi (by omega) (by omega), trivial⟩ (fun q hq => by cases hq)) (fu_no2 (kd_h158b hg) (by decide +kernel) hI.1 ⟨⟨259, rfl, by decide, by decide⟩, kv_gi (by omega) (by omega), trivial⟩ (fun q hq => by cases hq))
theorem fJ_Xfrom {g : kc_G} {h : kc_H} {a : Int32} (hg : kc_ok g) (hJ : fj_I h) : kc_Con g 30 159 [.inr (.inr (.inl (some 0))), .inl a] h (fun rv h1 => ∃ z : Int32, rv = some (.inl z) ∧ kc_Con g 30 160 [.inr (.inr (.inl (some 259))), .inl a] h1 (fun rv2 h2 => rv2 = some (.inl z) ∧ fj_I h2)) := by
  obtain ⟨hI, hK⟩ := hJ
  have alo := kv_lo a
  have ahi := kv_hi a
  rcases (show (0 ≤ a.toInt ∧ a.toInt ≤ 1) ∨ a.toInt < 0 ∨ 1 < a.toInt by omega) with k | k | k
  · obtain ⟨x, x1, -, rfl⟩ := ku_nat (u := 1) k.1 (by omega)
    rcases (show x = 0 ∨ x = 1 by omega) with rfl | rfl
    · exact fJ_Xfrom0 hg ⟨hI, hK⟩
    · exact fJ_Xfrom1 hg ⟨hI, hK⟩
  · exact fj_pair ⟨hI, hK⟩ (by decide) (by decide) (fu_no2 (kd_h159tl hg) (by decide +kernel) hI.1 ⟨⟨0, rfl, by decide, by decide⟩, kv_gi (by omega) (by omega), trivial⟩ (fun q hq => by cases hq)) (fu_no2 (kd_h160a hg) (by decide +kernel) hI.1 ⟨⟨259, rfl, by decide, by decide⟩, kv_gi (by omega) (by omega), trivial⟩ (fun q hq => by cases hq))
  · exact fj_pair ⟨hI, hK⟩ (by decide) (by decide) (fu_no2 (kd_h159th hg) (by decide +kernel) hI.1 ⟨⟨0, rfl, by decide, by decide⟩, kv_gi (by omega) (by omega), trivial⟩ (fun q hq => by cases hq)) (fu_no2 (kd_h160b hg) (by decide +kernel) hI.1 ⟨⟨259, rfl, by decide, by decide⟩, kv_gi (by omega) (by omega), trivial⟩ (fun q hq => by cases hq))
theorem fJ_day {g : kc_G} {h : kc_H} (hg : kc_ok g) (hJ : fj_I h) : kc_Con g 30 67 [.inr (.inr (.inl (some 0)))] h (fun rv h1 => (∃ z : Int32, rv = some (.inl z)) ∧ kc_Con g 30 71 [.inr (.inr (.inl (some 259)))] h1 (fun rv2 h2 => (∃ z : Int32, rv2 = some (.inl z)) ∧ fj_I h2)) := by
  obtain ⟨hI, hK⟩ := hJ
  obtain ⟨B, hC, hR⟩ := hI.2.1
  have hB := fu_C_T hI.1 hC
  obtain ⟨n, n1, en⟩ := fu_nat (by decide) (fu_fby 0 (by decide)).2.2 (hB 160 (by decide) (by decide))
  have ht0 : ∀ j, ∃ v : Nat, j < 240 → v < 256 ∧ B (170 + j) = Int32.ofNat v := fun j => by
    by_cases hj : j < 240
    · obtain ⟨v, v1, v2⟩ := fu_nat (by decide) (fu_ftx 0 (by decide) j hj).2.2 (hB (170 + 240 * 0 + j) (by omega) (fu_ftx 0 (by decide) j hj).2.1)
      rw [show 170 + 240 * 0 + j = 170 + j from by omega] at v2
      exact ⟨v, fun _ => ⟨by omega, v2⟩⟩
    · exact ⟨0, fun q => absurd q hj⟩
  obtain ⟨t, ht⟩ := Classical.axiomOfChoice ht0
  have h29 : ∀ j, j < 240 → h 29 j = .inl (Int32.ofNat (t j)) := fun j hj => by
    have e := fu_Cj (c := 28) (i := j) hC (by omega) (fu_ftx 0 (by decide) j hj).2.1 (fu_ftx 0 (by decide) j hj).1
    rw [show 170 + 240 * 0 + j = 170 + j from by omega, (ht j hj).2] at e
    exact e
  have h31 : h 31 0 = .inl (Int32.ofNat n) := (fu_Cj (c := 30) (j := 160) hC (by decide) (by decide) (by decide)).trans (by rw [en])
  refine kc_Con_mono (kc_Con_le (fu_day67 hg hC hI.1 n1 (fun j hj => (ht j hj).1) h29 h31) (by decide)) (fun rv h1 hq => ?_)
  obtain ⟨B1, p1, C1, w1, f1⟩ := hq
  refine ⟨fu_dPz p1, ?_⟩
  have e260 : ∀ i, h1 260 i = h 260 i := fun i => f1 260 i (by decide) (by decide)
  have R1 : fu_B B h1 := fu_Beq (fun i _ => e260 i) hR
  refine kc_Con_mono (kc_Con_le (fu_day71 hg R1 hB w1 n1 (fun j hj => (ht j hj).1) (fun j hj => by rw [R1 (170 + j) (by omega) (by have := (fu_ftx 0 (by decide) j hj).2.1; rw [show 170 + 240 * 0 + j = 170 + j from by omega] at this; exact this), (ht j hj).2]) (by rw [R1 160 (by decide) (by decide), en])) (by decide)) (fun rv h2 hq => ?_)
  obtain ⟨B2, p2, R2, w2, f2, l2⟩ := hq
  obtain rfl := fu_dPu p1 p2
  refine ⟨fu_dPz p2, fu_now hI w2 ⟨B1, fu_Ceq (fun c i c1 c2 => f2 c i (by omega)) C1, R2⟩ (fun c i a b => (f2 c i (by omega)).trans (f1 c i (by omega) (by omega))) (fun c i a => (f2 c i (by omega)).trans (f1 c i (by omega) (by omega))) ?_, fj_now hK (fun i => (f2 261 i (by omega)).trans (f1 261 i (by omega) (by omega))) ?_⟩
  · rcases fu_dP3 n1 hB p2 with e | e
    · refine kI_eq ?_ (fun i hi => ?_) hI.2.2.2.2.2.1
      · rw [R2 (0 + 3) (by decide) (by decide), hR (0 + 3) (by decide) (by decide), e]
      · rw [Nat.zero_add, l2 e i hi, e260]
    · exact ⟨0, fun _ => 0, by decide, by rw [R2 (0 + 3) (by decide) (by decide)]; exact congrArg Sum.inl e, fun i hi => absurd hi (by omega), fun i j _ hj => absurd hj (by omega)⟩
  · rcases fu_dP3 n1 hB p2 with e | e
    · refine kJ_eq ?_ ?_ (fun i hi => ?_) hK.1
      · rw [R2 (0 + 0) (by decide) (by decide), hR (0 + 0) (by decide) (by decide), e]
      · rw [R2 (0 + 3) (by decide) (by decide), hR (0 + 3) (by decide) (by decide), e]
      · rw [Nat.zero_add, l2 e i hi, e260]
    · exact kJ_0 (by rw [R2 (0 + 3) (by decide) (by decide)]; exact congrArg Sum.inl e)
theorem fj_fr {W : kd_W} {h h' : kc_H} (hd : fu_dis W = true) (hfr : kd_fr W h h') (hK : fj_K h) : fj_K h' := by
  have r : ∀ {c i : Nat}, fu_at c i = true → h' c i = h c i := fun ha => fu_at_r hd hfr ha
  have kl : ∀ i, i < 5 → fu_at 260 (0 + 150 + i) = true ∧ fu_at 261 (0 + 150 + i) = true ∧ fu_at 261 (650 + 150 + i) = true := by decide +kernel
  exact ⟨kJ_eq (r (by decide +kernel)) (r (by decide +kernel)) (fun i hi => r (kl i hi).1) hK.1, kJ_eq (r (by decide +kernel)) (r (by decide +kernel)) (fun i hi => r (kl i hi).2.1) hK.2.1, kJ_eq (r (by decide +kernel)) (r (by decide +kernel)) (fun i hi => r (kl i hi).2.2) hK.2.2⟩
def fJ_Qi : Option kc_V → kc_H → Prop := fun rv h' => (∃ z : Int32, rv = some (.inl z)) ∧ fj_I h'
def fJ_Qj : Option kc_V → kc_H → Prop := fun rv h' => (∃ z : Int64, rv = some (.inr (.inl z))) ∧ fj_I h'
theorem fJ_ii {g : kc_G} {d id : Nat} {T : kd_Tc} (hh : kd_hold g d kd_ty id T) (hc : T.2.2.all fU_i = true) {xs : List kc_V} {h : kc_H} (hI : fj_I h) (hv : wk_f2 (kd_g 0 (fun _ => 0)) T.1 xs) (hF : kd_gF 0 (fun _ => 0) T.2.1 h) : kc_Con g d id xs h fJ_Qi := by
  refine kc_Con_mono (hh xs h hI.1.1 hv hF) (fun rv h' hq => ?_)
  obtain ⟨p, p1, p2, -, p4, p5⟩ := hq
  have hp := List.all_eq_true.mp hc p p1
  unfold fU_i at hp
  rw [Bool.and_eq_true] at hp
  refine ⟨?_, ⟨fu_fr hp.2 p5 p4 hI.1, fj_fr hp.2 p5 hI.2⟩⟩
  obtain ⟨r, F, V⟩ := p
  match r, rv, hp.1, p2 with
  | some (0, a, b), some y, _, p2 => obtain ⟨z, rfl, -, -⟩ := p2; exact ⟨z, rfl⟩
  | some (0, _, _), none, _, p2 => exact p2.elim
  | some (_ + 1, _, _), _, q, _ => cases q
  | none, _, q, _ => cases q
theorem fJ_jj {g : kc_G} {d id : Nat} {T : kd_Tc} (hh : kd_hold g d kd_ty id T) (hc : T.2.2.all fU_j = true) {xs : List kc_V} {h : kc_H} (hI : fj_I h) (hv : wk_f2 (kd_g 0 (fun _ => 0)) T.1 xs) (hF : kd_gF 0 (fun _ => 0) T.2.1 h) : kc_Con g d id xs h fJ_Qj := by
  refine kc_Con_mono (hh xs h hI.1.1 hv hF) (fun rv h' hq => ?_)
  obtain ⟨p, p1, p2, -, p4, p5⟩ := hq
  have hp := List.all_eq_true.mp hc p p1
  unfold fU_j at hp
  rw [Bool.and_eq_true] at hp
  refine ⟨?_, ⟨fu_fr hp.2 p5 p4 hI.1, fj_fr hp.2 p5 hI.2⟩⟩
  obtain ⟨r, F, V⟩ := p
  match r, rv, hp.1, p2 with
  | some (2, a, b), some y, _, p2 => obtain ⟨z, rfl, -, -⟩ := p2; exact ⟨z, rfl⟩
  | some (2, _, _), none, _, p2 => exact p2.elim
  | some (0, _, _), _, q, _ => cases q
  | some (1, _, _), _, q, _ => cases q
  | some (_ + 3, _, _), _, q, _ => cases q
  | none, _, q, _ => cases q
theorem fJ_cfault {g : kc_G} {h : kc_H} {a : Int32} (hg : kc_ok g) (hI : fj_I h) : kc_Con g 30 60 [.inr (.inr (.inl (some 0))), .inl a] h fJ_Qi := kc_Con_le (fJ_ii (kd_h60 hg) (by decide +kernel) hI ⟨⟨0, rfl, by decide, by decide⟩, kO_a a, trivial⟩ (fun q hq => by cases hq)) (by decide)
theorem fJ_rfault {g : kc_G} {h : kc_H} {a : Int32} (hg : kc_ok g) (hI : fj_I h) : kc_Con g 30 63 [.inr (.inr (.inl (some 259))), .inl a] h fJ_Qi := kc_Con_le (fJ_ii (kd_h63 hg) (by decide +kernel) hI ⟨⟨259, rfl, by decide, by decide⟩, kO_a a, trivial⟩ (fun q hq => by cases hq)) (by decide)
theorem fJ_crun {g : kc_G} {h : kc_H} {a : Int32} (hg : kc_ok g) (hI : fj_I h) : kc_Con g 30 72 [.inr (.inr (.inl (some 0))), .inl a] h fJ_Qi := kc_Con_le (fJ_ii (kd_h72 hg) (by decide +kernel) hI ⟨⟨0, rfl, by decide, by decide⟩, kO_a a, trivial⟩ (fun q hq => by cases hq)) (by decide)
theorem fJ_rrun {g : kc_G} {h : kc_H} {a : Int32} (hg : kc_ok g) (hI : fj_I h) : kc_Con g 30 77 [.inr (.inr (.inl (some 259))), .inl a] h fJ_Qi := kc_Con_le (fJ_ii (kd_h77 hg) (by decide +kernel) hI ⟨⟨259, rfl, by decide, by decide⟩, kO_a a, trivial⟩ (fun q hq => by cases hq)) (by decide)
theorem fJ_cside {g : kc_G} {h : kc_H} {a b c : Int32} (hg : kc_ok g) (hI : fj_I h) : kc_Con g 30 80 [.inr (.inr (.inl (some 0))), .inl a, .inl b, .inl c] h fJ_Qi := kc_Con_le (fJ_ii (kd_h80 hg) (by decide +kernel) hI ⟨⟨0, rfl, by decide, by decide⟩, kO_a a, kO_a b, kO_a c, trivial⟩ (fun q hq => by cases hq)) (by decide)
theorem fJ_rside {g : kc_G} {h : kc_H} {a b c : Int32} (hg : kc_ok g) (hI : fj_I h) : kc_Con g 30 81 [.inr (.inr (.inl (some 259))), .inl a, .inl b, .inl c] h fJ_Qi := kc_Con_le (fJ_ii (kd_h81 hg) (by decide +kernel) hI ⟨⟨259, rfl, by decide, by decide⟩, kO_a a, kO_a b, kO_a c, trivial⟩ (fun q hq => by cases hq)) (by decide)
theorem fJ_cwhere {g : kc_G} {h : kc_H} {a : Int32} (hg : kc_ok g) (hI : fj_I h) : kc_Con g 30 83 [.inr (.inr (.inl (some 0))), .inl a] h fJ_Qi := kc_Con_le (fJ_ii (kd_h83 hg) (by decide +kernel) hI ⟨⟨0, rfl, by decide, by decide⟩, kO_a a, trivial⟩ (fun q hq => by cases hq)) (by decide)
theorem fJ_rwhere {g : kc_G} {h : kc_H} {a : Int32} (hg : kc_ok g) (hI : fj_I h) : kc_Con g 30 84 [.inr (.inr (.inl (some 259))), .inl a] h fJ_Qi := kc_Con_le (fJ_ii (kd_h84 hg) (by decide +kernel) hI ⟨⟨259, rfl, by decide, by decide⟩, kO_a a, trivial⟩ (fun q hq => by cases hq)) (by decide)
theorem fJ_chalves {g : kc_G} {h : kc_H} {a b : Int32} (hg : kc_ok g) (hI : fj_I h) : kc_Con g 30 85 [.inr (.inr (.inl (some 0))), .inl a, .inl b] h fJ_Qi := kc_Con_le (fJ_ii (kd_h85 hg) (by decide +kernel) hI ⟨⟨0, rfl, by decide, by decide⟩, kO_a a, kO_a b, trivial⟩ (fun q hq => by cases hq)) (by decide)
theorem fJ_rhalves {g : kc_G} {h : kc_H} {a b : Int32} (hg : kc_ok g) (hI : fj_I h) : kc_Con g 30 87 [.inr (.inr (.inl (some 259))), .inl a, .inl b] h fJ_Qi := kc_Con_le (fJ_ii (kd_h87 hg) (by decide +kernel) hI ⟨⟨259, rfl, by decide, by decide⟩, kO_a a, kO_a b, trivial⟩ (fun q hq => by cases hq)) (by decide)
theorem fJ_cwithin {g : kc_G} {h : kc_H} {a b : Int32} (hg : kc_ok g) (hI : fj_I h) : kc_Con g 30 89 [.inr (.inr (.inl (some 0))), .inl a, .inl b] h fJ_Qi := kc_Con_le (fJ_ii (kd_h89 hg) (by decide +kernel) hI ⟨⟨0, rfl, by decide, by decide⟩, kO_a a, kO_a b, trivial⟩ (fun q hq => by cases hq)) (by decide)
theorem fJ_rwithin {g : kc_G} {h : kc_H} {a b : Int32} (hg : kc_ok g) (hI : fj_I h) : kc_Con g 30 90 [.inr (.inr (.inl (some 259))), .inl a, .inl b] h fJ_Qi := kc_Con_le (fJ_ii (kd_h90 hg) (by decide +kernel) hI ⟨⟨259, rfl, by decide, by decide⟩, kO_a a, kO_a b, trivial⟩ (fun q hq => by cases hq)) (by decide)
theorem fJ_chang {g : kc_G} {h : kc_H} {a b c : Int32} (hg : kc_ok g) (hI : fj_I h) : kc_Con g 30 91 [.inr (.inr (.inl (some 0))), .inl a, .inl b, .inl c] h fJ_Qi := kc_Con_le (fJ_ii (kd_h91 hg) (by decide +kernel) hI ⟨⟨0, rfl, by decide, by decide⟩, kO_a a, kO_a b, kO_a c, trivial⟩ (fun q hq => by cases hq)) (by decide)
theorem fJ_rhang {g : kc_G} {h : kc_H} {a b c : Int32} (hg : kc_ok g) (hI : fj_I h) : kc_Con g 30 92 [.inr (.inr (.inl (some 259))), .inl a, .inl b, .inl c] h fJ_Qi := kc_Con_le (fJ_ii (kd_h92 hg) (by decide +kernel) hI ⟨⟨259, rfl, by decide, by decide⟩, kO_a a, kO_a b, kO_a c, trivial⟩ (fun q hq => by cases hq)) (by decide)
theorem fJ_cborne {g : kc_G} {h : kc_H} (hg : kc_ok g) (hI : fj_I h) : kc_Con g 30 97 [.inr (.inr (.inl (some 0)))] h fJ_Qi := kc_Con_le (fJ_ii (kd_h97 hg) (by decide +kernel) hI ⟨⟨0, rfl, by decide, by decide⟩, trivial⟩ (fun q hq => by cases hq)) (by decide)
theorem fJ_rborne {g : kc_G} {h : kc_H} (hg : kc_ok g) (hI : fj_I h) : kc_Con g 30 103 [.inr (.inr (.inl (some 259)))] h fJ_Qi := kc_Con_le (fJ_ii (kd_h103 hg) (by decide +kernel) hI ⟨⟨259, rfl, by decide, by decide⟩, trivial⟩ (fun q hq => by cases hq)) (by decide)
theorem fJ_cworst {g : kc_G} {h : kc_H} (hg : kc_ok g) (hI : fj_I h) : kc_Con g 30 107 [.inr (.inr (.inl (some 0)))] h fJ_Qi := kc_Con_le (fJ_ii (kd_h107 hg) (by decide +kernel) hI ⟨⟨0, rfl, by decide, by decide⟩, trivial⟩ (fun q hq => by cases hq)) (by decide)
theorem fJ_rworst {g : kc_G} {h : kc_H} (hg : kc_ok g) (hI : fj_I h) : kc_Con g 30 109 [.inr (.inr (.inl (some 259)))] h fJ_Qi := kc_Con_le (fJ_ii (kd_h109 hg) (by decide +kernel) hI ⟨⟨259, rfl, by decide, by decide⟩, trivial⟩ (fun q hq => by cases hq)) (by decide)
theorem fJ_clonger {g : kc_G} {h : kc_H} (hg : kc_ok g) (hI : fj_I h) : kc_Con g 30 111 [.inr (.inr (.inl (some 0)))] h fJ_Qi := kc_Con_le (fJ_ii (kd_h111 hg) (by decide +kernel) hI ⟨⟨0, rfl, by decide, by decide⟩, trivial⟩ (fun q hq => by cases hq)) (by decide)
theorem fJ_rlonger {g : kc_G} {h : kc_H} (hg : kc_ok g) (hI : fj_I h) : kc_Con g 30 113 [.inr (.inr (.inl (some 259)))] h fJ_Qi := kc_Con_le (fJ_ii (kd_h113 hg) (by decide +kernel) hI ⟨⟨259, rfl, by decide, by decide⟩, trivial⟩ (fun q hq => by cases hq)) (by decide)
theorem fJ_cstays {g : kc_G} {h : kc_H} {a : Int32} (hg : kc_ok g) (hI : fj_I h) : kc_Con g 30 114 [.inr (.inr (.inl (some 0))), .inl a] h fJ_Qi := kc_Con_le (fJ_ii (kd_h114 hg) (by decide +kernel) hI ⟨⟨0, rfl, by decide, by decide⟩, kO_a a, trivial⟩ (fun q hq => by cases hq)) (by decide)
theorem fJ_rstays {g : kc_G} {h : kc_H} {a : Int32} (hg : kc_ok g) (hI : fj_I h) : kc_Con g 30 120 [.inr (.inr (.inl (some 259))), .inl a] h fJ_Qi := kc_Con_le (fJ_ii (kd_h120 hg) (by decide +kernel) hI ⟨⟨259, rfl, by decide, by decide⟩, kO_a a, trivial⟩ (fun q hq => by cases hq)) (by decide)
theorem fJ_cbest {g : kc_G} {h : kc_H} {a : Int32} (hg : kc_ok g) (hI : fj_I h) : kc_Con g 30 125 [.inr (.inr (.inl (some 0))), .inl a] h fJ_Qi := kc_Con_le (fJ_ii (kd_h125 hg) (by decide +kernel) hI ⟨⟨0, rfl, by decide, by decide⟩, kO_a a, trivial⟩ (fun q hq => by cases hq)) (by decide)
theorem fJ_rbest {g : kc_G} {h : kc_H} {a : Int32} (hg : kc_ok g) (hI : fj_I h) : kc_Con g 30 129 [.inr (.inr (.inl (some 259))), .inl a] h fJ_Qi := kc_Con_le (fJ_ii (kd_h129 hg) (by decide +kernel) hI ⟨⟨259, rfl, by decide, by decide⟩, kO_a a, trivial⟩ (fun q hq => by cases hq)) (by decide)
theorem fJ_cliftings {g : kc_G} {h : kc_H} (hg : kc_ok g) (hI : fj_I h) : kc_Con g 30 134 [.inr (.inr (.inl (some 0)))] h fJ_Qi := kc_Con_le (fJ_ii (kd_h134 hg) (by decide +kernel) hI ⟨⟨0, rfl, by decide, by decide⟩, trivial⟩ (fun q hq => by cases hq)) (by decide)
theorem fJ_rliftings {g : kc_G} {h : kc_H} (hg : kc_ok g) (hI : fj_I h) : kc_Con g 30 136 [.inr (.inr (.inl (some 259)))] h fJ_Qi := kc_Con_le (fJ_ii (kd_h136 hg) (by decide +kernel) hI ⟨⟨259, rfl, by decide, by decide⟩, trivial⟩ (fun q hq => by cases hq)) (by decide)
theorem fJ_cfewest {g : kc_G} {h : kc_H} (hg : kc_ok g) (hI : fj_I h) : kc_Con g 30 137 [.inr (.inr (.inl (some 0)))] h fJ_Qi := kc_Con_le (fJ_ii (kd_h137 hg) (by decide +kernel) hI ⟨⟨0, rfl, by decide, by decide⟩, trivial⟩ (fun q hq => by cases hq)) (by decide)
theorem fJ_rfewest {g : kc_G} {h : kc_H} (hg : kc_ok g) (hI : fj_I h) : kc_Con g 30 138 [.inr (.inr (.inl (some 259)))] h fJ_Qi := kc_Con_le (fJ_ii (kd_h138 hg) (by decide +kernel) hI ⟨⟨259, rfl, by decide, by decide⟩, trivial⟩ (fun q hq => by cases hq)) (by decide)
theorem fJ_cchance {g : kc_G} {h : kc_H} (hg : kc_ok g) (hI : fj_I h) : kc_Con g 30 139 [.inr (.inr (.inl (some 0)))] h fJ_Qi := kc_Con_le (fJ_ii (kd_h139 hg) (by decide +kernel) hI ⟨⟨0, rfl, by decide, by decide⟩, trivial⟩ (fun q hq => by cases hq)) (by decide)
theorem fJ_rchance {g : kc_G} {h : kc_H} (hg : kc_ok g) (hI : fj_I h) : kc_Con g 30 145 [.inr (.inr (.inl (some 259)))] h fJ_Qi := kc_Con_le (fJ_ii (kd_h145 hg) (by decide +kernel) hI ⟨⟨259, rfl, by decide, by decide⟩, trivial⟩ (fun q hq => by cases hq)) (by decide)
theorem fJ_ckeep {g : kc_G} {h : kc_H} {a : Int32} (hg : kc_ok g) (hI : fj_I h) : kc_Con g 30 151 [.inr (.inr (.inl (some 0))), .inl a] h fJ_Qi := kc_Con_le (fJ_ii (kd_h151 hg) (by decide +kernel) hI ⟨⟨0, rfl, by decide, by decide⟩, kO_a a, trivial⟩ (fun q hq => by cases hq)) (by decide)
theorem fJ_rkeep {g : kc_G} {h : kc_H} {a : Int32} (hg : kc_ok g) (hI : fj_I h) : kc_Con g 30 152 [.inr (.inr (.inl (some 259))), .inl a] h fJ_Qi := kc_Con_le (fJ_ii (kd_h152 hg) (by decide +kernel) hI ⟨⟨259, rfl, by decide, by decide⟩, kO_a a, trivial⟩ (fun q hq => by cases hq)) (by decide)
theorem fJ_calone {g : kc_G} {h : kc_H} {a b c : Int32} (hg : kc_ok g) (hI : fj_I h) : kc_Con g 30 153 [.inr (.inr (.inl (some 0))), .inl a, .inl b, .inl c] h fJ_Qi := kc_Con_le (fJ_ii (kd_h153 hg) (by decide +kernel) hI ⟨⟨0, rfl, by decide, by decide⟩, kO_a a, kO_a b, kO_a c, trivial⟩ (fun q hq => by cases hq)) (by decide)
theorem fJ_ralone {g : kc_G} {h : kc_H} {a b c : Int32} (hg : kc_ok g) (hI : fj_I h) : kc_Con g 30 154 [.inr (.inr (.inl (some 259))), .inl a, .inl b, .inl c] h fJ_Qi := kc_Con_le (fJ_ii (kd_h154 hg) (by decide +kernel) hI ⟨⟨259, rfl, by decide, by decide⟩, kO_a a, kO_a b, kO_a c, trivial⟩ (fun q hq => by cases hq)) (by decide)
theorem fJ_cpart {g : kc_G} {h : kc_H} {a : Int32} (hg : kc_ok g) (hI : fj_I h) : kc_Con g 30 155 [.inr (.inr (.inl (some 0))), .inl a] h fJ_Qj := kc_Con_le (fJ_jj (kd_h155 hg) (by decide +kernel) hI ⟨⟨0, rfl, by decide, by decide⟩, kO_a a, trivial⟩ (fun q hq => by cases hq)) (by decide)
theorem fJ_rpart {g : kc_G} {h : kc_H} {a : Int32} (hg : kc_ok g) (hI : fj_I h) : kc_Con g 30 156 [.inr (.inr (.inl (some 259))), .inl a] h fJ_Qj := kc_Con_le (fJ_jj (kd_h156 hg) (by decide +kernel) hI ⟨⟨259, rfl, by decide, by decide⟩, kO_a a, trivial⟩ (fun q hq => by cases hq)) (by decide)
theorem fJ_cdigest {g : kc_G} {h : kc_H} (hg : kc_ok g) (hI : fj_I h) : kc_Con g 30 165 [.inr (.inr (.inl (some 0)))] h fJ_Qj := kc_Con_le (fJ_jj (kd_h165 hg) (by decide +kernel) hI ⟨⟨0, rfl, by decide, by decide⟩, trivial⟩ (fun q hq => by cases hq)) (by decide)
theorem fJ_rdigest {g : kc_G} {h : kc_H} (hg : kc_ok g) (hI : fj_I h) : kc_Con g 30 170 [.inr (.inr (.inl (some 259)))] h fJ_Qj := kc_Con_le (fJ_jj (kd_h170 hg) (by decide +kernel) hI ⟨⟨259, rfl, by decide, by decide⟩, trivial⟩ (fun q hq => by cases hq)) (by decide)
theorem fJ_Xbest {g : kc_G} {h : kc_H} {a : Int32} (hg : kc_ok g) (hJ : fj_I h) : kc_Con g 30 125 [.inr (.inr (.inl (some 0))), .inl a] h (fun rv h1 => ∃ z : Int32, rv = some (.inl z) ∧ kc_Con g 30 129 [.inr (.inr (.inl (some 259))), .inl a] h1 (fun rv2 h2 => rv2 = some (.inl z) ∧ fj_I h2)) := by
  obtain ⟨hI, hK⟩ := hJ
  obtain ⟨B, hC, hR⟩ := hI.2.1
  have hB := fu_C_T hI.1 hC
  obtain ⟨n, hn, en⟩ := fu_n3 hB
  obtain ⟨M, hM, eM⟩ := fu_n1 hB
  obtain ⟨L, hL, eL⟩ := fu_n2 hB
  obtain ⟨X, hX, eX⟩ := fu_n0 hB
  obtain ⟨hdl, hd1⟩ := fs_dis hB hR hn en hI.2.2.2.2.2.1
  have hdp : ∀ i, i < n → 1 ≤ fs_D B n i ∧ fs_D B n i ≤ X := fun i hi => ⟨hd1 i hi, hK.1 i n X (fs_D B n i) hi hn hX (by have := fs_Dl hB hn i; omega) ((hR 3 (by decide) (by decide)).trans (by rw [en])) ((hR 0 (by decide) (by decide)).trans (by rw [eX])) (by
    rw [Nat.zero_add, hR (150 + i) (by omega) (fu_fli i (by omega)).2.1, fs_Dv hB hn hi])⟩
  refine kc_Con_mono (kc_Con_le (fs_c125 (d := 0) hI.1 hg hB hC hn en hL eL hM eM hX eX hdl hdp) (by decide)) (fun rv h1 hq => ?_)
  obtain ⟨rfl, w1, f1⟩ := hq
  have R1 : fu_B B h1 := fun j hj ht => (f1 260 j (by omega)).trans (hR j hj ht)
  refine ⟨_, rfl, kc_Con_mono (kc_Con_le (fs_r129 (d := 0) w1 hg hB R1 hn en hL eL hM eM hX eX hdl hdp) (by decide)) (fun rv2 h2 hq => ?_)⟩
  obtain ⟨rfl, w2, f2⟩ := hq
  exact ⟨rfl, fs_keep hI w2 (fun c x q1 q2 q3 => (f2 c x (fun q => q3 q.1) (by omega)).trans (f1 c x (by omega))), fj_same hK (fun i => (f2 261 i (by omega) (by omega)).trans (f1 261 i (by omega))) (fun i => (f2 260 i (by omega) (by omega)).trans (f1 260 i (by omega)))⟩
end
