/-! ===== by hand: line of the reference ===== -/
theorem kl_pig : ∀ (m n : Nat) (f : Nat → Nat), (∀ i, i < n → f i < m) → (∀ i j, i < j → j < n → ¬ f i = f j) → n ≤ m
  | 0, n, f, h1, _ => by
    by_cases hn : n = 0
    · omega
    · have := h1 0 (by omega)
      omega
  | m + 1, n, f, h1, h2 => by
    by_cases hx : ∃ i, i < n ∧ f i = m
    · obtain ⟨i0, hi0, e0⟩ := hx
      have := kl_pig m (n - 1) (fun i => if i < i0 then f i else f (i + 1)) (fun i hi => by
        show (if i < i0 then f i else f (i + 1)) < m
        split
        · have a := h1 i (by omega)
          have b := h2 i i0 (by omega) hi0
          omega
        · have a := h1 (i + 1) (by omega)
          have b := h2 i0 (i + 1) (by omega) (by omega)
          omega) (fun i j hij hj => by
        show ¬ (if i < i0 then f i else f (i + 1)) = (if j < i0 then f j else f (j + 1))
        split
        · split
          · exact h2 i j hij (by omega)
          · exact h2 i (j + 1) (by omega) (by omega)
        · split
          · omega
          · exact h2 (i + 1) (j + 1) (by omega) (by omega))
      omega
    · have := kl_pig m n f (fun i hi => by
        have a := h1 i hi
        have b : ¬ f i = m := fun e => hx ⟨i, hi, e⟩
        omega) h2
      omega
set_option maxRecDepth 20000 in
theorem kl_place {g : kc_G} {d : Nat} {h : kc_H} {l : Nat → Nat} (hg : kc_ok g) (hl : ∀ i, i < 5 → h 260 (150 + i) = .inl (Int32.ofNat (l i))) {k : Nat} (hk : k < 5) : kc_Con g (d + 1) 259 [.inr (.inr (.inl (some 259))), .inl (Int32.ofNat k)] (kz h) (fun rv h' => rv = some (.inl (Int32.ofNat (l k))) ∧ h' = (kz h)) := by
  refine kc_Con_new hg (M := wk_m259) rfl rfl rfl (show 2 ≤ 2 by decide) ?_
  refine kx_go 5 (pc' := 9) (L' := [(0, .inr (.inr (.inl (some 259)))), (1, .inl (Int32.ofNat k))]) (S' := [.inl ((Int32.ofNat 150) + (Int32.ofNat k)), .inr (.inr (.inl (some 260)))]) (h' := (kz h)) (by with_unfolding_all rfl) ?_
  rw [kx_add]
  refine kx_iald rfl (c := 260) (j := 150 + k) (m := 650) rfl (by decide) (by decide) (by omega) ((kz_o (by decide)).trans (hl k hk)) ?_
  exact kc_ret_ok rfl (rv := some (.inl (Int32.ofNat (l k)))) rfl ⟨rfl, rfl⟩
set_option maxRecDepth 20000 in
theorem kl_inl {g : kc_G} {d : Nat} {Q : Option kc_V → kc_H → Prop} {h : kc_H} {D n dd : Nat} {l : Nat → Nat} (hg : kc_ok g) (hd1 : 1 ≤ d) (hn5 : n ≤ 5) (hdd : 1 ≤ dd ∧ dd ≤ 5) (hD : h 260 0 = .inl (Int32.ofNat D)) (hD5 : D ≤ 5) (hn : h 260 3 = .inl (Int32.ofNat n)) (hl : ∀ i, i < 5 → h 260 (150 + i) = .inl (Int32.ofNat (l i))) (hl5 : ∀ i, i < 5 → l i ≤ 5) (hQ1 : ∀ k, k < n → l k = dd → Q (some (.inl (Int32.ofNat k))) (kz h)) (hQ2 : (∀ i, i < n → ¬ l i = dd) → Q (some (.inl (Int32.ofInt (-2)))) (kz h)) : ∀ (m k : Nat), n - k = m → k ≤ n → (∀ i, i < k → ¬ l i = dd) → kc_Ev g d wk_m258 Q 2 [(2, .inl (Int32.ofNat k)), (0, .inr (.inr (.inl (some 259)))), (1, .inl (Int32.ofNat dd))] [] (kz h) := by
  intro m
  induction m with
  | zero =>
    intro k hm hk hK
    refine kx_go 4 (pc' := 8) (L' := [(2, .inl (Int32.ofNat k)), (0, .inr (.inr (.inl (some 259)))), (1, .inl (Int32.ofNat dd))]) (S' := [.inl (Int32.ofNat 3), .inr (.inr (.inl (some 260))), .inl (Int32.ofNat k)]) (h' := (kz h)) (by with_unfolding_all rfl) ?_
    refine kx_iald rfl (c := 260) (j := 3) (m := 650) rfl (by decide) (by decide) (by omega) ((kz_o (by decide)).trans hn) ?_
    refine kx_go 1 (pc' := (if kc_cnd .ge (Int32.ofNat k).toInt (Int32.ofNat n).toInt then 29 else 12)) (L' := [(2, .inl (Int32.ofNat k)), (0, .inr (.inr (.inl (some 259)))), (1, .inl (Int32.ofNat dd))]) (S' := []) (h' := (kz h)) (by with_unfolding_all rfl) ?_
    rw [if_pos ((kx_ge (by omega) (by omega)).mpr (by omega))]
    refine kx_go 2 (pc' := (if kc_cnd .ne (Int32.ofNat dd).toInt 0 then 37 else 33)) (L' := [(2, .inl (Int32.ofNat k)), (0, .inr (.inr (.inl (some 259)))), (1, .inl (Int32.ofNat dd))]) (S' := []) (h' := (kz h)) (by with_unfolding_all rfl) ?_
    rw [if_pos (by unfold kc_cnd; rw [kx_ti (by omega)]; simp only [Bool.not_eq_true', decide_eq_false_iff_not]; omega)]
    refine kx_go 1 (pc' := 39) (L' := [(2, .inl (Int32.ofNat k)), (0, .inr (.inr (.inl (some 259)))), (1, .inl (Int32.ofNat dd))]) (S' := [.inl (Int32.ofInt (-2))]) (h' := (kz h)) (by with_unfolding_all rfl) ?_
    exact kc_ret_ok rfl (rv := some (.inl (Int32.ofInt (-2)))) rfl (hQ2 (fun i hi => hK i (by omega)))
  | succ m ih =>
    intro k hm hk hK
    refine kx_go 4 (pc' := 8) (L' := [(2, .inl (Int32.ofNat k)), (0, .inr (.inr (.inl (some 259)))), (1, .inl (Int32.ofNat dd))]) (S' := [.inl (Int32.ofNat 3), .inr (.inr (.inl (some 260))), .inl (Int32.ofNat k)]) (h' := (kz h)) (by with_unfolding_all rfl) ?_
    refine kx_iald rfl (c := 260) (j := 3) (m := 650) rfl (by decide) (by decide) (by omega) ((kz_o (by decide)).trans hn) ?_
    refine kx_go 1 (pc' := (if kc_cnd .ge (Int32.ofNat k).toInt (Int32.ofNat n).toInt then 29 else 12)) (L' := [(2, .inl (Int32.ofNat k)), (0, .inr (.inr (.inl (some 259)))), (1, .inl (Int32.ofNat dd))]) (S' := []) (h' := (kz h)) (by with_unfolding_all rfl) ?_
    rw [if_neg (fun q => by have := (kx_ge (by omega) (by omega)).mp q; omega)]
    refine kx_go 2 (pc' := 14) (L' := [(2, .inl (Int32.ofNat k)), (0, .inr (.inr (.inl (some 259)))), (1, .inl (Int32.ofNat dd))]) (S' := [.inl (Int32.ofNat k), .inr (.inr (.inl (some 259)))]) (h' := (kz h)) (by with_unfolding_all rfl) ?_
    refine kc_call_rule (M2 := wk_m259) (av := [.inr (.inr (.inl (some 259))), .inl (Int32.ofNat k)]) (r := []) rfl rfl (kc_Con_le (kl_place (d := 0) hg hl (by omega)) hd1) (fun rv h' hq => ?_)
    obtain ⟨rfl, rfl⟩ := hq
    show kc_Ev g d wk_m258 Q 17 [(2, .inl (Int32.ofNat k)), (0, .inr (.inr (.inl (some 259)))), (1, .inl (Int32.ofNat dd))] [.inl (Int32.ofNat (l k))] (kz h)
    have hlk := hl5 k (by omega)
    refine kx_go 2 (pc' := (if kc_cnd .ne (Int32.ofNat (l k)).toInt (Int32.ofNat dd).toInt then 23 else 21)) (L' := [(2, .inl (Int32.ofNat k)), (0, .inr (.inr (.inl (some 259)))), (1, .inl (Int32.ofNat dd))]) (S' := []) (h' := (kz h)) (by with_unfolding_all rfl) ?_
    by_cases e : l k = dd
    · rw [if_neg (fun q => (kx_ne (by omega) (by omega)).mp q e)]
      refine kx_go 1 (pc' := 22) (L' := [(2, .inl (Int32.ofNat k)), (0, .inr (.inr (.inl (some 259)))), (1, .inl (Int32.ofNat dd))]) (S' := [.inl (Int32.ofNat k)]) (h' := (kz h)) (by with_unfolding_all rfl) ?_
      exact kc_ret_ok rfl (rv := some (.inl (Int32.ofNat k))) rfl (hQ1 k (by omega) e)
    · rw [if_pos ((kx_ne (by omega) (by omega)).mpr e)]
      refine kx_go 2 (pc' := 2) (L' := [(2, .inl ((Int32.ofNat k) + Int32.ofInt 1)), (0, .inr (.inr (.inl (some 259)))), (1, .inl (Int32.ofNat dd))]) (S' := []) (h' := (kz h)) (by with_unfolding_all rfl) ?_
      rw [kx_inc]
      exact ih (k + 1) (by omega) (by omega) (fun i hi => by
        by_cases q : i = k
        · rw [q]; exact e
        · exact hK i (by omega))
set_option maxRecDepth 20000 in
theorem kl_in {g : kc_G} {d : Nat} {h : kc_H} {D n dd : Nat} {l : Nat → Nat} (hg : kc_ok g) (hn5 : n ≤ 5) (hdd : 1 ≤ dd ∧ dd ≤ 5) (hD : h 260 0 = .inl (Int32.ofNat D)) (hD5 : D ≤ 5) (hn : h 260 3 = .inl (Int32.ofNat n)) (hl : ∀ i, i < 5 → h 260 (150 + i) = .inl (Int32.ofNat (l i))) (hl5 : ∀ i, i < 5 → l i ≤ 5) : kc_Con g (d + 2) 258 [.inr (.inr (.inl (some 259))), .inl (Int32.ofNat dd)] (kz h) (fun rv h' => (∃ k, k < n ∧ l k = dd ∧ rv = some (.inl (Int32.ofNat k)) ∧ h' = (kz h)) ∨ ((∀ i, i < n → ¬ l i = dd) ∧ rv = some (.inl (Int32.ofInt (-2))) ∧ h' = (kz h))) := by
  refine kc_Con_new hg (M := wk_m258) rfl rfl rfl (show 2 ≤ 3 by decide) ?_
  refine kx_go 2 (pc' := 2) (L' := [(2, .inl (Int32.ofNat 0)), (0, .inr (.inr (.inl (some 259)))), (1, .inl (Int32.ofNat dd))]) (S' := []) (h' := (kz h)) (by with_unfolding_all rfl) ?_
  exact kl_inl (d := d + 1) hg (by omega) hn5 hdd hD hD5 hn hl hl5 (fun k h1 h2 => Or.inl ⟨k, h1, h2, rfl, rfl⟩) (fun h => Or.inr ⟨h, rfl, rfl⟩) n 0 (by omega) (by omega) (fun i hi => by omega)
set_option maxRecDepth 20000 in
theorem kl_door {g : kc_G} {d : Nat} {h : kc_H} {D n dd : Nat} {l : Nat → Nat} (hg : kc_ok g) (hn5 : n ≤ 5) (hdd : 1 ≤ dd ∧ dd ≤ 5) (hD : h 260 0 = .inl (Int32.ofNat D)) (hD5 : D ≤ 5) (hn : h 260 3 = .inl (Int32.ofNat n)) (hl : ∀ i, i < 5 → h 260 (150 + i) = .inl (Int32.ofNat (l i))) (hl5 : ∀ i, i < 5 → l i ≤ 5) : kc_Con g (d + 2) 27 [.inr (.inr (.inl (some 259))), .inl (Int32.ofNat dd)] (kz h) (fun rv h' => rv = some (.inl (kp_b (decide (1 ≤ dd ∧ dd ≤ D)))) ∧ h' = (kz h)) := by
  refine kc_Con_new hg (M := wk_m27) rfl rfl rfl (show 2 ≤ 2 by decide) ?_
  refine kx_go 6 (pc' := 8) (L' := [(0, .inr (.inr (.inl (some 259)))), (1, .inl (Int32.ofNat dd))]) (S' := [.inl (Int32.ofNat 0), .inr (.inr (.inl (some 260))), .inr (.inl (Int64.ofNat 1)), .inr (.inl ((Int32.ofNat dd).toInt64))]) (h' := (kz h)) (by with_unfolding_all rfl) ?_
  refine kx_iald rfl (c := 260) (j := 0) (m := 650) rfl (by decide) (by decide) (by omega) ((kz_o (by decide)).trans hD) ?_
  refine kx_go 1 (pc' := 10) (L' := [(0, .inr (.inr (.inl (some 259)))), (1, .inl (Int32.ofNat dd))]) (S' := [.inr (.inl ((Int32.ofNat D).toInt64)), .inr (.inl (Int64.ofNat 1)), .inr (.inl ((Int32.ofNat dd).toInt64))]) (h' := (kz h)) (by with_unfolding_all rfl) ?_
  rw [kx_i2l (by omega), kx_i2l (by omega)]
  refine kc_call_rule (M2 := wk_m22) (av := [.inr (.inl (Int64.ofNat dd)), .inr (.inl (Int64.ofNat 1)), .inr (.inl (Int64.ofNat D))]) (r := []) rfl rfl (kc_Con_le (km_lies hg (by omega) (by omega) (by omega)) (by omega)) (fun rv h' hq => ?_)
  obtain ⟨rfl, rfl⟩ := hq
  cases e : decide (1 ≤ dd ∧ dd ≤ D) with
  | true => exact kc_ret_ok rfl (rv := some (.inl (kp_b true))) rfl ⟨rfl, rfl⟩
  | false => exact kc_ret_ok rfl (rv := some (.inl (kp_b false))) rfl ⟨rfl, rfl⟩
set_option maxRecDepth 20000 in
theorem kl_line {g : kc_G} {d : Nat} {h : kc_H} {D n dd : Nat} {l : Nat → Nat} (hg : kc_ok g) (hn5 : n ≤ 5) (hdd : 1 ≤ dd ∧ dd ≤ 5) (hD : h 260 0 = .inl (Int32.ofNat D)) (hD5 : D ≤ 5) (hn : h 260 3 = .inl (Int32.ofNat n)) (hl : ∀ i, i < 5 → h 260 (150 + i) = .inl (Int32.ofNat (l i))) (hl5 : ∀ i, i < 5 → l i ≤ 5) (hl1 : ∀ i, i < n → 1 ≤ l i) (hdist : ∀ i j, i < j → j < n → ¬ l i = l j) : kc_Con g (d + 3) 94 [.inr (.inr (.inl (some 259))), .inl (Int32.ofNat dd)] (kz h) (fun rv h' => (∃ r : Int32, rv = some (.inl r) ∧ (r = Int32.ofInt (-2) ∨ r = Int32.ofInt (-3)) ∧ h' = kz h) ∨ (rv = some (.inl (Int32.ofNat (n + 1))) ∧ (1 ≤ dd ∧ dd ≤ D) ∧ (∀ i, i < n → ¬ l i = dd) ∧ n < 5 ∧ h' = (kc_upd (kc_upd (kz h) 260 (150 + n) (.inl (Int32.ofNat dd))) 260 3 (.inl (Int32.ofNat (n + 1)))))) := by
  have n4 : (∀ i, i < n → ¬ l i = dd) → n < 5 := fun hno => by
    by_cases q : n < 5
    · exact q
    · exfalso
      have hn5 : n = 5 := by omega
      have := kl_pig 5 6 (fun i => (if i < 5 then l i else dd) - 1) (fun i hi => by
        show (if i < 5 then l i else dd) - 1 < 5
        split
        · have := hl5 i (by omega); omega
        · omega) (fun i j hij hj => by
        show ¬ (if i < 5 then l i else dd) - 1 = (if j < 5 then l j else dd) - 1
        rw [if_pos (by omega)]
        have a := hl1 i (by omega)
        split
        · have b := hl1 j (by omega)
          have c := hdist i j hij (by omega)
          omega
        · have c := hno i (by omega)
          omega)
      omega
  refine kc_Con_new hg (M := wk_m94) rfl rfl rfl (show 2 ≤ 2 by decide) ?_
  refine kx_go 2 (pc' := 2) (L' := [(0, .inr (.inr (.inl (some 259)))), (1, .inl (Int32.ofNat dd))]) (S' := [.inl (Int32.ofNat dd), .inr (.inr (.inl (some 259)))]) (h' := (kz h)) (by with_unfolding_all rfl) ?_
  refine kc_call_rule (M2 := wk_m27) (av := [.inr (.inr (.inl (some 259))), .inl (Int32.ofNat dd)]) (r := []) rfl rfl (kl_door (d := d) hg hn5 hdd hD hD5 hn hl hl5) (fun rv h' hq => ?_)
  obtain ⟨rfl, rfl⟩ := hq
  show kc_Ev g (d + 2) wk_m94 _ 5 [(0, .inr (.inr (.inl (some 259)))), (1, .inl (Int32.ofNat dd))] [.inl (kp_b (decide (1 ≤ dd ∧ dd ≤ D)))] (kz h)
  refine kx_go 1 (pc' := (if kc_cnd .ne (kp_b (decide (1 ≤ dd ∧ dd ≤ D))).toInt 0 then 11 else 8)) (L' := [(0, .inr (.inr (.inl (some 259)))), (1, .inl (Int32.ofNat dd))]) (S' := []) (h' := (kz h)) (by with_unfolding_all rfl) ?_
  cases e : decide (1 ≤ dd ∧ dd ≤ D) with
  | false =>
    rw [if_neg (fun q => by have := kx_b1.mp q; cases this)]
    refine kx_go 1 (pc' := 10) (L' := [(0, .inr (.inr (.inl (some 259)))), (1, .inl (Int32.ofNat dd))]) (S' := [.inl (Int32.ofInt (-2))]) (h' := (kz h)) (by with_unfolding_all rfl) ?_
    exact kc_ret_ok rfl (rv := some (.inl (Int32.ofInt (-2)))) rfl (Or.inl ⟨_, rfl, Or.inl rfl, rfl⟩)
  | true =>
    rw [if_pos (kx_b1.mpr rfl)]
    refine kx_go 2 (pc' := 13) (L' := [(0, .inr (.inr (.inl (some 259)))), (1, .inl (Int32.ofNat dd))]) (S' := [.inl (Int32.ofNat dd), .inr (.inr (.inl (some 259)))]) (h' := (kz h)) (by with_unfolding_all rfl) ?_
    refine kc_call_rule (M2 := wk_m258) (av := [.inr (.inr (.inl (some 259))), .inl (Int32.ofNat dd)]) (r := []) rfl rfl (kl_in (d := d) hg hn5 hdd hD hD5 hn hl hl5) (fun rv h' hq => ?_)
    rcases hq with ⟨k, k1, k2, rfl, rfl⟩ | ⟨hno, rfl, rfl⟩
    · show kc_Ev g (d + 2) wk_m94 _ 16 [(0, .inr (.inr (.inl (some 259)))), (1, .inl (Int32.ofNat dd))] [.inl (Int32.ofNat k)] (kz h)
      refine kx_go 1 (pc' := (if kc_cnd .lt (Int32.ofNat k).toInt 0 then 22 else 19)) (L' := [(0, .inr (.inr (.inl (some 259)))), (1, .inl (Int32.ofNat dd))]) (S' := []) (h' := (kz h)) (by with_unfolding_all rfl) ?_
      rw [if_neg (fun q => by unfold kc_cnd at q; rw [kx_ti (by omega)] at q; simp only [decide_eq_true_eq] at q; omega)]
      refine kx_go 1 (pc' := 21) (L' := [(0, .inr (.inr (.inl (some 259)))), (1, .inl (Int32.ofNat dd))]) (S' := [.inl (Int32.ofInt (-3))]) (h' := (kz h)) (by with_unfolding_all rfl) ?_
      exact kc_ret_ok rfl (rv := some (.inl (Int32.ofInt (-3)))) rfl (Or.inl ⟨_, rfl, Or.inr rfl, rfl⟩)
    · show kc_Ev g (d + 2) wk_m94 _ 16 [(0, .inr (.inr (.inl (some 259)))), (1, .inl (Int32.ofNat dd))] [.inl (Int32.ofInt (-2))] (kz h)
      have h5 := n4 hno
      refine kx_go 1 (pc' := (if kc_cnd .lt (Int32.ofInt (-2)).toInt 0 then 22 else 19)) (L' := [(0, .inr (.inr (.inl (some 259)))), (1, .inl (Int32.ofNat dd))]) (S' := []) (h' := (kz h)) (by with_unfolding_all rfl) ?_
      rw [if_pos (by decide)]
      refine kx_go 6 (pc' := 34) (L' := [(0, .inr (.inr (.inl (some 259)))), (1, .inl (Int32.ofNat dd))]) (S' := [.inl (Int32.ofNat 3), .inr (.inr (.inl (some 260))), .inl (Int32.ofNat 150), .inr (.inr (.inl (some 260)))]) (h' := (kz h)) (by with_unfolding_all rfl) ?_
      refine kx_iald rfl (c := 260) (j := 3) (m := 650) rfl (by decide) (by decide) (by omega) ((kz_o (by decide)).trans hn) ?_
      refine kx_go 2 (pc' := 37) (L' := [(0, .inr (.inr (.inl (some 259)))), (1, .inl (Int32.ofNat dd))]) (S' := [.inl (Int32.ofNat dd), .inl ((Int32.ofNat 150) + (Int32.ofNat n)), .inr (.inr (.inl (some 260)))]) (h' := (kz h)) (by with_unfolding_all rfl) ?_
      rw [kx_add]
      refine kx_iast rfl (c := 260) (j := 150 + n) (m := 650) rfl (by decide) (by decide) (by omega) ?_
      refine kx_go 4 (pc' := 44) (L' := [(0, .inr (.inr (.inl (some 259)))), (1, .inl (Int32.ofNat dd))]) (S' := [.inl (Int32.ofNat 3), .inr (.inr (.inl (some 260))), .inl (Int32.ofNat 3), .inr (.inr (.inl (some 260)))]) (h' := (kc_upd (kz h) 260 (150 + n) (.inl (Int32.ofNat dd)))) (by with_unfolding_all rfl) ?_
      refine kx_iald rfl (c := 260) (j := 3) (m := 650) (v := .inl (Int32.ofNat n)) rfl (by decide) (by decide) (by omega) ((if_neg (by omega)).trans ((kz_o (by decide)).trans hn)) ?_
      refine kx_go 2 (pc' := 47) (L' := [(0, .inr (.inr (.inl (some 259)))), (1, .inl (Int32.ofNat dd))]) (S' := [.inl ((Int32.ofNat n) + (Int32.ofNat 1)), .inl (Int32.ofNat 3), .inr (.inr (.inl (some 260)))]) (h' := (kc_upd (kz h) 260 (150 + n) (.inl (Int32.ofNat dd)))) (by with_unfolding_all rfl) ?_
      rw [kx_inc1]
      refine kx_iast rfl (c := 260) (j := 3) (m := 650) rfl (by decide) (by decide) (by omega) ?_
      refine kx_go 3 (pc' := 53) (L' := [(0, .inr (.inr (.inl (some 259)))), (1, .inl (Int32.ofNat dd))]) (S' := [.inl (Int32.ofNat 3), .inr (.inr (.inl (some 260)))]) (h' := (kc_upd (kc_upd (kz h) 260 (150 + n) (.inl (Int32.ofNat dd))) 260 3 (.inl (Int32.ofNat (n + 1))))) (by with_unfolding_all rfl) ?_
      refine kx_iald rfl (c := 260) (j := 3) (m := 650) (v := .inl (Int32.ofNat (n + 1))) rfl (by decide) (by decide) (by omega) (if_pos ⟨rfl, rfl⟩) ?_
      exact kc_ret_ok rfl (rv := some (.inl (Int32.ofNat (n + 1)))) rfl (Or.inr ⟨rfl, of_decide_eq_true e, hno, h5, rfl⟩)
