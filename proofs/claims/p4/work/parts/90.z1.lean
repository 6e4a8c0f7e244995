/-! ===== by hand: nextRow ===== -/
set_option maxRecDepth 20000 in
theorem kw_nwl {g : kc_G} {d : Nat} {Q : Option kc_V → kc_H → Prop} {h : kc_H} {n : Nat} {f : Nat → Nat} (hg : kc_ok g) (hd : 2 ≤ d) (hn : n ≤ 10) {k : Nat} (hk : k < 10) (hf : ∀ j, j < 10 → f j ≤ 10) : ∀ (m x : Nat), n - x = m → x ≤ n → (∀ x2, x ≤ x2 → x2 ≤ n → kc_Ev g d wk_m133 Q 55 [(1, .inl (Int32.ofNat k)), (0, .inr (.inr (.inl (some 259))))] [] (kw_H h n (kw_u f k x2))) → kc_Ev g d wk_m133 Q 21 [(1, .inl (Int32.ofNat k)), (0, .inr (.inr (.inl (some 259))))] [] (kw_H h n (kw_u f k x)) := by
  intro m
  induction m with
  | zero =>
    intro x hm hx hK
    have huk : ∀ x, kw_u f k x k = x := fun x => if_pos rfl
    refine kx_go 3 (pc' := 26) (L' := [(1, .inl (Int32.ofNat k)), (0, .inr (.inr (.inl (some 259))))]) (S' := [.inl (Int32.ofNat k), .inr (.inr (.inl (some 279)))]) (h' := (kw_H h n (kw_u f k x))) (by with_unfolding_all rfl) ?_
    refine kx_iald rfl (c := 279) (j := k) (m := 10) (v := .inl (Int32.ofNat x)) rfl (by decide) (by decide) (by omega) ((kw_r (by omega)).trans (by rw [huk])) ?_
    refine kx_go 3 (pc' := (if kc_cnd .ge (Int32.ofNat x).toInt (Int32.ofNat n).toInt then 55 else 34)) (L' := [(1, .inl (Int32.ofNat k)), (0, .inr (.inr (.inl (some 259))))]) (S' := []) (h' := (kw_H h n (kw_u f k x))) (by with_unfolding_all rfl) ?_
    rw [if_pos ((kx_ge (by omega) (by omega)).mpr (by omega))]
    exact hK x (Nat.le_refl _) hx
  | succ m ih =>
    intro x hm hx hK
    have huk : ∀ x, kw_u f k x k = x := fun x => if_pos rfl
    refine kx_go 3 (pc' := 26) (L' := [(1, .inl (Int32.ofNat k)), (0, .inr (.inr (.inl (some 259))))]) (S' := [.inl (Int32.ofNat k), .inr (.inr (.inl (some 279)))]) (h' := (kw_H h n (kw_u f k x))) (by with_unfolding_all rfl) ?_
    refine kx_iald rfl (c := 279) (j := k) (m := 10) (v := .inl (Int32.ofNat x)) rfl (by decide) (by decide) (by omega) ((kw_r (by omega)).trans (by rw [huk])) ?_
    refine kx_go 3 (pc' := (if kc_cnd .ge (Int32.ofNat x).toInt (Int32.ofNat n).toInt then 55 else 34)) (L' := [(1, .inl (Int32.ofNat k)), (0, .inr (.inr (.inl (some 259))))]) (S' := []) (h' := (kw_H h n (kw_u f k x))) (by with_unfolding_all rfl) ?_
    rw [if_neg (fun q => by have := (kx_ge (by omega) (by omega)).mp q; omega)]
    have hf2 : ∀ j, j < 10 → kw_u f k x j ≤ 10 := fun j hj => by
      unfold kw_u
      split
      · omega
      · exact hf j hj
    refine kx_go 2 (pc' := 36) (L' := [(1, .inl (Int32.ofNat k)), (0, .inr (.inr (.inl (some 259))))]) (S' := [.inl (Int32.ofNat k), .inr (.inr (.inl (some 259)))]) (h' := (kw_H h n (kw_u f k x))) (by with_unfolding_all rfl) ?_
    refine kc_call_rule (M2 := wk_m264) (av := [.inr (.inr (.inl (some 259))), .inl (Int32.ofNat k)]) (r := []) rfl rfl (kc_Con_le (kw_tk (d := 0) hg hk hf2) (by omega)) (fun rv h' hq => ?_)
    obtain ⟨rfl, rfl⟩ := hq
    show kc_Ev g d wk_m133 Q 39 [(1, .inl (Int32.ofNat k)), (0, .inr (.inr (.inl (some 259))))] [.inl (kp_b (kw_t (kw_u f k x) (kw_u f k x k) k))] (kw_H h n (kw_u f k x))
    refine kx_go 1 (pc' := (if kc_cnd .eq (kp_b (kw_t (kw_u f k x) (kw_u f k x k) k)).toInt 0 then 55 else 42)) (L' := [(1, .inl (Int32.ofNat k)), (0, .inr (.inr (.inl (some 259))))]) (S' := []) (h' := (kw_H h n (kw_u f k x))) (by with_unfolding_all rfl) ?_
    cases e : kw_t (kw_u f k x) (kw_u f k x k) k with
    | true =>
      rw [if_neg (fun q => by have := kx_b0.mp q; cases this)]
      refine kx_go 4 (pc' := 48) (L' := [(1, .inl (Int32.ofNat k)), (0, .inr (.inr (.inl (some 259))))]) (S' := [.inl (Int32.ofNat k), .inr (.inr (.inl (some 279))), .inl (Int32.ofNat k), .inr (.inr (.inl (some 279)))]) (h' := (kw_H h n (kw_u f k x))) (by with_unfolding_all rfl) ?_
      refine kx_iald rfl (c := 279) (j := k) (m := 10) (v := .inl (Int32.ofNat x)) rfl (by decide) (by decide) (by omega) ((kw_r (by omega)).trans (by rw [huk])) ?_
      refine kx_go 2 (pc' := 51) (L' := [(1, .inl (Int32.ofNat k)), (0, .inr (.inr (.inl (some 259))))]) (S' := [.inl ((Int32.ofNat x) + (Int32.ofNat 1)), .inl (Int32.ofNat k), .inr (.inr (.inl (some 279)))]) (h' := (kw_H h n (kw_u f k x))) (by with_unfolding_all rfl) ?_
      rw [kx_inc1]
      refine kx_iast rfl (c := 279) (j := k) (m := 10) rfl (by decide) (by decide) (by omega) ?_
      rw [kw_w (by omega)]
      refine kx_go 1 (pc' := 21) (L' := [(1, .inl (Int32.ofNat k)), (0, .inr (.inr (.inl (some 259))))]) (S' := []) (h' := (kw_H h n (kw_u (kw_u f k x) k (x + 1)))) (by with_unfolding_all rfl) ?_
      rw [show kw_u (kw_u f k x) k (x + 1) = kw_u f k (x + 1) from by funext j; unfold kw_u; split <;> rfl]
      exact ih (x + 1) (by omega) (by omega) (fun x2 h1 h2 => hK x2 (by omega) h2)
    | false =>
      rw [if_pos (kx_b0.mpr rfl)]
      exact hK x (Nat.le_refl _) hx
set_option maxRecDepth 20000 in
theorem kw_nl {g : kc_G} {d : Nat} {Q : Option kc_V → kc_H → Prop} {h : kc_H} {n : Nat} (hg : kc_ok g) (hd : 2 ≤ d) (hn : n ≤ 10) : ∀ (k1 : Nat) (f : Nat → Nat), k1 ≤ n → (∀ j, j < 10 → f j ≤ 10) → ((∀ j, j < k1 → f j < n) ∧ ∀ (k : Nat) (f2 : Nat → Nat), k < k1 → (∀ j, j < k → f2 j = f j) → f k < f2 k → f2 k < n → (∀ j, k < j → j < n → f2 j ≤ j) → (∀ j, j < 10 → f2 j ≤ 10) → Q (some (.inl (Int32.ofNat 1))) (kw_H h n f2)) → (∀ f2 : Nat → Nat, (∀ j, j < 10 → f2 j ≤ 10) → Q (some (.inl (Int32.ofNat 0))) (kw_H h n f2)) → kc_Ev g d wk_m133 Q 7 [(1, .inl (match k1 with | 0 => Int32.ofInt (-1) | k + 1 => Int32.ofNat k)), (0, .inr (.inr (.inl (some 259))))] [] (kw_H h n f) := by
  intro k1
  induction k1 with
  | zero =>
    intro f hk hf hK1 hK0
    refine kx_go 2 (pc' := (if kc_cnd .lt (Int32.ofInt (-1)).toInt 0 then 82 else 11)) (L' := [(1, .inl (Int32.ofInt (-1))), (0, .inr (.inr (.inl (some 259))))]) (S' := []) (h' := (kw_H h n f)) (by with_unfolding_all rfl) ?_
    rw [if_pos (by decide)]
    refine kx_go 1 (pc' := 83) (L' := [(1, .inl (Int32.ofInt (-1))), (0, .inr (.inr (.inl (some 259))))]) (S' := [.inl (Int32.ofNat 0)]) (h' := (kw_H h n f)) (by with_unfolding_all rfl) ?_
    exact kc_ret_ok rfl (rv := some (.inl (Int32.ofNat 0))) rfl (hK0 f hf)
  | succ k ih =>
    intro f hk hf hK1 hK0
    have hfk := hf k (by omega)
    show kc_Ev g d wk_m133 Q 7 [(1, .inl (Int32.ofNat k)), (0, .inr (.inr (.inl (some 259))))] [] (kw_H h n f)
    refine kx_go 2 (pc' := (if kc_cnd .lt (Int32.ofNat k).toInt 0 then 82 else 11)) (L' := [(1, .inl (Int32.ofNat k)), (0, .inr (.inr (.inl (some 259))))]) (S' := []) (h' := (kw_H h n f)) (by with_unfolding_all rfl) ?_
    rw [if_neg (fun q => by unfold kc_cnd at q; rw [kx_ti (by omega)] at q; simp only [decide_eq_true_eq] at q; omega)]
    refine kx_go 4 (pc' := 17) (L' := [(1, .inl (Int32.ofNat k)), (0, .inr (.inr (.inl (some 259))))]) (S' := [.inl (Int32.ofNat k), .inr (.inr (.inl (some 279))), .inl (Int32.ofNat k), .inr (.inr (.inl (some 279)))]) (h' := (kw_H h n f)) (by with_unfolding_all rfl) ?_
    refine kx_iald rfl (c := 279) (j := k) (m := 10) rfl (by decide) (by decide) (by omega) (kw_r (by omega)) ?_
    refine kx_go 2 (pc' := 20) (L' := [(1, .inl (Int32.ofNat k)), (0, .inr (.inr (.inl (some 259))))]) (S' := [.inl ((Int32.ofNat (f k)) + (Int32.ofNat 1)), .inl (Int32.ofNat k), .inr (.inr (.inl (some 279)))]) (h' := (kw_H h n f)) (by with_unfolding_all rfl) ?_
    have hfn := hK1.1 k (by omega)
    rw [kx_inc1]
    refine kx_iast rfl (c := 279) (j := k) (m := 10) rfl (by decide) (by decide) (by omega) ?_
    rw [kw_w (by omega)]
    refine kw_nwl hg hd hn (by omega) hf (n - (f k + 1)) (f k + 1) rfl (by omega) (fun x h1 h2 => ?_)
    have huk : ∀ x, kw_u f k x k = x := fun x => if_pos rfl
    have hf2 : ∀ j, j < 10 → kw_u f k x j ≤ 10 := fun j hj => by
      unfold kw_u
      split
      · omega
      · exact hf j hj
    refine kx_go 3 (pc' := 60) (L' := [(1, .inl (Int32.ofNat k)), (0, .inr (.inr (.inl (some 259))))]) (S' := [.inl (Int32.ofNat k), .inr (.inr (.inl (some 279)))]) (h' := (kw_H h n (kw_u f k x))) (by with_unfolding_all rfl) ?_
    refine kx_iald rfl (c := 279) (j := k) (m := 10) (v := .inl (Int32.ofNat x)) rfl (by decide) (by decide) (by omega) ((kw_r (by omega)).trans (by rw [huk])) ?_
    refine kx_go 3 (pc' := (if kc_cnd .ge (Int32.ofNat x).toInt (Int32.ofNat n).toInt then 76 else 68)) (L' := [(1, .inl (Int32.ofNat k)), (0, .inr (.inr (.inl (some 259))))]) (S' := []) (h' := (kw_H h n (kw_u f k x))) (by with_unfolding_all rfl) ?_
    by_cases e : n ≤ x
    · rw [if_pos ((kx_ge (by omega) (by omega)).mpr e)]
      refine kx_go 2 (pc' := 7) (L' := [(1, .inl ((Int32.ofNat k) + Int32.ofInt (-1))), (0, .inr (.inr (.inl (some 259))))]) (S' := []) (h' := (kw_H h n (kw_u f k x))) (by with_unfolding_all rfl) ?_
      have hih := ih (kw_u f k x) (by omega) hf2 ⟨fun j hj => by unfold kw_u; rw [if_neg (by omega)]; exact hK1.1 j (by omega), fun k2 f2 b0 b1 b2 b3 b4 b5 => hK1.2 k2 f2 (by omega) (fun j hj => (b1 j hj).trans (if_neg (by omega))) (by have : kw_u f k x k2 = f k2 := if_neg (by omega); omega) b3 b4 b5⟩ hK0
      cases k with
      | zero =>
        exact hih
      | succ k =>
        rw [show Int32.ofNat (k + 1) + Int32.ofInt (-1) = Int32.ofNat k from by rw [← kx_inc1]; rw [show (Int32.ofInt (-1)) = - Int32.ofNat 1 from by decide, ← Int32.sub_eq_add_neg, Int32.add_sub_cancel]]
        exact hih
    · rw [if_neg (fun q => e ((kx_ge (by omega) (by omega)).mp q))]
      refine kx_go 4 (pc' := 72) (L' := [(1, .inl (Int32.ofNat k)), (0, .inr (.inr (.inl (some 259))))]) (S' := [.inl ((Int32.ofNat k) + (Int32.ofNat 1)), .inr (.inr (.inl (some 259)))]) (h' := (kw_H h n (kw_u f k x))) (by with_unfolding_all rfl) ?_
      rw [kx_inc1]
      refine kc_call_rule (M2 := wk_m265) (av := [.inr (.inr (.inl (some 259))), .inl (Int32.ofNat (k + 1))]) (r := []) rfl rfl (kc_Con_le (kw_fills (d := 0) hg hn (by omega) hf2) hd) (fun rv h' hq => ?_)
      obtain ⟨f2, rfl, a1, a2, a3, rfl⟩ := hq
      refine kc_ret_ok rfl (rv := some (.inl (Int32.ofNat 1))) rfl (hK1.2 k f2 (by omega) (fun j hj => (a1 j (by omega)).trans (if_neg (by omega))) ?_ ?_ (fun j h3 h4 => a2 j (by omega) h4) a3)
      · rw [a1 k (by omega), huk]; omega
      · rw [a1 k (by omega), huk]; omega
/-- what nextRow leaves behind -/
def kw_Q (h : kc_H) (n : Nat) (f : Nat → Nat) : Option kc_V → kc_H → Prop := fun rv h' => (∃ (k : Nat) (f2 : Nat → Nat), rv = some (.inl (Int32.ofNat 1)) ∧ k < n ∧ (∀ j, j < k → f2 j = f j) ∧ f k < f2 k ∧ f2 k < n ∧ (∀ j, k < j → j < n → f2 j ≤ j) ∧ (∀ j, j < 10 → f2 j ≤ 10) ∧ h' = kw_H h n f2) ∨ ∃ f2 : Nat → Nat, rv = some (.inl (Int32.ofNat 0)) ∧ (∀ j, j < 10 → f2 j ≤ 10) ∧ h' = kw_H h n f2
set_option maxRecDepth 20000 in
theorem kw_next {g : kc_G} {d : Nat} {h : kc_H} {n : Nat} {f : Nat → Nat} (hg : kc_ok g) (hn : n ≤ 10) (hf : ∀ j, j < 10 → f j ≤ 10) (hfn : ∀ j, j < n → f j < n) : kc_Con g (d + 3) 133 [.inr (.inr (.inl (some 259)))] (kw_H h n f) (kw_Q h n f) := by
  refine kc_Con_new hg (M := wk_m133) rfl rfl rfl (show 1 ≤ 2 by decide) ?_
  refine kx_go 5 (pc' := 7) (L' := [(1, .inl (Int32.ofNat n - Int32.ofNat 1)), (0, .inr (.inr (.inl (some 259))))]) (S' := []) (h' := (kw_H h n f)) (by with_unfolding_all rfl) ?_
  have key := kw_nl (d := d + 2) (h := h) (n := n) (Q := kw_Q h n f) hg (by omega) hn n f (Nat.le_refl _) hf ⟨hfn, fun k f2 b0 b1 b2 b3 b4 b5 => Or.inl ⟨k, f2, rfl, b0, b1, b2, b3, b4, b5, rfl⟩⟩ (fun f2 b => Or.inr ⟨f2, rfl, b, rfl⟩)
  cases n with
  | zero => exact key
  | succ n =>
    rw [kx_sub (by omega)]
    exact key
