/-! ===== by hand: rows of the reference: isTaken, fillsRow ===== -/
/-- the row and how many -/
def kw_H (h : kc_H) (n : Nat) (f : Nat → Nat) : kc_H := fun c b => if c = 259 then (if b = 34 then .inr (.inr (.inl (some 279))) else if b = 35 then .inl (Int32.ofNat n) else h 259 b) else if c = 279 then (if b < 10 then .inl (Int32.ofNat (f b)) else h 279 b) else h c b
def kw_u (f : Nat → Nat) (k v : Nat) : Nat → Nat := fun j => if j = k then v else f j
theorem kw_r {h : kc_H} {n b : Nat} {f : Nat → Nat} (hb : b < 10) : kw_H h n f 279 b = .inl (Int32.ofNat (f b)) := by
  unfold kw_H
  rw [if_neg (by decide), if_pos rfl, if_pos hb]
theorem kw_w {h : kc_H} {n k v : Nat} {f : Nat → Nat} (hk : k < 10) : kc_upd (kw_H h n f) 279 k (.inl (Int32.ofNat v)) = kw_H h n (kw_u f k v) := by
  funext c b
  unfold kc_upd kw_H kw_u
  by_cases hc : c = 259
  · subst hc
    rw [if_neg (by omega), if_pos rfl, if_pos rfl]
  · rw [if_neg hc, if_neg hc]
    by_cases h2 : c = 279
    · subst h2
      by_cases hb : b = k
      · subst hb
        rw [if_pos ⟨rfl, rfl⟩, if_pos rfl, if_pos hk, if_pos rfl]
      · rw [if_neg (fun q => hb q.2), if_pos rfl, if_pos rfl, if_neg hb]
    · rw [if_neg (fun q => h2 q.1), if_neg h2, if_neg h2]
def kw_t (f : Nat → Nat) (x : Nat) : Nat → Bool
  | 0 => false
  | m + 1 => bif kw_t f x m then true else decide (f m = x)
theorem kw_t_iff {f : Nat → Nat} {x : Nat} : ∀ m, kw_t f x m = true ↔ ∃ i, i < m ∧ f i = x
  | 0 => ⟨fun h => (by cases h), fun h => by obtain ⟨i, hi, -⟩ := h; omega⟩
  | m + 1 => by
    show (bif kw_t f x m then true else decide (f m = x)) = true ↔ _
    cases e : kw_t f x m with
    | true =>
      obtain ⟨i, h1, h2⟩ := (kw_t_iff m).mp e
      exact ⟨fun _ => ⟨i, by omega, h2⟩, fun _ => rfl⟩
    | false =>
      constructor
      · intro h
        exact ⟨m, by omega, of_decide_eq_true h⟩
      · rintro ⟨i, h1, h2⟩
        by_cases hi : i = m
        · subst hi
          exact decide_eq_true h2
        · have := (kw_t_iff m).mpr ⟨i, by omega, h2⟩
          rw [e] at this
          cases this
/-- a value at most k is free -/
theorem kw_free : ∀ (k : Nat) (f : Nat → Nat), ∃ v, v ≤ k ∧ ∀ i, i < k → ¬ f i = v
  | 0, _ => ⟨0, Nat.le_refl _, fun i hi => by omega⟩
  | k + 1, f => by
    obtain ⟨v, h1, h2⟩ := kw_free k (fun i => if f k < f i then f i - 1 else f i)
    by_cases hv : v < f k
    · refine ⟨v, by omega, fun i hi e => ?_⟩
      by_cases hik : i = k
      · subst hik; omega
      · have := h2 i (by omega)
        rw [if_neg (by omega)] at this
        exact this e
    · refine ⟨v + 1, by omega, fun i hi e => ?_⟩
      by_cases hik : i = k
      · subst hik; omega
      · have := h2 i (by omega)
        rw [if_pos (by omega)] at this
        omega
set_option maxRecDepth 20000 in
theorem kw_tkl {g : kc_G} {d : Nat} {Q : Option kc_V → kc_H → Prop} {h : kc_H} {n : Nat} {f : Nat → Nat} {k : Nat} (hk : k < 10) (hf : ∀ j, j < 10 → f j ≤ 10) (hQ : Q (some (.inl (kp_b (kw_t f (f k) k)))) (kw_H h n f)) : ∀ (m i : Nat), k - i = m → i ≤ k → kc_Ev g d wk_m264 Q 4 [(3, .inl (Int32.ofNat i)), (2, .inl (kp_b (kw_t f (f k) i))), (0, .inr (.inr (.inl (some 259)))), (1, .inl (Int32.ofNat k))] [] (kw_H h n f) := by
  intro m
  induction m with
  | zero =>
    intro i hm hi
    refine kx_go 3 (pc' := (if kc_cnd .ge (Int32.ofNat i).toInt (Int32.ofNat k).toInt then 40 else 9)) (L' := [(3, .inl (Int32.ofNat i)), (2, .inl (kp_b (kw_t f (f k) i))), (0, .inr (.inr (.inl (some 259)))), (1, .inl (Int32.ofNat k))]) (S' := []) (h' := (kw_H h n f)) (by with_unfolding_all rfl) ?_
    rw [if_pos ((kx_ge (by omega) (by omega)).mpr (by omega))]
    refine kx_go 1 (pc' := 41) (L' := [(3, .inl (Int32.ofNat i)), (2, .inl (kp_b (kw_t f (f k) i))), (0, .inr (.inr (.inl (some 259)))), (1, .inl (Int32.ofNat k))]) (S' := [.inl (kp_b (kw_t f (f k) i))]) (h' := (kw_H h n f)) (by with_unfolding_all rfl) ?_
    obtain rfl : i = k := by omega
    cases e : kw_t f (f i) i with
    | true => rw [e] at hQ; exact kc_ret_ok rfl (rv := some (.inl (kp_b true))) rfl hQ
    | false => rw [e] at hQ; exact kc_ret_ok rfl (rv := some (.inl (kp_b false))) rfl hQ
  | succ m ih =>
    intro i hm hi
    refine kx_go 3 (pc' := (if kc_cnd .ge (Int32.ofNat i).toInt (Int32.ofNat k).toInt then 40 else 9)) (L' := [(3, .inl (Int32.ofNat i)), (2, .inl (kp_b (kw_t f (f k) i))), (0, .inr (.inr (.inl (some 259)))), (1, .inl (Int32.ofNat k))]) (S' := []) (h' := (kw_H h n f)) (by with_unfolding_all rfl) ?_
    rw [if_neg (fun q => by have := (kx_ge (by omega) (by omega)).mp q; omega)]
    refine kx_go 2 (pc' := (if kc_cnd .ne (kp_b (kw_t f (f k) i)).toInt 0 then 28 else 13)) (L' := [(3, .inl (Int32.ofNat i)), (2, .inl (kp_b (kw_t f (f k) i))), (0, .inr (.inr (.inl (some 259)))), (1, .inl (Int32.ofNat k))]) (S' := []) (h' := (kw_H h n f)) (by with_unfolding_all rfl) ?_
    have ih := ih (i + 1) (by omega) (by omega)
    have ih : kc_Ev g d wk_m264 Q 4 [(3, .inl (Int32.ofNat (i + 1))), (2, .inl (kp_b (bif kw_t f (f k) i then true else decide (f i = f k)))), (0, .inr (.inr (.inl (some 259)))), (1, .inl (Int32.ofNat k))] [] (kw_H h n f) := ih
    cases e : kw_t f (f k) i with
    | true =>
      rw [e] at ih
      rw [if_pos (kx_b1.mpr rfl)]
      refine kx_go 5 (pc' := 4) (L' := [(3, .inl ((Int32.ofNat i) + Int32.ofInt 1)), (2, .inl (Int32.ofNat 1)), (0, .inr (.inr (.inl (some 259)))), (1, .inl (Int32.ofNat k))]) (S' := []) (h' := (kw_H h n f)) (by with_unfolding_all rfl) ?_
      rw [kx_inc]
      exact ih
    | false =>
      rw [e] at ih
      rw [if_neg (fun q => by have := kx_b1.mp q; cases this)]
      refine kx_go 3 (pc' := 18) (L' := [(3, .inl (Int32.ofNat i)), (2, .inl (kp_b false)), (0, .inr (.inr (.inl (some 259)))), (1, .inl (Int32.ofNat k))]) (S' := [.inl (Int32.ofNat i), .inr (.inr (.inl (some 279)))]) (h' := (kw_H h n f)) (by with_unfolding_all rfl) ?_
      refine kx_iald rfl (c := 279) (j := i) (m := 10) rfl (by decide) (by decide) (by omega) (kw_r (by omega)) ?_
      refine kx_go 3 (pc' := 24) (L' := [(3, .inl (Int32.ofNat i)), (2, .inl (kp_b false)), (0, .inr (.inr (.inl (some 259)))), (1, .inl (Int32.ofNat k))]) (S' := [.inl (Int32.ofNat k), .inr (.inr (.inl (some 279))), .inl (Int32.ofNat (f i))]) (h' := (kw_H h n f)) (by with_unfolding_all rfl) ?_
      refine kx_iald rfl (c := 279) (j := k) (m := 10) rfl (by decide) (by decide) (by omega) (kw_r (by omega)) ?_
      have b1 := hf i (by omega)
      have b2 := hf k (by omega)
      refine kx_go 1 (pc' := (if kc_cnd .ne (Int32.ofNat (f i)).toInt (Int32.ofNat (f k)).toInt then 32 else 28)) (L' := [(3, .inl (Int32.ofNat i)), (2, .inl (kp_b false)), (0, .inr (.inr (.inl (some 259)))), (1, .inl (Int32.ofNat k))]) (S' := []) (h' := (kw_H h n f)) (by with_unfolding_all rfl) ?_
      by_cases e2 : f i = f k
      · rw [if_neg (fun q => (kx_ne (by omega) (by omega)).mp q e2)]
        rw [show decide (f i = f k) = true from decide_eq_true e2] at ih
        refine kx_go 5 (pc' := 4) (L' := [(3, .inl ((Int32.ofNat i) + Int32.ofInt 1)), (2, .inl (Int32.ofNat 1)), (0, .inr (.inr (.inl (some 259)))), (1, .inl (Int32.ofNat k))]) (S' := []) (h' := (kw_H h n f)) (by with_unfolding_all rfl) ?_
        rw [kx_inc]
        exact ih
      · rw [if_pos ((kx_ne (by omega) (by omega)).mpr e2)]
        rw [show decide (f i = f k) = false from decide_eq_false e2] at ih
        refine kx_go 4 (pc' := 4) (L' := [(3, .inl ((Int32.ofNat i) + Int32.ofInt 1)), (2, .inl (Int32.ofNat 0)), (0, .inr (.inr (.inl (some 259)))), (1, .inl (Int32.ofNat k))]) (S' := []) (h' := (kw_H h n f)) (by with_unfolding_all rfl) ?_
        rw [kx_inc]
        exact ih
set_option maxRecDepth 20000 in
theorem kw_tk {g : kc_G} {d : Nat} {h : kc_H} {n : Nat} {f : Nat → Nat} (hg : kc_ok g) {k : Nat} (hk : k < 10) (hf : ∀ j, j < 10 → f j ≤ 10) : kc_Con g (d + 1) 264 [.inr (.inr (.inl (some 259))), .inl (Int32.ofNat k)] (kw_H h n f) (fun rv h' => rv = some (.inl (kp_b (kw_t f (f k) k))) ∧ h' = (kw_H h n f)) := by
  refine kc_Con_new hg (M := wk_m264) rfl rfl rfl (show 2 ≤ 4 by decide) ?_
  refine kx_go 4 (pc' := 4) (L' := [(3, .inl (Int32.ofNat 0)), (2, .inl (Int32.ofNat 0)), (0, .inr (.inr (.inl (some 259)))), (1, .inl (Int32.ofNat k))]) (S' := []) (h' := (kw_H h n f)) (by with_unfolding_all rfl) ?_
  exact kw_tkl hk hf ⟨rfl, rfl⟩ k 0 (by omega) (by omega)
set_option maxRecDepth 20000 in
theorem kw_fwl {g : kc_G} {d : Nat} {Q : Option kc_V → kc_H → Prop} {h : kc_H} {n : Nat} {f : Nat → Nat} (hg : kc_ok g) (hd : 1 ≤ d) {k b : Nat} (hk : k < 10) (hf : ∀ j, j < 10 → f j ≤ 10) : ∀ (m x : Nat), k + 1 - x = m → (∀ y, y < x → ∃ i, i < k ∧ f i = y) → (∀ x2, x2 ≤ k → kc_Ev g d wk_m265 Q 38 [(2, .inl (Int32.ofNat k)), (0, .inr (.inr (.inl (some 259)))), (1, .inl (Int32.ofNat b))] [] (kw_H h n (kw_u f k x2))) → kc_Ev g d wk_m265 Q 17 [(2, .inl (Int32.ofNat k)), (0, .inr (.inr (.inl (some 259)))), (1, .inl (Int32.ofNat b))] [] (kw_H h n (kw_u f k x)) := by
  obtain ⟨v, v1, v2⟩ := kw_free k f
  intro m
  induction m with
  | zero =>
    intro x hm hx hK
    exfalso
    have : ¬ v < x := fun q => by
      obtain ⟨i, i1, i2⟩ := hx v q
      exact v2 i i1 i2
    omega
  | succ m ih =>
    intro x hm hx hK
    have hxv : ¬ v < x := fun q => by
      obtain ⟨i, i1, i2⟩ := hx v q
      exact v2 i i1 i2
    have hf2 : ∀ j, j < 10 → kw_u f k x j ≤ 10 := fun j hj => by
      unfold kw_u
      split
      · omega
      · exact hf j hj
    refine kx_go 2 (pc' := 19) (L' := [(2, .inl (Int32.ofNat k)), (0, .inr (.inr (.inl (some 259)))), (1, .inl (Int32.ofNat b))]) (S' := [.inl (Int32.ofNat k), .inr (.inr (.inl (some 259)))]) (h' := (kw_H h n (kw_u f k x))) (by with_unfolding_all rfl) ?_
    refine kc_call_rule (M2 := wk_m264) (av := [.inr (.inr (.inl (some 259))), .inl (Int32.ofNat k)]) (r := []) rfl rfl (kc_Con_le (kw_tk (d := 0) hg hk hf2) hd) (fun rv h' hq => ?_)
    obtain ⟨rfl, rfl⟩ := hq
    show kc_Ev g d wk_m265 Q 22 [(2, .inl (Int32.ofNat k)), (0, .inr (.inr (.inl (some 259)))), (1, .inl (Int32.ofNat b))] [.inl (kp_b (kw_t (kw_u f k x) (kw_u f k x k) k))] (kw_H h n (kw_u f k x))
    refine kx_go 1 (pc' := (if kc_cnd .eq (kp_b (kw_t (kw_u f k x) (kw_u f k x k) k)).toInt 0 then 38 else 25)) (L' := [(2, .inl (Int32.ofNat k)), (0, .inr (.inr (.inl (some 259)))), (1, .inl (Int32.ofNat b))]) (S' := []) (h' := (kw_H h n (kw_u f k x))) (by with_unfolding_all rfl) ?_
    have huk : kw_u f k x k = x := if_pos rfl
    have hui : ∀ i, i < k → kw_u f k x i = f i := fun i hi => if_neg (by omega)
    cases e : kw_t (kw_u f k x) (kw_u f k x k) k with
    | true =>
      rw [if_neg (fun q => by have := kx_b0.mp q; cases this)]
      obtain ⟨i, i1, i2⟩ := (kw_t_iff k).mp e
      rw [huk, hui i i1] at i2
      have hx1 : ∀ y, y < x + 1 → ∃ i, i < k ∧ f i = y := fun y hy => by
        by_cases q : y = x
        · exact ⟨i, i1, by omega⟩
        · exact hx y (by omega)
      refine kx_go 4 (pc' := 31) (L' := [(2, .inl (Int32.ofNat k)), (0, .inr (.inr (.inl (some 259)))), (1, .inl (Int32.ofNat b))]) (S' := [.inl (Int32.ofNat k), .inr (.inr (.inl (some 279))), .inl (Int32.ofNat k), .inr (.inr (.inl (some 279)))]) (h' := (kw_H h n (kw_u f k x))) (by with_unfolding_all rfl) ?_
      refine kx_iald rfl (c := 279) (j := k) (m := 10) (v := .inl (Int32.ofNat x)) rfl (by decide) (by decide) (by omega) ((kw_r (by omega)).trans (by rw [huk])) ?_
      refine kx_go 2 (pc' := 34) (L' := [(2, .inl (Int32.ofNat k)), (0, .inr (.inr (.inl (some 259)))), (1, .inl (Int32.ofNat b))]) (S' := [.inl ((Int32.ofNat x) + (Int32.ofNat 1)), .inl (Int32.ofNat k), .inr (.inr (.inl (some 279)))]) (h' := (kw_H h n (kw_u f k x))) (by with_unfolding_all rfl) ?_
      rw [kx_inc1]
      refine kx_iast rfl (c := 279) (j := k) (m := 10) rfl (by decide) (by decide) (by omega) ?_
      rw [kw_w (by omega)]
      refine kx_go 1 (pc' := 17) (L' := [(2, .inl (Int32.ofNat k)), (0, .inr (.inr (.inl (some 259)))), (1, .inl (Int32.ofNat b))]) (S' := []) (h' := (kw_H h n (kw_u (kw_u f k x) k (x + 1)))) (by with_unfolding_all rfl) ?_
      rw [show kw_u (kw_u f k x) k (x + 1) = kw_u f k (x + 1) from by funext j; unfold kw_u; split <;> rfl]
      exact ih (x + 1) (by omega) hx1 hK
    | false =>
      rw [if_pos (kx_b0.mpr rfl)]
      exact hK x (by omega)
set_option maxRecDepth 20000 in
theorem kw_fl {g : kc_G} {d : Nat} {Q : Option kc_V → kc_H → Prop} {h : kc_H} {n : Nat} (hg : kc_ok g) (hd : 1 ≤ d) {b : Nat} (hn : n ≤ 10) : ∀ (m k : Nat) (f : Nat → Nat), n - k = m → k ≤ n → (∀ j, j < 10 → f j ≤ 10) → (∀ f2 : Nat → Nat, (∀ j, j < k → f2 j = f j) → (∀ j, k ≤ j → j < n → f2 j ≤ j) → (∀ j, j < 10 → f2 j ≤ 10) → Q (some (.inl (Int32.ofNat 1))) (kw_H h n f2)) → kc_Ev g d wk_m265 Q 2 [(2, .inl (Int32.ofNat k)), (0, .inr (.inr (.inl (some 259)))), (1, .inl (Int32.ofNat b))] [] (kw_H h n f) := by
  intro m
  induction m with
  | zero =>
    intro k f hm hk hf hK
    refine kx_go 4 (pc' := (if kc_cnd .ge (Int32.ofNat k).toInt (Int32.ofNat n).toInt then 44 else 10)) (L' := [(2, .inl (Int32.ofNat k)), (0, .inr (.inr (.inl (some 259)))), (1, .inl (Int32.ofNat b))]) (S' := []) (h' := (kw_H h n f)) (by with_unfolding_all rfl) ?_
    rw [if_pos ((kx_ge (by omega) (by omega)).mpr (by omega))]
    refine kx_go 1 (pc' := 45) (L' := [(2, .inl (Int32.ofNat k)), (0, .inr (.inr (.inl (some 259)))), (1, .inl (Int32.ofNat b))]) (S' := [.inl (Int32.ofNat 1)]) (h' := (kw_H h n f)) (by with_unfolding_all rfl) ?_
    exact kc_ret_ok rfl (rv := some (.inl (Int32.ofNat 1))) rfl (hK f (fun _ _ => rfl) (fun j h1 h2 => by omega) hf)
  | succ m ih =>
    intro k f hm hk hf hK
    refine kx_go 4 (pc' := (if kc_cnd .ge (Int32.ofNat k).toInt (Int32.ofNat n).toInt then 44 else 10)) (L' := [(2, .inl (Int32.ofNat k)), (0, .inr (.inr (.inl (some 259)))), (1, .inl (Int32.ofNat b))]) (S' := []) (h' := (kw_H h n f)) (by with_unfolding_all rfl) ?_
    rw [if_neg (fun q => by have := (kx_ge (by omega) (by omega)).mp q; omega)]
    refine kx_go 4 (pc' := 16) (L' := [(2, .inl (Int32.ofNat k)), (0, .inr (.inr (.inl (some 259)))), (1, .inl (Int32.ofNat b))]) (S' := [.inl (Int32.ofNat 0), .inl (Int32.ofNat k), .inr (.inr (.inl (some 279)))]) (h' := (kw_H h n f)) (by with_unfolding_all rfl) ?_
    refine kx_iast rfl (c := 279) (j := k) (m := 10) rfl (by decide) (by decide) (by omega) ?_
    rw [kw_w (by omega)]
    refine kw_fwl hg hd (by omega) hf (k + 1) 0 (by omega) (fun y hy => by omega) (fun x2 hx2 => ?_)
    refine kx_go 2 (pc' := 2) (L' := [(2, .inl ((Int32.ofNat k) + Int32.ofInt 1)), (0, .inr (.inr (.inl (some 259)))), (1, .inl (Int32.ofNat b))]) (S' := []) (h' := (kw_H h n (kw_u f k x2))) (by with_unfolding_all rfl) ?_
    rw [kx_inc]
    have hf2 : ∀ j, j < 10 → kw_u f k x2 j ≤ 10 := fun j hj => by
      unfold kw_u
      split
      · omega
      · exact hf j hj
    refine ih (k + 1) (kw_u f k x2) (by omega) (by omega) hf2 (fun f2 a1 a2 a3 => hK f2 (fun j hj => (a1 j (by omega)).trans (if_neg (by omega))) (fun j h1 h2 => ?_) a3)
    by_cases q : j = k
    · subst q
      rw [a1 j (by omega), show kw_u f j x2 j = x2 from if_pos rfl]
      exact hx2
    · exact a2 j (by omega) h2
set_option maxRecDepth 20000 in
theorem kw_fills {g : kc_G} {d : Nat} {h : kc_H} {n : Nat} {f : Nat → Nat} (hg : kc_ok g) {b : Nat} (hn : n ≤ 10) (hb : b ≤ n) (hf : ∀ j, j < 10 → f j ≤ 10) : kc_Con g (d + 2) 265 [.inr (.inr (.inl (some 259))), .inl (Int32.ofNat b)] (kw_H h n f) (fun rv h' => ∃ f2 : Nat → Nat, rv = some (.inl (Int32.ofNat 1)) ∧ (∀ j, j < b → f2 j = f j) ∧ (∀ j, b ≤ j → j < n → f2 j ≤ j) ∧ (∀ j, j < 10 → f2 j ≤ 10) ∧ h' = (kw_H h n f2)) := by
  refine kc_Con_new hg (M := wk_m265) rfl rfl rfl (show 2 ≤ 3 by decide) ?_
  refine kx_go 2 (pc' := 2) (L' := [(2, .inl (Int32.ofNat b)), (0, .inr (.inr (.inl (some 259)))), (1, .inl (Int32.ofNat b))]) (S' := []) (h' := (kw_H h n f)) (by with_unfolding_all rfl) ?_
  exact kw_fl hg (by omega) hn (n - b) b f rfl hb hf (fun f2 a1 a2 a3 => ⟨f2, rfl, a1, a2, a3, rfl⟩)
