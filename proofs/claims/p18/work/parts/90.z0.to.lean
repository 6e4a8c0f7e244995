section
-- 90.z0
/-! ===== by hand: rows of the reference: isTaken, fillsRow ===== -/
/-- the row and how many -/
def kw_H (h : kc_H) (n : Nat) (f : Nat → Nat) : kc_H := fun c b => if c = 259 then (if b = 34 then .inr (.inr (.inl (some 279))) else if b = 35 then .inl (Int32.ofNat n) else h 259 b) else if c = 279 then (if b < 10 then .inl (Int32.ofNat (f b)) else h 279 b) else h c b
def kw_u (f : Nat → Nat) (k v : Nat) : Nat → Nat := fun j => if j = k then v else f j
theorem kw_r {h : kc_H} {n b : Nat} {f : Nat → Nat} (hb : b < 10) : kw_H h n f 279 b = .inl (Int32.ofNat (f b)) := by
  unfold kw_H
  rw [if_neg (by decide), if_pos rfl, if_pos hb]
theorem kw_w {h : kc_H} {n k v : Nat} {f : Nat → Nat} (hk : k < 10) : kc_upd (kw_H h n f) 279 k (.inl (Int32.ofNat v)) = kw_H h n (kw_u f k v) := by
  funext c b
  unfold kc_upd kw_H kw_u
  by_cases hc : c = 259
  · subst hc
    rw [if_neg (by omega), if_pos rfl, if_pos rfl]
  · rw [if_neg hc, if_neg hc]
    by_cases h2 : c = 279
    · subst h2
      by_cases hb : b = k
      · subst hb
        rw [if_pos ⟨rfl, rfl⟩, if_pos rfl, if_pos hk, if_pos rfl]
      · rw [if_neg (fun q => hb q.2), if_pos rfl, if_pos rfl, if_neg hb]
    · rw [if_neg (fun q => h2 q.1), if_neg h2, if_neg h2]
def kw_t (f : Nat → Nat) (x : Nat) : Nat → Bool
  | 0 => false
  | m + 1 => bif kw_t f x m then true else decide (f m = x)
theorem kw_t_iff {f : Nat → Nat} {x : Nat} : ∀ m, kw_t f x m = true ↔ ∃ i, i < m ∧ f i = x
  | 0 => ⟨fun h => (by cases h), fun h => by obtain ⟨i, hi, -⟩ := h; omega⟩
  | m + 1 => by
    show (bif kw_t f x m then true else decide (f m = x)) = true ↔ _
    cases e : kw_t f x m with
    | true =>
      obtain ⟨i, h1, h2⟩ := (kw_t_iff m).mp e
      exact ⟨fun _ => ⟨i, by omega, h2⟩, fun _ => rfl⟩
    | false =>
      constructor
      · intro h
        exact ⟨m, by omega, of_decide_eq_true h⟩
      · rintro ⟨i, h1, h2⟩
        by_cases hi : i = m
        · subst hi
          exact decide_eq_true h2
        · have := (kw_t_iff m).mpr ⟨i, by omega, h2⟩
          rw [e] at this
          cases this
/-- a value at most k is free -/
theorem kw_free : ∀ (k : Nat) (f : Nat → Nat), ∃ v, v ≤ k ∧ ∀ i, i < k → ¬ f i = v
  | 0, _ => ⟨0, Nat.le_refl _, fun i hi => by omega⟩
  | k + 1, f => by
    obtain ⟨v, h1, h2⟩ := kw_free k (fun i => if f k < f i then f i - 1 else f i)
    by_cases hv : v < f k
    · refine ⟨v, by omega, fun i hi e => ?_⟩
      by_cases hik : i = k
      · subst hik; omega
      · have := h2 i (by omega)
        rw [if_neg (by omega)] at this
        exact this e
    · refine ⟨v + 1, by omega, fun i hi e => ?_⟩
      by_cases hik : i = k
      · subst hik; omega
      · have := h2 i (by omega)
        rw [if_pos (by omega)] at this
        omega
set_option maxRecDepth 20000 in
theorem kw_tkl {g : kc_G} {d : Nat} {Q : Option kc_V → kc_H → Prop} {h : kc_H} {n : Nat} {f : Nat → Nat} {k : Nat} (hk : k < 10) (hf : ∀ j, j < 10 → f j ≤ 10) (hQ : Q (some (.inl (kp_b (kw_t f (f k) k)))) (kw_H h n f)) : ∀ (m i : Nat), k - i = m → i ≤ k → kc_Ev g d wk_m264 Q 4 [(3, .inl (Int32.ofNat i)), (2, .inl (kp_b (kw_t f (f k) i))), (0, .inr (.inr (.inl (some 259)))), (1, .inl (Int32.ofNat k))] [] (kw_H h n f) := by
  intro m
  induction m with
  | zero =>
    intro i hm hi
    refine kx_go 3 (pc' := (if kc_cnd .ge (Int32.ofNat i).toInt (Int32.ofNat k).toInt then 40 else 9)) (L' := [(3, .inl (Int32.ofNat i)), (2, .inl (kp_b (kw_t f (f k) i))), (0, .inr (.inr (.inl (some 259)))), (1, .inl (Int32.ofNat k))]) (S' := []) (h' := (kw_H h n f)) (by with_unfolding_all rfl) ?_
    rw [if_pos ((kx_ge (by omega) (by omega)).mpr (by omega))]
    refine kx_go 1 (pc' := 41) (L' := [(3, .inl (Int32.ofNat i)), (2, .inl (kp_b (kw_t f (f k) i))), (0, .inr (.inr (.inl (some 259)))), (1, .inl (Int32.ofNat k))]) (S' := [.inl (kp_b (kw_t f (f k) i))]) (h' := (kw_H h n f)) (by with_unfolding_all rfl) ?_
    obtain rfl : i = k := by omega
    cases e : kw_t f (f i) i with
    | true => rw [e] at hQ; exact kc_ret_ok rfl (rv := some (.inl (kp_b true))) rfl hQ
    | false => rw [e] at hQ; exact kc_ret_ok rfl (rv := some (.inl (kp_b false))) rfl hQ
  | succ m ih =>
    intro i hm hi
    refine kx_go 3 (pc' := (if kc_cnd .ge (Int32.ofNat i).toInt (Int32.ofNat k).toInt then 40 else 9)) (L' := [(3, .inl (Int32.ofNat i)), (2, .inl (kp_b (kw_t f (f k) i))), (0, .inr (.inr (.inl (some 259)))), (1, .inl (Int32.ofNat k))]) (S' := []) (h' := (kw_H h n f)) (by with_unfolding_all rfl) ?_
    rw [if_neg (fun q => by have := (kx_ge (by omega) (by omega)).mp q; omega)]
    refine kx_go 2 (pc' := (if kc_cnd .ne (kp_b (kw_t f (f k) i)).toInt 0 then 28 else 13)) (L' := [(3, .inl (Int32.ofNat i)), (2, .inl (kp_b (kw_t f (f k) i))), (0, .inr (.inr (.inl (some 259)))), (1, .inl (Int32.ofNat k))]) (S' := []) (h' := (kw_H h n f)) (by with_unfolding_all rfl) ?_
    have ih := ih (i + 1) (by omega) (by omega)
    have ih : kc_Ev g d wk_m264 Q 4 [(3, .inl (Int32.ofNat (i + 1))), (2, .inl (kp_b (bif kw_t f (f k) i then true else decide (f i = f k)))), (0, .inr (.inr (.inl (some 259)))), (1, .inl (Int32.ofNat k))] [] (kw_H h n f) := ih
    cases e : kw_t f (f k) i with
    | true =>
      rw [e] at ih
      rw [if_pos (kx_b1.mpr rfl)]
      refine kx_go 5 (pc' := 4) (L' := [(3, .inl ((Int32.ofNat i) + Int32.ofInt 1)), (2, .inl (Int32.ofNat 1)), (0, .inr (.inr (.inl (some 259)))), (1, .inl (Int32.ofNat k))]) (S' := []) (h' := (kw_H h n f)) (by with_unfolding_all rfl) ?_
      rw [kx_inc]
      exact ih
    | false =>
      rw [e] at ih
      rw [if_neg (fun q => by have := kx_b1.mp q; cases this)]
      refine kx_go 3 (pc' := 18) (L' := [(3, .inl (Int32.ofNat i)), (2, .inl (kp_b false)), (0, .inr (.inr (.inl (some 259)))), (1, .inl (Int32.ofNat k))]) (S' := [.inl (Int32.ofNat i), .inr (.inr (.inl (some 279)))]) (h' := (kw_H h n f)) (by with_unfolding_all rfl) ?_
      refine kx_iald rfl (c := 279) (j := i) (m := 10) rfl (by decide) (by decide) (by omega) (kw_r (by omega)) ?_
      refine kx_go 3 (pc' := 24) (L' := [(3, .inl (Int32.ofNat i)), (2, .inl (kp_b false)), (0, .inr (.inr (.inl (some 259)))), (1, .inl (Int32.ofNat k))]) (S' := [.inl (Int32.ofNat k), .inr (.inr (.inl (some 279))), .inl (Int32.ofNat (f i))]) (h' := (kw_H h n f)) (by with_unfolding_all rfl) ?_
      refine kx_iald rfl (c := 279) (j := k) (m := 10) rfl (by decide) (by decide) (by omega) (kw_r (by omega)) ?_
      have b1 := hf i (by omega)
      have b2 := hf k (by omega)
      refine kx_go 1 (pc' := (if kc_cnd .ne (Int32.ofNat (f i)).toInt (Int32.ofNat (f k)).toInt then 32 else 28)) (L' := [(3, .inl (Int32.ofNat i)), (2, .inl (kp_b false)), (0, .inr (.inr (.inl (some 259)))), (1, .inl (Int32.ofNat k))]) (S' := []) (h' := (kw_H h n f)) (by with_unfolding_all rfl) ?_
      by_cases e2 : f i = f k
      · rw [if_neg (fun q => (kx_ne (by omega) (by omega)).mp q e2)]
        rw [show decide (f i = f k) = true from decide_eq_true e2] at ih
        refine kx_go 5 (pc' := 4) (L' := [(3, .inl ((Int32.ofNat i) + Int32.ofInt 1)), (2, .inl (Int32.ofNat 1)), (0, .inr (.inr (.inl (some 259)))), (1, .inl (Int32.ofNat k))]) (S' := []) (h' := (kw_H h n f)) (by with_unfolding_all rfl) ?_
        rw [kx_inc]
        exact ih
      · rw [if_pos ((kx_ne (by omega) (by omega)).mpr e2)]
        rw [show decide (f i = f k) = false from decide_eq_false e2] at ih
        refine kx_go 4 (pc' := 4) (L' := [(3, .inl ((Int32.ofNat i) + Int32.ofInt 1)), (2, .inl (Int32.ofNat 0)), (0, .inr (.inr (.inl (some 259)))), (1, .inl (Int32.ofNat k))]) (S' := []) (h' := (kw_H h n f)) (by with_unfolding_all rfl) ?_
        rw [kx_inc]
        exact ih
set_option maxRecDepth 20000 in
theorem kw_tk {g : kc_G} {d : Nat} {h : kc_H} {n : Nat} {f : Nat → Nat} (hg : kc_ok g) {k : Nat} (hk : k < 10) (hf : ∀ j, j < 10 → f j ≤ 10) : kc_Con g (d + 1) 264 [.inr (.inr (.inl (some 259))), .inl (Int32.ofNat k)] (kw_H h n f) (fun rv h' => rv = some (.inl (kp_b (kw_t f (f k) k))) ∧ h' = (kw_H h n f)) := by
  refine kc_Con_new hg (M := wk_m264) rfl rfl rfl (show 2 ≤ 4 by decide) ?_
  refine kx_go 4 (pc' := 4) (L' := [(3, .inl (Int32.ofNat 0)), (2, .inl (Int32.ofNat 0)), (0, .inr (.inr (.inl (some 259)))), (1, .inl (Int32.ofNat k))]) (S' := []) (h' := (kw_H h n f)) (by with_unfolding_all rfl) ?_
  exact kw_tkl hk hf ⟨rfl, rfl⟩ k 0 (by omega) (by omega)
set_option maxRecDepth 20000 in
theorem kw_fwl {g : kc_G} {d : Nat} {Q : Option kc_V → kc_H → Prop} {h : kc_H} {n : Nat} {f : Nat → Nat} (hg : kc_ok g) (hd : 1 ≤ d) {k b : Nat} (hk : k < 10) (hf : ∀ j, j < 10 → f j ≤ 10) : ∀ (m x : Nat), k + 1 - x = m → (∀ y, y < x → ∃ i, i < k ∧ f i = y) → (∀ x2, x2 ≤ k → kc_Ev g d wk_m265 Q 38 [(2, .inl (Int32.ofNat k)), (0, .inr (.inr (.inl (some 259)))), (1, .inl (Int32.ofNat b))] [] (kw_H h n (kw_u f k x2))) → kc_Ev g d wk_m265 Q 17 [(2, .inl (Int32.ofNat k)), (0, .inr (.inr (.inl (some 259)))), (1, .inl (Int32.ofNat b))] [] (kw_H h n (kw_u f k x)) := by
  obtain ⟨v, v1, v2⟩ := kw_free k f
  intro m
  induction m with
  | zero =>
    intro x hm hx hK
    exfalso
    have : ¬ v < x := fun q => by
      obtain ⟨i, i1, i2⟩ := hx v q
      exact v2 i i1 i2
    omega
  | succ m ih =>
    intro x hm hx hK
    have hxv : ¬ v < x := fun q => by
      obtain ⟨i, i1, i2⟩ := hx v q
      exact v2 i i1 i2
    have hf2 : ∀ j, j < 10 → kw_u f k x j ≤ 10 := fun j hj => by
      unfold kw_u
      split
      · omega
      · exact hf j hj
    refine kx_go 2 (pc' := 19) (L' := [(2, .inl (Int32.ofNat k)), (0, .inr (.inr (.inl (some 259)))), (1, .inl (Int32.ofNat b))]) (S' := [.inl (Int32.ofNat k), .inr (.inr (.inl (some 259)))]) (h' := (kw_H h n (kw_u f k x))) (by with_unfolding_all rfl) ?_
    refine kc_call_rule (M2 := wk_m264) (av := [.inr (.inr (.inl (some 259))), .inl (Int32.ofNat k)]) (r := []) rfl rfl (kc_Con_le (kw_tk (d := 0) hg hk hf2) hd) (fun rv h' hq => ?_)
    obtain ⟨rfl, rfl⟩ := hq
    show kc_Ev g d wk_m265 Q 22 [(2, .inl (Int32.ofNat k)), (0, .inr (.inr (.inl (some 259)))), (1, .inl (Int32.ofNat b))] [.inl (kp_b (kw_t (kw_u f k x) (kw_u f k x k) k))] (kw_H h n (kw_u f k x))
    refine kx_go 1 (pc' := (if kc_cnd .eq (kp_b (kw_t (kw_u f k x) (kw_u f k x k) k)).toInt 0 then 38 else 25)) (L' := [(2, .inl (Int32.ofNat k)), (0, .inr (.inr (.inl (some 259)))), (1, .inl (Int32.ofNat b))]) (S' := []) (h' := (kw_H h n (kw_u f k x))) (by with_unfolding_all rfl) ?_
    have huk : kw_u f k x k = x := if_pos rfl
    have hui : ∀ i, i < k → kw_u f k x i = f i := fun i hi => if_neg (by omega)
    cases e : kw_t (kw_u f k x) (kw_u f k x k) k with
    | true =>
      rw [if_neg (fun q => by have := kx_b0.mp q; cases this)]
      obtain ⟨i, i1, i2⟩ := (kw_t_iff k).mp e
      rw [huk, hui i i1] at i2
      have hx1 : ∀ y, y < x + 1 → ∃ i, i < k ∧ f i = y := fun y hy => by
        by_cases q : y = x
        · exact ⟨i, i1, by omega⟩
        · exact hx y (by omega)
      refine kx_go 4 (pc' := 31) (L' := [(2, .inl (Int32.ofNat k)), (0, .inr (.inr (.inl (some 259)))), (1, .inl (Int32.ofNat b))]) (S' := [.inl (Int32.ofNat k), .inr (.inr (.inl (some 279))), .inl (Int32.ofNat k), .inr (.inr (.inl (some 279)))]) (h' := (kw_H h n (kw_u f k x))) (by with_unfolding_all rfl) ?_
      refine kx_iald rfl (c := 279) (j := k) (m := 10) (v := .inl (Int32.ofNat x)) rfl (by decide) (by decide) (by omega) ((kw_r (by omega)).trans (by rw [huk])) ?_
      refine kx_go 2 (pc' := 34) (L' := [(2, .inl (Int32.ofNat k)), (0, .inr (.inr (.inl (some 259)))), (1, .inl (Int32.ofNat b))]) (S' := [.inl ((Int32.ofNat x) + (Int32.ofNat 1)), .inl (Int32.ofNat k), .inr (.inr (.inl (some 279)))]) (h' := (kw_H h n (kw_u f k x))) (by with_unfolding_all rfl) ?_
      rw [kx_inc1]
      refine kx_iast rfl (c := 279) (j := k) (m := 10) rfl (by decide) (by decide) (by omega) ?_
      rw [kw_w (by omega)]
      refine kx_go 1 (pc' := 17) (L' := [(2, .inl (Int32.ofNat k)), (0, .inr (.inr (.inl (some 259)))), (1, .inl (Int32.ofNat b))]) (S' := []) (h' := (kw_H h n (kw_u (kw_u f k x) k (x + 1)))) (by with_unfolding_all rfl) ?_
      rw [show kw_u (kw_u f k x) k (x + 1) = kw_u f k (x + 1) from by funext j; unfold kw_u; split <;> rfl]
      exact ih (x + 1) (by omega) hx1 hK
    | false =>
      rw [if_pos (kx_b0.mpr rfl)]
      exact hK x (by omega)
set_option maxRecDepth 20000 in
theorem kw_fl {g : kc_G} {d : Nat} {Q : Option kc_V → kc_H → Prop} {h : kc_H} {n : Nat} (hg : kc_ok g) (hd : 1 ≤ d) {b : Nat} (hn : n ≤ 10) : ∀ (m k : Nat) (f : Nat → Nat), n - k = m → k ≤ n → (∀ j, j < 10 → f j ≤ 10) → (∀ f2 : Nat → Nat, (∀ j, j < k → f2 j = f j) → (∀ j, k ≤ j → j < n → f2 j ≤ j) → (∀ j, j < 10 → f2 j ≤ 10) → Q (some (.inl (Int32.ofNat 1))) (kw_H h n f2)) → kc_Ev g d wk_m265 Q 2 [(2, .inl (Int32.ofNat k)), (0, .inr (.inr (.inl (some 259)))), (1, .inl (Int32.ofNat b))] [] (kw_H h n f) := by
  intro m
  induction m with
  | zero =>
    intro k f hm hk hf hK
    refine kx_go 4 (pc' := (if kc_cnd .ge (Int32.ofNat k).toInt (Int32.ofNat n).toInt then 44 else 10)) (L' := [(2, .inl (Int32.ofNat k)), (0, .inr (.inr (.inl (some 259)))), (1, .inl (Int32.ofNat b))]) (S' := []) (h' := (kw_H h n f)) (by with_unfolding_all rfl) ?_
    rw [if_pos ((kx_ge (by omega) (by omega)).mpr (by omega))]
    refine kx_go 1 (pc' := 45) (L' := [(2, .inl (Int32.ofNat k)), (0, .inr (.inr (.inl (some 259)))), (1, .inl (Int32.ofNat b))]) (S' := [.inl (Int32.ofNat 1)]) (h' := (kw_H h n f)) (by with_unfolding_all rfl) ?_
    exact kc_ret_ok rfl (rv := some (.inl (Int32.ofNat 1))) rfl (hK f (fun _ _ => rfl) (fun j h1 h2 => by omega) hf)
  | succ m ih =>
    intro k f hm hk hf hK
    refine kx_go 4 (pc' := (if kc_cnd .ge (Int32.ofNat k).toInt (Int32.ofNat n).toInt then 44 else 10)) (L' := [(2, .inl (Int32.ofNat k)), (0, .inr (.inr (.inl (some 259)))), (1, .inl (Int32.ofNat b))]) (S' := []) (h' := (kw_H h n f)) (by with_unfolding_all rfl) ?_
    rw [if_neg (fun q => by have := (kx_ge (by omega) (by omega)).mp q; omega)]
    refine kx_go 4 (pc' := 16) (L' := [(2, .inl (Int32.ofNat k)), (0, .inr (.inr (.inl (some 259)))), (1, .inl (Int32.ofNat b))]) (S' := [.inl (Int32.ofNat 0), .inl (Int32.ofNat k), .inr (.inr (.inl (some 279)))]) (h' := (kw_H h n f)) (by with_unfolding_all rfl) ?_
    refine kx_iast rfl (c := 279) (j := k) (m := 10) rfl (by decide) (by decide) (by omega) ?_
    rw [kw_w (by omega)]
    refine kw_fwl hg hd (by omega) hf (k + 1) 0 (by omega) (fun y hy => by omega) (fun x2 hx2 => ?_)
    refine kx_go 2 (pc' := 2) (L' := [(2, .inl ((Int32.ofNat k) + Int32.ofInt 1)), (0, .inr (.inr (.inl (some 259)))), (1, .inl (Int32.ofNat b))]) (S' := []) (h' := (kw_H h n (kw_u f k x2))) (by with_unfolding_all rfl) ?_
    rw [kx_inc]
    have hf2 : ∀ j, j < 10 → kw_u f k x2 j ≤ 10 := fun j hj => by
      unfold kw_u
      split
      · omega
      · exact hf j hj
    refine ih (k + 1) (kw_u f k x2) (by omega) (by omega) hf2 (fun f2 a1 a2 a3 => hK f2 (fun j hj => (a1 j (by omega)).trans (if_neg (by omega))) (fun j h1 h2 => ?_) a3)
    by_cases q : j = k
    · subst q
      rw [a1 j (by omega), show kw_u f j x2 j = x2 from if_pos rfl]
      exact hx2
    · exact a2 j (by omega) h2
set_option maxRecDepth 20000 in
theorem kw_fills {g : kc_G} {d : Nat} {h : kc_H} {n : Nat} {f : Nat → Nat} (hg : kc_ok g) {b : Nat} (hn : n ≤ 10) (hb : b ≤ n) (hf : ∀ j, j < 10 → f j ≤ 10) : kc_Con g (d + 2) 265 [.inr (.inr (.inl (some 259))), .inl (Int32.ofNat b)] (kw_H h n f) (fun rv h' => ∃ f2 : Nat → Nat, rv = some (.inl (Int32.ofNat 1)) ∧ (∀ j, j < b → f2 j = f j) ∧ (∀ j, b ≤ j → j < n → f2 j ≤ j) ∧ (∀ j, j < 10 → f2 j ≤ 10) ∧ h' = (kw_H h n f2)) := by
  refine kc_Con_new hg (M := wk_m265) rfl rfl rfl (show 2 ≤ 3 by decide) ?_
  refine kx_go 2 (pc' := 2) (L' := [(2, .inl (Int32.ofNat b)), (0, .inr (.inr (.inl (some 259)))), (1, .inl (Int32.ofNat b))]) (S' := []) (h' := (kw_H h n f)) (by with_unfolding_all rfl) ?_
  exact kw_fl hg (by omega) hn (n - b) b f rfl hb hf (fun f2 a1 a2 a3 => ⟨f2, rfl, a1, a2, a3, rfl⟩)
end
section
-- 90.z1
/-! ===== by hand: nextRow ===== -/
set_option maxRecDepth 20000 in
theorem kw_nwl {g : kc_G} {d : Nat} {Q : Option kc_V → kc_H → Prop} {h : kc_H} {n : Nat} {f : Nat → Nat} (hg : kc_ok g) (hd : 2 ≤ d) (hn : n ≤ 10) {k : Nat} (hk : k < 10) (hf : ∀ j, j < 10 → f j ≤ 10) : ∀ (m x : Nat), n - x = m → x ≤ n → (∀ x2, x ≤ x2 → x2 ≤ n → kc_Ev g d wk_m133 Q 55 [(1, .inl (Int32.ofNat k)), (0, .inr (.inr (.inl (some 259))))] [] (kw_H h n (kw_u f k x2))) → kc_Ev g d wk_m133 Q 21 [(1, .inl (Int32.ofNat k)), (0, .inr (.inr (.inl (some 259))))] [] (kw_H h n (kw_u f k x)) := by
  intro m
  induction m with
  | zero =>
    intro x hm hx hK
    have huk : ∀ x, kw_u f k x k = x := fun x => if_pos rfl
    refine kx_go 3 (pc' := 26) (L' := [(1, .inl (Int32.ofNat k)), (0, .inr (.inr (.inl (some 259))))]) (S' := [.inl (Int32.ofNat k), .inr (.inr (.inl (some 279)))]) (h' := (kw_H h n (kw_u f k x))) (by with_unfolding_all rfl) ?_
    refine kx_iald rfl (c := 279) (j := k) (m := 10) (v := .inl (Int32.ofNat x)) rfl (by decide) (by decide) (by omega) ((kw_r (by omega)).trans (by rw [huk])) ?_
    refine kx_go 3 (pc' := (if kc_cnd .ge (Int32.ofNat x).toInt (Int32.ofNat n).toInt then 55 else 34)) (L' := [(1, .inl (Int32.ofNat k)), (0, .inr (.inr (.inl (some 259))))]) (S' := []) (h' := (kw_H h n (kw_u f k x))) (by with_unfolding_all rfl) ?_
    rw [if_pos ((kx_ge (by omega) (by omega)).mpr (by omega))]
    exact hK x (Nat.le_refl _) hx
  | succ m ih =>
    intro x hm hx hK
    have huk : ∀ x, kw_u f k x k = x := fun x => if_pos rfl
    refine kx_go 3 (pc' := 26) (L' := [(1, .inl (Int32.ofNat k)), (0, .inr (.inr (.inl (some 259))))]) (S' := [.inl (Int32.ofNat k), .inr (.inr (.inl (some 279)))]) (h' := (kw_H h n (kw_u f k x))) (by with_unfolding_all rfl) ?_
    refine kx_iald rfl (c := 279) (j := k) (m := 10) (v := .inl (Int32.ofNat x)) rfl (by decide) (by decide) (by omega) ((kw_r (by omega)).trans (by rw [huk])) ?_
    refine kx_go 3 (pc' := (if kc_cnd .ge (Int32.ofNat x).toInt (Int32.ofNat n).toInt then 55 else 34)) (L' := [(1, .inl (Int32.ofNat k)), (0, .inr (.inr (.inl (some 259))))]) (S' := []) (h' := (kw_H h n (kw_u f k x))) (by with_unfolding_all rfl) ?_
    rw [if_neg (fun q => by have := (kx_ge (by omega) (by omega)).mp q; omega)]
    have hf2 : ∀ j, j < 10 → kw_u f k x j ≤ 10 := fun j hj => by
      unfold kw_u
      split
      · omega
      · exact hf j hj
    refine kx_go 2 (pc' := 36) (L' := [(1, .inl (Int32.ofNat k)), (0, .inr (.inr (.inl (some 259))))]) (S' := [.inl (Int32.ofNat k), .inr (.inr (.inl (some 259)))]) (h' := (kw_H h n (kw_u f k x))) (by with_unfolding_all rfl) ?_
    refine kc_call_rule (M2 := wk_m264) (av := [.inr (.inr (.inl (some 259))), .inl (Int32.ofNat k)]) (r := []) rfl rfl (kc_Con_le (kw_tk (d := 0) hg hk hf2) (by omega)) (fun rv h' hq => ?_)
    obtain ⟨rfl, rfl⟩ := hq
    show kc_Ev g d wk_m133 Q 39 [(1, .inl (Int32.ofNat k)), (0, .inr (.inr (.inl (some 259))))] [.inl (kp_b (kw_t (kw_u f k x) (kw_u f k x k) k))] (kw_H h n (kw_u f k x))
    refine kx_go 1 (pc' := (if kc_cnd .eq (kp_b (kw_t (kw_u f k x) (kw_u f k x k) k)).toInt 0 then 55 else 42)) (L' := [(1, .inl (Int32.ofNat k)), (0, .inr (.inr (.inl (some 259))))]) (S' := []) (h' := (kw_H h n (kw_u f k x))) (by with_unfolding_all rfl) ?_
    cases e : kw_t (kw_u f k x) (kw_u f k x k) k with
    | true =>
      rw [if_neg (fun q => by have := kx_b0.mp q; cases this)]
      refine kx_go 4 (pc' := 48) (L' := [(1, .inl (Int32.ofNat k)), (0, .inr (.inr (.inl (some 259))))]) (S' := [.inl (Int32.ofNat k), .inr (.inr (.inl (some 279))), .inl (Int32.ofNat k), .inr (.inr (.inl (some 279)))]) (h' := (kw_H h n (kw_u f k x))) (by with_unfolding_all rfl) ?_
      refine kx_iald rfl (c := 279) (j := k) (m := 10) (v := .inl (Int32.ofNat x)) rfl (by decide) (by decide) (by omega) ((kw_r (by omega)).trans (by rw [huk])) ?_
      refine kx_go 2 (pc' := 51) (L' := [(1, .inl (Int32.ofNat k)), (0, .inr (.inr (.inl (some 259))))]) (S' := [.inl ((Int32.ofNat x) + (Int32.ofNat 1)), .inl (Int32.ofNat k), .inr (.inr (.inl (some 279)))]) (h' := (kw_H h n (kw_u f k x))) (by with_unfolding_all rfl) ?_
      rw [kx_inc1]
      refine kx_iast rfl (c := 279) (j := k) (m := 10) rfl (by decide) (by decide) (by omega) ?_
      rw [kw_w (by omega)]
      refine kx_go 1 (pc' := 21) (L' := [(1, .inl (Int32.ofNat k)), (0, .inr (.inr (.inl (some 259))))]) (S' := []) (h' := (kw_H h n (kw_u (kw_u f k x) k (x + 1)))) (by with_unfolding_all rfl) ?_
      rw [show kw_u (kw_u f k x) k (x + 1) = kw_u f k (x + 1) from by funext j; unfold kw_u; split <;> rfl]
      exact ih (x + 1) (by omega) (by omega) (fun x2 h1 h2 => hK x2 (by omega) h2)
    | false =>
      rw [if_pos (kx_b0.mpr rfl)]
      exact hK x (Nat.le_refl _) hx
set_option maxRecDepth 20000 in
theorem kw_nl {g : kc_G} {d : Nat} {Q : Option kc_V → kc_H → Prop} {h : kc_H} {n : Nat} (hg : kc_ok g) (hd : 2 ≤ d) (hn : n ≤ 10) : ∀ (k1 : Nat) (f : Nat → Nat), k1 ≤ n → (∀ j, j < 10 → f j ≤ 10) → ((∀ j, j < k1 → f j < n) ∧ ∀ (k : Nat) (f2 : Nat → Nat), k < k1 → (∀ j, j < k → f2 j = f j) → f k < f2 k → f2 k < n → (∀ j, k < j → j < n → f2 j ≤ j) → (∀ j, j < 10 → f2 j ≤ 10) → Q (some (.inl (Int32.ofNat 1))) (kw_H h n f2)) → (∀ f2 : Nat → Nat, (∀ j, j < 10 → f2 j ≤ 10) → Q (some (.inl (Int32.ofNat 0))) (kw_H h n f2)) → kc_Ev g d wk_m133 Q 7 [(1, .inl (match k1 with | 0 => Int32.ofInt (-1) | k + 1 => Int32.ofNat k)), (0, .inr (.inr (.inl (some 259))))] [] (kw_H h n f) := by
  intro k1
  induction k1 with
  | zero =>
    intro f hk hf hK1 hK0
    refine kx_go 2 (pc' := (if kc_cnd .lt (Int32.ofInt (-1)).toInt 0 then 82 else 11)) (L' := [(1, .inl (Int32.ofInt (-1))), (0, .inr (.inr (.inl (some 259))))]) (S' := []) (h' := (kw_H h n f)) (by with_unfolding_all rfl) ?_
    rw [if_pos (by decide)]
    refine kx_go 1 (pc' := 83) (L' := [(1, .inl (Int32.ofInt (-1))), (0, .inr (.inr (.inl (some 259))))]) (S' := [.inl (Int32.ofNat 0)]) (h' := (kw_H h n f)) (by with_unfolding_all rfl) ?_
    exact kc_ret_ok rfl (rv := some (.inl (Int32.ofNat 0))) rfl (hK0 f hf)
  | succ k ih =>
    intro f hk hf hK1 hK0
    have hfk := hf k (by omega)
    show kc_Ev g d wk_m133 Q 7 [(1, .inl (Int32.ofNat k)), (0, .inr (.inr (.inl (some 259))))] [] (kw_H h n f)
    refine kx_go 2 (pc' := (if kc_cnd .lt (Int32.ofNat k).toInt 0 then 82 else 11)) (L' := [(1, .inl (Int32.ofNat k)), (0, .inr (.inr (.inl (some 259))))]) (S' := []) (h' := (kw_H h n f)) (by with_unfolding_all rfl) ?_
    rw [if_neg (fun q => by unfold kc_cnd at q; rw [kx_ti (by omega)] at q; simp only [decide_eq_true_eq] at q; omega)]
    refine kx_go 4 (pc' := 17) (L' := [(1, .inl (Int32.ofNat k)), (0, .inr (.inr (.inl (some 259))))]) (S' := [.inl (Int32.ofNat k), .inr (.inr (.inl (some 279))), .inl (Int32.ofNat k), .inr (.inr (.inl (some 279)))]) (h' := (kw_H h n f)) (by with_unfolding_all rfl) ?_
    refine kx_iald rfl (c := 279) (j := k) (m := 10) rfl (by decide) (by decide) (by omega) (kw_r (by omega)) ?_
    refine kx_go 2 (pc' := 20) (L' := [(1, .inl (Int32.ofNat k)), (0, .inr (.inr (.inl (some 259))))]) (S' := [.inl ((Int32.ofNat (f k)) + (Int32.ofNat 1)), .inl (Int32.ofNat k), .inr (.inr (.inl (some 279)))]) (h' := (kw_H h n f)) (by with_unfolding_all rfl) ?_
    have hfn := hK1.1 k (by omega)
    rw [kx_inc1]
    refine kx_iast rfl (c := 279) (j := k) (m := 10) rfl (by decide) (by decide) (by omega) ?_
    rw [kw_w (by omega)]
    refine kw_nwl hg hd hn (by omega) hf (n - (f k + 1)) (f k + 1) rfl (by omega) (fun x h1 h2 => ?_)
    have huk : ∀ x, kw_u f k x k = x := fun x => if_pos rfl
    have hf2 : ∀ j, j < 10 → kw_u f k x j ≤ 10 := fun j hj => by
      unfold kw_u
      split
      · omega
      · exact hf j hj
    refine kx_go 3 (pc' := 60) (L' := [(1, .inl (Int32.ofNat k)), (0, .inr (.inr (.inl (some 259))))]) (S' := [.inl (Int32.ofNat k), .inr (.inr (.inl (some 279)))]) (h' := (kw_H h n (kw_u f k x))) (by with_unfolding_all rfl) ?_
    refine kx_iald rfl (c := 279) (j := k) (m := 10) (v := .inl (Int32.ofNat x)) rfl (by decide) (by decide) (by omega) ((kw_r (by omega)).trans (by rw [huk])) ?_
    refine kx_go 3 (pc' := (if kc_cnd .ge (Int32.ofNat x).toInt (Int32.ofNat n).toInt then 76 else 68)) (L' := [(1, .inl (Int32.ofNat k)), (0, .inr (.inr (.inl (some 259))))]) (S' := []) (h' := (kw_H h n (kw_u f k x))) (by with_unfolding_all rfl) ?_
    by_cases e : n ≤ x
    · rw [if_pos ((kx_ge (by omega) (by omega)).mpr e)]
      refine kx_go 2 (pc' := 7) (L' := [(1, .inl ((Int32.ofNat k) + Int32.ofInt (-1))), (0, .inr (.inr (.inl (some 259))))]) (S' := []) (h' := (kw_H h n (kw_u f k x))) (by with_unfolding_all rfl) ?_
      have hih := ih (kw_u f k x) (by omega) hf2 ⟨fun j hj => by unfold kw_u; rw [if_neg (by omega)]; exact hK1.1 j (by omega), fun k2 f2 b0 b1 b2 b3 b4 b5 => hK1.2 k2 f2 (by omega) (fun j hj => (b1 j hj).trans (if_neg (by omega))) (by have : kw_u f k x k2 = f k2 := if_neg (by omega); omega) b3 b4 b5⟩ hK0
      cases k with
      | zero =>
        exact hih
      | succ k =>
        rw [show Int32.ofNat (k + 1) + Int32.ofInt (-1) = Int32.ofNat k from by rw [← kx_inc1]; rw [show (Int32.ofInt (-1)) = - Int32.ofNat 1 from by decide, ← Int32.sub_eq_add_neg, Int32.add_sub_cancel]]
        exact hih
    · rw [if_neg (fun q => e ((kx_ge (by omega) (by omega)).mp q))]
      refine kx_go 4 (pc' := 72) (L' := [(1, .inl (Int32.ofNat k)), (0, .inr (.inr (.inl (some 259))))]) (S' := [.inl ((Int32.ofNat k) + (Int32.ofNat 1)), .inr (.inr (.inl (some 259)))]) (h' := (kw_H h n (kw_u f k x))) (by with_unfolding_all rfl) ?_
      rw [kx_inc1]
      refine kc_call_rule (M2 := wk_m265) (av := [.inr (.inr (.inl (some 259))), .inl (Int32.ofNat (k + 1))]) (r := []) rfl rfl (kc_Con_le (kw_fills (d := 0) hg hn (by omega) hf2) hd) (fun rv h' hq => ?_)
      obtain ⟨f2, rfl, a1, a2, a3, rfl⟩ := hq
      refine kc_ret_ok rfl (rv := some (.inl (Int32.ofNat 1))) rfl (hK1.2 k f2 (by omega) (fun j hj => (a1 j (by omega)).trans (if_neg (by omega))) ?_ ?_ (fun j h3 h4 => a2 j (by omega) h4) a3)
      · rw [a1 k (by omega), huk]; omega
      · rw [a1 k (by omega), huk]; omega
/-- what nextRow leaves behind -/
def kw_Q (h : kc_H) (n : Nat) (f : Nat → Nat) : Option kc_V → kc_H → Prop := fun rv h' => (∃ (k : Nat) (f2 : Nat → Nat), rv = some (.inl (Int32.ofNat 1)) ∧ k < n ∧ (∀ j, j < k → f2 j = f j) ∧ f k < f2 k ∧ f2 k < n ∧ (∀ j, k < j → j < n → f2 j ≤ j) ∧ (∀ j, j < 10 → f2 j ≤ 10) ∧ h' = kw_H h n f2) ∨ ∃ f2 : Nat → Nat, rv = some (.inl (Int32.ofNat 0)) ∧ (∀ j, j < 10 → f2 j ≤ 10) ∧ h' = kw_H h n f2
set_option maxRecDepth 20000 in
theorem kw_next {g : kc_G} {d : Nat} {h : kc_H} {n : Nat} {f : Nat → Nat} (hg : kc_ok g) (hn : n ≤ 10) (hf : ∀ j, j < 10 → f j ≤ 10) (hfn : ∀ j, j < n → f j < n) : kc_Con g (d + 3) 133 [.inr (.inr (.inl (some 259)))] (kw_H h n f) (kw_Q h n f) := by
  refine kc_Con_new hg (M := wk_m133) rfl rfl rfl (show 1 ≤ 2 by decide) ?_
  refine kx_go 5 (pc' := 7) (L' := [(1, .inl (Int32.ofNat n - Int32.ofNat 1)), (0, .inr (.inr (.inl (some 259))))]) (S' := []) (h' := (kw_H h n f)) (by with_unfolding_all rfl) ?_
  have key := kw_nl (d := d + 2) (h := h) (n := n) (Q := kw_Q h n f) hg (by omega) hn n f (Nat.le_refl _) hf ⟨hfn, fun k f2 b0 b1 b2 b3 b4 b5 => Or.inl ⟨k, f2, rfl, b0, b1, b2, b3, b4, b5, rfl⟩⟩ (fun f2 b => Or.inr ⟨f2, rfl, b, rfl⟩)
  cases n with
  | zero => exact key
  | succ n =>
    rw [kx_sub (by omega)]
    exact key
end
section
-- 91.z0
/-! ===== by hand: copies of the reference's rows ===== -/
/-- the model's rows -/
def kz (h : kc_H) : kc_H := fun c b => if c = 259 then (if b = 0 then .inr (.inr (.inl (some 260))) else if b = 1 then .inr (.inr (.inl (some 261))) else if b = 2 then .inr (.inr (.inl (some 262))) else if b = 3 then .inr (.inr (.inl (some 263))) else h 259 b) else h c b
theorem kz_o {h : kc_H} {c b : Nat} (hc : ¬ c = 259) : kz h c b = h c b := if_neg hc
theorem kz_id {h : kc_H} (h0 : h 259 0 = .inr (.inr (.inl (some 260)))) (h1 : h 259 1 = .inr (.inr (.inl (some 261)))) (h2 : h 259 2 = .inr (.inr (.inl (some 262)))) (h3 : h 259 3 = .inr (.inr (.inl (some 263)))) : kz h = h := by
  funext c b
  unfold kz
  split
  · rename_i e
    subst e
    split
    · rename_i e; subst e; exact h0.symm
    · split
      · rename_i e; subst e; exact h1.symm
      · split
        · rename_i e; subst e; exact h2.symm
        · split
          · rename_i e; subst e; exact h3.symm
          · rfl
  · rfl
/-- k places copied -/
def kz_cp (h : kc_H) (c1 o1 c2 o2 k : Nat) : kc_H := fun c b => if c = c1 ∧ (o1 ≤ b ∧ b < o1 + k) then h c2 (o2 + (b - o1)) else h c b
theorem kz_0 {h : kc_H} {c1 o1 c2 o2 : Nat} : kz_cp h c1 o1 c2 o2 0 = h := by
  funext c b
  unfold kz_cp
  rw [if_neg (by omega)]
theorem kz_s {h : kc_H} {c1 o1 c2 o2 k : Nat} {w : kc_V} (hw : h c2 (o2 + k) = w) : kc_upd (kz_cp h c1 o1 c2 o2 k) c1 (o1 + k) w = kz_cp h c1 o1 c2 o2 (k + 1) := by
  funext c b
  unfold kc_upd kz_cp
  by_cases hc : c = c1
  · subst hc
    by_cases hb : b = o1 + k
    · subst hb
      rw [if_pos ⟨rfl, rfl⟩, if_pos ⟨rfl, by omega, by omega⟩, show o1 + k - o1 = k from by omega, hw]
    · rw [if_neg (fun q => hb q.2)]
      by_cases hr : o1 ≤ b ∧ b < o1 + k
      · rw [if_pos ⟨rfl, hr⟩, if_pos ⟨rfl, by omega, by omega⟩]
      · rw [if_neg (fun q => hr q.2), if_neg (fun q => hr ⟨q.2.1, by omega⟩)]
  · rw [if_neg (fun q => hc q.1), if_neg (fun q => hc q.1), if_neg (fun q => hc q.1)]
theorem kz_n {h : kc_H} {c1 o1 c2 o2 k c b : Nat} (hc : ¬ c = c1) : kz_cp h c1 o1 c2 o2 k c b = h c b := if_neg (fun q => hc q.1)
section KZR
variable {g : kc_G} {d : Nat} {M : wk_M} {Q : Option kc_V → kc_H → Prop} {pc : Nat} {AL : kc_L} {AS : List kc_V} {h : kc_H} {n : Nat} {x : Nat × Nat × Int} {wd : List Nat} {t : Nat} {a : Int}
theorem kx_bast {c j m : Nat} {w : Bool} (hf : wk_fetch M pc = some (pc, .bastore, n, x, wd, t, a)) (hs : kc_shp c = some (0, 1, m)) (hc : c < kc_N) (hm : m < 2147483648) (hj : j < m) (k : kc_Ev g d M Q (pc + 1) AL AS (kc_upd h c j (.inl (kp_b w)))) : kc_Ev g d M Q pc AL (.inl (kp_b w) :: .inl (Int32.ofNat j) :: .inr (.inr (.inl (some c))) :: AS) h := by
  refine kc_heap_ok hf (dd := 1) (AS' := AS) (h' := kc_upd h c j (.inl (kp_b w))) ?_ k
  show ((kc_ary (.inr (.inr (.inl (some c))))).bind fun q => if q.2.1 = 1 ∧ wk_fit [] 1 (kc_e (.inl (kp_b w))) then (kc_ix (.inl (Int32.ofNat j)) q.2.2).map fun j => (1, AS, kc_upd h q.1 j (.inl (kp_b w))) else none) = _
  rw [kx_ary hs hc]
  simp only [Option.bind_some]
  rw [if_pos ⟨trivial, by cases w <;> decide⟩, kx_ix hm hj]
  rfl
theorem kx_bald {c j m : Nat} {v : kc_V} (hf : wk_fetch M pc = some (pc, .baload, n, x, wd, t, a)) (hs : kc_shp c = some (0, 1, m)) (hc : c < kc_N) (hm : m < 2147483648) (hj : j < m) (hv : h c j = v) (k : kc_Ev g d M Q (pc + 1) AL (v :: AS) h) : kc_Ev g d M Q pc AL (.inl (Int32.ofNat j) :: .inr (.inr (.inl (some c))) :: AS) h := by
  refine kc_heap_ok hf (dd := 1) (AS' := v :: AS) (h' := h) ?_ k
  show ((kc_ary (.inr (.inr (.inl (some c))))).bind fun q => if q.2.1 = 1 then (kc_ix (.inl (Int32.ofNat j)) q.2.2).map fun j => (1, h q.1 j :: AS, h) else none) = _
  rw [kx_ary hs hc]
  simp only [Option.bind_some, if_true]
  rw [kx_ix hm hj]
  simp only [Option.map_some]
  rw [hv]
end KZR
set_option maxRecDepth 20000 in
theorem kz_img {g : kc_G} {d : Nat} {Q : Option kc_V → kc_H → Prop} {h : kc_H} {i : Nat} (hi : i < 2) (hs : ∀ k, k < 650 → ∃ z : Int32, h 260 (k) = .inl z) : ∀ (m k : Nat), 650 - k = m → k ≤ 650 → kc_Ev g d wk_m158 Q 46 [(2, .inl (Int32.ofNat 650)), (0, .inr (.inr (.inl (some 259)))), (1, .inl (Int32.ofNat i))] [] (kz_cp (kz h) 261 (650 * i) 260 0 650) → kc_Ev g d wk_m158 Q 15 [(2, .inl (Int32.ofNat k)), (0, .inr (.inr (.inl (some 259)))), (1, .inl (Int32.ofNat i))] [] (kz_cp (kz h) 261 (650 * i) 260 0 k) := by
  intro m
  induction m with
  | zero =>
    intro k hm hk K
    refine kx_go 3 (pc' := (if kc_cnd .ge (Int32.ofNat k).toInt (Int32.ofNat 650).toInt then 46 else 22)) (L' := [(2, .inl (Int32.ofNat k)), (0, .inr (.inr (.inl (some 259)))), (1, .inl (Int32.ofNat i))]) (S' := []) (h' := (kz_cp (kz h) 261 (650 * i) 260 0 k)) (by with_unfolding_all rfl) ?_
    rw [if_pos ((kx_ge (by omega) (by omega)).mpr (by omega))]
    obtain rfl : k = 650 := by omega
    exact K
  | succ m ih =>
    intro k hm hk K
    refine kx_go 3 (pc' := (if kc_cnd .ge (Int32.ofNat k).toInt (Int32.ofNat 650).toInt then 46 else 22)) (L' := [(2, .inl (Int32.ofNat k)), (0, .inr (.inr (.inl (some 259)))), (1, .inl (Int32.ofNat i))]) (S' := []) (h' := (kz_cp (kz h) 261 (650 * i) 260 0 k)) (by with_unfolding_all rfl) ?_
    rw [if_neg (fun q => by have := (kx_ge (by omega) (by omega)).mp q; omega)]
    obtain ⟨z, hz⟩ := hs k (by omega)
    refine kx_go 10 (pc' := 38) (L' := [(2, .inl (Int32.ofNat k)), (0, .inr (.inr (.inl (some 259)))), (1, .inl (Int32.ofNat i))]) (S' := [.inl (Int32.ofNat k), .inr (.inr (.inl (some 260))), .inl (((Int32.ofNat 650) * (Int32.ofNat i)) + (Int32.ofNat k)), .inr (.inr (.inl (some 261)))]) (h' := (kz_cp (kz h) 261 (650 * i) 260 0 k)) (by with_unfolding_all rfl) ?_
    rw [kx_mul, kx_add]
    refine kx_iald rfl (c := 260) (j := k) (m := 650) (v := .inl z) rfl (by decide) (by decide) (by omega) ((kz_n (by decide)).trans ((kz_o (by decide)).trans hz)) ?_
    refine kx_iast rfl (c := 261) (j := 650 * i + k) (m := 1300) rfl (by decide) (by decide) (by omega) ?_
    rw [kz_s (w := .inl z) ((kz_o (by decide)).trans (by rw [Nat.zero_add]; exact hz))]
    refine kx_go 2 (pc' := 15) (L' := [(2, .inl ((Int32.ofNat k) + Int32.ofInt 1)), (0, .inr (.inr (.inl (some 259)))), (1, .inl (Int32.ofNat i))]) (S' := []) (h' := (kz_cp (kz h) 261 (650 * i) 260 0 (k + 1))) (by with_unfolding_all rfl) ?_
    rw [kx_inc]
    exact ih (k + 1) (by omega) (by omega) K
set_option maxRecDepth 20000 in
theorem kz_frm {g : kc_G} {d : Nat} {Q : Option kc_V → kc_H → Prop} {h : kc_H} {i : Nat} (hi : i < 2) (hs : ∀ k, k < 650 → ∃ z : Int32, h 261 (650 * i + k) = .inl z) : ∀ (m k : Nat), 650 - k = m → k ≤ 650 → kc_Ev g d wk_m160 Q 58 [(2, .inl (Int32.ofNat 650)), (0, .inr (.inr (.inl (some 259)))), (1, .inl (Int32.ofNat i))] [] (kz_cp (kz h) 260 0 261 (650 * i) 650) → kc_Ev g d wk_m160 Q 27 [(2, .inl (Int32.ofNat k)), (0, .inr (.inr (.inl (some 259)))), (1, .inl (Int32.ofNat i))] [] (kz_cp (kz h) 260 0 261 (650 * i) k) := by
  intro m
  induction m with
  | zero =>
    intro k hm hk K
    refine kx_go 3 (pc' := (if kc_cnd .ge (Int32.ofNat k).toInt (Int32.ofNat 650).toInt then 58 else 34)) (L' := [(2, .inl (Int32.ofNat k)), (0, .inr (.inr (.inl (some 259)))), (1, .inl (Int32.ofNat i))]) (S' := []) (h' := (kz_cp (kz h) 260 0 261 (650 * i) k)) (by with_unfolding_all rfl) ?_
    rw [if_pos ((kx_ge (by omega) (by omega)).mpr (by omega))]
    obtain rfl : k = 650 := by omega
    exact K
  | succ m ih =>
    intro k hm hk K
    refine kx_go 3 (pc' := (if kc_cnd .ge (Int32.ofNat k).toInt (Int32.ofNat 650).toInt then 58 else 34)) (L' := [(2, .inl (Int32.ofNat k)), (0, .inr (.inr (.inl (some 259)))), (1, .inl (Int32.ofNat i))]) (S' := []) (h' := (kz_cp (kz h) 260 0 261 (650 * i) k)) (by with_unfolding_all rfl) ?_
    rw [if_neg (fun q => by have := (kx_ge (by omega) (by omega)).mp q; omega)]
    obtain ⟨z, hz⟩ := hs k (by omega)
    refine kx_go 10 (pc' := 50) (L' := [(2, .inl (Int32.ofNat k)), (0, .inr (.inr (.inl (some 259)))), (1, .inl (Int32.ofNat i))]) (S' := [.inl (((Int32.ofNat 650) * (Int32.ofNat i)) + (Int32.ofNat k)), .inr (.inr (.inl (some 261))), .inl (Int32.ofNat k), .inr (.inr (.inl (some 260)))]) (h' := (kz_cp (kz h) 260 0 261 (650 * i) k)) (by with_unfolding_all rfl) ?_
    rw [kx_mul, kx_add]
    refine kx_iald rfl (c := 261) (j := 650 * i + k) (m := 1300) (v := .inl z) rfl (by decide) (by decide) (by omega) ((kz_n (by decide)).trans ((kz_o (by decide)).trans hz)) ?_
    refine kx_iast rfl (c := 260) (j := k) (m := 650) rfl (by decide) (by decide) (by omega) ?_
    have e0 : k = 0 + k := by omega
    rw [show kc_upd (kz_cp (kz h) 260 0 261 (650 * i) k) 260 k (.inl z) = kc_upd (kz_cp (kz h) 260 0 261 (650 * i) k) 260 (0 + k) (.inl z) from by rw [Nat.zero_add]]
    rw [kz_s (w := .inl z) ((kz_o (by decide)).trans hz)]
    refine kx_go 2 (pc' := 27) (L' := [(2, .inl ((Int32.ofNat k) + Int32.ofInt 1)), (0, .inr (.inr (.inl (some 259)))), (1, .inl (Int32.ofNat i))]) (S' := []) (h' := (kz_cp (kz h) 260 0 261 (650 * i) (k + 1))) (by with_unfolding_all rfl) ?_
    rw [kx_inc]
    exact ih (k + 1) (by omega) (by omega) K
set_option maxRecDepth 20000 in
theorem kz_dy1 {g : kc_G} {d : Nat} {Q : Option kc_V → kc_H → Prop} {h : kc_H}  (hs : ∀ k, k < 650 → ∃ z : Int32, h 260 (k) = .inl z) : ∀ (m k : Nat), 650 - k = m → k ≤ 650 → kc_Ev g d wk_m71 Q 43 [(1, .inl (Int32.ofNat 650)), (0, .inr (.inr (.inl (some 259))))] [] (kz_cp (kz h) 263 0 260 0 650) → kc_Ev g d wk_m71 Q 18 [(1, .inl (Int32.ofNat k)), (0, .inr (.inr (.inl (some 259))))] [] (kz_cp (kz h) 263 0 260 0 k) := by
  intro m
  induction m with
  | zero =>
    intro k hm hk K
    refine kx_go 3 (pc' := (if kc_cnd .ge (Int32.ofNat k).toInt (Int32.ofNat 650).toInt then 43 else 25)) (L' := [(1, .inl (Int32.ofNat k)), (0, .inr (.inr (.inl (some 259))))]) (S' := []) (h' := (kz_cp (kz h) 263 0 260 0 k)) (by with_unfolding_all rfl) ?_
    rw [if_pos ((kx_ge (by omega) (by omega)).mpr (by omega))]
    obtain rfl : k = 650 := by omega
    exact K
  | succ m ih =>
    intro k hm hk K
    refine kx_go 3 (pc' := (if kc_cnd .ge (Int32.ofNat k).toInt (Int32.ofNat 650).toInt then 43 else 25)) (L' := [(1, .inl (Int32.ofNat k)), (0, .inr (.inr (.inl (some 259))))]) (S' := []) (h' := (kz_cp (kz h) 263 0 260 0 k)) (by with_unfolding_all rfl) ?_
    rw [if_neg (fun q => by have := (kx_ge (by omega) (by omega)).mp q; omega)]
    obtain ⟨z, hz⟩ := hs k (by omega)
    refine kx_go 6 (pc' := 35) (L' := [(1, .inl (Int32.ofNat k)), (0, .inr (.inr (.inl (some 259))))]) (S' := [.inl (Int32.ofNat k), .inr (.inr (.inl (some 260))), .inl (Int32.ofNat k), .inr (.inr (.inl (some 263)))]) (h' := (kz_cp (kz h) 263 0 260 0 k)) (by with_unfolding_all rfl) ?_
    refine kx_iald rfl (c := 260) (j := k) (m := 650) (v := .inl z) rfl (by decide) (by decide) (by omega) ((kz_n (by decide)).trans ((kz_o (by decide)).trans hz)) ?_
    refine kx_iast rfl (c := 263) (j := k) (m := 650) rfl (by decide) (by decide) (by omega) ?_
    rw [show kc_upd (kz_cp (kz h) 263 0 260 0 k) 263 k (.inl z) = kc_upd (kz_cp (kz h) 263 0 260 0 k) 263 (0 + k) (.inl z) from by rw [Nat.zero_add]]
    rw [kz_s (w := .inl z) ((kz_o (by decide)).trans (by rw [Nat.zero_add]; exact hz))]
    refine kx_go 2 (pc' := 18) (L' := [(1, .inl ((Int32.ofNat k) + Int32.ofInt 1)), (0, .inr (.inr (.inl (some 259))))]) (S' := []) (h' := (kz_cp (kz h) 263 0 260 0 (k + 1))) (by with_unfolding_all rfl) ?_
    rw [kx_inc]
    exact ih (k + 1) (by omega) (by omega) K
set_option maxRecDepth 20000 in
theorem kz_dy2 {g : kc_G} {d : Nat} {Q : Option kc_V → kc_H → Prop} {h : kc_H} {i : Nat} (hs : ∀ k, k < 650 → ∃ z : Int32, h 263 (k) = .inl z) : ∀ (m k : Nat), 650 - k = m → k ≤ 650 → kc_Ev g d wk_m71 Q 92 [(2, .inl (Int32.ofNat 650)), (1, .inl (Int32.ofNat i)), (0, .inr (.inr (.inl (some 259))))] [] (kz_cp (kz h) 260 0 263 0 650) → kc_Ev g d wk_m71 Q 67 [(2, .inl (Int32.ofNat k)), (1, .inl (Int32.ofNat i)), (0, .inr (.inr (.inl (some 259))))] [] (kz_cp (kz h) 260 0 263 0 k) := by
  intro m
  induction m with
  | zero =>
    intro k hm hk K
    refine kx_go 3 (pc' := (if kc_cnd .ge (Int32.ofNat k).toInt (Int32.ofNat 650).toInt then 92 else 74)) (L' := [(2, .inl (Int32.ofNat k)), (1, .inl (Int32.ofNat i)), (0, .inr (.inr (.inl (some 259))))]) (S' := []) (h' := (kz_cp (kz h) 260 0 263 0 k)) (by with_unfolding_all rfl) ?_
    rw [if_pos ((kx_ge (by omega) (by omega)).mpr (by omega))]
    obtain rfl : k = 650 := by omega
    exact K
  | succ m ih =>
    intro k hm hk K
    refine kx_go 3 (pc' := (if kc_cnd .ge (Int32.ofNat k).toInt (Int32.ofNat 650).toInt then 92 else 74)) (L' := [(2, .inl (Int32.ofNat k)), (1, .inl (Int32.ofNat i)), (0, .inr (.inr (.inl (some 259))))]) (S' := []) (h' := (kz_cp (kz h) 260 0 263 0 k)) (by with_unfolding_all rfl) ?_
    rw [if_neg (fun q => by have := (kx_ge (by omega) (by omega)).mp q; omega)]
    obtain ⟨z, hz⟩ := hs k (by omega)
    refine kx_go 6 (pc' := 84) (L' := [(2, .inl (Int32.ofNat k)), (1, .inl (Int32.ofNat i)), (0, .inr (.inr (.inl (some 259))))]) (S' := [.inl (Int32.ofNat k), .inr (.inr (.inl (some 263))), .inl (Int32.ofNat k), .inr (.inr (.inl (some 260)))]) (h' := (kz_cp (kz h) 260 0 263 0 k)) (by with_unfolding_all rfl) ?_
    refine kx_iald rfl (c := 263) (j := k) (m := 650) (v := .inl z) rfl (by decide) (by decide) (by omega) ((kz_n (by decide)).trans ((kz_o (by decide)).trans hz)) ?_
    refine kx_iast rfl (c := 260) (j := k) (m := 650) rfl (by decide) (by decide) (by omega) ?_
    rw [show kc_upd (kz_cp (kz h) 260 0 263 0 k) 260 k (.inl z) = kc_upd (kz_cp (kz h) 260 0 263 0 k) 260 (0 + k) (.inl z) from by rw [Nat.zero_add]]
    rw [kz_s (w := .inl z) ((kz_o (by decide)).trans (by rw [Nat.zero_add]; exact hz))]
    refine kx_go 2 (pc' := 67) (L' := [(2, .inl ((Int32.ofNat k) + Int32.ofInt 1)), (1, .inl (Int32.ofNat i)), (0, .inr (.inr (.inl (some 259))))]) (S' := []) (h' := (kz_cp (kz h) 260 0 263 0 (k + 1))) (by with_unfolding_all rfl) ?_
    rw [kx_inc]
    exact ih (k + 1) (by omega) (by omega) K
end
section
-- 91.z1
/-! ===== by hand: image, from of the reference ===== -/
set_option maxRecDepth 20000 in
theorem kz_image {g : kc_G} {d i : Nat} {h : kc_H} (hg : kc_ok g) (hi : i < 2) (hs : ∀ k, k < 650 → ∃ z : Int32, h 260 k = .inl z) : kc_Con g (d + 2) 158 [.inr (.inr (.inl (some 259))), .inl (Int32.ofNat i)] (kz h) (fun rv h' => rv = some (.inl (Int32.ofNat 1)) ∧ h' = kc_upd (kz_cp (kz h) 261 (650 * i) 260 0 650) 262 i (.inl (kp_b true))) := by
  refine kc_Con_new hg (M := wk_m158) rfl rfl rfl (show 2 ≤ 3 by decide) ?_
  refine kx_go 4 (pc' := 4) (L' := [(0, .inr (.inr (.inl (some 259)))), (1, .inl (Int32.ofNat i))]) (S' := [.inr (.inl (Int64.ofNat 1)), .inr (.inl (Int64.ofNat 0)), .inr (.inl ((Int32.ofNat i).toInt64))]) (h' := (kz h)) (by with_unfolding_all rfl) ?_
  rw [kx_i2l (by omega)]
  refine kc_call_rule (M2 := wk_m22) (av := [.inr (.inl (Int64.ofNat i)), .inr (.inl (Int64.ofNat 0)), .inr (.inl (Int64.ofNat 1))]) (r := []) rfl rfl (kc_Con_le (km_lies hg (by omega) (by omega) (by omega)) (by omega)) (fun rv h' hq => ?_)
  obtain ⟨rfl, rfl⟩ := hq
  show kc_Ev g (d + 1) wk_m158 _ 7 [(0, .inr (.inr (.inl (some 259)))), (1, .inl (Int32.ofNat i))] [.inl (kp_b (decide (0 ≤ i ∧ i ≤ 1)))] (kz h)
  refine kx_go 1 (pc' := (if kc_cnd .ne (kp_b (decide (0 ≤ i ∧ i ≤ 1))).toInt 0 then 13 else 10)) (L' := [(0, .inr (.inr (.inl (some 259)))), (1, .inl (Int32.ofNat i))]) (S' := []) (h' := (kz h)) (by with_unfolding_all rfl) ?_
  rw [if_pos (kx_b1.mpr (decide_eq_true (by omega)))]
  refine kx_go 2 (pc' := 15) (L' := [(2, .inl (Int32.ofNat 0)), (0, .inr (.inr (.inl (some 259)))), (1, .inl (Int32.ofNat i))]) (S' := []) (h' := (kz h)) (by with_unfolding_all rfl) ?_
  have key := kz_img (g := g) (d := d + 1) (h := h) (Q := fun rv h' => rv = some (.inl (Int32.ofNat 1)) ∧ h' = kc_upd (kz_cp (kz h) 261 (650 * i) 260 0 650) 262 i (.inl (kp_b true))) hi hs 650 0 (by omega) (by omega) ?_
  · rw [kz_0] at key
    exact key
  refine kx_go 4 (pc' := 52) (L' := [(2, .inl (Int32.ofNat 650)), (0, .inr (.inr (.inl (some 259)))), (1, .inl (Int32.ofNat i))]) (S' := [.inl (Int32.ofNat 1), .inl (Int32.ofNat i), .inr (.inr (.inl (some 262)))]) (h' := (kz_cp (kz h) 261 (650 * i) 260 0 650)) (by with_unfolding_all rfl) ?_
  refine kx_bast (w := true) rfl (c := 262) (j := i) (m := 2) rfl (by decide) (by decide) hi ?_
  refine kx_go 1 (pc' := 54) (L' := [(2, .inl (Int32.ofNat 650)), (0, .inr (.inr (.inl (some 259)))), (1, .inl (Int32.ofNat i))]) (S' := [.inl (Int32.ofNat 1)]) (h' := (kc_upd (kz_cp (kz h) 261 (650 * i) 260 0 650) 262 i (.inl (kp_b true)))) (by with_unfolding_all rfl) ?_
  exact kc_ret_ok rfl (rv := some (.inl (Int32.ofNat 1))) rfl ⟨rfl, rfl⟩
set_option maxRecDepth 20000 in
theorem kz_from {g : kc_G} {d i : Nat} {h : kc_H} (hg : kc_ok g) (hi : i < 2) {b : Bool} (hb : h 262 i = .inl (kp_b b)) (hs : ∀ k, k < 650 → ∃ z : Int32, h 261 (650 * i + k) = .inl z) : kc_Con g (d + 2) 160 [.inr (.inr (.inl (some 259))), .inl (Int32.ofNat i)] (kz h) (fun rv h' => (b = true ∧ rv = some (.inl (Int32.ofNat 1)) ∧ h' = (kz_cp (kz h) 260 0 261 (650 * i) 650)) ∨ (b = false ∧ rv = some (.inl (Int32.ofInt (-3))) ∧ h' = kz h)) := by
  refine kc_Con_new hg (M := wk_m160) rfl rfl rfl (show 2 ≤ 3 by decide) ?_
  refine kx_go 4 (pc' := 4) (L' := [(0, .inr (.inr (.inl (some 259)))), (1, .inl (Int32.ofNat i))]) (S' := [.inr (.inl (Int64.ofNat 1)), .inr (.inl (Int64.ofNat 0)), .inr (.inl ((Int32.ofNat i).toInt64))]) (h' := (kz h)) (by with_unfolding_all rfl) ?_
  rw [kx_i2l (by omega)]
  refine kc_call_rule (M2 := wk_m22) (av := [.inr (.inl (Int64.ofNat i)), .inr (.inl (Int64.ofNat 0)), .inr (.inl (Int64.ofNat 1))]) (r := []) rfl rfl (kc_Con_le (km_lies hg (by omega) (by omega) (by omega)) (by omega)) (fun rv h' hq => ?_)
  obtain ⟨rfl, rfl⟩ := hq
  show kc_Ev g (d + 1) wk_m160 _ 7 [(0, .inr (.inr (.inl (some 259)))), (1, .inl (Int32.ofNat i))] [.inl (kp_b (decide (0 ≤ i ∧ i ≤ 1)))] (kz h)
  refine kx_go 1 (pc' := (if kc_cnd .ne (kp_b (decide (0 ≤ i ∧ i ≤ 1))).toInt 0 then 13 else 10)) (L' := [(0, .inr (.inr (.inl (some 259)))), (1, .inl (Int32.ofNat i))]) (S' := []) (h' := (kz h)) (by with_unfolding_all rfl) ?_
  rw [if_pos (kx_b1.mpr (decide_eq_true (by omega)))]
  refine kx_go 3 (pc' := 18) (L' := [(0, .inr (.inr (.inl (some 259)))), (1, .inl (Int32.ofNat i))]) (S' := [.inl (Int32.ofNat i), .inr (.inr (.inl (some 262)))]) (h' := (kz h)) (by with_unfolding_all rfl) ?_
  refine kx_bald rfl (c := 262) (j := i) (m := 2) (v := .inl (kp_b b)) rfl (by decide) (by decide) hi ((kz_o (by decide)).trans hb) ?_
  refine kx_go 1 (pc' := (if kc_cnd .ne (kp_b b).toInt 0 then 25 else 22)) (L' := [(0, .inr (.inr (.inl (some 259)))), (1, .inl (Int32.ofNat i))]) (S' := []) (h' := (kz h)) (by with_unfolding_all rfl) ?_
  cases b with
  | false =>
    rw [if_neg (fun q => by have := kx_b1.mp q; cases this)]
    refine kx_go 1 (pc' := 24) (L' := [(0, .inr (.inr (.inl (some 259)))), (1, .inl (Int32.ofNat i))]) (S' := [.inl (Int32.ofInt (-3))]) (h' := (kz h)) (by with_unfolding_all rfl) ?_
    exact kc_ret_ok rfl (rv := some (.inl (Int32.ofInt (-3)))) rfl (Or.inr ⟨rfl, rfl, rfl⟩)
  | true =>
    rw [if_pos (kx_b1.mpr rfl)]
    refine kx_go 2 (pc' := 27) (L' := [(2, .inl (Int32.ofNat 0)), (0, .inr (.inr (.inl (some 259)))), (1, .inl (Int32.ofNat i))]) (S' := []) (h' := (kz h)) (by with_unfolding_all rfl) ?_
    have key := kz_frm (g := g) (d := d + 1) (h := h) (Q := fun rv h' => (true = true ∧ rv = some (.inl (Int32.ofNat 1)) ∧ h' = (kz_cp (kz h) 260 0 261 (650 * i) 650)) ∨ (true = false ∧ rv = some (.inl (Int32.ofInt (-3))) ∧ h' = kz h)) hi hs 650 0 (by omega) (by omega) ?_
    · rw [kz_0] at key
      exact key
    refine kx_go 1 (pc' := 59) (L' := [(2, .inl (Int32.ofNat 650)), (0, .inr (.inr (.inl (some 259)))), (1, .inl (Int32.ofNat i))]) (S' := [.inl (Int32.ofNat 1)]) (h' := (kz_cp (kz h) 260 0 261 (650 * i) 650)) (by with_unfolding_all rfl) ?_
    exact kc_ret_ok rfl (rv := some (.inl (Int32.ofNat 1))) rfl (Or.inl ⟨rfl, rfl, rfl⟩)
/-! kinds -/
theorem kz_k : kd_rn (kd_ty 259) 0 = some (3, 260, 260) ∧ kd_rn (kd_ty 259) 1 = some (3, 261, 261) ∧ kd_rn (kd_ty 259) 2 = some (3, 262, 262) ∧ kd_rn (kd_ty 259) 3 = some (3, 263, 263) := by decide +kernel
theorem kz_wid {h : kc_H} (hw : kd_wt kd_ty h) : kz h = h := kz_id (kx_ofr (hw _ _ _ kz_k.1)) (kx_ofr (hw _ _ _ kz_k.2.1)) (kx_ofr (hw _ _ _ kz_k.2.2.1)) (kx_ofr (hw _ _ _ kz_k.2.2.2))
def kz_int (v : Option kd_V) : Bool := match v with
  | some (0, _, _) => true
  | _ => false
theorem kz_k260 : ∀ k, k < 650 → (kz_int (kd_rn (kd_ty 260) k) = true ∧ kd_rn (kd_ty 261) k = kd_rn (kd_ty 260) k ∧ kd_rn (kd_ty 261) (650 + k) = kd_rn (kd_ty 260) k ∧ kd_rn (kd_ty 263) k = kd_rn (kd_ty 260) k) := by decide +kernel
theorem kz_int_r {h : kc_H} {c b : Nat} (hw : kd_wt kd_ty h) (hk : kz_int (kd_rn (kd_ty c) b) = true) : ∃ z : Int32, h c b = .inl z := by
  unfold kz_int at hk
  split at hk
  · rename_i lo hi e
    obtain ⟨z, e1, -, -⟩ := hw c b _ e
    exact ⟨z, e1⟩
  · cases hk
theorem kz_cp_wt {h : kc_H} {c1 o1 c2 o2 k : Nat} (hw : kd_wt kd_ty h) (hk : ∀ j, j < k → kd_rn (kd_ty c1) (o1 + j) = kd_rn (kd_ty c2) (o2 + j)) : kd_wt kd_ty (kz_cp h c1 o1 c2 o2 k) := by
  intro c b v hv
  unfold kz_cp
  split
  · rename_i e
    obtain ⟨rfl, e1, e2⟩ := e
    refine hw c2 _ v ?_
    rw [← hk (b - o1) (by omega), show o1 + (b - o1) = b from by omega]
    exact hv
  · exact hw c b v hv
theorem kz_wtb {h : kc_H} {c i : Nat} {w : Bool} (ht : kd_rn (kd_ty c) i = some (0, 2147483648, 2147483649)) (hw : kd_wt kd_ty h) : kd_wt kd_ty (kc_upd h c i (.inl (kp_b w))) := by
  intro c' i' v hv
  unfold kc_upd
  split
  · rename_i e
    obtain ⟨rfl, rfl⟩ := e
    rw [ht] at hv
    cases hv
    exact ⟨_, rfl, by cases w <;> decide, by cases w <;> decide⟩
  · exact hw c' i' v hv
theorem kz_k262 : ∀ i, i < 2 → kd_rn (kd_ty 262) i = some (0, 2147483648, 2147483649) := by decide +kernel
def kd_T158c : kd_Tc := ([(3, 259, 259), (0, 2147483648, 2147483649)], [], [(some (0, 2147483649, 2147483649), [], [(261, 261, 0, 1299), (262, 262, 0, 1)])])
theorem kd_h158c {g : kc_G} (hg : kc_ok g) : kd_hold g 2 kd_ty 158 kd_T158c := by
  intro xs h hw hv hF
  match xs, hv with
  | [], hv => exact hv.elim
  | [_], hv => exact hv.2.elim
  | _ :: _ :: _ :: _, hv => exact hv.2.2.elim
  | [x1, x2], hv =>
    obtain ⟨h1, h2, -⟩ := hv
    have h1 := kx_ofr h1
    subst h1
    obtain ⟨i, w1, rfl⟩ := kx_ofg (u := 1) (by omega) h2
    have key := kz_image (d := 0) (h := h) hg (show i < 2 by omega) (fun k hk => kz_int_r hw (kz_k260 k hk).1)
    rw [kz_wid hw] at key
    refine kc_Con_mono key (fun rv h' hq => ?_)
    obtain ⟨rfl, rfl⟩ := hq
    have hw2 : kd_wt kd_ty (kz_cp h 261 (650 * i) 260 0 650) := kz_cp_wt hw (fun j hj => by
      obtain ⟨-, a1, a2, -⟩ := kz_k260 j hj
      rw [Nat.zero_add]
      rcases (show i = 0 ∨ i = 1 by omega) with rfl | rfl
      · rw [show 650 * 0 + j = j from by omega]; exact a1
      · exact a2)
    refine ⟨_, List.mem_cons_self, ⟨_, rfl, by decide, by decide⟩, fun q hq => (by cases hq), kz_wtb (kz_k262 i (by omega)) hw2, fun c b hq => ?_⟩
    have q1 := kd_inr_f (hq (261, 261, 0, 1299) (by decide))
    have q2 := kd_inr_f (hq (262, 262, 0, 1) (by decide))
    simp only at q1 q2
    unfold kc_upd kz_cp
    rw [if_neg (by omega), if_neg (by omega)]
def kd_T160c : kd_Tc := ([(3, 259, 259), (0, 2147483648, 2147483649)], [], [(some (0, 2147483645, 2147483649), [], [(260, 260, 0, 649)])])
theorem kd_h160c {g : kc_G} (hg : kc_ok g) : kd_hold g 2 kd_ty 160 kd_T160c := by
  intro xs h hw hv hF
  match xs, hv with
  | [], hv => exact hv.elim
  | [_], hv => exact hv.2.elim
  | _ :: _ :: _ :: _, hv => exact hv.2.2.elim
  | [x1, x2], hv =>
    obtain ⟨h1, h2, -⟩ := hv
    have h1 := kx_ofr h1
    subst h1
    obtain ⟨i, w1, rfl⟩ := kx_ofg (u := 1) (by omega) h2
    obtain ⟨b, b1, eb⟩ := kx_ofg (u := 1) (by omega) (hw 262 i _ (kz_k262 i (by omega)))
    have hk : ∀ j, j < 650 → kd_rn (kd_ty 261) (650 * i + j) = kd_rn (kd_ty 260) j := fun j hj => by
      obtain ⟨-, a1, a2, -⟩ := kz_k260 j hj
      rcases (show i = 0 ∨ i = 1 by omega) with rfl | rfl
      · rw [show 650 * 0 + j = j from by omega]; exact a1
      · exact a2
    have hw2 : kd_wt kd_ty (kz_cp h 260 0 261 (650 * i) 650) := kz_cp_wt hw (fun j hj => by rw [Nat.zero_add, hk j hj])
    have key := kz_from (d := 0) (h := h) (b := decide (b = 1)) hg (show i < 2 by omega) (by rcases (show b = 0 ∨ b = 1 by omega) with rfl | rfl <;> exact eb) (fun k hk2 => kz_int_r hw (by rw [hk k hk2]; exact (kz_k260 k hk2).1))
    rw [kz_wid hw] at key
    refine kc_Con_mono key (fun rv h' hq => ?_)
    rcases hq with ⟨-, rfl, rfl⟩ | ⟨-, rfl, rfl⟩
    · refine ⟨_, List.mem_cons_self, ⟨_, rfl, by decide, by decide⟩, fun q hq => (by cases hq), hw2, fun c b hq => ?_⟩
      have q1 := kd_inr_f (hq (260, 260, 0, 649) (by decide))
      simp only at q1
      unfold kz_cp
      rw [if_neg (by omega)]
    · exact ⟨_, List.mem_cons_self, ⟨_, rfl, by decide, by decide⟩, fun q hq => (by cases hq), hw, fun c b _ => rfl⟩
end
section
-- 92.z0
/-! ===== by hand: line of the reference ===== -/
theorem kl_pig : ∀ (m n : Nat) (f : Nat → Nat), (∀ i, i < n → f i < m) → (∀ i j, i < j → j < n → ¬ f i = f j) → n ≤ m
  | 0, n, f, h1, _ => by
    by_cases hn : n = 0
    · omega
    · have := h1 0 (by omega)
      omega
  | m + 1, n, f, h1, h2 => by
    by_cases hx : ∃ i, i < n ∧ f i = m
    · obtain ⟨i0, hi0, e0⟩ := hx
      have := kl_pig m (n - 1) (fun i => if i < i0 then f i else f (i + 1)) (fun i hi => by
        show (if i < i0 then f i else f (i + 1)) < m
        split
        · have a := h1 i (by omega)
          have b := h2 i i0 (by omega) hi0
          omega
        · have a := h1 (i + 1) (by omega)
          have b := h2 i0 (i + 1) (by omega) (by omega)
          omega) (fun i j hij hj => by
        show ¬ (if i < i0 then f i else f (i + 1)) = (if j < i0 then f j else f (j + 1))
        split
        · split
          · exact h2 i j hij (by omega)
          · exact h2 i (j + 1) (by omega) (by omega)
        · split
          · omega
          · exact h2 (i + 1) (j + 1) (by omega) (by omega))
      omega
    · have := kl_pig m n f (fun i hi => by
        have a := h1 i hi
        have b : ¬ f i = m := fun e => hx ⟨i, hi, e⟩
        omega) h2
      omega
set_option maxRecDepth 20000 in
theorem kl_place {g : kc_G} {d : Nat} {h : kc_H} {l : Nat → Nat} (hg : kc_ok g) (hl : ∀ i, i < 5 → h 260 (150 + i) = .inl (Int32.ofNat (l i))) {k : Nat} (hk : k < 5) : kc_Con g (d + 1) 259 [.inr (.inr (.inl (some 259))), .inl (Int32.ofNat k)] (kz h) (fun rv h' => rv = some (.inl (Int32.ofNat (l k))) ∧ h' = (kz h)) := by
  refine kc_Con_new hg (M := wk_m259) rfl rfl rfl (show 2 ≤ 2 by decide) ?_
  refine kx_go 5 (pc' := 9) (L' := [(0, .inr (.inr (.inl (some 259)))), (1, .inl (Int32.ofNat k))]) (S' := [.inl ((Int32.ofNat 150) + (Int32.ofNat k)), .inr (.inr (.inl (some 260)))]) (h' := (kz h)) (by with_unfolding_all rfl) ?_
  rw [kx_add]
  refine kx_iald rfl (c := 260) (j := 150 + k) (m := 650) rfl (by decide) (by decide) (by omega) ((kz_o (by decide)).trans (hl k hk)) ?_
  exact kc_ret_ok rfl (rv := some (.inl (Int32.ofNat (l k)))) rfl ⟨rfl, rfl⟩
set_option maxRecDepth 20000 in
theorem kl_inl {g : kc_G} {d : Nat} {Q : Option kc_V → kc_H → Prop} {h : kc_H} {D n dd : Nat} {l : Nat → Nat} (hg : kc_ok g) (hd1 : 1 ≤ d) (hn5 : n ≤ 5) (hdd : 1 ≤ dd ∧ dd ≤ 5) (hD : h 260 0 = .inl (Int32.ofNat D)) (hD5 : D ≤ 5) (hn : h 260 3 = .inl (Int32.ofNat n)) (hl : ∀ i, i < 5 → h 260 (150 + i) = .inl (Int32.ofNat (l i))) (hl5 : ∀ i, i < 5 → l i ≤ 5) (hQ1 : ∀ k, k < n → l k = dd → Q (some (.inl (Int32.ofNat k))) (kz h)) (hQ2 : (∀ i, i < n → ¬ l i = dd) → Q (some (.inl (Int32.ofInt (-2)))) (kz h)) : ∀ (m k : Nat), n - k = m → k ≤ n → (∀ i, i < k → ¬ l i = dd) → kc_Ev g d wk_m258 Q 2 [(2, .inl (Int32.ofNat k)), (0, .inr (.inr (.inl (some 259)))), (1, .inl (Int32.ofNat dd))] [] (kz h) := by
  intro m
  induction m with
  | zero =>
    intro k hm hk hK
    refine kx_go 4 (pc' := 8) (L' := [(2, .inl (Int32.ofNat k)), (0, .inr (.inr (.inl (some 259)))), (1, .inl (Int32.ofNat dd))]) (S' := [.inl (Int32.ofNat 3), .inr (.inr (.inl (some 260))), .inl (Int32.ofNat k)]) (h' := (kz h)) (by with_unfolding_all rfl) ?_
    refine kx_iald rfl (c := 260) (j := 3) (m := 650) rfl (by decide) (by decide) (by omega) ((kz_o (by decide)).trans hn) ?_
    refine kx_go 1 (pc' := (if kc_cnd .ge (Int32.ofNat k).toInt (Int32.ofNat n).toInt then 29 else 12)) (L' := [(2, .inl (Int32.ofNat k)), (0, .inr (.inr (.inl (some 259)))), (1, .inl (Int32.ofNat dd))]) (S' := []) (h' := (kz h)) (by with_unfolding_all rfl) ?_
    rw [if_pos ((kx_ge (by omega) (by omega)).mpr (by omega))]
    refine kx_go 2 (pc' := (if kc_cnd .ne (Int32.ofNat dd).toInt 0 then 37 else 33)) (L' := [(2, .inl (Int32.ofNat k)), (0, .inr (.inr (.inl (some 259)))), (1, .inl (Int32.ofNat dd))]) (S' := []) (h' := (kz h)) (by with_unfolding_all rfl) ?_
    rw [if_pos (by unfold kc_cnd; rw [kx_ti (by omega)]; simp only [Bool.not_eq_true', decide_eq_false_iff_not]; omega)]
    refine kx_go 1 (pc' := 39) (L' := [(2, .inl (Int32.ofNat k)), (0, .inr (.inr (.inl (some 259)))), (1, .inl (Int32.ofNat dd))]) (S' := [.inl (Int32.ofInt (-2))]) (h' := (kz h)) (by with_unfolding_all rfl) ?_
    exact kc_ret_ok rfl (rv := some (.inl (Int32.ofInt (-2)))) rfl (hQ2 (fun i hi => hK i (by omega)))
  | succ m ih =>
    intro k hm hk hK
    refine kx_go 4 (pc' := 8) (L' := [(2, .inl (Int32.ofNat k)), (0, .inr (.inr (.inl (some 259)))), (1, .inl (Int32.ofNat dd))]) (S' := [.inl (Int32.ofNat 3), .inr (.inr (.inl (some 260))), .inl (Int32.ofNat k)]) (h' := (kz h)) (by with_unfolding_all rfl) ?_
    refine kx_iald rfl (c := 260) (j := 3) (m := 650) rfl (by decide) (by decide) (by omega) ((kz_o (by decide)).trans hn) ?_
    refine kx_go 1 (pc' := (if kc_cnd .ge (Int32.ofNat k).toInt (Int32.ofNat n).toInt then 29 else 12)) (L' := [(2, .inl (Int32.ofNat k)), (0, .inr (.inr (.inl (some 259)))), (1, .inl (Int32.ofNat dd))]) (S' := []) (h' := (kz h)) (by with_unfolding_all rfl) ?_
    rw [if_neg (fun q => by have := (kx_ge (by omega) (by omega)).mp q; omega)]
    refine kx_go 2 (pc' := 14) (L' := [(2, .inl (Int32.ofNat k)), (0, .inr (.inr (.inl (some 259)))), (1, .inl (Int32.ofNat dd))]) (S' := [.inl (Int32.ofNat k), .inr (.inr (.inl (some 259)))]) (h' := (kz h)) (by with_unfolding_all rfl) ?_
    refine kc_call_rule (M2 := wk_m259) (av := [.inr (.inr (.inl (some 259))), .inl (Int32.ofNat k)]) (r := []) rfl rfl (kc_Con_le (kl_place (d := 0) hg hl (by omega)) hd1) (fun rv h' hq => ?_)
    obtain ⟨rfl, rfl⟩ := hq
    show kc_Ev g d wk_m258 Q 17 [(2, .inl (Int32.ofNat k)), (0, .inr (.inr (.inl (some 259)))), (1, .inl (Int32.ofNat dd))] [.inl (Int32.ofNat (l k))] (kz h)
    have hlk := hl5 k (by omega)
    refine kx_go 2 (pc' := (if kc_cnd .ne (Int32.ofNat (l k)).toInt (Int32.ofNat dd).toInt then 23 else 21)) (L' := [(2, .inl (Int32.ofNat k)), (0, .inr (.inr (.inl (some 259)))), (1, .inl (Int32.ofNat dd))]) (S' := []) (h' := (kz h)) (by with_unfolding_all rfl) ?_
    by_cases e : l k = dd
    · rw [if_neg (fun q => (kx_ne (by omega) (by omega)).mp q e)]
      refine kx_go 1 (pc' := 22) (L' := [(2, .inl (Int32.ofNat k)), (0, .inr (.inr (.inl (some 259)))), (1, .inl (Int32.ofNat dd))]) (S' := [.inl (Int32.ofNat k)]) (h' := (kz h)) (by with_unfolding_all rfl) ?_
      exact kc_ret_ok rfl (rv := some (.inl (Int32.ofNat k))) rfl (hQ1 k (by omega) e)
    · rw [if_pos ((kx_ne (by omega) (by omega)).mpr e)]
      refine kx_go 2 (pc' := 2) (L' := [(2, .inl ((Int32.ofNat k) + Int32.ofInt 1)), (0, .inr (.inr (.inl (some 259)))), (1, .inl (Int32.ofNat dd))]) (S' := []) (h' := (kz h)) (by with_unfolding_all rfl) ?_
      rw [kx_inc]
      exact ih (k + 1) (by omega) (by omega) (fun i hi => by
        by_cases q : i = k
        · rw [q]; exact e
        · exact hK i (by omega))
set_option maxRecDepth 20000 in
theorem kl_in {g : kc_G} {d : Nat} {h : kc_H} {D n dd : Nat} {l : Nat → Nat} (hg : kc_ok g) (hn5 : n ≤ 5) (hdd : 1 ≤ dd ∧ dd ≤ 5) (hD : h 260 0 = .inl (Int32.ofNat D)) (hD5 : D ≤ 5) (hn : h 260 3 = .inl (Int32.ofNat n)) (hl : ∀ i, i < 5 → h 260 (150 + i) = .inl (Int32.ofNat (l i))) (hl5 : ∀ i, i < 5 → l i ≤ 5) : kc_Con g (d + 2) 258 [.inr (.inr (.inl (some 259))), .inl (Int32.ofNat dd)] (kz h) (fun rv h' => (∃ k, k < n ∧ l k = dd ∧ rv = some (.inl (Int32.ofNat k)) ∧ h' = (kz h)) ∨ ((∀ i, i < n → ¬ l i = dd) ∧ rv = some (.inl (Int32.ofInt (-2))) ∧ h' = (kz h))) := by
  refine kc_Con_new hg (M := wk_m258) rfl rfl rfl (show 2 ≤ 3 by decide) ?_
  refine kx_go 2 (pc' := 2) (L' := [(2, .inl (Int32.ofNat 0)), (0, .inr (.inr (.inl (some 259)))), (1, .inl (Int32.ofNat dd))]) (S' := []) (h' := (kz h)) (by with_unfolding_all rfl) ?_
  exact kl_inl (d := d + 1) hg (by omega) hn5 hdd hD hD5 hn hl hl5 (fun k h1 h2 => Or.inl ⟨k, h1, h2, rfl, rfl⟩) (fun h => Or.inr ⟨h, rfl, rfl⟩) n 0 (by omega) (by omega) (fun i hi => by omega)
set_option maxRecDepth 20000 in
theorem kl_door {g : kc_G} {d : Nat} {h : kc_H} {D n dd : Nat} {l : Nat → Nat} (hg : kc_ok g) (hn5 : n ≤ 5) (hdd : 1 ≤ dd ∧ dd ≤ 5) (hD : h 260 0 = .inl (Int32.ofNat D)) (hD5 : D ≤ 5) (hn : h 260 3 = .inl (Int32.ofNat n)) (hl : ∀ i, i < 5 → h 260 (150 + i) = .inl (Int32.ofNat (l i))) (hl5 : ∀ i, i < 5 → l i ≤ 5) : kc_Con g (d + 2) 27 [.inr (.inr (.inl (some 259))), .inl (Int32.ofNat dd)] (kz h) (fun rv h' => rv = some (.inl (kp_b (decide (1 ≤ dd ∧ dd ≤ D)))) ∧ h' = (kz h)) := by
  refine kc_Con_new hg (M := wk_m27) rfl rfl rfl (show 2 ≤ 2 by decide) ?_
  refine kx_go 6 (pc' := 8) (L' := [(0, .inr (.inr (.inl (some 259)))), (1, .inl (Int32.ofNat dd))]) (S' := [.inl (Int32.ofNat 0), .inr (.inr (.inl (some 260))), .inr (.inl (Int64.ofNat 1)), .inr (.inl ((Int32.ofNat dd).toInt64))]) (h' := (kz h)) (by with_unfolding_all rfl) ?_
  refine kx_iald rfl (c := 260) (j := 0) (m := 650) rfl (by decide) (by decide) (by omega) ((kz_o (by decide)).trans hD) ?_
  refine kx_go 1 (pc' := 10) (L' := [(0, .inr (.inr (.inl (some 259)))), (1, .inl (Int32.ofNat dd))]) (S' := [.inr (.inl ((Int32.ofNat D).toInt64)), .inr (.inl (Int64.ofNat 1)), .inr (.inl ((Int32.ofNat dd).toInt64))]) (h' := (kz h)) (by with_unfolding_all rfl) ?_
  rw [kx_i2l (by omega), kx_i2l (by omega)]
  refine kc_call_rule (M2 := wk_m22) (av := [.inr (.inl (Int64.ofNat dd)), .inr (.inl (Int64.ofNat 1)), .inr (.inl (Int64.ofNat D))]) (r := []) rfl rfl (kc_Con_le (km_lies hg (by omega) (by omega) (by omega)) (by omega)) (fun rv h' hq => ?_)
  obtain ⟨rfl, rfl⟩ := hq
  cases e : decide (1 ≤ dd ∧ dd ≤ D) with
  | true => exact kc_ret_ok rfl (rv := some (.inl (kp_b true))) rfl ⟨rfl, rfl⟩
  | false => exact kc_ret_ok rfl (rv := some (.inl (kp_b false))) rfl ⟨rfl, rfl⟩
set_option maxRecDepth 20000 in
theorem kl_line {g : kc_G} {d : Nat} {h : kc_H} {D n dd : Nat} {l : Nat → Nat} (hg : kc_ok g) (hn5 : n ≤ 5) (hdd : 1 ≤ dd ∧ dd ≤ 5) (hD : h 260 0 = .inl (Int32.ofNat D)) (hD5 : D ≤ 5) (hn : h 260 3 = .inl (Int32.ofNat n)) (hl : ∀ i, i < 5 → h 260 (150 + i) = .inl (Int32.ofNat (l i))) (hl5 : ∀ i, i < 5 → l i ≤ 5) (hl1 : ∀ i, i < n → 1 ≤ l i) (hdist : ∀ i j, i < j → j < n → ¬ l i = l j) : kc_Con g (d + 3) 94 [.inr (.inr (.inl (some 259))), .inl (Int32.ofNat dd)] (kz h) (fun rv h' => (∃ r : Int32, rv = some (.inl r) ∧ (r = Int32.ofInt (-2) ∨ r = Int32.ofInt (-3)) ∧ h' = kz h) ∨ (rv = some (.inl (Int32.ofNat (n + 1))) ∧ (1 ≤ dd ∧ dd ≤ D) ∧ (∀ i, i < n → ¬ l i = dd) ∧ n < 5 ∧ h' = (kc_upd (kc_upd (kz h) 260 (150 + n) (.inl (Int32.ofNat dd))) 260 3 (.inl (Int32.ofNat (n + 1)))))) := by
  have n4 : (∀ i, i < n → ¬ l i = dd) → n < 5 := fun hno => by
    by_cases q : n < 5
    · exact q
    · exfalso
      have hn5 : n = 5 := by omega
      have := kl_pig 5 6 (fun i => (if i < 5 then l i else dd) - 1) (fun i hi => by
        show (if i < 5 then l i else dd) - 1 < 5
        split
        · have := hl5 i (by omega); omega
        · omega) (fun i j hij hj => by
        show ¬ (if i < 5 then l i else dd) - 1 = (if j < 5 then l j else dd) - 1
        rw [if_pos (by omega)]
        have a := hl1 i (by omega)
        split
        · have b := hl1 j (by omega)
          have c := hdist i j hij (by omega)
          omega
        · have c := hno i (by omega)
          omega)
      omega
  refine kc_Con_new hg (M := wk_m94) rfl rfl rfl (show 2 ≤ 2 by decide) ?_
  refine kx_go 2 (pc' := 2) (L' := [(0, .inr (.inr (.inl (some 259)))), (1, .inl (Int32.ofNat dd))]) (S' := [.inl (Int32.ofNat dd), .inr (.inr (.inl (some 259)))]) (h' := (kz h)) (by with_unfolding_all rfl) ?_
  refine kc_call_rule (M2 := wk_m27) (av := [.inr (.inr (.inl (some 259))), .inl (Int32.ofNat dd)]) (r := []) rfl rfl (kl_door (d := d) hg hn5 hdd hD hD5 hn hl hl5) (fun rv h' hq => ?_)
  obtain ⟨rfl, rfl⟩ := hq
  show kc_Ev g (d + 2) wk_m94 _ 5 [(0, .inr (.inr (.inl (some 259)))), (1, .inl (Int32.ofNat dd))] [.inl (kp_b (decide (1 ≤ dd ∧ dd ≤ D)))] (kz h)
  refine kx_go 1 (pc' := (if kc_cnd .ne (kp_b (decide (1 ≤ dd ∧ dd ≤ D))).toInt 0 then 11 else 8)) (L' := [(0, .inr (.inr (.inl (some 259)))), (1, .inl (Int32.ofNat dd))]) (S' := []) (h' := (kz h)) (by with_unfolding_all rfl) ?_
  cases e : decide (1 ≤ dd ∧ dd ≤ D) with
  | false =>
    rw [if_neg (fun q => by have := kx_b1.mp q; cases this)]
    refine kx_go 1 (pc' := 10) (L' := [(0, .inr (.inr (.inl (some 259)))), (1, .inl (Int32.ofNat dd))]) (S' := [.inl (Int32.ofInt (-2))]) (h' := (kz h)) (by with_unfolding_all rfl) ?_
    exact kc_ret_ok rfl (rv := some (.inl (Int32.ofInt (-2)))) rfl (Or.inl ⟨_, rfl, Or.inl rfl, rfl⟩)
  | true =>
    rw [if_pos (kx_b1.mpr rfl)]
    refine kx_go 2 (pc' := 13) (L' := [(0, .inr (.inr (.inl (some 259)))), (1, .inl (Int32.ofNat dd))]) (S' := [.inl (Int32.ofNat dd), .inr (.inr (.inl (some 259)))]) (h' := (kz h)) (by with_unfolding_all rfl) ?_
    refine kc_call_rule (M2 := wk_m258) (av := [.inr (.inr (.inl (some 259))), .inl (Int32.ofNat dd)]) (r := []) rfl rfl (kl_in (d := d) hg hn5 hdd hD hD5 hn hl hl5) (fun rv h' hq => ?_)
    rcases hq with ⟨k, k1, k2, rfl, rfl⟩ | ⟨hno, rfl, rfl⟩
    · show kc_Ev g (d + 2) wk_m94 _ 16 [(0, .inr (.inr (.inl (some 259)))), (1, .inl (Int32.ofNat dd))] [.inl (Int32.ofNat k)] (kz h)
      refine kx_go 1 (pc' := (if kc_cnd .lt (Int32.ofNat k).toInt 0 then 22 else 19)) (L' := [(0, .inr (.inr (.inl (some 259)))), (1, .inl (Int32.ofNat dd))]) (S' := []) (h' := (kz h)) (by with_unfolding_all rfl) ?_
      rw [if_neg (fun q => by unfold kc_cnd at q; rw [kx_ti (by omega)] at q; simp only [decide_eq_true_eq] at q; omega)]
      refine kx_go 1 (pc' := 21) (L' := [(0, .inr (.inr (.inl (some 259)))), (1, .inl (Int32.ofNat dd))]) (S' := [.inl (Int32.ofInt (-3))]) (h' := (kz h)) (by with_unfolding_all rfl) ?_
      exact kc_ret_ok rfl (rv := some (.inl (Int32.ofInt (-3)))) rfl (Or.inl ⟨_, rfl, Or.inr rfl, rfl⟩)
    · show kc_Ev g (d + 2) wk_m94 _ 16 [(0, .inr (.inr (.inl (some 259)))), (1, .inl (Int32.ofNat dd))] [.inl (Int32.ofInt (-2))] (kz h)
      have h5 := n4 hno
      refine kx_go 1 (pc' := (if kc_cnd .lt (Int32.ofInt (-2)).toInt 0 then 22 else 19)) (L' := [(0, .inr (.inr (.inl (some 259)))), (1, .inl (Int32.ofNat dd))]) (S' := []) (h' := (kz h)) (by with_unfolding_all rfl) ?_
      rw [if_pos (by decide)]
      refine kx_go 6 (pc' := 34) (L' := [(0, .inr (.inr (.inl (some 259)))), (1, .inl (Int32.ofNat dd))]) (S' := [.inl (Int32.ofNat 3), .inr (.inr (.inl (some 260))), .inl (Int32.ofNat 150), .inr (.inr (.inl (some 260)))]) (h' := (kz h)) (by with_unfolding_all rfl) ?_
      refine kx_iald rfl (c := 260) (j := 3) (m := 650) rfl (by decide) (by decide) (by omega) ((kz_o (by decide)).trans hn) ?_
      refine kx_go 2 (pc' := 37) (L' := [(0, .inr (.inr (.inl (some 259)))), (1, .inl (Int32.ofNat dd))]) (S' := [.inl (Int32.ofNat dd), .inl ((Int32.ofNat 150) + (Int32.ofNat n)), .inr (.inr (.inl (some 260)))]) (h' := (kz h)) (by with_unfolding_all rfl) ?_
      rw [kx_add]
      refine kx_iast rfl (c := 260) (j := 150 + n) (m := 650) rfl (by decide) (by decide) (by omega) ?_
      refine kx_go 4 (pc' := 44) (L' := [(0, .inr (.inr (.inl (some 259)))), (1, .inl (Int32.ofNat dd))]) (S' := [.inl (Int32.ofNat 3), .inr (.inr (.inl (some 260))), .inl (Int32.ofNat 3), .inr (.inr (.inl (some 260)))]) (h' := (kc_upd (kz h) 260 (150 + n) (.inl (Int32.ofNat dd)))) (by with_unfolding_all rfl) ?_
      refine kx_iald rfl (c := 260) (j := 3) (m := 650) (v := .inl (Int32.ofNat n)) rfl (by decide) (by decide) (by omega) ((if_neg (by omega)).trans ((kz_o (by decide)).trans hn)) ?_
      refine kx_go 2 (pc' := 47) (L' := [(0, .inr (.inr (.inl (some 259)))), (1, .inl (Int32.ofNat dd))]) (S' := [.inl ((Int32.ofNat n) + (Int32.ofNat 1)), .inl (Int32.ofNat 3), .inr (.inr (.inl (some 260)))]) (h' := (kc_upd (kz h) 260 (150 + n) (.inl (Int32.ofNat dd)))) (by with_unfolding_all rfl) ?_
      rw [kx_inc1]
      refine kx_iast rfl (c := 260) (j := 3) (m := 650) rfl (by decide) (by decide) (by omega) ?_
      refine kx_go 3 (pc' := 53) (L' := [(0, .inr (.inr (.inl (some 259)))), (1, .inl (Int32.ofNat dd))]) (S' := [.inl (Int32.ofNat 3), .inr (.inr (.inl (some 260)))]) (h' := (kc_upd (kc_upd (kz h) 260 (150 + n) (.inl (Int32.ofNat dd))) 260 3 (.inl (Int32.ofNat (n + 1))))) (by with_unfolding_all rfl) ?_
      refine kx_iald rfl (c := 260) (j := 3) (m := 650) (v := .inl (Int32.ofNat (n + 1))) rfl (by decide) (by decide) (by omega) (if_pos ⟨rfl, rfl⟩) ?_
      exact kc_ret_ok rfl (rv := some (.inl (Int32.ofNat (n + 1)))) rfl (Or.inr ⟨rfl, of_decide_eq_true e, hno, h5, rfl⟩)
end
section
-- 92.zkm00
/-! ===== contracts, zkm 0 ===== -/
def kd_P94a : List kd_P := [(some (0, 2147483646, 2147483646), [], [])]
def kd_T94a : kd_Tc := ([(3, 259, 259), (0, 0, 2147483648)], [], kd_P94a)
def kd_C94a : List (Nat × kd_Tc) := []
def kd_S94a : List kd_St := []
theorem kd_e94a : kd_run0 kd_ty kd_x94 2 (kd_call kd_ty kd_xt (kd_ctl kd_C94a) 600 2) kd_T94a 600 kd_S94a = true := by decide +kernel
theorem kd_h94a {g : kc_G} (hg : kc_ok g) : kd_hold g 3 kd_ty 94 kd_T94a := kd_mk (d0 := 0) (di := 2) hg kd_xk94 rfl rfl rfl rfl (kd_al_r kd_C94a trivial) (by decide) (by decide +kernel) kd_e94a (kd_al_r kd_S94a trivial)
def kd_P94b : List kd_P := [(some (0, 2147483646, 2147483646), [], [])]
def kd_T94b : kd_Tc := ([(3, 259, 259), (0, 2147483654, 4294967295)], [], kd_P94b)
def kd_C94b : List (Nat × kd_Tc) := []
def kd_S94b : List kd_St := []
theorem kd_e94b : kd_run0 kd_ty kd_x94 2 (kd_call kd_ty kd_xt (kd_ctl kd_C94b) 600 2) kd_T94b 600 kd_S94b = true := by decide +kernel
theorem kd_h94b {g : kc_G} (hg : kc_ok g) : kd_hold g 3 kd_ty 94 kd_T94b := kd_mk (d0 := 0) (di := 2) hg kd_xk94 rfl rfl rfl rfl (kd_al_r kd_C94b trivial) (by decide) (by decide +kernel) kd_e94b (kd_al_r kd_S94b trivial)
def kd_P158a : List kd_P := [(some (0, 2147483646, 2147483646), [], [])]
def kd_T158a : kd_Tc := ([(3, 259, 259), (0, 0, 2147483647)], [], kd_P158a)
def kd_C158a : List (Nat × kd_Tc) := []
def kd_S158a : List kd_St := []
theorem kd_e158a : kd_run0 kd_ty kd_x158 3 (kd_call kd_ty kd_xt (kd_ctl kd_C158a) 600 1) kd_T158a 600 kd_S158a = true := by decide +kernel
theorem kd_h158a {g : kc_G} (hg : kc_ok g) : kd_hold g 2 kd_ty 158 kd_T158a := kd_mk (d0 := 0) (di := 1) hg kd_xk158 rfl rfl rfl rfl (kd_al_r kd_C158a trivial) (by decide) (by decide +kernel) kd_e158a (kd_al_r kd_S158a trivial)
def kd_P158b : List kd_P := [(some (0, 2147483646, 2147483646), [], [])]
def kd_T158b : kd_Tc := ([(3, 259, 259), (0, 2147483650, 4294967295)], [], kd_P158b)
def kd_C158b : List (Nat × kd_Tc) := []
def kd_S158b : List kd_St := []
theorem kd_e158b : kd_run0 kd_ty kd_x158 3 (kd_call kd_ty kd_xt (kd_ctl kd_C158b) 600 1) kd_T158b 600 kd_S158b = true := by decide +kernel
theorem kd_h158b {g : kc_G} (hg : kc_ok g) : kd_hold g 2 kd_ty 158 kd_T158b := kd_mk (d0 := 0) (di := 1) hg kd_xk158 rfl rfl rfl rfl (kd_al_r kd_C158b trivial) (by decide) (by decide +kernel) kd_e158b (kd_al_r kd_S158b trivial)
def kd_P160a : List kd_P := [(some (0, 2147483646, 2147483646), [], [])]
def kd_T160a : kd_Tc := ([(3, 259, 259), (0, 0, 2147483647)], [], kd_P160a)
def kd_C160a : List (Nat × kd_Tc) := []
def kd_S160a : List kd_St := []
theorem kd_e160a : kd_run0 kd_ty kd_x160 3 (kd_call kd_ty kd_xt (kd_ctl kd_C160a) 600 1) kd_T160a 600 kd_S160a = true := by decide +kernel
theorem kd_h160a {g : kc_G} (hg : kc_ok g) : kd_hold g 2 kd_ty 160 kd_T160a := kd_mk (d0 := 0) (di := 1) hg kd_xk160 rfl rfl rfl rfl (kd_al_r kd_C160a trivial) (by decide) (by decide +kernel) kd_e160a (kd_al_r kd_S160a trivial)
def kd_P160b : List kd_P := [(some (0, 2147483646, 2147483646), [], [])]
def kd_T160b : kd_Tc := ([(3, 259, 259), (0, 2147483650, 4294967295)], [], kd_P160b)
def kd_C160b : List (Nat × kd_Tc) := []
def kd_S160b : List kd_St := []
theorem kd_e160b : kd_run0 kd_ty kd_x160 3 (kd_call kd_ty kd_xt (kd_ctl kd_C160b) 600 1) kd_T160b 600 kd_S160b = true := by decide +kernel
theorem kd_h160b {g : kc_G} (hg : kc_ok g) : kd_hold g 2 kd_ty 160 kd_T160b := kd_mk (d0 := 0) (di := 1) hg kd_xk160 rfl rfl rfl rfl (kd_al_r kd_C160b trivial) (by decide) (by decide +kernel) kd_e160b (kd_al_r kd_S160b trivial)
end
section
-- 93.z0
/-! ===== the engine's run as a piece of a proof by hand: from a state to marks ===== -/
/-- the run from a state reaches marks only (or ends of the contract) -/
theorem kd_seg {g : kc_G} {d : Nat} {M : wk_M} {Q : Option kc_V → kc_H → Prop} {ty : kd_T} {h0 : kc_H} {X : List (List kd_X)} {call : kd_Cl} {ret : kd_R} {fuel : Nat} {Bs : List kd_St} (hX : kd_isA2 M X = true) (hcall : kd_good g d ty h0 call)
    (hok : ∀ S ∈ Bs, kd_sok S = true)
    (hk : ∀ (p : Nat) (iv2 : kd_I) (n2 : Nat) (AL2 : List kd_V) (F2 : kd_F) (W2 : kd_W) (mu2 : List (Nat × kd_V)), (p, iv2, n2, AL2, F2, W2, mu2) ∈ Bs → ∀ (σ : Nat → Nat) (L : kc_L) (hh : kc_H), kd_bx σ iv2 n2 → kd_gL n2 σ AL2 L → kd_gF n2 σ F2 hh → kd_wt ty hh → kd_fr W2 h0 hh → kc_Ev g d M Q p L [] hh)
    {p : Nat} {iv : kd_I} {n : Nat} {AL : List kd_V} {F : kd_F} {W : kd_W} (hrun : kd_go ty X (wk_Ml M) (fun pc iv n AL AS F W => Bs.any (kd_arr ty none pc iv n AL AS F W)) call ret fuel p iv n AL [] F W = true)
    {σ : Nat → Nat} {L : kc_L} {hh : kc_H} (hret : kd_rgood Q ty h0 σ n ret) (hb : kd_bx σ iv n) (hL : kd_gL n σ AL L) (hF : kd_gF n σ F hh) (hw : kd_wt ty hh) (hfr : kd_fr W h0 hh) : kc_Ev g d M Q p L [] hh := by
  refine kd_go_r (ρ0 := σ) (n0 := n) hX hcall hret (fun pc iv n AL AS F W hc => ?_) fuel _ _ _ _ _ _ _ hrun (Nat.le_refl _) σ L [] hh kd_ag_rf hb hL trivial hF hw hfr
  intro hn ρ L' S' h' ha hb' hL' hS' hF' hw' hfr'
  obtain ⟨S2, s1, s2⟩ := List.any_eq_true.mp hc
  obtain ⟨p3, iv3, n3, AL3, F3, W3, mu3⟩ := S2
  obtain ⟨rfl, rfl, σ3, e1, e2, e3, e4, -⟩ := kd_arr_r s2 (hok _ s1) hb' hL' hS' hF' hw' hfr'
  exact hk pc iv3 n3 AL3 F3 W3 mu3 s1 σ3 L' h' e1 e2 e3 hw' e4
/-- no end is reached -/
theorem kd_rno {Q : Option kc_V → kc_H → Prop} {ty : kd_T} {h0 : kc_H} {ρ0 : Nat → Nat} {n0 : Nat} : kd_rgood Q ty h0 ρ0 n0 (fun _ _ _ _ _ => false) := by
  intro iv n rv F W h
  cases h
end
section
-- 94.z0
/-! ===== by hand: rows as numbers; isOrder exactly enough ===== -/
/-- a row as a number -/
def kw_v (f : Nat → Nat) : Nat → Nat
  | 0 => 0
  | m + 1 => kw_v f m * 11 + f m
theorem kw_v_con {f f2 : Nat → Nat} : ∀ m, (∀ j, j < m → f2 j = f j) → kw_v f2 m = kw_v f m
  | 0, _ => rfl
  | m + 1, h => by
    show kw_v f2 m * 11 + f2 m = kw_v f m * 11 + f m
    rw [kw_v_con m (fun j hj => h j (by omega)), h m (by omega)]
theorem kw_v_lt {f f2 : Nat → Nat} {k n : Nat} (hf : ∀ j, j < n → f j ≤ 10) (h1 : ∀ j, j < k → f2 j = f j) (h2 : f k < f2 k) : ∀ m, k < m → m ≤ n → kw_v f m < kw_v f2 m
  | 0, hm, _ => by omega
  | m + 1, hm, hn => by
    show kw_v f m * 11 + f m < kw_v f2 m * 11 + f2 m
    by_cases e : k = m
    · subst e
      rw [kw_v_con k h1]
      omega
    · have := kw_v_lt hf h1 h2 m (by omega) (by omega)
      have := hf m (by omega)
      omega
theorem kw_v_le {f : Nat → Nat} : ∀ n, (∀ j, j < n → f j ≤ 10) → kw_v f n < 11 ^ n
  | 0, _ => by show 0 < 1; decide
  | n + 1, h => by
    have a := kw_v_le n (fun j hj => h j (by omega))
    have b := h n (by omega)
    show kw_v f n * 11 + f n < 11 ^ (n + 1)
    rw [Nat.pow_succ]
    omega
theorem kw_k : kd_rn (kd_ty 259) 34 = some (3, 279, 279) ∧ kd_rn (kd_ty 259) 35 = some (0, 2147483648, 2147483648 + 10) ∧ kd_rn (kd_ty 259) 48 = some (3, 288, 288) := by decide +kernel
theorem kw_k279 : ∀ j, j < 10 → kd_rn (kd_ty 279) j = some (0, 2147483648, 2147483648 + 10) ∧ kd_rn (kd_ty 288) j = some (0, 2147483648, 2147483648 + 9) := by decide +kernel
theorem kw_wt {h : kc_H} {n : Nat} {f : Nat → Nat} (hw : kd_wt kd_ty h) (hn : n ≤ 10) (hf : ∀ j, j < 10 → f j ≤ 10) : kd_wt kd_ty (kw_H h n f) := by
  obtain ⟨k1, k2, k3⟩ := kw_k
  intro c b v hv
  unfold kw_H
  split
  · rename_i e
    subst e
    split
    · rename_i e; subst e; rw [k1] at hv; cases hv; exact ⟨279, rfl, by omega, by omega⟩
    · split
      · rename_i e; subst e; rw [k2] at hv; cases hv; exact kx_gof (by omega) (by omega)
      · exact hw 259 b v hv
  · split
    · rename_i e
      subst e
      split
      · rename_i hb
        rw [(kw_k279 b hb).1] at hv
        cases hv
        exact kx_gof (by omega) (hf b hb)
      · exact hw 279 b v hv
    · exact hw c b v hv
/-- isOrder, for rows of n -/
def kw_ord (g : kc_G) (n : Nat) : Prop := ∀ (m t : Int32) (h : kc_H), kd_wt kd_ty h → kd_g 0 (fun _ => 0) (0, 2147483648, 2147483650) (.inl m) → kd_g 0 (fun _ => 0) (0, 2147483648, 2147484647) (.inl t) → (∀ j, j < n → kd_g 0 (fun _ => 0) (0, 2147483648, 2147483657) (h 279 j)) → kc_Con g 4 275 [.inr (.inr (.inl (some 259))), .inl (Int32.ofNat n), .inl m, .inl t] h (fun rv h' => ∃ b : Bool, rv = some (.inl (kp_b b)) ∧ h' = h)
theorem kw_bool {x : kc_V} (hx : kd_g 0 (fun _ => 0) (0, 2147483648, 2147483649) x) : ∃ b : Bool, x = .inl (kp_b b) := by
  obtain ⟨v, h1, rfl⟩ := kx_ofg (u := 1) (by omega) hx
  rcases (show v = 0 ∨ v = 1 by omega) with rfl | rfl
  · exact ⟨false, rfl⟩
  · exact ⟨true, rfl⟩
theorem kw_ord0 {g : kc_G} (hg : kc_ok g) : kw_ord g 0 := by
  intro m t h hw hm ht hr
  refine kc_Con_mono (kc_Con_le (kd_hold_le (kd_h275n0 hg) (Nat.le_refl _) _ h hw ⟨⟨259, rfl, by decide, by decide⟩, ⟨_, rfl, by decide, by decide⟩, hm, ht, trivial⟩ (fun q hq => ?_)) (by decide)) (fun rv h' hq => ?_)
  · change q ∈ ([] : kd_F) at hq
    cases hq
  · obtain ⟨p, p1, p2, -, -, p5⟩ := hq
    obtain rfl := List.mem_singleton.mp p1
    cases rv with
    | none => exact p2.elim
    | some y =>
      obtain ⟨z, rfl, z1, z2⟩ := p2
      obtain ⟨b, hb⟩ := kw_bool (x := .inl z) ⟨z, rfl, by omega, by omega⟩
      refine ⟨b, by rw [hb], ?_⟩
      funext c i
      exact p5 c i (fun q hq => by cases hq)
theorem kw_ord1 {g : kc_G} (hg : kc_ok g) : kw_ord g 1 := by
  intro m t h hw hm ht hr
  refine kc_Con_mono (kc_Con_le (kd_hold_le (kd_h275n1 hg) (Nat.le_refl _) _ h hw ⟨⟨259, rfl, by decide, by decide⟩, ⟨_, rfl, by decide, by decide⟩, hm, ht, trivial⟩ (fun q hq => ?_)) (by decide)) (fun rv h' hq => ?_)
  · change q ∈ ([(279, 0, (0, 2147483648, 2147483657))] : kd_F) at hq
    obtain rfl := List.mem_singleton.mp hq
    exact hr 0 (by decide)
  · obtain ⟨p, p1, p2, -, -, p5⟩ := hq
    obtain rfl := List.mem_singleton.mp p1
    cases rv with
    | none => exact p2.elim
    | some y =>
      obtain ⟨z, rfl, z1, z2⟩ := p2
      obtain ⟨b, hb⟩ := kw_bool (x := .inl z) ⟨z, rfl, by omega, by omega⟩
      refine ⟨b, by rw [hb], ?_⟩
      funext c i
      exact p5 c i (fun q hq => by cases hq)
theorem kw_ord2 {g : kc_G} (hg : kc_ok g) : kw_ord g 2 := by
  intro m t h hw hm ht hr
  refine kc_Con_mono (kc_Con_le (kd_hold_le (kd_h275n2 hg) (Nat.le_refl _) _ h hw ⟨⟨259, rfl, by decide, by decide⟩, ⟨_, rfl, by decide, by decide⟩, hm, ht, trivial⟩ (fun q hq => ?_)) (by decide)) (fun rv h' hq => ?_)
  · change q ∈ ([(279, 0, (0, 2147483648, 2147483657)), (279, 1, (0, 2147483648, 2147483657))] : kd_F) at hq
    simp only [List.mem_cons, List.not_mem_nil, or_false] at hq
    rcases hq with rfl | rfl
    · exact hr 0 (by decide)
    · exact hr 1 (by decide)
  · obtain ⟨p, p1, p2, -, -, p5⟩ := hq
    obtain rfl := List.mem_singleton.mp p1
    cases rv with
    | none => exact p2.elim
    | some y =>
      obtain ⟨z, rfl, z1, z2⟩ := p2
      obtain ⟨b, hb⟩ := kw_bool (x := .inl z) ⟨z, rfl, by omega, by omega⟩
      refine ⟨b, by rw [hb], ?_⟩
      funext c i
      exact p5 c i (fun q hq => by cases hq)
theorem kw_ord3 {g : kc_G} (hg : kc_ok g) : kw_ord g 3 := by
  intro m t h hw hm ht hr
  refine kc_Con_mono (kc_Con_le (kd_hold_le (kd_h275n3 hg) (Nat.le_refl _) _ h hw ⟨⟨259, rfl, by decide, by decide⟩, ⟨_, rfl, by decide, by decide⟩, hm, ht, trivial⟩ (fun q hq => ?_)) (by decide)) (fun rv h' hq => ?_)
  · change q ∈ ([(279, 0, (0, 2147483648, 2147483657)), (279, 1, (0, 2147483648, 2147483657)), (279, 2, (0, 2147483648, 2147483657))] : kd_F) at hq
    simp only [List.mem_cons, List.not_mem_nil, or_false] at hq
    rcases hq with rfl | rfl | rfl
    · exact hr 0 (by decide)
    · exact hr 1 (by decide)
    · exact hr 2 (by decide)
  · obtain ⟨p, p1, p2, -, -, p5⟩ := hq
    obtain rfl := List.mem_singleton.mp p1
    cases rv with
    | none => exact p2.elim
    | some y =>
      obtain ⟨z, rfl, z1, z2⟩ := p2
      obtain ⟨b, hb⟩ := kw_bool (x := .inl z) ⟨z, rfl, by omega, by omega⟩
      refine ⟨b, by rw [hb], ?_⟩
      funext c i
      exact p5 c i (fun q hq => by cases hq)
theorem kw_ord4 {g : kc_G} (hg : kc_ok g) : kw_ord g 4 := by
  intro m t h hw hm ht hr
  refine kc_Con_mono (kc_Con_le (kd_hold_le (kd_h275n4 hg) (Nat.le_refl _) _ h hw ⟨⟨259, rfl, by decide, by decide⟩, ⟨_, rfl, by decide, by decide⟩, hm, ht, trivial⟩ (fun q hq => ?_)) (by decide)) (fun rv h' hq => ?_)
  · change q ∈ ([(279, 0, (0, 2147483648, 2147483657)), (279, 1, (0, 2147483648, 2147483657)), (279, 2, (0, 2147483648, 2147483657)), (279, 3, (0, 2147483648, 2147483657))] : kd_F) at hq
    simp only [List.mem_cons, List.not_mem_nil, or_false] at hq
    rcases hq with rfl | rfl | rfl | rfl
    · exact hr 0 (by decide)
    · exact hr 1 (by decide)
    · exact hr 2 (by decide)
    · exact hr 3 (by decide)
  · obtain ⟨p, p1, p2, -, -, p5⟩ := hq
    obtain rfl := List.mem_singleton.mp p1
    cases rv with
    | none => exact p2.elim
    | some y =>
      obtain ⟨z, rfl, z1, z2⟩ := p2
      obtain ⟨b, hb⟩ := kw_bool (x := .inl z) ⟨z, rfl, by omega, by omega⟩
      refine ⟨b, by rw [hb], ?_⟩
      funext c i
      exact p5 c i (fun q hq => by cases hq)
theorem kw_ord5 {g : kc_G} (hg : kc_ok g) : kw_ord g 5 := by
  intro m t h hw hm ht hr
  refine kc_Con_mono (kc_Con_le (kd_hold_le (kd_h275n5 hg) (Nat.le_refl _) _ h hw ⟨⟨259, rfl, by decide, by decide⟩, ⟨_, rfl, by decide, by decide⟩, hm, ht, trivial⟩ (fun q hq => ?_)) (by decide)) (fun rv h' hq => ?_)
  · change q ∈ ([(279, 0, (0, 2147483648, 2147483657)), (279, 1, (0, 2147483648, 2147483657)), (279, 2, (0, 2147483648, 2147483657)), (279, 3, (0, 2147483648, 2147483657)), (279, 4, (0, 2147483648, 2147483657))] : kd_F) at hq
    simp only [List.mem_cons, List.not_mem_nil, or_false] at hq
    rcases hq with rfl | rfl | rfl | rfl | rfl
    · exact hr 0 (by decide)
    · exact hr 1 (by decide)
    · exact hr 2 (by decide)
    · exact hr 3 (by decide)
    · exact hr 4 (by decide)
  · obtain ⟨p, p1, p2, -, -, p5⟩ := hq
    obtain rfl := List.mem_singleton.mp p1
    cases rv with
    | none => exact p2.elim
    | some y =>
      obtain ⟨z, rfl, z1, z2⟩ := p2
      obtain ⟨b, hb⟩ := kw_bool (x := .inl z) ⟨z, rfl, by omega, by omega⟩
      refine ⟨b, by rw [hb], ?_⟩
      funext c i
      exact p5 c i (fun q hq => by cases hq)
theorem kw_ord6 {g : kc_G} (hg : kc_ok g) : kw_ord g 6 := by
  intro m t h hw hm ht hr
  refine kc_Con_mono (kc_Con_le (kd_hold_le (kd_h275n6 hg) (Nat.le_refl _) _ h hw ⟨⟨259, rfl, by decide, by decide⟩, ⟨_, rfl, by decide, by decide⟩, hm, ht, trivial⟩ (fun q hq => ?_)) (by decide)) (fun rv h' hq => ?_)
  · change q ∈ ([(279, 0, (0, 2147483648, 2147483657)), (279, 1, (0, 2147483648, 2147483657)), (279, 2, (0, 2147483648, 2147483657)), (279, 3, (0, 2147483648, 2147483657)), (279, 4, (0, 2147483648, 2147483657)), (279, 5, (0, 2147483648, 2147483657))] : kd_F) at hq
    simp only [List.mem_cons, List.not_mem_nil, or_false] at hq
    rcases hq with rfl | rfl | rfl | rfl | rfl | rfl
    · exact hr 0 (by decide)
    · exact hr 1 (by decide)
    · exact hr 2 (by decide)
    · exact hr 3 (by decide)
    · exact hr 4 (by decide)
    · exact hr 5 (by decide)
  · obtain ⟨p, p1, p2, -, -, p5⟩ := hq
    obtain rfl := List.mem_singleton.mp p1
    cases rv with
    | none => exact p2.elim
    | some y =>
      obtain ⟨z, rfl, z1, z2⟩ := p2
      obtain ⟨b, hb⟩ := kw_bool (x := .inl z) ⟨z, rfl, by omega, by omega⟩
      refine ⟨b, by rw [hb], ?_⟩
      funext c i
      exact p5 c i (fun q hq => by cases hq)
end
section
-- 94.z1
/-! ===== by hand: the loop of the reference's alone ===== -/
set_option maxRecDepth 20000 in
theorem kw_end {g : kc_G} {d : Nat} {Q : Option kc_V → kc_H → Prop} {h : kc_H} {n : Nat} {f : Nat → Nat} {x7 c6 c5 mu ti wh : Int32} (hQ : ∀ r : Int32, Q (some (.inl r)) (kw_H h n f)) : kc_Ev g d wk_m154 Q 183 [(7, .inl (x7)), (6, .inl (c6)), (5, .inl (c5)), (4, .inl (Int32.ofNat n)), (0, .inr (.inr (.inl (some 259)))), (1, .inl (mu)), (2, .inl (ti)), (3, .inl (wh))] [] (kw_H h n f) := by
  refine kx_go 3 (pc' := (if kc_cnd .ne (wh).toInt (Int32.ofInt (-1)).toInt then 193 else 188)) (L' := [(7, .inl (x7)), (6, .inl (c6)), (5, .inl (c5)), (4, .inl (Int32.ofNat n)), (0, .inr (.inr (.inl (some 259)))), (1, .inl (mu)), (2, .inl (ti)), (3, .inl (wh))]) (S' := []) (h' := (kw_H h n f)) (by with_unfolding_all rfl) ?_
  by_cases e1 : kc_cnd .ne wh.toInt (Int32.ofInt (-1)).toInt = true
  · rw [if_pos e1]
    refine kx_go 3 (pc' := (if kc_cnd .ne (c6).toInt (Int32.ofInt (-1)).toInt then 204 else 199)) (L' := [(7, .inl (x7)), (6, .inl (c6)), (5, .inl (c5)), (4, .inl (Int32.ofNat n)), (0, .inr (.inr (.inl (some 259)))), (1, .inl (mu)), (2, .inl (ti)), (3, .inl (wh))]) (S' := []) (h' := (kw_H h n f)) (by with_unfolding_all rfl) ?_
    by_cases e2 : kc_cnd .ne c6.toInt (Int32.ofInt (-1)).toInt = true
    · rw [if_pos e2]
      refine kx_go 1 (pc' := 206) (L' := [(7, .inl (x7)), (6, .inl (c6)), (5, .inl (c5)), (4, .inl (Int32.ofNat n)), (0, .inr (.inr (.inl (some 259)))), (1, .inl (mu)), (2, .inl (ti)), (3, .inl (wh))]) (S' := [.inl (c6)]) (h' := (kw_H h n f)) (by with_unfolding_all rfl) ?_
      exact kc_ret_ok rfl (rv := some (.inl c6)) rfl (hQ c6)
    · rw [if_neg e2]
      refine kx_go 2 (pc' := 206) (L' := [(7, .inl (x7)), (6, .inl (c6)), (5, .inl (c5)), (4, .inl (Int32.ofNat n)), (0, .inr (.inr (.inl (some 259)))), (1, .inl (mu)), (2, .inl (ti)), (3, .inl (wh))]) (S' := [.inl (Int32.ofInt (-5))]) (h' := (kw_H h n f)) (by with_unfolding_all rfl) ?_
      exact kc_ret_ok rfl (rv := some (.inl (Int32.ofInt (-5)))) rfl (hQ _)
  · rw [if_neg e1]
    refine kx_go 2 (pc' := 206) (L' := [(7, .inl (x7)), (6, .inl (c6)), (5, .inl (c5)), (4, .inl (Int32.ofNat n)), (0, .inr (.inr (.inl (some 259)))), (1, .inl (mu)), (2, .inl (ti)), (3, .inl (wh))]) (S' := [.inl (c5)]) (h' := (kw_H h n f)) (by with_unfolding_all rfl) ?_
    exact kc_ret_ok rfl (rv := some (.inl c5)) rfl (hQ c5)
set_option maxRecDepth 20000 in
theorem kw_nx {g : kc_G} {d : Nat} {Q : Option kc_V → kc_H → Prop} {h : kc_H} {n : Nat} {f : Nat → Nat} {x7 c6 c5 mu ti wh : Int32} (hg : kc_ok g) (hd : 3 ≤ d) (hn : n < 7) (hf : ∀ j, j < 10 → f j ≤ 10) (hfn : ∀ j, j < n → f j < n)
    (hK1 : ∀ (f2 : Nat → Nat) (c6 c5 : Int32), (∀ j, j < 10 → f2 j ≤ 10) → (∀ j, j < n → f2 j < n) → kw_v f n < kw_v f2 n → kc_Ev g d wk_m154 Q 122 [(7, .inl (Int32.ofNat 1)), (6, .inl (c6)), (5, .inl (c5)), (4, .inl (Int32.ofNat n)), (0, .inr (.inr (.inl (some 259)))), (1, .inl (mu)), (2, .inl (ti)), (3, .inl (wh))] [] (kw_H h n f2)) (hK0 : ∀ (f2 : Nat → Nat) (c6 c5 : Int32), (∀ j, j < 10 → f2 j ≤ 10) → kc_Ev g d wk_m154 Q 122 [(7, .inl (Int32.ofNat 0)), (6, .inl (c6)), (5, .inl (c5)), (4, .inl (Int32.ofNat n)), (0, .inr (.inr (.inl (some 259)))), (1, .inl (mu)), (2, .inl (ti)), (3, .inl (wh))] [] (kw_H h n f2)) : kc_Ev g d wk_m154 Q 174 [(7, .inl (x7)), (6, .inl (c6)), (5, .inl (c5)), (4, .inl (Int32.ofNat n)), (0, .inr (.inr (.inl (some 259)))), (1, .inl (mu)), (2, .inl (ti)), (3, .inl (wh))] [] (kw_H h n f) := by
  refine kx_go 1 (pc' := 175) (L' := [(7, .inl (x7)), (6, .inl (c6)), (5, .inl (c5)), (4, .inl (Int32.ofNat n)), (0, .inr (.inr (.inl (some 259)))), (1, .inl (mu)), (2, .inl (ti)), (3, .inl (wh))]) (S' := [.inr (.inr (.inl (some 259)))]) (h' := (kw_H h n f)) (by with_unfolding_all rfl) ?_
  refine kc_call_rule (M2 := wk_m133) (av := [.inr (.inr (.inl (some 259)))]) (r := []) rfl rfl (kc_Con_le (kw_next (d := 0) hg (by omega) hf hfn) (by omega)) (fun rv h' hq => ?_)
  rcases hq with ⟨k, f2, rfl, b0, b1, b2, b3, b4, b5, rfl⟩ | ⟨f2, rfl, b5, rfl⟩
  · show kc_Ev g d wk_m154 Q 178 [(7, .inl (x7)), (6, .inl (c6)), (5, .inl (c5)), (4, .inl (Int32.ofNat n)), (0, .inr (.inr (.inl (some 259)))), (1, .inl (mu)), (2, .inl (ti)), (3, .inl (wh))] [.inl (Int32.ofNat 1)] (kw_H h n f2)
    refine kx_go 2 (pc' := 122) (L' := [(7, .inl (Int32.ofNat 1)), (6, .inl (c6)), (5, .inl (c5)), (4, .inl (Int32.ofNat n)), (0, .inr (.inr (.inl (some 259)))), (1, .inl (mu)), (2, .inl (ti)), (3, .inl (wh))]) (S' := []) (h' := (kw_H h n f2)) (by with_unfolding_all rfl) ?_
    refine kf_lo (L := [(7, .inl (Int32.ofNat 1)), (6, .inl (c6)), (5, .inl (c5)), (4, .inl (Int32.ofNat n)), (0, .inr (.inr (.inl (some 259)))), (1, .inl (mu)), (2, .inl (ti)), (3, .inl (wh))]) ?_ (hK1 f2 c6 c5 b5 (fun j hj => ?_) (kw_v_lt (n := n) (fun j hj => hf j (by omega)) b1 b2 n (by omega) (Nat.le_refl _)))
    · intro q hq
      simp only [List.mem_cons, List.not_mem_nil, or_false] at hq
      rcases hq with rfl | rfl | rfl | rfl | rfl | rfl | rfl | rfl <;> rfl
    · by_cases q : j < k
      · rw [b1 j q]; exact hfn j hj
      · by_cases q2 : j = k
        · rw [q2]; exact b3
        · have := b4 j (by omega) hj; omega
  · show kc_Ev g d wk_m154 Q 178 [(7, .inl (x7)), (6, .inl (c6)), (5, .inl (c5)), (4, .inl (Int32.ofNat n)), (0, .inr (.inr (.inl (some 259)))), (1, .inl (mu)), (2, .inl (ti)), (3, .inl (wh))] [.inl (Int32.ofNat 0)] (kw_H h n f2)
    refine kx_go 2 (pc' := 122) (L' := [(7, .inl (Int32.ofNat 0)), (6, .inl (c6)), (5, .inl (c5)), (4, .inl (Int32.ofNat n)), (0, .inr (.inr (.inl (some 259)))), (1, .inl (mu)), (2, .inl (ti)), (3, .inl (wh))]) (S' := []) (h' := (kw_H h n f2)) (by with_unfolding_all rfl) ?_
    refine kf_lo (L := [(7, .inl (Int32.ofNat 0)), (6, .inl (c6)), (5, .inl (c5)), (4, .inl (Int32.ofNat n)), (0, .inr (.inr (.inl (some 259)))), (1, .inl (mu)), (2, .inl (ti)), (3, .inl (wh))]) ?_ (hK0 f2 c6 c5 b5)
    intro q hq
    simp only [List.mem_cons, List.not_mem_nil, or_false] at hq
    rcases hq with rfl | rfl | rfl | rfl | rfl | rfl | rfl | rfl <;> rfl
set_option maxRecDepth 20000 in
theorem kw_no {g : kc_G} {d : Nat} {Q : Option kc_V → kc_H → Prop} {h : kc_H} {n : Nat} {f : Nat → Nat} {c6 c5 mu ti wh : Int32} (hQ : ∀ r : Int32, Q (some (.inl r)) (kw_H h n f)) : kc_Ev g d wk_m154 Q 122 [(7, .inl (Int32.ofNat 0)), (6, .inl (c6)), (5, .inl (c5)), (4, .inl (Int32.ofNat n)), (0, .inr (.inr (.inl (some 259)))), (1, .inl (mu)), (2, .inl (ti)), (3, .inl (wh))] [] (kw_H h n f) := by
  refine kx_go 2 (pc' := 183) (L' := [(7, .inl (Int32.ofNat 0)), (6, .inl (c6)), (5, .inl (c5)), (4, .inl (Int32.ofNat n)), (0, .inr (.inr (.inl (some 259)))), (1, .inl (mu)), (2, .inl (ti)), (3, .inl (wh))]) (S' := []) (h' := (kw_H h n f)) (by with_unfolding_all rfl) ?_
  exact kw_end hQ
set_option maxRecDepth 20000 in
theorem kw_loop {g : kc_G} {d : Nat} {Q : Option kc_V → kc_H → Prop} {h : kc_H} {n : Nat} {mu ti wh : Int32} (hg : kc_ok g) (hd : 4 ≤ d) (hn : n < 7) (hord : kw_ord g n) (hw : kd_wt kd_ty h) (hmu : kd_g 0 (fun _ => 0) (0, 2147483648, 2147483650) (.inl mu)) (hti : kd_g 0 (fun _ => 0) (0, 2147483648, 2147484647) (.inl ti)) (hQ : ∀ (r : Int32) (f2 : Nat → Nat), (∀ j, j < 10 → f2 j ≤ 10) → Q (some (.inl r)) (kw_H h n f2)) : ∀ (u : Nat) (f : Nat → Nat) (c6 c5 : Int32), 11 ^ n - kw_v f n < u → (∀ j, j < 10 → f j ≤ 10) → (∀ j, j < n → f j < n) → kc_Ev g d wk_m154 Q 122 [(7, .inl (Int32.ofNat 1)), (6, .inl (c6)), (5, .inl (c5)), (4, .inl (Int32.ofNat n)), (0, .inr (.inr (.inl (some 259)))), (1, .inl (mu)), (2, .inl (ti)), (3, .inl (wh))] [] (kw_H h n f) := by
  intro u
  induction u with
  | zero => intro f c6 c5 hu; omega
  | succ u ih =>
    intro f c6 c5 hu hf hfn
    have hw2 := kw_wt (n := n) hw (by omega) hf
    have hnx : ∀ (x7 c6 c5 : Int32), kc_Ev g d wk_m154 Q 174 [(7, .inl (x7)), (6, .inl (c6)), (5, .inl (c5)), (4, .inl (Int32.ofNat n)), (0, .inr (.inr (.inl (some 259)))), (1, .inl (mu)), (2, .inl (ti)), (3, .inl (wh))] [] (kw_H h n f) := fun x7 c6 c5 => kw_nx hg (by omega) hn hf hfn (fun f2 c6 c5 a1 a2 a3 => ih f2 c6 c5 (by have := kw_v_le (f := f2) n (fun j hj => a1 j (by omega)); omega) a1 a2) (fun f2 c6 c5 a1 => kw_no (fun r => hQ r f2 a1))
    refine kx_go 6 (pc' := 132) (L' := [(7, .inl (Int32.ofNat 1)), (6, .inl (c6)), (5, .inl (c5)), (4, .inl (Int32.ofNat n)), (0, .inr (.inr (.inl (some 259)))), (1, .inl (mu)), (2, .inl (ti)), (3, .inl (wh))]) (S' := [.inl (ti), .inl (mu), .inl (Int32.ofNat n), .inr (.inr (.inl (some 259)))]) (h' := (kw_H h n f)) (by with_unfolding_all rfl) ?_
    refine kc_call_rule (M2 := wk_m275) (av := [.inr (.inr (.inl (some 259))), .inl (Int32.ofNat n), .inl mu, .inl ti]) (r := []) rfl rfl (kc_Con_le (hord mu ti (kw_H h n f) hw2 hmu hti (fun j hj => by rw [kw_r (by omega)]; exact kx_gof (u := 9) (by omega) (by have := hfn j hj; omega))) (by omega)) (fun rv h' hq => ?_)
    obtain ⟨b, rfl, rfl⟩ := hq
    show kc_Ev g d wk_m154 Q 135 [(7, .inl (Int32.ofNat 1)), (6, .inl (c6)), (5, .inl (c5)), (4, .inl (Int32.ofNat n)), (0, .inr (.inr (.inl (some 259)))), (1, .inl (mu)), (2, .inl (ti)), (3, .inl (wh))] [.inl (kp_b b)] (kw_H h n f)
    refine kx_go 1 (pc' := (if kc_cnd .eq (kp_b b).toInt 0 then 174 else 138)) (L' := [(7, .inl (Int32.ofNat 1)), (6, .inl (c6)), (5, .inl (c5)), (4, .inl (Int32.ofNat n)), (0, .inr (.inr (.inl (some 259)))), (1, .inl (mu)), (2, .inl (ti)), (3, .inl (wh))]) (S' := []) (h' := (kw_H h n f)) (by with_unfolding_all rfl) ?_
    cases b with
    | false => rw [if_pos (kx_b0.mpr rfl)]; exact hnx _ _ _
    | true =>
      rw [if_neg (fun q => by have := kx_b0.mp q; cases this)]
      have h169 : ∀ z : Int32, kc_Ev g d wk_m154 Q 169 [(7, .inl (Int32.ofNat 1)), (6, .inl (c6)), (5, .inl (c5)), (4, .inl (Int32.ofNat n)), (0, .inr (.inr (.inl (some 259)))), (1, .inl (mu)), (2, .inl (ti)), (3, .inl (wh))] [.inl z] (kw_H h n f) := by
        intro z
        refine kx_go 2 (pc' := 174) (L' := [(5, .inl (c5 + Int32.ofInt 1)), (6, .inl (z)), (7, .inl (Int32.ofNat 1)), (4, .inl (Int32.ofNat n)), (0, .inr (.inr (.inl (some 259)))), (1, .inl (mu)), (2, .inl (ti)), (3, .inl (wh))]) (S' := []) (h' := (kw_H h n f)) (by with_unfolding_all rfl) ?_
        refine kf_lo (L := [(7, .inl (Int32.ofNat 1)), (6, .inl (z)), (5, .inl (c5 + Int32.ofInt 1)), (4, .inl (Int32.ofNat n)), (0, .inr (.inr (.inl (some 259)))), (1, .inl (mu)), (2, .inl (ti)), (3, .inl (wh))]) ?_ (hnx (Int32.ofNat 1) z (c5 + Int32.ofInt 1))
        intro q hq
        simp only [List.mem_cons, List.not_mem_nil, or_false] at hq
        rcases hq with rfl | rfl | rfl | rfl | rfl | rfl | rfl | rfl <;> rfl
      have h167 : kc_Ev g d wk_m154 Q 167 [(7, .inl (Int32.ofNat 1)), (6, .inl (c6)), (5, .inl (c5)), (4, .inl (Int32.ofNat n)), (0, .inr (.inr (.inl (some 259)))), (1, .inl (mu)), (2, .inl (ti)), (3, .inl (wh))] [] (kw_H h n f) := by
        refine kx_go 1 (pc' := 169) (L' := [(7, .inl (Int32.ofNat 1)), (6, .inl (c6)), (5, .inl (c5)), (4, .inl (Int32.ofNat n)), (0, .inr (.inr (.inl (some 259)))), (1, .inl (mu)), (2, .inl (ti)), (3, .inl (wh))]) (S' := [.inl (c6)]) (h' := (kw_H h n f)) (by with_unfolding_all rfl) ?_
        exact h169 c6
      refine kx_go 2 (pc' := (if kc_cnd .ne (c5).toInt 0 then 167 else 143)) (L' := [(7, .inl (Int32.ofNat 1)), (6, .inl (c6)), (5, .inl (c5)), (4, .inl (Int32.ofNat n)), (0, .inr (.inr (.inl (some 259)))), (1, .inl (mu)), (2, .inl (ti)), (3, .inl (wh))]) (S' := []) (h' := (kw_H h n f)) (by with_unfolding_all rfl) ?_
      by_cases e1 : kc_cnd .ne c5.toInt 0 = true
      · rw [if_pos e1]; exact h167
      · rw [if_neg e1]
        refine kx_go 2 (pc' := (if kc_cnd .lt (wh).toInt 0 then 167 else 147)) (L' := [(7, .inl (Int32.ofNat 1)), (6, .inl (c6)), (5, .inl (c5)), (4, .inl (Int32.ofNat n)), (0, .inr (.inr (.inl (some 259)))), (1, .inl (mu)), (2, .inl (ti)), (3, .inl (wh))]) (S' := []) (h' := (kw_H h n f)) (by with_unfolding_all rfl) ?_
        by_cases e2 : kc_cnd .lt wh.toInt 0 = true
        · rw [if_pos e2]; exact h167
        · rw [if_neg e2]
          refine kx_go 3 (pc' := (if kc_cnd .ge (wh).toInt (Int32.ofNat n).toInt then 167 else 153)) (L' := [(7, .inl (Int32.ofNat 1)), (6, .inl (c6)), (5, .inl (c5)), (4, .inl (Int32.ofNat n)), (0, .inr (.inr (.inl (some 259)))), (1, .inl (mu)), (2, .inl (ti)), (3, .inl (wh))]) (S' := []) (h' := (kw_H h n f)) (by with_unfolding_all rfl) ?_
          by_cases e3 : kc_cnd .ge wh.toInt (Int32.ofNat n).toInt = true
          · rw [if_pos e3]; exact h167
          · rw [if_neg e3]
            obtain ⟨w, hwn, hwh⟩ : ∃ w, w < n ∧ wh = Int32.ofNat w := by
              unfold kc_cnd at e2 e3
              rw [kx_ti (by omega)] at e3
              simp only [decide_eq_true_eq, Bool.not_eq_true', decide_eq_false_iff_not] at e2 e3
              refine ⟨wh.toInt.toNat, by omega, Int32.toInt_inj.mp ?_⟩
              rw [kx_ti (by omega)]
              omega
            subst hwh
            refine kx_go 1 (pc' := 154) (L' := [(7, .inl (Int32.ofNat 1)), (6, .inl (c6)), (5, .inl (c5)), (4, .inl (Int32.ofNat n)), (0, .inr (.inr (.inl (some 259)))), (1, .inl (mu)), (2, .inl (ti)), (3, .inl (Int32.ofNat w))]) (S' := [.inr (.inr (.inl (some 259)))]) (h' := (kw_H h n f)) (by with_unfolding_all rfl) ?_
            refine kx_getf (c := 259) (v := .inr (.inr (.inl (some 288)))) rfl (by decide) ((show (kw_H h n f) 259 48 = h 259 48 from rfl).trans (kx_ofr (hw _ _ _ kw_k.2.2))) ?_
            refine kx_go 3 (pc' := 162) (L' := [(7, .inl (Int32.ofNat 1)), (6, .inl (c6)), (5, .inl (c5)), (4, .inl (Int32.ofNat n)), (0, .inr (.inr (.inl (some 259)))), (1, .inl (mu)), (2, .inl (ti)), (3, .inl (Int32.ofNat w))]) (S' := [.inl (Int32.ofNat w), .inr (.inr (.inl (some 279))), .inr (.inr (.inl (some 288)))]) (h' := (kw_H h n f)) (by with_unfolding_all rfl) ?_
            have hfw := hfn w hwn
            refine kx_iald rfl (c := 279) (j := w) (m := 10) rfl (by decide) (by decide) (by omega) (kw_r (by omega)) ?_
            obtain ⟨z, -, ez⟩ := kx_ofg (u := 9) (by omega) (hw _ _ _ (kw_k279 (f w) (by omega)).2)
            refine kx_iald rfl (c := 288) (j := f w) (m := 10) (v := .inl (Int32.ofNat z)) rfl (by decide) (by decide) (by omega) ((show (kw_H h n f) 288 (f w) = h 288 (f w) from rfl).trans ez) ?_
            refine kx_go 1 (pc' := 169) (L' := [(7, .inl (Int32.ofNat 1)), (6, .inl (c6)), (5, .inl (c5)), (4, .inl (Int32.ofNat n)), (0, .inr (.inr (.inl (some 259)))), (1, .inl (mu)), (2, .inl (ti)), (3, .inl (Int32.ofNat w))]) (S' := [.inl (Int32.ofNat z)]) (h' := (kw_H h n f)) (by with_unfolding_all rfl) ?_
            exact h169 (Int32.ofNat z)
end
section
-- 95.z0
/-! ===== contracts with marks that are proved by hand ===== -/
noncomputable def kd_run1h (ty : kd_T) (X : List (List kd_X)) (nL : Nat) (call : kd_Cl) (ps : List kd_P) (fuel : Nat) (Ss Hs : List kd_St) (S : kd_St) : Bool := match S with
  | (pc, iv, n, AL, F, W, mu) => kd_go ty X nL (fun pc iv n AL AS F W => bif Ss.any (kd_arr ty (some mu) pc iv n AL AS F W) then true else Hs.any (kd_arr ty none pc iv n AL AS F W)) call (kd_fin ty ps) fuel pc iv n AL [] F W
noncomputable def kd_run0h (ty : kd_T) (X : List (List kd_X)) (nL : Nat) (call : kd_Cl) (T : kd_Tc) (fuel : Nat) (Ss Hs : List kd_St) : Bool := kd_nmL T.1 [] 0 fun iv n al => kd_argl al nL (fun AL => kd_go ty X nL (fun pc iv n AL AS F W => bif Ss.any (kd_arr ty none pc iv n AL AS F W) then true else Hs.any (kd_arr ty none pc iv n AL AS F W)) call (kd_fin ty T.2.2) fuel 0 iv n AL [] T.2.1 [])
/-- a mark proved by hand -/
def kd_hand (g : kc_G) (d : Nat) (M : wk_M) (ty : kd_T) (ps : List kd_P) (h0 : kc_H) (S : kd_St) : Prop := match S with
  | (p, iv, n, AL, F, W, _) => ∀ (σ : Nat → Nat) (L : kc_L) (hh : kc_H), kd_bx σ iv n → kd_gL n σ AL L → kd_gF n σ F hh → kd_wt ty hh → kd_fr W h0 hh → kc_Ev g d M (fun xr h' => ∃ p ∈ ps, kd_rv 0 (fun _ => 0) p.1 xr ∧ kd_gF 0 (fun _ => 0) p.2.1 h' ∧ kd_wt ty h' ∧ kd_fr p.2.2 h0 h') p L [] hh
theorem kd_orh {a b : Bool} (h : (bif a then true else b) = true) : a = true ∨ b = true := by
  cases a with
  | true => exact Or.inl rfl
  | false => exact Or.inr h
theorem kd_stations_h {g : kc_G} {d : Nat} {M : wk_M} {ty : kd_T} {h0 : kc_H} {X : List (List kd_X)} {call : kd_Cl} {ps : List kd_P} {fuel : Nat} {Ss Hs : List kd_St} (hX : kd_isA2 M X = true) (hcall : kd_good g d ty h0 call) (hok : ∀ S ∈ Ss, kd_sok S = true) (hokH : ∀ S ∈ Hs, kd_sok S = true) (hH : ∀ S ∈ Hs, kd_hand g d M ty ps h0 S) (hrun : ∀ S ∈ Ss, kd_run1h ty X (wk_Ml M) call ps fuel Ss Hs S = true) :
    ∀ (m : Nat) (p : Nat) (iv2 : kd_I) (n2 : Nat) (AL2 : List kd_V) (F2 : kd_F) (W2 : kd_W) (mu2 : List (Nat × kd_V)), (p, iv2, n2, AL2, F2, W2, mu2) ∈ Ss → ∀ (σ : Nat → Nat) (L : kc_L) (hh : kc_H), kd_nu (mu2.map (kd_cv σ)) < m → kd_bx σ iv2 n2 → kd_gL n2 σ AL2 L → kd_gF n2 σ F2 hh → kd_wt ty hh → kd_fr W2 h0 hh → kc_Ev g d M (fun xr h' => ∃ p ∈ ps, kd_rv 0 (fun _ => 0) p.1 xr ∧ kd_gF 0 (fun _ => 0) p.2.1 h' ∧ kd_wt ty h' ∧ kd_fr p.2.2 h0 h') p L [] hh := by
  intro m
  induction m with
  | zero => intro p iv2 n2 AL2 F2 W2 mu2 hS σ L hh hm; omega
  | succ m ih =>
    intro p iv2 n2 AL2 F2 W2 mu2 hS σ L hh hm hb hL hF hw hfr
    have hr : kd_go ty X (wk_Ml M) (fun pc iv n AL AS F W => bif Ss.any (kd_arr ty (some mu2) pc iv n AL AS F W) then true else Hs.any (kd_arr ty none pc iv n AL AS F W)) call (kd_fin ty ps) fuel p iv2 n2 AL2 [] F2 W2 = true := hrun _ hS
    have hmok : kd_mok n2 mu2 = true := by
      have := hok _ hS
      unfold kd_sok at this
      simp only [Bool.and_eq_true] at this
      exact this.2
    refine kd_go_r (ρ0 := σ) (n0 := n2) hX hcall kd_fin_r (fun pc iv n AL AS F W hc => ?_) fuel _ _ _ _ _ _ _ hr (Nat.le_refl _) σ L [] hh kd_ag_rf hb hL trivial hF hw hfr
    intro hn ρ L' S' h' ha hb' hL' hS' hF' hw' hfr'
    rcases kd_orh hc with hc | hc
    · obtain ⟨S2, s1, s2⟩ := List.any_eq_true.mp hc
      obtain ⟨p3, iv3, n3, AL3, F3, W3, mu3⟩ := S2
      obtain ⟨rfl, rfl, σ3, e1, e2, e3, e4, e5⟩ := kd_arr_r s2 (hok _ s1) hb' hL' hS' hF' hw' hfr'
      refine ih pc iv3 n3 AL3 F3 W3 mu3 s1 σ3 L' h' ?_ e1 e2 e3 hw' e4
      have := e5 mu2 rfl (kd_mok_le hn _ hmok)
      rw [kd_cv_ag ha mu2 hmok] at this
      omega
    · obtain ⟨S2, s1, s2⟩ := List.any_eq_true.mp hc
      obtain ⟨p3, iv3, n3, AL3, F3, W3, mu3⟩ := S2
      obtain ⟨rfl, rfl, σ3, e1, e2, e3, e4, -⟩ := kd_arr_r s2 (hokH _ s1) hb' hL' hS' hF' hw' hfr'
      exact hH _ s1 σ3 L' h' e1 e2 e3 hw' e4
theorem kd_new_h {g : kc_G} {d : Nat} {ty : kd_T} {call : kd_Cl} {id : Nat} {M : wk_M} {X : List (List kd_X)} {T : kd_Tc} {fuel : Nat} {Ss Hs : List kd_St} (hg : kc_ok g) (hm : wk_mt id = some M) (hk : wk_Mk M = 0) (hs : wk_Ms M = 0) (hX : kd_isA2 M X = true) (hcall : ∀ h0, kd_good g d ty h0 call) (hok : Ss.all kd_sok = true) (hokH : Hs.all kd_sok = true) (hH : ∀ h0, ∀ S ∈ Hs, kd_hand g d M ty T.2.2 h0 S) (h0 : kd_run0h ty X (wk_Ml M) call T fuel Ss Hs = true) (hrun : ∀ S ∈ Ss, kd_run1h ty X (wk_Ml M) call T.2.2 fuel Ss Hs S = true) : kd_hold g (d + 1) ty id T := by
  intro xs h hw hv hF
  have hok' : ∀ S ∈ Ss, kd_sok S = true := fun S hS => List.all_eq_true.mp hok S hS
  have hokH' : ∀ S ∈ Hs, kd_sok S = true := fun S hS => List.all_eq_true.mp hokH S hS
  have st := kd_stations_h (h0 := h) hX (hcall h) hok' hokH' (hH h) hrun
  unfold kd_run0h at h0
  have hb0 : kd_bx (fun _ => 0) ([] : kd_I) 0 := ⟨rfl, fun j l u hat => by unfold kd_at at hat; simp [Nat.blt, Nat.ble] at hat⟩
  obtain ⟨ρ, iv, n, al, -, -, b3, b4, h0⟩ := kd_nmL_r T.1 xs [] 0 _ _ h0 hb0 hv
  obtain ⟨AL, k1, k2, k3⟩ := kd_argl_r (n := n) (ρ := ρ) al xs _ _ h0 b4
  refine kc_Con_new hg hm hk hs k2 (kd_go_r (h0 := h) (ρ0 := ρ) (n0 := n) hX (hcall h) kd_fin_r (fun pc iv n AL AS F W hc => ?_) fuel _ _ _ _ _ _ _ k1 (Nat.le_refl _) ρ _ [] h kd_ag_rf b3 (fun i v hi hk => ?_) trivial (fun q hq => kd_g0 (hF q hq)) hw (fun c i _ => rfl))
  · intro hn ρ L' S' h' ha hb' hL' hS' hF' hw' hfr'
    rcases kd_orh hc with hc | hc
    · obtain ⟨S2, s1, s2⟩ := List.any_eq_true.mp hc
      obtain ⟨p3, iv3, n3, AL3, F3, W3, mu3⟩ := S2
      obtain ⟨rfl, rfl, σ3, e1, e2, e3, e4, e5⟩ := kd_arr_r s2 (hok' _ s1) hb' hL' hS' hF' hw' hfr'
      exact st _ pc iv3 n3 AL3 F3 W3 mu3 s1 σ3 L' h' (Nat.lt_succ_self _) e1 e2 e3 hw' e4
    · obtain ⟨S2, s1, s2⟩ := List.any_eq_true.mp hc
      obtain ⟨p3, iv3, n3, AL3, F3, W3, mu3⟩ := S2
      obtain ⟨rfl, rfl, σ3, e1, e2, e3, e4, -⟩ := kd_arr_r s2 (hokH' _ s1) hb' hL' hS' hF' hw' hfr'
      exact hH h _ s1 σ3 L' h' e1 e2 e3 hw' e4
  · obtain ⟨y, e1, e2⟩ := k3 0 i v hi hk
    rw [Nat.zero_add] at e1
    exact ⟨y, e1, e2⟩
end
section
-- 95.z1
/-! ===== alone of the reference ===== -/
def kd_W154 : kd_W := [(273, 275, 0, 0), (272, 272, 0, 9), (279, 279, 0, 9), (288, 288, 0, 9), (273, 275, 1, 1), (273, 275, 2, 2), (273, 275, 3, 3), (273, 275, 4, 4), (273, 275, 5, 5), (273, 275, 6, 6), (273, 275, 7, 7), (273, 275, 8, 8), (273, 275, 9, 9), (259, 259, 35, 35)]
def kd_P154 : List kd_P := [(some (0, 0, 4294967295), [], kd_W154)]
def kd_T154 : kd_Tc := ([(3, 259, 259), (0, 0, 4294967295), (0, 0, 4294967295), (0, 0, 4294967295)], [], kd_P154)
def kd_C154 : List (Nat × kd_Tc) := [(105, kd_T105), (237, kd_T237k6), (237, kd_T237k2)]
def kd_S154_0 : kd_St := (44, [(2147483649, 2147483651), (2147483648, 4294967294), (2147483647, 4294967295), (2147483648, 2147484647), (2147483648, 2147483650)], 5, [(3, 259, 259), (1, 0, 2147483648), (1, 1, 2147483648), (1, 2, 2147483648), (0, 2147483648, 2147483648), (1, 3, 2147483648), (9, 0, 0), (9, 0, 0)], [(260, 1, (1, 4, 2147483648))], [(273, 275, 0, 0), (272, 272, 0, 9), (273, 275, 1, 1), (273, 275, 2, 2), (273, 275, 3, 3), (273, 275, 4, 4), (273, 275, 5, 5), (273, 275, 6, 6), (273, 275, 7, 7), (273, 275, 8, 8), (273, 275, 9, 9)], [(0, (0, 45, 45)), (0, (1, 3, 2147483648))])
def kd_S154_1 : kd_St := (44, [(2147483649, 2147483658), (2147483649, 2147483651), (2147483649, 4294967294), (2147483647, 4294967295), (2147483648, 2147484647), (2147483648, 2147483650)], 6, [(3, 259, 259), (1, 0, 2147483648), (1, 1, 2147483648), (1, 2, 2147483648), (0, 2147483649, 2147483649), (1, 3, 2147483648), (9, 0, 0), (9, 0, 0)], [(260, 1, (1, 4, 2147483648)), (260, 2, (1, 5, 2147483648))], [(273, 275, 0, 0), (288, 288, 0, 0), (272, 272, 0, 9), (273, 275, 1, 1), (273, 275, 2, 2), (273, 275, 3, 3), (273, 275, 4, 4), (273, 275, 5, 5), (273, 275, 6, 6), (273, 275, 7, 7), (273, 275, 8, 8), (273, 275, 9, 9)], [(0, (0, 45, 45)), (0, (1, 3, 2147483648))])
def kd_S154_2 : kd_St := (44, [(2147483650, 2147483658), (2147483649, 2147483651), (2147483650, 4294967294), (2147483647, 4294967295), (2147483648, 2147484647), (2147483648, 2147483650)], 6, [(3, 259, 259), (1, 0, 2147483648), (1, 1, 2147483648), (1, 2, 2147483648), (0, 2147483650, 2147483650), (1, 3, 2147483648), (9, 0, 0), (9, 0, 0)], [(260, 1, (1, 4, 2147483648)), (260, 2, (1, 5, 2147483648))], [(273, 275, 0, 0), (288, 288, 0, 1), (272, 272, 0, 9), (273, 275, 1, 1), (273, 275, 2, 2), (273, 275, 3, 3), (273, 275, 4, 4), (273, 275, 5, 5), (273, 275, 6, 6), (273, 275, 7, 7), (273, 275, 8, 8), (273, 275, 9, 9)], [(0, (0, 45, 45)), (0, (1, 3, 2147483648))])
def kd_S154_3 : kd_St := (44, [(2147483651, 2147483658), (2147483649, 2147483651), (2147483651, 4294967294), (2147483647, 4294967295), (2147483648, 2147484647), (2147483648, 2147483650)], 6, [(3, 259, 259), (1, 0, 2147483648), (1, 1, 2147483648), (1, 2, 2147483648), (0, 2147483651, 2147483651), (1, 3, 2147483648), (9, 0, 0), (9, 0, 0)], [(260, 1, (1, 4, 2147483648)), (260, 2, (1, 5, 2147483648))], [(273, 275, 0, 0), (288, 288, 0, 2), (272, 272, 0, 9), (273, 275, 1, 1), (273, 275, 2, 2), (273, 275, 3, 3), (273, 275, 4, 4), (273, 275, 5, 5), (273, 275, 6, 6), (273, 275, 7, 7), (273, 275, 8, 8), (273, 275, 9, 9)], [(0, (0, 45, 45)), (0, (1, 3, 2147483648))])
def kd_S154_4 : kd_St := (44, [(2147483652, 2147483658), (2147483649, 2147483651), (2147483652, 4294967294), (2147483647, 4294967295), (2147483648, 2147484647), (2147483648, 2147483650)], 6, [(3, 259, 259), (1, 0, 2147483648), (1, 1, 2147483648), (1, 2, 2147483648), (0, 2147483652, 2147483652), (1, 3, 2147483648), (9, 0, 0), (9, 0, 0)], [(260, 1, (1, 4, 2147483648)), (260, 2, (1, 5, 2147483648))], [(273, 275, 0, 0), (288, 288, 0, 3), (272, 272, 0, 9), (273, 275, 1, 1), (273, 275, 2, 2), (273, 275, 3, 3), (273, 275, 4, 4), (273, 275, 5, 5), (273, 275, 6, 6), (273, 275, 7, 7), (273, 275, 8, 8), (273, 275, 9, 9)], [(0, (0, 45, 45)), (0, (1, 3, 2147483648))])
def kd_S154_5 : kd_St := (44, [(2147483653, 2147483658), (2147483649, 2147483651), (2147483653, 4294967294), (2147483647, 4294967295), (2147483648, 2147484647), (2147483648, 2147483650)], 6, [(3, 259, 259), (1, 0, 2147483648), (1, 1, 2147483648), (1, 2, 2147483648), (0, 2147483653, 2147483653), (1, 3, 2147483648), (9, 0, 0), (9, 0, 0)], [(260, 1, (1, 4, 2147483648)), (260, 2, (1, 5, 2147483648))], [(273, 275, 0, 0), (288, 288, 0, 4), (272, 272, 0, 9), (273, 275, 1, 1), (273, 275, 2, 2), (273, 275, 3, 3), (273, 275, 4, 4), (273, 275, 5, 5), (273, 275, 6, 6), (273, 275, 7, 7), (273, 275, 8, 8), (273, 275, 9, 9)], [(0, (0, 45, 45)), (0, (1, 3, 2147483648))])
def kd_S154_6 : kd_St := (44, [(2147483654, 2147483658), (2147483649, 2147483651), (2147483654, 4294967294), (2147483647, 4294967295), (2147483648, 2147484647), (2147483648, 2147483650)], 6, [(3, 259, 259), (1, 0, 2147483648), (1, 1, 2147483648), (1, 2, 2147483648), (0, 2147483654, 2147483654), (1, 3, 2147483648), (9, 0, 0), (9, 0, 0)], [(260, 1, (1, 4, 2147483648)), (260, 2, (1, 5, 2147483648))], [(273, 275, 0, 0), (288, 288, 0, 5), (272, 272, 0, 9), (273, 275, 1, 1), (273, 275, 2, 2), (273, 275, 3, 3), (273, 275, 4, 4), (273, 275, 5, 5), (273, 275, 6, 6), (273, 275, 7, 7), (273, 275, 8, 8), (273, 275, 9, 9)], [(0, (0, 45, 45)), (0, (1, 3, 2147483648))])
def kd_S154_7 : kd_St := (44, [(2147483654, 2147483657), (2147483655, 2147483658), (2147483649, 2147483651), (2147483655, 2147483658), (2147483647, 4294967295), (2147483648, 2147484647), (2147483648, 2147483650)], 7, [(3, 259, 259), (1, 0, 2147483648), (1, 1, 2147483648), (1, 2, 2147483648), (0, 2147483655, 2147483655), (1, 3, 2147483648), (9, 0, 0), (9, 0, 0)], [(260, 1, (1, 4, 2147483648)), (260, 2, (1, 5, 2147483648)), (288, 6, (1, 6, 2147483648))], [(273, 275, 0, 0), (288, 288, 0, 6), (272, 272, 0, 9), (273, 275, 1, 1), (273, 275, 2, 2), (273, 275, 3, 3), (273, 275, 4, 4), (273, 275, 5, 5), (273, 275, 6, 6), (273, 275, 7, 7), (273, 275, 8, 8), (273, 275, 9, 9)], [(0, (0, 45, 45)), (0, (1, 3, 2147483648))])
def kd_S154_8 : kd_St := (44, [(2147483655, 2147483657), (2147483654, 2147483657), (2147483656, 2147483658), (2147483649, 2147483651), (2147483656, 2147483658), (2147483647, 4294967295), (2147483648, 2147484647), (2147483648, 2147483650)], 8, [(3, 259, 259), (1, 0, 2147483648), (1, 1, 2147483648), (1, 2, 2147483648), (0, 2147483656, 2147483656), (1, 3, 2147483648), (9, 0, 0), (9, 0, 0)], [(260, 1, (1, 4, 2147483648)), (260, 2, (1, 5, 2147483648)), (288, 6, (1, 6, 2147483648)), (288, 7, (1, 7, 2147483648))], [(273, 275, 0, 0), (288, 288, 0, 7), (272, 272, 0, 9), (273, 275, 1, 1), (273, 275, 2, 2), (273, 275, 3, 3), (273, 275, 4, 4), (273, 275, 5, 5), (273, 275, 6, 6), (273, 275, 7, 7), (273, 275, 8, 8), (273, 275, 9, 9)], [(0, (0, 45, 45)), (0, (1, 3, 2147483648))])
def kd_S154_9 : kd_St := (44, [(2147483656, 2147483657), (2147483655, 2147483657), (2147483654, 2147483657), (2147483657, 2147483658), (2147483649, 2147483651), (2147483657, 2147483658), (2147483647, 4294967295), (2147483648, 2147484647), (2147483648, 2147483650)], 9, [(3, 259, 259), (1, 0, 2147483648), (1, 1, 2147483648), (1, 2, 2147483648), (0, 2147483657, 2147483657), (1, 3, 2147483648), (9, 0, 0), (9, 0, 0)], [(260, 1, (1, 4, 2147483648)), (260, 2, (1, 5, 2147483648)), (288, 6, (1, 6, 2147483648)), (288, 7, (1, 7, 2147483648)), (288, 8, (1, 8, 2147483648))], [(273, 275, 0, 0), (288, 288, 0, 8), (272, 272, 0, 9), (273, 275, 1, 1), (273, 275, 2, 2), (273, 275, 3, 3), (273, 275, 4, 4), (273, 275, 5, 5), (273, 275, 6, 6), (273, 275, 7, 7), (273, 275, 8, 8), (273, 275, 9, 9)], [(0, (0, 45, 45)), (0, (1, 3, 2147483648))])
def kd_S154_10 : kd_St := (44, [(2147483656, 2147483657), (2147483655, 2147483657), (2147483654, 2147483657), (2147483649, 2147483651), (2147483647, 4294967295), (2147483648, 2147484647), (2147483648, 2147483650)], 7, [(3, 259, 259), (1, 0, 2147483648), (1, 1, 2147483648), (1, 2, 2147483648), (0, 2147483658, 2147483658), (0, 2147483658, 2147483658), (9, 0, 0), (9, 0, 0)], [(260, 1, (1, 3, 2147483648)), (260, 2, (0, 2147483658, 2147483658)), (288, 6, (1, 4, 2147483648)), (288, 7, (1, 5, 2147483648)), (288, 8, (1, 6, 2147483648)), (288, 9, (0, 2147483657, 2147483657))], [(273, 275, 0, 0), (272, 272, 0, 9), (288, 288, 0, 9), (273, 275, 1, 1), (273, 275, 2, 2), (273, 275, 3, 3), (273, 275, 4, 4), (273, 275, 5, 5), (273, 275, 6, 6), (273, 275, 7, 7), (273, 275, 8, 8), (273, 275, 9, 9)], [(0, (0, 45, 45)), (0, (0, 2147483658, 2147483658))])
def kd_S154 : List kd_St := [kd_S154_0, kd_S154_1, kd_S154_2, kd_S154_3, kd_S154_4, kd_S154_5, kd_S154_6, kd_S154_7, kd_S154_8, kd_S154_9, kd_S154_10]
def kd_H154_0 : kd_St := (122, [(2147483649, 2147483651), (2147483647, 4294967295), (2147483648, 2147484647), (2147483648, 2147483650)], 4, [(3, 259, 259), (1, 0, 2147483648), (1, 1, 2147483648), (1, 2, 2147483648), (0, 2147483648, 2147483648), (0, 2147483648, 2147483648), (0, 2147483647, 2147483647), (0, 2147483649, 2147483649)], [(259, 35, (0, 2147483648, 2147483648)), (260, 1, (1, 3, 2147483648))], [(273, 275, 0, 0), (272, 272, 0, 9), (273, 275, 1, 1), (273, 275, 2, 2), (273, 275, 3, 3), (273, 275, 4, 4), (273, 275, 5, 5), (273, 275, 6, 6), (273, 275, 7, 7), (273, 275, 8, 8), (273, 275, 9, 9), (259, 259, 35, 35)], [(0, (0, 0, 0)), (0, (0, 0, 0))])
def kd_H154_1 : kd_St := (122, [(2147483649, 2147483658), (2147483649, 2147483651), (2147483647, 4294967295), (2147483648, 2147484647), (2147483648, 2147483650)], 5, [(3, 259, 259), (1, 0, 2147483648), (1, 1, 2147483648), (1, 2, 2147483648), (0, 2147483649, 2147483649), (0, 2147483648, 2147483648), (0, 2147483647, 2147483647), (0, 2147483649, 2147483649)], [(259, 35, (0, 2147483649, 2147483649)), (260, 1, (1, 3, 2147483648)), (260, 2, (1, 4, 2147483648)), (279, 0, (0, 2147483648, 2147483648))], [(273, 275, 0, 0), (279, 279, 0, 0), (288, 288, 0, 0), (272, 272, 0, 9), (273, 275, 1, 1), (273, 275, 2, 2), (273, 275, 3, 3), (273, 275, 4, 4), (273, 275, 5, 5), (273, 275, 6, 6), (273, 275, 7, 7), (273, 275, 8, 8), (273, 275, 9, 9), (259, 259, 35, 35)], [(0, (0, 0, 0)), (0, (0, 0, 0))])
def kd_H154_2 : kd_St := (122, [(2147483650, 2147483658), (2147483649, 2147483651), (2147483647, 4294967295), (2147483648, 2147484647), (2147483648, 2147483650)], 5, [(3, 259, 259), (1, 0, 2147483648), (1, 1, 2147483648), (1, 2, 2147483648), (0, 2147483650, 2147483650), (0, 2147483648, 2147483648), (0, 2147483647, 2147483647), (0, 2147483649, 2147483649)], [(259, 35, (0, 2147483650, 2147483650)), (260, 1, (1, 3, 2147483648)), (260, 2, (1, 4, 2147483648)), (279, 0, (0, 2147483648, 2147483648)), (279, 1, (0, 2147483649, 2147483649))], [(273, 275, 0, 0), (279, 279, 0, 1), (288, 288, 0, 1), (272, 272, 0, 9), (273, 275, 1, 1), (273, 275, 2, 2), (273, 275, 3, 3), (273, 275, 4, 4), (273, 275, 5, 5), (273, 275, 6, 6), (273, 275, 7, 7), (273, 275, 8, 8), (273, 275, 9, 9), (259, 259, 35, 35)], [(0, (0, 0, 0)), (0, (0, 0, 0))])
def kd_H154_3 : kd_St := (122, [(2147483651, 2147483658), (2147483649, 2147483651), (2147483647, 4294967295), (2147483648, 2147484647), (2147483648, 2147483650)], 5, [(3, 259, 259), (1, 0, 2147483648), (1, 1, 2147483648), (1, 2, 2147483648), (0, 2147483651, 2147483651), (0, 2147483648, 2147483648), (0, 2147483647, 2147483647), (0, 2147483649, 2147483649)], [(259, 35, (0, 2147483651, 2147483651)), (260, 1, (1, 3, 2147483648)), (260, 2, (1, 4, 2147483648)), (279, 0, (0, 2147483648, 2147483648)), (279, 1, (0, 2147483649, 2147483649)), (279, 2, (0, 2147483650, 2147483650))], [(273, 275, 0, 0), (279, 279, 0, 2), (288, 288, 0, 2), (272, 272, 0, 9), (273, 275, 1, 1), (273, 275, 2, 2), (273, 275, 3, 3), (273, 275, 4, 4), (273, 275, 5, 5), (273, 275, 6, 6), (273, 275, 7, 7), (273, 275, 8, 8), (273, 275, 9, 9), (259, 259, 35, 35)], [(0, (0, 0, 0)), (0, (0, 0, 0))])
def kd_H154_4 : kd_St := (122, [(2147483652, 2147483658), (2147483649, 2147483651), (2147483647, 4294967295), (2147483648, 2147484647), (2147483648, 2147483650)], 5, [(3, 259, 259), (1, 0, 2147483648), (1, 1, 2147483648), (1, 2, 2147483648), (0, 2147483652, 2147483652), (0, 2147483648, 2147483648), (0, 2147483647, 2147483647), (0, 2147483649, 2147483649)], [(259, 35, (0, 2147483652, 2147483652)), (260, 1, (1, 3, 2147483648)), (260, 2, (1, 4, 2147483648)), (279, 0, (0, 2147483648, 2147483648)), (279, 1, (0, 2147483649, 2147483649)), (279, 2, (0, 2147483650, 2147483650)), (279, 3, (0, 2147483651, 2147483651))], [(273, 275, 0, 0), (279, 279, 0, 3), (288, 288, 0, 3), (272, 272, 0, 9), (273, 275, 1, 1), (273, 275, 2, 2), (273, 275, 3, 3), (273, 275, 4, 4), (273, 275, 5, 5), (273, 275, 6, 6), (273, 275, 7, 7), (273, 275, 8, 8), (273, 275, 9, 9), (259, 259, 35, 35)], [(0, (0, 0, 0)), (0, (0, 0, 0))])
def kd_H154_5 : kd_St := (122, [(2147483653, 2147483658), (2147483649, 2147483651), (2147483647, 4294967295), (2147483648, 2147484647), (2147483648, 2147483650)], 5, [(3, 259, 259), (1, 0, 2147483648), (1, 1, 2147483648), (1, 2, 2147483648), (0, 2147483653, 2147483653), (0, 2147483648, 2147483648), (0, 2147483647, 2147483647), (0, 2147483649, 2147483649)], [(259, 35, (0, 2147483653, 2147483653)), (260, 1, (1, 3, 2147483648)), (260, 2, (1, 4, 2147483648)), (279, 0, (0, 2147483648, 2147483648)), (279, 1, (0, 2147483649, 2147483649)), (279, 2, (0, 2147483650, 2147483650)), (279, 3, (0, 2147483651, 2147483651)), (279, 4, (0, 2147483652, 2147483652))], [(273, 275, 0, 0), (279, 279, 0, 4), (288, 288, 0, 4), (272, 272, 0, 9), (273, 275, 1, 1), (273, 275, 2, 2), (273, 275, 3, 3), (273, 275, 4, 4), (273, 275, 5, 5), (273, 275, 6, 6), (273, 275, 7, 7), (273, 275, 8, 8), (273, 275, 9, 9), (259, 259, 35, 35)], [(0, (0, 0, 0)), (0, (0, 0, 0))])
def kd_H154_6 : kd_St := (122, [(2147483654, 2147483658), (2147483649, 2147483651), (2147483647, 4294967295), (2147483648, 2147484647), (2147483648, 2147483650)], 5, [(3, 259, 259), (1, 0, 2147483648), (1, 1, 2147483648), (1, 2, 2147483648), (0, 2147483654, 2147483654), (0, 2147483648, 2147483648), (0, 2147483647, 2147483647), (0, 2147483649, 2147483649)], [(259, 35, (0, 2147483654, 2147483654)), (260, 1, (1, 3, 2147483648)), (260, 2, (1, 4, 2147483648)), (279, 0, (0, 2147483648, 2147483648)), (279, 1, (0, 2147483649, 2147483649)), (279, 2, (0, 2147483650, 2147483650)), (279, 3, (0, 2147483651, 2147483651)), (279, 4, (0, 2147483652, 2147483652)), (279, 5, (0, 2147483653, 2147483653))], [(273, 275, 0, 0), (279, 279, 0, 5), (288, 288, 0, 5), (272, 272, 0, 9), (273, 275, 1, 1), (273, 275, 2, 2), (273, 275, 3, 3), (273, 275, 4, 4), (273, 275, 5, 5), (273, 275, 6, 6), (273, 275, 7, 7), (273, 275, 8, 8), (273, 275, 9, 9), (259, 259, 35, 35)], [(0, (0, 0, 0)), (0, (0, 0, 0))])
def kd_H154_7 : kd_St := (122, [(2147483654, 2147483657), (2147483655, 2147483658), (2147483649, 2147483651), (2147483647, 4294967295), (2147483648, 2147484647), (2147483648, 2147483650)], 6, [(3, 259, 259), (1, 0, 2147483648), (1, 1, 2147483648), (1, 2, 2147483648), (0, 2147483655, 2147483655), (0, 2147483648, 2147483648), (0, 2147483647, 2147483647), (0, 2147483648, 2147483648)], [(259, 35, (0, 2147483655, 2147483655)), (260, 1, (1, 3, 2147483648)), (260, 2, (1, 4, 2147483648)), (279, 0, (0, 2147483648, 2147483648)), (279, 1, (0, 2147483649, 2147483649)), (279, 2, (0, 2147483650, 2147483650)), (279, 3, (0, 2147483651, 2147483651)), (279, 4, (0, 2147483652, 2147483652)), (279, 5, (0, 2147483653, 2147483653)), (279, 6, (0, 2147483654, 2147483654)), (288, 6, (1, 5, 2147483648))], [(273, 275, 0, 0), (279, 279, 0, 6), (288, 288, 0, 6), (272, 272, 0, 9), (273, 275, 1, 1), (273, 275, 2, 2), (273, 275, 3, 3), (273, 275, 4, 4), (273, 275, 5, 5), (273, 275, 6, 6), (273, 275, 7, 7), (273, 275, 8, 8), (273, 275, 9, 9), (259, 259, 35, 35)], [(0, (0, 0, 0)), (0, (0, 0, 0))])
def kd_H154_8 : kd_St := (122, [(2147483655, 2147483657), (2147483654, 2147483657), (2147483656, 2147483658), (2147483649, 2147483651), (2147483647, 4294967295), (2147483648, 2147484647), (2147483648, 2147483650)], 7, [(3, 259, 259), (1, 0, 2147483648), (1, 1, 2147483648), (1, 2, 2147483648), (0, 2147483656, 2147483656), (0, 2147483648, 2147483648), (0, 2147483647, 2147483647), (0, 2147483648, 2147483648)], [(259, 35, (0, 2147483656, 2147483656)), (260, 1, (1, 3, 2147483648)), (260, 2, (1, 4, 2147483648)), (279, 0, (0, 2147483648, 2147483648)), (279, 1, (0, 2147483649, 2147483649)), (279, 2, (0, 2147483650, 2147483650)), (279, 3, (0, 2147483651, 2147483651)), (279, 4, (0, 2147483652, 2147483652)), (279, 5, (0, 2147483653, 2147483653)), (279, 6, (0, 2147483654, 2147483654)), (279, 7, (0, 2147483655, 2147483655)), (288, 6, (1, 5, 2147483648)), (288, 7, (1, 6, 2147483648))], [(273, 275, 0, 0), (279, 279, 0, 7), (288, 288, 0, 7), (272, 272, 0, 9), (273, 275, 1, 1), (273, 275, 2, 2), (273, 275, 3, 3), (273, 275, 4, 4), (273, 275, 5, 5), (273, 275, 6, 6), (273, 275, 7, 7), (273, 275, 8, 8), (273, 275, 9, 9), (259, 259, 35, 35)], [(0, (0, 0, 0)), (0, (0, 0, 0))])
def kd_H154_9 : kd_St := (122, [(2147483656, 2147483657), (2147483655, 2147483657), (2147483654, 2147483657), (2147483657, 2147483658), (2147483649, 2147483651), (2147483647, 4294967295), (2147483648, 2147484647), (2147483648, 2147483650)], 8, [(3, 259, 259), (1, 0, 2147483648), (1, 1, 2147483648), (1, 2, 2147483648), (0, 2147483657, 2147483657), (0, 2147483648, 2147483648), (0, 2147483647, 2147483647), (0, 2147483648, 2147483648)], [(259, 35, (0, 2147483657, 2147483657)), (260, 1, (1, 3, 2147483648)), (260, 2, (1, 4, 2147483648)), (279, 0, (0, 2147483648, 2147483648)), (279, 1, (0, 2147483649, 2147483649)), (279, 2, (0, 2147483650, 2147483650)), (279, 3, (0, 2147483651, 2147483651)), (279, 4, (0, 2147483652, 2147483652)), (279, 5, (0, 2147483653, 2147483653)), (279, 6, (0, 2147483654, 2147483654)), (279, 7, (0, 2147483655, 2147483655)), (279, 8, (0, 2147483656, 2147483656)), (288, 6, (1, 5, 2147483648)), (288, 7, (1, 6, 2147483648)), (288, 8, (1, 7, 2147483648))], [(273, 275, 0, 0), (279, 279, 0, 8), (288, 288, 0, 8), (272, 272, 0, 9), (273, 275, 1, 1), (273, 275, 2, 2), (273, 275, 3, 3), (273, 275, 4, 4), (273, 275, 5, 5), (273, 275, 6, 6), (273, 275, 7, 7), (273, 275, 8, 8), (273, 275, 9, 9), (259, 259, 35, 35)], [(0, (0, 0, 0)), (0, (0, 0, 0))])
def kd_H154_10 : kd_St := (122, [(2147483656, 2147483657), (2147483655, 2147483657), (2147483654, 2147483657), (2147483649, 2147483651), (2147483647, 4294967295), (2147483648, 2147484647), (2147483648, 2147483650)], 7, [(3, 259, 259), (1, 0, 2147483648), (1, 1, 2147483648), (1, 2, 2147483648), (0, 2147483658, 2147483658), (0, 2147483648, 2147483648), (0, 2147483647, 2147483647), (0, 2147483648, 2147483648)], [(259, 35, (0, 2147483658, 2147483658)), (260, 1, (1, 3, 2147483648)), (260, 2, (0, 2147483658, 2147483658)), (279, 0, (0, 2147483648, 2147483648)), (279, 1, (0, 2147483649, 2147483649)), (279, 2, (0, 2147483650, 2147483650)), (279, 3, (0, 2147483651, 2147483651)), (279, 4, (0, 2147483652, 2147483652)), (279, 5, (0, 2147483653, 2147483653)), (279, 6, (0, 2147483654, 2147483654)), (279, 7, (0, 2147483655, 2147483655)), (279, 8, (0, 2147483656, 2147483656)), (279, 9, (0, 2147483657, 2147483657)), (288, 6, (1, 4, 2147483648)), (288, 7, (1, 5, 2147483648)), (288, 8, (1, 6, 2147483648)), (288, 9, (0, 2147483657, 2147483657))], [(273, 275, 0, 0), (272, 272, 0, 9), (279, 279, 0, 9), (288, 288, 0, 9), (273, 275, 1, 1), (273, 275, 2, 2), (273, 275, 3, 3), (273, 275, 4, 4), (273, 275, 5, 5), (273, 275, 6, 6), (273, 275, 7, 7), (273, 275, 8, 8), (273, 275, 9, 9), (259, 259, 35, 35)], [(0, (0, 0, 0)), (0, (0, 0, 0))])
def kd_H154 : List kd_St := [kd_H154_0, kd_H154_1, kd_H154_2, kd_H154_3, kd_H154_4, kd_H154_5, kd_H154_6, kd_H154_7, kd_H154_8, kd_H154_9, kd_H154_10]
theorem kd_e154 : kd_run0h kd_ty kd_x154 8 (kd_call kd_ty kd_xt (kd_ctl kd_C154) 600 2) kd_T154 600 kd_S154 kd_H154 = true := by decide +kernel
theorem kd_r154_0 : kd_run1h kd_ty kd_x154 8 (kd_call kd_ty kd_xt (kd_ctl kd_C154) 600 2) kd_T154.2.2 600 kd_S154 kd_H154 kd_S154_0 = true := by decide +kernel
theorem kd_r154_1 : kd_run1h kd_ty kd_x154 8 (kd_call kd_ty kd_xt (kd_ctl kd_C154) 600 2) kd_T154.2.2 600 kd_S154 kd_H154 kd_S154_1 = true := by decide +kernel
theorem kd_r154_2 : kd_run1h kd_ty kd_x154 8 (kd_call kd_ty kd_xt (kd_ctl kd_C154) 600 2) kd_T154.2.2 600 kd_S154 kd_H154 kd_S154_2 = true := by decide +kernel
theorem kd_r154_3 : kd_run1h kd_ty kd_x154 8 (kd_call kd_ty kd_xt (kd_ctl kd_C154) 600 2) kd_T154.2.2 600 kd_S154 kd_H154 kd_S154_3 = true := by decide +kernel
theorem kd_r154_4 : kd_run1h kd_ty kd_x154 8 (kd_call kd_ty kd_xt (kd_ctl kd_C154) 600 2) kd_T154.2.2 600 kd_S154 kd_H154 kd_S154_4 = true := by decide +kernel
theorem kd_r154_5 : kd_run1h kd_ty kd_x154 8 (kd_call kd_ty kd_xt (kd_ctl kd_C154) 600 2) kd_T154.2.2 600 kd_S154 kd_H154 kd_S154_5 = true := by decide +kernel
theorem kd_r154_6 : kd_run1h kd_ty kd_x154 8 (kd_call kd_ty kd_xt (kd_ctl kd_C154) 600 2) kd_T154.2.2 600 kd_S154 kd_H154 kd_S154_6 = true := by decide +kernel
theorem kd_r154_7 : kd_run1h kd_ty kd_x154 8 (kd_call kd_ty kd_xt (kd_ctl kd_C154) 600 2) kd_T154.2.2 600 kd_S154 kd_H154 kd_S154_7 = true := by decide +kernel
theorem kd_r154_8 : kd_run1h kd_ty kd_x154 8 (kd_call kd_ty kd_xt (kd_ctl kd_C154) 600 2) kd_T154.2.2 600 kd_S154 kd_H154 kd_S154_8 = true := by decide +kernel
theorem kd_r154_9 : kd_run1h kd_ty kd_x154 8 (kd_call kd_ty kd_xt (kd_ctl kd_C154) 600 2) kd_T154.2.2 600 kd_S154 kd_H154 kd_S154_9 = true := by decide +kernel
theorem kd_r154_10 : kd_run1h kd_ty kd_x154 8 (kd_call kd_ty kd_xt (kd_ctl kd_C154) 600 2) kd_T154.2.2 600 kd_S154 kd_H154 kd_S154_10 = true := by decide +kernel
theorem kx_ofs {n : Nat} {ρ : Nat → Nat} {x : kc_V} {k : Nat} (hk : k < 2147483648) (hx : kd_g n ρ (0, 2147483648 + k, 2147483648 + k) x) : x = .inl (Int32.ofNat k) := by
  obtain ⟨z, rfl, h1, h2⟩ := hx
  unfold kd_nb at h1 h2
  congr 1
  apply Int32.toInt_inj.mp
  rw [kx_ti hk]
  omega
theorem kw_id {h : kc_H} {n : Nat} {f : Nat → Nat} (h34 : h 259 34 = .inr (.inr (.inl (some 279)))) (h35 : h 259 35 = .inl (Int32.ofNat n)) (hf : ∀ j, j < 10 → h 279 j = .inl (Int32.ofNat (f j))) : kw_H h n f = h := by
  funext c b
  unfold kw_H
  split
  · rename_i e
    subst e
    split
    · rename_i e; subst e; exact h34.symm
    · split
      · rename_i e; subst e; exact h35.symm
      · rfl
  · split
    · rename_i e
      subst e
      split
      · rename_i hb; exact (hf b hb).symm
      · rfl
    · rfl
theorem kw_mark {g : kc_G} (hg : kc_ok g) {d n x7 : Nat} (hd : 4 ≤ d) (hn10 : n ≤ 10) (hord : x7 = 1 → n < 7 ∧ kw_ord g n) (hx7 : x7 = 0 ∨ x7 = 1) {h0 hh : kc_H} {L : kc_L} {W : kd_W} {mu ti wh c5 c6 : Int32} (hw : kd_wt kd_ty hh) (hfr : kd_fr W h0 hh) (hcov : kd_cvW kd_W154 W = true) (hmu : kd_g 0 (fun _ => 0) (0, 2147483648, 2147483650) (.inl mu)) (hti : kd_g 0 (fun _ => 0) (0, 2147483648, 2147484647) (.inl ti))
    (l0 : kc_get L 0 = some (.inr (.inr (.inl (some 259))))) (l1 : kc_get L 1 = some (.inl mu)) (l2 : kc_get L 2 = some (.inl ti)) (l3 : kc_get L 3 = some (.inl wh)) (l4 : kc_get L 4 = some (.inl (Int32.ofNat n))) (l5 : kc_get L 5 = some (.inl c5)) (l6 : kc_get L 6 = some (.inl c6)) (l7 : kc_get L 7 = some (.inl (Int32.ofNat x7)))
    (e35 : hh 259 35 = .inl (Int32.ofNat n)) (er : x7 = 1 → ∀ j, j < n → hh 279 j = .inl (Int32.ofNat j)) : kc_Ev g d wk_m154 (fun xr h' => ∃ p ∈ kd_P154, kd_rv 0 (fun _ => 0) p.1 xr ∧ kd_gF 0 (fun _ => 0) p.2.1 h' ∧ kd_wt kd_ty h' ∧ kd_fr p.2.2 h0 h') 122 L [] hh := by
  have e34 := kx_ofr (hw _ _ _ kw_k.1)
  have hfr2 : kd_fr kd_W154 h0 hh := kd_cvW_r W hcov hfr
  have hQ : ∀ (r : Int32) (f2 : Nat → Nat), (∀ j, j < 10 → f2 j ≤ 10) → ∃ p ∈ kd_P154, kd_rv 0 (fun _ => 0) p.1 (some (.inl r)) ∧ kd_gF 0 (fun _ => 0) p.2.1 (kw_H hh n f2) ∧ kd_wt kd_ty (kw_H hh n f2) ∧ kd_fr p.2.2 h0 (kw_H hh n f2) := fun r f2 hf2 => by
    refine ⟨_, List.mem_cons_self, ⟨r, rfl, Nat.zero_le _, ?_⟩, fun q hq => (by cases hq), kw_wt hw hn10 hf2, fun c b hq => ?_⟩
    · unfold kd_nb
      have := Int32.toInt_lt r
      omega
    · rw [← hfr2 c b hq]
      have q1 := kd_inr_f (hq (279, 279, 0, 9) (by decide))
      simp only at q1
      unfold kw_H
      split
      · rename_i e
        subst e
        split
        · rename_i e; subst e; exact e34.symm
        · split
          · rename_i e; subst e; exact e35.symm
          · rfl
      · split
        · rename_i e
          subst e
          rw [if_neg (by omega)]
        · rfl
  have hex : ∀ j, ∃ v, j < 10 → v ≤ 10 ∧ hh 279 j = .inl (Int32.ofNat v) ∧ (x7 = 1 → j < n → v = j) := fun j => by
    by_cases hj : j < 10
    · by_cases h1 : x7 = 1 ∧ j < n
      · exact ⟨j, fun _ => ⟨by omega, er h1.1 j h1.2, fun _ _ => rfl⟩⟩
      · obtain ⟨v, a1, a2⟩ := kx_ofg (by omega) (hw _ _ _ (kw_k279 j hj).1)
        exact ⟨v, fun _ => ⟨a1, a2, fun b1 b2 => absurd ⟨b1, b2⟩ h1⟩⟩
    · exact ⟨0, fun q => absurd q hj⟩
  obtain ⟨f, hf⟩ := Classical.axiomOfChoice hex
  have hid := kw_id (f := f) e34 e35 (fun j hj => (hf j hj).2.1)
  have key : kc_Ev g d wk_m154 (fun xr h' => ∃ p ∈ kd_P154, kd_rv 0 (fun _ => 0) p.1 xr ∧ kd_gF 0 (fun _ => 0) p.2.1 h' ∧ kd_wt kd_ty h' ∧ kd_fr p.2.2 h0 h') 122 [(7, .inl (Int32.ofNat x7)), (6, .inl c6), (5, .inl c5), (4, .inl (Int32.ofNat n)), (0, .inr (.inr (.inl (some 259)))), (1, .inl mu), (2, .inl ti), (3, .inl wh)] [] (kw_H hh n f) := by
    rcases hx7 with e7 | e7
    · subst e7
      exact kw_no (fun r => hQ r f (fun j hj => (hf j hj).1))
    · obtain ⟨n7, ho⟩ := hord e7
      have hfn : ∀ j, j < n → f j < n := fun j hj => by
        have := (hf j (by omega)).2.2 e7 hj
        omega
      subst e7
      exact kw_loop hg hd n7 ho hw hmu hti hQ (11 ^ n - kw_v f n + 1) f c6 c5 (Nat.lt_succ_self _) (fun j hj => (hf j hj).1) hfn
  rw [hid] at key
  refine kf_lo (fun q hq => ?_) key
  simp only [List.mem_cons, List.not_mem_nil, or_false] at hq
  rcases hq with rfl | rfl | rfl | rfl | rfl | rfl | rfl | rfl
  · exact l7
  · exact l6
  · exact l5
  · exact l4
  · exact l0
  · exact l1
  · exact l2
  · exact l3
theorem kd_g154_0 {g : kc_G} (hg : kc_ok g) {h0 : kc_H} : kd_hand g 5 wk_m154 kd_ty kd_P154 h0 kd_H154_0 := by
  intro σ L hh hb hL hF hw hfr
  obtain ⟨x0, l0, g0⟩ := hL 0 _ rfl rfl
  obtain ⟨x1, l1, -, mu, rfl, e1⟩ := hL 1 _ rfl rfl
  obtain ⟨x2, l2, -, ti, rfl, e2⟩ := hL 2 _ rfl rfl
  obtain ⟨x3, l3, -, wh, rfl, -⟩ := hL 3 _ rfl rfl
  obtain ⟨x4, l4, g4⟩ := hL 4 _ rfl rfl
  obtain ⟨x5, l5, c5, rfl, -⟩ := hL 5 _ rfl rfl
  obtain ⟨x6, l6, c6, rfl, -⟩ := hL 6 _ rfl rfl
  obtain ⟨x7, l7, g7⟩ := hL 7 _ rfl rfl
  have h0' : x0 = .inr (.inr (.inl (some 259))) := by
    obtain ⟨c, rfl, a1, a2⟩ := g0
    obtain rfl : c = 259 := by omega
    rfl
  subst h0'
  have b1 := hb.2 0 _ _ rfl
  have b2 := hb.2 1 _ _ rfl
  rw [kx_ofs (k := 0) (by decide) g4] at l4
  rw [kx_ofs (k := 1) (by decide) g7] at l7
  exact kw_mark hg (by decide) (by decide) (fun e => ⟨by decide, kw_ord0 hg⟩) (Or.inr rfl) hw hfr (by decide +kernel) ⟨mu, rfl, by omega, by omega⟩ ⟨ti, rfl, by omega, by omega⟩ l0 l1 l2 l3 l4 l5 l6 l7 (kx_ofs (k := 0) (by decide) (hF (259, 35, _) (by decide))) (fun e j hj => absurd hj (by omega))
theorem kd_g154_1 {g : kc_G} (hg : kc_ok g) {h0 : kc_H} : kd_hand g 5 wk_m154 kd_ty kd_P154 h0 kd_H154_1 := by
  intro σ L hh hb hL hF hw hfr
  obtain ⟨x0, l0, g0⟩ := hL 0 _ rfl rfl
  obtain ⟨x1, l1, -, mu, rfl, e1⟩ := hL 1 _ rfl rfl
  obtain ⟨x2, l2, -, ti, rfl, e2⟩ := hL 2 _ rfl rfl
  obtain ⟨x3, l3, -, wh, rfl, -⟩ := hL 3 _ rfl rfl
  obtain ⟨x4, l4, g4⟩ := hL 4 _ rfl rfl
  obtain ⟨x5, l5, c5, rfl, -⟩ := hL 5 _ rfl rfl
  obtain ⟨x6, l6, c6, rfl, -⟩ := hL 6 _ rfl rfl
  obtain ⟨x7, l7, g7⟩ := hL 7 _ rfl rfl
  have h0' : x0 = .inr (.inr (.inl (some 259))) := by
    obtain ⟨c, rfl, a1, a2⟩ := g0
    obtain rfl : c = 259 := by omega
    rfl
  subst h0'
  have b1 := hb.2 0 _ _ rfl
  have b2 := hb.2 1 _ _ rfl
  rw [kx_ofs (k := 1) (by decide) g4] at l4
  rw [kx_ofs (k := 1) (by decide) g7] at l7
  exact kw_mark hg (by decide) (by decide) (fun e => ⟨by decide, kw_ord1 hg⟩) (Or.inr rfl) hw hfr (by decide +kernel) ⟨mu, rfl, by omega, by omega⟩ ⟨ti, rfl, by omega, by omega⟩ l0 l1 l2 l3 l4 l5 l6 l7 (kx_ofs (k := 1) (by decide) (hF (259, 35, _) (by decide))) (fun e j hj => (match j, hj with
    | 0, _ => kx_ofs (k := 0) (by decide) (hF (279, 0, _) (by decide))
    | j + 1, hj => absurd hj (by omega)))
theorem kd_g154_2 {g : kc_G} (hg : kc_ok g) {h0 : kc_H} : kd_hand g 5 wk_m154 kd_ty kd_P154 h0 kd_H154_2 := by
  intro σ L hh hb hL hF hw hfr
  obtain ⟨x0, l0, g0⟩ := hL 0 _ rfl rfl
  obtain ⟨x1, l1, -, mu, rfl, e1⟩ := hL 1 _ rfl rfl
  obtain ⟨x2, l2, -, ti, rfl, e2⟩ := hL 2 _ rfl rfl
  obtain ⟨x3, l3, -, wh, rfl, -⟩ := hL 3 _ rfl rfl
  obtain ⟨x4, l4, g4⟩ := hL 4 _ rfl rfl
  obtain ⟨x5, l5, c5, rfl, -⟩ := hL 5 _ rfl rfl
  obtain ⟨x6, l6, c6, rfl, -⟩ := hL 6 _ rfl rfl
  obtain ⟨x7, l7, g7⟩ := hL 7 _ rfl rfl
  have h0' : x0 = .inr (.inr (.inl (some 259))) := by
    obtain ⟨c, rfl, a1, a2⟩ := g0
    obtain rfl : c = 259 := by omega
    rfl
  subst h0'
  have b1 := hb.2 0 _ _ rfl
  have b2 := hb.2 1 _ _ rfl
  rw [kx_ofs (k := 2) (by decide) g4] at l4
  rw [kx_ofs (k := 1) (by decide) g7] at l7
  exact kw_mark hg (by decide) (by decide) (fun e => ⟨by decide, kw_ord2 hg⟩) (Or.inr rfl) hw hfr (by decide +kernel) ⟨mu, rfl, by omega, by omega⟩ ⟨ti, rfl, by omega, by omega⟩ l0 l1 l2 l3 l4 l5 l6 l7 (kx_ofs (k := 2) (by decide) (hF (259, 35, _) (by decide))) (fun e j hj => (match j, hj with
    | 0, _ => kx_ofs (k := 0) (by decide) (hF (279, 0, _) (by decide))
    | 1, _ => kx_ofs (k := 1) (by decide) (hF (279, 1, _) (by decide))
    | j + 2, hj => absurd hj (by omega)))
theorem kd_g154_3 {g : kc_G} (hg : kc_ok g) {h0 : kc_H} : kd_hand g 5 wk_m154 kd_ty kd_P154 h0 kd_H154_3 := by
  intro σ L hh hb hL hF hw hfr
  obtain ⟨x0, l0, g0⟩ := hL 0 _ rfl rfl
  obtain ⟨x1, l1, -, mu, rfl, e1⟩ := hL 1 _ rfl rfl
  obtain ⟨x2, l2, -, ti, rfl, e2⟩ := hL 2 _ rfl rfl
  obtain ⟨x3, l3, -, wh, rfl, -⟩ := hL 3 _ rfl rfl
  obtain ⟨x4, l4, g4⟩ := hL 4 _ rfl rfl
  obtain ⟨x5, l5, c5, rfl, -⟩ := hL 5 _ rfl rfl
  obtain ⟨x6, l6, c6, rfl, -⟩ := hL 6 _ rfl rfl
  obtain ⟨x7, l7, g7⟩ := hL 7 _ rfl rfl
  have h0' : x0 = .inr (.inr (.inl (some 259))) := by
    obtain ⟨c, rfl, a1, a2⟩ := g0
    obtain rfl : c = 259 := by omega
    rfl
  subst h0'
  have b1 := hb.2 0 _ _ rfl
  have b2 := hb.2 1 _ _ rfl
  rw [kx_ofs (k := 3) (by decide) g4] at l4
  rw [kx_ofs (k := 1) (by decide) g7] at l7
  exact kw_mark hg (by decide) (by decide) (fun e => ⟨by decide, kw_ord3 hg⟩) (Or.inr rfl) hw hfr (by decide +kernel) ⟨mu, rfl, by omega, by omega⟩ ⟨ti, rfl, by omega, by omega⟩ l0 l1 l2 l3 l4 l5 l6 l7 (kx_ofs (k := 3) (by decide) (hF (259, 35, _) (by decide))) (fun e j hj => (match j, hj with
    | 0, _ => kx_ofs (k := 0) (by decide) (hF (279, 0, _) (by decide))
    | 1, _ => kx_ofs (k := 1) (by decide) (hF (279, 1, _) (by decide))
    | 2, _ => kx_ofs (k := 2) (by decide) (hF (279, 2, _) (by decide))
    | j + 3, hj => absurd hj (by omega)))
theorem kd_g154_4 {g : kc_G} (hg : kc_ok g) {h0 : kc_H} : kd_hand g 5 wk_m154 kd_ty kd_P154 h0 kd_H154_4 := by
  intro σ L hh hb hL hF hw hfr
  obtain ⟨x0, l0, g0⟩ := hL 0 _ rfl rfl
  obtain ⟨x1, l1, -, mu, rfl, e1⟩ := hL 1 _ rfl rfl
  obtain ⟨x2, l2, -, ti, rfl, e2⟩ := hL 2 _ rfl rfl
  obtain ⟨x3, l3, -, wh, rfl, -⟩ := hL 3 _ rfl rfl
  obtain ⟨x4, l4, g4⟩ := hL 4 _ rfl rfl
  obtain ⟨x5, l5, c5, rfl, -⟩ := hL 5 _ rfl rfl
  obtain ⟨x6, l6, c6, rfl, -⟩ := hL 6 _ rfl rfl
  obtain ⟨x7, l7, g7⟩ := hL 7 _ rfl rfl
  have h0' : x0 = .inr (.inr (.inl (some 259))) := by
    obtain ⟨c, rfl, a1, a2⟩ := g0
    obtain rfl : c = 259 := by omega
    rfl
  subst h0'
  have b1 := hb.2 0 _ _ rfl
  have b2 := hb.2 1 _ _ rfl
  rw [kx_ofs (k := 4) (by decide) g4] at l4
  rw [kx_ofs (k := 1) (by decide) g7] at l7
  exact kw_mark hg (by decide) (by decide) (fun e => ⟨by decide, kw_ord4 hg⟩) (Or.inr rfl) hw hfr (by decide +kernel) ⟨mu, rfl, by omega, by omega⟩ ⟨ti, rfl, by omega, by omega⟩ l0 l1 l2 l3 l4 l5 l6 l7 (kx_ofs (k := 4) (by decide) (hF (259, 35, _) (by decide))) (fun e j hj => (match j, hj with
    | 0, _ => kx_ofs (k := 0) (by decide) (hF (279, 0, _) (by decide))
    | 1, _ => kx_ofs (k := 1) (by decide) (hF (279, 1, _) (by decide))
    | 2, _ => kx_ofs (k := 2) (by decide) (hF (279, 2, _) (by decide))
    | 3, _ => kx_ofs (k := 3) (by decide) (hF (279, 3, _) (by decide))
    | j + 4, hj => absurd hj (by omega)))
theorem kd_g154_5 {g : kc_G} (hg : kc_ok g) {h0 : kc_H} : kd_hand g 5 wk_m154 kd_ty kd_P154 h0 kd_H154_5 := by
  intro σ L hh hb hL hF hw hfr
  obtain ⟨x0, l0, g0⟩ := hL 0 _ rfl rfl
  obtain ⟨x1, l1, -, mu, rfl, e1⟩ := hL 1 _ rfl rfl
  obtain ⟨x2, l2, -, ti, rfl, e2⟩ := hL 2 _ rfl rfl
  obtain ⟨x3, l3, -, wh, rfl, -⟩ := hL 3 _ rfl rfl
  obtain ⟨x4, l4, g4⟩ := hL 4 _ rfl rfl
  obtain ⟨x5, l5, c5, rfl, -⟩ := hL 5 _ rfl rfl
  obtain ⟨x6, l6, c6, rfl, -⟩ := hL 6 _ rfl rfl
  obtain ⟨x7, l7, g7⟩ := hL 7 _ rfl rfl
  have h0' : x0 = .inr (.inr (.inl (some 259))) := by
    obtain ⟨c, rfl, a1, a2⟩ := g0
    obtain rfl : c = 259 := by omega
    rfl
  subst h0'
  have b1 := hb.2 0 _ _ rfl
  have b2 := hb.2 1 _ _ rfl
  rw [kx_ofs (k := 5) (by decide) g4] at l4
  rw [kx_ofs (k := 1) (by decide) g7] at l7
  exact kw_mark hg (by decide) (by decide) (fun e => ⟨by decide, kw_ord5 hg⟩) (Or.inr rfl) hw hfr (by decide +kernel) ⟨mu, rfl, by omega, by omega⟩ ⟨ti, rfl, by omega, by omega⟩ l0 l1 l2 l3 l4 l5 l6 l7 (kx_ofs (k := 5) (by decide) (hF (259, 35, _) (by decide))) (fun e j hj => (match j, hj with
    | 0, _ => kx_ofs (k := 0) (by decide) (hF (279, 0, _) (by decide))
    | 1, _ => kx_ofs (k := 1) (by decide) (hF (279, 1, _) (by decide))
    | 2, _ => kx_ofs (k := 2) (by decide) (hF (279, 2, _) (by decide))
    | 3, _ => kx_ofs (k := 3) (by decide) (hF (279, 3, _) (by decide))
    | 4, _ => kx_ofs (k := 4) (by decide) (hF (279, 4, _) (by decide))
    | j + 5, hj => absurd hj (by omega)))
theorem kd_g154_6 {g : kc_G} (hg : kc_ok g) {h0 : kc_H} : kd_hand g 5 wk_m154 kd_ty kd_P154 h0 kd_H154_6 := by
  intro σ L hh hb hL hF hw hfr
  obtain ⟨x0, l0, g0⟩ := hL 0 _ rfl rfl
  obtain ⟨x1, l1, -, mu, rfl, e1⟩ := hL 1 _ rfl rfl
  obtain ⟨x2, l2, -, ti, rfl, e2⟩ := hL 2 _ rfl rfl
  obtain ⟨x3, l3, -, wh, rfl, -⟩ := hL 3 _ rfl rfl
  obtain ⟨x4, l4, g4⟩ := hL 4 _ rfl rfl
  obtain ⟨x5, l5, c5, rfl, -⟩ := hL 5 _ rfl rfl
  obtain ⟨x6, l6, c6, rfl, -⟩ := hL 6 _ rfl rfl
  obtain ⟨x7, l7, g7⟩ := hL 7 _ rfl rfl
  have h0' : x0 = .inr (.inr (.inl (some 259))) := by
    obtain ⟨c, rfl, a1, a2⟩ := g0
    obtain rfl : c = 259 := by omega
    rfl
  subst h0'
  have b1 := hb.2 0 _ _ rfl
  have b2 := hb.2 1 _ _ rfl
  rw [kx_ofs (k := 6) (by decide) g4] at l4
  rw [kx_ofs (k := 1) (by decide) g7] at l7
  exact kw_mark hg (by decide) (by decide) (fun e => ⟨by decide, kw_ord6 hg⟩) (Or.inr rfl) hw hfr (by decide +kernel) ⟨mu, rfl, by omega, by omega⟩ ⟨ti, rfl, by omega, by omega⟩ l0 l1 l2 l3 l4 l5 l6 l7 (kx_ofs (k := 6) (by decide) (hF (259, 35, _) (by decide))) (fun e j hj => (match j, hj with
    | 0, _ => kx_ofs (k := 0) (by decide) (hF (279, 0, _) (by decide))
    | 1, _ => kx_ofs (k := 1) (by decide) (hF (279, 1, _) (by decide))
    | 2, _ => kx_ofs (k := 2) (by decide) (hF (279, 2, _) (by decide))
    | 3, _ => kx_ofs (k := 3) (by decide) (hF (279, 3, _) (by decide))
    | 4, _ => kx_ofs (k := 4) (by decide) (hF (279, 4, _) (by decide))
    | 5, _ => kx_ofs (k := 5) (by decide) (hF (279, 5, _) (by decide))
    | j + 6, hj => absurd hj (by omega)))
theorem kd_g154_7 {g : kc_G} (hg : kc_ok g) {h0 : kc_H} : kd_hand g 5 wk_m154 kd_ty kd_P154 h0 kd_H154_7 := by
  intro σ L hh hb hL hF hw hfr
  obtain ⟨x0, l0, g0⟩ := hL 0 _ rfl rfl
  obtain ⟨x1, l1, -, mu, rfl, e1⟩ := hL 1 _ rfl rfl
  obtain ⟨x2, l2, -, ti, rfl, e2⟩ := hL 2 _ rfl rfl
  obtain ⟨x3, l3, -, wh, rfl, -⟩ := hL 3 _ rfl rfl
  obtain ⟨x4, l4, g4⟩ := hL 4 _ rfl rfl
  obtain ⟨x5, l5, c5, rfl, -⟩ := hL 5 _ rfl rfl
  obtain ⟨x6, l6, c6, rfl, -⟩ := hL 6 _ rfl rfl
  obtain ⟨x7, l7, g7⟩ := hL 7 _ rfl rfl
  have h0' : x0 = .inr (.inr (.inl (some 259))) := by
    obtain ⟨c, rfl, a1, a2⟩ := g0
    obtain rfl : c = 259 := by omega
    rfl
  subst h0'
  have b1 := hb.2 0 _ _ rfl
  have b2 := hb.2 1 _ _ rfl
  rw [kx_ofs (k := 7) (by decide) g4] at l4
  rw [kx_ofs (k := 0) (by decide) g7] at l7
  exact kw_mark hg (by decide) (by decide) (fun e => absurd e (by decide)) (Or.inl rfl) hw hfr (by decide +kernel) ⟨mu, rfl, by omega, by omega⟩ ⟨ti, rfl, by omega, by omega⟩ l0 l1 l2 l3 l4 l5 l6 l7 (kx_ofs (k := 7) (by decide) (hF (259, 35, _) (by decide))) (fun e j hj => absurd e (by decide))
theorem kd_g154_8 {g : kc_G} (hg : kc_ok g) {h0 : kc_H} : kd_hand g 5 wk_m154 kd_ty kd_P154 h0 kd_H154_8 := by
  intro σ L hh hb hL hF hw hfr
  obtain ⟨x0, l0, g0⟩ := hL 0 _ rfl rfl
  obtain ⟨x1, l1, -, mu, rfl, e1⟩ := hL 1 _ rfl rfl
  obtain ⟨x2, l2, -, ti, rfl, e2⟩ := hL 2 _ rfl rfl
  obtain ⟨x3, l3, -, wh, rfl, -⟩ := hL 3 _ rfl rfl
  obtain ⟨x4, l4, g4⟩ := hL 4 _ rfl rfl
  obtain ⟨x5, l5, c5, rfl, -⟩ := hL 5 _ rfl rfl
  obtain ⟨x6, l6, c6, rfl, -⟩ := hL 6 _ rfl rfl
  obtain ⟨x7, l7, g7⟩ := hL 7 _ rfl rfl
  have h0' : x0 = .inr (.inr (.inl (some 259))) := by
    obtain ⟨c, rfl, a1, a2⟩ := g0
    obtain rfl : c = 259 := by omega
    rfl
  subst h0'
  have b1 := hb.2 0 _ _ rfl
  have b2 := hb.2 1 _ _ rfl
  rw [kx_ofs (k := 8) (by decide) g4] at l4
  rw [kx_ofs (k := 0) (by decide) g7] at l7
  exact kw_mark hg (by decide) (by decide) (fun e => absurd e (by decide)) (Or.inl rfl) hw hfr (by decide +kernel) ⟨mu, rfl, by omega, by omega⟩ ⟨ti, rfl, by omega, by omega⟩ l0 l1 l2 l3 l4 l5 l6 l7 (kx_ofs (k := 8) (by decide) (hF (259, 35, _) (by decide))) (fun e j hj => absurd e (by decide))
theorem kd_g154_9 {g : kc_G} (hg : kc_ok g) {h0 : kc_H} : kd_hand g 5 wk_m154 kd_ty kd_P154 h0 kd_H154_9 := by
  intro σ L hh hb hL hF hw hfr
  obtain ⟨x0, l0, g0⟩ := hL 0 _ rfl rfl
  obtain ⟨x1, l1, -, mu, rfl, e1⟩ := hL 1 _ rfl rfl
  obtain ⟨x2, l2, -, ti, rfl, e2⟩ := hL 2 _ rfl rfl
  obtain ⟨x3, l3, -, wh, rfl, -⟩ := hL 3 _ rfl rfl
  obtain ⟨x4, l4, g4⟩ := hL 4 _ rfl rfl
  obtain ⟨x5, l5, c5, rfl, -⟩ := hL 5 _ rfl rfl
  obtain ⟨x6, l6, c6, rfl, -⟩ := hL 6 _ rfl rfl
  obtain ⟨x7, l7, g7⟩ := hL 7 _ rfl rfl
  have h0' : x0 = .inr (.inr (.inl (some 259))) := by
    obtain ⟨c, rfl, a1, a2⟩ := g0
    obtain rfl : c = 259 := by omega
    rfl
  subst h0'
  have b1 := hb.2 0 _ _ rfl
  have b2 := hb.2 1 _ _ rfl
  rw [kx_ofs (k := 9) (by decide) g4] at l4
  rw [kx_ofs (k := 0) (by decide) g7] at l7
  exact kw_mark hg (by decide) (by decide) (fun e => absurd e (by decide)) (Or.inl rfl) hw hfr (by decide +kernel) ⟨mu, rfl, by omega, by omega⟩ ⟨ti, rfl, by omega, by omega⟩ l0 l1 l2 l3 l4 l5 l6 l7 (kx_ofs (k := 9) (by decide) (hF (259, 35, _) (by decide))) (fun e j hj => absurd e (by decide))
theorem kd_g154_10 {g : kc_G} (hg : kc_ok g) {h0 : kc_H} : kd_hand g 5 wk_m154 kd_ty kd_P154 h0 kd_H154_10 := by
  intro σ L hh hb hL hF hw hfr
  obtain ⟨x0, l0, g0⟩ := hL 0 _ rfl rfl
  obtain ⟨x1, l1, -, mu, rfl, e1⟩ := hL 1 _ rfl rfl
  obtain ⟨x2, l2, -, ti, rfl, e2⟩ := hL 2 _ rfl rfl
  obtain ⟨x3, l3, -, wh, rfl, -⟩ := hL 3 _ rfl rfl
  obtain ⟨x4, l4, g4⟩ := hL 4 _ rfl rfl
  obtain ⟨x5, l5, c5, rfl, -⟩ := hL 5 _ rfl rfl
  obtain ⟨x6, l6, c6, rfl, -⟩ := hL 6 _ rfl rfl
  obtain ⟨x7, l7, g7⟩ := hL 7 _ rfl rfl
  have h0' : x0 = .inr (.inr (.inl (some 259))) := by
    obtain ⟨c, rfl, a1, a2⟩ := g0
    obtain rfl : c = 259 := by omega
    rfl
  subst h0'
  have b1 := hb.2 0 _ _ rfl
  have b2 := hb.2 1 _ _ rfl
  rw [kx_ofs (k := 10) (by decide) g4] at l4
  rw [kx_ofs (k := 0) (by decide) g7] at l7
  exact kw_mark hg (by decide) (by decide) (fun e => absurd e (by decide)) (Or.inl rfl) hw hfr (by decide +kernel) ⟨mu, rfl, by omega, by omega⟩ ⟨ti, rfl, by omega, by omega⟩ l0 l1 l2 l3 l4 l5 l6 l7 (kx_ofs (k := 10) (by decide) (hF (259, 35, _) (by decide))) (fun e j hj => absurd e (by decide))
theorem kd_h154 {g : kc_G} (hg : kc_ok g) : kd_hold g 6 kd_ty 154 kd_T154 := kd_new_h (d := 5) (X := kd_x154) hg rfl rfl rfl kd_xk154 (fun h0 => kd_call_r (d0 := 3) hg kd_xt_ok (kd_ctl_r kd_C154 (kd_al_r kd_C154 ⟨kd_hold_le (kd_h105 hg) (by decide), kd_hold_le (kd_h237k6 hg) (by decide), kd_hold_le (kd_h237k2 hg) (by decide), trivial⟩)) 2) (by decide +kernel) (by decide +kernel) (fun h0 => kd_al_r kd_H154 ⟨kd_g154_0 hg, kd_g154_1 hg, kd_g154_2 hg, kd_g154_3 hg, kd_g154_4 hg, kd_g154_5 hg, kd_g154_6 hg, kd_g154_7 hg, kd_g154_8 hg, kd_g154_9 hg, kd_g154_10 hg, trivial⟩) kd_e154 (kd_al_r kd_S154 ⟨kd_r154_0, kd_r154_1, kd_r154_2, kd_r154_3, kd_r154_4, kd_r154_5, kd_r154_6, kd_r154_7, kd_r154_8, kd_r154_9, kd_r154_10, trivial⟩)
end
