/-! ===== by hand: the reference's scans ===== -/
theorem kx_wd {w b : Nat} (h : 97 ≤ b) : Int64.ofNat 32 * Int64.ofNat w + Int64.ofNat b - Int64.ofNat 97 + Int64.ofNat 1 = Int64.ofNat (32 * w + b - 96) := by
  rw [← Int64.ofNat_mul, ← Int64.ofNat_add]
  have e : Int64.ofNat (32 * w + b) = Int64.ofNat (32 * w + b - 97) + Int64.ofNat 97 := by rw [← Int64.ofNat_add]; congr 1; omega
  rw [e, Int64.add_sub_cancel, ← Int64.ofNat_add]
  congr 1
  omega
def kp_cd (t : Nat → Nat) (s : Nat) : Nat → Nat → Nat → Nat
  | 0, _, w => w
  | m + 1, a, w => bif kp_let (t a) then kp_cd t s m (a + 1) (if a - s ≤ 6 then 32 * w + t a - 96 else 0) else w
def kp_vl (t : Nat → Nat) (s : Nat) : Nat → Nat → Nat → Nat
  | 0, _, v => v
  | m + 1, a, v => bif kp_fig (t a) then kp_vl t s m (a + 1) (if 3 ≤ a - s then v else 10 * v + t a - 48) else v
def kp_tk (t : Nat → Nat) (n s : Nat) : Nat := if n ≤ s then 0 else if kp_let (t s) = true then (if kp_skip kp_let t (n - s) s - s ≤ 6 then kp_wo (kp_cd t s (n - s) s 0) else 1) else if kp_fig (t s) = true then (if kp_skip kp_fig t (n - s) s - s ≤ 3 then 2 else 1) else if t s = 59 then 3 else 1
def kp_vv (t : Nat → Nat) (n s v : Nat) : Nat := if n ≤ s then v else if kp_let (t s) = true then v else if kp_fig (t s) = true then kp_vl t s (n - s) s 0 else v
theorem kp_cd_lt {t : Nat → Nat} {s : Nat} : ∀ (m a w : Nat), s ≤ a → w < 32 ^ (a - s) → kp_skip kp_let t m a - s ≤ 6 → kp_cd t s m a w < 32 ^ (kp_skip kp_let t m a - s)
  | 0, a, w, _, hw, _ => hw
  | m + 1, a, w, hs, hw, he => by
    have he : (bif kp_let (t a) then kp_skip kp_let t m (a + 1) else a) - s ≤ 6 := he
    show (bif kp_let (t a) then kp_cd t s m (a + 1) (if a - s ≤ 6 then 32 * w + t a - 96 else 0) else w) < 32 ^ ((bif kp_let (t a) then kp_skip kp_let t m (a + 1) else a) - s)
    cases e : kp_let (t a) with
    | false => exact hw
    | true =>
      rw [e] at he
      have he : kp_skip kp_let t m (a + 1) - s ≤ 6 := he
      have h1 := kp_skip_le kp_let t m (a + 1)
      have h2 : 97 ≤ t a ∧ t a ≤ 122 := of_decide_eq_true e
      refine kp_cd_lt m (a + 1) _ (by omega) ?_ he
      rw [if_pos (by omega), show a + 1 - s = (a - s) + 1 from by omega, Nat.pow_succ]
      generalize 32 ^ (a - s) = y at hw ⊢
      omega
theorem kp_cd_b {t : Nat → Nat} {n s : Nat} (he : kp_skip kp_let t (n - s) s - s ≤ 6) : kp_cd t s (n - s) s 0 < 9223372036854775808 := by
  have h := kp_cd_lt (t := t) (n - s) s 0 (Nat.le_refl _) (Nat.pow_pos (by decide)) he
  have h2 : 32 ^ (kp_skip kp_let t (n - s) s - s) ≤ 32 ^ 6 := Nat.pow_le_pow_right (by decide) he
  exact Nat.lt_of_lt_of_le h (Nat.le_trans h2 (by decide))
set_option maxRecDepth 20000 in
theorem km_s0 {g : kc_G} {d : Nat} {Q : Option kc_V → kc_H → Prop} {h : kc_H} {x n : Nat} {t : Nat → Nat} (hg : kc_ok g) (hx : x < 2) (hn : n ≤ 240) (hnt : h 260 (160 + x) = .inl (Int32.ofNat n)) (ht : ∀ j, j < 240 → h 260 (170 + 240 * x + j) = .inl (Int32.ofNat (t j))) (hb : ∀ j, j < 240 → t j < 256) (hd : 3 ≤ d) {s k v : Nat} : ∀ (m a : Nat), n - a = m → a ≤ n → kc_Ev g d wk_m65 Q 24 [(0, .inr (.inr (.inl (some 259))))] [] (km_H h x (kp_skip kp_sp t m a) s k v) → kc_Ev g d wk_m65 Q 0 [(0, .inr (.inr (.inl (some 259))))] [] (km_H h x a s k v) := by
  intro m
  induction m with
  | zero =>
    intro a hm ha K
    refine kx_go 3 (pc' := 5) (L' := [(0, .inr (.inr (.inl (some 259))))]) (S' := [.inl (Int32.ofNat 32), .inl (Int32.ofNat 32), .inr (.inr (.inl (some 259)))]) (h' := (km_H h x a s k v)) (by with_unfolding_all rfl) ?_
    refine kc_call_rule (M2 := wk_m66) (av := [.inr (.inr (.inl (some 259))), .inl (Int32.ofNat 32), .inl (Int32.ofNat 32)]) (r := []) rfl rfl (kc_Con_le (km_at (d := 0) hg hx hn hnt ht hb (by omega) (by omega) (by omega)) (by omega)) (fun rv h' hq => ?_)
    obtain ⟨rfl, rfl⟩ := hq
    show kc_Ev g d wk_m65 Q 8 [(0, .inr (.inr (.inl (some 259))))] [.inl (kp_b (bif decide (a < n) then decide (32 ≤ t a ∧ t a ≤ 32) else false))] (km_H h x a s k v)
    refine kx_go 1 (pc' := (if kc_cnd .eq (kp_b (bif decide (a < n) then decide (32 ≤ t a ∧ t a ≤ 32) else false)).toInt 0 then 24 else 11)) (L' := [(0, .inr (.inr (.inl (some 259))))]) (S' := []) (h' := (km_H h x a s k v)) (by with_unfolding_all rfl) ?_
    rw [show decide (a < n) = false from decide_eq_false (by omega), cond_false]
    rw [if_pos (kx_b0.mpr rfl)]
    exact K
  | succ m ih =>
    intro a hm ha K
    refine kx_go 3 (pc' := 5) (L' := [(0, .inr (.inr (.inl (some 259))))]) (S' := [.inl (Int32.ofNat 32), .inl (Int32.ofNat 32), .inr (.inr (.inl (some 259)))]) (h' := (km_H h x a s k v)) (by with_unfolding_all rfl) ?_
    refine kc_call_rule (M2 := wk_m66) (av := [.inr (.inr (.inl (some 259))), .inl (Int32.ofNat 32), .inl (Int32.ofNat 32)]) (r := []) rfl rfl (kc_Con_le (km_at (d := 0) hg hx hn hnt ht hb (by omega) (by omega) (by omega)) (by omega)) (fun rv h' hq => ?_)
    obtain ⟨rfl, rfl⟩ := hq
    show kc_Ev g d wk_m65 Q 8 [(0, .inr (.inr (.inl (some 259))))] [.inl (kp_b (bif decide (a < n) then decide (32 ≤ t a ∧ t a ≤ 32) else false))] (km_H h x a s k v)
    refine kx_go 1 (pc' := (if kc_cnd .eq (kp_b (bif decide (a < n) then decide (32 ≤ t a ∧ t a ≤ 32) else false)).toInt 0 then 24 else 11)) (L' := [(0, .inr (.inr (.inl (some 259))))]) (S' := []) (h' := (km_H h x a s k v)) (by with_unfolding_all rfl) ?_
    rw [show decide (a < n) = true from decide_eq_true (by omega)]
    have K : kc_Ev g d wk_m65 Q 24 [(0, .inr (.inr (.inl (some 259))))] [] (km_H h x (bif kp_sp (t a) then kp_skip kp_sp t m (a + 1) else a) s k v) := K
    by_cases e : t a = 32
    · rw [if_neg (fun q => by have := kx_b0.mp q; rw [show decide (32 ≤ t a ∧ t a ≤ 32) = true from decide_eq_true (by omega)] at this; cases this)]
      rw [show kp_sp (t a) = true from decide_eq_true e] at K
      refine kx_go 5 (pc' := 18) (L' := [(0, .inr (.inr (.inl (some 259))))]) (S' := [.inl ((Int32.ofNat a) + (Int32.ofNat 1)), .inr (.inr (.inl (some 259)))]) (h' := (km_H h x a s k v)) (by with_unfolding_all rfl) ?_
      refine kx_go 1 (pc' := 21) (L' := [(0, .inr (.inr (.inl (some 259))))]) (S' := []) (h' := kc_upd (km_H h x a s k v) 259 7 (.inl (Int32.ofNat a + Int32.ofNat 1))) (by with_unfolding_all rfl) ?_
      rw [kx_inc1, km_7]
      refine kx_go 1 (pc' := 0) (L' := [(0, .inr (.inr (.inl (some 259))))]) (S' := []) (h' := (km_H h x (a + 1) s k v)) (by with_unfolding_all rfl) ?_
      exact ih (a + 1) (by omega) (by omega) K
    · rw [if_pos (kx_b0.mpr (by rw [show decide (32 ≤ t a ∧ t a ≤ 32) = false from decide_eq_false (by omega)]; rfl))]
      rw [show kp_sp (t a) = false from decide_eq_false e] at K
      exact K
set_option maxRecDepth 20000 in
theorem km_s1 {g : kc_G} {d : Nat} {Q : Option kc_V → kc_H → Prop} {h : kc_H} {x n : Nat} {t : Nat → Nat} (hg : kc_ok g) (hx : x < 2) (hn : n ≤ 240) (hnt : h 260 (160 + x) = .inl (Int32.ofNat n)) (ht : ∀ j, j < 240 → h 260 (170 + 240 * x + j) = .inl (Int32.ofNat (t j))) (hb : ∀ j, j < 240 → t j < 256) (hd : 3 ≤ d) {s k v : Nat} : ∀ (m a w : Nat), n - a = m → a ≤ n → s ≤ a → kc_Ev g d wk_m65 Q 135 [(1, .inr (.inl (Int64.ofNat (kp_cd t s m a w)))), (0, .inr (.inr (.inl (some 259))))] [] (km_H h x (kp_skip kp_let t m a) s k v) → kc_Ev g d wk_m65 Q 71 [(1, .inr (.inl (Int64.ofNat w))), (0, .inr (.inr (.inl (some 259))))] [] (km_H h x a s k v) := by
  intro m
  induction m with
  | zero =>
    intro a w hm ha hsa K
    refine kx_go 3 (pc' := 76) (L' := [(1, .inr (.inl (Int64.ofNat w))), (0, .inr (.inr (.inl (some 259))))]) (S' := [.inl (Int32.ofNat 122), .inl (Int32.ofNat 97), .inr (.inr (.inl (some 259)))]) (h' := (km_H h x a s k v)) (by with_unfolding_all rfl) ?_
    refine kc_call_rule (M2 := wk_m66) (av := [.inr (.inr (.inl (some 259))), .inl (Int32.ofNat 97), .inl (Int32.ofNat 122)]) (r := []) rfl rfl (kc_Con_le (km_at (d := 0) hg hx hn hnt ht hb (by omega) (by omega) (by omega)) (by omega)) (fun rv h' hq => ?_)
    obtain ⟨rfl, rfl⟩ := hq
    show kc_Ev g d wk_m65 Q 79 [(1, .inr (.inl (Int64.ofNat w))), (0, .inr (.inr (.inl (some 259))))] [.inl (kp_b (bif decide (a < n) then decide (97 ≤ t a ∧ t a ≤ 122) else false))] (km_H h x a s k v)
    refine kx_go 1 (pc' := (if kc_cnd .eq (kp_b (bif decide (a < n) then decide (97 ≤ t a ∧ t a ≤ 122) else false)).toInt 0 then 135 else 82)) (L' := [(1, .inr (.inl (Int64.ofNat w))), (0, .inr (.inr (.inl (some 259))))]) (S' := []) (h' := (km_H h x a s k v)) (by with_unfolding_all rfl) ?_
    rw [show decide (a < n) = false from decide_eq_false (by omega), cond_false]
    rw [if_pos (kx_b0.mpr rfl)]
    exact K
  | succ m ih =>
    intro a w hm ha hsa K
    refine kx_go 3 (pc' := 76) (L' := [(1, .inr (.inl (Int64.ofNat w))), (0, .inr (.inr (.inl (some 259))))]) (S' := [.inl (Int32.ofNat 122), .inl (Int32.ofNat 97), .inr (.inr (.inl (some 259)))]) (h' := (km_H h x a s k v)) (by with_unfolding_all rfl) ?_
    refine kc_call_rule (M2 := wk_m66) (av := [.inr (.inr (.inl (some 259))), .inl (Int32.ofNat 97), .inl (Int32.ofNat 122)]) (r := []) rfl rfl (kc_Con_le (km_at (d := 0) hg hx hn hnt ht hb (by omega) (by omega) (by omega)) (by omega)) (fun rv h' hq => ?_)
    obtain ⟨rfl, rfl⟩ := hq
    show kc_Ev g d wk_m65 Q 79 [(1, .inr (.inl (Int64.ofNat w))), (0, .inr (.inr (.inl (some 259))))] [.inl (kp_b (bif decide (a < n) then decide (97 ≤ t a ∧ t a ≤ 122) else false))] (km_H h x a s k v)
    refine kx_go 1 (pc' := (if kc_cnd .eq (kp_b (bif decide (a < n) then decide (97 ≤ t a ∧ t a ≤ 122) else false)).toInt 0 then 135 else 82)) (L' := [(1, .inr (.inl (Int64.ofNat w))), (0, .inr (.inr (.inl (some 259))))]) (S' := []) (h' := (km_H h x a s k v)) (by with_unfolding_all rfl) ?_
    rw [show decide (a < n) = true from decide_eq_true (by omega)]
    have K : kc_Ev g d wk_m65 Q 135 [(1, .inr (.inl (Int64.ofNat (bif kp_let (t a) then kp_cd t s m (a + 1) (if a - s ≤ 6 then 32 * w + t a - 96 else 0) else w)))), (0, .inr (.inr (.inl (some 259))))] [] (km_H h x (bif kp_let (t a) then kp_skip kp_let t m (a + 1) else a) s k v) := K
    cases e : kp_let (t a) with
    | true =>
      rw [if_neg (fun q => by have := kx_b0.mp q; rw [show decide (97 ≤ t a ∧ t a ≤ 122) = true from e] at this; cases this)]
      rw [e] at K
      have h97 : 97 ≤ t a ∧ t a ≤ 122 := of_decide_eq_true e
      refine kx_go 7 (pc' := (if kc_cnd .le ((Int32.ofNat a) - (Int32.ofNat s)).toInt (Int32.ofNat 6).toInt then 100 else 96)) (L' := [(1, .inr (.inl (Int64.ofNat w))), (0, .inr (.inr (.inl (some 259))))]) (S' := []) (h' := (km_H h x a s k v)) (by with_unfolding_all rfl) ?_
      rw [kx_sub hsa]
      have K2 : ∀ w2, w2 = (if a - s ≤ 6 then 32 * w + t a - 96 else 0) → kc_Ev g d wk_m65 Q 121 [(1, .inr (.inl (Int64.ofNat w))), (0, .inr (.inr (.inl (some 259))))] [.inr (.inl (Int64.ofNat w2))] (km_H h x a s k v) := by
        intro w2 hw2
        rw [← hw2] at K
        refine kx_go 1 (pc' := 122) (L' := [(1, .inr (.inl (Int64.ofNat w2))), (0, .inr (.inr (.inl (some 259))))]) (S' := []) (h' := (km_H h x a s k v)) (by with_unfolding_all rfl) ?_
        refine kx_go 5 (pc' := 129) (L' := [(1, .inr (.inl (Int64.ofNat w2))), (0, .inr (.inr (.inl (some 259))))]) (S' := [.inl ((Int32.ofNat a) + (Int32.ofNat 1)), .inr (.inr (.inl (some 259)))]) (h' := (km_H h x a s k v)) (by with_unfolding_all rfl) ?_
        refine kx_go 1 (pc' := 132) (L' := [(1, .inr (.inl (Int64.ofNat w2))), (0, .inr (.inr (.inl (some 259))))]) (S' := []) (h' := kc_upd (km_H h x a s k v) 259 7 (.inl (Int32.ofNat a + Int32.ofNat 1))) (by with_unfolding_all rfl) ?_
        rw [kx_inc1, km_7]
        refine kx_go 1 (pc' := 71) (L' := [(1, .inr (.inl (Int64.ofNat w2))), (0, .inr (.inr (.inl (some 259))))]) (S' := []) (h' := (km_H h x (a + 1) s k v)) (by with_unfolding_all rfl) ?_
        exact ih (a + 1) w2 (by omega) (by omega) (by omega) K
      by_cases e6 : a - s ≤ 6
      · rw [if_pos ((kx_le (by omega) (by omega)).mpr e6)]
        refine kx_go 6 (pc' := 110) (L' := [(1, .inr (.inl (Int64.ofNat w))), (0, .inr (.inr (.inl (some 259))))]) (S' := [.inl (Int32.ofNat a), .inr (.inr (.inl (some 259))), .inr (.inl ((Int64.ofNat 32) * (Int64.ofNat w)))]) (h' := (km_H h x a s k v)) (by with_unfolding_all rfl) ?_
        refine kc_call_rule (M2 := wk_m232) (av := [.inr (.inr (.inl (some 259))), .inl (Int32.ofNat a)]) (r := [.inr (.inl ((Int64.ofNat 32) * (Int64.ofNat w)))]) rfl rfl (kc_Con_le (km_by (d := 0) hg hx hn hnt ht hb (by omega)) (by omega)) (fun rv h' hq => ?_)
        obtain ⟨rfl, rfl⟩ := hq
        show kc_Ev g d wk_m65 Q 113 [(1, .inr (.inl (Int64.ofNat w))), (0, .inr (.inr (.inl (some 259))))] [.inl (Int32.ofNat (t a)), .inr (.inl ((Int64.ofNat 32) * (Int64.ofNat w)))] (km_H h x a s k v)
        refine kx_go 6 (pc' := 121) (L' := [(1, .inr (.inl (Int64.ofNat w))), (0, .inr (.inr (.inl (some 259))))]) (S' := [.inr (.inl (((((Int64.ofNat 32) * (Int64.ofNat w)) + ((Int32.ofNat (t a)).toInt64)) - (Int64.ofNat 97)) + (Int64.ofNat 1)))]) (h' := (km_H h x a s k v)) (by with_unfolding_all rfl) ?_
        rw [kx_i2l (by have := hb a (by omega); omega), kx_wd h97.1]
        exact K2 _ (by rw [if_pos e6])
      · rw [if_neg (fun q => e6 ((kx_le (by omega) (by omega)).mp q))]
        refine kx_go 2 (pc' := 121) (L' := [(1, .inr (.inl (Int64.ofNat w))), (0, .inr (.inr (.inl (some 259))))]) (S' := [.inr (.inl (Int64.ofNat 0))]) (h' := (km_H h x a s k v)) (by with_unfolding_all rfl) ?_
        exact K2 0 (by rw [if_neg e6])
    | false =>
      rw [if_pos (kx_b0.mpr (by rw [show decide (97 ≤ t a ∧ t a ≤ 122) = false from e]; rfl))]
      rw [e] at K
      exact K
set_option maxRecDepth 20000 in
theorem km_s2 {g : kc_G} {d : Nat} {Q : Option kc_V → kc_H → Prop} {h : kc_H} {x n : Nat} {t : Nat → Nat} (hg : kc_ok g) (hx : x < 2) (hn : n ≤ 240) (hnt : h 260 (160 + x) = .inl (Int32.ofNat n)) (ht : ∀ j, j < 240 → h 260 (170 + 240 * x + j) = .inl (Int32.ofNat (t j))) (hb : ∀ j, j < 240 → t j < 256) (hd : 3 ≤ d) {s k : Nat} : ∀ (m a v : Nat), n - a = m → a ≤ n → s ≤ a → kc_Ev g d wk_m65 Q 245 [(0, .inr (.inr (.inl (some 259))))] [] (km_H h x (kp_skip kp_fig t m a) s k (kp_vl t s m a v)) → kc_Ev g d wk_m65 Q 178 [(0, .inr (.inr (.inl (some 259))))] [] (km_H h x a s k v) := by
  intro m
  induction m with
  | zero =>
    intro a v hm ha hsa K
    refine kx_go 3 (pc' := 183) (L' := [(0, .inr (.inr (.inl (some 259))))]) (S' := [.inl (Int32.ofNat 57), .inl (Int32.ofNat 48), .inr (.inr (.inl (some 259)))]) (h' := (km_H h x a s k v)) (by with_unfolding_all rfl) ?_
    refine kc_call_rule (M2 := wk_m66) (av := [.inr (.inr (.inl (some 259))), .inl (Int32.ofNat 48), .inl (Int32.ofNat 57)]) (r := []) rfl rfl (kc_Con_le (km_at (d := 0) hg hx hn hnt ht hb (by omega) (by omega) (by omega)) (by omega)) (fun rv h' hq => ?_)
    obtain ⟨rfl, rfl⟩ := hq
    show kc_Ev g d wk_m65 Q 186 [(0, .inr (.inr (.inl (some 259))))] [.inl (kp_b (bif decide (a < n) then decide (48 ≤ t a ∧ t a ≤ 57) else false))] (km_H h x a s k v)
    refine kx_go 1 (pc' := (if kc_cnd .eq (kp_b (bif decide (a < n) then decide (48 ≤ t a ∧ t a ≤ 57) else false)).toInt 0 then 245 else 189)) (L' := [(0, .inr (.inr (.inl (some 259))))]) (S' := []) (h' := (km_H h x a s k v)) (by with_unfolding_all rfl) ?_
    rw [show decide (a < n) = false from decide_eq_false (by omega), cond_false]
    rw [if_pos (kx_b0.mpr rfl)]
    exact K
  | succ m ih =>
    intro a v hm ha hsa K
    refine kx_go 3 (pc' := 183) (L' := [(0, .inr (.inr (.inl (some 259))))]) (S' := [.inl (Int32.ofNat 57), .inl (Int32.ofNat 48), .inr (.inr (.inl (some 259)))]) (h' := (km_H h x a s k v)) (by with_unfolding_all rfl) ?_
    refine kc_call_rule (M2 := wk_m66) (av := [.inr (.inr (.inl (some 259))), .inl (Int32.ofNat 48), .inl (Int32.ofNat 57)]) (r := []) rfl rfl (kc_Con_le (km_at (d := 0) hg hx hn hnt ht hb (by omega) (by omega) (by omega)) (by omega)) (fun rv h' hq => ?_)
    obtain ⟨rfl, rfl⟩ := hq
    show kc_Ev g d wk_m65 Q 186 [(0, .inr (.inr (.inl (some 259))))] [.inl (kp_b (bif decide (a < n) then decide (48 ≤ t a ∧ t a ≤ 57) else false))] (km_H h x a s k v)
    refine kx_go 1 (pc' := (if kc_cnd .eq (kp_b (bif decide (a < n) then decide (48 ≤ t a ∧ t a ≤ 57) else false)).toInt 0 then 245 else 189)) (L' := [(0, .inr (.inr (.inl (some 259))))]) (S' := []) (h' := (km_H h x a s k v)) (by with_unfolding_all rfl) ?_
    rw [show decide (a < n) = true from decide_eq_true (by omega)]
    have K : kc_Ev g d wk_m65 Q 245 [(0, .inr (.inr (.inl (some 259))))] [] (km_H h x (bif kp_fig (t a) then kp_skip kp_fig t m (a + 1) else a) s k (bif kp_fig (t a) then kp_vl t s m (a + 1) (if 3 ≤ a - s then v else 10 * v + t a - 48) else v)) := K
    cases e : kp_fig (t a) with
    | true =>
      rw [if_neg (fun q => by have := kx_b0.mp q; rw [show decide (48 ≤ t a ∧ t a ≤ 57) = true from e] at this; cases this)]
      rw [e] at K
      have h48 : 48 ≤ t a ∧ t a ≤ 57 := of_decide_eq_true e
      refine kx_go 8 (pc' := (if kc_cnd .ge ((Int32.ofNat a) - (Int32.ofNat s)).toInt (Int32.ofNat 3).toInt then 225 else 203)) (L' := [(0, .inr (.inr (.inl (some 259))))]) (S' := [.inr (.inr (.inl (some 259)))]) (h' := (km_H h x a s k v)) (by with_unfolding_all rfl) ?_
      rw [kx_sub hsa]
      have K2 : ∀ v2, v2 = (if 3 ≤ a - s then v else 10 * v + t a - 48) → kc_Ev g d wk_m65 Q 229 [(0, .inr (.inr (.inl (some 259))))] [.inl (Int32.ofNat v2), .inr (.inr (.inl (some 259)))] (km_H h x a s k v) := by
        intro v2 hv2
        rw [← hv2] at K
        refine kx_go 1 (pc' := 232) (L' := [(0, .inr (.inr (.inl (some 259))))]) (S' := []) (h' := kc_upd (km_H h x a s k v) 259 10 (.inl (Int32.ofNat v2))) (by with_unfolding_all rfl) ?_
        rw [km_10]
        refine kx_go 5 (pc' := 239) (L' := [(0, .inr (.inr (.inl (some 259))))]) (S' := [.inl ((Int32.ofNat a) + (Int32.ofNat 1)), .inr (.inr (.inl (some 259)))]) (h' := (km_H h x a s k v2)) (by with_unfolding_all rfl) ?_
        refine kx_go 1 (pc' := 242) (L' := [(0, .inr (.inr (.inl (some 259))))]) (S' := []) (h' := kc_upd (km_H h x a s k v2) 259 7 (.inl (Int32.ofNat a + Int32.ofNat 1))) (by with_unfolding_all rfl) ?_
        rw [kx_inc1, km_7]
        refine kx_go 1 (pc' := 178) (L' := [(0, .inr (.inr (.inl (some 259))))]) (S' := []) (h' := (km_H h x (a + 1) s k v2)) (by with_unfolding_all rfl) ?_
        exact ih (a + 1) v2 (by omega) (by omega) (by omega) K
      by_cases e3 : 3 ≤ a - s
      · rw [if_pos ((kx_ge (by omega) (by omega)).mpr e3)]
        refine kx_go 2 (pc' := 229) (L' := [(0, .inr (.inr (.inl (some 259))))]) (S' := [.inl (Int32.ofNat v), .inr (.inr (.inl (some 259)))]) (h' := (km_H h x a s k v)) (by with_unfolding_all rfl) ?_
        exact K2 _ (by rw [if_pos e3])
      · rw [if_neg (fun q => e3 ((kx_ge (by omega) (by omega)).mp q))]
        refine kx_go 7 (pc' := 215) (L' := [(0, .inr (.inr (.inl (some 259))))]) (S' := [.inl (Int32.ofNat a), .inr (.inr (.inl (some 259))), .inl ((Int32.ofNat 10) * (Int32.ofNat v)), .inr (.inr (.inl (some 259)))]) (h' := (km_H h x a s k v)) (by with_unfolding_all rfl) ?_
        refine kc_call_rule (M2 := wk_m232) (av := [.inr (.inr (.inl (some 259))), .inl (Int32.ofNat a)]) (r := [.inl ((Int32.ofNat 10) * (Int32.ofNat v)), .inr (.inr (.inl (some 259)))]) rfl rfl (kc_Con_le (km_by (d := 0) hg hx hn hnt ht hb (by omega)) (by omega)) (fun rv h' hq => ?_)
        obtain ⟨rfl, rfl⟩ := hq
        show kc_Ev g d wk_m65 Q 218 [(0, .inr (.inr (.inl (some 259))))] [.inl (Int32.ofNat (t a)), .inl ((Int32.ofNat 10) * (Int32.ofNat v)), .inr (.inr (.inl (some 259)))] (km_H h x a s k v)
        refine kx_go 4 (pc' := 229) (L' := [(0, .inr (.inr (.inl (some 259))))]) (S' := [.inl ((((Int32.ofNat 10) * (Int32.ofNat v)) + (Int32.ofNat (t a))) - (Int32.ofNat 48)), .inr (.inr (.inl (some 259)))]) (h' := (km_H h x a s k v)) (by with_unfolding_all rfl) ?_
        rw [kx_dig h48.1]
        exact K2 _ (by rw [if_neg e3])
    | false =>
      rw [if_pos (kx_b0.mpr (by rw [show decide (48 ≤ t a ∧ t a ≤ 57) = false from e]; rfl))]
      rw [e] at K
      exact K
set_option maxRecDepth 20000 in
theorem km_st1 {g : kc_G} {d : Nat} {Q : Option kc_V → kc_H → Prop} {h : kc_H} {x n : Nat} {t : Nat → Nat} (hg : kc_ok g) (hx : x < 2) (hn : n ≤ 240) (hnt : h 260 (160 + x) = .inl (Int32.ofNat n)) (ht : ∀ j, j < 240 → h 260 (170 + 240 * x + j) = .inl (Int32.ofNat (t j))) (hb : ∀ j, j < 240 → t j < 256) (hd : 3 ≤ d) {s k v q : Nat} (hqn : q ≤ n) (hQ : Q none (km_H h x (kp_nx t n q) q (kp_tk t n q) (kp_vv t n q v))) : kc_Ev g d wk_m65 Q 24 [(0, .inr (.inr (.inl (some 259))))] [] (km_H h x q s k v) := by
  refine kx_go 3 (pc' := 29) (L' := [(0, .inr (.inr (.inl (some 259))))]) (S' := [.inl (Int32.ofNat q), .inr (.inr (.inl (some 259)))]) (h' := (km_H h x q s k v)) (by with_unfolding_all rfl) ?_
  refine kx_go 1 (pc' := 32) (L' := [(0, .inr (.inr (.inl (some 259))))]) (S' := []) (h' := kc_upd (km_H h x q s k v) 259 8 (.inl (Int32.ofNat q))) (by with_unfolding_all rfl) ?_
  rw [km_8]
  refine kx_go 8 (pc' := 48) (L' := [(0, .inr (.inr (.inl (some 259))))]) (S' := [.inl ((Int32.ofNat 160) + (Int32.ofNat x)), .inr (.inr (.inl (some 260))), .inl (Int32.ofNat q)]) (h' := (km_H h x q q k v)) (by with_unfolding_all rfl) ?_
  rw [kx_add]
  refine kx_iald rfl (c := 260) (j := 160 + x) (m := 650) rfl (by decide) (by decide) (by omega) ((km_o (by decide)).trans hnt) ?_
  refine kx_go 1 (pc' := (if kc_cnd .ne (Int32.ofNat q).toInt (Int32.ofNat n).toInt then 58 else 52)) (L' := [(0, .inr (.inr (.inl (some 259))))]) (S' := []) (h' := (km_H h x q q k v)) (by with_unfolding_all rfl) ?_
  by_cases e1 : q = n
  · rw [if_neg (fun w => (kx_ne (by omega) (by omega)).mp w e1)]
    refine kx_go 2 (pc' := 54) (L' := [(0, .inr (.inr (.inl (some 259))))]) (S' := [.inl (Int32.ofNat 0), .inr (.inr (.inl (some 259)))]) (h' := (km_H h x q q k v)) (by with_unfolding_all rfl) ?_
    refine kx_go 1 (pc' := 57) (L' := [(0, .inr (.inr (.inl (some 259))))]) (S' := []) (h' := kc_upd (km_H h x q q k v) 259 9 (.inl (Int32.ofNat 0))) (by with_unfolding_all rfl) ?_
    rw [km_9]
    have hnq : n ≤ q := by omega
    rw [show kp_nx t n q = q from if_pos hnq, show kp_tk t n q = 0 from if_pos hnq, show kp_vv t n q v = v from if_pos hnq] at hQ
    exact kc_ret_ok rfl (rv := none) rfl hQ
  · rw [if_pos ((kx_ne (by omega) (by omega)).mpr e1)]
    have hnq : ¬ n ≤ q := by omega
    unfold kp_nx kp_tk kp_vv at hQ
    rw [if_neg hnq, if_neg hnq, if_neg hnq] at hQ
    have hbq := hb q (by omega)
    refine kx_go 3 (pc' := 63) (L' := [(0, .inr (.inr (.inl (some 259))))]) (S' := [.inl (Int32.ofNat 122), .inl (Int32.ofNat 97), .inr (.inr (.inl (some 259)))]) (h' := (km_H h x q q k v)) (by with_unfolding_all rfl) ?_
    refine kc_call_rule (M2 := wk_m66) (av := [.inr (.inr (.inl (some 259))), .inl (Int32.ofNat 97), .inl (Int32.ofNat 122)]) (r := []) rfl rfl (kc_Con_le (km_at (d := 0) hg hx hn hnt ht hb (by omega) (by omega) (by omega)) (by omega)) (fun rv h' hq => ?_)
    obtain ⟨rfl, rfl⟩ := hq
    show kc_Ev g d wk_m65 Q 66 [(0, .inr (.inr (.inl (some 259))))] [.inl (kp_b (bif decide (q < n) then decide (97 ≤ t q ∧ t q ≤ 122) else false))] (km_H h x q q k v)
    refine kx_go 1 (pc' := (if kc_cnd .eq (kp_b (bif decide (q < n) then decide (97 ≤ t q ∧ t q ≤ 122) else false)).toInt 0 then 162 else 69)) (L' := [(0, .inr (.inr (.inl (some 259))))]) (S' := []) (h' := (km_H h x q q k v)) (by with_unfolding_all rfl) ?_
    rw [show decide (q < n) = true from decide_eq_true (by omega)]
    cases e2 : kp_let (t q) with
    | true =>
      rw [if_neg (fun w => by have := kx_b0.mp w; rw [show decide (97 ≤ t q ∧ t q ≤ 122) = true from e2] at this; cases this)]
      simp only [e2, ↓reduceIte] at hQ
      refine kx_go 2 (pc' := 71) (L' := [(1, .inr (.inl (Int64.ofNat 0))), (0, .inr (.inr (.inl (some 259))))]) (S' := []) (h' := (km_H h x q q k v)) (by with_unfolding_all rfl) ?_
      refine km_s1 hg hx hn hnt ht hb hd (n - q) q 0 rfl (by omega) (Nat.le_refl _) ?_
      have hcd := kp_cd_b (t := t) (n := n) (s := q)
      have he := kp_skip_le kp_let t (n - q) q
      generalize kp_skip kp_let t (n - q) q = e at hQ he hcd ⊢
      generalize kp_cd t q (n - q) q 0 = w at hQ hcd ⊢
      refine kx_go 8 (pc' := (if kc_cnd .le ((Int32.ofNat e) - (Int32.ofNat q)).toInt (Int32.ofNat 6).toInt then 154 else 150)) (L' := [(1, .inr (.inl (Int64.ofNat w))), (0, .inr (.inr (.inl (some 259))))]) (S' := [.inr (.inr (.inl (some 259)))]) (h' := (km_H h x e q k v)) (by with_unfolding_all rfl) ?_
      rw [kx_sub he.1]
      by_cases e6 : e - q ≤ 6
      · rw [if_pos ((kx_le (by omega) (by omega)).mpr e6)]
        rw [if_pos e6] at hQ
        refine kx_go 1 (pc' := 155) (L' := [(1, .inr (.inl (Int64.ofNat w))), (0, .inr (.inr (.inl (some 259))))]) (S' := [.inr (.inl (Int64.ofNat w)), .inr (.inr (.inl (some 259)))]) (h' := (km_H h x e q k v)) (by with_unfolding_all rfl) ?_
        refine kc_call_rule (M2 := wk_m233) (av := [.inr (.inl (Int64.ofNat w))]) (r := [.inr (.inr (.inl (some 259)))]) rfl rfl (kc_Con_le (km_wo (d := 0) hg (hcd e6)) (by omega)) (fun rv h' hq => ?_)
        obtain ⟨rfl, rfl⟩ := hq
        show kc_Ev g d wk_m65 Q 158 [(1, .inr (.inl (Int64.ofNat w))), (0, .inr (.inr (.inl (some 259))))] [.inl (Int32.ofNat (kp_wo w)), .inr (.inr (.inl (some 259)))] (km_H h x e q k v)
        refine kx_go 1 (pc' := 161) (L' := [(1, .inr (.inl (Int64.ofNat w))), (0, .inr (.inr (.inl (some 259))))]) (S' := []) (h' := kc_upd (km_H h x e q k v) 259 9 (.inl (Int32.ofNat (kp_wo w)))) (by with_unfolding_all rfl) ?_
        rw [km_9]
        exact kc_ret_ok rfl (rv := none) rfl hQ
      · rw [if_neg (fun w => e6 ((kx_le (by omega) (by omega)).mp w))]
        rw [if_neg e6] at hQ
        refine kx_go 2 (pc' := 158) (L' := [(1, .inr (.inl (Int64.ofNat w))), (0, .inr (.inr (.inl (some 259))))]) (S' := [.inl (Int32.ofNat 1), .inr (.inr (.inl (some 259)))]) (h' := (km_H h x e q k v)) (by with_unfolding_all rfl) ?_
        refine kx_go 1 (pc' := 161) (L' := [(1, .inr (.inl (Int64.ofNat w))), (0, .inr (.inr (.inl (some 259))))]) (S' := []) (h' := kc_upd (km_H h x e q k v) 259 9 (.inl (Int32.ofNat 1))) (by with_unfolding_all rfl) ?_
        rw [km_9]
        exact kc_ret_ok rfl (rv := none) rfl hQ
    | false =>
      rw [if_pos (kx_b0.mpr (by rw [show decide (97 ≤ t q ∧ t q ≤ 122) = false from e2]; rfl))]
      simp only [e2, ↓reduceIte, Bool.false_eq_true] at hQ
      refine kx_go 3 (pc' := 167) (L' := [(0, .inr (.inr (.inl (some 259))))]) (S' := [.inl (Int32.ofNat 57), .inl (Int32.ofNat 48), .inr (.inr (.inl (some 259)))]) (h' := (km_H h x q q k v)) (by with_unfolding_all rfl) ?_
      refine kc_call_rule (M2 := wk_m66) (av := [.inr (.inr (.inl (some 259))), .inl (Int32.ofNat 48), .inl (Int32.ofNat 57)]) (r := []) rfl rfl (kc_Con_le (km_at (d := 0) hg hx hn hnt ht hb (by omega) (by omega) (by omega)) (by omega)) (fun rv h' hq => ?_)
      obtain ⟨rfl, rfl⟩ := hq
      show kc_Ev g d wk_m65 Q 170 [(0, .inr (.inr (.inl (some 259))))] [.inl (kp_b (bif decide (q < n) then decide (48 ≤ t q ∧ t q ≤ 57) else false))] (km_H h x q q k v)
      refine kx_go 1 (pc' := (if kc_cnd .eq (kp_b (bif decide (q < n) then decide (48 ≤ t q ∧ t q ≤ 57) else false)).toInt 0 then 268 else 173)) (L' := [(0, .inr (.inr (.inl (some 259))))]) (S' := []) (h' := (km_H h x q q k v)) (by with_unfolding_all rfl) ?_
      rw [show decide (q < n) = true from decide_eq_true (by omega)]
      cases e3 : kp_fig (t q) with
      | true =>
        rw [if_neg (fun w => by have := kx_b0.mp w; rw [show decide (48 ≤ t q ∧ t q ≤ 57) = true from e3] at this; cases this)]
        simp only [e3, ↓reduceIte] at hQ
        refine kx_go 2 (pc' := 175) (L' := [(0, .inr (.inr (.inl (some 259))))]) (S' := [.inl (Int32.ofNat 0), .inr (.inr (.inl (some 259)))]) (h' := (km_H h x q q k v)) (by with_unfolding_all rfl) ?_
        refine kx_go 1 (pc' := 178) (L' := [(0, .inr (.inr (.inl (some 259))))]) (S' := []) (h' := kc_upd (km_H h x q q k v) 259 10 (.inl (Int32.ofNat 0))) (by with_unfolding_all rfl) ?_
        rw [km_10]
        refine km_s2 hg hx hn hnt ht hb hd (n - q) q 0 rfl (by omega) (Nat.le_refl _) ?_
        have he := kp_skip_le kp_fig t (n - q) q
        generalize kp_skip kp_fig t (n - q) q = e at hQ he ⊢
        generalize kp_vl t q (n - q) q 0 = u at hQ ⊢
        refine kx_go 8 (pc' := (if kc_cnd .le ((Int32.ofNat e) - (Int32.ofNat q)).toInt (Int32.ofNat 3).toInt then 263 else 259)) (L' := [(0, .inr (.inr (.inl (some 259))))]) (S' := [.inr (.inr (.inl (some 259)))]) (h' := (km_H h x e q k u)) (by with_unfolding_all rfl) ?_
        rw [kx_sub he.1]
        by_cases e4 : e - q ≤ 3
        · rw [if_pos ((kx_le (by omega) (by omega)).mpr e4)]
          rw [if_pos e4] at hQ
          refine kx_go 1 (pc' := 264) (L' := [(0, .inr (.inr (.inl (some 259))))]) (S' := [.inl (Int32.ofNat 2), .inr (.inr (.inl (some 259)))]) (h' := (km_H h x e q k u)) (by with_unfolding_all rfl) ?_
          refine kx_go 1 (pc' := 267) (L' := [(0, .inr (.inr (.inl (some 259))))]) (S' := []) (h' := kc_upd (km_H h x e q k u) 259 9 (.inl (Int32.ofNat 2))) (by with_unfolding_all rfl) ?_
          rw [km_9]
          exact kc_ret_ok rfl (rv := none) rfl hQ
        · rw [if_neg (fun w => e4 ((kx_le (by omega) (by omega)).mp w))]
          rw [if_neg e4] at hQ
          refine kx_go 2 (pc' := 264) (L' := [(0, .inr (.inr (.inl (some 259))))]) (S' := [.inl (Int32.ofNat 1), .inr (.inr (.inl (some 259)))]) (h' := (km_H h x e q k u)) (by with_unfolding_all rfl) ?_
          refine kx_go 1 (pc' := 267) (L' := [(0, .inr (.inr (.inl (some 259))))]) (S' := []) (h' := kc_upd (km_H h x e q k u) 259 9 (.inl (Int32.ofNat 1))) (by with_unfolding_all rfl) ?_
          rw [km_9]
          exact kc_ret_ok rfl (rv := none) rfl hQ
      | false =>
        rw [if_pos (kx_b0.mpr (by rw [show decide (48 ≤ t q ∧ t q ≤ 57) = false from e3]; rfl))]
        simp only [e3, ↓reduceIte, Bool.false_eq_true] at hQ
        refine kx_go 4 (pc' := 274) (L' := [(0, .inr (.inr (.inl (some 259))))]) (S' := [.inl (Int32.ofNat 59), .inl (Int32.ofNat 59), .inr (.inr (.inl (some 259))), .inr (.inr (.inl (some 259)))]) (h' := (km_H h x q q k v)) (by with_unfolding_all rfl) ?_
        refine kc_call_rule (M2 := wk_m66) (av := [.inr (.inr (.inl (some 259))), .inl (Int32.ofNat 59), .inl (Int32.ofNat 59)]) (r := [.inr (.inr (.inl (some 259)))]) rfl rfl (kc_Con_le (km_at (d := 0) hg hx hn hnt ht hb (by omega) (by omega) (by omega)) (by omega)) (fun rv h' hq => ?_)
        obtain ⟨rfl, rfl⟩ := hq
        show kc_Ev g d wk_m65 Q 277 [(0, .inr (.inr (.inl (some 259))))] [.inl (kp_b (bif decide (q < n) then decide (59 ≤ t q ∧ t q ≤ 59) else false)), .inr (.inr (.inl (some 259)))] (km_H h x q q k v)
        refine kx_go 1 (pc' := (if kc_cnd .eq (kp_b (bif decide (q < n) then decide (59 ≤ t q ∧ t q ≤ 59) else false)).toInt 0 then 284 else 280)) (L' := [(0, .inr (.inr (.inl (some 259))))]) (S' := [.inr (.inr (.inl (some 259)))]) (h' := (km_H h x q q k v)) (by with_unfolding_all rfl) ?_
        rw [show decide (q < n) = true from decide_eq_true (by omega)]
        by_cases e4 : t q = 59
        · rw [if_neg (fun w => by have := kx_b0.mp w; rw [show decide (59 ≤ t q ∧ t q ≤ 59) = true from decide_eq_true (by omega)] at this; cases this)]
          rw [if_pos e4] at hQ
          refine kx_go 2 (pc' := 285) (L' := [(0, .inr (.inr (.inl (some 259))))]) (S' := [.inl (Int32.ofNat 3), .inr (.inr (.inl (some 259)))]) (h' := (km_H h x q q k v)) (by with_unfolding_all rfl) ?_
          refine kx_go 1 (pc' := 288) (L' := [(0, .inr (.inr (.inl (some 259))))]) (S' := []) (h' := kc_upd (km_H h x q q k v) 259 9 (.inl (Int32.ofNat 3))) (by with_unfolding_all rfl) ?_
          rw [km_9]
          refine kx_go 5 (pc' := 295) (L' := [(0, .inr (.inr (.inl (some 259))))]) (S' := [.inl ((Int32.ofNat q) + (Int32.ofNat 1)), .inr (.inr (.inl (some 259)))]) (h' := (km_H h x q q 3 v)) (by with_unfolding_all rfl) ?_
          refine kx_go 1 (pc' := 298) (L' := [(0, .inr (.inr (.inl (some 259))))]) (S' := []) (h' := kc_upd (km_H h x q q 3 v) 259 7 (.inl (Int32.ofNat q + Int32.ofNat 1))) (by with_unfolding_all rfl) ?_
          rw [kx_inc1, km_7]
          exact kc_ret_ok rfl (rv := none) rfl hQ
        · rw [if_pos (kx_b0.mpr (by rw [show decide (59 ≤ t q ∧ t q ≤ 59) = false from decide_eq_false (by omega)]; rfl))]
          rw [if_neg e4] at hQ
          refine kx_go 1 (pc' := 285) (L' := [(0, .inr (.inr (.inl (some 259))))]) (S' := [.inl (Int32.ofNat 1), .inr (.inr (.inl (some 259)))]) (h' := (km_H h x q q k v)) (by with_unfolding_all rfl) ?_
          refine kx_go 1 (pc' := 288) (L' := [(0, .inr (.inr (.inl (some 259))))]) (S' := []) (h' := kc_upd (km_H h x q q k v) 259 9 (.inl (Int32.ofNat 1))) (by with_unfolding_all rfl) ?_
          rw [km_9]
          refine kx_go 5 (pc' := 295) (L' := [(0, .inr (.inr (.inl (some 259))))]) (S' := [.inl ((Int32.ofNat q) + (Int32.ofNat 1)), .inr (.inr (.inl (some 259)))]) (h' := (km_H h x q q 1 v)) (by with_unfolding_all rfl) ?_
          refine kx_go 1 (pc' := 298) (L' := [(0, .inr (.inr (.inl (some 259))))]) (S' := []) (h' := kc_upd (km_H h x q q 1 v) 259 7 (.inl (Int32.ofNat q + Int32.ofNat 1))) (by with_unfolding_all rfl) ?_
          rw [kx_inc1, km_7]
          exact kc_ret_ok rfl (rv := none) rfl hQ
/-- scans() -/
theorem km_scan {g : kc_G} {h : kc_H} {x n : Nat} {t : Nat → Nat} (hg : kc_ok g) (hx : x < 2) (hn : n ≤ 240) (hnt : h 260 (160 + x) = .inl (Int32.ofNat n)) (ht : ∀ j, j < 240 → h 260 (170 + 240 * x + j) = .inl (Int32.ofNat (t j))) (hb : ∀ j, j < 240 → t j < 256) {a s k v : Nat} (ha : a ≤ n) : kc_Con g 4 65 [.inr (.inr (.inl (some 259)))] (km_H h x a s k v) (fun rv h' => rv = none ∧ h' = km_H h x (kp_nx t n (kp_start t n a)) (kp_start t n a) (kp_tk t n (kp_start t n a)) (kp_vv t n (kp_start t n a) v)) := by
  refine kc_Con_new hg (M := wk_m65) rfl rfl rfl (show 1 ≤ 3 by decide) ?_
  show kc_Ev g 3 wk_m65 _ 0 [(0, .inr (.inr (.inl (some 259))))] [] (km_H h x a s k v)
  refine km_s0 hg hx hn hnt ht hb (Nat.le_refl _) (n - a) a rfl ha ?_
  exact km_st1 hg hx hn hnt ht hb (Nat.le_refl _) (kp_start_le ha).2 ⟨rfl, rfl⟩
