/-! ===== by hand: the reference reads: places, words ===== -/
theorem kx_mul (a b : Nat) : Int32.ofNat a * Int32.ofNat b = Int32.ofNat (a * b) := (Int32.ofNat_mul a b).symm
theorem kx_tj {a : Nat} (h : a < 9223372036854775808) : (Int64.ofNat a).toInt = (a : Int) := Int64.toInt_ofNat_of_lt (by omega)
theorem kx_i2l {a : Nat} (h : a < 2147483648) : (Int32.ofNat a).toInt64 = Int64.ofNat a := by
  apply Int64.toInt_inj.mp
  rw [Int32.toInt_toInt64, kx_ti h, kx_tj (by omega)]
theorem kx_jlt {a b : Nat} (ha : a < 9223372036854775808) (hb : b < 9223372036854775808) : (kc_cnd .lt (kc_lcmp (Int64.ofNat a) (Int64.ofNat b)).toInt 0 = true) ↔ a < b := by
  unfold kc_lcmp
  rw [kx_tj ha, kx_tj hb]
  by_cases h1 : (b : Int) < a
  · rw [if_pos h1]
    constructor
    · intro q; exact absurd q (by decide)
    · intro q; omega
  · rw [if_neg h1]
    by_cases h2 : (a : Int) < b
    · rw [if_pos h2]
      exact ⟨fun _ => by omega, fun _ => by decide⟩
    · rw [if_neg h2]
      constructor
      · intro q; exact absurd q (by decide)
      · intro q; omega
theorem kx_jgt {a b : Nat} (ha : a < 9223372036854775808) (hb : b < 9223372036854775808) : (kc_cnd .gt (kc_lcmp (Int64.ofNat a) (Int64.ofNat b)).toInt 0 = true) ↔ b < a := by
  unfold kc_lcmp
  rw [kx_tj ha, kx_tj hb]
  by_cases h1 : (b : Int) < a
  · rw [if_pos h1]
    exact ⟨fun _ => by omega, fun _ => by decide⟩
  · rw [if_neg h1]
    by_cases h2 : (a : Int) < b
    · rw [if_pos h2]
      constructor
      · intro q; exact absurd q (by decide)
      · intro q; omega
    · rw [if_neg h2]
      constructor
      · intro q; exact absurd q (by decide)
      · intro q; omega
theorem kx_jne {a b : Nat} (ha : a < 9223372036854775808) (hb : b < 9223372036854775808) : (kc_cnd .ne (kc_lcmp (Int64.ofNat a) (Int64.ofNat b)).toInt 0 = true) ↔ ¬ a = b := by
  unfold kc_lcmp
  rw [kx_tj ha, kx_tj hb]
  by_cases h1 : (b : Int) < a
  · rw [if_pos h1]
    exact ⟨fun _ => by omega, fun _ => by decide⟩
  · rw [if_neg h1]
    by_cases h2 : (a : Int) < b
    · rw [if_pos h2]
      exact ⟨fun _ => by omega, fun _ => by decide⟩
    · rw [if_neg h2]
      constructor
      · intro q; exact absurd q (by decide)
      · intro q; omega
/-- the model's fields: book, text, at, start, token, value -/
def km_H (h : kc_H) (x a s k v : Nat) : kc_H := fun c b => if c = 259 then (if b = 0 then .inr (.inr (.inl (some 260))) else if b = 6 then .inl (Int32.ofNat x) else if b = 7 then .inl (Int32.ofNat a) else if b = 8 then .inl (Int32.ofNat s) else if b = 9 then .inl (Int32.ofNat k) else if b = 10 then .inl (Int32.ofNat v) else h 259 b) else h c b
theorem km_o {h : kc_H} {x a s k v c b : Nat} (hc : ¬ c = 259) : km_H h x a s k v c b = h c b := if_neg hc
theorem km_7 {h : kc_H} {x a s k v a' : Nat} : kc_upd (km_H h x a s k v) 259 7 (.inl (Int32.ofNat a')) = km_H h x a' s k v := by
  funext c b
  unfold kc_upd km_H
  by_cases hc : c = 259
  · by_cases hb : b = 7
    · simp [hc, hb]
    · simp [hc, hb]
  · simp [hc]
theorem km_8 {h : kc_H} {x a s k v s' : Nat} : kc_upd (km_H h x a s k v) 259 8 (.inl (Int32.ofNat s')) = km_H h x a s' k v := by
  funext c b
  unfold kc_upd km_H
  by_cases hc : c = 259
  · by_cases hb : b = 8
    · simp [hc, hb]
    · simp [hc, hb]
  · simp [hc]
theorem km_9 {h : kc_H} {x a s k v k' : Nat} : kc_upd (km_H h x a s k v) 259 9 (.inl (Int32.ofNat k')) = km_H h x a s k' v := by
  funext c b
  unfold kc_upd km_H
  by_cases hc : c = 259
  · by_cases hb : b = 9
    · simp [hc, hb]
    · simp [hc, hb]
  · simp [hc]
theorem km_10 {h : kc_H} {x a s k v v' : Nat} : kc_upd (km_H h x a s k v) 259 10 (.inl (Int32.ofNat v')) = km_H h x a s k v' := by
  funext c b
  unfold kc_upd km_H
  by_cases hc : c = 259
  · by_cases hb : b = 10
    · simp [hc, hb]
    · simp [hc, hb]
  · simp [hc]
set_option maxRecDepth 20000 in
theorem km_lies {g : kc_G} {h : kc_H} (hg : kc_ok g) {a b c : Nat} (ha : a < 2147483648) (hb : b < 2147483648) (hc : c < 2147483648) : kc_Con g 1 22 [.inr (.inl (Int64.ofNat a)), .inr (.inl (Int64.ofNat b)), .inr (.inl (Int64.ofNat c))] h (fun rv h' => rv = some (.inl (kp_b (decide (b ≤ a ∧ a ≤ c)))) ∧ h' = h) := by
  refine kc_Con_new hg (M := wk_m22) rfl rfl rfl (show 6 ≤ 6 by decide) ?_
  refine kx_go 4 (pc' := (if kc_cnd .lt (kc_lcmp (Int64.ofNat a) (Int64.ofNat b)).toInt 0 then 17 else 6)) (L' := [(0, .inr (.inl (Int64.ofNat a))), (2, .inr (.inl (Int64.ofNat b))), (4, .inr (.inl (Int64.ofNat c)))]) (S' := []) (h' := h) (by with_unfolding_all rfl) ?_
  by_cases e1 : a < b
  · rw [if_pos ((kx_jlt (by omega) (by omega)).mpr e1)]
    refine kx_go 1 (pc' := 18) (L' := [(0, .inr (.inl (Int64.ofNat a))), (2, .inr (.inl (Int64.ofNat b))), (4, .inr (.inl (Int64.ofNat c)))]) (S' := [.inl (Int32.ofNat 0)]) (h' := h) (by with_unfolding_all rfl) ?_
    exact kc_ret_ok rfl (rv := some (.inl (Int32.ofNat 0))) rfl ⟨by rw [show decide (b ≤ a ∧ a ≤ c) = false from decide_eq_false (by omega)]; rfl, rfl⟩
  · rw [if_neg (fun q => e1 ((kx_jlt (by omega) (by omega)).mp q))]
    refine kx_go 4 (pc' := (if kc_cnd .gt (kc_lcmp (Int64.ofNat a) (Int64.ofNat c)).toInt 0 then 17 else 13)) (L' := [(0, .inr (.inl (Int64.ofNat a))), (2, .inr (.inl (Int64.ofNat b))), (4, .inr (.inl (Int64.ofNat c)))]) (S' := []) (h' := h) (by with_unfolding_all rfl) ?_
    by_cases e2 : c < a
    · rw [if_pos ((kx_jgt (by omega) (by omega)).mpr e2)]
      refine kx_go 1 (pc' := 18) (L' := [(0, .inr (.inl (Int64.ofNat a))), (2, .inr (.inl (Int64.ofNat b))), (4, .inr (.inl (Int64.ofNat c)))]) (S' := [.inl (Int32.ofNat 0)]) (h' := h) (by with_unfolding_all rfl) ?_
      exact kc_ret_ok rfl (rv := some (.inl (Int32.ofNat 0))) rfl ⟨by rw [show decide (b ≤ a ∧ a ≤ c) = false from decide_eq_false (by omega)]; rfl, rfl⟩
    · rw [if_neg (fun q => e2 ((kx_jgt (by omega) (by omega)).mp q))]
      refine kx_go 2 (pc' := 18) (L' := [(0, .inr (.inl (Int64.ofNat a))), (2, .inr (.inl (Int64.ofNat b))), (4, .inr (.inl (Int64.ofNat c)))]) (S' := [.inl (Int32.ofNat 1)]) (h' := h) (by with_unfolding_all rfl) ?_
      exact kc_ret_ok rfl (rv := some (.inl (Int32.ofNat 1))) rfl ⟨by rw [show decide (b ≤ a ∧ a ≤ c) = true from decide_eq_true (by omega)]; rfl, rfl⟩
set_option maxRecDepth 20000 in
theorem km_at {g : kc_G} {d : Nat} {h : kc_H} {x n : Nat} {t : Nat → Nat} (hg : kc_ok g) (hx : x < 2) (hn : n ≤ 240) (hnt : h 260 (160 + x) = .inl (Int32.ofNat n)) (ht : ∀ j, j < 240 → h 260 (170 + 240 * x + j) = .inl (Int32.ofNat (t j))) (hb : ∀ j, j < 240 → t j < 256) {a s k v lo hi : Nat} (ha : a ≤ n) (hlo : lo < 2147483648) (hhi : hi < 2147483648) : kc_Con g 2 66 [.inr (.inr (.inl (some 259))), .inl (Int32.ofNat lo), .inl (Int32.ofNat hi)] (km_H h x a s k v) (fun rv h' => rv = some (.inl (kp_b (bif decide (a < n) then decide (lo ≤ t a ∧ t a ≤ hi) else false))) ∧ h' = (km_H h x a s k v)) := by
  refine kc_Con_new hg (M := wk_m66) rfl rfl rfl (show 3 ≤ 3 by decide) ?_
  refine kx_go 8 (pc' := 16) (L' := [(0, .inr (.inr (.inl (some 259)))), (1, .inl (Int32.ofNat lo)), (2, .inl (Int32.ofNat hi))]) (S' := [.inl ((Int32.ofNat 160) + (Int32.ofNat x)), .inr (.inr (.inl (some 260))), .inl (Int32.ofNat a)]) (h' := (km_H h x a s k v)) (by with_unfolding_all rfl) ?_
  rw [kx_add]
  refine kx_iald rfl (c := 260) (j := 160 + x) (m := 650) rfl (by decide) (by decide) (by omega) ((km_o (by decide)).trans hnt) ?_
  refine kx_go 1 (pc' := (if kc_cnd .ge (Int32.ofNat a).toInt (Int32.ofNat n).toInt then 57 else 20)) (L' := [(0, .inr (.inr (.inl (some 259)))), (1, .inl (Int32.ofNat lo)), (2, .inl (Int32.ofNat hi))]) (S' := []) (h' := (km_H h x a s k v)) (by with_unfolding_all rfl) ?_
  by_cases e1 : n ≤ a
  · rw [if_pos ((kx_ge (by omega) (by omega)).mpr e1)]
    refine kx_go 1 (pc' := 58) (L' := [(0, .inr (.inr (.inl (some 259)))), (1, .inl (Int32.ofNat lo)), (2, .inl (Int32.ofNat hi))]) (S' := [.inl (Int32.ofNat 0)]) (h' := (km_H h x a s k v)) (by with_unfolding_all rfl) ?_
    exact kc_ret_ok rfl (rv := some (.inl (Int32.ofNat 0))) rfl ⟨by rw [show decide (a < n) = false from decide_eq_false (by omega)]; rfl, rfl⟩
  · rw [if_neg (fun q => e1 ((kx_ge (by omega) (by omega)).mp q))]
    have hbp := hb a (by omega)
    refine kx_go 11 (pc' := 41) (L' := [(0, .inr (.inr (.inl (some 259)))), (1, .inl (Int32.ofNat lo)), (2, .inl (Int32.ofNat hi))]) (S' := [.inl (((Int32.ofNat 170) + ((Int32.ofNat 240) * (Int32.ofNat x))) + (Int32.ofNat a)), .inr (.inr (.inl (some 260)))]) (h' := (km_H h x a s k v)) (by with_unfolding_all rfl) ?_
    rw [kx_mul, kx_add, kx_add]
    refine kx_iald rfl (c := 260) (j := 170 + 240 * x + a) (m := 650) rfl (by decide) (by decide) (by omega) ((km_o (by decide)).trans (ht a (by omega))) ?_
    refine kx_go 5 (pc' := 47) (L' := [(0, .inr (.inr (.inl (some 259)))), (1, .inl (Int32.ofNat lo)), (2, .inl (Int32.ofNat hi))]) (S' := [.inr (.inl ((Int32.ofNat hi).toInt64)), .inr (.inl ((Int32.ofNat lo).toInt64)), .inr (.inl ((Int32.ofNat (t a)).toInt64))]) (h' := (km_H h x a s k v)) (by with_unfolding_all rfl) ?_
    rw [kx_i2l (by omega), kx_i2l (by omega), kx_i2l (by omega)]
    refine kc_call_rule (M2 := wk_m22) (av := [.inr (.inl (Int64.ofNat (t a))), .inr (.inl (Int64.ofNat lo)), .inr (.inl (Int64.ofNat hi))]) (r := []) rfl rfl (kc_Con_le (km_lies hg (by omega) hlo hhi) (by omega)) (fun rv h' hq => ?_)
    obtain ⟨rfl, rfl⟩ := hq
    show kc_Ev g 1 wk_m66 _ 50 [(0, .inr (.inr (.inl (some 259)))), (1, .inl (Int32.ofNat lo)), (2, .inl (Int32.ofNat hi))] [.inl (kp_b (decide (lo ≤ t a ∧ t a ≤ hi)))] (km_H h x a s k v)
    refine kx_go 1 (pc' := (if kc_cnd .eq (kp_b (decide (lo ≤ t a ∧ t a ≤ hi))).toInt 0 then 57 else 53)) (L' := [(0, .inr (.inr (.inl (some 259)))), (1, .inl (Int32.ofNat lo)), (2, .inl (Int32.ofNat hi))]) (S' := []) (h' := (km_H h x a s k v)) (by with_unfolding_all rfl) ?_
    cases e2 : decide (lo ≤ t a ∧ t a ≤ hi) with
    | true =>
      rw [if_neg (fun q => by have := kx_b0.mp q; cases this)]
      refine kx_go 2 (pc' := 58) (L' := [(0, .inr (.inr (.inl (some 259)))), (1, .inl (Int32.ofNat lo)), (2, .inl (Int32.ofNat hi))]) (S' := [.inl (Int32.ofNat 1)]) (h' := (km_H h x a s k v)) (by with_unfolding_all rfl) ?_
      exact kc_ret_ok rfl (rv := some (.inl (Int32.ofNat 1))) rfl ⟨by rw [show decide (a < n) = true from decide_eq_true (by omega)]; rfl, rfl⟩
    | false =>
      rw [if_pos (kx_b0.mpr rfl)]
      refine kx_go 1 (pc' := 58) (L' := [(0, .inr (.inr (.inl (some 259)))), (1, .inl (Int32.ofNat lo)), (2, .inl (Int32.ofNat hi))]) (S' := [.inl (Int32.ofNat 0)]) (h' := (km_H h x a s k v)) (by with_unfolding_all rfl) ?_
      exact kc_ret_ok rfl (rv := some (.inl (Int32.ofNat 0))) rfl ⟨by rw [show decide (a < n) = true from decide_eq_true (by omega)]; rfl, rfl⟩
set_option maxRecDepth 20000 in
theorem km_by {g : kc_G} {d : Nat} {h : kc_H} {x n : Nat} {t : Nat → Nat} (hg : kc_ok g) (hx : x < 2) (hn : n ≤ 240) (hnt : h 260 (160 + x) = .inl (Int32.ofNat n)) (ht : ∀ j, j < 240 → h 260 (170 + 240 * x + j) = .inl (Int32.ofNat (t j))) (hb : ∀ j, j < 240 → t j < 256) {a s k v j : Nat} (hj : j < 240) : kc_Con g (d + 1) 232 [.inr (.inr (.inl (some 259))), .inl (Int32.ofNat j)] (km_H h x a s k v) (fun rv h' => rv = some (.inl (Int32.ofNat (t j))) ∧ h' = (km_H h x a s k v)) := by
  refine kc_Con_new hg (M := wk_m232) rfl rfl rfl (show 2 ≤ 2 by decide) ?_
  refine kx_go 10 (pc' := 18) (L' := [(0, .inr (.inr (.inl (some 259)))), (1, .inl (Int32.ofNat j))]) (S' := [.inl (((Int32.ofNat 170) + ((Int32.ofNat 240) * (Int32.ofNat x))) + (Int32.ofNat j)), .inr (.inr (.inl (some 260)))]) (h' := (km_H h x a s k v)) (by with_unfolding_all rfl) ?_
  rw [kx_mul, kx_add, kx_add]
  refine kx_iald rfl (c := 260) (j := 170 + 240 * x + j) (m := 650) rfl (by decide) (by decide) (by omega) ((km_o (by decide)).trans (ht j hj)) ?_
  exact kc_ret_ok rfl (rv := some (.inl (Int32.ofNat (t j)))) rfl ⟨rfl, rfl⟩
def kp_wd (w : Nat) : Nat := if w = 447877 then 10 else if w = 408612 then 11 else if w = 146930 then 12 else if w = 23609 then 13 else if w = 394661 then 14 else if w = 212548 then 15 else if w = 1643 then 16 else if w = 4785454 then 17 else if w = 659011763 then 18 else 1
def kp_wa (w : Nat) : Nat := if w = 263623 then 20 else if w = 656741 then 21 else if w = 514226 then 22 else if w = 646192 then 23 else if w = 20594117 then 24 else if w = 150000 then 25 else if w = 239 then 26 else 1
def kp_wf (w : Nat) : Nat := if w = 263748 then 5 else if w = 638164 then 4 else 1
def kp_wo (w : Nat) : Nat := if kp_wd w = 1 then (if kp_wa w = 1 then kp_wf w else kp_wa w) else kp_wd w
set_option maxRecDepth 20000 in
theorem km_w1 {g : kc_G} {d : Nat} {Q : Option kc_V → kc_H → Prop} {h : kc_H} {w : Nat} (hw : w < 9223372036854775808) {ac dy : Nat} (hQ : Q (some (.inl (Int32.ofNat (kp_wf w)))) h) : kc_Ev g d wk_m233 Q 230 [(3, .inl (Int32.ofNat ac)), (2, .inl (Int32.ofNat dy)), (0, .inr (.inl (Int64.ofNat w)))] [] h := by
  refine kx_go 4 (pc' := (if kc_cnd .ne (kc_lcmp (Int64.ofNat w) (Int64.ofNat 263748)).toInt 0 then 242 else 238)) (L' := [(3, .inl (Int32.ofNat ac)), (2, .inl (Int32.ofNat dy)), (0, .inr (.inl (Int64.ofNat w)))]) (S' := []) (h' := h) (by with_unfolding_all rfl) ?_
  by_cases e0 : w = 263748
  · rw [if_neg (fun q => (kx_jne (by omega) (by omega)).mp q e0)]
    refine kx_go 2 (pc' := 255) (L' := [(3, .inl (Int32.ofNat ac)), (2, .inl (Int32.ofNat dy)), (0, .inr (.inl (Int64.ofNat w)))]) (S' := [.inl (Int32.ofNat 5)]) (h' := h) (by with_unfolding_all rfl) ?_
    rw [show kp_wf w = 5 from by unfold kp_wf; rw [if_pos e0]] at hQ
    exact kc_ret_ok rfl (rv := some (.inl (Int32.ofNat 5))) rfl hQ
  · rw [if_pos ((kx_jne (by omega) (by omega)).mpr e0)]
    refine kx_go 4 (pc' := (if kc_cnd .ne (kc_lcmp (Int64.ofNat w) (Int64.ofNat 638164)).toInt 0 then 254 else 250)) (L' := [(3, .inl (Int32.ofNat ac)), (2, .inl (Int32.ofNat dy)), (0, .inr (.inl (Int64.ofNat w)))]) (S' := []) (h' := h) (by with_unfolding_all rfl) ?_
    by_cases e1 : w = 638164
    · rw [if_neg (fun q => (kx_jne (by omega) (by omega)).mp q e1)]
      refine kx_go 2 (pc' := 255) (L' := [(3, .inl (Int32.ofNat ac)), (2, .inl (Int32.ofNat dy)), (0, .inr (.inl (Int64.ofNat w)))]) (S' := [.inl (Int32.ofNat 4)]) (h' := h) (by with_unfolding_all rfl) ?_
      rw [show kp_wf w = 4 from by unfold kp_wf; rw [if_neg e0, if_pos e1]] at hQ
      exact kc_ret_ok rfl (rv := some (.inl (Int32.ofNat 4))) rfl hQ
    · rw [if_pos ((kx_jne (by omega) (by omega)).mpr e1)]
      refine kx_go 1 (pc' := 255) (L' := [(3, .inl (Int32.ofNat ac)), (2, .inl (Int32.ofNat dy)), (0, .inr (.inl (Int64.ofNat w)))]) (S' := [.inl (Int32.ofNat 1)]) (h' := h) (by with_unfolding_all rfl) ?_
      rw [show kp_wf w = 1 from by unfold kp_wf; rw [if_neg e0, if_neg e1]] at hQ
      exact kc_ret_ok rfl (rv := some (.inl (Int32.ofNat 1))) rfl hQ
set_option maxRecDepth 20000 in
theorem km_w2 {g : kc_G} {d : Nat} {Q : Option kc_V → kc_H → Prop} {h : kc_H} {w : Nat} (hw : w < 9223372036854775808) {ac dy : Nat} (ha : ac < 100) (hd : dy < 100) (hQ : Q (some (.inl (Int32.ofNat (if dy = 1 then (if ac = 1 then kp_wf w else ac) else dy)))) h) : kc_Ev g d wk_m233 Q 211 [(2, .inl (Int32.ofNat dy)), (0, .inr (.inl (Int64.ofNat w)))] [.inl (Int32.ofNat ac)] h := by
  refine kx_go 4 (pc' := (if kc_cnd .eq (Int32.ofNat dy).toInt (Int32.ofNat 1).toInt then 221 else 217)) (L' := [(3, .inl (Int32.ofNat ac)), (2, .inl (Int32.ofNat dy)), (0, .inr (.inl (Int64.ofNat w)))]) (S' := []) (h' := h) (by with_unfolding_all rfl) ?_
  by_cases e1 : dy = 1
  · rw [if_pos ((kx_eq (by omega) (by omega)).mpr e1)]
    rw [if_pos e1] at hQ
    refine kx_go 3 (pc' := (if kc_cnd .eq (Int32.ofNat ac).toInt (Int32.ofNat 1).toInt then 230 else 226)) (L' := [(3, .inl (Int32.ofNat ac)), (2, .inl (Int32.ofNat dy)), (0, .inr (.inl (Int64.ofNat w)))]) (S' := []) (h' := h) (by with_unfolding_all rfl) ?_
    by_cases e2 : ac = 1
    · rw [if_pos ((kx_eq (by omega) (by omega)).mpr e2)]
      rw [if_pos e2] at hQ
      exact km_w1 hw hQ
    · rw [if_neg (fun q => e2 ((kx_eq (by omega) (by omega)).mp q))]
      rw [if_neg e2] at hQ
      refine kx_go 2 (pc' := 255) (L' := [(3, .inl (Int32.ofNat ac)), (2, .inl (Int32.ofNat dy)), (0, .inr (.inl (Int64.ofNat w)))]) (S' := [.inl (Int32.ofNat ac)]) (h' := h) (by with_unfolding_all rfl) ?_
      exact kc_ret_ok rfl (rv := some (.inl (Int32.ofNat ac))) rfl hQ
  · rw [if_neg (fun q => e1 ((kx_eq (by omega) (by omega)).mp q))]
    rw [if_neg e1] at hQ
    refine kx_go 2 (pc' := 255) (L' := [(3, .inl (Int32.ofNat ac)), (2, .inl (Int32.ofNat dy)), (0, .inr (.inl (Int64.ofNat w)))]) (S' := [.inl (Int32.ofNat dy)]) (h' := h) (by with_unfolding_all rfl) ?_
    exact kc_ret_ok rfl (rv := some (.inl (Int32.ofNat dy))) rfl hQ
set_option maxRecDepth 20000 in
theorem km_w3 {g : kc_G} {d : Nat} {Q : Option kc_V → kc_H → Prop} {h : kc_H} {w : Nat} (hw : w < 9223372036854775808) {dy : Nat} (hd : dy < 100) (hQ : Q (some (.inl (Int32.ofNat (if dy = 1 then (if kp_wa w = 1 then kp_wf w else kp_wa w) else dy)))) h) : kc_Ev g d wk_m233 Q 119 [(2, .inl (Int32.ofNat dy)), (0, .inr (.inl (Int64.ofNat w)))] [] h := by
  refine kx_go 4 (pc' := (if kc_cnd .ne (kc_lcmp (Int64.ofNat w) (Int64.ofNat 263623)).toInt 0 then 132 else 127)) (L' := [(2, .inl (Int32.ofNat dy)), (0, .inr (.inl (Int64.ofNat w)))]) (S' := []) (h' := h) (by with_unfolding_all rfl) ?_
  by_cases e0 : w = 263623
  · rw [if_neg (fun q => (kx_jne (by omega) (by omega)).mp q e0)]
    refine kx_go 2 (pc' := 211) (L' := [(2, .inl (Int32.ofNat dy)), (0, .inr (.inl (Int64.ofNat w)))]) (S' := [.inl (Int32.ofNat 20)]) (h' := h) (by with_unfolding_all rfl) ?_
    rw [show kp_wa w = 20 from by unfold kp_wa; rw [if_pos e0]] at hQ
    exact km_w2 hw (by decide) hd hQ
  · rw [if_pos ((kx_jne (by omega) (by omega)).mpr e0)]
    refine kx_go 4 (pc' := (if kc_cnd .ne (kc_lcmp (Int64.ofNat w) (Int64.ofNat 656741)).toInt 0 then 145 else 140)) (L' := [(2, .inl (Int32.ofNat dy)), (0, .inr (.inl (Int64.ofNat w)))]) (S' := []) (h' := h) (by with_unfolding_all rfl) ?_
    by_cases e1 : w = 656741
    · rw [if_neg (fun q => (kx_jne (by omega) (by omega)).mp q e1)]
      refine kx_go 2 (pc' := 211) (L' := [(2, .inl (Int32.ofNat dy)), (0, .inr (.inl (Int64.ofNat w)))]) (S' := [.inl (Int32.ofNat 21)]) (h' := h) (by with_unfolding_all rfl) ?_
      rw [show kp_wa w = 21 from by unfold kp_wa; rw [if_neg e0, if_pos e1]] at hQ
      exact km_w2 hw (by decide) hd hQ
    · rw [if_pos ((kx_jne (by omega) (by omega)).mpr e1)]
      refine kx_go 4 (pc' := (if kc_cnd .ne (kc_lcmp (Int64.ofNat w) (Int64.ofNat 514226)).toInt 0 then 158 else 153)) (L' := [(2, .inl (Int32.ofNat dy)), (0, .inr (.inl (Int64.ofNat w)))]) (S' := []) (h' := h) (by with_unfolding_all rfl) ?_
      by_cases e2 : w = 514226
      · rw [if_neg (fun q => (kx_jne (by omega) (by omega)).mp q e2)]
        refine kx_go 2 (pc' := 211) (L' := [(2, .inl (Int32.ofNat dy)), (0, .inr (.inl (Int64.ofNat w)))]) (S' := [.inl (Int32.ofNat 22)]) (h' := h) (by with_unfolding_all rfl) ?_
        rw [show kp_wa w = 22 from by unfold kp_wa; rw [if_neg e0, if_neg e1, if_pos e2]] at hQ
        exact km_w2 hw (by decide) hd hQ
      · rw [if_pos ((kx_jne (by omega) (by omega)).mpr e2)]
        refine kx_go 4 (pc' := (if kc_cnd .ne (kc_lcmp (Int64.ofNat w) (Int64.ofNat 646192)).toInt 0 then 171 else 166)) (L' := [(2, .inl (Int32.ofNat dy)), (0, .inr (.inl (Int64.ofNat w)))]) (S' := []) (h' := h) (by with_unfolding_all rfl) ?_
        by_cases e3 : w = 646192
        · rw [if_neg (fun q => (kx_jne (by omega) (by omega)).mp q e3)]
          refine kx_go 2 (pc' := 211) (L' := [(2, .inl (Int32.ofNat dy)), (0, .inr (.inl (Int64.ofNat w)))]) (S' := [.inl (Int32.ofNat 23)]) (h' := h) (by with_unfolding_all rfl) ?_
          rw [show kp_wa w = 23 from by unfold kp_wa; rw [if_neg e0, if_neg e1, if_neg e2, if_pos e3]] at hQ
          exact km_w2 hw (by decide) hd hQ
        · rw [if_pos ((kx_jne (by omega) (by omega)).mpr e3)]
          refine kx_go 4 (pc' := (if kc_cnd .ne (kc_lcmp (Int64.ofNat w) (Int64.ofNat 20594117)).toInt 0 then 184 else 179)) (L' := [(2, .inl (Int32.ofNat dy)), (0, .inr (.inl (Int64.ofNat w)))]) (S' := []) (h' := h) (by with_unfolding_all rfl) ?_
          by_cases e4 : w = 20594117
          · rw [if_neg (fun q => (kx_jne (by omega) (by omega)).mp q e4)]
            refine kx_go 2 (pc' := 211) (L' := [(2, .inl (Int32.ofNat dy)), (0, .inr (.inl (Int64.ofNat w)))]) (S' := [.inl (Int32.ofNat 24)]) (h' := h) (by with_unfolding_all rfl) ?_
            rw [show kp_wa w = 24 from by unfold kp_wa; rw [if_neg e0, if_neg e1, if_neg e2, if_neg e3, if_pos e4]] at hQ
            exact km_w2 hw (by decide) hd hQ
          · rw [if_pos ((kx_jne (by omega) (by omega)).mpr e4)]
            refine kx_go 4 (pc' := (if kc_cnd .ne (kc_lcmp (Int64.ofNat w) (Int64.ofNat 150000)).toInt 0 then 197 else 192)) (L' := [(2, .inl (Int32.ofNat dy)), (0, .inr (.inl (Int64.ofNat w)))]) (S' := []) (h' := h) (by with_unfolding_all rfl) ?_
            by_cases e5 : w = 150000
            · rw [if_neg (fun q => (kx_jne (by omega) (by omega)).mp q e5)]
              refine kx_go 2 (pc' := 211) (L' := [(2, .inl (Int32.ofNat dy)), (0, .inr (.inl (Int64.ofNat w)))]) (S' := [.inl (Int32.ofNat 25)]) (h' := h) (by with_unfolding_all rfl) ?_
              rw [show kp_wa w = 25 from by unfold kp_wa; rw [if_neg e0, if_neg e1, if_neg e2, if_neg e3, if_neg e4, if_pos e5]] at hQ
              exact km_w2 hw (by decide) hd hQ
            · rw [if_pos ((kx_jne (by omega) (by omega)).mpr e5)]
              refine kx_go 4 (pc' := (if kc_cnd .ne (kc_lcmp (Int64.ofNat w) (Int64.ofNat 239)).toInt 0 then 210 else 205)) (L' := [(2, .inl (Int32.ofNat dy)), (0, .inr (.inl (Int64.ofNat w)))]) (S' := []) (h' := h) (by with_unfolding_all rfl) ?_
              by_cases e6 : w = 239
              · rw [if_neg (fun q => (kx_jne (by omega) (by omega)).mp q e6)]
                refine kx_go 2 (pc' := 211) (L' := [(2, .inl (Int32.ofNat dy)), (0, .inr (.inl (Int64.ofNat w)))]) (S' := [.inl (Int32.ofNat 26)]) (h' := h) (by with_unfolding_all rfl) ?_
                rw [show kp_wa w = 26 from by unfold kp_wa; rw [if_neg e0, if_neg e1, if_neg e2, if_neg e3, if_neg e4, if_neg e5, if_pos e6]] at hQ
                exact km_w2 hw (by decide) hd hQ
              · rw [if_pos ((kx_jne (by omega) (by omega)).mpr e6)]
                refine kx_go 1 (pc' := 211) (L' := [(2, .inl (Int32.ofNat dy)), (0, .inr (.inl (Int64.ofNat w)))]) (S' := [.inl (Int32.ofNat 1)]) (h' := h) (by with_unfolding_all rfl) ?_
                rw [show kp_wa w = 1 from by unfold kp_wa; rw [if_neg e0, if_neg e1, if_neg e2, if_neg e3, if_neg e4, if_neg e5, if_neg e6]] at hQ
                exact km_w2 hw (by decide) hd hQ
set_option maxRecDepth 20000 in
theorem km_wo {g : kc_G} {d : Nat} {h : kc_H} {w : Nat} (hg : kc_ok g) (hw : w < 9223372036854775808) : kc_Con g (d + 1) 233 [.inr (.inl (Int64.ofNat w))] h (fun rv h' => rv = some (.inl (Int32.ofNat (kp_wo w))) ∧ h' = h) := by
  refine kc_Con_new hg (M := wk_m233) rfl rfl rfl (show 2 ≤ 4 by decide) ?_
  generalize hQ0 : (fun (rv : Option kc_V) (h' : kc_H) => rv = some (.inl (Int32.ofNat (kp_wo w))) ∧ h' = h) = Q
  have hQ : Q (some (.inl (Int32.ofNat (kp_wo w)))) h := by rw [← hQ0]; exact ⟨rfl, rfl⟩
  unfold kp_wo at hQ
  refine kx_go 4 (pc' := (if kc_cnd .ne (kc_lcmp (Int64.ofNat w) (Int64.ofNat 447877)).toInt 0 then 13 else 8)) (L' := [(0, .inr (.inl (Int64.ofNat w)))]) (S' := []) (h' := h) (by with_unfolding_all rfl) ?_
  by_cases e0 : w = 447877
  · rw [if_neg (fun q => (kx_jne (by omega) (by omega)).mp q e0)]
    refine kx_go 3 (pc' := 119) (L' := [(2, .inl (Int32.ofNat 10)), (0, .inr (.inl (Int64.ofNat w)))]) (S' := []) (h' := h) (by with_unfolding_all rfl) ?_
    rw [show kp_wd w = 10 from by unfold kp_wd; rw [if_pos e0]] at hQ
    exact km_w3 hw (by decide) hQ
  · rw [if_pos ((kx_jne (by omega) (by omega)).mpr e0)]
    refine kx_go 4 (pc' := (if kc_cnd .ne (kc_lcmp (Int64.ofNat w) (Int64.ofNat 408612)).toInt 0 then 26 else 21)) (L' := [(0, .inr (.inl (Int64.ofNat w)))]) (S' := []) (h' := h) (by with_unfolding_all rfl) ?_
    by_cases e1 : w = 408612
    · rw [if_neg (fun q => (kx_jne (by omega) (by omega)).mp q e1)]
      refine kx_go 3 (pc' := 119) (L' := [(2, .inl (Int32.ofNat 11)), (0, .inr (.inl (Int64.ofNat w)))]) (S' := []) (h' := h) (by with_unfolding_all rfl) ?_
      rw [show kp_wd w = 11 from by unfold kp_wd; rw [if_neg e0, if_pos e1]] at hQ
      exact km_w3 hw (by decide) hQ
    · rw [if_pos ((kx_jne (by omega) (by omega)).mpr e1)]
      refine kx_go 4 (pc' := (if kc_cnd .ne (kc_lcmp (Int64.ofNat w) (Int64.ofNat 146930)).toInt 0 then 39 else 34)) (L' := [(0, .inr (.inl (Int64.ofNat w)))]) (S' := []) (h' := h) (by with_unfolding_all rfl) ?_
      by_cases e2 : w = 146930
      · rw [if_neg (fun q => (kx_jne (by omega) (by omega)).mp q e2)]
        refine kx_go 3 (pc' := 119) (L' := [(2, .inl (Int32.ofNat 12)), (0, .inr (.inl (Int64.ofNat w)))]) (S' := []) (h' := h) (by with_unfolding_all rfl) ?_
        rw [show kp_wd w = 12 from by unfold kp_wd; rw [if_neg e0, if_neg e1, if_pos e2]] at hQ
        exact km_w3 hw (by decide) hQ
      · rw [if_pos ((kx_jne (by omega) (by omega)).mpr e2)]
        refine kx_go 4 (pc' := (if kc_cnd .ne (kc_lcmp (Int64.ofNat w) (Int64.ofNat 23609)).toInt 0 then 52 else 47)) (L' := [(0, .inr (.inl (Int64.ofNat w)))]) (S' := []) (h' := h) (by with_unfolding_all rfl) ?_
        by_cases e3 : w = 23609
        · rw [if_neg (fun q => (kx_jne (by omega) (by omega)).mp q e3)]
          refine kx_go 3 (pc' := 119) (L' := [(2, .inl (Int32.ofNat 13)), (0, .inr (.inl (Int64.ofNat w)))]) (S' := []) (h' := h) (by with_unfolding_all rfl) ?_
          rw [show kp_wd w = 13 from by unfold kp_wd; rw [if_neg e0, if_neg e1, if_neg e2, if_pos e3]] at hQ
          exact km_w3 hw (by decide) hQ
        · rw [if_pos ((kx_jne (by omega) (by omega)).mpr e3)]
          refine kx_go 4 (pc' := (if kc_cnd .ne (kc_lcmp (Int64.ofNat w) (Int64.ofNat 394661)).toInt 0 then 65 else 60)) (L' := [(0, .inr (.inl (Int64.ofNat w)))]) (S' := []) (h' := h) (by with_unfolding_all rfl) ?_
          by_cases e4 : w = 394661
          · rw [if_neg (fun q => (kx_jne (by omega) (by omega)).mp q e4)]
            refine kx_go 3 (pc' := 119) (L' := [(2, .inl (Int32.ofNat 14)), (0, .inr (.inl (Int64.ofNat w)))]) (S' := []) (h' := h) (by with_unfolding_all rfl) ?_
            rw [show kp_wd w = 14 from by unfold kp_wd; rw [if_neg e0, if_neg e1, if_neg e2, if_neg e3, if_pos e4]] at hQ
            exact km_w3 hw (by decide) hQ
          · rw [if_pos ((kx_jne (by omega) (by omega)).mpr e4)]
            refine kx_go 4 (pc' := (if kc_cnd .ne (kc_lcmp (Int64.ofNat w) (Int64.ofNat 212548)).toInt 0 then 78 else 73)) (L' := [(0, .inr (.inl (Int64.ofNat w)))]) (S' := []) (h' := h) (by with_unfolding_all rfl) ?_
            by_cases e5 : w = 212548
            · rw [if_neg (fun q => (kx_jne (by omega) (by omega)).mp q e5)]
              refine kx_go 3 (pc' := 119) (L' := [(2, .inl (Int32.ofNat 15)), (0, .inr (.inl (Int64.ofNat w)))]) (S' := []) (h' := h) (by with_unfolding_all rfl) ?_
              rw [show kp_wd w = 15 from by unfold kp_wd; rw [if_neg e0, if_neg e1, if_neg e2, if_neg e3, if_neg e4, if_pos e5]] at hQ
              exact km_w3 hw (by decide) hQ
            · rw [if_pos ((kx_jne (by omega) (by omega)).mpr e5)]
              refine kx_go 4 (pc' := (if kc_cnd .ne (kc_lcmp (Int64.ofNat w) (Int64.ofNat 1643)).toInt 0 then 91 else 86)) (L' := [(0, .inr (.inl (Int64.ofNat w)))]) (S' := []) (h' := h) (by with_unfolding_all rfl) ?_
              by_cases e6 : w = 1643
              · rw [if_neg (fun q => (kx_jne (by omega) (by omega)).mp q e6)]
                refine kx_go 3 (pc' := 119) (L' := [(2, .inl (Int32.ofNat 16)), (0, .inr (.inl (Int64.ofNat w)))]) (S' := []) (h' := h) (by with_unfolding_all rfl) ?_
                rw [show kp_wd w = 16 from by unfold kp_wd; rw [if_neg e0, if_neg e1, if_neg e2, if_neg e3, if_neg e4, if_neg e5, if_pos e6]] at hQ
                exact km_w3 hw (by decide) hQ
              · rw [if_pos ((kx_jne (by omega) (by omega)).mpr e6)]
                refine kx_go 4 (pc' := (if kc_cnd .ne (kc_lcmp (Int64.ofNat w) (Int64.ofNat 4785454)).toInt 0 then 104 else 99)) (L' := [(0, .inr (.inl (Int64.ofNat w)))]) (S' := []) (h' := h) (by with_unfolding_all rfl) ?_
                by_cases e7 : w = 4785454
                · rw [if_neg (fun q => (kx_jne (by omega) (by omega)).mp q e7)]
                  refine kx_go 3 (pc' := 119) (L' := [(2, .inl (Int32.ofNat 17)), (0, .inr (.inl (Int64.ofNat w)))]) (S' := []) (h' := h) (by with_unfolding_all rfl) ?_
                  rw [show kp_wd w = 17 from by unfold kp_wd; rw [if_neg e0, if_neg e1, if_neg e2, if_neg e3, if_neg e4, if_neg e5, if_neg e6, if_pos e7]] at hQ
                  exact km_w3 hw (by decide) hQ
                · rw [if_pos ((kx_jne (by omega) (by omega)).mpr e7)]
                  refine kx_go 4 (pc' := (if kc_cnd .ne (kc_lcmp (Int64.ofNat w) (Int64.ofNat 659011763)).toInt 0 then 117 else 112)) (L' := [(0, .inr (.inl (Int64.ofNat w)))]) (S' := []) (h' := h) (by with_unfolding_all rfl) ?_
                  by_cases e8 : w = 659011763
                  · rw [if_neg (fun q => (kx_jne (by omega) (by omega)).mp q e8)]
                    refine kx_go 3 (pc' := 119) (L' := [(2, .inl (Int32.ofNat 18)), (0, .inr (.inl (Int64.ofNat w)))]) (S' := []) (h' := h) (by with_unfolding_all rfl) ?_
                    rw [show kp_wd w = 18 from by unfold kp_wd; rw [if_neg e0, if_neg e1, if_neg e2, if_neg e3, if_neg e4, if_neg e5, if_neg e6, if_neg e7, if_pos e8]] at hQ
                    exact km_w3 hw (by decide) hQ
                  · rw [if_pos ((kx_jne (by omega) (by omega)).mpr e8)]
                    refine kx_go 2 (pc' := 119) (L' := [(2, .inl (Int32.ofNat 1)), (0, .inr (.inl (Int64.ofNat w)))]) (S' := []) (h' := h) (by with_unfolding_all rfl) ?_
                    rw [show kp_wd w = 1 from by unfold kp_wd; rw [if_neg e0, if_neg e1, if_neg e2, if_neg e3, if_neg e4, if_neg e5, if_neg e6, if_neg e7, if_neg e8]] at hQ
                    exact km_w3 hw (by decide) hQ
