/-! ===== by hand: the loops of the reader's step ===== -/
set_option maxRecDepth 20000 in
theorem kr_btw {g : kc_G} {h : kc_H} (hg : kc_ok g) {a b c : Nat} (ha : a < 2147483648) (hb : b < 2147483648) (hc : c < 2147483648) : kc_Con g 1 19 [.inl (Int32.ofNat a), .inl (Int32.ofNat b), .inl (Int32.ofNat c)] h (fun rv h' => rv = some (.inl (kp_b (decide (b ≤ a ∧ a ≤ c)))) ∧ h' = h) := by
  refine kc_Con_new hg (M := wk_m19) rfl rfl rfl (show 3 ≤ 3 by decide) ?_
  refine kx_go 3 (pc' := (if kc_cnd .lt (Int32.ofNat a).toInt (Int32.ofNat b).toInt then 14 else 5)) (L' := [(0, .inl (Int32.ofNat a)), (1, .inl (Int32.ofNat b)), (2, .inl (Int32.ofNat c))]) (S' := []) (h' := h) (by with_unfolding_all rfl) ?_
  by_cases e1 : a < b
  · rw [if_pos ((kx_lt (by omega) (by omega)).mpr e1)]
    refine kx_go 1 (pc' := 15) (L' := [(0, .inl (Int32.ofNat a)), (1, .inl (Int32.ofNat b)), (2, .inl (Int32.ofNat c))]) (S' := [.inl (Int32.ofNat 0)]) (h' := h) (by with_unfolding_all rfl) ?_
    exact kc_ret_ok rfl (rv := some (.inl (Int32.ofNat 0))) rfl ⟨by rw [show decide (b ≤ a ∧ a ≤ c) = false from decide_eq_false (by omega)]; rfl, rfl⟩
  · rw [if_neg (fun q => e1 ((kx_lt (by omega) (by omega)).mp q))]
    refine kx_go 3 (pc' := (if kc_cnd .gt (Int32.ofNat a).toInt (Int32.ofNat c).toInt then 14 else 10)) (L' := [(0, .inl (Int32.ofNat a)), (1, .inl (Int32.ofNat b)), (2, .inl (Int32.ofNat c))]) (S' := []) (h' := h) (by with_unfolding_all rfl) ?_
    by_cases e2 : c < a
    · rw [if_pos ((kx_gt (by omega) (by omega)).mpr e2)]
      refine kx_go 1 (pc' := 15) (L' := [(0, .inl (Int32.ofNat a)), (1, .inl (Int32.ofNat b)), (2, .inl (Int32.ofNat c))]) (S' := [.inl (Int32.ofNat 0)]) (h' := h) (by with_unfolding_all rfl) ?_
      exact kc_ret_ok rfl (rv := some (.inl (Int32.ofNat 0))) rfl ⟨by rw [show decide (b ≤ a ∧ a ≤ c) = false from decide_eq_false (by omega)]; rfl, rfl⟩
    · rw [if_neg (fun q => e2 ((kx_gt (by omega) (by omega)).mp q))]
      refine kx_go 2 (pc' := 15) (L' := [(0, .inl (Int32.ofNat a)), (1, .inl (Int32.ofNat b)), (2, .inl (Int32.ofNat c))]) (S' := [.inl (Int32.ofNat 1)]) (h' := h) (by with_unfolding_all rfl) ?_
      exact kc_ret_ok rfl (rv := some (.inl (Int32.ofNat 1))) rfl ⟨by rw [show decide (b ≤ a ∧ a ≤ c) = true from decide_eq_true (by omega)]; rfl, rfl⟩
set_option maxRecDepth 20000 in
theorem kr_let {g : kc_G} {h : kc_H} (hg : kc_ok g) {a : Nat} (ha : a < 2147483648) : kc_Con g 2 172 [.inl (Int32.ofNat a)] h (fun rv h' => rv = some (.inl (kp_b (kp_let a))) ∧ h' = h) := by
  refine kc_Con_new hg (M := wk_m172) rfl rfl rfl (show 1 ≤ 1 by decide) ?_
  refine kx_go 3 (pc' := 5) (L' := [(0, .inl (Int32.ofNat a))]) (S' := [.inl (Int32.ofNat 122), .inl (Int32.ofNat 97), .inl (Int32.ofNat a)]) (h' := h) (by with_unfolding_all rfl) ?_
  refine kc_call_rule (M2 := wk_m19) (av := [.inl (Int32.ofNat a), .inl (Int32.ofNat 97), .inl (Int32.ofNat 122)]) (r := []) rfl rfl (kr_btw hg ha (by omega) (by omega)) (fun rv h' hq => ?_)
  obtain ⟨rfl, rfl⟩ := hq
  cases e : decide (97 ≤ a ∧ a ≤ 122) with
  | true => exact kc_ret_ok rfl (rv := some (.inl (kp_b true))) rfl ⟨by rw [show kp_let a = true from e], rfl⟩
  | false => exact kc_ret_ok rfl (rv := some (.inl (kp_b false))) rfl ⟨by rw [show kp_let a = false from e], rfl⟩
set_option maxRecDepth 20000 in
theorem kr_fig {g : kc_G} {h : kc_H} (hg : kc_ok g) {a : Nat} (ha : a < 2147483648) : kc_Con g 2 173 [.inl (Int32.ofNat a)] h (fun rv h' => rv = some (.inl (kp_b (kp_fig a))) ∧ h' = h) := by
  refine kc_Con_new hg (M := wk_m173) rfl rfl rfl (show 1 ≤ 1 by decide) ?_
  refine kx_go 3 (pc' := 5) (L' := [(0, .inl (Int32.ofNat a))]) (S' := [.inl (Int32.ofNat 57), .inl (Int32.ofNat 48), .inl (Int32.ofNat a)]) (h' := h) (by with_unfolding_all rfl) ?_
  refine kc_call_rule (M2 := wk_m19) (av := [.inl (Int32.ofNat a), .inl (Int32.ofNat 48), .inl (Int32.ofNat 57)]) (r := []) rfl rfl (kr_btw hg ha (by omega) (by omega)) (fun rv h' hq => ?_)
  obtain ⟨rfl, rfl⟩ := hq
  cases e : decide (48 ≤ a ∧ a ≤ 57) with
  | true => exact kc_ret_ok rfl (rv := some (.inl (kp_b true))) rfl ⟨by rw [show kp_fig a = true from e], rfl⟩
  | false => exact kc_ret_ok rfl (rv := some (.inl (kp_b false))) rfl ⟨by rw [show kp_fig a = false from e], rfl⟩
theorem kx_inc1 (p : Nat) : Int32.ofNat p + Int32.ofNat 1 = Int32.ofNat (p + 1) := (Int32.ofNat_add p 1).symm
set_option maxRecDepth 20000 in
theorem kr_s0 {g : kc_G} {d : Nat} {Q : Option kc_V → kc_H → Prop} {h : kc_H} {c n : Nat} {t : Nat → Nat} (hc1 : kc_shp c = some (0, 0, 240)) (hc2 : c < kc_N) (hc3 : ¬ c = 127) (hn : n ≤ 240) (ht : ∀ j, j < 240 → h c j = .inl (Int32.ofNat (t j))) (hb : ∀ j, j < 240 → t j < 256) {k s : Nat} : ∀ (m p : Nat), n - p = m → p ≤ n → kc_Ev g d wk_m62 Q 38 [(0, .inr (.inr (.inl (some 127))))] [] (kr_H h c n (kp_skip kp_sp t m p) k s) → kc_Ev g d wk_m62 Q 0 [(0, .inr (.inr (.inl (some 127))))] [] (kr_H h c n p k s) := by
  intro m
  induction m with
  | zero =>
    intro p hm hp K
    refine kx_go 5 (pc' := (if kc_cnd .ge (Int32.ofNat p).toInt (Int32.ofNat n).toInt then 38 else 11)) (L' := [(0, .inr (.inr (.inl (some 127))))]) (S' := []) (h' := (kr_H h c n p k s)) (by with_unfolding_all rfl) ?_
    rw [if_pos ((kx_ge (by omega) (by omega)).mpr (by omega))]
    exact K
  | succ m ih =>
    intro p hm hp K
    refine kx_go 5 (pc' := (if kc_cnd .ge (Int32.ofNat p).toInt (Int32.ofNat n).toInt then 38 else 11)) (L' := [(0, .inr (.inr (.inl (some 127))))]) (S' := []) (h' := (kr_H h c n p k s)) (by with_unfolding_all rfl) ?_
    rw [if_neg (fun q => by have := (kx_ge (by omega) (by omega)).mp q; omega)]
    refine kx_go 4 (pc' := 19) (L' := [(0, .inr (.inr (.inl (some 127))))]) (S' := [.inl (Int32.ofNat p), .inr (.inr (.inl (some (c))))]) (h' := (kr_H h c n p k s)) (by with_unfolding_all rfl) ?_
    refine kx_iald rfl hc1 hc2 (by omega) (j := p) (by omega) ((kr_o hc3).trans (ht _ (by omega))) ?_
    have hbp := hb p (by omega)
    have K : kc_Ev g d wk_m62 Q 38 [(0, .inr (.inr (.inl (some 127))))] [] (kr_H h c n (bif kp_sp (t p) then kp_skip kp_sp t m (p + 1) else p) k s) := K
    refine kx_go 2 (pc' := (if kc_cnd .ne (Int32.ofNat (t p)).toInt (Int32.ofNat 32).toInt then 38 else 25)) (L' := [(0, .inr (.inr (.inl (some 127))))]) (S' := []) (h' := (kr_H h c n p k s)) (by with_unfolding_all rfl) ?_
    by_cases e : t p = 32
    · rw [if_neg (fun q => (kx_ne (by omega) (by omega)).mp q e)]
      rw [show kp_sp (t p) = true from decide_eq_true e] at K
      refine kx_go 5 (pc' := 32) (L' := [(0, .inr (.inr (.inl (some 127))))]) (S' := [.inl ((Int32.ofNat p) + (Int32.ofNat 1)), .inr (.inr (.inl (some 127)))]) (h' := (kr_H h c n p k s)) (by with_unfolding_all rfl) ?_
      refine kx_go 1 (pc' := 35) (L' := [(0, .inr (.inr (.inl (some 127))))]) (S' := []) (h' := kc_upd (kr_H h c n p k s) 127 6 (.inl (Int32.ofNat p + Int32.ofNat 1))) (by with_unfolding_all rfl) ?_
      rw [kx_inc1, kr_6]
      refine kx_go 1 (pc' := 0) (L' := [(0, .inr (.inr (.inl (some 127))))]) (S' := []) (h' := (kr_H h c n (p + 1) k s)) (by with_unfolding_all rfl) ?_
      exact ih (p + 1) (by omega) (by omega) K
    · rw [if_pos ((kx_ne (by omega) (by omega)).mpr e)]
      rw [show kp_sp (t p) = false from decide_eq_false e] at K
      exact K
set_option maxRecDepth 20000 in
theorem kr_s1 {g : kc_G} {d : Nat} {Q : Option kc_V → kc_H → Prop} {h : kc_H} {c n : Nat} {t : Nat → Nat} (hc1 : kc_shp c = some (0, 0, 240)) (hc2 : c < kc_N) (hc3 : ¬ c = 127) (hn : n ≤ 240) (ht : ∀ j, j < 240 → h c j = .inl (Int32.ofNat (t j))) (hb : ∀ j, j < 240 → t j < 256) (hg : kc_ok g) (hd : 2 ≤ d) {k s : Nat} : ∀ (m p : Nat), n - p = m → p ≤ n → kc_Ev g d wk_m62 Q 236 [(0, .inr (.inr (.inl (some 127))))] [] (kr_H h c n (kp_skip kp_let t m p) k s) → kc_Ev g d wk_m62 Q 85 [(0, .inr (.inr (.inl (some 127))))] [] (kr_H h c n p k s) := by
  intro m
  induction m with
  | zero =>
    intro p hm hp K
    refine kx_go 5 (pc' := (if kc_cnd .ge (Int32.ofNat p).toInt (Int32.ofNat n).toInt then 236 else 96)) (L' := [(0, .inr (.inr (.inl (some 127))))]) (S' := []) (h' := (kr_H h c n p k s)) (by with_unfolding_all rfl) ?_
    rw [if_pos ((kx_ge (by omega) (by omega)).mpr (by omega))]
    exact K
  | succ m ih =>
    intro p hm hp K
    refine kx_go 5 (pc' := (if kc_cnd .ge (Int32.ofNat p).toInt (Int32.ofNat n).toInt then 236 else 96)) (L' := [(0, .inr (.inr (.inl (some 127))))]) (S' := []) (h' := (kr_H h c n p k s)) (by with_unfolding_all rfl) ?_
    rw [if_neg (fun q => by have := (kx_ge (by omega) (by omega)).mp q; omega)]
    refine kx_go 4 (pc' := 104) (L' := [(0, .inr (.inr (.inl (some 127))))]) (S' := [.inl (Int32.ofNat p), .inr (.inr (.inl (some (c))))]) (h' := (kr_H h c n p k s)) (by with_unfolding_all rfl) ?_
    refine kx_iald rfl hc1 hc2 (by omega) (j := p) (by omega) ((kr_o hc3).trans (ht _ (by omega))) ?_
    have hbp := hb p (by omega)
    have K : kc_Ev g d wk_m62 Q 236 [(0, .inr (.inr (.inl (some 127))))] [] (kr_H h c n (bif kp_let (t p) then kp_skip kp_let t m (p + 1) else p) k s) := K
    refine kc_call_rule (M2 := wk_m172) (av := [.inl (Int32.ofNat (t p))]) (r := []) rfl rfl (kc_Con_le (kr_let hg (by omega)) (by omega)) (fun rv h' hq => ?_)
    obtain ⟨rfl, rfl⟩ := hq
    show kc_Ev g d wk_m62 Q 108 [(0, .inr (.inr (.inl (some 127))))] [.inl (kp_b (kp_let (t p)))] (kr_H h c n p k s)
    refine kx_go 1 (pc' := (if kc_cnd .eq (kp_b (kp_let (t p))).toInt 0 then 236 else 111)) (L' := [(0, .inr (.inr (.inl (some 127))))]) (S' := []) (h' := (kr_H h c n p k s)) (by with_unfolding_all rfl) ?_
    cases e : kp_let (t p) with
    | true =>
      rw [if_neg (fun q => by have := kx_b0.mp q; cases this)]
      rw [e] at K
      refine kx_go 5 (pc' := 118) (L' := [(0, .inr (.inr (.inl (some 127))))]) (S' := [.inl ((Int32.ofNat p) + (Int32.ofNat 1)), .inr (.inr (.inl (some 127)))]) (h' := (kr_H h c n p k s)) (by with_unfolding_all rfl) ?_
      refine kx_go 1 (pc' := 121) (L' := [(0, .inr (.inr (.inl (some 127))))]) (S' := []) (h' := kc_upd (kr_H h c n p k s) 127 6 (.inl (Int32.ofNat p + Int32.ofNat 1))) (by with_unfolding_all rfl) ?_
      rw [kx_inc1, kr_6]
      refine kx_go 1 (pc' := 85) (L' := [(0, .inr (.inr (.inl (some 127))))]) (S' := []) (h' := (kr_H h c n (p + 1) k s)) (by with_unfolding_all rfl) ?_
      exact ih (p + 1) (by omega) (by omega) K
    | false =>
      rw [if_pos (kx_b0.mpr rfl)]
      rw [e] at K
      exact K
set_option maxRecDepth 20000 in
theorem kr_s2 {g : kc_G} {d : Nat} {Q : Option kc_V → kc_H → Prop} {h : kc_H} {c n : Nat} {t : Nat → Nat} (hc1 : kc_shp c = some (0, 0, 240)) (hc2 : c < kc_N) (hc3 : ¬ c = 127) (hn : n ≤ 240) (ht : ∀ j, j < 240 → h c j = .inl (Int32.ofNat (t j))) (hb : ∀ j, j < 240 → t j < 256) (hg : kc_ok g) (hd : 2 ≤ d) {k s : Nat} : ∀ (m p : Nat), n - p = m → p ≤ n → kc_Ev g d wk_m62 Q 178 [(0, .inr (.inr (.inl (some 127))))] [] (kr_H h c n (kp_skip kp_fig t m p) k s) → kc_Ev g d wk_m62 Q 139 [(0, .inr (.inr (.inl (some 127))))] [] (kr_H h c n p k s) := by
  intro m
  induction m with
  | zero =>
    intro p hm hp K
    refine kx_go 5 (pc' := (if kc_cnd .ge (Int32.ofNat p).toInt (Int32.ofNat n).toInt then 178 else 150)) (L' := [(0, .inr (.inr (.inl (some 127))))]) (S' := []) (h' := (kr_H h c n p k s)) (by with_unfolding_all rfl) ?_
    rw [if_pos ((kx_ge (by omega) (by omega)).mpr (by omega))]
    exact K
  | succ m ih =>
    intro p hm hp K
    refine kx_go 5 (pc' := (if kc_cnd .ge (Int32.ofNat p).toInt (Int32.ofNat n).toInt then 178 else 150)) (L' := [(0, .inr (.inr (.inl (some 127))))]) (S' := []) (h' := (kr_H h c n p k s)) (by with_unfolding_all rfl) ?_
    rw [if_neg (fun q => by have := (kx_ge (by omega) (by omega)).mp q; omega)]
    refine kx_go 4 (pc' := 158) (L' := [(0, .inr (.inr (.inl (some 127))))]) (S' := [.inl (Int32.ofNat p), .inr (.inr (.inl (some (c))))]) (h' := (kr_H h c n p k s)) (by with_unfolding_all rfl) ?_
    refine kx_iald rfl hc1 hc2 (by omega) (j := p) (by omega) ((kr_o hc3).trans (ht _ (by omega))) ?_
    have hbp := hb p (by omega)
    have K : kc_Ev g d wk_m62 Q 178 [(0, .inr (.inr (.inl (some 127))))] [] (kr_H h c n (bif kp_fig (t p) then kp_skip kp_fig t m (p + 1) else p) k s) := K
    refine kc_call_rule (M2 := wk_m173) (av := [.inl (Int32.ofNat (t p))]) (r := []) rfl rfl (kc_Con_le (kr_fig hg (by omega)) (by omega)) (fun rv h' hq => ?_)
    obtain ⟨rfl, rfl⟩ := hq
    show kc_Ev g d wk_m62 Q 162 [(0, .inr (.inr (.inl (some 127))))] [.inl (kp_b (kp_fig (t p)))] (kr_H h c n p k s)
    refine kx_go 1 (pc' := (if kc_cnd .eq (kp_b (kp_fig (t p))).toInt 0 then 178 else 165)) (L' := [(0, .inr (.inr (.inl (some 127))))]) (S' := []) (h' := (kr_H h c n p k s)) (by with_unfolding_all rfl) ?_
    cases e : kp_fig (t p) with
    | true =>
      rw [if_neg (fun q => by have := kx_b0.mp q; cases this)]
      rw [e] at K
      refine kx_go 5 (pc' := 172) (L' := [(0, .inr (.inr (.inl (some 127))))]) (S' := [.inl ((Int32.ofNat p) + (Int32.ofNat 1)), .inr (.inr (.inl (some 127)))]) (h' := (kr_H h c n p k s)) (by with_unfolding_all rfl) ?_
      refine kx_go 1 (pc' := 175) (L' := [(0, .inr (.inr (.inl (some 127))))]) (S' := []) (h' := kc_upd (kr_H h c n p k s) 127 6 (.inl (Int32.ofNat p + Int32.ofNat 1))) (by with_unfolding_all rfl) ?_
      rw [kx_inc1, kr_6]
      refine kx_go 1 (pc' := 139) (L' := [(0, .inr (.inr (.inl (some 127))))]) (S' := []) (h' := (kr_H h c n (p + 1) k s)) (by with_unfolding_all rfl) ?_
      exact ih (p + 1) (by omega) (by omega) K
    | false =>
      rw [if_pos (kx_b0.mpr rfl)]
      rw [e] at K
      exact K
