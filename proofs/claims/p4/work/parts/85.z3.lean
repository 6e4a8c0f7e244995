/-! ===== by hand: the reader's step ===== -/
theorem kx_sub {a b : Nat} (h : b ≤ a) : Int32.ofNat a - Int32.ofNat b = Int32.ofNat (a - b) := by
  have e : Int32.ofNat a = Int32.ofNat (a - b) + Int32.ofNat b := by rw [← Int32.ofNat_add]; congr 1; omega
  rw [e, Int32.add_sub_cancel]
def kp_kd (t : Nat → Nat) (n s : Nat) : Nat := if n ≤ s then 0 else if kp_let (t s) = true then 1 else if kp_fig (t s) = true then (if kp_skip kp_fig t (n - s) s - s ≤ 3 then 2 else 4) else if t s = 59 then 3 else 4
def kp_nx (t : Nat → Nat) (n s : Nat) : Nat := if n ≤ s then s else if kp_let (t s) = true then kp_skip kp_let t (n - s) s else if kp_fig (t s) = true then kp_skip kp_fig t (n - s) s else s + 1
def kp_start (t : Nat → Nat) (n p : Nat) : Nat := kp_skip kp_sp t (n - p) p
theorem kp_nx_le {t : Nat → Nat} {n s : Nat} (h : s ≤ n) : s ≤ kp_nx t n s ∧ kp_nx t n s ≤ n := by
  have h1 := kp_skip_le kp_let t (n - s) s
  have h2 := kp_skip_le kp_fig t (n - s) s
  unfold kp_nx
  split
  · omega
  · split
    · omega
    · split
      · omega
      · omega
theorem kp_start_le {t : Nat → Nat} {n p : Nat} (h : p ≤ n) : p ≤ kp_start t n p ∧ kp_start t n p ≤ n := by
  have h1 := kp_skip_le kp_sp t (n - p) p
  unfold kp_start
  omega
set_option maxRecDepth 20000 in
theorem kr_st1 {g : kc_G} {d : Nat} {Q : Option kc_V → kc_H → Prop} {h : kc_H} {c n : Nat} {t : Nat → Nat} (hc1 : kc_shp c = some (0, 0, 240)) (hc2 : c < kc_N) (hc3 : ¬ c = 127) (hn : n ≤ 240) (ht : ∀ j, j < 240 → h c j = .inl (Int32.ofNat (t j))) (hb : ∀ j, j < 240 → t j < 256) (hg : kc_ok g) (hd : 2 ≤ d) {k s q : Nat} (hqn : q ≤ n) (hQ : Q none (kr_H h c n (kp_nx t n q) (kp_kd t n q) q)) : kc_Ev g d wk_m62 Q 38 [(0, .inr (.inr (.inl (some 127))))] [] (kr_H h c n q k s) := by
  have hq2 : q < 2147483648 := by omega
  refine kx_go 3 (pc' := 43) (L' := [(0, .inr (.inr (.inl (some 127))))]) (S' := [.inl (Int32.ofNat q), .inr (.inr (.inl (some 127)))]) (h' := (kr_H h c n q k s)) (by with_unfolding_all rfl) ?_
  refine kx_go 1 (pc' := 46) (L' := [(0, .inr (.inr (.inl (some 127))))]) (S' := []) (h' := kc_upd (kr_H h c n q k s) 127 8 (.inl (Int32.ofNat q))) (by with_unfolding_all rfl) ?_
  rw [kr_8]
  refine kx_go 5 (pc' := (if kc_cnd .lt (Int32.ofNat q).toInt (Int32.ofNat n).toInt then 65 else 57)) (L' := [(0, .inr (.inr (.inl (some 127))))]) (S' := []) (h' := (kr_H h c n q k q)) (by with_unfolding_all rfl) ?_
  by_cases e1 : n ≤ q
  · rw [if_neg (fun w => by have := (kx_lt (by omega) (by omega)).mp w; omega)]
    refine kx_go 2 (pc' := 59) (L' := [(0, .inr (.inr (.inl (some 127))))]) (S' := [.inl (Int32.ofNat 0), .inr (.inr (.inl (some 127)))]) (h' := (kr_H h c n q k q)) (by with_unfolding_all rfl) ?_
    refine kx_go 1 (pc' := 62) (L' := [(0, .inr (.inr (.inl (some 127))))]) (S' := []) (h' := kc_upd (kr_H h c n q k q) 127 7 (.inl (Int32.ofNat 0))) (by with_unfolding_all rfl) ?_
    rw [kr_7]
    refine kx_go 1 (pc' := 236) (L' := [(0, .inr (.inr (.inl (some 127))))]) (S' := []) (h' := (kr_H h c n q 0 q)) (by with_unfolding_all rfl) ?_
    refine kc_ret_ok rfl (rv := none) rfl ?_
    rw [show kp_nx t n q = q from if_pos e1, show kp_kd t n q = 0 from if_pos e1] at hQ
    exact hQ
  · rw [if_pos ((kx_lt (by omega) (by omega)).mpr (by omega))]
    have hbq := hb q (by omega)
    have hQ : Q none (kr_H h c n (if kp_let (t q) = true then kp_skip kp_let t (n - q) q else if kp_fig (t q) = true then kp_skip kp_fig t (n - q) q else q + 1) (if kp_let (t q) = true then 1 else if kp_fig (t q) = true then (if kp_skip kp_fig t (n - q) q - q ≤ 3 then 2 else 4) else if t q = 59 then 3 else 4) q) := by
      rw [show kp_nx t n q = _ from if_neg e1, show kp_kd t n q = _ from if_neg e1] at hQ
      exact hQ
    refine kx_go 4 (pc' := 73) (L' := [(0, .inr (.inr (.inl (some 127))))]) (S' := [.inl (Int32.ofNat q), .inr (.inr (.inl (some (c))))]) (h' := (kr_H h c n q k q)) (by with_unfolding_all rfl) ?_
    refine kx_iald rfl hc1 hc2 (by omega) (j := q) (by omega) ((kr_o hc3).trans (ht _ (by omega))) ?_
    refine kc_call_rule (M2 := wk_m172) (av := [.inl (Int32.ofNat (t q))]) (r := []) rfl rfl (kc_Con_le (kr_let hg (by omega)) (by omega)) (fun rv h' hq => ?_)
    obtain ⟨rfl, rfl⟩ := hq
    show kc_Ev g d wk_m62 Q 77 [(0, .inr (.inr (.inl (some 127))))] [.inl (kp_b (kp_let (t q)))] (kr_H h c n q k q)
    refine kx_go 1 (pc' := (if kc_cnd .eq (kp_b (kp_let (t q))).toInt 0 then 124 else 80)) (L' := [(0, .inr (.inr (.inl (some 127))))]) (S' := []) (h' := (kr_H h c n q k q)) (by with_unfolding_all rfl) ?_
    cases e2 : kp_let (t q) with
    | true =>
      rw [if_neg (fun w => by have := kx_b0.mp w; cases this)]
      simp only [e2, ↓reduceIte] at hQ
      refine kx_go 2 (pc' := 82) (L' := [(0, .inr (.inr (.inl (some 127))))]) (S' := [.inl (Int32.ofNat 1), .inr (.inr (.inl (some 127)))]) (h' := (kr_H h c n q k q)) (by with_unfolding_all rfl) ?_
      refine kx_go 1 (pc' := 85) (L' := [(0, .inr (.inr (.inl (some 127))))]) (S' := []) (h' := kc_upd (kr_H h c n q k q) 127 7 (.inl (Int32.ofNat 1))) (by with_unfolding_all rfl) ?_
      rw [kr_7]
      refine kr_s1 hc1 hc2 hc3 hn ht hb hg hd (n - q) q rfl (by omega) ?_
      exact kc_ret_ok rfl (rv := none) rfl hQ
    | false =>
      rw [if_pos (kx_b0.mpr rfl)]
      simp only [e2, ↓reduceIte, Bool.false_eq_true] at hQ
      refine kx_go 4 (pc' := 132) (L' := [(0, .inr (.inr (.inl (some 127))))]) (S' := [.inl (Int32.ofNat q), .inr (.inr (.inl (some (c))))]) (h' := (kr_H h c n q k q)) (by with_unfolding_all rfl) ?_
      refine kx_iald rfl hc1 hc2 (by omega) (j := q) (by omega) ((kr_o hc3).trans (ht _ (by omega))) ?_
      refine kc_call_rule (M2 := wk_m173) (av := [.inl (Int32.ofNat (t q))]) (r := []) rfl rfl (kc_Con_le (kr_fig hg (by omega)) (by omega)) (fun rv h' hq => ?_)
      obtain ⟨rfl, rfl⟩ := hq
      show kc_Ev g d wk_m62 Q 136 [(0, .inr (.inr (.inl (some 127))))] [.inl (kp_b (kp_fig (t q)))] (kr_H h c n q k q)
      refine kx_go 1 (pc' := (if kc_cnd .eq (kp_b (kp_fig (t q))).toInt 0 then 203 else 139)) (L' := [(0, .inr (.inr (.inl (some 127))))]) (S' := []) (h' := (kr_H h c n q k q)) (by with_unfolding_all rfl) ?_
      cases e3 : kp_fig (t q) with
      | true =>
        rw [if_neg (fun w => by have := kx_b0.mp w; cases this)]
        simp only [e3, ↓reduceIte] at hQ
        refine kr_s2 hc1 hc2 hc3 hn ht hb hg hd (n - q) q rfl (by omega) ?_
        have he := kp_skip_le kp_fig t (n - q) q
        generalize kp_skip kp_fig t (n - q) q = e at hQ he ⊢
        refine kx_go 8 (pc' := (if kc_cnd .gt ((Int32.ofNat e) - (Int32.ofNat q)).toInt (Int32.ofNat 3).toInt then 196 else 192)) (L' := [(0, .inr (.inr (.inl (some 127))))]) (S' := [.inr (.inr (.inl (some 127)))]) (h' := (kr_H h c n e k q)) (by with_unfolding_all rfl) ?_
        rw [kx_sub he.1]
        by_cases e4 : e - q ≤ 3
        · rw [if_neg (fun w => by have := (kx_gt (by omega) (by omega)).mp w; omega)]
          rw [if_pos e4] at hQ
          refine kx_go 2 (pc' := 197) (L' := [(0, .inr (.inr (.inl (some 127))))]) (S' := [.inl (Int32.ofNat 2), .inr (.inr (.inl (some 127)))]) (h' := (kr_H h c n e k q)) (by with_unfolding_all rfl) ?_
          refine kx_go 1 (pc' := 200) (L' := [(0, .inr (.inr (.inl (some 127))))]) (S' := []) (h' := kc_upd (kr_H h c n e k q) 127 7 (.inl (Int32.ofNat 2))) (by with_unfolding_all rfl) ?_
          rw [kr_7]
          refine kx_go 1 (pc' := 236) (L' := [(0, .inr (.inr (.inl (some 127))))]) (S' := []) (h' := (kr_H h c n e 2 q)) (by with_unfolding_all rfl) ?_
          exact kc_ret_ok rfl (rv := none) rfl hQ
        · rw [if_pos ((kx_gt (by omega) (by omega)).mpr (by omega))]
          rw [if_neg e4] at hQ
          refine kx_go 1 (pc' := 197) (L' := [(0, .inr (.inr (.inl (some 127))))]) (S' := [.inl (Int32.ofNat 4), .inr (.inr (.inl (some 127)))]) (h' := (kr_H h c n e k q)) (by with_unfolding_all rfl) ?_
          refine kx_go 1 (pc' := 200) (L' := [(0, .inr (.inr (.inl (some 127))))]) (S' := []) (h' := kc_upd (kr_H h c n e k q) 127 7 (.inl (Int32.ofNat 4))) (by with_unfolding_all rfl) ?_
          rw [kr_7]
          refine kx_go 1 (pc' := 236) (L' := [(0, .inr (.inr (.inl (some 127))))]) (S' := []) (h' := (kr_H h c n e 4 q)) (by with_unfolding_all rfl) ?_
          exact kc_ret_ok rfl (rv := none) rfl hQ
      | false =>
        rw [if_pos (kx_b0.mpr rfl)]
        simp only [e3, ↓reduceIte, Bool.false_eq_true] at hQ
        refine kx_go 5 (pc' := 212) (L' := [(0, .inr (.inr (.inl (some 127))))]) (S' := [.inl (Int32.ofNat q), .inr (.inr (.inl (some (c)))), .inr (.inr (.inl (some 127)))]) (h' := (kr_H h c n q k q)) (by with_unfolding_all rfl) ?_
        refine kx_iald rfl hc1 hc2 (by omega) (j := q) (by omega) ((kr_o hc3).trans (ht _ (by omega))) ?_
        refine kx_go 2 (pc' := (if kc_cnd .ne (Int32.ofNat (t q)).toInt (Int32.ofNat 59).toInt then 222 else 218)) (L' := [(0, .inr (.inr (.inl (some 127))))]) (S' := [.inr (.inr (.inl (some 127)))]) (h' := (kr_H h c n q k q)) (by with_unfolding_all rfl) ?_
        by_cases e4 : t q = 59
        · rw [if_neg (fun w => (kx_ne (by omega) (by omega)).mp w e4)]
          rw [if_pos e4] at hQ
          refine kx_go 2 (pc' := 223) (L' := [(0, .inr (.inr (.inl (some 127))))]) (S' := [.inl (Int32.ofNat 3), .inr (.inr (.inl (some 127)))]) (h' := (kr_H h c n q k q)) (by with_unfolding_all rfl) ?_
          refine kx_go 1 (pc' := 226) (L' := [(0, .inr (.inr (.inl (some 127))))]) (S' := []) (h' := kc_upd (kr_H h c n q k q) 127 7 (.inl (Int32.ofNat 3))) (by with_unfolding_all rfl) ?_
          rw [kr_7]
          refine kx_go 5 (pc' := 233) (L' := [(0, .inr (.inr (.inl (some 127))))]) (S' := [.inl ((Int32.ofNat q) + (Int32.ofNat 1)), .inr (.inr (.inl (some 127)))]) (h' := (kr_H h c n q 3 q)) (by with_unfolding_all rfl) ?_
          refine kx_go 1 (pc' := 236) (L' := [(0, .inr (.inr (.inl (some 127))))]) (S' := []) (h' := kc_upd (kr_H h c n q 3 q) 127 6 (.inl (Int32.ofNat q + Int32.ofNat 1))) (by with_unfolding_all rfl) ?_
          rw [kx_inc1, kr_6]
          exact kc_ret_ok rfl (rv := none) rfl hQ
        · rw [if_pos ((kx_ne (by omega) (by omega)).mpr e4)]
          rw [if_neg e4] at hQ
          refine kx_go 1 (pc' := 223) (L' := [(0, .inr (.inr (.inl (some 127))))]) (S' := [.inl (Int32.ofNat 4), .inr (.inr (.inl (some 127)))]) (h' := (kr_H h c n q k q)) (by with_unfolding_all rfl) ?_
          refine kx_go 1 (pc' := 226) (L' := [(0, .inr (.inr (.inl (some 127))))]) (S' := []) (h' := kc_upd (kr_H h c n q k q) 127 7 (.inl (Int32.ofNat 4))) (by with_unfolding_all rfl) ?_
          rw [kr_7]
          refine kx_go 5 (pc' := 233) (L' := [(0, .inr (.inr (.inl (some 127))))]) (S' := [.inl ((Int32.ofNat q) + (Int32.ofNat 1)), .inr (.inr (.inl (some 127)))]) (h' := (kr_H h c n q 4 q)) (by with_unfolding_all rfl) ?_
          refine kx_go 1 (pc' := 236) (L' := [(0, .inr (.inr (.inl (some 127))))]) (S' := []) (h' := kc_upd (kr_H h c n q 4 q) 127 6 (.inl (Int32.ofNat q + Int32.ofNat 1))) (by with_unfolding_all rfl) ?_
          rw [kx_inc1, kr_6]
          exact kc_ret_ok rfl (rv := none) rfl hQ
/-- step() -/
theorem kr_step {g : kc_G} {h : kc_H} {c n : Nat} {t : Nat → Nat} (hg : kc_ok g) (hc1 : kc_shp c = some (0, 0, 240)) (hc2 : c < kc_N) (hc3 : ¬ c = 127) (hn : n ≤ 240) (ht : ∀ j, j < 240 → h c j = .inl (Int32.ofNat (t j))) (hb : ∀ j, j < 240 → t j < 256) {p k s : Nat} (hp : p ≤ n) : kc_Con g 3 62 [.inr (.inr (.inl (some 127)))] (kr_H h c n p k s) (fun rv h' => rv = none ∧ h' = kr_H h c n (kp_nx t n (kp_start t n p)) (kp_kd t n (kp_start t n p)) (kp_start t n p)) := by
  refine kc_Con_new hg (M := wk_m62) rfl rfl rfl (show 1 ≤ 1 by decide) ?_
  show kc_Ev g 2 wk_m62 _ 0 [(0, .inr (.inr (.inl (some 127))))] [] (kr_H h c n p k s)
  refine kr_s0 hc1 hc2 hc3 hn ht hb (n - p) p rfl hp ?_
  exact kr_st1 hc1 hc2 hc3 hn ht hb hg (Nat.le_refl _) (kp_start_le hp).2 ⟨rfl, rfl⟩
