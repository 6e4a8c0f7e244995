section
-- 99.zpi
/-! ===== where reading a text stops, reference ===== -/
set_option maxRecDepth 20000 in
theorem km_arlx {g : kc_G} {d : Nat} {Q : Option kc_V → kc_H → Prop} {x n : Nat} {t : Nat → Nat} (hg : kc_ok g) (hx : x < 2) (hn : n ≤ 240) (hb : ∀ j, j < 240 → t j < 256) {it v : Nat} (hv : v < 16) (hit : it < 60) : ∀ (m j : Nat) (h : kc_H) (p u : Nat), ks_L (kp_sh v) - j = m → j ≤ ks_L (kp_sh v) → h 260 (160 + x) = .inl (Int32.ofNat n) → (∀ j, j < 240 → h 260 (170 + 240 * x + j) = .inl (Int32.ofNat (t j))) → p ≤ n → u < 1000 →
    (∀ vs e, kp_ar t n (kp_sh v) m j p = some (vs, e) → ∀ u2, u2 < 1000 → kc_Ev g (d + 4) wk_m64 Q 175 [(2, .inl (Int32.ofNat (kp_tv v))), (0, .inr (.inr (.inl (some 259)))), (1, .inl (Int32.ofNat x))] [] (km_H (kmj (km_nw h it j vs) it) x (kp_nx t n (kp_start t n e)) (kp_start t n e) (kp_tk t n (kp_start t n e)) (kp_vv t n (kp_start t n e) u2))) →
    (kp_ar t n (kp_sh v) m j p = none → ∀ (h2 : kc_H) (a2 s2 k2 u2 : Nat), km_D h h2 → ((s2 ≤ n ∧ a2 ≤ n ∧ k2 < 27 ∧ u2 < 1000) ∧ s2 = kp_af t n (kp_sh v) m j p) → Q (some (.inl (Int32.ofNat 0))) (km_H (kmj h2 it) x a2 s2 k2 u2)) → kc_Ev g (d + 4) wk_m64 Q 74 [(3, .inl (Int32.ofNat j)), (2, .inl (Int32.ofNat (kp_tv v))), (0, .inr (.inr (.inl (some 259)))), (1, .inl (Int32.ofNat x))] [] (km_H (kmj h it) x (kp_nx t n (kp_start t n p)) (kp_start t n p) (kp_tk t n (kp_start t n p)) (kp_vv t n (kp_start t n p) u)) := by
  obtain ⟨hi, hi4⟩ := kr_shl v hv
  have htv := kp_tv_lt hv
  intro m
  induction m with
  | zero =>
    intro j h p u hm hj hnt ht hp hu hok hbad
    refine kx_go 2 (pc' := 76) (L' := [(3, .inl (Int32.ofNat j)), (2, .inl (Int32.ofNat (kp_tv v))), (0, .inr (.inr (.inl (some 259)))), (1, .inl (Int32.ofNat x))]) (S' := [.inl (Int32.ofNat (kp_tv v)), .inl (Int32.ofNat j)]) (h' := (km_H (kmj h it) x (kp_nx t n (kp_start t n p)) (kp_start t n p) (kp_tk t n (kp_start t n p)) (kp_vv t n (kp_start t n p) u))) (by with_unfolding_all rfl) ?_
    refine kc_call_rule (M2 := wk_m234) (av := [.inl (Int32.ofNat (kp_tv v))]) (r := [.inl (Int32.ofNat j)]) rfl rfl (kc_Con_le (km_num (d := 0) hg v hv) (by omega)) (fun rv h' hq => ?_)
    obtain ⟨rfl, rfl⟩ := hq
    show kc_Ev g (d + 4) wk_m64 Q 79 [(3, .inl (Int32.ofNat j)), (2, .inl (Int32.ofNat (kp_tv v))), (0, .inr (.inr (.inl (some 259)))), (1, .inl (Int32.ofNat x))] [.inl (Int32.ofNat (ks_L (kp_sh v))), .inl (Int32.ofNat j)] (km_H (kmj h it) x (kp_nx t n (kp_start t n p)) (kp_start t n p) (kp_tk t n (kp_start t n p)) (kp_vv t n (kp_start t n p) u))
    refine kx_go 1 (pc' := (if kc_cnd .ge (Int32.ofNat j).toInt (Int32.ofNat (ks_L (kp_sh v))).toInt then 175 else 82)) (L' := [(3, .inl (Int32.ofNat j)), (2, .inl (Int32.ofNat (kp_tv v))), (0, .inr (.inr (.inl (some 259)))), (1, .inl (Int32.ofNat x))]) (S' := []) (h' := (km_H (kmj h it) x (kp_nx t n (kp_start t n p)) (kp_start t n p) (kp_tk t n (kp_start t n p)) (kp_vv t n (kp_start t n p) u))) (by with_unfolding_all rfl) ?_
    rw [if_pos ((kx_ge (by omega) (by omega)).mpr (by omega))]
    refine kf_lo (L := [(2, .inl (Int32.ofNat (kp_tv v))), (0, .inr (.inr (.inl (some 259)))), (1, .inl (Int32.ofNat x))]) ?_ (hok [] p rfl u hu)
    intro q hq
    simp only [List.mem_cons, List.not_mem_nil, or_false] at hq
    rcases hq with rfl | rfl | rfl <;> rfl
  | succ m ih =>
    intro j h p u hm hj hnt ht hp hu hok hbad
    refine kx_go 2 (pc' := 76) (L' := [(3, .inl (Int32.ofNat j)), (2, .inl (Int32.ofNat (kp_tv v))), (0, .inr (.inr (.inl (some 259)))), (1, .inl (Int32.ofNat x))]) (S' := [.inl (Int32.ofNat (kp_tv v)), .inl (Int32.ofNat j)]) (h' := (km_H (kmj h it) x (kp_nx t n (kp_start t n p)) (kp_start t n p) (kp_tk t n (kp_start t n p)) (kp_vv t n (kp_start t n p) u))) (by with_unfolding_all rfl) ?_
    refine kc_call_rule (M2 := wk_m234) (av := [.inl (Int32.ofNat (kp_tv v))]) (r := [.inl (Int32.ofNat j)]) rfl rfl (kc_Con_le (km_num (d := 0) hg v hv) (by omega)) (fun rv h' hq => ?_)
    obtain ⟨rfl, rfl⟩ := hq
    show kc_Ev g (d + 4) wk_m64 Q 79 [(3, .inl (Int32.ofNat j)), (2, .inl (Int32.ofNat (kp_tv v))), (0, .inr (.inr (.inl (some 259)))), (1, .inl (Int32.ofNat x))] [.inl (Int32.ofNat (ks_L (kp_sh v))), .inl (Int32.ofNat j)] (km_H (kmj h it) x (kp_nx t n (kp_start t n p)) (kp_start t n p) (kp_tk t n (kp_start t n p)) (kp_vv t n (kp_start t n p) u))
    refine kx_go 1 (pc' := (if kc_cnd .ge (Int32.ofNat j).toInt (Int32.ofNat (ks_L (kp_sh v))).toInt then 175 else 82)) (L' := [(3, .inl (Int32.ofNat j)), (2, .inl (Int32.ofNat (kp_tv v))), (0, .inr (.inr (.inl (some 259)))), (1, .inl (Int32.ofNat x))]) (S' := []) (h' := (km_H (kmj h it) x (kp_nx t n (kp_start t n p)) (kp_start t n p) (kp_tk t n (kp_start t n p)) (kp_vv t n (kp_start t n p) u))) (by with_unfolding_all rfl) ?_
    rw [if_neg (fun w => by have := (kx_ge (by omega) (by omega)).mp w; omega)]
    have hst := kp_start_le (t := t) hp
    have hnx := kp_nx_le (t := t) hst.2
    obtain ⟨q0, q2, q3, qlt⟩ := kq_k (t := t) (n := n) (S := kp_start t n p)
    have hvv := kp_vv_lt (t := t) (n := n) (S := kp_start t n p) hu
    have hsh := km_sh v hv j (by omega)
    have hbad0 : kp_a1 t n (kp_sh v) j (kp_start t n p) = none → ∀ (h2 : kc_H) (a2 s2 k2 u2 : Nat), km_D h h2 → ((s2 ≤ n ∧ a2 ≤ n ∧ k2 < 27 ∧ u2 < 1000) ∧ s2 = kp_start t n p) → Q (some (.inl (Int32.ofNat 0))) (km_H (kmj h2 it) x a2 s2 k2 u2) := fun e h2 a2 s2 k2 u2 hh hs => hbad (by unfold kp_ar; rw [e]) h2 a2 s2 k2 u2 hh ⟨hs.1, hs.2.trans (kp_af0 e).symm⟩
    have hbad1 : ∀ y, kp_a1 t n (kp_sh v) j (kp_start t n p) = some y → kp_ar t n (kp_sh v) m (j + 1) (kp_nx t n (kp_start t n p)) = none → ∀ (h2 : kc_H) (a2 s2 k2 u2 : Nat), km_D h h2 → ((s2 ≤ n ∧ a2 ≤ n ∧ k2 < 27 ∧ u2 < 1000) ∧ s2 = kp_af t n (kp_sh v) m (j + 1) (kp_nx t n (kp_start t n p))) → Q (some (.inl (Int32.ofNat 0))) (km_H (kmj h2 it) x a2 s2 k2 u2) := fun y ey e h2 a2 s2 k2 u2 hh hs => hbad (by unfold kp_ar; rw [ey]; simp only; rw [e]) h2 a2 s2 k2 u2 hh ⟨hs.1, hs.2.trans (kp_af1 ey).symm⟩
    have hok1 : ∀ y, kp_a1 t n (kp_sh v) j (kp_start t n p) = some y → ∀ vs e, kp_ar t n (kp_sh v) m (j + 1) (kp_nx t n (kp_start t n p)) = some (vs, e) → _ := fun y ey vs e ev => hok (y :: vs) e (by unfold kp_ar; rw [ey]; simp only; rw [ev])
    have fail : ∀ (L : kc_L), kp_a1 t n (kp_sh v) j (kp_start t n p) = none → kc_Ev g (d + 4) wk_m64 Q 132 L [] (km_H (kmj h it) x (kp_nx t n (kp_start t n p)) (kp_start t n p) (kp_tk t n (kp_start t n p)) (kp_vv t n (kp_start t n p) u)) := by
      intro L e
      refine kx_go 1 (pc' := 133) (L' := L) (S' := [.inl (Int32.ofNat 0)]) (h' := (km_H (kmj h it) x (kp_nx t n (kp_start t n p)) (kp_start t n p) (kp_tk t n (kp_start t n p)) (kp_vv t n (kp_start t n p) u))) (by with_unfolding_all rfl) ?_
      exact kc_ret_ok rfl (rv := some (.inl (Int32.ofNat 0))) rfl (hbad0 e h _ _ _ _ km_D_rf ⟨⟨hst.2, hnx.2, qlt, hvv⟩, rfl⟩)
    have store : ∀ (b : Nat) (y : Nat), y < 1000 → kp_a1 t n (kp_sh v) j (kp_start t n p) = some y → kc_Ev g (d + 4) wk_m64 Q 164 [(4, .inl (Int32.ofNat b)), (3, .inl (Int32.ofNat j)), (2, .inl (Int32.ofNat (kp_tv v))), (0, .inr (.inr (.inl (some 259)))), (1, .inl (Int32.ofNat x))] [.inl (Int32.ofNat y), .inl (Int32.ofNat (5 * it + j)), .inr (.inr (.inl (some 265)))] (km_H (kmj h it) x (kp_nx t n (kp_start t n p)) (kp_start t n p) (kp_tk t n (kp_start t n p)) (kp_vv t n (kp_start t n p) u)) := by
      intro b y hy ey
      refine kx_iast rfl (c := 265) (j := 5 * it + j) (m := 1200) rfl (by decide) (by decide) (by omega) ?_
      rw [kmj_u (by decide)]
      have hD : km_D h (kc_upd h 265 (5 * it + j) (.inl (Int32.ofNat y))) := km_D_u5 (by omega) hy
      refine kx_go 1 (pc' := 166) (L' := [(4, .inl (Int32.ofNat b)), (3, .inl (Int32.ofNat j)), (2, .inl (Int32.ofNat (kp_tv v))), (0, .inr (.inr (.inl (some 259)))), (1, .inl (Int32.ofNat x))]) (S' := [.inr (.inr (.inl (some 259)))]) (h' := (km_H (kmj (kc_upd h 265 (5 * it + j) (.inl (Int32.ofNat y))) it) x (kp_nx t n (kp_start t n p)) (kp_start t n p) (kp_tk t n (kp_start t n p)) (kp_vv t n (kp_start t n p) u))) (by with_unfolding_all rfl) ?_
      refine kc_call_rule (M2 := wk_m65) (av := [.inr (.inr (.inl (some 259)))]) (r := []) rfl rfl (kc_Con_le (km_scan hg hx hn ((kmj_o (by decide)).trans ((km_D_n hD (by decide) (by decide)).trans hnt)) (fun j hj => (kmj_o (by decide)).trans ((fun j hj => (km_D_n hD (by decide) (by decide)).trans (ht j hj)) j hj)) hb hnx.2) (by omega)) (fun rv h' hq => ?_)
      obtain ⟨rfl, rfl⟩ := hq
      show kc_Ev g (d + 4) wk_m64 Q 169 [(4, .inl (Int32.ofNat b)), (3, .inl (Int32.ofNat j)), (2, .inl (Int32.ofNat (kp_tv v))), (0, .inr (.inr (.inl (some 259)))), (1, .inl (Int32.ofNat x))] [] (km_H (kmj (kc_upd h 265 (5 * it + j) (.inl (Int32.ofNat y))) it) x (kp_nx t n (kp_start t n (kp_nx t n (kp_start t n p)))) (kp_start t n (kp_nx t n (kp_start t n p))) (kp_tk t n (kp_start t n (kp_nx t n (kp_start t n p)))) (kp_vv t n (kp_start t n (kp_nx t n (kp_start t n p))) (kp_vv t n (kp_start t n p) u)))
      refine kx_go 2 (pc' := 74) (L' := [(3, .inl ((Int32.ofNat j) + Int32.ofInt 1)), (4, .inl (Int32.ofNat b)), (2, .inl (Int32.ofNat (kp_tv v))), (0, .inr (.inr (.inl (some 259)))), (1, .inl (Int32.ofNat x))]) (S' := []) (h' := (km_H (kmj (kc_upd h 265 (5 * it + j) (.inl (Int32.ofNat y))) it) x (kp_nx t n (kp_start t n (kp_nx t n (kp_start t n p)))) (kp_start t n (kp_nx t n (kp_start t n p))) (kp_tk t n (kp_start t n (kp_nx t n (kp_start t n p)))) (kp_vv t n (kp_start t n (kp_nx t n (kp_start t n p))) (kp_vv t n (kp_start t n p) u)))) (by with_unfolding_all rfl) ?_
      rw [kx_inc]
      refine kf_lo (L := [(3, .inl (Int32.ofNat (j + 1))), (2, .inl (Int32.ofNat (kp_tv v))), (0, .inr (.inr (.inl (some 259)))), (1, .inl (Int32.ofNat x))]) ?_ (ih (j + 1) (kc_upd h 265 (5 * it + j) (.inl (Int32.ofNat y))) _ _ (by omega) (by omega) ((km_D_n hD (by decide) (by decide)).trans hnt) (fun j hj => (km_D_n hD (by decide) (by decide)).trans (ht j hj)) hnx.2 hvv (fun vs e ev u2 hu2 => hok1 y ey vs e ev u2 hu2) (fun e h2 a2 s2 k2 u2 hh => hbad1 y ey e h2 a2 s2 k2 u2 (km_D_tr hD hh)))
      intro q hq
      simp only [List.mem_cons, List.not_mem_nil, or_false] at hq
      rcases hq with rfl | rfl | rfl | rfl <;> rfl
    by_cases ek : v = 1 ∧ j = 1
    · have ha1 : kp_a1 t n (kp_sh v) j (kp_start t n p) = _ := if_pos (hsh.mpr ek)
      rw [kq_t2] at ha1
      obtain ⟨rfl, rfl⟩ := ek
      refine kx_go 11 (pc' := 105) (L' := [(4, .inl (Int32.ofNat 1)), (3, .inl (Int32.ofNat 1)), (2, .inl (Int32.ofNat (kp_tv 1))), (0, .inr (.inr (.inl (some 259)))), (1, .inl (Int32.ofNat x))]) (S' := []) (h' := (km_H (kmj h it) x (kp_nx t n (kp_start t n p)) (kp_start t n p) (kp_tk t n (kp_start t n p)) (kp_vv t n (kp_start t n p) u))) (by with_unfolding_all rfl) ?_
      refine kx_go 4 (pc' := (if kc_cnd .eq (Int32.ofNat (kp_tk t n (kp_start t n p))).toInt (Int32.ofNat 4).toInt then 134 else 113)) (L' := [(4, .inl (Int32.ofNat 1)), (3, .inl (Int32.ofNat 1)), (2, .inl (Int32.ofNat (kp_tv 1))), (0, .inr (.inr (.inl (some 259)))), (1, .inl (Int32.ofNat x))]) (S' := []) (h' := (km_H (kmj h it) x (kp_nx t n (kp_start t n p)) (kp_start t n p) (kp_tk t n (kp_start t n p)) (kp_vv t n (kp_start t n p) u))) (by with_unfolding_all rfl) ?_
      by_cases e4 : kp_tk t n (kp_start t n p) = 4
      · rw [if_pos ((kx_eq (by omega) (by omega)).mpr e4)]
        have etk := e4
        refine kx_go 15 (pc' := 164) (L' := [(4, .inl (Int32.ofNat 1)), (3, .inl (Int32.ofNat 1)), (2, .inl (Int32.ofNat (kp_tv 1))), (0, .inr (.inr (.inl (some 259)))), (1, .inl (Int32.ofNat x))]) (S' := [.inl ((Int32.ofNat (kp_tk t n (kp_start t n p))) - (Int32.ofNat 4)), .inl (((Int32.ofNat 5) * (Int32.ofNat it)) + (Int32.ofNat 1)), .inr (.inr (.inl (some 265)))]) (h' := (km_H (kmj h it) x (kp_nx t n (kp_start t n p)) (kp_start t n p) (kp_tk t n (kp_start t n p)) (kp_vv t n (kp_start t n p) u))) (by with_unfolding_all rfl) ?_
        have esub : Int32.ofNat (kp_tk t n (kp_start t n p)) - Int32.ofNat 4 = Int32.ofNat 0 := by rw [etk]; rfl
        rw [kx_mul, kx_add, esub]
        exact store 1 0 (by decide) (by rw [ha1, etk]; rfl)
      · rw [if_neg (fun w => e4 ((kx_eq (by omega) (by omega)).mp w))]
        refine kx_go 4 (pc' := (if kc_cnd .eq (Int32.ofNat (kp_tk t n (kp_start t n p))).toInt (Int32.ofNat 5).toInt then 134 else 121)) (L' := [(4, .inl (Int32.ofNat 1)), (3, .inl (Int32.ofNat 1)), (2, .inl (Int32.ofNat (kp_tv 1))), (0, .inr (.inr (.inl (some 259)))), (1, .inl (Int32.ofNat x))]) (S' := []) (h' := (km_H (kmj h it) x (kp_nx t n (kp_start t n p)) (kp_start t n p) (kp_tk t n (kp_start t n p)) (kp_vv t n (kp_start t n p) u))) (by with_unfolding_all rfl) ?_
        by_cases e5 : kp_tk t n (kp_start t n p) = 5
        · rw [if_pos ((kx_eq (by omega) (by omega)).mpr e5)]
          have etk := e5
          refine kx_go 15 (pc' := 164) (L' := [(4, .inl (Int32.ofNat 1)), (3, .inl (Int32.ofNat 1)), (2, .inl (Int32.ofNat (kp_tv 1))), (0, .inr (.inr (.inl (some 259)))), (1, .inl (Int32.ofNat x))]) (S' := [.inl ((Int32.ofNat (kp_tk t n (kp_start t n p))) - (Int32.ofNat 4)), .inl (((Int32.ofNat 5) * (Int32.ofNat it)) + (Int32.ofNat 1)), .inr (.inr (.inl (some 265)))]) (h' := (km_H (kmj h it) x (kp_nx t n (kp_start t n p)) (kp_start t n p) (kp_tk t n (kp_start t n p)) (kp_vv t n (kp_start t n p) u))) (by with_unfolding_all rfl) ?_
          have esub : Int32.ofNat (kp_tk t n (kp_start t n p)) - Int32.ofNat 4 = Int32.ofNat 1 := by rw [etk]; rfl
          rw [kx_mul, kx_add, esub]
          exact store 1 1 (by decide) (by rw [ha1, etk]; rfl)
        · rw [if_neg (fun w => e5 ((kx_eq (by omega) (by omega)).mp w))]
          refine kx_go 1 (pc' := 132) (L' := [(4, .inl (Int32.ofNat 1)), (3, .inl (Int32.ofNat 1)), (2, .inl (Int32.ofNat (kp_tv 1))), (0, .inr (.inr (.inl (some 259)))), (1, .inl (Int32.ofNat x))]) (S' := []) (h' := (km_H (kmj h it) x (kp_nx t n (kp_start t n p)) (kp_start t n p) (kp_tk t n (kp_start t n p)) (kp_vv t n (kp_start t n p) u))) (by with_unfolding_all rfl) ?_
          exact fail _ (by rw [ha1, if_neg e5, if_neg e4])
    · have ha1 : kp_a1 t n (kp_sh v) j (kp_start t n p) = _ := if_neg (fun q => ek (hsh.mp q))
      have go97 : kc_Ev g (d + 4) wk_m64 Q 97 [(3, .inl (Int32.ofNat j)), (2, .inl (Int32.ofNat (kp_tv v))), (0, .inr (.inr (.inl (some 259)))), (1, .inl (Int32.ofNat x))] [] (km_H (kmj h it) x (kp_nx t n (kp_start t n p)) (kp_start t n p) (kp_tk t n (kp_start t n p)) (kp_vv t n (kp_start t n p) u)) := by
        refine kx_go 4 (pc' := 124) (L' := [(4, .inl (Int32.ofNat 0)), (3, .inl (Int32.ofNat j)), (2, .inl (Int32.ofNat (kp_tv v))), (0, .inr (.inr (.inl (some 259)))), (1, .inl (Int32.ofNat x))]) (S' := []) (h' := (km_H (kmj h it) x (kp_nx t n (kp_start t n p)) (kp_start t n p) (kp_tk t n (kp_start t n p)) (kp_vv t n (kp_start t n p) u))) (by with_unfolding_all rfl) ?_
        refine kx_go 4 (pc' := (if kc_cnd .eq (Int32.ofNat (kp_tk t n (kp_start t n p))).toInt (Int32.ofNat 2).toInt then 134 else 132)) (L' := [(4, .inl (Int32.ofNat 0)), (3, .inl (Int32.ofNat j)), (2, .inl (Int32.ofNat (kp_tv v))), (0, .inr (.inr (.inl (some 259)))), (1, .inl (Int32.ofNat x))]) (S' := []) (h' := (km_H (kmj h it) x (kp_nx t n (kp_start t n p)) (kp_start t n p) (kp_tk t n (kp_start t n p)) (kp_vv t n (kp_start t n p) u))) (by with_unfolding_all rfl) ?_
        by_cases e2 : kp_tk t n (kp_start t n p) = 2
        · rw [if_pos ((kx_eq (by omega) (by omega)).mpr e2)]
          refine kx_go 12 (pc' := 164) (L' := [(4, .inl (Int32.ofNat 0)), (3, .inl (Int32.ofNat j)), (2, .inl (Int32.ofNat (kp_tv v))), (0, .inr (.inr (.inl (some 259)))), (1, .inl (Int32.ofNat x))]) (S' := [.inl (Int32.ofNat (kp_vv t n (kp_start t n p) u)), .inl (((Int32.ofNat 5) * (Int32.ofNat it)) + (Int32.ofNat j)), .inr (.inr (.inl (some 265)))]) (h' := (km_H (kmj h it) x (kp_nx t n (kp_start t n p)) (kp_start t n p) (kp_tk t n (kp_start t n p)) (kp_vv t n (kp_start t n p) u))) (by with_unfolding_all rfl) ?_
          rw [kx_mul, kx_add]
          exact store 0 _ hvv (by rw [ha1, kq_v (v := u) (q2.mpr e2)])
        · rw [if_neg (fun w => e2 ((kx_eq (by omega) (by omega)).mp w))]
          exact fail _ (by rw [ha1, kq_nv (fun w => e2 (q2.mp w))])
      refine kx_go 3 (pc' := (if kc_cnd .ne (Int32.ofNat (kp_tv v)).toInt (Int32.ofNat 11).toInt then 97 else 88)) (L' := [(3, .inl (Int32.ofNat j)), (2, .inl (Int32.ofNat (kp_tv v))), (0, .inr (.inr (.inl (some 259)))), (1, .inl (Int32.ofNat x))]) (S' := []) (h' := (km_H (kmj h it) x (kp_nx t n (kp_start t n p)) (kp_start t n p) (kp_tk t n (kp_start t n p)) (kp_vv t n (kp_start t n p) u))) (by with_unfolding_all rfl) ?_
      by_cases e11 : kp_tv v = 11
      · rw [if_neg (fun w => (kx_ne (by omega) (by omega)).mp w e11)]
        have hv1 : v = 1 := by
          unfold kp_tv at e11
          split at e11 <;> omega
        refine kx_go 3 (pc' := (if kc_cnd .ne (Int32.ofNat j).toInt (Int32.ofNat 1).toInt then 97 else 93)) (L' := [(3, .inl (Int32.ofNat j)), (2, .inl (Int32.ofNat (kp_tv v))), (0, .inr (.inr (.inl (some 259)))), (1, .inl (Int32.ofNat x))]) (S' := []) (h' := (km_H (kmj h it) x (kp_nx t n (kp_start t n p)) (kp_start t n p) (kp_tk t n (kp_start t n p)) (kp_vv t n (kp_start t n p) u))) (by with_unfolding_all rfl) ?_
        rw [if_pos ((kx_ne (by omega) (by omega)).mpr (fun e => ek ⟨hv1, e⟩))]
        exact go97
      · rw [if_pos ((kx_ne (by omega) (by omega)).mpr e11)]
        exact go97
set_option maxRecDepth 20000 in
theorem km_rdlx0 {g : kc_G} {d : Nat} {Q : Option kc_V → kc_H → Prop} {n : Nat} {t : Nat → Nat} (hg : kc_ok g) (hn : n ≤ 240) (hb : ∀ j, j < 240 → t j < 256) : ∀ (u it : Nat) (h : kc_H) (p u0 : Nat), 61 - it = u → 4 * it ≤ p → p ≤ n → u0 < 1000 → h 260 (160 + 0) = .inl (Int32.ofNat n) → (∀ j, j < 240 → h 260 (170 + 240 * 0 + j) = .inl (Int32.ofNat (t j))) →
    (∀ l, kp_its t n 9 0 u p = some l → ∀ a2 s2 k2 u2, (s2 ≤ n ∧ a2 ≤ n ∧ k2 < 27 ∧ u2 < 1000) → Q (some (.inl (Int32.ofNat 1))) (km_H (kmj (km_ns h it l) (it + l.length)) 0 a2 s2 k2 u2)) →
    (kp_its t n 9 0 u p = none → ∀ (h2 : kc_H) (it2 a2 s2 k2 u2 : Nat), km_D h h2 → it2 ≤ 60 → ((s2 ≤ n ∧ a2 ≤ n ∧ k2 < 27 ∧ u2 < 1000) ∧ s2 = kp_flt t n 9 0 u p) → Q (some (.inl (Int32.ofNat 0))) (km_H (kmj h2 it2) 0 a2 s2 k2 u2)) → kc_Ev g (d + 4) wk_m64 Q 19 [(0, .inr (.inr (.inl (some 259)))), (1, .inl (Int32.ofNat 0))] [] (km_H (kmj h it) 0 (kp_nx t n (kp_start t n p)) (kp_start t n p) (kp_tk t n (kp_start t n p)) (kp_vv t n (kp_start t n p) u0)) := by
  have hx : 0 < 2 := by decide
  intro u
  induction u with
  | zero =>
    intro it h p u0 hu h4 hp hu0 hnt ht hok hbad
    omega
  | succ u ih =>
    intro it h p u0 hu h4 hp hu0 hnt ht hok hbad
    have hst := kp_start_le (t := t) hp
    have hnx := kp_nx_le (t := t) hst.2
    obtain ⟨q0, q2, q3, qlt⟩ := kq_k (t := t) (n := n) (S := kp_start t n p)
    have hvv := kp_vv_lt (t := t) (n := n) (S := kp_start t n p) hu0
    refine kx_go 3 (pc' := (if kc_cnd .eq (Int32.ofNat (kp_tk t n (kp_start t n p))).toInt 0 then 212 else 26)) (L' := [(0, .inr (.inr (.inl (some 259)))), (1, .inl (Int32.ofNat 0))]) (S' := []) (h' := (km_H (kmj h it) 0 (kp_nx t n (kp_start t n p)) (kp_start t n p) (kp_tk t n (kp_start t n p)) (kp_vv t n (kp_start t n p) u0))) (by with_unfolding_all rfl) ?_
    by_cases e0 : kp_tk t n (kp_start t n p) = 0
    · rw [if_pos (by rw [e0]; decide)]
      refine kx_go 1 (pc' := 213) (L' := [(0, .inr (.inr (.inl (some 259)))), (1, .inl (Int32.ofNat 0))]) (S' := [.inl (Int32.ofNat 1)]) (h' := (km_H (kmj h it) 0 (kp_nx t n (kp_start t n p)) (kp_start t n p) (kp_tk t n (kp_start t n p)) (kp_vv t n (kp_start t n p) u0))) (by with_unfolding_all rfl) ?_
      exact kc_ret_ok rfl (rv := some (.inl (Int32.ofNat 1))) rfl (hok [] (by unfold kp_its; rw [if_pos (q0.mpr e0)]) _ _ _ _ ⟨hst.2, hnx.2, qlt, hvv⟩)
    · have hkd0 : ¬ kp_kd t n (kp_start t n p) = 0 := fun e => e0 (q0.mp e)
      have hit : it < 60 := by
        have : ¬ n ≤ kp_start t n p := fun q => hkd0 (if_pos q)
        omega
      rw [if_neg (fun w => by unfold kc_cnd at w; rw [kx_ti (by omega)] at w; simp only [decide_eq_true_eq] at w; omega)]
      refine kx_go 9 (pc' := 43) (L' := [(2, .inl (Int32.ofNat (kp_tk t n (kp_start t n p)))), (0, .inr (.inr (.inl (some 259)))), (1, .inl (Int32.ofNat 0))]) (S' := [.inr (.inl (Int64.ofNat 18)), .inr (.inl (Int64.ofNat 10)), .inr (.inl ((Int32.ofNat (kp_tk t n (kp_start t n p))).toInt64))]) (h' := (km_H (kmj h it) 0 (kp_nx t n (kp_start t n p)) (kp_start t n p) (kp_tk t n (kp_start t n p)) (kp_vv t n (kp_start t n p) u0))) (by with_unfolding_all rfl) ?_
      rw [kx_i2l (by omega)]
      refine kc_call_rule (M2 := wk_m22) (av := [.inr (.inl (Int64.ofNat (kp_tk t n (kp_start t n p)))), .inr (.inl (Int64.ofNat 10)), .inr (.inl (Int64.ofNat 18))]) (r := []) rfl rfl (kc_Con_le (km_lies hg (by omega) (by omega) (by omega)) (by omega)) (fun rv h' hq => ?_)
      obtain ⟨rfl, rfl⟩ := hq
      show kc_Ev g (d + 4) wk_m64 Q 46 [(2, .inl (Int32.ofNat (kp_tk t n (kp_start t n p)))), (0, .inr (.inr (.inl (some 259)))), (1, .inl (Int32.ofNat 0))] [.inl (kp_b (decide (10 ≤ kp_tk t n (kp_start t n p) ∧ kp_tk t n (kp_start t n p) ≤ 18)))] (km_H (kmj h it) 0 (kp_nx t n (kp_start t n p)) (kp_start t n p) (kp_tk t n (kp_start t n p)) (kp_vv t n (kp_start t n p) u0))
      refine kx_go 1 (pc' := (if kc_cnd .ne (kp_b (decide (10 ≤ kp_tk t n (kp_start t n p) ∧ kp_tk t n (kp_start t n p) ≤ 18))).toInt 0 then 68 else 49)) (L' := [(2, .inl (Int32.ofNat (kp_tk t n (kp_start t n p)))), (0, .inr (.inr (.inl (some 259)))), (1, .inl (Int32.ofNat 0))]) (S' := []) (h' := (km_H (kmj h it) 0 (kp_nx t n (kp_start t n p)) (kp_start t n p) (kp_tk t n (kp_start t n p)) (kp_vv t n (kp_start t n p) u0))) (by with_unfolding_all rfl) ?_
      have hvb := kq_t0 (t := t) (n := n) (S := kp_start t n p)
      cases e1 : decide (10 ≤ kp_tk t n (kp_start t n p) ∧ kp_tk t n (kp_start t n p) ≤ 18) with
      | false =>
        rw [if_neg (fun w => by have := kx_b1.mp w; cases this)]
        rw [if_neg (of_decide_eq_false e1)] at hvb
        refine kx_go 2 (pc' := 67) (L' := [(2, .inl (Int32.ofNat (kp_tk t n (kp_start t n p)))), (0, .inr (.inr (.inl (some 259)))), (1, .inl (Int32.ofNat 0))]) (S' := [.inl (Int32.ofNat 0)]) (h' := (km_H (kmj h it) 0 (kp_nx t n (kp_start t n p)) (kp_start t n p) (kp_tk t n (kp_start t n p)) (kp_vv t n (kp_start t n p) u0))) (by with_unfolding_all rfl) ?_
        exact kc_ret_ok rfl (rv := some (.inl (Int32.ofNat 0))) rfl (hbad (by unfold kp_its; rw [if_neg hkd0]; unfold kp_item; rw [hvb]) h it _ _ _ _ km_D_rf (by omega) ⟨⟨hst.2, hnx.2, qlt, hvv⟩, ((kp_flt0 (by unfold kp_item; rw [hvb])).trans (kp_itf0 hvb)).symm⟩)
      | true =>
        rw [if_pos (kx_b1.mpr rfl)]
        have e1 := of_decide_eq_true e1
        rw [if_pos e1] at hvb
        obtain ⟨v, hv⟩ : ∃ v, v = kp_tk t n (kp_start t n p) - 10 := ⟨_, rfl⟩
        rw [← hv] at hvb
        have etv : kp_tk t n (kp_start t n p) = kp_tv v := by
          unfold kp_tv
          split <;> omega
        have hv16 : v < 16 := by omega
        obtain ⟨hi, hi4⟩ := kr_shl v hv16
        refine kf_lo (L := [(2, .inl (Int32.ofNat (kp_tv v))), (0, .inr (.inr (.inl (some 259)))), (1, .inl (Int32.ofNat 0))]) ?_ ?_
        · intro q hq
          simp only [List.mem_cons, List.not_mem_nil, or_false] at hq
          rcases hq with rfl | rfl | rfl
          · show some (Sum.inl (Int32.ofNat (kp_tk t n (kp_start t n p)))) = some (Sum.inl (Int32.ofNat (kp_tv v)))
            rw [etv]
          · rfl
          · rfl
        refine kx_go 1 (pc' := 69) (L' := [(2, .inl (Int32.ofNat (kp_tv v))), (0, .inr (.inr (.inl (some 259)))), (1, .inl (Int32.ofNat 0))]) (S' := [.inr (.inr (.inl (some 259)))]) (h' := (km_H (kmj h it) 0 (kp_nx t n (kp_start t n p)) (kp_start t n p) (kp_tk t n (kp_start t n p)) (kp_vv t n (kp_start t n p) u0))) (by with_unfolding_all rfl) ?_
        refine kc_call_rule (M2 := wk_m65) (av := [.inr (.inr (.inl (some 259)))]) (r := []) rfl rfl (kc_Con_le (km_scan hg hx hn ((kmj_o (by decide)).trans hnt) (fun j hj => (kmj_o (by decide)).trans (ht j hj)) hb hnx.2) (by omega)) (fun rv h' hq => ?_)
        obtain ⟨rfl, rfl⟩ := hq
        show kc_Ev g (d + 4) wk_m64 Q 72 [(2, .inl (Int32.ofNat (kp_tv v))), (0, .inr (.inr (.inl (some 259)))), (1, .inl (Int32.ofNat 0))] [] (km_H (kmj h it) 0 (kp_nx t n (kp_start t n (kp_nx t n (kp_start t n p)))) (kp_start t n (kp_nx t n (kp_start t n p))) (kp_tk t n (kp_start t n (kp_nx t n (kp_start t n p)))) (kp_vv t n (kp_start t n (kp_nx t n (kp_start t n p))) (kp_vv t n (kp_start t n p) u0)))
        refine kx_go 2 (pc' := 74) (L' := [(3, .inl (Int32.ofNat 0)), (2, .inl (Int32.ofNat (kp_tv v))), (0, .inr (.inr (.inl (some 259)))), (1, .inl (Int32.ofNat 0))]) (S' := []) (h' := (km_H (kmj h it) 0 (kp_nx t n (kp_start t n (kp_nx t n (kp_start t n p)))) (kp_start t n (kp_nx t n (kp_start t n p))) (kp_tk t n (kp_start t n (kp_nx t n (kp_start t n p)))) (kp_vv t n (kp_start t n (kp_nx t n (kp_start t n p))) (kp_vv t n (kp_start t n p) u0)))) (by with_unfolding_all rfl) ?_
        refine km_arlx (d := d) hg hx hn hb hv16 hit (ks_L (kp_sh v)) 0 h _ _ rfl (Nat.zero_le _) hnt ht hnx.2 hvv (fun vs e hev u2 hu2 => ?_) (fun hev h2 a2 s2 k2 u2 hh hb2 => ?_)
        · obtain ⟨b1, b2, b3⟩ := kp_ar_le _ _ _ _ _ hnx.2 hev
          have hlt := kp_ar_lt _ _ _ _ _ hev
          have hst2 := kp_start_le (t := t) b2
          have hnx2 := kp_nx_le (t := t) hst2.2
          obtain ⟨r0, r2, r3, rlt⟩ := kq_k (t := t) (n := n) (S := kp_start t n e)
          have hvv2 := kp_vv_lt (t := t) (n := n) (S := kp_start t n e) hu2
          have hDw := km_D_nw hit vs h 0 (by rw [b3]; omega) hlt
          refine kx_go 4 (pc' := (if kc_cnd .eq (Int32.ofNat (kp_tk t n (kp_start t n e))).toInt (Int32.ofNat 3).toInt then 185 else 183)) (L' := [(2, .inl (Int32.ofNat (kp_tv v))), (0, .inr (.inr (.inl (some 259)))), (1, .inl (Int32.ofNat 0))]) (S' := []) (h' := (km_H (kmj (km_nw h it 0 vs) it) 0 (kp_nx t n (kp_start t n e)) (kp_start t n e) (kp_tk t n (kp_start t n e)) (kp_vv t n (kp_start t n e) u2))) (by with_unfolding_all rfl) ?_
          by_cases e3 : kp_tk t n (kp_start t n e) = 3
          · rw [if_pos ((kx_eq (by omega) (by omega)).mpr e3)]
            have hitem : kp_item t n 9 0 (kp_nx t n (kp_start t n p)) (kp_kd t n (kp_start t n p)) (kp_start t n p) = some ((v, vs), kp_nx t n (kp_start t n e)) := by
              unfold kp_item
              rw [hvb]
              simp only
              rw [hev]
              simp only
              rw [if_pos (r3.mpr e3)]
            obtain ⟨c1, c2, c3, c4, c5, c6⟩ := kp_item_le (by omega) hnx.1 hnx.2 hitem
            refine kx_go 5 (pc' := 194) (L' := [(2, .inl (Int32.ofNat (kp_tv v))), (0, .inr (.inr (.inl (some 259)))), (1, .inl (Int32.ofNat 0))]) (S' := [.inl (Int32.ofNat (kp_tv v)), .inl (Int32.ofNat it), .inr (.inr (.inl (some 264)))]) (h' := (km_H (kmj (km_nw h it 0 vs) it) 0 (kp_nx t n (kp_start t n e)) (kp_start t n e) (kp_tk t n (kp_start t n e)) (kp_vv t n (kp_start t n e) u2))) (by with_unfolding_all rfl) ?_
            refine kx_iast rfl (c := 264) (j := it) (m := 240) rfl (by decide) (by decide) (by omega) ?_
            rw [kmj_u (by decide)]
            show kc_Ev g (d + 4) wk_m64 Q 195 [(2, .inl (Int32.ofNat (kp_tv v))), (0, .inr (.inr (.inl (some 259)))), (1, .inl (Int32.ofNat 0))] [] (km_H (kmj (km_n1 h it (v, vs)) it) 0 (kp_nx t n (kp_start t n e)) (kp_start t n e) (kp_tk t n (kp_start t n e)) (kp_vv t n (kp_start t n e) u2))
            refine kx_go 5 (pc' := 202) (L' := [(2, .inl (Int32.ofNat (kp_tv v))), (0, .inr (.inr (.inl (some 259)))), (1, .inl (Int32.ofNat 0))]) (S' := [.inl ((Int32.ofNat it) + (Int32.ofNat 1)), .inr (.inr (.inl (some 259)))]) (h' := (km_H (kmj (km_n1 h it (v, vs)) it) 0 (kp_nx t n (kp_start t n e)) (kp_start t n e) (kp_tk t n (kp_start t n e)) (kp_vv t n (kp_start t n e) u2))) (by with_unfolding_all rfl) ?_
            refine kx_go 1 (pc' := 205) (L' := [(2, .inl (Int32.ofNat (kp_tv v))), (0, .inr (.inr (.inl (some 259)))), (1, .inl (Int32.ofNat 0))]) (S' := []) (h' := kc_upd (km_H (kmj (km_n1 h it (v, vs)) it) 0 (kp_nx t n (kp_start t n e)) (kp_start t n e) (kp_tk t n (kp_start t n e)) (kp_vv t n (kp_start t n e) u2)) 259 13 (.inl (Int32.ofNat it + Int32.ofNat 1))) (by with_unfolding_all rfl) ?_
            rw [kx_inc1, kmj_13]
            have hD := km_D_n1 (h := h) (q := (v, vs)) hit (by show vs.length ≤ 4; rw [b3]; omega) hv16 hlt
            have hnt2 : km_n1 h it (v, vs) 260 (160 + 0) = .inl (Int32.ofNat n) := (km_D_n hD (by decide) (by decide)).trans hnt
            have ht2 : ∀ j, j < 240 → km_n1 h it (v, vs) 260 (170 + 240 * 0 + j) = .inl (Int32.ofNat (t j)) := fun j hj => (km_D_n hD (by decide) (by decide)).trans (ht j hj)
            refine kx_go 1 (pc' := 206) (L' := [(2, .inl (Int32.ofNat (kp_tv v))), (0, .inr (.inr (.inl (some 259)))), (1, .inl (Int32.ofNat 0))]) (S' := [.inr (.inr (.inl (some 259)))]) (h' := (km_H (kmj (km_n1 h it (v, vs)) (it + 1)) 0 (kp_nx t n (kp_start t n e)) (kp_start t n e) (kp_tk t n (kp_start t n e)) (kp_vv t n (kp_start t n e) u2))) (by with_unfolding_all rfl) ?_
            refine kc_call_rule (M2 := wk_m65) (av := [.inr (.inr (.inl (some 259)))]) (r := []) rfl rfl (kc_Con_le (km_scan hg hx hn ((kmj_o (by decide)).trans hnt2) (fun j hj => (kmj_o (by decide)).trans (ht2 j hj)) hb hnx2.2) (by omega)) (fun rv h' hq => ?_)
            obtain ⟨rfl, rfl⟩ := hq
            show kc_Ev g (d + 4) wk_m64 Q 209 [(2, .inl (Int32.ofNat (kp_tv v))), (0, .inr (.inr (.inl (some 259)))), (1, .inl (Int32.ofNat 0))] [] (km_H (kmj (km_n1 h it (v, vs)) (it + 1)) 0 (kp_nx t n (kp_start t n (kp_nx t n (kp_start t n e)))) (kp_start t n (kp_nx t n (kp_start t n e))) (kp_tk t n (kp_start t n (kp_nx t n (kp_start t n e)))) (kp_vv t n (kp_start t n (kp_nx t n (kp_start t n e))) (kp_vv t n (kp_start t n e) u2)))
            refine kx_go 1 (pc' := 19) (L' := [(2, .inl (Int32.ofNat (kp_tv v))), (0, .inr (.inr (.inl (some 259)))), (1, .inl (Int32.ofNat 0))]) (S' := []) (h' := (km_H (kmj (km_n1 h it (v, vs)) (it + 1)) 0 (kp_nx t n (kp_start t n (kp_nx t n (kp_start t n e)))) (kp_start t n (kp_nx t n (kp_start t n e))) (kp_tk t n (kp_start t n (kp_nx t n (kp_start t n e)))) (kp_vv t n (kp_start t n (kp_nx t n (kp_start t n e))) (kp_vv t n (kp_start t n e) u2)))) (by with_unfolding_all rfl) ?_
            refine kf_lo (L := [(0, .inr (.inr (.inl (some 259)))), (1, .inl (Int32.ofNat 0))]) ?_ (ih (it + 1) (km_n1 h it (v, vs)) _ _ (by omega) (by simp only at c1; omega) hnx2.2 hvv2 hnt2 ht2 (fun l hl a2 s2 k2 u3 hb3 => ?_) (fun hl h2 it2 a2 s2 k2 u3 hh a1 hb3 => ?_))
            · intro q hq
              simp only [List.mem_cons, List.not_mem_nil, or_false] at hq
              rcases hq with rfl | rfl <;> rfl
            · have := hok ((v, vs) :: l) (by unfold kp_its; rw [if_neg hkd0, hitem]; simp only; rw [hl]) a2 s2 k2 u3 hb3
              rw [show it + 1 + l.length = it + ((v, vs) :: l).length from by rw [List.length_cons]; omega]
              exact this
            · exact hbad (by unfold kp_its; rw [if_neg hkd0, hitem]; simp only; rw [hl]) h2 it2 a2 s2 k2 u3 (km_D_tr hD hh) a1 ⟨hb3.1, hb3.2.trans (kp_flt1 hitem).symm⟩
          · rw [if_neg (fun w => e3 ((kx_eq (by omega) (by omega)).mp w))]
            refine kx_go 1 (pc' := 184) (L' := [(2, .inl (Int32.ofNat (kp_tv v))), (0, .inr (.inr (.inl (some 259)))), (1, .inl (Int32.ofNat 0))]) (S' := [.inl (Int32.ofNat 0)]) (h' := (km_H (kmj (km_nw h it 0 vs) it) 0 (kp_nx t n (kp_start t n e)) (kp_start t n e) (kp_tk t n (kp_start t n e)) (kp_vv t n (kp_start t n e) u2))) (by with_unfolding_all rfl) ?_
            exact kc_ret_ok rfl (rv := some (.inl (Int32.ofNat 0))) rfl (hbad (by unfold kp_its; rw [if_neg hkd0]; unfold kp_item; rw [hvb]; simp only; rw [hev]; simp only; rw [if_neg (fun w => e3 (r3.mp w))]) _ it _ _ _ _ hDw (by omega) ⟨⟨hst2.2, hnx2.2, rlt, hvv2⟩, ((kp_flt0 (by unfold kp_item; rw [hvb]; simp only; rw [hev]; simp only; rw [if_neg (fun w => e3 (r3.mp w))])).trans (kp_itf2 hvb hev)).symm⟩)
        · exact hbad (by unfold kp_its; rw [if_neg hkd0]; unfold kp_item; rw [hvb]; simp only; rw [hev]) h2 it a2 s2 k2 u2 hh (by omega) ⟨hb2.1, hb2.2.trans ((kp_flt0 (by unfold kp_item; rw [hvb]; simp only; rw [hev])).trans (kp_itf1 hvb hev)).symm⟩
set_option maxRecDepth 20000 in
theorem km_rdlx1 {g : kc_G} {d : Nat} {Q : Option kc_V → kc_H → Prop} {n : Nat} {t : Nat → Nat} (hg : kc_ok g) (hn : n ≤ 240) (hb : ∀ j, j < 240 → t j < 256) : ∀ (u it : Nat) (h : kc_H) (p u0 : Nat), 61 - it = u → 4 * it ≤ p → p ≤ n → u0 < 1000 → h 260 (160 + 1) = .inl (Int32.ofNat n) → (∀ j, j < 240 → h 260 (170 + 240 * 1 + j) = .inl (Int32.ofNat (t j))) →
    (∀ l, kp_its t n 7 9 u p = some l → ∀ a2 s2 k2 u2, (s2 ≤ n ∧ a2 ≤ n ∧ k2 < 27 ∧ u2 < 1000) → Q (some (.inl (Int32.ofNat 1))) (km_H (kmj (km_ns h it l) (it + l.length)) 1 a2 s2 k2 u2)) →
    (kp_its t n 7 9 u p = none → ∀ (h2 : kc_H) (it2 a2 s2 k2 u2 : Nat), km_D h h2 → it2 ≤ 60 → ((s2 ≤ n ∧ a2 ≤ n ∧ k2 < 27 ∧ u2 < 1000) ∧ s2 = kp_flt t n 7 9 u p) → Q (some (.inl (Int32.ofNat 0))) (km_H (kmj h2 it2) 1 a2 s2 k2 u2)) → kc_Ev g (d + 4) wk_m64 Q 19 [(0, .inr (.inr (.inl (some 259)))), (1, .inl (Int32.ofNat 1))] [] (km_H (kmj h it) 1 (kp_nx t n (kp_start t n p)) (kp_start t n p) (kp_tk t n (kp_start t n p)) (kp_vv t n (kp_start t n p) u0)) := by
  have hx : 1 < 2 := by decide
  intro u
  induction u with
  | zero =>
    intro it h p u0 hu h4 hp hu0 hnt ht hok hbad
    omega
  | succ u ih =>
    intro it h p u0 hu h4 hp hu0 hnt ht hok hbad
    have hst := kp_start_le (t := t) hp
    have hnx := kp_nx_le (t := t) hst.2
    obtain ⟨q0, q2, q3, qlt⟩ := kq_k (t := t) (n := n) (S := kp_start t n p)
    have hvv := kp_vv_lt (t := t) (n := n) (S := kp_start t n p) hu0
    refine kx_go 3 (pc' := (if kc_cnd .eq (Int32.ofNat (kp_tk t n (kp_start t n p))).toInt 0 then 212 else 26)) (L' := [(0, .inr (.inr (.inl (some 259)))), (1, .inl (Int32.ofNat 1))]) (S' := []) (h' := (km_H (kmj h it) 1 (kp_nx t n (kp_start t n p)) (kp_start t n p) (kp_tk t n (kp_start t n p)) (kp_vv t n (kp_start t n p) u0))) (by with_unfolding_all rfl) ?_
    by_cases e0 : kp_tk t n (kp_start t n p) = 0
    · rw [if_pos (by rw [e0]; decide)]
      refine kx_go 1 (pc' := 213) (L' := [(0, .inr (.inr (.inl (some 259)))), (1, .inl (Int32.ofNat 1))]) (S' := [.inl (Int32.ofNat 1)]) (h' := (km_H (kmj h it) 1 (kp_nx t n (kp_start t n p)) (kp_start t n p) (kp_tk t n (kp_start t n p)) (kp_vv t n (kp_start t n p) u0))) (by with_unfolding_all rfl) ?_
      exact kc_ret_ok rfl (rv := some (.inl (Int32.ofNat 1))) rfl (hok [] (by unfold kp_its; rw [if_pos (q0.mpr e0)]) _ _ _ _ ⟨hst.2, hnx.2, qlt, hvv⟩)
    · have hkd0 : ¬ kp_kd t n (kp_start t n p) = 0 := fun e => e0 (q0.mp e)
      have hit : it < 60 := by
        have : ¬ n ≤ kp_start t n p := fun q => hkd0 (if_pos q)
        omega
      rw [if_neg (fun w => by unfold kc_cnd at w; rw [kx_ti (by omega)] at w; simp only [decide_eq_true_eq] at w; omega)]
      refine kx_go 9 (pc' := 60) (L' := [(2, .inl (Int32.ofNat (kp_tk t n (kp_start t n p)))), (0, .inr (.inr (.inl (some 259)))), (1, .inl (Int32.ofNat 1))]) (S' := [.inr (.inl (Int64.ofNat 26)), .inr (.inl (Int64.ofNat 20)), .inr (.inl ((Int32.ofNat (kp_tk t n (kp_start t n p))).toInt64))]) (h' := (km_H (kmj h it) 1 (kp_nx t n (kp_start t n p)) (kp_start t n p) (kp_tk t n (kp_start t n p)) (kp_vv t n (kp_start t n p) u0))) (by with_unfolding_all rfl) ?_
      rw [kx_i2l (by omega)]
      refine kc_call_rule (M2 := wk_m22) (av := [.inr (.inl (Int64.ofNat (kp_tk t n (kp_start t n p)))), .inr (.inl (Int64.ofNat 20)), .inr (.inl (Int64.ofNat 26))]) (r := []) rfl rfl (kc_Con_le (km_lies hg (by omega) (by omega) (by omega)) (by omega)) (fun rv h' hq => ?_)
      obtain ⟨rfl, rfl⟩ := hq
      show kc_Ev g (d + 4) wk_m64 Q 63 [(2, .inl (Int32.ofNat (kp_tk t n (kp_start t n p)))), (0, .inr (.inr (.inl (some 259)))), (1, .inl (Int32.ofNat 1))] [.inl (kp_b (decide (20 ≤ kp_tk t n (kp_start t n p) ∧ kp_tk t n (kp_start t n p) ≤ 26)))] (km_H (kmj h it) 1 (kp_nx t n (kp_start t n p)) (kp_start t n p) (kp_tk t n (kp_start t n p)) (kp_vv t n (kp_start t n p) u0))
      refine kx_go 1 (pc' := (if kc_cnd .ne (kp_b (decide (20 ≤ kp_tk t n (kp_start t n p) ∧ kp_tk t n (kp_start t n p) ≤ 26))).toInt 0 then 68 else 66)) (L' := [(2, .inl (Int32.ofNat (kp_tk t n (kp_start t n p)))), (0, .inr (.inr (.inl (some 259)))), (1, .inl (Int32.ofNat 1))]) (S' := []) (h' := (km_H (kmj h it) 1 (kp_nx t n (kp_start t n p)) (kp_start t n p) (kp_tk t n (kp_start t n p)) (kp_vv t n (kp_start t n p) u0))) (by with_unfolding_all rfl) ?_
      have hvb := kq_t1 (t := t) (n := n) (S := kp_start t n p)
      cases e1 : decide (20 ≤ kp_tk t n (kp_start t n p) ∧ kp_tk t n (kp_start t n p) ≤ 26) with
      | false =>
        rw [if_neg (fun w => by have := kx_b1.mp w; cases this)]
        rw [if_neg (of_decide_eq_false e1)] at hvb
        refine kx_go 1 (pc' := 67) (L' := [(2, .inl (Int32.ofNat (kp_tk t n (kp_start t n p)))), (0, .inr (.inr (.inl (some 259)))), (1, .inl (Int32.ofNat 1))]) (S' := [.inl (Int32.ofNat 0)]) (h' := (km_H (kmj h it) 1 (kp_nx t n (kp_start t n p)) (kp_start t n p) (kp_tk t n (kp_start t n p)) (kp_vv t n (kp_start t n p) u0))) (by with_unfolding_all rfl) ?_
        exact kc_ret_ok rfl (rv := some (.inl (Int32.ofNat 0))) rfl (hbad (by unfold kp_its; rw [if_neg hkd0]; unfold kp_item; rw [hvb]) h it _ _ _ _ km_D_rf (by omega) ⟨⟨hst.2, hnx.2, qlt, hvv⟩, ((kp_flt0 (by unfold kp_item; rw [hvb])).trans (kp_itf0 hvb)).symm⟩)
      | true =>
        rw [if_pos (kx_b1.mpr rfl)]
        have e1 := of_decide_eq_true e1
        rw [if_pos e1] at hvb
        obtain ⟨v, hv⟩ : ∃ v, v = kp_tk t n (kp_start t n p) - 11 := ⟨_, rfl⟩
        rw [← hv] at hvb
        have etv : kp_tk t n (kp_start t n p) = kp_tv v := by
          unfold kp_tv
          split <;> omega
        have hv16 : v < 16 := by omega
        obtain ⟨hi, hi4⟩ := kr_shl v hv16
        refine kf_lo (L := [(2, .inl (Int32.ofNat (kp_tv v))), (0, .inr (.inr (.inl (some 259)))), (1, .inl (Int32.ofNat 1))]) ?_ ?_
        · intro q hq
          simp only [List.mem_cons, List.not_mem_nil, or_false] at hq
          rcases hq with rfl | rfl | rfl
          · show some (Sum.inl (Int32.ofNat (kp_tk t n (kp_start t n p)))) = some (Sum.inl (Int32.ofNat (kp_tv v)))
            rw [etv]
          · rfl
          · rfl
        refine kx_go 1 (pc' := 69) (L' := [(2, .inl (Int32.ofNat (kp_tv v))), (0, .inr (.inr (.inl (some 259)))), (1, .inl (Int32.ofNat 1))]) (S' := [.inr (.inr (.inl (some 259)))]) (h' := (km_H (kmj h it) 1 (kp_nx t n (kp_start t n p)) (kp_start t n p) (kp_tk t n (kp_start t n p)) (kp_vv t n (kp_start t n p) u0))) (by with_unfolding_all rfl) ?_
        refine kc_call_rule (M2 := wk_m65) (av := [.inr (.inr (.inl (some 259)))]) (r := []) rfl rfl (kc_Con_le (km_scan hg hx hn ((kmj_o (by decide)).trans hnt) (fun j hj => (kmj_o (by decide)).trans (ht j hj)) hb hnx.2) (by omega)) (fun rv h' hq => ?_)
        obtain ⟨rfl, rfl⟩ := hq
        show kc_Ev g (d + 4) wk_m64 Q 72 [(2, .inl (Int32.ofNat (kp_tv v))), (0, .inr (.inr (.inl (some 259)))), (1, .inl (Int32.ofNat 1))] [] (km_H (kmj h it) 1 (kp_nx t n (kp_start t n (kp_nx t n (kp_start t n p)))) (kp_start t n (kp_nx t n (kp_start t n p))) (kp_tk t n (kp_start t n (kp_nx t n (kp_start t n p)))) (kp_vv t n (kp_start t n (kp_nx t n (kp_start t n p))) (kp_vv t n (kp_start t n p) u0)))
        refine kx_go 2 (pc' := 74) (L' := [(3, .inl (Int32.ofNat 0)), (2, .inl (Int32.ofNat (kp_tv v))), (0, .inr (.inr (.inl (some 259)))), (1, .inl (Int32.ofNat 1))]) (S' := []) (h' := (km_H (kmj h it) 1 (kp_nx t n (kp_start t n (kp_nx t n (kp_start t n p)))) (kp_start t n (kp_nx t n (kp_start t n p))) (kp_tk t n (kp_start t n (kp_nx t n (kp_start t n p)))) (kp_vv t n (kp_start t n (kp_nx t n (kp_start t n p))) (kp_vv t n (kp_start t n p) u0)))) (by with_unfolding_all rfl) ?_
        refine km_arlx (d := d) hg hx hn hb hv16 hit (ks_L (kp_sh v)) 0 h _ _ rfl (Nat.zero_le _) hnt ht hnx.2 hvv (fun vs e hev u2 hu2 => ?_) (fun hev h2 a2 s2 k2 u2 hh hb2 => ?_)
        · obtain ⟨b1, b2, b3⟩ := kp_ar_le _ _ _ _ _ hnx.2 hev
          have hlt := kp_ar_lt _ _ _ _ _ hev
          have hst2 := kp_start_le (t := t) b2
          have hnx2 := kp_nx_le (t := t) hst2.2
          obtain ⟨r0, r2, r3, rlt⟩ := kq_k (t := t) (n := n) (S := kp_start t n e)
          have hvv2 := kp_vv_lt (t := t) (n := n) (S := kp_start t n e) hu2
          have hDw := km_D_nw hit vs h 0 (by rw [b3]; omega) hlt
          refine kx_go 4 (pc' := (if kc_cnd .eq (Int32.ofNat (kp_tk t n (kp_start t n e))).toInt (Int32.ofNat 3).toInt then 185 else 183)) (L' := [(2, .inl (Int32.ofNat (kp_tv v))), (0, .inr (.inr (.inl (some 259)))), (1, .inl (Int32.ofNat 1))]) (S' := []) (h' := (km_H (kmj (km_nw h it 0 vs) it) 1 (kp_nx t n (kp_start t n e)) (kp_start t n e) (kp_tk t n (kp_start t n e)) (kp_vv t n (kp_start t n e) u2))) (by with_unfolding_all rfl) ?_
          by_cases e3 : kp_tk t n (kp_start t n e) = 3
          · rw [if_pos ((kx_eq (by omega) (by omega)).mpr e3)]
            have hitem : kp_item t n 7 9 (kp_nx t n (kp_start t n p)) (kp_kd t n (kp_start t n p)) (kp_start t n p) = some ((v, vs), kp_nx t n (kp_start t n e)) := by
              unfold kp_item
              rw [hvb]
              simp only
              rw [hev]
              simp only
              rw [if_pos (r3.mpr e3)]
            obtain ⟨c1, c2, c3, c4, c5, c6⟩ := kp_item_le (by omega) hnx.1 hnx.2 hitem
            refine kx_go 5 (pc' := 194) (L' := [(2, .inl (Int32.ofNat (kp_tv v))), (0, .inr (.inr (.inl (some 259)))), (1, .inl (Int32.ofNat 1))]) (S' := [.inl (Int32.ofNat (kp_tv v)), .inl (Int32.ofNat it), .inr (.inr (.inl (some 264)))]) (h' := (km_H (kmj (km_nw h it 0 vs) it) 1 (kp_nx t n (kp_start t n e)) (kp_start t n e) (kp_tk t n (kp_start t n e)) (kp_vv t n (kp_start t n e) u2))) (by with_unfolding_all rfl) ?_
            refine kx_iast rfl (c := 264) (j := it) (m := 240) rfl (by decide) (by decide) (by omega) ?_
            rw [kmj_u (by decide)]
            show kc_Ev g (d + 4) wk_m64 Q 195 [(2, .inl (Int32.ofNat (kp_tv v))), (0, .inr (.inr (.inl (some 259)))), (1, .inl (Int32.ofNat 1))] [] (km_H (kmj (km_n1 h it (v, vs)) it) 1 (kp_nx t n (kp_start t n e)) (kp_start t n e) (kp_tk t n (kp_start t n e)) (kp_vv t n (kp_start t n e) u2))
            refine kx_go 5 (pc' := 202) (L' := [(2, .inl (Int32.ofNat (kp_tv v))), (0, .inr (.inr (.inl (some 259)))), (1, .inl (Int32.ofNat 1))]) (S' := [.inl ((Int32.ofNat it) + (Int32.ofNat 1)), .inr (.inr (.inl (some 259)))]) (h' := (km_H (kmj (km_n1 h it (v, vs)) it) 1 (kp_nx t n (kp_start t n e)) (kp_start t n e) (kp_tk t n (kp_start t n e)) (kp_vv t n (kp_start t n e) u2))) (by with_unfolding_all rfl) ?_
            refine kx_go 1 (pc' := 205) (L' := [(2, .inl (Int32.ofNat (kp_tv v))), (0, .inr (.inr (.inl (some 259)))), (1, .inl (Int32.ofNat 1))]) (S' := []) (h' := kc_upd (km_H (kmj (km_n1 h it (v, vs)) it) 1 (kp_nx t n (kp_start t n e)) (kp_start t n e) (kp_tk t n (kp_start t n e)) (kp_vv t n (kp_start t n e) u2)) 259 13 (.inl (Int32.ofNat it + Int32.ofNat 1))) (by with_unfolding_all rfl) ?_
            rw [kx_inc1, kmj_13]
            have hD := km_D_n1 (h := h) (q := (v, vs)) hit (by show vs.length ≤ 4; rw [b3]; omega) hv16 hlt
            have hnt2 : km_n1 h it (v, vs) 260 (160 + 1) = .inl (Int32.ofNat n) := (km_D_n hD (by decide) (by decide)).trans hnt
            have ht2 : ∀ j, j < 240 → km_n1 h it (v, vs) 260 (170 + 240 * 1 + j) = .inl (Int32.ofNat (t j)) := fun j hj => (km_D_n hD (by decide) (by decide)).trans (ht j hj)
            refine kx_go 1 (pc' := 206) (L' := [(2, .inl (Int32.ofNat (kp_tv v))), (0, .inr (.inr (.inl (some 259)))), (1, .inl (Int32.ofNat 1))]) (S' := [.inr (.inr (.inl (some 259)))]) (h' := (km_H (kmj (km_n1 h it (v, vs)) (it + 1)) 1 (kp_nx t n (kp_start t n e)) (kp_start t n e) (kp_tk t n (kp_start t n e)) (kp_vv t n (kp_start t n e) u2))) (by with_unfolding_all rfl) ?_
            refine kc_call_rule (M2 := wk_m65) (av := [.inr (.inr (.inl (some 259)))]) (r := []) rfl rfl (kc_Con_le (km_scan hg hx hn ((kmj_o (by decide)).trans hnt2) (fun j hj => (kmj_o (by decide)).trans (ht2 j hj)) hb hnx2.2) (by omega)) (fun rv h' hq => ?_)
            obtain ⟨rfl, rfl⟩ := hq
            show kc_Ev g (d + 4) wk_m64 Q 209 [(2, .inl (Int32.ofNat (kp_tv v))), (0, .inr (.inr (.inl (some 259)))), (1, .inl (Int32.ofNat 1))] [] (km_H (kmj (km_n1 h it (v, vs)) (it + 1)) 1 (kp_nx t n (kp_start t n (kp_nx t n (kp_start t n e)))) (kp_start t n (kp_nx t n (kp_start t n e))) (kp_tk t n (kp_start t n (kp_nx t n (kp_start t n e)))) (kp_vv t n (kp_start t n (kp_nx t n (kp_start t n e))) (kp_vv t n (kp_start t n e) u2)))
            refine kx_go 1 (pc' := 19) (L' := [(2, .inl (Int32.ofNat (kp_tv v))), (0, .inr (.inr (.inl (some 259)))), (1, .inl (Int32.ofNat 1))]) (S' := []) (h' := (km_H (kmj (km_n1 h it (v, vs)) (it + 1)) 1 (kp_nx t n (kp_start t n (kp_nx t n (kp_start t n e)))) (kp_start t n (kp_nx t n (kp_start t n e))) (kp_tk t n (kp_start t n (kp_nx t n (kp_start t n e)))) (kp_vv t n (kp_start t n (kp_nx t n (kp_start t n e))) (kp_vv t n (kp_start t n e) u2)))) (by with_unfolding_all rfl) ?_
            refine kf_lo (L := [(0, .inr (.inr (.inl (some 259)))), (1, .inl (Int32.ofNat 1))]) ?_ (ih (it + 1) (km_n1 h it (v, vs)) _ _ (by omega) (by simp only at c1; omega) hnx2.2 hvv2 hnt2 ht2 (fun l hl a2 s2 k2 u3 hb3 => ?_) (fun hl h2 it2 a2 s2 k2 u3 hh a1 hb3 => ?_))
            · intro q hq
              simp only [List.mem_cons, List.not_mem_nil, or_false] at hq
              rcases hq with rfl | rfl <;> rfl
            · have := hok ((v, vs) :: l) (by unfold kp_its; rw [if_neg hkd0, hitem]; simp only; rw [hl]) a2 s2 k2 u3 hb3
              rw [show it + 1 + l.length = it + ((v, vs) :: l).length from by rw [List.length_cons]; omega]
              exact this
            · exact hbad (by unfold kp_its; rw [if_neg hkd0, hitem]; simp only; rw [hl]) h2 it2 a2 s2 k2 u3 (km_D_tr hD hh) a1 ⟨hb3.1, hb3.2.trans (kp_flt1 hitem).symm⟩
          · rw [if_neg (fun w => e3 ((kx_eq (by omega) (by omega)).mp w))]
            refine kx_go 1 (pc' := 184) (L' := [(2, .inl (Int32.ofNat (kp_tv v))), (0, .inr (.inr (.inl (some 259)))), (1, .inl (Int32.ofNat 1))]) (S' := [.inl (Int32.ofNat 0)]) (h' := (km_H (kmj (km_nw h it 0 vs) it) 1 (kp_nx t n (kp_start t n e)) (kp_start t n e) (kp_tk t n (kp_start t n e)) (kp_vv t n (kp_start t n e) u2))) (by with_unfolding_all rfl) ?_
            exact kc_ret_ok rfl (rv := some (.inl (Int32.ofNat 0))) rfl (hbad (by unfold kp_its; rw [if_neg hkd0]; unfold kp_item; rw [hvb]; simp only; rw [hev]; simp only; rw [if_neg (fun w => e3 (r3.mp w))]) _ it _ _ _ _ hDw (by omega) ⟨⟨hst2.2, hnx2.2, rlt, hvv2⟩, ((kp_flt0 (by unfold kp_item; rw [hvb]; simp only; rw [hev]; simp only; rw [if_neg (fun w => e3 (r3.mp w))])).trans (kp_itf2 hvb hev)).symm⟩)
        · exact hbad (by unfold kp_its; rw [if_neg hkd0]; unfold kp_item; rw [hvb]; simp only; rw [hev]) h2 it a2 s2 k2 u2 hh (by omega) ⟨hb2.1, hb2.2.trans ((kp_flt0 (by unfold kp_item; rw [hvb]; simp only; rw [hev])).trans (kp_itf1 hvb hev)).symm⟩
/-- what reads leaves behind -/
def km_Qrx (t : Nat → Nat) (n x m f : Nat) (h : kc_H) : Option kc_V → kc_H → Prop := fun rv h' => match kp_its t n m f 61 0 with
  | some l => ∃ a2 s2 k2 u2 : Nat, rv = some (.inl (Int32.ofNat 1)) ∧ (s2 ≤ n ∧ a2 ≤ n ∧ k2 < 27 ∧ u2 < 1000) ∧ h' = km_H (kmj (km_ns h 0 l) l.length) x a2 s2 k2 u2
  | none => ∃ (h2 : kc_H) (it2 a2 s2 k2 u2 : Nat), rv = some (.inl (Int32.ofNat 0)) ∧ (km_D h h2 ∧ it2 ≤ 60 ∧ ((s2 ≤ n ∧ a2 ≤ n ∧ k2 < 27 ∧ u2 < 1000) ∧ s2 = kp_flt t n m f 61 0)) ∧ h' = km_H (kmj h2 it2) x a2 s2 k2 u2
set_option maxRecDepth 20000 in
theorem km_readsx0 {g : kc_G} {d n s0 k0 v0 : Nat} {t : Nat → Nat} {h : kc_H} (hg : kc_ok g) (hn : n ≤ 240) (hb : ∀ j, j < 240 → t j < 256) (hnt : h 260 (160 + 0) = .inl (Int32.ofNat n)) (ht : ∀ j, j < 240 → h 260 (170 + 240 * 0 + j) = .inl (Int32.ofNat (t j))) (hv0 : v0 < 1000) (h0 : h 259 0 = .inr (.inr (.inl (some 260)))) (h8 : h 259 8 = .inl (Int32.ofNat s0)) (h9 : h 259 9 = .inl (Int32.ofNat k0)) (h10 : h 259 10 = .inl (Int32.ofNat v0)) (h11 : h 259 11 = .inr (.inr (.inl (some 264)))) (h12 : h 259 12 = .inr (.inr (.inl (some 265)))) : kc_Con g (d + 5) 64 [.inr (.inr (.inl (some 259))), .inl (Int32.ofNat 0)] h (km_Qrx t n 0 9 0 h) := by
  have hx : 0 < 2 := by decide
  refine kc_Con_new hg (M := wk_m64) rfl rfl rfl (show 2 ≤ 5 by decide) ?_
  refine kx_go 10 (pc' := 16) (L' := [(0, .inr (.inr (.inl (some 259)))), (1, .inl (Int32.ofNat 0))]) (S' := [.inr (.inr (.inl (some 259)))]) (h' := kc_upd (kc_upd (kc_upd h 259 6 (.inl (Int32.ofNat 0))) 259 7 (.inl (Int32.ofNat 0))) 259 13 (.inl (Int32.ofNat 0))) (by with_unfolding_all rfl) ?_
  rw [km_beg h0 h8 h9 h10 h11 h12]
  refine kc_call_rule (M2 := wk_m65) (av := [.inr (.inr (.inl (some 259)))]) (r := []) rfl rfl (kc_Con_le (km_scan hg hx hn ((kmj_o (by decide)).trans hnt) (fun j hj => (kmj_o (by decide)).trans (ht j hj)) hb (Nat.zero_le _)) (by omega)) (fun rv h' hq => ?_)
  obtain ⟨rfl, rfl⟩ := hq
  refine km_rdlx0 (d := d) hg hn hb 61 0 h 0 v0 rfl (by omega) (by omega) hv0 hnt ht (fun l hl a2 s2 k2 u2 hb2 => ?_) (fun hl h2 it2 a2 s2 k2 u2 b1 b2 b3 => ?_)
  · unfold km_Qrx
    rw [hl, Nat.zero_add]
    exact ⟨a2, s2, k2, u2, rfl, hb2, rfl⟩
  · unfold km_Qrx
    rw [hl]
    exact ⟨h2, it2, a2, s2, k2, u2, rfl, ⟨b1, b2, b3⟩, rfl⟩
set_option maxRecDepth 20000 in
theorem km_readsx1 {g : kc_G} {d n s0 k0 v0 : Nat} {t : Nat → Nat} {h : kc_H} (hg : kc_ok g) (hn : n ≤ 240) (hb : ∀ j, j < 240 → t j < 256) (hnt : h 260 (160 + 1) = .inl (Int32.ofNat n)) (ht : ∀ j, j < 240 → h 260 (170 + 240 * 1 + j) = .inl (Int32.ofNat (t j))) (hv0 : v0 < 1000) (h0 : h 259 0 = .inr (.inr (.inl (some 260)))) (h8 : h 259 8 = .inl (Int32.ofNat s0)) (h9 : h 259 9 = .inl (Int32.ofNat k0)) (h10 : h 259 10 = .inl (Int32.ofNat v0)) (h11 : h 259 11 = .inr (.inr (.inl (some 264)))) (h12 : h 259 12 = .inr (.inr (.inl (some 265)))) : kc_Con g (d + 5) 64 [.inr (.inr (.inl (some 259))), .inl (Int32.ofNat 1)] h (km_Qrx t n 1 7 9 h) := by
  have hx : 1 < 2 := by decide
  refine kc_Con_new hg (M := wk_m64) rfl rfl rfl (show 2 ≤ 5 by decide) ?_
  refine kx_go 10 (pc' := 16) (L' := [(0, .inr (.inr (.inl (some 259)))), (1, .inl (Int32.ofNat 1))]) (S' := [.inr (.inr (.inl (some 259)))]) (h' := kc_upd (kc_upd (kc_upd h 259 6 (.inl (Int32.ofNat 1))) 259 7 (.inl (Int32.ofNat 0))) 259 13 (.inl (Int32.ofNat 0))) (by with_unfolding_all rfl) ?_
  rw [km_beg h0 h8 h9 h10 h11 h12]
  refine kc_call_rule (M2 := wk_m65) (av := [.inr (.inr (.inl (some 259)))]) (r := []) rfl rfl (kc_Con_le (km_scan hg hx hn ((kmj_o (by decide)).trans hnt) (fun j hj => (kmj_o (by decide)).trans (ht j hj)) hb (Nat.zero_le _)) (by omega)) (fun rv h' hq => ?_)
  obtain ⟨rfl, rfl⟩ := hq
  refine km_rdlx1 (d := d) hg hn hb 61 0 h 0 v0 rfl (by omega) (by omega) hv0 hnt ht (fun l hl a2 s2 k2 u2 hb2 => ?_) (fun hl h2 it2 a2 s2 k2 u2 b1 b2 b3 => ?_)
  · unfold km_Qrx
    rw [hl, Nat.zero_add]
    exact ⟨a2, s2, k2, u2, rfl, hb2, rfl⟩
  · unfold km_Qrx
    rw [hl]
    exact ⟨h2, it2, a2, s2, k2, u2, rfl, ⟨b1, b2, b3⟩, rfl⟩
theorem km_Qrx_w {t : Nat → Nat} {n x m f : Nat} {h : kc_H} {rv : Option kc_V} {h' : kc_H} (hq : km_Qrx t n x m f h rv h') : km_Qr t n x m f h rv h' := by
  unfold km_Qrx at hq
  unfold km_Qr
  revert hq
  cases kp_its t n m f 61 0 with
  | some l => exact fun hq => hq
  | none =>
    intro hq
    obtain ⟨h2, it2, a2, s2, k2, u2, e1, ⟨e2, e3, e4, -⟩, e5⟩ := hq
    exact ⟨h2, it2, a2, s2, k2, u2, e1, ⟨e2, e3, e4⟩, e5⟩
end
section
-- 99.zpj
/-! ===== the day and FAULT, exactly ===== -/
def fu_dPx (s0 : Nat) (B : Nat → Int32) (o : Option (Nat × ((Nat → Int32) ⊕ Nat))) (rv : Option kc_V) (B' : Nat → Int32) : Prop := match o with
  | none => rv = some (.inl (Int32.ofInt (-10) - Int32.ofNat s0)) ∧ B' = B
  | some (k, .inl B2) => rv = some (.inl (Int32.ofNat k)) ∧ B' = B2
  | some (_, .inr i) => rv = some (.inl (Int32.ofInt (-1000) - Int32.ofNat i)) ∧ B' = B
def fu_d67x (s0 : Nat) (h : kc_H) (B : Nat → Int32) (o : Option (Nat × ((Nat → Int32) ⊕ Nat))) : Option kc_V → kc_H → Prop := fun rv h' => ∃ B', fu_dPx s0 B o rv B' ∧ fu_C B' 1 h' ∧ kd_wt kd_ty h' ∧ ∀ c i, c < 1 ∨ 63 ≤ c → c < 127 ∨ 190 ≤ c → h' c i = h c i
def fu_d71x (s0 : Nat) (h : kc_H) (B : Nat → Int32) (o : Option (Nat × ((Nat → Int32) ⊕ Nat))) : Option kc_V → kc_H → Prop := fun rv h' => ∃ B', fu_dPx s0 B o rv B' ∧ fu_B B' h' ∧ kd_wt kd_ty h' ∧ (∀ c i, c < 259 ∨ c = 261 ∨ c = 262 → h' c i = h c i) ∧ (B' = B → ∀ i, i < 5 → h' 260 (150 + i) = h 260 (150 + i))
theorem fu_dPx0 {B : Nat → Int32} {s s0 : Nat} {o : Option (Nat × ((Nat → Int32) ⊕ Nat))} (e : s = s0) (h : o = none) : fu_dPx s0 B o (some (.inl (Int32.ofInt (-10) - Int32.ofNat s))) B := by
  subst h
  subst e
  exact ⟨rfl, rfl⟩
theorem fu_dPx1 {B B2 : Nat → Int32} {k s0 : Nat} {o : Option (Nat × ((Nat → Int32) ⊕ Nat))} (h : o = some (k, .inl B2)) : fu_dPx s0 B o (some (.inl (Int32.ofNat k))) B2 := by
  subst h
  exact ⟨rfl, rfl⟩
theorem fu_dPx2 {B : Nat → Int32} {k i s0 : Nat} {o : Option (Nat × ((Nat → Int32) ⊕ Nat))} (h : o = some (k, .inr i)) : fu_dPx s0 B o (some (.inl (Int32.ofInt (-1000) - Int32.ofNat i))) B := by
  subst h
  exact ⟨rfl, rfl⟩
theorem fu_dPx_w {s0 : Nat} {B : Nat → Int32} {o : Option (Nat × ((Nat → Int32) ⊕ Nat))} {rv : Option kc_V} {B1 : Nat → Int32} (h1 : fu_dPx s0 B o rv B1) : fu_dP B o rv B1 := by
  match o, h1 with
  | none, h1 => exact ⟨⟨s0, h1.1⟩, h1.2⟩
  | some (_, .inl _), h1 => exact h1
  | some (_, .inr _), h1 => exact h1
theorem fu_dPx_e {s0 : Nat} {B : Nat → Int32} {o : Option (Nat × ((Nat → Int32) ⊕ Nat))} {rv rv2 : Option kc_V} {B1 B2 : Nat → Int32} (h1 : fu_dPx s0 B o rv B1) (h2 : fu_dPx s0 B o rv2 B2) : rv2 = rv := by
  match o, h1, h2 with
  | none, h1, h2 => exact h2.1.trans h1.1.symm
  | some (_, .inl _), h1, h2 => exact h2.1.trans h1.1.symm
  | some (_, .inr _), h1, h2 => exact h2.1.trans h1.1.symm
set_option maxRecDepth 20000 in
theorem fu_day67x {g : kc_G} {h : kc_H} {n : Nat} {t : Nat → Nat} {B : Nat → Int32} (hg : kc_ok g) (hC : fu_C B 1 h) (hw : kd_wt kd_ty h) (hn : n ≤ 240) (hb : ∀ j, j < 240 → t j < 256) (ht : ∀ j, j < 240 → h 29 j = .inl (Int32.ofNat (t j))) (ha4 : h 31 0 = .inl (Int32.ofNat n)) : kc_Con g 15 67 [.inr (.inr (.inl (some 0)))] h (fu_d67x (kp_flt t n 9 0 61 0) h B (fu_out t n B)) := by
  have k0 := kx_ofr (hw _ _ _ kv_k0.1)
  have k4 := kx_ofr (hw _ _ _ kv_k0.2.2)
  obtain ⟨s0, -, es0⟩ := kx_ofg (by omega) (hw _ _ _ kv_k127.2)
  obtain ⟨q0, -, eq0⟩ := kx_ofg (by omega) (hw _ _ _ kv_k127.1)
  refine kc_Con_new hg (M := wk_m67) rfl rfl rfl (show 1 ≤ 3 by decide) ?_
  refine kx_go 1 (pc' := 1) (L' := [(0, .inr (.inr (.inl (some 0))))]) (S' := [.inr (.inr (.inl (some 0)))]) (h' := h) (by with_unfolding_all rfl) ?_
  refine kx_getf (c := 0) (v := .inr (.inr (.inl (some 127)))) rfl (by decide) k4 ?_
  refine kx_go 1 (pc' := 5) (L' := [(0, .inr (.inr (.inl (some 0))))]) (S' := [.inl (Int32.ofNat 0), .inr (.inr (.inl (some 127)))]) (h' := h) (by with_unfolding_all rfl) ?_
  refine kc_call_rule (M2 := wk_m61) (av := [.inr (.inr (.inl (some 127))), .inl (Int32.ofNat 0)]) (r := []) rfl rfl (kc_Con_le (kr_readx0 (d := 0) (n := n) (t := t) hg hn hb ht (fun i hi => kx_ofr (hw _ _ _ (kr_k129 i hi))) (kx_ofr (hw _ _ _ kv_k127b)) (kx_ofr (hw _ _ _ kr_k1.1)) (kx_ofr (hw _ _ _ kr_k1.2.2.1)) (kx_ofr (hw _ _ _ kr_k1.2.1)) ha4 (kx_ofr (hw _ _ _ kr_k127.2.1)) (kx_ofr (hw _ _ _ kr_k127.2.2.1)) eq0 es0) (by decide)) (fun rv h1 hq => ?_)
  have hpost := kr_post (g := g) hw (Or.inl rfl) hn (by decide) (kr_Qrx_w hq)
  obtain ⟨pp, pp1, -, -, hw1, hfr1⟩ := hpost
  obtain rfl := List.mem_singleton.mp pp1
  simp only at hfr1
  unfold kr_Qrx at hq
  cases hk : kp_its t n 9 0 61 0 with
  | none =>
    rw [hk] at hq
    obtain ⟨hx, it2, p2, k2, s2, rfl, ⟨-, -, ⟨hs2, -, -⟩, es2⟩, -⟩ := hq
    show kc_Ev g 14 wk_m67 _ 8 [(0, .inr (.inr (.inl (some 0))))] [.inl (Int32.ofNat s2)] h1
    refine kx_go 4 (pc' := (if kc_cnd .eq (Int32.ofNat s2).toInt (Int32.ofInt (-1)).toInt then 19 else 14)) (L' := [(1, .inl (Int32.ofNat s2)), (0, .inr (.inr (.inl (some 0))))]) (S' := []) (h' := h1) (by with_unfolding_all rfl) ?_
    rw [if_neg (kx_nm1 (by omega))]
    refine kx_go 3 (pc' := 18) (L' := [(1, .inl (Int32.ofNat s2)), (0, .inr (.inr (.inl (some 0))))]) (S' := [.inl ((Int32.ofInt (-10)) - (Int32.ofNat s2))]) (h' := h1) (by with_unfolding_all rfl) ?_
    refine kc_ret_ok rfl (rv := some (.inl ((Int32.ofInt (-10)) - (Int32.ofNat s2)))) rfl ⟨B, fu_dPx0 es2 (fu_outn hk), fu_Ceq (fun c i c1 c2 => ?_) hC, hw1, fun c i c1 c2 => ?_⟩
    · exact hfr1 c i (fun q hq => by
        simp only [kr_W, List.mem_cons, List.not_mem_nil, or_false] at hq
        rcases hq with rfl | rfl | rfl | rfl <;> exact kb_inr (by (try dsimp only); omega))
    · exact hfr1 c i (fun q hq => by
        simp only [kr_W, List.mem_cons, List.not_mem_nil, or_false] at hq
        rcases hq with rfl | rfl | rfl | rfl <;> exact kb_inr (by (try dsimp only); omega))
  | some l =>
    rw [hk] at hq
    obtain ⟨p2, k2, s2, rfl, ⟨hp2, hk2, hs2⟩, hh1⟩ := hq
    obtain ⟨hall, hlen⟩ := kp_its_ok hn (by decide) 61 0 0 l (by omega) (by omega) hk
    show kc_Ev g 14 wk_m67 _ 8 [(0, .inr (.inr (.inl (some 0))))] [.inl (Int32.ofInt (-1))] h1
    refine kx_go 4 (pc' := (if kc_cnd .eq (Int32.ofInt (-1)).toInt (Int32.ofInt (-1)).toInt then 19 else 14)) (L' := [(1, .inl (Int32.ofInt (-1))), (0, .inr (.inr (.inl (some 0))))]) (S' := []) (h' := h1) (by with_unfolding_all rfl) ?_
    rw [if_pos kx_m1]
    have j0 := kx_ofr (hw1 _ _ _ kv_k0.1)
    have j1 := kx_ofr (hw1 _ _ _ kv_k0.2.1)
    refine kx_go 1 (pc' := 20) (L' := [(1, .inl (Int32.ofInt (-1))), (0, .inr (.inr (.inl (some 0))))]) (S' := [.inr (.inr (.inl (some 0)))]) (h' := h1) (by with_unfolding_all rfl) ?_
    refine kx_getf (c := 0) (v := .inr (.inr (.inl (some 32)))) rfl (by decide) j1 ?_
    refine kx_go 1 (pc' := 24) (L' := [(1, .inl (Int32.ofInt (-1))), (0, .inr (.inr (.inl (some 0))))]) (S' := [.inr (.inr (.inl (some 0))), .inr (.inr (.inl (some 32)))]) (h' := h1) (by with_unfolding_all rfl) ?_
    refine kx_getf (c := 0) (v := .inr (.inr (.inl (some 1)))) rfl (by decide) j0 ?_
    refine kc_call_rule (M2 := wk_m68) (av := [.inr (.inr (.inl (some 32))), .inr (.inr (.inl (some 1)))]) (r := []) rfl rfl (kc_Con_le (kt_take1_32 (d := 0) hg hw1) (by decide)) (fun rv h2 hq2 => ?_)
    obtain ⟨rfl, hh2⟩ := hq2
    have hw2 : kd_wt kd_ty h2 := by rw [hh2]; exact kt_K_wt hw1 kt_ty1_32
    have i0 := kx_ofr (hw2 _ _ _ kv_k0.1)
    show kc_Ev g 14 wk_m67 _ 30 [(1, .inl (Int32.ofInt (-1))), (0, .inr (.inr (.inl (some 0))))] [] h2
    refine kx_go 1 (pc' := 31) (L' := [(1, .inl (Int32.ofInt (-1))), (0, .inr (.inr (.inl (some 0))))]) (S' := [.inr (.inr (.inl (some 0)))]) (h' := h2) (by with_unfolding_all rfl) ?_
    refine kx_getf (c := 0) (v := .inr (.inr (.inl (some 1)))) rfl (by decide) i0 ?_
    refine kc_call_rule (M2 := wk_m2) (av := [.inr (.inr (.inl (some 1)))]) (r := []) rfl rfl (kc_Con_le (fu_h2 hg (fun _ => 0) _ h2 kv_bx0 hw2 ⟨⟨1, rfl, by decide, by decide⟩, trivial⟩ (fun q hq => by cases hq)) (by decide)) (fun rv h3 hq3 => ?_)
    obtain ⟨pp, p1, pr, pF, hw3, hfr3⟩ := hq3
    obtain rfl := List.mem_singleton.mp p1
    cases rv with
    | some y => exact pr.elim
    | none =>
      have hfr3 : kd_fr kv_W2 h2 h3 := kd_cvW_r _ (by decide) hfr3
      have near : ∀ c i, c < 127 → h1 c i = h c i := fun c i hc => hfr1 c i (fun q hq => by
        simp only [kr_W, List.mem_cons, List.not_mem_nil, or_false] at hq
        rcases hq with rfl | rfl | rfl | rfl <;> exact kb_inr (by (try dsimp only); omega))
      have hC2 : fu_C B 1 h2 := fu_Ceq (fun c i c1 c2 => by
        rw [hh2]
        unfold kt_K
        rw [if_neg (by omega)]
        exact near c i (by omega)) hC
      have hC3 : fu_C (fu_beg B) 1 h3 := fu_beg_c hC2 pF hfr3
      have hB3 : fu_BT (fu_beg B) := fu_C_T hw3 hC3
      show kc_Ev g 14 wk_m67 _ 37 [(1, .inl (Int32.ofInt (-1))), (0, .inr (.inr (.inl (some 0))))] [] h3
      refine kx_go 2 (pc' := 39) (L' := [(2, .inl (Int32.ofNat 0)), (1, .inl (Int32.ofInt (-1))), (0, .inr (.inr (.inl (some 0))))]) (S' := []) (h' := h3) (by with_unfolding_all rfl) ?_
      /- cells far from a Told: as behind the reading -/
      have far : ∀ c i, 63 ≤ c → h3 c i = h1 c i := fun c i hc => by
        rw [hfr3 c i (fun q hq => by
          simp only [kv_W2, List.mem_cons, List.not_mem_nil, or_false] at hq
          rcases hq with rfl | rfl <;> exact kb_inr (by (try dsimp only); omega)), hh2]
        unfold kt_K
        rw [if_neg (by omega)]
      have hit : h3 127 1 = .inl (Int32.ofNat l.length) := by
        rw [far 127 1 (by decide), hh1]
        rfl
      have hat : ∀ (i : Nat) (q : Nat × List Nat), l[i]? = some q → h3 128 i = .inl (Int32.ofNat q.1) ∧ ∀ k x, q.2[k]? = some x → h3 (130 + i) k = .inl (Int32.ofNat x) := fun i q hq => by
        obtain ⟨a1, a2⟩ := kr_ws_at l h 0 i q hq
        rw [Nat.zero_add] at a1 a2
        have e1 : ∀ c b, ¬ c = 127 → h1 c b = kr_ws h 0 l c b := fun c b hc => by
          rw [hh1]
          unfold kr_H kj
          rw [if_neg hc, if_neg hc]
        exact ⟨by rw [far 128 i (by decide), e1 128 i (by decide)]; exact a1, fun k x hx => by rw [far (130 + i) k (by omega), e1 (130 + i) k (by omega)]; exact a2 k x hx⟩
      /- the copy: the spare has what the day had -/
      have sp : ∀ k, k < 31 → ∀ i, i < kt_ln k → h3 (32 + k) i = h1 (1 + k) i := fun k hk i hi => by
        rw [hfr3 (32 + k) i (fun q hq => by
          simp only [kv_W2, List.mem_cons, List.not_mem_nil, or_false] at hq
          rcases hq with rfl | rfl <;> exact kb_inr (by (try dsimp only); omega)), hh2]
        unfold kt_K
        rw [show 32 + k - 32 = k from by omega, if_pos ⟨by omega, by omega, hi⟩]
      have rest : ∀ (hE : kc_H) (c i : Nat), (∀ c b, c < 1 ∨ 32 ≤ c → hE c b = h3 c b) → c < 1 ∨ 63 ≤ c → c < 127 ∨ 190 ≤ c → hE c i = h c i := fun hE c i hfrE c1 c2 => by
        rw [hfrE c i (by omega), hfr3 c i (fun q hq => by
          simp only [kv_W2, List.mem_cons, List.not_mem_nil, or_false] at hq
          rcases hq with rfl | rfl <;> exact kb_inr (by (try dsimp only); omega)), hh2]
        unfold kt_K
        rw [if_neg (by omega)]
        exact hfr1 c i (fun q hq => by
          simp only [kr_W, List.mem_cons, List.not_mem_nil, or_false] at hq
          rcases hq with rfl | rfl | rfl | rfl <;> exact kb_inr (by (try dsimp only); omega))
      refine fu_dayl (z1 := Int32.ofInt (-1)) (l := l) (hB := h3) (out := fu_fold l 0 (fu_beg B)) hg (by decide) hit (by omega) (fun i q hq => ?_) hat ?_ ?_ l.length 0 h3 (fu_beg B) (by omega) (by omega) hw3 (fun _ _ _ => rfl) hC3 hB3 ?_
      · obtain ⟨b1, -, b3, b4⟩ := hall q (List.mem_of_getElem? hq)
        exact ⟨b1, by omega, b4⟩
      · intro hE B2 hwE hfrE hCE hBE hfo
        exact ⟨B2, fu_dPx1 (by rw [fu_outs hk, hfo]), hCE, hwE, fun c i c1 c2 => rest hE c i hfrE c1 c2⟩
      · intro hE i hwE hfrE hno
        have bk : ∀ k, k < 31 → ∀ i, i < kt_ln k → kt_K hE 32 1 31 (1 + k) i = h (1 + k) i := fun k hk i hi => by
          unfold kt_K
          rw [show 1 + k - 1 = k from by omega, if_pos ⟨by omega, by omega, hi⟩, hfrE (32 + k) i (by omega), sp k hk i hi, near (1 + k) i (by omega)]
        refine ⟨B, fu_dPx2 (by rw [fu_outs hk, hno]), fu_Ck bk hC, kt_K_wt hwE kt_ty32_1, fun c i c1 c2 => ?_⟩
        rw [show kt_K hE 32 1 31 c i = hE c i from if_neg (by omega)]
        exact rest hE c i hfrE c1 c2
      · rw [List.drop_zero]
set_option maxRecDepth 20000 in
theorem fu_day71x {g : kc_G} {h : kc_H} {n : Nat} {t : Nat → Nat} {B : Nat → Int32} (hg : kc_ok g) (hC : fu_B B h) (hBT : fu_BT B) (hw : kd_wt kd_ty h) (hn : n ≤ 240) (hb : ∀ j, j < 240 → t j < 256) (ht : ∀ j, j < 240 → h 260 (170 + j) = .inl (Int32.ofNat (t j))) (hnt : h 260 160 = .inl (Int32.ofNat n)) : kc_Con g 10 71 [.inr (.inr (.inl (some 259)))] h (fu_d71x (kp_flt t n 9 0 61 0) h B (fu_out t n B)) := by
  obtain ⟨s0, -, es0⟩ := kx_ofg (by omega) (hw _ _ _ kv_k259.1)
  obtain ⟨q0, -, eq0⟩ := kx_ofg (by omega) (hw _ _ _ kv_k259.2.1)
  obtain ⟨v0, hv0, ev0⟩ := kx_ofg (by omega) (hw _ _ _ kv_k259.2.2)
  refine kc_Con_new hg (M := wk_m71) rfl rfl rfl (show 1 ≤ 3 by decide) ?_
  refine kx_go 2 (pc' := 2) (L' := [(0, .inr (.inr (.inl (some 259))))]) (S' := [.inl (Int32.ofNat 0), .inr (.inr (.inl (some 259)))]) (h' := h) (by with_unfolding_all rfl) ?_
  refine kc_call_rule (M2 := wk_m64) (av := [.inr (.inr (.inl (some 259))), .inl (Int32.ofNat 0)]) (r := []) rfl rfl (kc_Con_le (km_readsx0 (d := 0) (n := n) (t := t) hg hn hb hnt (fun j hj => by rw [show 170 + 240 * 0 + j = 170 + j from by omega]; exact ht j hj) (by omega) (kx_ofr (hw _ _ _ kz_k.1)) es0 eq0 ev0 (kx_ofr (hw _ _ _ kv_kr.1)) (kx_ofr (hw _ _ _ kv_kr.2))) (by decide)) (fun rv h1 hq => ?_)
  have hpost := km_post hw (by decide) hn (by decide) (km_Qrx_w hq)
  obtain ⟨pp, pp1, -, -, hw1, hfr1⟩ := hpost
  obtain rfl := List.mem_singleton.mp pp1
  simp only at hfr1
  unfold km_Qrx at hq
  have near : ∀ i, h1 260 i = h 260 i := fun i => hfr1 260 i (fun q hq => by
    simp only [km_W, List.mem_cons, List.not_mem_nil, or_false] at hq
    rcases hq with rfl | rfl | rfl | rfl <;> exact kb_inr (by (try dsimp only); omega))
  cases hk : kp_its t n 9 0 61 0 with
  | none =>
    rw [hk] at hq
    obtain ⟨hx, it2, a2, s2, k2, u2, rfl, ⟨-, -, -, es2⟩, hh1⟩ := hq
    show kc_Ev g 9 wk_m71 _ 5 [(0, .inr (.inr (.inl (some 259))))] [.inl (Int32.ofNat 0)] h1
    refine kx_go 1 (pc' := 8) (L' := [(0, .inr (.inr (.inl (some 259))))]) (S' := []) (h' := h1) (by with_unfolding_all rfl) ?_
    have es1 : h1 259 8 = .inl (Int32.ofNat s2) := by
      rw [hh1]
      rfl
    refine kx_go 2 (pc' := 11) (L' := [(0, .inr (.inr (.inl (some 259))))]) (S' := [.inr (.inr (.inl (some 259))), .inl (Int32.ofInt (-10))]) (h' := h1) (by with_unfolding_all rfl) ?_
    refine kx_getf (c := 259) (v := .inl (Int32.ofNat s2)) rfl (by decide) es1 ?_
    refine kx_go 1 (pc' := 15) (L' := [(0, .inr (.inr (.inl (some 259))))]) (S' := [.inl ((Int32.ofInt (-10)) - (Int32.ofNat s2))]) (h' := h1) (by with_unfolding_all rfl) ?_
    refine kc_ret_ok rfl (rv := some (.inl ((Int32.ofInt (-10)) - (Int32.ofNat s2)))) rfl ⟨B, fu_dPx0 es2 (fu_outn hk), fu_Beq (fun i _ => near i) hC, hw1, fun c i hc => ?_, fun _ i _ => near _⟩
    exact hfr1 c i (fun q hq => by
      simp only [km_W, List.mem_cons, List.not_mem_nil, or_false] at hq
      rcases hq with rfl | rfl | rfl | rfl <;> exact kb_inr (by (try dsimp only); omega))
  | some l =>
    rw [hk] at hq
    obtain ⟨a2, s2, k2, u2, rfl, -, hh1⟩ := hq
    obtain ⟨hall, hlen⟩ := kp_its_ok hn (by decide) 61 0 0 l (by omega) (by omega) hk
    show kc_Ev g 9 wk_m71 _ 5 [(0, .inr (.inr (.inl (some 259))))] [.inl (Int32.ofNat 1)] h1
    refine kx_go 1 (pc' := 16) (L' := [(0, .inr (.inr (.inl (some 259))))]) (S' := []) (h' := h1) (by with_unfolding_all rfl) ?_
    refine kx_go 2 (pc' := 18) (L' := [(1, .inl (Int32.ofNat 0)), (0, .inr (.inr (.inl (some 259))))]) (S' := []) (h' := h1) (by with_unfolding_all rfl) ?_
    have key := kz_dy1 (g := g) (d := 9) (Q := fu_d71x (kp_flt t n 9 0 61 0) h B (fu_out t n B)) (h := h1) (fun k hk => kz_int_r hw1 (kz_k260 k hk).1) 650 0 (by omega) (by omega) ?_
    · rw [kz_0, kz_wid hw1] at key
      exact key
    rw [kz_wid hw1]
    generalize hh2 : kz_cp h1 263 0 260 0 650 = h2
    have hw2 : kd_wt kd_ty h2 := by
      rw [← hh2]
      exact kz_cp_wt hw1 (fun j hj => by rw [Nat.zero_add, (kz_k260 j hj).2.2.2])
    refine kx_go 1 (pc' := 44) (L' := [(1, .inl (Int32.ofNat 650)), (0, .inr (.inr (.inl (some 259))))]) (S' := [.inr (.inr (.inl (some 259)))]) (h' := h2) (by with_unfolding_all rfl) ?_
    refine kc_call_rule (M2 := wk_m12) (av := [.inr (.inr (.inl (some 259)))]) (r := []) rfl rfl (kc_Con_le (fu_h12 hg (fun _ => 0) _ h2 kv_bx0 hw2 ⟨⟨259, rfl, by decide, by decide⟩, trivial⟩ (fun q hq => by cases hq)) (by decide)) (fun rv h3 hq3 => ?_)
    obtain ⟨pp, p1, pr, pF, hw3, hfr3⟩ := hq3
    obtain rfl := List.mem_singleton.mp p1
    cases rv with
    | some y => exact pr.elim
    | none =>
      have hfr3 : kd_fr kv_W12 h2 h3 := kd_cvW_r _ (by decide) hfr3
      have hC2 : fu_B B h2 := fu_Beq (fun i _ => by rw [← hh2, kz_n (by decide), near i]) hC
      have hC3 : fu_B (fu_beg B) h3 := fu_beg_r hC2 pF hfr3
      have hB3 : fu_BT (fu_beg B) := fu_BT_beg hBT
      show kc_Ev g 9 wk_m71 _ 47 [(1, .inl (Int32.ofNat 650)), (0, .inr (.inr (.inl (some 259))))] [] h3
      refine kx_go 2 (pc' := 49) (L' := [(1, .inl (Int32.ofNat 0)), (0, .inr (.inr (.inl (some 259))))]) (S' := []) (h' := h3) (by with_unfolding_all rfl) ?_
      have far3 : ∀ c i, ¬ c = 260 → h3 c i = h2 c i := fun c i hc => hfr3 c i (fun q hq => by
        simp only [kv_W12, List.mem_cons, List.not_mem_nil, or_false] at hq
        rcases hq with rfl | rfl <;> exact kb_inr (by (try dsimp only); omega))
      have far : ∀ c i, ¬ c = 260 → ¬ c = 263 → h3 c i = h1 c i := fun c i hc hc2 => by
        rw [far3 c i hc, ← hh2]
        exact kz_n hc2
      have as3 : ∀ i, i < 650 → h3 263 i = h 260 i := fun i hi => by
        rw [far3 263 i (by decide), ← hh2, ← near i]
        unfold kz_cp
        rw [if_pos ⟨rfl, by omega, by omega⟩, show 0 + (i - 0) = i from by omega]
      have hit : h3 259 13 = .inl (Int32.ofNat l.length) := by
        rw [far 259 13 (by decide) (by decide), hh1]
        rfl
      have hat : ∀ (i : Nat) (q : Nat × List Nat), l[i]? = some q → h3 264 i = .inl (Int32.ofNat (kp_tv q.1)) ∧ ∀ k x, q.2[k]? = some x → h3 265 (5 * i + k) = .inl (Int32.ofNat x) := fun i q hq => by
        obtain ⟨a1, a2⟩ := km_ns_at l h 0 i q hq (fun q hq => (hall q hq).1.2.1)
        rw [Nat.zero_add] at a1 a2
        have e1 : ∀ c b, ¬ c = 259 → h1 c b = km_ns h 0 l c b := fun c b hc => by
          rw [hh1, km_o hc, kmj_o hc]
        exact ⟨by rw [far 264 i (by decide) (by decide), e1 264 i (by decide)]; exact a1, fun k x hx => by rw [far 265 (5 * i + k) (by decide) (by decide), e1 265 (5 * i + k) (by decide)]; exact a2 k x hx⟩
      have rest : ∀ (hE : kc_H) (c i : Nat), (∀ c b, ¬ c = 260 → hE c b = h3 c b) → c < 259 ∨ c = 261 ∨ c = 262 → hE c i = h c i := fun hE c i hfrE hc => by
        rw [hfrE c i (by omega), far c i (by omega) (by omega)]
        exact hfr1 c i (fun q hq => by
          simp only [km_W, List.mem_cons, List.not_mem_nil, or_false] at hq
          rcases hq with rfl | rfl | rfl | rfl <;> exact kb_inr (by (try dsimp only); omega))
      refine kf_lo (L := [(1, .inl (Int32.ofNat 0)), (0, .inr (.inr (.inl (some 259))))]) (by intro q hq; simp only [List.mem_cons, List.not_mem_nil, or_false] at hq; rcases hq with rfl | rfl <;> rfl) ?_
      refine fu_dayr (l := l) (hB := h3) (out := fu_fold l 0 (fu_beg B)) hg (by decide) hit (by omega) (fun i q hq => ?_) hat ?_ ?_ l.length 0 h3 (fu_beg B) (by omega) (by omega) hw3 (fun _ _ _ => rfl) hC3 hB3 ?_
      · obtain ⟨b1, -, b3, b4⟩ := hall q (List.mem_of_getElem? hq)
        exact ⟨b1, by omega, b4⟩
      · intro hE B2 hwE hfrE hCE hBE hfo
        refine ⟨B2, fu_dPx1 (by rw [fu_outs hk, hfo]), hCE, hwE, fun c i hc => rest hE c i hfrE hc, fun e i hi => ?_⟩
        rw [hCE (150 + i) (by omega) (fu_fli i hi).2.1, hC (150 + i) (by omega) (fu_fli i hi).2.1, e]
      · intro hE i hwE hfrE hno
        have bk : ∀ i, i < 650 → kz_cp hE 260 0 263 0 650 260 i = h 260 i := fun i hi => by
          unfold kz_cp
          rw [if_pos ⟨rfl, by omega, by omega⟩, show 0 + (i - 0) = i from by omega, hfrE 263 i (by decide), as3 i hi]
        refine ⟨B, fu_dPx2 (by rw [fu_outs hk, hno]), fu_Beq bk hC, kz_cp_wt hwE (fun j hj => by rw [Nat.zero_add, (kz_k260 j hj).2.2.2]), fun c i hc => ?_, fun _ i hi => bk _ (by omega)⟩
        rw [kz_n (by omega)]
        exact rest hE c i hfrE hc
      · rw [List.drop_zero]
theorem fU_Xday {g : kc_G} {h : kc_H} (hg : kc_ok g) (hI : fu_I h) : kc_Con g 30 67 [.inr (.inr (.inl (some 0)))] h (fun rv h1 => ∃ z : Int32, rv = some (.inl z) ∧ kc_Con g 30 71 [.inr (.inr (.inl (some 259)))] h1 (fun rv2 h2 => rv2 = some (.inl z) ∧ fu_I h2)) := by
  obtain ⟨B, hC, hR⟩ := hI.2.1
  have hB := fu_C_T hI.1 hC
  obtain ⟨n, n1, en⟩ := fu_nat (by decide) (fu_fby 0 (by decide)).2.2 (hB 160 (by decide) (by decide))
  have ht0 : ∀ j, ∃ v : Nat, j < 240 → v < 256 ∧ B (170 + j) = Int32.ofNat v := fun j => by
    by_cases hj : j < 240
    · obtain ⟨v, v1, v2⟩ := fu_nat (by decide) (fu_ftx 0 (by decide) j hj).2.2 (hB (170 + 240 * 0 + j) (by omega) (fu_ftx 0 (by decide) j hj).2.1)
      rw [show 170 + 240 * 0 + j = 170 + j from by omega] at v2
      exact ⟨v, fun _ => ⟨by omega, v2⟩⟩
    · exact ⟨0, fun q => absurd q hj⟩
  obtain ⟨t, ht⟩ := Classical.axiomOfChoice ht0
  have h29 : ∀ j, j < 240 → h 29 j = .inl (Int32.ofNat (t j)) := fun j hj => by
    have e := fu_Cj (c := 28) (i := j) hC (by omega) (fu_ftx 0 (by decide) j hj).2.1 (fu_ftx 0 (by decide) j hj).1
    rw [show 170 + 240 * 0 + j = 170 + j from by omega, (ht j hj).2] at e
    exact e
  have h31 : h 31 0 = .inl (Int32.ofNat n) := (fu_Cj (c := 30) (j := 160) hC (by decide) (by decide) (by decide)).trans (by rw [en])
  refine kc_Con_mono (kc_Con_le (fu_day67x hg hC hI.1 n1 (fun j hj => (ht j hj).1) h29 h31) (by decide)) (fun rv h1 hq => ?_)
  obtain ⟨B1, p1, C1, w1, f1⟩ := hq
  obtain ⟨z, ez⟩ := fu_dPz (fu_dPx_w p1)
  refine ⟨z, ez, ?_⟩
  have e260 : ∀ i, h1 260 i = h 260 i := fun i => f1 260 i (by decide) (by decide)
  have R1 : fu_B B h1 := fu_Beq (fun i _ => e260 i) hR
  refine kc_Con_mono (kc_Con_le (fu_day71x hg R1 hB w1 n1 (fun j hj => (ht j hj).1) (fun j hj => by rw [R1 (170 + j) (by omega) (by have := (fu_ftx 0 (by decide) j hj).2.1; rw [show 170 + 240 * 0 + j = 170 + j from by omega] at this; exact this), (ht j hj).2]) (by rw [R1 160 (by decide) (by decide), en])) (by decide)) (fun rv h2 hq => ?_)
  obtain ⟨B2, p2, R2, w2, f2, l2⟩ := hq
  have e12 := fu_dPu (fu_dPx_w p1) (fu_dPx_w p2)
  have er := fu_dPx_e p1 p2
  subst e12
  refine ⟨er.trans ez, fu_now hI w2 ⟨B1, fu_Ceq (fun c i c1 c2 => f2 c i (by omega)) C1, R2⟩ (fun c i a b => (f2 c i (by omega)).trans (f1 c i (by omega) (by omega))) (fun c i a => (f2 c i (by omega)).trans (f1 c i (by omega) (by omega))) ?_⟩
  rcases fu_dP3 n1 hB (fu_dPx_w p2) with e | e
  · refine kI_eq ?_ (fun i hi => ?_) hI.2.2.2.2.2.1
    · rw [R2 (0 + 3) (by decide) (by decide), hR (0 + 3) (by decide) (by decide), e]
    · rw [Nat.zero_add, l2 e i hi, e260]
  · exact ⟨0, fun _ => 0, by decide, by rw [R2 (0 + 3) (by decide) (by decide)]; exact congrArg Sum.inl e, fun i hi => absurd hi (by omega), fun i j _ hj => absurd hj (by omega)⟩
def fu_fz (t : Nat → Nat) (n m f : Nat) : Int32 := match kp_its t n m f 61 0 with
  | some _ => Int32.ofInt (-1)
  | none => Int32.ofNat (kp_flt t n m f 61 0)
theorem fu_fz1 {t : Nat → Nat} {n m f : Nat} {l : List (Nat × List Nat)} (h : kp_its t n m f 61 0 = some l) : fu_fz t n m f = Int32.ofInt (-1) := by
  unfold fu_fz
  rw [h]
theorem fu_fz0 {t : Nat → Nat} {n m f : Nat} (h : kp_its t n m f 61 0 = none) : fu_fz t n m f = Int32.ofNat (kp_flt t n m f 61 0) := by
  unfold fu_fz
  rw [h]
set_option maxRecDepth 20000 in
theorem fu_cftb {g : kc_G} {h : kc_H} {a : Int32} (hg : kc_ok g) (k : ¬ (0 ≤ a.toInt ∧ a.toInt ≤ 1)) : kc_Con g 10 60 [.inr (.inr (.inl (some 0))), .inl a] h (fun rv h' => rv = some (.inl (Int32.ofInt (-2))) ∧ h' = h) := by
  refine kc_Con_new hg (M := wk_m60) rfl rfl rfl (show 2 ≤ 2 by decide) ?_
  refine kx_go 3 (pc' := 3) (L' := [(0, .inr (.inr (.inl (some 0)))), (1, .inl (a))]) (S' := [.inl (Int32.ofNat 1), .inl (Int32.ofNat 0), .inl (a)]) (h' := h) (by with_unfolding_all rfl) ?_
  refine kc_call_rule (M2 := wk_m19) (av := [.inl (a), .inl (Int32.ofNat 0), .inl (Int32.ofNat 1)]) (r := []) rfl rfl (kc_Con_le (fu_bt (d := 0) (lo := 0) (hi := 1) hg rfl rfl) (by decide)) (fun rv h2 hq => ?_)
  obtain ⟨rfl, e⟩ := hq
  rw [e]
  clear e
  show kc_Ev g 9 wk_m60 _ 6 [(0, .inr (.inr (.inl (some 0)))), (1, .inl (a))] [.inl (kp_b (fu_in a 0 1))] h
  refine kx_go 1 (pc' := (if kc_cnd .ne (kp_b (fu_in a 0 1)).toInt 0 then 12 else 9)) (L' := [(0, .inr (.inr (.inl (some 0)))), (1, .inl (a))]) (S' := []) (h' := h) (by with_unfolding_all rfl) ?_
  rw [fu_in0 k]
  rw [if_neg (fun q => by have := kx_b1.mp q; cases this)]
  refine kx_go 1 (pc' := 11) (L' := [(0, .inr (.inr (.inl (some 0)))), (1, .inl (a))]) (S' := [.inl (Int32.ofInt (-2))]) (h' := h) (by with_unfolding_all rfl) ?_
  exact kc_ret_ok rfl (rv := some (.inl (Int32.ofInt (-2)))) rfl ⟨rfl, rfl⟩
set_option maxRecDepth 20000 in
theorem fu_rftb {g : kc_G} {h : kc_H} {a : Int32} (hg : kc_ok g) (k : ¬ (0 ≤ a.toInt ∧ a.toInt ≤ 1)) : kc_Con g 10 63 [.inr (.inr (.inl (some 259))), .inl a] h (fun rv h' => rv = some (.inl (Int32.ofInt (-2))) ∧ h' = h) := by
  refine kc_Con_new hg (M := wk_m63) rfl rfl rfl (show 2 ≤ 2 by decide) ?_
  refine kx_go 1 (pc' := 1) (L' := [(0, .inr (.inr (.inl (some 259)))), (1, .inl (a))]) (S' := [.inl (a)]) (h' := h) (by with_unfolding_all rfl) ?_
  refine kc_call_rule (M2 := wk_m57) (av := [.inl (a)]) (r := []) rfl rfl (kc_Con_le (fu_r57 (d := 0) hg) (by decide)) (fun rv h2 hq => ?_)
  obtain ⟨rfl, e⟩ := hq
  rw [e]
  clear e
  show kc_Ev g 9 wk_m63 _ 4 [(0, .inr (.inr (.inl (some 259)))), (1, .inl (a))] [.inl (kp_b (fu_in a 0 1))] h
  refine kx_go 1 (pc' := (if kc_cnd .ne (kp_b (fu_in a 0 1)).toInt 0 then 12 else 7)) (L' := [(0, .inr (.inr (.inl (some 259)))), (1, .inl (a))]) (S' := []) (h' := h) (by with_unfolding_all rfl) ?_
  rw [fu_in0 k]
  rw [if_neg (fun q => by have := kx_b1.mp q; cases this)]
  refine kx_go 2 (pc' := 28) (L' := [(0, .inr (.inr (.inl (some 259)))), (1, .inl (a))]) (S' := [.inl (Int32.ofInt (-2))]) (h' := h) (by with_unfolding_all rfl) ?_
  exact kc_ret_ok rfl (rv := some (.inl (Int32.ofInt (-2)))) rfl ⟨rfl, rfl⟩
set_option maxRecDepth 20000 in
theorem fu_cft0 {g : kc_G} {h : kc_H} {n : Nat} {t : Nat → Nat} (hg : kc_ok g) (hw : kd_wt kd_ty h) (hn : n ≤ 240) (hb : ∀ j, j < 240 → t j < 256) (ht : ∀ j, j < 240 → h 29 j = .inl (Int32.ofNat (t j))) (hn4 : h 31 0 = .inl (Int32.ofNat n)) : kc_Con g 10 60 [.inr (.inr (.inl (some 0))), .inl (Int32.ofNat 0)] h (fun rv h1 => rv = some (.inl (fu_fz t n 9 0)) ∧ kd_wt kd_ty h1 ∧ kd_fr kr_W h h1) := by
  obtain ⟨t1, t2, t3, t4, t5, t6, t7, t8, t0⟩ := kr_k127
  obtain ⟨u1, u2, u3, u4, u5, u6⟩ := kr_k1
  obtain ⟨k0, -, e7⟩ := kx_ofg (by omega) (hw _ _ _ t7)
  obtain ⟨s0, -, e8⟩ := kx_ofg (by omega) (hw _ _ _ t8)
  refine kc_Con_new hg (M := wk_m60) rfl rfl rfl (show 2 ≤ 2 by decide) ?_
  refine kx_go 3 (pc' := 3) (L' := [(0, .inr (.inr (.inl (some 0)))), (1, .inl (Int32.ofNat 0))]) (S' := [.inl (Int32.ofNat 1), .inl (Int32.ofNat 0), .inl (Int32.ofNat 0)]) (h' := h) (by with_unfolding_all rfl) ?_
  refine kc_call_rule (M2 := wk_m19) (av := [.inl (Int32.ofNat 0), .inl (Int32.ofNat 0), .inl (Int32.ofNat 1)]) (r := []) rfl rfl (kc_Con_le (fu_bt (d := 0) (lo := 0) (hi := 1) hg rfl rfl) (by decide)) (fun rv h2 hq => ?_)
  obtain ⟨rfl, e⟩ := hq
  rw [e]
  clear e
  show kc_Ev g 9 wk_m60 _ 6 [(0, .inr (.inr (.inl (some 0)))), (1, .inl (Int32.ofNat 0))] [.inl (kp_b (fu_in (Int32.ofNat 0) 0 1))] h
  refine kx_go 1 (pc' := (if kc_cnd .ne (kp_b (fu_in (Int32.ofNat 0) 0 1)).toInt 0 then 12 else 9)) (L' := [(0, .inr (.inr (.inl (some 0)))), (1, .inl (Int32.ofNat 0))]) (S' := []) (h' := h) (by with_unfolding_all rfl) ?_
  rw [if_pos (kx_b1.mpr (show fu_in (Int32.ofNat 0) 0 1 = true by decide))]
  refine kx_go 1 (pc' := 13) (L' := [(0, .inr (.inr (.inl (some 0)))), (1, .inl (Int32.ofNat 0))]) (S' := [.inr (.inr (.inl (some 0)))]) (h' := h) (by with_unfolding_all rfl) ?_
  refine kx_getf (c := 0) (v := .inr (.inr (.inl (some 127)))) rfl (by decide) (kx_ofr (hw _ _ _ kv_k0.2.2)) ?_
  refine kx_go 1 (pc' := 17) (L' := [(0, .inr (.inr (.inl (some 0)))), (1, .inl (Int32.ofNat 0))]) (S' := [.inl (Int32.ofNat 0), .inr (.inr (.inl (some 127)))]) (h' := h) (by with_unfolding_all rfl) ?_
  refine kc_call_rule (M2 := wk_m61) (av := [.inr (.inr (.inl (some 127))), .inl (Int32.ofNat 0)]) (r := []) rfl rfl (kc_Con_le (kr_readx0 (d := 0) (n := n) (t := t) hg hn hb ht (fun i hi => kx_ofr (hw _ _ _ (kr_k129 i hi))) (kx_ofr (hw _ _ _ t0)) (kx_ofr (hw _ _ _ u1)) (kx_ofr (hw _ _ _ u3)) (kx_ofr (hw _ _ _ u2)) hn4 (kx_ofr (hw _ _ _ t2)) (kx_ofr (hw _ _ _ t3)) e7 e8) (by decide)) (fun rv h1 hq => ?_)
  have hpost := kr_post (g := g) hw (Or.inl rfl) hn (by decide) (kr_Qrx_w hq)
  obtain ⟨pp, pp1, -, -, hw1, hfr1⟩ := hpost
  obtain rfl := List.mem_singleton.mp pp1
  simp only at hfr1
  unfold kr_Qrx at hq
  have ez : rv = some (.inl (fu_fz t n 9 0)) := by
    cases hk : kp_its t n 9 0 61 0 with
    | some l =>
      rw [hk] at hq
      obtain ⟨p2, k2, s2, e, -⟩ := hq
      rw [fu_fz1 hk]
      exact e
    | none =>
      rw [hk] at hq
      obtain ⟨h2, it2, p2, k2, s2, e, ⟨-, -, -, es⟩, -⟩ := hq
      rw [fu_fz0 hk, ← es]
      exact e
  subst ez
  exact kc_ret_ok rfl (rv := some (.inl (fu_fz t n 9 0))) rfl ⟨rfl, hw1, hfr1⟩
set_option maxRecDepth 20000 in
theorem fu_rft0 {g : kc_G} {h : kc_H} {n : Nat} {t : Nat → Nat} (hg : kc_ok g) (hw : kd_wt kd_ty h) (hn : n ≤ 240) (hb : ∀ j, j < 240 → t j < 256) (hnt : h 260 (160 + 0) = .inl (Int32.ofNat n)) (ht : ∀ j, j < 240 → h 260 (170 + 240 * 0 + j) = .inl (Int32.ofNat (t j))) : kc_Con g 10 63 [.inr (.inr (.inl (some 259))), .inl (Int32.ofNat 0)] h (fun rv h1 => rv = some (.inl (fu_fz t n 9 0)) ∧ kd_wt kd_ty h1 ∧ kd_fr km_W h h1) := by
  obtain ⟨t0, t6, t7, t8, t9, t10, t11, t12, t13⟩ := km_k259
  obtain ⟨s0, -, e8⟩ := kx_ofg (by omega) (hw _ _ _ t8)
  obtain ⟨k0, -, e9⟩ := kx_ofg (by omega) (hw _ _ _ t9)
  obtain ⟨v0, hv0, e10⟩ := kx_ofg (by omega) (hw _ _ _ t10)
  refine kc_Con_new hg (M := wk_m63) rfl rfl rfl (show 2 ≤ 2 by decide) ?_
  refine kx_go 1 (pc' := 1) (L' := [(0, .inr (.inr (.inl (some 259)))), (1, .inl (Int32.ofNat 0))]) (S' := [.inl (Int32.ofNat 0)]) (h' := h) (by with_unfolding_all rfl) ?_
  refine kc_call_rule (M2 := wk_m57) (av := [.inl (Int32.ofNat 0)]) (r := []) rfl rfl (kc_Con_le (fu_r57 (d := 0) hg) (by decide)) (fun rv h2 hq => ?_)
  obtain ⟨rfl, e⟩ := hq
  rw [e]
  clear e
  show kc_Ev g 9 wk_m63 _ 4 [(0, .inr (.inr (.inl (some 259)))), (1, .inl (Int32.ofNat 0))] [.inl (kp_b (fu_in (Int32.ofNat 0) 0 1))] h
  refine kx_go 1 (pc' := (if kc_cnd .ne (kp_b (fu_in (Int32.ofNat 0) 0 1)).toInt 0 then 12 else 7)) (L' := [(0, .inr (.inr (.inl (some 259)))), (1, .inl (Int32.ofNat 0))]) (S' := []) (h' := h) (by with_unfolding_all rfl) ?_
  rw [if_pos (kx_b1.mpr (show fu_in (Int32.ofNat 0) 0 1 = true by decide))]
  refine kx_go 2 (pc' := 14) (L' := [(0, .inr (.inr (.inl (some 259)))), (1, .inl (Int32.ofNat 0))]) (S' := [.inl (Int32.ofNat 0), .inr (.inr (.inl (some 259)))]) (h' := h) (by with_unfolding_all rfl) ?_
  refine kc_call_rule (M2 := wk_m64) (av := [.inr (.inr (.inl (some 259))), .inl (Int32.ofNat 0)]) (r := []) rfl rfl (kc_Con_le (km_readsx0 (d := 0) (n := n) (t := t) hg hn hb hnt ht (by omega) (kx_ofr (hw _ _ _ t0)) e8 e9 e10 (kx_ofr (hw _ _ _ t11)) (kx_ofr (hw _ _ _ t12))) (by decide)) (fun rv h1 hq => ?_)
  have hpost := km_post hw (by decide) hn (by decide) (km_Qrx_w hq)
  obtain ⟨pp, pp1, -, -, hw1, hfr1⟩ := hpost
  obtain rfl := List.mem_singleton.mp pp1
  simp only at hfr1
  unfold km_Qrx at hq
  cases hk : kp_its t n 9 0 61 0 with
  | some l =>
    rw [hk] at hq
    obtain ⟨a2, s2, k2, u2, rfl, -, -⟩ := hq
    show kc_Ev g 9 wk_m63 _ 17 [(0, .inr (.inr (.inl (some 259)))), (1, .inl (Int32.ofNat 0))] [.inl (Int32.ofNat 1)] h1
    refine kx_go 1 (pc' := 20) (L' := [(0, .inr (.inr (.inl (some 259)))), (1, .inl (Int32.ofNat 0))]) (S' := []) (h' := h1) (by with_unfolding_all rfl) ?_
    refine kx_go 2 (pc' := 28) (L' := [(0, .inr (.inr (.inl (some 259)))), (1, .inl (Int32.ofNat 0))]) (S' := [.inl (Int32.ofInt (-1))]) (h' := h1) (by with_unfolding_all rfl) ?_
    exact kc_ret_ok rfl (rv := some (.inl (Int32.ofInt (-1)))) rfl ⟨by rw [fu_fz1 hk], hw1, hfr1⟩
  | none =>
    rw [hk] at hq
    obtain ⟨hx, it2, a2, s2, k2, u2, rfl, ⟨-, -, -, es2⟩, hh1⟩ := hq
    have es1 : h1 259 8 = .inl (Int32.ofNat s2) := by
      rw [hh1]
      rfl
    show kc_Ev g 9 wk_m63 _ 17 [(0, .inr (.inr (.inl (some 259)))), (1, .inl (Int32.ofNat 0))] [.inl (Int32.ofNat 0)] h1
    refine kx_go 1 (pc' := 24) (L' := [(0, .inr (.inr (.inl (some 259)))), (1, .inl (Int32.ofNat 0))]) (S' := []) (h' := h1) (by with_unfolding_all rfl) ?_
    refine kx_go 1 (pc' := 25) (L' := [(0, .inr (.inr (.inl (some 259)))), (1, .inl (Int32.ofNat 0))]) (S' := [.inr (.inr (.inl (some 259)))]) (h' := h1) (by with_unfolding_all rfl) ?_
    refine kx_getf (c := 259) (v := .inl (Int32.ofNat s2)) rfl (by decide) es1 ?_
    exact kc_ret_ok rfl (rv := some (.inl (Int32.ofNat s2))) rfl ⟨by rw [fu_fz0 hk, ← es2], hw1, hfr1⟩
set_option maxRecDepth 20000 in
theorem fU_Xfault0 {g : kc_G} {h : kc_H} (hg : kc_ok g) (hI : fu_I h) : kc_Con g 30 60 [.inr (.inr (.inl (some 0))), .inl (Int32.ofNat 0)] h (fun rv h1 => ∃ z : Int32, rv = some (.inl z) ∧ kc_Con g 30 63 [.inr (.inr (.inl (some 259))), .inl (Int32.ofNat 0)] h1 (fun rv2 h2 => rv2 = some (.inl z) ∧ fu_I h2)) := by
  obtain ⟨B, hC, hR⟩ := hI.2.1
  have hB := fu_C_T hI.1 hC
  obtain ⟨n, n1, en⟩ := fu_nat (by decide) (fu_fby 0 (by decide)).2.2 (hB (160 + 0) (by decide) (by decide))
  have ht0 : ∀ j, ∃ v : Nat, j < 240 → v < 256 ∧ B (170 + 240 * 0 + j) = Int32.ofNat v := fun j => by
    by_cases hj : j < 240
    · obtain ⟨v, v1, v2⟩ := fu_nat (by decide) (fu_ftx 0 (by decide) j hj).2.2 (hB (170 + 240 * 0 + j) (by omega) (fu_ftx 0 (by decide) j hj).2.1)
      exact ⟨v, fun _ => ⟨by omega, v2⟩⟩
    · exact ⟨0, fun q => absurd q hj⟩
  obtain ⟨t, ht⟩ := Classical.axiomOfChoice ht0
  have h29 : ∀ j, j < 240 → h (1 + (28 + 0)) j = .inl (Int32.ofNat (t j)) := fun j hj => by
    have e := fu_Cj (c := 28 + 0) (i := j) hC (by omega) (fu_ftx 0 (by decide) j hj).2.1 (fu_ftx 0 (by decide) j hj).1
    rw [(ht j hj).2] at e
    exact e
  have h31 : h 31 0 = .inl (Int32.ofNat n) := (fu_Cj (c := 30) (i := 0) (j := 160 + 0) hC (by decide) (by decide) (by decide)).trans (by rw [en])
  refine kc_Con_mono (kc_Con_le (fu_cft0 hg hI.1 n1 (fun j hj => (ht j hj).1) h29 h31) (by decide)) (fun rv h1 hq => ?_)
  obtain ⟨rfl, w1, f1⟩ := hq
  have I1 := fu_fr (by decide +kernel) f1 w1 hI
  have R1 : fu_B B h1 := fu_Beq (fun i _ => f1 260 i (fun q hq => by
    simp only [kr_W, List.mem_cons, List.not_mem_nil, or_false] at hq
    rcases hq with rfl | rfl | rfl | rfl <;> exact kb_inr (by (try dsimp only); omega))) hR
  refine ⟨_, rfl, kc_Con_mono (kc_Con_le (fu_rft0 hg w1 n1 (fun j hj => (ht j hj).1) ((R1 (160 + 0) (by decide) (by decide)).trans (by rw [en])) (fun j hj => (R1 (170 + 240 * 0 + j) (by omega) (fu_ftx 0 (by decide) j hj).2.1).trans (by rw [(ht j hj).2]))) (by decide)) (fun rv h2 hq => ?_)⟩
  obtain ⟨rfl, w2, f2⟩ := hq
  exact ⟨rfl, fu_fr (by decide +kernel) f2 w2 I1⟩
set_option maxRecDepth 20000 in
theorem fu_cft1 {g : kc_G} {h : kc_H} {n : Nat} {t : Nat → Nat} (hg : kc_ok g) (hw : kd_wt kd_ty h) (hn : n ≤ 240) (hb : ∀ j, j < 240 → t j < 256) (ht : ∀ j, j < 240 → h 30 j = .inl (Int32.ofNat (t j))) (hn4 : h 31 1 = .inl (Int32.ofNat n)) : kc_Con g 10 60 [.inr (.inr (.inl (some 0))), .inl (Int32.ofNat 1)] h (fun rv h1 => rv = some (.inl (fu_fz t n 7 9)) ∧ kd_wt kd_ty h1 ∧ kd_fr kr_W h h1) := by
  obtain ⟨t1, t2, t3, t4, t5, t6, t7, t8, t0⟩ := kr_k127
  obtain ⟨u1, u2, u3, u4, u5, u6⟩ := kr_k1
  obtain ⟨k0, -, e7⟩ := kx_ofg (by omega) (hw _ _ _ t7)
  obtain ⟨s0, -, e8⟩ := kx_ofg (by omega) (hw _ _ _ t8)
  refine kc_Con_new hg (M := wk_m60) rfl rfl rfl (show 2 ≤ 2 by decide) ?_
  refine kx_go 3 (pc' := 3) (L' := [(0, .inr (.inr (.inl (some 0)))), (1, .inl (Int32.ofNat 1))]) (S' := [.inl (Int32.ofNat 1), .inl (Int32.ofNat 0), .inl (Int32.ofNat 1)]) (h' := h) (by with_unfolding_all rfl) ?_
  refine kc_call_rule (M2 := wk_m19) (av := [.inl (Int32.ofNat 1), .inl (Int32.ofNat 0), .inl (Int32.ofNat 1)]) (r := []) rfl rfl (kc_Con_le (fu_bt (d := 0) (lo := 0) (hi := 1) hg rfl rfl) (by decide)) (fun rv h2 hq => ?_)
  obtain ⟨rfl, e⟩ := hq
  rw [e]
  clear e
  show kc_Ev g 9 wk_m60 _ 6 [(0, .inr (.inr (.inl (some 0)))), (1, .inl (Int32.ofNat 1))] [.inl (kp_b (fu_in (Int32.ofNat 1) 0 1))] h
  refine kx_go 1 (pc' := (if kc_cnd .ne (kp_b (fu_in (Int32.ofNat 1) 0 1)).toInt 0 then 12 else 9)) (L' := [(0, .inr (.inr (.inl (some 0)))), (1, .inl (Int32.ofNat 1))]) (S' := []) (h' := h) (by with_unfolding_all rfl) ?_
  rw [if_pos (kx_b1.mpr (show fu_in (Int32.ofNat 1) 0 1 = true by decide))]
  refine kx_go 1 (pc' := 13) (L' := [(0, .inr (.inr (.inl (some 0)))), (1, .inl (Int32.ofNat 1))]) (S' := [.inr (.inr (.inl (some 0)))]) (h' := h) (by with_unfolding_all rfl) ?_
  refine kx_getf (c := 0) (v := .inr (.inr (.inl (some 127)))) rfl (by decide) (kx_ofr (hw _ _ _ kv_k0.2.2)) ?_
  refine kx_go 1 (pc' := 17) (L' := [(0, .inr (.inr (.inl (some 0)))), (1, .inl (Int32.ofNat 1))]) (S' := [.inl (Int32.ofNat 1), .inr (.inr (.inl (some 127)))]) (h' := h) (by with_unfolding_all rfl) ?_
  refine kc_call_rule (M2 := wk_m61) (av := [.inr (.inr (.inl (some 127))), .inl (Int32.ofNat 1)]) (r := []) rfl rfl (kc_Con_le (kr_readx1 (d := 0) (n := n) (t := t) hg hn hb ht (fun i hi => kx_ofr (hw _ _ _ (kr_k129 i hi))) (kx_ofr (hw _ _ _ t0)) (kx_ofr (hw _ _ _ u1)) (kx_ofr (hw _ _ _ u4)) (kx_ofr (hw _ _ _ u2)) hn4 (kx_ofr (hw _ _ _ t2)) (kx_ofr (hw _ _ _ t3)) e7 e8) (by decide)) (fun rv h1 hq => ?_)
  have hpost := kr_post (g := g) hw (Or.inr rfl) hn (by decide) (kr_Qrx_w hq)
  obtain ⟨pp, pp1, -, -, hw1, hfr1⟩ := hpost
  obtain rfl := List.mem_singleton.mp pp1
  simp only at hfr1
  unfold kr_Qrx at hq
  have ez : rv = some (.inl (fu_fz t n 7 9)) := by
    cases hk : kp_its t n 7 9 61 0 with
    | some l =>
      rw [hk] at hq
      obtain ⟨p2, k2, s2, e, -⟩ := hq
      rw [fu_fz1 hk]
      exact e
    | none =>
      rw [hk] at hq
      obtain ⟨h2, it2, p2, k2, s2, e, ⟨-, -, -, es⟩, -⟩ := hq
      rw [fu_fz0 hk, ← es]
      exact e
  subst ez
  exact kc_ret_ok rfl (rv := some (.inl (fu_fz t n 7 9))) rfl ⟨rfl, hw1, hfr1⟩
set_option maxRecDepth 20000 in
theorem fu_rft1 {g : kc_G} {h : kc_H} {n : Nat} {t : Nat → Nat} (hg : kc_ok g) (hw : kd_wt kd_ty h) (hn : n ≤ 240) (hb : ∀ j, j < 240 → t j < 256) (hnt : h 260 (160 + 1) = .inl (Int32.ofNat n)) (ht : ∀ j, j < 240 → h 260 (170 + 240 * 1 + j) = .inl (Int32.ofNat (t j))) : kc_Con g 10 63 [.inr (.inr (.inl (some 259))), .inl (Int32.ofNat 1)] h (fun rv h1 => rv = some (.inl (fu_fz t n 7 9)) ∧ kd_wt kd_ty h1 ∧ kd_fr km_W h h1) := by
  obtain ⟨t0, t6, t7, t8, t9, t10, t11, t12, t13⟩ := km_k259
  obtain ⟨s0, -, e8⟩ := kx_ofg (by omega) (hw _ _ _ t8)
  obtain ⟨k0, -, e9⟩ := kx_ofg (by omega) (hw _ _ _ t9)
  obtain ⟨v0, hv0, e10⟩ := kx_ofg (by omega) (hw _ _ _ t10)
  refine kc_Con_new hg (M := wk_m63) rfl rfl rfl (show 2 ≤ 2 by decide) ?_
  refine kx_go 1 (pc' := 1) (L' := [(0, .inr (.inr (.inl (some 259)))), (1, .inl (Int32.ofNat 1))]) (S' := [.inl (Int32.ofNat 1)]) (h' := h) (by with_unfolding_all rfl) ?_
  refine kc_call_rule (M2 := wk_m57) (av := [.inl (Int32.ofNat 1)]) (r := []) rfl rfl (kc_Con_le (fu_r57 (d := 0) hg) (by decide)) (fun rv h2 hq => ?_)
  obtain ⟨rfl, e⟩ := hq
  rw [e]
  clear e
  show kc_Ev g 9 wk_m63 _ 4 [(0, .inr (.inr (.inl (some 259)))), (1, .inl (Int32.ofNat 1))] [.inl (kp_b (fu_in (Int32.ofNat 1) 0 1))] h
  refine kx_go 1 (pc' := (if kc_cnd .ne (kp_b (fu_in (Int32.ofNat 1) 0 1)).toInt 0 then 12 else 7)) (L' := [(0, .inr (.inr (.inl (some 259)))), (1, .inl (Int32.ofNat 1))]) (S' := []) (h' := h) (by with_unfolding_all rfl) ?_
  rw [if_pos (kx_b1.mpr (show fu_in (Int32.ofNat 1) 0 1 = true by decide))]
  refine kx_go 2 (pc' := 14) (L' := [(0, .inr (.inr (.inl (some 259)))), (1, .inl (Int32.ofNat 1))]) (S' := [.inl (Int32.ofNat 1), .inr (.inr (.inl (some 259)))]) (h' := h) (by with_unfolding_all rfl) ?_
  refine kc_call_rule (M2 := wk_m64) (av := [.inr (.inr (.inl (some 259))), .inl (Int32.ofNat 1)]) (r := []) rfl rfl (kc_Con_le (km_readsx1 (d := 0) (n := n) (t := t) hg hn hb hnt ht (by omega) (kx_ofr (hw _ _ _ t0)) e8 e9 e10 (kx_ofr (hw _ _ _ t11)) (kx_ofr (hw _ _ _ t12))) (by decide)) (fun rv h1 hq => ?_)
  have hpost := km_post hw (by decide) hn (by decide) (km_Qrx_w hq)
  obtain ⟨pp, pp1, -, -, hw1, hfr1⟩ := hpost
  obtain rfl := List.mem_singleton.mp pp1
  simp only at hfr1
  unfold km_Qrx at hq
  cases hk : kp_its t n 7 9 61 0 with
  | some l =>
    rw [hk] at hq
    obtain ⟨a2, s2, k2, u2, rfl, -, -⟩ := hq
    show kc_Ev g 9 wk_m63 _ 17 [(0, .inr (.inr (.inl (some 259)))), (1, .inl (Int32.ofNat 1))] [.inl (Int32.ofNat 1)] h1
    refine kx_go 1 (pc' := 20) (L' := [(0, .inr (.inr (.inl (some 259)))), (1, .inl (Int32.ofNat 1))]) (S' := []) (h' := h1) (by with_unfolding_all rfl) ?_
    refine kx_go 2 (pc' := 28) (L' := [(0, .inr (.inr (.inl (some 259)))), (1, .inl (Int32.ofNat 1))]) (S' := [.inl (Int32.ofInt (-1))]) (h' := h1) (by with_unfolding_all rfl) ?_
    exact kc_ret_ok rfl (rv := some (.inl (Int32.ofInt (-1)))) rfl ⟨by rw [fu_fz1 hk], hw1, hfr1⟩
  | none =>
    rw [hk] at hq
    obtain ⟨hx, it2, a2, s2, k2, u2, rfl, ⟨-, -, -, es2⟩, hh1⟩ := hq
    have es1 : h1 259 8 = .inl (Int32.ofNat s2) := by
      rw [hh1]
      rfl
    show kc_Ev g 9 wk_m63 _ 17 [(0, .inr (.inr (.inl (some 259)))), (1, .inl (Int32.ofNat 1))] [.inl (Int32.ofNat 0)] h1
    refine kx_go 1 (pc' := 24) (L' := [(0, .inr (.inr (.inl (some 259)))), (1, .inl (Int32.ofNat 1))]) (S' := []) (h' := h1) (by with_unfolding_all rfl) ?_
    refine kx_go 1 (pc' := 25) (L' := [(0, .inr (.inr (.inl (some 259)))), (1, .inl (Int32.ofNat 1))]) (S' := [.inr (.inr (.inl (some 259)))]) (h' := h1) (by with_unfolding_all rfl) ?_
    refine kx_getf (c := 259) (v := .inl (Int32.ofNat s2)) rfl (by decide) es1 ?_
    exact kc_ret_ok rfl (rv := some (.inl (Int32.ofNat s2))) rfl ⟨by rw [fu_fz0 hk, ← es2], hw1, hfr1⟩
set_option maxRecDepth 20000 in
theorem fU_Xfault1 {g : kc_G} {h : kc_H} (hg : kc_ok g) (hI : fu_I h) : kc_Con g 30 60 [.inr (.inr (.inl (some 0))), .inl (Int32.ofNat 1)] h (fun rv h1 => ∃ z : Int32, rv = some (.inl z) ∧ kc_Con g 30 63 [.inr (.inr (.inl (some 259))), .inl (Int32.ofNat 1)] h1 (fun rv2 h2 => rv2 = some (.inl z) ∧ fu_I h2)) := by
  obtain ⟨B, hC, hR⟩ := hI.2.1
  have hB := fu_C_T hI.1 hC
  obtain ⟨n, n1, en⟩ := fu_nat (by decide) (fu_fby 1 (by decide)).2.2 (hB (160 + 1) (by decide) (by decide))
  have ht0 : ∀ j, ∃ v : Nat, j < 240 → v < 256 ∧ B (170 + 240 * 1 + j) = Int32.ofNat v := fun j => by
    by_cases hj : j < 240
    · obtain ⟨v, v1, v2⟩ := fu_nat (by decide) (fu_ftx 1 (by decide) j hj).2.2 (hB (170 + 240 * 1 + j) (by omega) (fu_ftx 1 (by decide) j hj).2.1)
      exact ⟨v, fun _ => ⟨by omega, v2⟩⟩
    · exact ⟨0, fun q => absurd q hj⟩
  obtain ⟨t, ht⟩ := Classical.axiomOfChoice ht0
  have h29 : ∀ j, j < 240 → h (1 + (28 + 1)) j = .inl (Int32.ofNat (t j)) := fun j hj => by
    have e := fu_Cj (c := 28 + 1) (i := j) hC (by omega) (fu_ftx 1 (by decide) j hj).2.1 (fu_ftx 1 (by decide) j hj).1
    rw [(ht j hj).2] at e
    exact e
  have h31 : h 31 1 = .inl (Int32.ofNat n) := (fu_Cj (c := 30) (i := 1) (j := 160 + 1) hC (by decide) (by decide) (by decide)).trans (by rw [en])
  refine kc_Con_mono (kc_Con_le (fu_cft1 hg hI.1 n1 (fun j hj => (ht j hj).1) h29 h31) (by decide)) (fun rv h1 hq => ?_)
  obtain ⟨rfl, w1, f1⟩ := hq
  have I1 := fu_fr (by decide +kernel) f1 w1 hI
  have R1 : fu_B B h1 := fu_Beq (fun i _ => f1 260 i (fun q hq => by
    simp only [kr_W, List.mem_cons, List.not_mem_nil, or_false] at hq
    rcases hq with rfl | rfl | rfl | rfl <;> exact kb_inr (by (try dsimp only); omega))) hR
  refine ⟨_, rfl, kc_Con_mono (kc_Con_le (fu_rft1 hg w1 n1 (fun j hj => (ht j hj).1) ((R1 (160 + 1) (by decide) (by decide)).trans (by rw [en])) (fun j hj => (R1 (170 + 240 * 1 + j) (by omega) (fu_ftx 1 (by decide) j hj).2.1).trans (by rw [(ht j hj).2]))) (by decide)) (fun rv h2 hq => ?_)⟩
  obtain ⟨rfl, w2, f2⟩ := hq
  exact ⟨rfl, fu_fr (by decide +kernel) f2 w2 I1⟩
theorem fU_Xfault {g : kc_G} {h : kc_H} {a : Int32} (hg : kc_ok g) (hI : fu_I h) : kc_Con g 30 60 [.inr (.inr (.inl (some 0))), .inl a] h (fun rv h1 => ∃ z : Int32, rv = some (.inl z) ∧ kc_Con g 30 63 [.inr (.inr (.inl (some 259))), .inl a] h1 (fun rv2 h2 => rv2 = some (.inl z) ∧ fu_I h2)) := by
  by_cases k : 0 ≤ a.toInt ∧ a.toInt ≤ 1
  · obtain ⟨x, x1, -, rfl⟩ := ku_nat (u := 1) k.1 (by omega)
    rcases (show x = 0 ∨ x = 1 by omega) with rfl | rfl
    · exact fU_Xfault0 hg hI
    · exact fU_Xfault1 hg hI
  · refine kc_Con_mono (kc_Con_le (fu_cftb hg k) (by decide)) (fun rv h1 hq => ?_)
    obtain ⟨rfl, rfl⟩ := hq
    refine ⟨_, rfl, kc_Con_mono (kc_Con_le (fu_rftb hg k) (by decide)) (fun rv h2 hq => ?_)⟩
    obtain ⟨rfl, rfl⟩ := hq
    exact ⟨rfl, hI⟩
end
section
-- 99.zq
/-! ===== the law's rows ===== -/
def wk_mL : wk_M := (99, ⟨"EvenSidesLaw", "law", "([I)Z"⟩, code, 4, (some FieldType.boolean), 289, 10466, 1, [
  [(0, .new 7, 3, (8, 0, 0), [130, 131, 113], 40, 0), (3, .dup, 1, (0, 0, 0), [], 26, 0), (4, .invokespecial 9, 3, (2, 0, 0), [132], 40, 0), (7, .astore_n 1, 1, (0, 0, 0), [], 6, 1), (8, .new 10, 3, (9, 0, 0), [1256, 1257, 123], 40, 0), (11, .dup, 1, (0, 0, 0), [], 26, 0), (12, .invokespecial 12, 3, (2, 11, 0), [1258], 40, 0), (15, .astore_n 2, 1, (0, 0, 0), [], 6, 2)],
  [(16, .iconst 0, 1, (0, 0, 0), [], 1, 0), (17, .istore_n 3, 1, (0, 0, 0), [], 5, 3), (18, .iload_n 3, 1, (0, 0, 0), [], 2, 3), (19, .aload_n 0, 1, (0, 0, 0), [], 3, 0), (20, .arraylength, 1, (0, 0, 0), [], 33, 0), (21, .iconst 5, 1, (0, 0, 0), [], 1, 5), (22, .isub, 1, (0, 0, 0), [], 22, 0), (23, .if_icmp .gt 1190, 3, (0, 0, 0), [], 19, 1213), (26, .aload_n 0, 1, (0, 0, 0), [], 3, 0), (27, .iload_n 3, 1, (0, 0, 0), [], 2, 3), (28, .iaload, 1, (0, 0, 0), [], 35, 0), (29, .bipush 63, 2, (0, 0, 0), [], 1, 63), (31, .iand, 1, (0, 0, 0), [], 40, 0)],
  [(32, .tableswitch 1175 0 36 #[164, 177, 220, 243, 276, 319, 362, 415, 448, 481, 514, 587, 610, 633, 646, 669, 712, 735, 768, 801, 844, 867, 880, 893, 906, 919, 942, 965, 978, 991, 1004, 1027, 1070, 1093, 1116, 1139, 1162], 164, (0, 0, 0), [], 40, 0)],
  [],
  [],
  [],
  [],
  [],
  [],
  [],
  [],
  [],
  [(196, .aload_n 1, 1, (0, 0, 0), [], 3, 1), (197, .invokevirtual 13, 3, (0, 13, 0), [541], 40, 0), (200, .pop, 1, (0, 0, 0), [], 40, 0), (201, .aload_n 2, 1, (0, 0, 0), [], 3, 2), (202, .invokevirtual 17, 3, (0, 15, 0), [1414], 40, 0), (205, .pop, 1, (0, 0, 0), [], 40, 0), (206, .goto 1001, 3, (0, 0, 0), [], 8, 1207)],
  [(209, .aload_n 1, 1, (0, 0, 0), [], 3, 1), (210, .aload_n 0, 1, (0, 0, 0), [], 3, 0), (211, .iload_n 3, 1, (0, 0, 0), [], 2, 3), (212, .iconst 1, 1, (0, 0, 0), [], 1, 1), (213, .iadd, 1, (0, 0, 0), [], 21, 0), (214, .iaload, 1, (0, 0, 0), [], 35, 0), (215, .aload_n 0, 1, (0, 0, 0), [], 3, 0), (216, .iload_n 3, 1, (0, 0, 0), [], 2, 3), (217, .iconst 2, 1, (0, 0, 0), [], 1, 2), (218, .iadd, 1, (0, 0, 0), [], 21, 0), (219, .iaload, 1, (0, 0, 0), [], 35, 0), (220, .aload_n 0, 1, (0, 0, 0), [], 3, 0), (221, .iload_n 3, 1, (0, 0, 0), [], 2, 3), (222, .iconst 3, 1, (0, 0, 0), [], 1, 3), (223, .iadd, 1, (0, 0, 0), [], 21, 0)],
  [(224, .iaload, 1, (0, 0, 0), [], 35, 0), (225, .invokevirtual 18, 3, (0, 16, 0), [549], 40, 0), (228, .pop, 1, (0, 0, 0), [], 40, 0), (229, .aload_n 2, 1, (0, 0, 0), [], 3, 2), (230, .aload_n 0, 1, (0, 0, 0), [], 3, 0), (231, .iload_n 3, 1, (0, 0, 0), [], 2, 3), (232, .iconst 1, 1, (0, 0, 0), [], 1, 1), (233, .iadd, 1, (0, 0, 0), [], 21, 0), (234, .iaload, 1, (0, 0, 0), [], 35, 0), (235, .aload_n 0, 1, (0, 0, 0), [], 3, 0), (236, .iload_n 3, 1, (0, 0, 0), [], 2, 3), (237, .iconst 2, 1, (0, 0, 0), [], 1, 2), (238, .iadd, 1, (0, 0, 0), [], 21, 0), (239, .iaload, 1, (0, 0, 0), [], 35, 0)],
  [(240, .aload_n 0, 1, (0, 0, 0), [], 3, 0), (241, .iload_n 3, 1, (0, 0, 0), [], 2, 3), (242, .iconst 3, 1, (0, 0, 0), [], 1, 3), (243, .iadd, 1, (0, 0, 0), [], 21, 0), (244, .iaload, 1, (0, 0, 0), [], 35, 0), (245, .invokevirtual 22, 3, (0, 20, 0), [1418], 40, 0), (248, .pop, 1, (0, 0, 0), [], 40, 0), (249, .goto 958, 3, (0, 0, 0), [], 8, 1207), (252, .aload_n 1, 1, (0, 0, 0), [], 3, 1), (253, .aload_n 0, 1, (0, 0, 0), [], 3, 0), (254, .iload_n 3, 1, (0, 0, 0), [], 2, 3), (255, .iconst 1, 1, (0, 0, 0), [], 1, 1)],
  [(256, .iadd, 1, (0, 0, 0), [], 21, 0), (257, .iaload, 1, (0, 0, 0), [], 35, 0), (258, .invokevirtual 23, 3, (0, 23, 0), [564], 40, 0), (261, .pop, 1, (0, 0, 0), [], 40, 0), (262, .aload_n 2, 1, (0, 0, 0), [], 3, 2), (263, .aload_n 0, 1, (0, 0, 0), [], 3, 0), (264, .iload_n 3, 1, (0, 0, 0), [], 2, 3), (265, .iconst 1, 1, (0, 0, 0), [], 1, 1), (266, .iadd, 1, (0, 0, 0), [], 21, 0), (267, .iaload, 1, (0, 0, 0), [], 35, 0), (268, .invokevirtual 27, 3, (0, 26, 0), [1434], 40, 0), (271, .pop, 1, (0, 0, 0), [], 40, 0)],
  [(272, .goto 935, 3, (0, 0, 0), [], 8, 1207), (275, .aload_n 1, 1, (0, 0, 0), [], 3, 1), (276, .aload_n 0, 1, (0, 0, 0), [], 3, 0), (277, .iload_n 3, 1, (0, 0, 0), [], 2, 3), (278, .iconst 1, 1, (0, 0, 0), [], 1, 1), (279, .iadd, 1, (0, 0, 0), [], 21, 0), (280, .iaload, 1, (0, 0, 0), [], 35, 0), (281, .aload_n 0, 1, (0, 0, 0), [], 3, 0), (282, .iload_n 3, 1, (0, 0, 0), [], 2, 3), (283, .iconst 2, 1, (0, 0, 0), [], 1, 2), (284, .iadd, 1, (0, 0, 0), [], 21, 0), (285, .iaload, 1, (0, 0, 0), [], 35, 0), (286, .invokevirtual 28, 3, (0, 28, 0), [576], 40, 0)],
  [(289, .pop, 1, (0, 0, 0), [], 40, 0), (290, .aload_n 2, 1, (0, 0, 0), [], 3, 2), (291, .aload_n 0, 1, (0, 0, 0), [], 3, 0), (292, .iload_n 3, 1, (0, 0, 0), [], 2, 3), (293, .iconst 1, 1, (0, 0, 0), [], 1, 1), (294, .iadd, 1, (0, 0, 0), [], 21, 0), (295, .iaload, 1, (0, 0, 0), [], 35, 0), (296, .aload_n 0, 1, (0, 0, 0), [], 3, 0), (297, .iload_n 3, 1, (0, 0, 0), [], 2, 3), (298, .iconst 2, 1, (0, 0, 0), [], 1, 2), (299, .iadd, 1, (0, 0, 0), [], 21, 0), (300, .iaload, 1, (0, 0, 0), [], 35, 0), (301, .invokevirtual 32, 3, (0, 30, 0), [1442], 40, 0)],
  [(304, .pop, 1, (0, 0, 0), [], 40, 0), (305, .goto 902, 3, (0, 0, 0), [], 8, 1207), (308, .aload_n 1, 1, (0, 0, 0), [], 3, 1), (309, .aload_n 0, 1, (0, 0, 0), [], 3, 0), (310, .iload_n 3, 1, (0, 0, 0), [], 2, 3), (311, .iconst 1, 1, (0, 0, 0), [], 1, 1), (312, .iadd, 1, (0, 0, 0), [], 21, 0), (313, .iaload, 1, (0, 0, 0), [], 35, 0), (314, .aload_n 0, 1, (0, 0, 0), [], 3, 0), (315, .iload_n 3, 1, (0, 0, 0), [], 2, 3), (316, .iconst 2, 1, (0, 0, 0), [], 1, 2), (317, .iadd, 1, (0, 0, 0), [], 21, 0), (318, .iaload, 1, (0, 0, 0), [], 35, 0), (319, .aload_n 0, 1, (0, 0, 0), [], 3, 0)],
  [(320, .iload_n 3, 1, (0, 0, 0), [], 2, 3), (321, .iconst 3, 1, (0, 0, 0), [], 1, 3), (322, .iadd, 1, (0, 0, 0), [], 21, 0), (323, .iaload, 1, (0, 0, 0), [], 35, 0), (324, .invokevirtual 33, 3, (0, 32, 0), [584], 40, 0), (327, .pop, 1, (0, 0, 0), [], 40, 0), (328, .aload_n 2, 1, (0, 0, 0), [], 3, 2), (329, .aload_n 0, 1, (0, 0, 0), [], 3, 0), (330, .iload_n 3, 1, (0, 0, 0), [], 2, 3), (331, .iconst 1, 1, (0, 0, 0), [], 1, 1), (332, .iadd, 1, (0, 0, 0), [], 21, 0), (333, .iaload, 1, (0, 0, 0), [], 35, 0), (334, .aload_n 0, 1, (0, 0, 0), [], 3, 0), (335, .iload_n 3, 1, (0, 0, 0), [], 2, 3)],
  [(336, .iconst 2, 1, (0, 0, 0), [], 1, 2), (337, .iadd, 1, (0, 0, 0), [], 21, 0), (338, .iaload, 1, (0, 0, 0), [], 35, 0), (339, .aload_n 0, 1, (0, 0, 0), [], 3, 0), (340, .iload_n 3, 1, (0, 0, 0), [], 2, 3), (341, .iconst 3, 1, (0, 0, 0), [], 1, 3), (342, .iadd, 1, (0, 0, 0), [], 21, 0), (343, .iaload, 1, (0, 0, 0), [], 35, 0), (344, .invokevirtual 36, 3, (0, 34, 0), [1447], 40, 0), (347, .pop, 1, (0, 0, 0), [], 40, 0), (348, .goto 859, 3, (0, 0, 0), [], 8, 1207), (351, .aload_n 1, 1, (0, 0, 0), [], 3, 1)],
  [(352, .aload_n 0, 1, (0, 0, 0), [], 3, 0), (353, .iload_n 3, 1, (0, 0, 0), [], 2, 3), (354, .iconst 1, 1, (0, 0, 0), [], 1, 1), (355, .iadd, 1, (0, 0, 0), [], 21, 0), (356, .iaload, 1, (0, 0, 0), [], 35, 0), (357, .aload_n 0, 1, (0, 0, 0), [], 3, 0), (358, .iload_n 3, 1, (0, 0, 0), [], 2, 3), (359, .iconst 2, 1, (0, 0, 0), [], 1, 2), (360, .iadd, 1, (0, 0, 0), [], 21, 0), (361, .iaload, 1, (0, 0, 0), [], 35, 0), (362, .aload_n 0, 1, (0, 0, 0), [], 3, 0), (363, .iload_n 3, 1, (0, 0, 0), [], 2, 3), (364, .iconst 3, 1, (0, 0, 0), [], 1, 3), (365, .iadd, 1, (0, 0, 0), [], 21, 0), (366, .iaload, 1, (0, 0, 0), [], 35, 0), (367, .invokevirtual 37, 3, (0, 35, 0), [592], 40, 0)],
  [(370, .pop, 1, (0, 0, 0), [], 40, 0), (371, .aload_n 2, 1, (0, 0, 0), [], 3, 2), (372, .aload_n 0, 1, (0, 0, 0), [], 3, 0), (373, .iload_n 3, 1, (0, 0, 0), [], 2, 3), (374, .iconst 1, 1, (0, 0, 0), [], 1, 1), (375, .iadd, 1, (0, 0, 0), [], 21, 0), (376, .iaload, 1, (0, 0, 0), [], 35, 0), (377, .aload_n 0, 1, (0, 0, 0), [], 3, 0), (378, .iload_n 3, 1, (0, 0, 0), [], 2, 3), (379, .iconst 2, 1, (0, 0, 0), [], 1, 2), (380, .iadd, 1, (0, 0, 0), [], 21, 0), (381, .iaload, 1, (0, 0, 0), [], 35, 0), (382, .aload_n 0, 1, (0, 0, 0), [], 3, 0), (383, .iload_n 3, 1, (0, 0, 0), [], 2, 3)],
  [(384, .iconst 3, 1, (0, 0, 0), [], 1, 3), (385, .iadd, 1, (0, 0, 0), [], 21, 0), (386, .iaload, 1, (0, 0, 0), [], 35, 0), (387, .invokevirtual 40, 3, (0, 39, 0), [1452], 40, 0), (390, .pop, 1, (0, 0, 0), [], 40, 0), (391, .goto 816, 3, (0, 0, 0), [], 8, 1207), (394, .aload_n 1, 1, (0, 0, 0), [], 3, 1), (395, .aload_n 0, 1, (0, 0, 0), [], 3, 0), (396, .iload_n 3, 1, (0, 0, 0), [], 2, 3), (397, .iconst 1, 1, (0, 0, 0), [], 1, 1), (398, .iadd, 1, (0, 0, 0), [], 21, 0), (399, .iaload, 1, (0, 0, 0), [], 35, 0)],
  [(400, .aload_n 0, 1, (0, 0, 0), [], 3, 0), (401, .iload_n 3, 1, (0, 0, 0), [], 2, 3), (402, .iconst 2, 1, (0, 0, 0), [], 1, 2), (403, .iadd, 1, (0, 0, 0), [], 21, 0), (404, .iaload, 1, (0, 0, 0), [], 35, 0), (405, .aload_n 0, 1, (0, 0, 0), [], 3, 0), (406, .iload_n 3, 1, (0, 0, 0), [], 2, 3), (407, .iconst 3, 1, (0, 0, 0), [], 1, 3), (408, .iadd, 1, (0, 0, 0), [], 21, 0), (409, .iaload, 1, (0, 0, 0), [], 35, 0), (410, .aload_n 0, 1, (0, 0, 0), [], 3, 0), (411, .iload_n 3, 1, (0, 0, 0), [], 2, 3), (412, .iconst 4, 1, (0, 0, 0), [], 1, 4), (413, .iadd, 1, (0, 0, 0), [], 21, 0), (414, .iaload, 1, (0, 0, 0), [], 35, 0), (415, .invokevirtual 41, 3, (0, 41, 0), [608], 40, 0)],
  [(418, .pop, 1, (0, 0, 0), [], 40, 0), (419, .aload_n 2, 1, (0, 0, 0), [], 3, 2), (420, .aload_n 0, 1, (0, 0, 0), [], 3, 0), (421, .iload_n 3, 1, (0, 0, 0), [], 2, 3), (422, .iconst 1, 1, (0, 0, 0), [], 1, 1), (423, .iadd, 1, (0, 0, 0), [], 21, 0), (424, .iaload, 1, (0, 0, 0), [], 35, 0), (425, .aload_n 0, 1, (0, 0, 0), [], 3, 0), (426, .iload_n 3, 1, (0, 0, 0), [], 2, 3), (427, .iconst 2, 1, (0, 0, 0), [], 1, 2), (428, .iadd, 1, (0, 0, 0), [], 21, 0), (429, .iaload, 1, (0, 0, 0), [], 35, 0), (430, .aload_n 0, 1, (0, 0, 0), [], 3, 0), (431, .iload_n 3, 1, (0, 0, 0), [], 2, 3)],
  [(432, .iconst 3, 1, (0, 0, 0), [], 1, 3), (433, .iadd, 1, (0, 0, 0), [], 21, 0), (434, .iaload, 1, (0, 0, 0), [], 35, 0), (435, .aload_n 0, 1, (0, 0, 0), [], 3, 0), (436, .iload_n 3, 1, (0, 0, 0), [], 2, 3), (437, .iconst 4, 1, (0, 0, 0), [], 1, 4), (438, .iadd, 1, (0, 0, 0), [], 21, 0), (439, .iaload, 1, (0, 0, 0), [], 35, 0), (440, .invokevirtual 45, 3, (0, 43, 0), [1463], 40, 0), (443, .pop, 1, (0, 0, 0), [], 40, 0), (444, .goto 763, 3, (0, 0, 0), [], 8, 1207), (447, .aload_n 1, 1, (0, 0, 0), [], 3, 1)],
  [(448, .aload_n 0, 1, (0, 0, 0), [], 3, 0), (449, .iload_n 3, 1, (0, 0, 0), [], 2, 3), (450, .iconst 1, 1, (0, 0, 0), [], 1, 1), (451, .iadd, 1, (0, 0, 0), [], 21, 0), (452, .iaload, 1, (0, 0, 0), [], 35, 0), (453, .aload_n 0, 1, (0, 0, 0), [], 3, 0), (454, .iload_n 3, 1, (0, 0, 0), [], 2, 3), (455, .iconst 2, 1, (0, 0, 0), [], 1, 2), (456, .iadd, 1, (0, 0, 0), [], 21, 0), (457, .iaload, 1, (0, 0, 0), [], 35, 0), (458, .invokevirtual 46, 3, (0, 44, 0), [616], 40, 0), (461, .pop, 1, (0, 0, 0), [], 40, 0), (462, .aload_n 2, 1, (0, 0, 0), [], 3, 2), (463, .aload_n 0, 1, (0, 0, 0), [], 3, 0)],
  [(464, .iload_n 3, 1, (0, 0, 0), [], 2, 3), (465, .iconst 1, 1, (0, 0, 0), [], 1, 1), (466, .iadd, 1, (0, 0, 0), [], 21, 0), (467, .iaload, 1, (0, 0, 0), [], 35, 0), (468, .aload_n 0, 1, (0, 0, 0), [], 3, 0), (469, .iload_n 3, 1, (0, 0, 0), [], 2, 3), (470, .iconst 2, 1, (0, 0, 0), [], 1, 2), (471, .iadd, 1, (0, 0, 0), [], 21, 0), (472, .iaload, 1, (0, 0, 0), [], 35, 0), (473, .invokevirtual 49, 3, (0, 47, 0), [1467], 40, 0), (476, .pop, 1, (0, 0, 0), [], 40, 0), (477, .goto 730, 3, (0, 0, 0), [], 8, 1207)],
  [(480, .aload_n 1, 1, (0, 0, 0), [], 3, 1), (481, .aload_n 0, 1, (0, 0, 0), [], 3, 0), (482, .iload_n 3, 1, (0, 0, 0), [], 2, 3), (483, .iconst 1, 1, (0, 0, 0), [], 1, 1), (484, .iadd, 1, (0, 0, 0), [], 21, 0), (485, .iaload, 1, (0, 0, 0), [], 35, 0), (486, .aload_n 0, 1, (0, 0, 0), [], 3, 0), (487, .iload_n 3, 1, (0, 0, 0), [], 2, 3), (488, .iconst 2, 1, (0, 0, 0), [], 1, 2), (489, .iadd, 1, (0, 0, 0), [], 21, 0), (490, .iaload, 1, (0, 0, 0), [], 35, 0), (491, .invokevirtual 50, 3, (0, 49, 0), [628], 40, 0), (494, .pop, 1, (0, 0, 0), [], 40, 0), (495, .aload_n 2, 1, (0, 0, 0), [], 3, 2)],
  [(496, .aload_n 0, 1, (0, 0, 0), [], 3, 0), (497, .iload_n 3, 1, (0, 0, 0), [], 2, 3), (498, .iconst 1, 1, (0, 0, 0), [], 1, 1), (499, .iadd, 1, (0, 0, 0), [], 21, 0), (500, .iaload, 1, (0, 0, 0), [], 35, 0), (501, .aload_n 0, 1, (0, 0, 0), [], 3, 0), (502, .iload_n 3, 1, (0, 0, 0), [], 2, 3), (503, .iconst 2, 1, (0, 0, 0), [], 1, 2), (504, .iadd, 1, (0, 0, 0), [], 21, 0), (505, .iaload, 1, (0, 0, 0), [], 35, 0), (506, .invokevirtual 53, 3, (0, 50, 0), [1476], 40, 0), (509, .pop, 1, (0, 0, 0), [], 40, 0), (510, .goto 697, 3, (0, 0, 0), [], 8, 1207)],
  [(513, .aload_n 1, 1, (0, 0, 0), [], 3, 1), (514, .aload_n 0, 1, (0, 0, 0), [], 3, 0), (515, .iload_n 3, 1, (0, 0, 0), [], 2, 3), (516, .iconst 1, 1, (0, 0, 0), [], 1, 1), (517, .iadd, 1, (0, 0, 0), [], 21, 0), (518, .iaload, 1, (0, 0, 0), [], 35, 0), (519, .aload_n 0, 1, (0, 0, 0), [], 3, 0), (520, .iload_n 3, 1, (0, 0, 0), [], 2, 3), (521, .iconst 2, 1, (0, 0, 0), [], 1, 2), (522, .iadd, 1, (0, 0, 0), [], 21, 0), (523, .iaload, 1, (0, 0, 0), [], 35, 0), (524, .invokevirtual 54, 3, (0, 51, 0), [632], 40, 0), (527, .pop, 1, (0, 0, 0), [], 40, 0)],
  [(528, .aload_n 2, 1, (0, 0, 0), [], 3, 2), (529, .aload_n 0, 1, (0, 0, 0), [], 3, 0), (530, .iload_n 3, 1, (0, 0, 0), [], 2, 3), (531, .iconst 1, 1, (0, 0, 0), [], 1, 1), (532, .iadd, 1, (0, 0, 0), [], 21, 0), (533, .iaload, 1, (0, 0, 0), [], 35, 0), (534, .aload_n 0, 1, (0, 0, 0), [], 3, 0), (535, .iload_n 3, 1, (0, 0, 0), [], 2, 3), (536, .iconst 2, 1, (0, 0, 0), [], 1, 2), (537, .iadd, 1, (0, 0, 0), [], 21, 0), (538, .iaload, 1, (0, 0, 0), [], 35, 0), (539, .invokevirtual 57, 3, (0, 53, 0), [1480], 40, 0), (542, .pop, 1, (0, 0, 0), [], 40, 0), (543, .goto 664, 3, (0, 0, 0), [], 8, 1207)],
  [(546, .aload_n 1, 1, (0, 0, 0), [], 3, 1), (547, .aload_n 0, 1, (0, 0, 0), [], 3, 0), (548, .iload_n 3, 1, (0, 0, 0), [], 2, 3), (549, .iconst 1, 1, (0, 0, 0), [], 1, 1), (550, .iadd, 1, (0, 0, 0), [], 21, 0), (551, .iaload, 1, (0, 0, 0), [], 35, 0), (552, .aload_n 0, 1, (0, 0, 0), [], 3, 0), (553, .iload_n 3, 1, (0, 0, 0), [], 2, 3), (554, .iconst 2, 1, (0, 0, 0), [], 1, 2), (555, .iadd, 1, (0, 0, 0), [], 21, 0), (556, .iaload, 1, (0, 0, 0), [], 35, 0), (557, .i2l, 1, (0, 0, 0), [], 24, 0), (558, .bipush 32, 2, (0, 0, 0), [], 1, 32)],
  [(560, .lshl, 1, (0, 0, 0), [], 40, 0), (561, .aload_n 0, 1, (0, 0, 0), [], 3, 0), (562, .iload_n 3, 1, (0, 0, 0), [], 2, 3), (563, .iconst 3, 1, (0, 0, 0), [], 1, 3), (564, .iadd, 1, (0, 0, 0), [], 21, 0), (565, .iaload, 1, (0, 0, 0), [], 35, 0), (566, .i2l, 1, (0, 0, 0), [], 24, 0), (567, .ldc2_w 58, 3, (0, 0, 4294967295), [1910], 28, 4294967295), (570, .land, 1, (0, 0, 0), [], 40, 0), (571, .lor, 1, (0, 0, 0), [], 40, 0), (572, .aload_n 0, 1, (0, 0, 0), [], 3, 0), (573, .iload_n 3, 1, (0, 0, 0), [], 2, 3), (574, .iconst 4, 1, (0, 0, 0), [], 1, 4), (575, .iadd, 1, (0, 0, 0), [], 21, 0)],
  [(576, .iaload, 1, (0, 0, 0), [], 35, 0), (577, .invokevirtual 60, 3, (0, 54, 0), [640], 40, 0), (580, .pop, 1, (0, 0, 0), [], 40, 0), (581, .aload_n 2, 1, (0, 0, 0), [], 3, 2), (582, .aload_n 0, 1, (0, 0, 0), [], 3, 0), (583, .iload_n 3, 1, (0, 0, 0), [], 2, 3), (584, .iconst 1, 1, (0, 0, 0), [], 1, 1), (585, .iadd, 1, (0, 0, 0), [], 21, 0), (586, .iaload, 1, (0, 0, 0), [], 35, 0), (587, .aload_n 0, 1, (0, 0, 0), [], 3, 0), (588, .iload_n 3, 1, (0, 0, 0), [], 2, 3), (589, .iconst 2, 1, (0, 0, 0), [], 1, 2), (590, .iadd, 1, (0, 0, 0), [], 21, 0), (591, .iaload, 1, (0, 0, 0), [], 35, 0)],
  [(592, .i2l, 1, (0, 0, 0), [], 24, 0), (593, .bipush 32, 2, (0, 0, 0), [], 1, 32), (595, .lshl, 1, (0, 0, 0), [], 40, 0), (596, .aload_n 0, 1, (0, 0, 0), [], 3, 0), (597, .iload_n 3, 1, (0, 0, 0), [], 2, 3), (598, .iconst 3, 1, (0, 0, 0), [], 1, 3), (599, .iadd, 1, (0, 0, 0), [], 21, 0), (600, .iaload, 1, (0, 0, 0), [], 35, 0), (601, .i2l, 1, (0, 0, 0), [], 24, 0), (602, .ldc2_w 58, 3, (0, 0, 4294967295), [1910], 28, 4294967295), (605, .land, 1, (0, 0, 0), [], 40, 0), (606, .lor, 1, (0, 0, 0), [], 40, 0), (607, .aload_n 0, 1, (0, 0, 0), [], 3, 0)],
  [(608, .iload_n 3, 1, (0, 0, 0), [], 2, 3), (609, .iconst 4, 1, (0, 0, 0), [], 1, 4), (610, .iadd, 1, (0, 0, 0), [], 21, 0), (611, .iaload, 1, (0, 0, 0), [], 35, 0), (612, .invokevirtual 64, 3, (0, 56, 0), [1485], 40, 0), (615, .pop, 1, (0, 0, 0), [], 40, 0), (616, .goto 591, 3, (0, 0, 0), [], 8, 1207), (619, .aload_n 1, 1, (0, 0, 0), [], 3, 1), (620, .aload_n 0, 1, (0, 0, 0), [], 3, 0), (621, .iload_n 3, 1, (0, 0, 0), [], 2, 3), (622, .iconst 1, 1, (0, 0, 0), [], 1, 1), (623, .iadd, 1, (0, 0, 0), [], 21, 0)],
  [(624, .iaload, 1, (0, 0, 0), [], 35, 0), (625, .invokevirtual 65, 3, (0, 58, 0), [648], 40, 0), (628, .pop, 1, (0, 0, 0), [], 40, 0), (629, .aload_n 2, 1, (0, 0, 0), [], 3, 2), (630, .aload_n 0, 1, (0, 0, 0), [], 3, 0), (631, .iload_n 3, 1, (0, 0, 0), [], 2, 3), (632, .iconst 1, 1, (0, 0, 0), [], 1, 1), (633, .iadd, 1, (0, 0, 0), [], 21, 0), (634, .iaload, 1, (0, 0, 0), [], 35, 0), (635, .invokevirtual 68, 3, (0, 59, 0), [1494], 40, 0), (638, .pop, 1, (0, 0, 0), [], 40, 0), (639, .goto 568, 3, (0, 0, 0), [], 8, 1207)],
  [(642, .aload_n 1, 1, (0, 0, 0), [], 3, 1), (643, .aload_n 0, 1, (0, 0, 0), [], 3, 0), (644, .iload_n 3, 1, (0, 0, 0), [], 2, 3), (645, .iconst 1, 1, (0, 0, 0), [], 1, 1), (646, .iadd, 1, (0, 0, 0), [], 21, 0), (647, .iaload, 1, (0, 0, 0), [], 35, 0), (648, .invokevirtual 69, 3, (0, 60, 0), [653], 40, 0), (651, .pop, 1, (0, 0, 0), [], 40, 0), (652, .aload_n 2, 1, (0, 0, 0), [], 3, 2), (653, .aload_n 0, 1, (0, 0, 0), [], 3, 0), (654, .iload_n 3, 1, (0, 0, 0), [], 2, 3), (655, .iconst 1, 1, (0, 0, 0), [], 1, 1)],
  [(656, .iadd, 1, (0, 0, 0), [], 21, 0), (657, .iaload, 1, (0, 0, 0), [], 35, 0), (658, .invokevirtual 72, 3, (0, 63, 0), [1498], 40, 0), (661, .pop, 1, (0, 0, 0), [], 40, 0), (662, .goto 545, 3, (0, 0, 0), [], 8, 1207), (665, .aload_n 1, 1, (0, 0, 0), [], 3, 1), (666, .invokevirtual 73, 3, (0, 67, 0), [771], 40, 0), (669, .aload_n 2, 1, (0, 0, 0), [], 3, 2), (670, .invokevirtual 76, 3, (0, 71, 0), [1547], 40, 0)],
  [(673, .if_icmp .eq 534, 3, (0, 0, 0), [], 15, 1207), (676, .iconst 0, 1, (0, 0, 0), [], 1, 0), (677, .ireturn, 1, (0, 0, 0), [], 40, 0), (678, .aload_n 1, 1, (0, 0, 0), [], 3, 1), (679, .aload_n 0, 1, (0, 0, 0), [], 3, 0), (680, .iload_n 3, 1, (0, 0, 0), [], 2, 3), (681, .iconst 1, 1, (0, 0, 0), [], 1, 1), (682, .iadd, 1, (0, 0, 0), [], 21, 0), (683, .iaload, 1, (0, 0, 0), [], 35, 0), (684, .invokevirtual 77, 3, (0, 72, 0), [804], 40, 0), (687, .pop, 1, (0, 0, 0), [], 40, 0)],
  [(688, .aload_n 2, 1, (0, 0, 0), [], 3, 2), (689, .aload_n 0, 1, (0, 0, 0), [], 3, 0), (690, .iload_n 3, 1, (0, 0, 0), [], 2, 3), (691, .iconst 1, 1, (0, 0, 0), [], 1, 1), (692, .iadd, 1, (0, 0, 0), [], 21, 0), (693, .iaload, 1, (0, 0, 0), [], 35, 0), (694, .invokevirtual 80, 3, (0, 77, 0), [1568], 40, 0), (697, .pop, 1, (0, 0, 0), [], 40, 0), (698, .goto 509, 3, (0, 0, 0), [], 8, 1207), (701, .aload_n 1, 1, (0, 0, 0), [], 3, 1), (702, .aload_n 0, 1, (0, 0, 0), [], 3, 0), (703, .iload_n 3, 1, (0, 0, 0), [], 2, 3)],
  [(704, .iconst 1, 1, (0, 0, 0), [], 1, 1), (705, .iadd, 1, (0, 0, 0), [], 21, 0), (706, .iaload, 1, (0, 0, 0), [], 35, 0), (707, .aload_n 0, 1, (0, 0, 0), [], 3, 0), (708, .iload_n 3, 1, (0, 0, 0), [], 2, 3), (709, .iconst 2, 1, (0, 0, 0), [], 1, 2), (710, .iadd, 1, (0, 0, 0), [], 21, 0), (711, .iaload, 1, (0, 0, 0), [], 35, 0), (712, .aload_n 0, 1, (0, 0, 0), [], 3, 0), (713, .iload_n 3, 1, (0, 0, 0), [], 2, 3), (714, .iconst 3, 1, (0, 0, 0), [], 1, 3), (715, .iadd, 1, (0, 0, 0), [], 21, 0), (716, .iaload, 1, (0, 0, 0), [], 35, 0), (717, .invokevirtual 81, 3, (0, 80, 0), [900], 40, 0)],
  [(720, .pop, 1, (0, 0, 0), [], 40, 0), (721, .aload_n 2, 1, (0, 0, 0), [], 3, 2), (722, .aload_n 0, 1, (0, 0, 0), [], 3, 0), (723, .iload_n 3, 1, (0, 0, 0), [], 2, 3), (724, .iconst 1, 1, (0, 0, 0), [], 1, 1), (725, .iadd, 1, (0, 0, 0), [], 21, 0), (726, .iaload, 1, (0, 0, 0), [], 35, 0), (727, .aload_n 0, 1, (0, 0, 0), [], 3, 0), (728, .iload_n 3, 1, (0, 0, 0), [], 2, 3), (729, .iconst 2, 1, (0, 0, 0), [], 1, 2), (730, .iadd, 1, (0, 0, 0), [], 21, 0), (731, .iaload, 1, (0, 0, 0), [], 35, 0), (732, .aload_n 0, 1, (0, 0, 0), [], 3, 0), (733, .iload_n 3, 1, (0, 0, 0), [], 2, 3), (734, .iconst 3, 1, (0, 0, 0), [], 1, 3), (735, .iadd, 1, (0, 0, 0), [], 21, 0)],
  [(736, .iaload, 1, (0, 0, 0), [], 35, 0), (737, .invokevirtual 84, 3, (0, 81, 0), [1665], 40, 0), (740, .pop, 1, (0, 0, 0), [], 40, 0), (741, .goto 466, 3, (0, 0, 0), [], 8, 1207), (744, .aload_n 1, 1, (0, 0, 0), [], 3, 1), (745, .aload_n 0, 1, (0, 0, 0), [], 3, 0), (746, .iload_n 3, 1, (0, 0, 0), [], 2, 3), (747, .iconst 1, 1, (0, 0, 0), [], 1, 1), (748, .iadd, 1, (0, 0, 0), [], 21, 0), (749, .iaload, 1, (0, 0, 0), [], 35, 0), (750, .invokevirtual 85, 3, (0, 83, 0), [907], 40, 0)],
  [(753, .pop, 1, (0, 0, 0), [], 40, 0), (754, .aload_n 2, 1, (0, 0, 0), [], 3, 2), (755, .aload_n 0, 1, (0, 0, 0), [], 3, 0), (756, .iload_n 3, 1, (0, 0, 0), [], 2, 3), (757, .iconst 1, 1, (0, 0, 0), [], 1, 1), (758, .iadd, 1, (0, 0, 0), [], 21, 0), (759, .iaload, 1, (0, 0, 0), [], 35, 0), (760, .invokevirtual 88, 3, (0, 84, 0), [1670], 40, 0), (763, .pop, 1, (0, 0, 0), [], 40, 0), (764, .goto 443, 3, (0, 0, 0), [], 8, 1207), (767, .aload_n 1, 1, (0, 0, 0), [], 3, 1)],
  [(768, .aload_n 0, 1, (0, 0, 0), [], 3, 0), (769, .iload_n 3, 1, (0, 0, 0), [], 2, 3), (770, .iconst 1, 1, (0, 0, 0), [], 1, 1), (771, .iadd, 1, (0, 0, 0), [], 21, 0), (772, .iaload, 1, (0, 0, 0), [], 35, 0), (773, .aload_n 0, 1, (0, 0, 0), [], 3, 0), (774, .iload_n 3, 1, (0, 0, 0), [], 2, 3), (775, .iconst 2, 1, (0, 0, 0), [], 1, 2), (776, .iadd, 1, (0, 0, 0), [], 21, 0), (777, .iaload, 1, (0, 0, 0), [], 35, 0), (778, .invokevirtual 89, 3, (0, 85, 0), [912], 40, 0), (781, .pop, 1, (0, 0, 0), [], 40, 0), (782, .aload_n 2, 1, (0, 0, 0), [], 3, 2), (783, .aload_n 0, 1, (0, 0, 0), [], 3, 0)],
  [(784, .iload_n 3, 1, (0, 0, 0), [], 2, 3), (785, .iconst 1, 1, (0, 0, 0), [], 1, 1), (786, .iadd, 1, (0, 0, 0), [], 21, 0), (787, .iaload, 1, (0, 0, 0), [], 35, 0), (788, .aload_n 0, 1, (0, 0, 0), [], 3, 0), (789, .iload_n 3, 1, (0, 0, 0), [], 2, 3), (790, .iconst 2, 1, (0, 0, 0), [], 1, 2), (791, .iadd, 1, (0, 0, 0), [], 21, 0), (792, .iaload, 1, (0, 0, 0), [], 35, 0), (793, .invokevirtual 92, 3, (0, 87, 0), [1674], 40, 0), (796, .pop, 1, (0, 0, 0), [], 40, 0), (797, .goto 410, 3, (0, 0, 0), [], 8, 1207)],
  [(800, .aload_n 1, 1, (0, 0, 0), [], 3, 1), (801, .aload_n 0, 1, (0, 0, 0), [], 3, 0), (802, .iload_n 3, 1, (0, 0, 0), [], 2, 3), (803, .iconst 1, 1, (0, 0, 0), [], 1, 1), (804, .iadd, 1, (0, 0, 0), [], 21, 0), (805, .iaload, 1, (0, 0, 0), [], 35, 0), (806, .aload_n 0, 1, (0, 0, 0), [], 3, 0), (807, .iload_n 3, 1, (0, 0, 0), [], 2, 3), (808, .iconst 2, 1, (0, 0, 0), [], 1, 2), (809, .iadd, 1, (0, 0, 0), [], 21, 0), (810, .iaload, 1, (0, 0, 0), [], 35, 0), (811, .invokevirtual 93, 3, (0, 89, 0), [929], 40, 0), (814, .pop, 1, (0, 0, 0), [], 40, 0), (815, .aload_n 2, 1, (0, 0, 0), [], 3, 2)],
  [(816, .aload_n 0, 1, (0, 0, 0), [], 3, 0), (817, .iload_n 3, 1, (0, 0, 0), [], 2, 3), (818, .iconst 1, 1, (0, 0, 0), [], 1, 1), (819, .iadd, 1, (0, 0, 0), [], 21, 0), (820, .iaload, 1, (0, 0, 0), [], 35, 0), (821, .aload_n 0, 1, (0, 0, 0), [], 3, 0), (822, .iload_n 3, 1, (0, 0, 0), [], 2, 3), (823, .iconst 2, 1, (0, 0, 0), [], 1, 2), (824, .iadd, 1, (0, 0, 0), [], 21, 0), (825, .iaload, 1, (0, 0, 0), [], 35, 0), (826, .invokevirtual 96, 3, (0, 90, 0), [1688], 40, 0), (829, .pop, 1, (0, 0, 0), [], 40, 0), (830, .goto 377, 3, (0, 0, 0), [], 8, 1207)],
  [(833, .aload_n 1, 1, (0, 0, 0), [], 3, 1), (834, .aload_n 0, 1, (0, 0, 0), [], 3, 0), (835, .iload_n 3, 1, (0, 0, 0), [], 2, 3), (836, .iconst 1, 1, (0, 0, 0), [], 1, 1), (837, .iadd, 1, (0, 0, 0), [], 21, 0), (838, .iaload, 1, (0, 0, 0), [], 35, 0), (839, .aload_n 0, 1, (0, 0, 0), [], 3, 0), (840, .iload_n 3, 1, (0, 0, 0), [], 2, 3), (841, .iconst 2, 1, (0, 0, 0), [], 1, 2), (842, .iadd, 1, (0, 0, 0), [], 21, 0), (843, .iaload, 1, (0, 0, 0), [], 35, 0), (844, .aload_n 0, 1, (0, 0, 0), [], 3, 0), (845, .iload_n 3, 1, (0, 0, 0), [], 2, 3), (846, .iconst 3, 1, (0, 0, 0), [], 1, 3), (847, .iadd, 1, (0, 0, 0), [], 21, 0)],
  [(848, .iaload, 1, (0, 0, 0), [], 35, 0), (849, .invokevirtual 97, 3, (0, 91, 0), [937], 40, 0), (852, .pop, 1, (0, 0, 0), [], 40, 0), (853, .aload_n 2, 1, (0, 0, 0), [], 3, 2), (854, .aload_n 0, 1, (0, 0, 0), [], 3, 0), (855, .iload_n 3, 1, (0, 0, 0), [], 2, 3), (856, .iconst 1, 1, (0, 0, 0), [], 1, 1), (857, .iadd, 1, (0, 0, 0), [], 21, 0), (858, .iaload, 1, (0, 0, 0), [], 35, 0), (859, .aload_n 0, 1, (0, 0, 0), [], 3, 0), (860, .iload_n 3, 1, (0, 0, 0), [], 2, 3), (861, .iconst 2, 1, (0, 0, 0), [], 1, 2), (862, .iadd, 1, (0, 0, 0), [], 21, 0), (863, .iaload, 1, (0, 0, 0), [], 35, 0)],
  [(864, .aload_n 0, 1, (0, 0, 0), [], 3, 0), (865, .iload_n 3, 1, (0, 0, 0), [], 2, 3), (866, .iconst 3, 1, (0, 0, 0), [], 1, 3), (867, .iadd, 1, (0, 0, 0), [], 21, 0), (868, .iaload, 1, (0, 0, 0), [], 35, 0), (869, .invokevirtual 100, 3, (0, 92, 0), [1692], 40, 0), (872, .pop, 1, (0, 0, 0), [], 40, 0), (873, .goto 334, 3, (0, 0, 0), [], 8, 1207), (876, .aload_n 1, 1, (0, 0, 0), [], 3, 1), (877, .aload_n 0, 1, (0, 0, 0), [], 3, 0), (878, .iload_n 3, 1, (0, 0, 0), [], 2, 3), (879, .iconst 1, 1, (0, 0, 0), [], 1, 1)],
  [(880, .iadd, 1, (0, 0, 0), [], 21, 0), (881, .iaload, 1, (0, 0, 0), [], 35, 0), (882, .invokevirtual 101, 3, (0, 93, 0), [942], 40, 0), (885, .pop, 1, (0, 0, 0), [], 40, 0), (886, .aload_n 2, 1, (0, 0, 0), [], 3, 2), (887, .aload_n 0, 1, (0, 0, 0), [], 3, 0), (888, .iload_n 3, 1, (0, 0, 0), [], 2, 3), (889, .iconst 1, 1, (0, 0, 0), [], 1, 1), (890, .iadd, 1, (0, 0, 0), [], 21, 0), (891, .iaload, 1, (0, 0, 0), [], 35, 0), (892, .invokevirtual 104, 3, (0, 94, 0), [1697], 40, 0), (895, .pop, 1, (0, 0, 0), [], 40, 0)],
  [(896, .goto 311, 3, (0, 0, 0), [], 8, 1207), (899, .aload_n 1, 1, (0, 0, 0), [], 3, 1), (900, .invokevirtual 105, 3, (0, 95, 0), [951], 40, 0), (903, .pop, 1, (0, 0, 0), [], 40, 0), (904, .aload_n 2, 1, (0, 0, 0), [], 3, 2), (905, .invokevirtual 108, 3, (0, 96, 0), [1709], 40, 0), (908, .pop, 1, (0, 0, 0), [], 40, 0), (909, .goto 298, 3, (0, 0, 0), [], 8, 1207)],
  [(912, .aload_n 1, 1, (0, 0, 0), [], 3, 1), (913, .invokevirtual 109, 3, (0, 97, 0), [955], 40, 0), (916, .pop, 1, (0, 0, 0), [], 40, 0), (917, .aload_n 2, 1, (0, 0, 0), [], 3, 2), (918, .invokevirtual 112, 3, (0, 103, 0), [1713], 40, 0), (921, .pop, 1, (0, 0, 0), [], 40, 0), (922, .goto 285, 3, (0, 0, 0), [], 8, 1207), (925, .aload_n 1, 1, (0, 0, 0), [], 3, 1), (926, .invokevirtual 113, 3, (0, 107, 0), [1003], 40, 0)],
  [(929, .pop, 1, (0, 0, 0), [], 40, 0), (930, .aload_n 2, 1, (0, 0, 0), [], 3, 2), (931, .invokevirtual 116, 3, (0, 109, 0), [1733], 40, 0), (934, .pop, 1, (0, 0, 0), [], 40, 0), (935, .goto 272, 3, (0, 0, 0), [], 8, 1207), (938, .aload_n 1, 1, (0, 0, 0), [], 3, 1), (939, .invokevirtual 117, 3, (0, 111, 0), [1017], 40, 0), (942, .pop, 1, (0, 0, 0), [], 40, 0), (943, .aload_n 2, 1, (0, 0, 0), [], 3, 2)],
  [(944, .invokevirtual 120, 3, (0, 113, 0), [1745], 40, 0), (947, .pop, 1, (0, 0, 0), [], 40, 0), (948, .goto 259, 3, (0, 0, 0), [], 8, 1207), (951, .aload_n 1, 1, (0, 0, 0), [], 3, 1), (952, .aload_n 0, 1, (0, 0, 0), [], 3, 0), (953, .iload_n 3, 1, (0, 0, 0), [], 2, 3), (954, .iconst 1, 1, (0, 0, 0), [], 1, 1), (955, .iadd, 1, (0, 0, 0), [], 21, 0), (956, .iaload, 1, (0, 0, 0), [], 35, 0), (957, .invokevirtual 121, 3, (0, 114, 0), [1025], 40, 0)],
  [(960, .pop, 1, (0, 0, 0), [], 40, 0), (961, .aload_n 2, 1, (0, 0, 0), [], 3, 2), (962, .aload_n 0, 1, (0, 0, 0), [], 3, 0), (963, .iload_n 3, 1, (0, 0, 0), [], 2, 3), (964, .iconst 1, 1, (0, 0, 0), [], 1, 1), (965, .iadd, 1, (0, 0, 0), [], 21, 0), (966, .iaload, 1, (0, 0, 0), [], 35, 0), (967, .invokevirtual 124, 3, (0, 120, 0), [1757], 40, 0), (970, .pop, 1, (0, 0, 0), [], 40, 0), (971, .goto 236, 3, (0, 0, 0), [], 8, 1207), (974, .aload_n 1, 1, (0, 0, 0), [], 3, 1), (975, .aload_n 0, 1, (0, 0, 0), [], 3, 0)],
  [(976, .iload_n 3, 1, (0, 0, 0), [], 2, 3), (977, .iconst 1, 1, (0, 0, 0), [], 1, 1), (978, .iadd, 1, (0, 0, 0), [], 21, 0), (979, .iaload, 1, (0, 0, 0), [], 35, 0), (980, .invokevirtual 125, 3, (0, 125, 0), [1072], 40, 0), (983, .pop, 1, (0, 0, 0), [], 40, 0), (984, .aload_n 2, 1, (0, 0, 0), [], 3, 2), (985, .aload_n 0, 1, (0, 0, 0), [], 3, 0), (986, .iload_n 3, 1, (0, 0, 0), [], 2, 3), (987, .iconst 1, 1, (0, 0, 0), [], 1, 1), (988, .iadd, 1, (0, 0, 0), [], 21, 0), (989, .iaload, 1, (0, 0, 0), [], 35, 0), (990, .invokevirtual 128, 3, (0, 129, 0), [1777], 40, 0)],
  [(993, .pop, 1, (0, 0, 0), [], 40, 0), (994, .goto 213, 3, (0, 0, 0), [], 8, 1207), (997, .aload_n 1, 1, (0, 0, 0), [], 3, 1), (998, .invokevirtual 129, 3, (0, 134, 0), [1097], 40, 0), (1001, .pop, 1, (0, 0, 0), [], 40, 0), (1002, .aload_n 2, 1, (0, 0, 0), [], 3, 2), (1003, .invokevirtual 132, 3, (0, 136, 0), [1805], 40, 0), (1006, .pop, 1, (0, 0, 0), [], 40, 0), (1007, .goto 200, 3, (0, 0, 0), [], 8, 1207)],
  [(1010, .aload_n 1, 1, (0, 0, 0), [], 3, 1), (1011, .invokevirtual 133, 3, (0, 137, 0), [1135], 40, 0), (1014, .pop, 1, (0, 0, 0), [], 40, 0), (1015, .aload_n 2, 1, (0, 0, 0), [], 3, 2), (1016, .invokevirtual 136, 3, (0, 138, 0), [1837], 40, 0), (1019, .pop, 1, (0, 0, 0), [], 40, 0), (1020, .goto 187, 3, (0, 0, 0), [], 8, 1207), (1023, .aload_n 1, 1, (0, 0, 0), [], 3, 1)],
  [(1024, .invokevirtual 137, 3, (0, 139, 0), [1149], 40, 0), (1027, .pop, 1, (0, 0, 0), [], 40, 0), (1028, .aload_n 2, 1, (0, 0, 0), [], 3, 2), (1029, .invokevirtual 140, 3, (0, 145, 0), [1845], 40, 0), (1032, .pop, 1, (0, 0, 0), [], 40, 0), (1033, .goto 174, 3, (0, 0, 0), [], 8, 1207), (1036, .aload_n 1, 1, (0, 0, 0), [], 3, 1), (1037, .aload_n 0, 1, (0, 0, 0), [], 3, 0), (1038, .iload_n 3, 1, (0, 0, 0), [], 2, 3), (1039, .iconst 1, 1, (0, 0, 0), [], 1, 1)],
  [(1040, .iadd, 1, (0, 0, 0), [], 21, 0), (1041, .iaload, 1, (0, 0, 0), [], 35, 0), (1042, .invokevirtual 141, 3, (0, 151, 0), [1176], 40, 0), (1045, .pop, 1, (0, 0, 0), [], 40, 0), (1046, .aload_n 2, 1, (0, 0, 0), [], 3, 2), (1047, .aload_n 0, 1, (0, 0, 0), [], 3, 0), (1048, .iload_n 3, 1, (0, 0, 0), [], 2, 3), (1049, .iconst 1, 1, (0, 0, 0), [], 1, 1), (1050, .iadd, 1, (0, 0, 0), [], 21, 0), (1051, .iaload, 1, (0, 0, 0), [], 35, 0), (1052, .invokevirtual 144, 3, (0, 152, 0), [1868], 40, 0), (1055, .pop, 1, (0, 0, 0), [], 40, 0)],
  [(1056, .goto 151, 3, (0, 0, 0), [], 8, 1207), (1059, .aload_n 1, 1, (0, 0, 0), [], 3, 1), (1060, .aload_n 0, 1, (0, 0, 0), [], 3, 0), (1061, .iload_n 3, 1, (0, 0, 0), [], 2, 3), (1062, .iconst 1, 1, (0, 0, 0), [], 1, 1), (1063, .iadd, 1, (0, 0, 0), [], 21, 0), (1064, .iaload, 1, (0, 0, 0), [], 35, 0), (1065, .aload_n 0, 1, (0, 0, 0), [], 3, 0), (1066, .iload_n 3, 1, (0, 0, 0), [], 2, 3), (1067, .iconst 2, 1, (0, 0, 0), [], 1, 2), (1068, .iadd, 1, (0, 0, 0), [], 21, 0), (1069, .iaload, 1, (0, 0, 0), [], 35, 0), (1070, .aload_n 0, 1, (0, 0, 0), [], 3, 0), (1071, .iload_n 3, 1, (0, 0, 0), [], 2, 3)],
  [(1072, .iconst 3, 1, (0, 0, 0), [], 1, 3), (1073, .iadd, 1, (0, 0, 0), [], 21, 0), (1074, .iaload, 1, (0, 0, 0), [], 35, 0), (1075, .invokevirtual 145, 3, (0, 153, 0), [1186], 40, 0), (1078, .pop, 1, (0, 0, 0), [], 40, 0), (1079, .aload_n 2, 1, (0, 0, 0), [], 3, 2), (1080, .aload_n 0, 1, (0, 0, 0), [], 3, 0), (1081, .iload_n 3, 1, (0, 0, 0), [], 2, 3), (1082, .iconst 1, 1, (0, 0, 0), [], 1, 1), (1083, .iadd, 1, (0, 0, 0), [], 21, 0), (1084, .iaload, 1, (0, 0, 0), [], 35, 0), (1085, .aload_n 0, 1, (0, 0, 0), [], 3, 0), (1086, .iload_n 3, 1, (0, 0, 0), [], 2, 3), (1087, .iconst 2, 1, (0, 0, 0), [], 1, 2)],
  [(1088, .iadd, 1, (0, 0, 0), [], 21, 0), (1089, .iaload, 1, (0, 0, 0), [], 35, 0), (1090, .aload_n 0, 1, (0, 0, 0), [], 3, 0), (1091, .iload_n 3, 1, (0, 0, 0), [], 2, 3), (1092, .iconst 3, 1, (0, 0, 0), [], 1, 3), (1093, .iadd, 1, (0, 0, 0), [], 21, 0), (1094, .iaload, 1, (0, 0, 0), [], 35, 0), (1095, .invokevirtual 148, 3, (0, 154, 0), [1872], 40, 0), (1098, .pop, 1, (0, 0, 0), [], 40, 0), (1099, .goto 108, 3, (0, 0, 0), [], 8, 1207), (1102, .aload_n 1, 1, (0, 0, 0), [], 3, 1), (1103, .aload_n 0, 1, (0, 0, 0), [], 3, 0)],
  [(1104, .iload_n 3, 1, (0, 0, 0), [], 2, 3), (1105, .iconst 1, 1, (0, 0, 0), [], 1, 1), (1106, .iadd, 1, (0, 0, 0), [], 21, 0), (1107, .iaload, 1, (0, 0, 0), [], 35, 0), (1108, .invokevirtual 149, 3, (0, 155, 0), [1212], 40, 0), (1111, .pop2, 1, (0, 0, 0), [], 40, 0), (1112, .aload_n 2, 1, (0, 0, 0), [], 3, 2), (1113, .aload_n 0, 1, (0, 0, 0), [], 3, 0), (1114, .iload_n 3, 1, (0, 0, 0), [], 2, 3), (1115, .iconst 1, 1, (0, 0, 0), [], 1, 1), (1116, .iadd, 1, (0, 0, 0), [], 21, 0), (1117, .iaload, 1, (0, 0, 0), [], 35, 0), (1118, .invokevirtual 153, 3, (0, 156, 0), [1880], 40, 0)],
  [(1121, .pop2, 1, (0, 0, 0), [], 40, 0), (1122, .goto 85, 3, (0, 0, 0), [], 8, 1207), (1125, .aload_n 1, 1, (0, 0, 0), [], 3, 1), (1126, .aload_n 0, 1, (0, 0, 0), [], 3, 0), (1127, .iload_n 3, 1, (0, 0, 0), [], 2, 3), (1128, .iconst 1, 1, (0, 0, 0), [], 1, 1), (1129, .iadd, 1, (0, 0, 0), [], 21, 0), (1130, .iaload, 1, (0, 0, 0), [], 35, 0), (1131, .invokevirtual 154, 3, (0, 157, 0), [1217], 40, 0), (1134, .pop, 1, (0, 0, 0), [], 40, 0), (1135, .aload_n 2, 1, (0, 0, 0), [], 3, 2)],
  [(1136, .aload_n 0, 1, (0, 0, 0), [], 3, 0), (1137, .iload_n 3, 1, (0, 0, 0), [], 2, 3), (1138, .iconst 1, 1, (0, 0, 0), [], 1, 1), (1139, .iadd, 1, (0, 0, 0), [], 21, 0), (1140, .iaload, 1, (0, 0, 0), [], 35, 0), (1141, .invokevirtual 157, 3, (0, 158, 0), [1884], 40, 0), (1144, .pop, 1, (0, 0, 0), [], 40, 0), (1145, .goto 62, 3, (0, 0, 0), [], 8, 1207), (1148, .aload_n 1, 1, (0, 0, 0), [], 3, 1), (1149, .aload_n 0, 1, (0, 0, 0), [], 3, 0), (1150, .iload_n 3, 1, (0, 0, 0), [], 2, 3), (1151, .iconst 1, 1, (0, 0, 0), [], 1, 1)],
  [(1152, .iadd, 1, (0, 0, 0), [], 21, 0), (1153, .iaload, 1, (0, 0, 0), [], 35, 0), (1154, .invokevirtual 158, 3, (0, 159, 0), [1221], 40, 0), (1157, .pop, 1, (0, 0, 0), [], 40, 0), (1158, .aload_n 2, 1, (0, 0, 0), [], 3, 2), (1159, .aload_n 0, 1, (0, 0, 0), [], 3, 0), (1160, .iload_n 3, 1, (0, 0, 0), [], 2, 3), (1161, .iconst 1, 1, (0, 0, 0), [], 1, 1), (1162, .iadd, 1, (0, 0, 0), [], 21, 0), (1163, .iaload, 1, (0, 0, 0), [], 35, 0), (1164, .invokevirtual 161, 3, (0, 160, 0), [1888], 40, 0), (1167, .pop, 1, (0, 0, 0), [], 40, 0)],
  [(1168, .goto 39, 3, (0, 0, 0), [], 8, 1207), (1171, .aload_n 1, 1, (0, 0, 0), [], 3, 1), (1172, .aload_n 0, 1, (0, 0, 0), [], 3, 0), (1173, .iload_n 3, 1, (0, 0, 0), [], 2, 3), (1174, .iconst 1, 1, (0, 0, 0), [], 1, 1), (1175, .iadd, 1, (0, 0, 0), [], 21, 0), (1176, .iaload, 1, (0, 0, 0), [], 35, 0), (1177, .invokevirtual 162, 3, (0, 161, 0), [1225], 40, 0), (1180, .pop, 1, (0, 0, 0), [], 40, 0), (1181, .aload_n 2, 1, (0, 0, 0), [], 3, 2), (1182, .aload_n 0, 1, (0, 0, 0), [], 3, 0), (1183, .iload_n 3, 1, (0, 0, 0), [], 2, 3)],
  [(1184, .iconst 1, 1, (0, 0, 0), [], 1, 1), (1185, .iadd, 1, (0, 0, 0), [], 21, 0), (1186, .iaload, 1, (0, 0, 0), [], 35, 0), (1187, .invokevirtual 165, 3, (0, 163, 0), [1892], 40, 0), (1190, .pop, 1, (0, 0, 0), [], 40, 0), (1191, .goto 16, 3, (0, 0, 0), [], 8, 1207), (1194, .aload_n 1, 1, (0, 0, 0), [], 3, 1), (1195, .invokevirtual 166, 3, (0, 165, 0), [1233], 40, 0), (1198, .pop2, 1, (0, 0, 0), [], 40, 0), (1199, .aload_n 2, 1, (0, 0, 0), [], 3, 2)],
  [(1200, .invokevirtual 170, 3, (0, 170, 0), [1900], 40, 0), (1203, .pop2, 1, (0, 0, 0), [], 40, 0), (1204, .goto 3, 3, (0, 0, 0), [], 8, 1207), (1207, .iinc 3 5, 3, (3, 0, 5), [], 7, 5), (1210, .goto (-1192), 3, (0, 0, 0), [], 8, 18), (1213, .iconst 1, 1, (0, 0, 0), [], 1, 1), (1214, .ireturn, 1, (0, 0, 0), [], 40, 0)]])
theorem wk_L_len : (wk_Mx wk_mL).length = 76 := by decide +kernel
set_option maxRecDepth 100000 in
theorem wk_okLF : wq_sqs (wk_Mb wk_mL) (wq_f (wk_My wk_mL) 10 wk_mw) (wk_Mx wk_mL) 0 (wk_Mb wk_mL).data.toList = true := by decide +kernel
theorem wk_okLc : wq_cn 10 = (wk_My wk_mL).cls := by decide +kernel
theorem wk_L_ok : ∀ r ∈ wk_Mx wk_mL, ∀ row ∈ r, wk_okx wk_mt wk_mw (wk_My wk_mL) (wk_Mb wk_mL) row = true := by
  intro r hr row hrow
  obtain ⟨h7, h8⟩ := wq_sqs_ok (pc := 0) wk_okLF r hr row hrow
  obtain ⟨pc, i, n, x, wd, t, a⟩ := row
  unfold wq_f at h7
  simp only [Bool.and_eq_true] at h7
  unfold wk_okx
  simp only [Bool.and_eq_true, decide_eq_true_eq]
  exact ⟨h8, h7.1, wq_w_ok wk_okLc h7.2.1, h7.2.2⟩
end
section
-- 99.zr
/-! ===== the law's body: cells have been made ===== -/
def kL_Ev (g : kc_G) (M : wk_M) (p : Program) (e : Env) (R : Room) (s : State) (m : MethodId) (args : Array Value) (below : List Frame) (meth : Method) (c : Code) (as : List Nat) (nc ns : Nat) (Z : State → Prop) (pc : Nat) (AL : kc_L) (AS : List kc_V) (h : kc_H) : Prop :=
  ∀ (H : Heap) (locs : List Loc) (ws : va_W) (ls : Array Slot) (lv : List (Nat × Value)) (st : List Value), va_S (kc_gA g) s.heap H locs → wk_hr (kc_gD g) (kc_gA g) s as (kc_gz g) (kc_gs g) (kc_A h) ws H → lv_has ls (wk_Ml M) lv → wk_f2 (wk_rl as (kc_gz g) (kc_gs g)) (kc_el AL) lv → wk_f2 (wk_r as (kc_gz g) (kc_gs g)) (AS.map kc_e) st → W p g.1 e R s m args below meth c H locs nc ns Z (F0 m pc ls st)
section KLE
variable {g : kc_G} {d : Nat} {M : wk_M} {p : Program} {e : Env} {R : Room} {s : State} {m : MethodId} {args : Array Value} {below : List Frame} {meth : Method} {c : Code} {as : List Nat} {nc ns : Nat} {Z : State → Prop} {pc : Nat} {AL : kc_L} {AS : List kc_V} {h : kc_H} {i : Instr} {n : Nat} {x : Nat × Nat × Int} {wd : List Nat} {t : Nat} {a : Int}
set_option maxHeartbeats 1000000 in
theorem kL_pure (hF : kc_fix g d M p R s m args meth c) (hf : wk_fetch M pc = some (pc, i, n, x, wd, t, a)) {P : kc_P} (hp : kc_pure (wk_Ml M) i x.2.2 pc AL AS = some P) (k : kL_Ev g M p e R s m args below meth c as nc ns Z P.1 P.2.1 P.2.2 h) : kL_Ev g M p e R s m args below meth c as nc ns Z pc AL AS h := by
  intro H locs ws ls lv st hS hr hl ha hs
  obtain ⟨hd, hlk, hw, hot, hoc⟩ := kc_row hF hf
  have C := hF.1
  obtain ⟨hx, hb, hml, hown, hts, hK, hA, hname, hX, hz, hzA, hLz⟩ := id C
  have hc1 : ∀ idx, i = .ldc idx ∨ i = .ldc_w idx → (Jvm.Cond.constant (wk_My M).cls idx (Int32.ofInt x.2.2)).before args s = true := by
    intro idx hi
    rcases hi with rfl | rfl
    · match wd, hw with
      | [q1], hw => exact hts _ (wk_has_in hw)
      | [], hw => cases hw
      | _ :: _ :: _, hw => cases hw
    · match wd, hw with
      | [q1], hw => exact hts _ (wk_has_in hw)
      | [], hw => cases hw
      | _ :: _ :: _, hw => cases hw
  have hc2 : ∀ idx, i = .ldc2_w idx → (Jvm.Cond.constantLong (wk_My M).cls idx (Int64.ofInt x.2.2)).before args s = true := by
    rintro idx rfl
    match wd, hw with
    | [q1], hw => exact hts _ (wk_has_in hw)
    | [], hw => cases hw
    | _ :: _ :: _, hw => cases hw
  have hbx : wk_bx (fun _ => 0) ([] : wk_I) := fun j q hj => by simp at hj
  exact wk_pure_ok (ρ := fun _ => 0) (iv := []) hx hb hown hd hlk hc1 hc2 hbx (by decide) (kc_pure_e hp) hl (kc_rhoL ha) (kc_rhoS hs) (fun ls' lv' st' hl' ha' hs' => k H locs ws ls' lv' st' hS hr hl' (kc_rhoL ha') (kc_rhoS hs'))
theorem kL_hp (hF : kc_fix g d M p R s m args meth c) (hnc : nc ≤ R.cells) (hns : ns ≤ R.slots) (hf : wk_fetch M pc = some (pc, i, n, x, wd, t, a)) {dd : Nat} {AS2 : List wk_V} (hp : wk_hp (kc_gL g) [] i x (AS.map kc_e) (kc_A h) = some (dd, AS2, none, [], 0, 0)) {AS' : List kc_V}
    (hA2 : ∀ st : List Value, wk_f2 (wk_r as (kc_gz g) (kc_gs g)) AS2 st → wk_f2 (wk_r as (kc_gz g) (kc_gs g)) (AS'.map kc_e) st) (k : kL_Ev g M p e R s m args below meth c as nc ns Z (pc + dd) AL AS' h) : kL_Ev g M p e R s m args below meth c as nc ns Z pc AL AS h := by
  intro H locs ws ls lv st hS hr hl ha hs
  obtain ⟨hd, hlk, hw, hot, hoc⟩ := kc_row hF hf
  have hbx : wk_bx (kc_gs g) ([] : wk_I) := fun j q hj => by simp at hj
  refine wk_hp_ok hF.1 hbx hd hlk hw hp hl (Nat.le_trans (by omega) hF.2.2.2.1) (Nat.le_trans (by omega) hF.2.2.2.2.1) rfl (by omega) (by omega) hr hS hs (fun H' locs' more ws' st' hS' hr' hs' hsame => ?_)
  have hmore : more = [] := kc_same hr hr' rfl
  subst hmore
  rw [List.append_nil] at hr' hs'
  exact k H' locs' ws' ls lv st' hS' hr' hl ha (hA2 st' hs')
theorem kL_call (hF : kc_fix g d M p R s m args meth c) (hnc : nc ≤ R.cells) (hns : ns ≤ R.slots) (hf : wk_fetch M pc = some (pc, i, n, x, wd, t, a)) {M2 : wk_M} {av r : List kc_V} {Q2 : Option kc_V → kc_H → Prop} (hc : kc_cl i x AS = some (M2, av, r)) (hCon : kc_Con g d x.2.1 av h Q2) (k : ∀ rv h', Q2 rv h' → kL_Ev g M p e R s m args below meth c as nc ns Z (pc + 3) AL (rv.toList ++ r) h') : kL_Ev g M p e R s m args below meth c as nc ns Z pc AL AS h := by
  intro H locs ws ls lv st hS hr hl ha hs
  obtain ⟨hd, hlk, hw, hot, hoc⟩ := kc_row hF hf
  obtain ⟨M3, m1, m2, m3, d2, hd2, hMet⟩ := hCon
  cases (kc_cl_m hc).symm.trans m1
  have key := kc_call_ok (l := g.1) (e := e) (R := R) (below := below) (cells := nc) (slots := ns) (Q := Z) (d := d2) (B := kc_Bq g Q2 as) (AH := kc_A h) hF.1 wk_mt_ok hd hlk hw hoc (kc_cl_e hc) hl (fun vals hv => by rw [m2, m3]; exact hMet as ws vals hv) (by have := hF.2.2.2.1; omega) (by have := hF.2.2.2.2.1; omega) (by rw [m2]; exact hnc) (by rw [m3]; exact hns) hr hS hs
  rw [m2, m3] at key
  refine key (fun rx t locs1 rest hrest hB hal hS1 => ?_)
  obtain ⟨rv, h1, ws1, q1, q2, q3⟩ := hB
  refine k rv h1 q1 t.heap locs1 ws1 ls lv _ hS1 (wk_hr_moved hal q3) hl ha ?_
  cases rv with
  | none =>
    cases rx with
    | none => exact hrest
    | some _ => exact q2.elim
  | some v =>
    cases rx with
    | none => exact q2.elim
    | some xv => exact ⟨q2, hrest⟩
theorem kL_pop2 (hF : kc_fix g d M p R s m args meth c) {y : Int64} (hd : decode (wk_Mb M) pc = .ok (.pop2, 1)) (k : kL_Ev g M p e R s m args below meth c as nc ns Z (pc + 1) AL AS h) : kL_Ev g M p e R s m args below meth c as nc ns Z pc AL (.inr (.inl y) :: AS) h := by
  intro H locs ws ls lv st hS hr hl ha hs
  obtain ⟨hx, hb, hml, hown, hts, hK, hA, hname, hX, hz, hzA, hLz⟩ := hF.1
  obtain ⟨y1, st0, rfl, hj1, hs0⟩ := wk_f2_cons hs
  obtain ⟨j1, rfl, a1, a2⟩ := hj1
  exact lv_pop2_2 hx hb hd rfl (k H locs ws ls lv _ hS hr hl ha hs0)
theorem kL_sc (hF : kc_fix g d M p R s m args meth c) (hnc : nc ≤ R.cells) (hns : ns ≤ R.slots) {j : Nat} (hf : wk_fetch M pc = some (pc, .iaload, n, x, wd, t, a)) (hj : j < kc_gL g) (hL : kc_gL g < 2147483648) (k : kL_Ev g M p e R s m args below meth c as nc ns Z (pc + 1) AL (.inl (kc_gs g j) :: AS) h) : kL_Ev g M p e R s m args below meth c as nc ns Z pc AL (.inl (Int32.ofNat j) :: .inr (.inr (.inr 0)) :: AS) h := by
  obtain ⟨h1, h2⟩ := kc_ix_e (kx_ix hL hj)
  refine kL_hp hF hnc hns hf (dd := 1) (AS2 := .inr (.inr (.inr (0, j))) :: AS.map kc_e) ?_ (AS' := .inl (kc_gs g j) :: AS) (fun st hst => ?_) k
  · show wk_ild (kc_gL g) [] (kc_e (.inl (Int32.ofNat j))) (.inr (.inr (.inr (2, 0)))) (AS.map kc_e) (kc_A h) = _
    unfold wk_ild
    rw [h1]
    simp only [wk_scr, cond_true, kc_blt h2]
    rfl
  · obtain ⟨y0, st1, rfl, hv, hs1⟩ := wk_f2_cons hst
    have hv : y0 = .int (kc_gs g j) := hv
    subst hv
    exact ⟨⟨_, rfl, Int.le_refl _, Int.le_refl _⟩, hs1⟩
theorem kL_len (hF : kc_fix g d M p R s m args meth c) (hnc : nc ≤ R.cells) (hns : ns ≤ R.slots) (hf : wk_fetch M pc = some (pc, .arraylength, n, x, wd, t, a)) (k : kL_Ev g M p e R s m args below meth c as nc ns Z (pc + 1) AL (.inl (Int32.ofNat (kc_gL g)) :: AS) h) : kL_Ev g M p e R s m args below meth c as nc ns Z pc AL (.inr (.inr (.inr 0)) :: AS) h := by
  refine kL_hp hF hnc hns hf (dd := 1) (AS2 := wk_sI (Int32.ofNat (kc_gL g)) :: AS.map kc_e) ?_ (AS' := .inl (Int32.ofNat (kc_gL g)) :: AS) (fun st hst => hst) k
  show wk_aln (kc_gL g) (.inr (.inr (.inr (2, 0)))) (AS.map kc_e) (kc_A h) = _
  rfl
theorem kL_lo {L : kc_L} (hs : ∀ q ∈ L, kc_get AL q.1 = some q.2) (k : kL_Ev g M p e R s m args below meth c as nc ns Z pc L AS h) : kL_Ev g M p e R s m args below meth c as nc ns Z pc AL AS h := by
  intro H locs ws ls lv st hS hr hl ha hst
  obtain ⟨lv2, h1, h2⟩ := kf_sub_f2 ha L hs
  exact k H locs ws ls lv2 st hS hr ⟨hl.1, hl.2.1, fun q hq => hl.2.2 q (h2 q hq)⟩ h1 hst
def kL_one (M : wk_M) (pc : Nat) (L : kc_L) (S : List kc_V) : Option kc_P := match wk_fetch M pc with
  | some (pc0, i, _, x, _, _, _) => if pc0 = pc then kc_pure (wk_Ml M) i x.2.2 pc L S else none
  | none => none
def kL_run (M : wk_M) : Nat → Nat → kc_L → List kc_V → Option kc_P
  | 0, pc, L, S => some (pc, L, S)
  | n + 1, pc, L, S => match kL_one M pc L S with
    | some (pc', L', S') => kL_run M n pc' L' S'
    | none => none
theorem kL_one_r (hF : kc_fix g d M p R s m args meth c) {P : kc_P} (e0 : kL_one M pc AL AS = some P) (k : kL_Ev g M p e R s m args below meth c as nc ns Z P.1 P.2.1 P.2.2 h) : kL_Ev g M p e R s m args below meth c as nc ns Z pc AL AS h := by
  unfold kL_one at e0
  split at e0
  · rename_i pc0 i n x wd t a hf
    split at e0
    · rename_i hpc
      subst hpc
      exact kL_pure hF hf e0 k
    · cases e0
  · cases e0
end KLE
theorem kL_go {g : kc_G} {d : Nat} {M : wk_M} {p : Program} {e : Env} {R : Room} {s : State} {m : MethodId} {args : Array Value} {below : List Frame} {meth : Method} {c : Code} {as : List Nat} {nc ns : Nat} {Z : State → Prop} {h : kc_H} (hF : kc_fix g d M p R s m args meth c) : ∀ (n : Nat) {pc pc' : Nat} {L L' : kc_L} {S S' : List kc_V}, kL_run M n pc L S = some (pc', L', S') → kL_Ev g M p e R s m args below meth c as nc ns Z pc' L' S' h → kL_Ev g M p e R s m args below meth c as nc ns Z pc L S h
  | 0, _, _, _, _, _, _, e0, k => by cases e0; exact k
  | n + 1, pc, pc', L, L', S, S', e0, k => by
    have e0 : (match kL_one M pc L S with
      | some (pc', L', S') => kL_run M n pc' L' S'
      | none => none) = some (pc', L', S') := e0
    cases h1 : kL_one M pc L S with
    | none => rw [h1] at e0; cases e0
    | some q =>
      obtain ⟨p1, L1, S1⟩ := q
      rw [h1] at e0
      exact kL_one_r hF h1 (kL_go hF n e0 k)
theorem kL_ret {g : kc_G} {d : Nat} {M : wk_M} {p : Program} {e : Env} {R : Room} {s : State} {m : MethodId} {args : Array Value} {below : List Frame} {meth : Method} {c : Code} {as : List Nat} {nc ns : Nat} {h : kc_H} {pc : Nat} {AL : kc_L} {n : Nat} {x : Nat × Nat × Int} {wd : List Nat} {t : Nat} {a : Int} (hF : kc_fix g d M p R s m args meth c) (hf : wk_fetch M pc = some (pc, .ireturn, n, x, wd, t, a)) (hm : wk_Mr M = some .boolean) : kL_Ev g M p e R s m args below meth c as nc ns (MQ below (kc_B (fun rx _ => rx = some (.int 1)) (kc_gA g)) args s nc ns (kc_gA g)) pc AL [.inl (Int32.ofNat 1)] h := by
  intro H locs ws ls lv st hS hr hl ha hs
  obtain ⟨hd, hlk, hw, hot, hoc⟩ := kc_row hF hf
  obtain ⟨⟨hx, hb, -⟩, hret, hlocks, -⟩ := hF
  obtain ⟨y0, st1, rfl, hv, hs1⟩ := wk_f2_cons hs
  have := wk_f2_nil hs1
  subst this
  obtain ⟨i0, rfl, a1, a2⟩ := hv
  have e1 : i0 = 1 := Int32.toInt_inj.mp (by
    have : (Int32.ofNat 1).toInt = (1 : Int32).toInt := by decide
    simp only at a1 a2
    omega)
  subst e1
  obtain rfl := Nat.eq_of_beq_eq_true hlk
  exact W.zret hx hb (hret.trans hm) rfl (fun t ht hW => ⟨⟨_, rfl, rfl⟩, hS.F ht⟩) hS.2.2 hd hlocks
end
