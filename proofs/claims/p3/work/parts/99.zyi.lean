/-! ===== where reading a text stops, reference ===== -/
set_option maxRecDepth 20000 in
theorem km_arlx {g : kc_G} {d : Nat} {Q : Option kc_V → kc_H → Prop} {x n : Nat} {t : Nat → Nat} (hg : kc_ok g) (hx : x < 2) (hn : n ≤ 240) (hb : ∀ j, j < 240 → t j < 256) {it v : Nat} (hv : v < 16) (hit : it < 60) : ∀ (m j : Nat) (h : kc_H) (p u : Nat), ks_L (kp_sh v) - j = m → j ≤ ks_L (kp_sh v) → h 260 (160 + x) = .inl (Int32.ofNat n) → (∀ j, j < 240 → h 260 (170 + 240 * x + j) = .inl (Int32.ofNat (t j))) → p ≤ n → u < 1000 →
    (∀ vs e, kp_ar t n (kp_sh v) m j p = some (vs, e) → ∀ u2, u2 < 1000 → kc_Ev g (d + 4) wk_m64 Q 175 [(2, .inl (Int32.ofNat (kp_tv v))), (0, .inr (.inr (.inl (some 259)))), (1, .inl (Int32.ofNat x))] [] (km_H (kmj (km_nw h it j vs) it) x (kp_nx t n (kp_start t n e)) (kp_start t n e) (kp_tk t n (kp_start t n e)) (kp_vv t n (kp_start t n e) u2))) →
    (kp_ar t n (kp_sh v) m j p = none → ∀ (h2 : kc_H) (a2 s2 k2 u2 : Nat), km_D h h2 → ((s2 ≤ n ∧ a2 ≤ n ∧ k2 < 27 ∧ u2 < 1000) ∧ s2 = kp_af t n (kp_sh v) m j p) → Q (some (.inl (Int32.ofNat 0))) (km_H (kmj h2 it) x a2 s2 k2 u2)) → kc_Ev g (d + 4) wk_m64 Q 74 [(3, .inl (Int32.ofNat j)), (2, .inl (Int32.ofNat (kp_tv v))), (0, .inr (.inr (.inl (some 259)))), (1, .inl (Int32.ofNat x))] [] (km_H (kmj h it) x (kp_nx t n (kp_start t n p)) (kp_start t n p) (kp_tk t n (kp_start t n p)) (kp_vv t n (kp_start t n p) u)) := by
  obtain ⟨hi, hi4⟩ := kr_shl v hv
  have htv := kp_tv_lt hv
  intro m
  induction m with
  | zero =>
    intro j h p u hm hj hnt ht hp hu hok hbad
    refine kx_go 2 (pc' := 76) (L' := [(3, .inl (Int32.ofNat j)), (2, .inl (Int32.ofNat (kp_tv v))), (0, .inr (.inr (.inl (some 259)))), (1, .inl (Int32.ofNat x))]) (S' := [.inl (Int32.ofNat (kp_tv v)), .inl (Int32.ofNat j)]) (h' := (km_H (kmj h it) x (kp_nx t n (kp_start t n p)) (kp_start t n p) (kp_tk t n (kp_start t n p)) (kp_vv t n (kp_start t n p) u))) (by with_unfolding_all rfl) ?_
    refine kc_call_rule (M2 := wk_m234) (av := [.inl (Int32.ofNat (kp_tv v))]) (r := [.inl (Int32.ofNat j)]) rfl rfl (kc_Con_le (km_num (d := 0) hg v hv) (by omega)) (fun rv h' hq => ?_)
    obtain ⟨rfl, rfl⟩ := hq
    show kc_Ev g (d + 4) wk_m64 Q 79 [(3, .inl (Int32.ofNat j)), (2, .inl (Int32.ofNat (kp_tv v))), (0, .inr (.inr (.inl (some 259)))), (1, .inl (Int32.ofNat x))] [.inl (Int32.ofNat (ks_L (kp_sh v))), .inl (Int32.ofNat j)] (km_H (kmj h it) x (kp_nx t n (kp_start t n p)) (kp_start t n p) (kp_tk t n (kp_start t n p)) (kp_vv t n (kp_start t n p) u))
    refine kx_go 1 (pc' := (if kc_cnd .ge (Int32.ofNat j).toInt (Int32.ofNat (ks_L (kp_sh v))).toInt then 175 else 82)) (L' := [(3, .inl (Int32.ofNat j)), (2, .inl (Int32.ofNat (kp_tv v))), (0, .inr (.inr (.inl (some 259)))), (1, .inl (Int32.ofNat x))]) (S' := []) (h' := (km_H (kmj h it) x (kp_nx t n (kp_start t n p)) (kp_start t n p) (kp_tk t n (kp_start t n p)) (kp_vv t n (kp_start t n p) u))) (by with_unfolding_all rfl) ?_
    rw [if_pos ((kx_ge (by omega) (by omega)).mpr (by omega))]
    refine kf_lo (L := [(2, .inl (Int32.ofNat (kp_tv v))), (0, .inr (.inr (.inl (some 259)))), (1, .inl (Int32.ofNat x))]) ?_ (hok [] p rfl u hu)
    intro q hq
    simp only [List.mem_cons, List.not_mem_nil, or_false] at hq
    rcases hq with rfl | rfl | rfl <;> rfl
  | succ m ih =>
    intro j h p u hm hj hnt ht hp hu hok hbad
    refine kx_go 2 (pc' := 76) (L' := [(3, .inl (Int32.ofNat j)), (2, .inl (Int32.ofNat (kp_tv v))), (0, .inr (.inr (.inl (some 259)))), (1, .inl (Int32.ofNat x))]) (S' := [.inl (Int32.ofNat (kp_tv v)), .inl (Int32.ofNat j)]) (h' := (km_H (kmj h it) x (kp_nx t n (kp_start t n p)) (kp_start t n p) (kp_tk t n (kp_start t n p)) (kp_vv t n (kp_start t n p) u))) (by with_unfolding_all rfl) ?_
    refine kc_call_rule (M2 := wk_m234) (av := [.inl (Int32.ofNat (kp_tv v))]) (r := [.inl (Int32.ofNat j)]) rfl rfl (kc_Con_le (km_num (d := 0) hg v hv) (by omega)) (fun rv h' hq => ?_)
    obtain ⟨rfl, rfl⟩ := hq
    show kc_Ev g (d + 4) wk_m64 Q 79 [(3, .inl (Int32.ofNat j)), (2, .inl (Int32.ofNat (kp_tv v))), (0, .inr (.inr (.inl (some 259)))), (1, .inl (Int32.ofNat x))] [.inl (Int32.ofNat (ks_L (kp_sh v))), .inl (Int32.ofNat j)] (km_H (kmj h it) x (kp_nx t n (kp_start t n p)) (kp_start t n p) (kp_tk t n (kp_start t n p)) (kp_vv t n (kp_start t n p) u))
    refine kx_go 1 (pc' := (if kc_cnd .ge (Int32.ofNat j).toInt (Int32.ofNat (ks_L (kp_sh v))).toInt then 175 else 82)) (L' := [(3, .inl (Int32.ofNat j)), (2, .inl (Int32.ofNat (kp_tv v))), (0, .inr (.inr (.inl (some 259)))), (1, .inl (Int32.ofNat x))]) (S' := []) (h' := (km_H (kmj h it) x (kp_nx t n (kp_start t n p)) (kp_start t n p) (kp_tk t n (kp_start t n p)) (kp_vv t n (kp_start t n p) u))) (by with_unfolding_all rfl) ?_
    rw [if_neg (fun w => by have := (kx_ge (by omega) (by omega)).mp w; omega)]
    have hst := kp_start_le (t := t) hp
    have hnx := kp_nx_le (t := t) hst.2
    obtain ⟨q0, q2, q3, qlt⟩ := kq_k (t := t) (n := n) (S := kp_start t n p)
    have hvv := kp_vv_lt (t := t) (n := n) (S := kp_start t n p) hu
    have hsh := km_sh v hv j (by omega)
    have hbad0 : kp_a1 t n (kp_sh v) j (kp_start t n p) = none → ∀ (h2 : kc_H) (a2 s2 k2 u2 : Nat), km_D h h2 → ((s2 ≤ n ∧ a2 ≤ n ∧ k2 < 27 ∧ u2 < 1000) ∧ s2 = kp_start t n p) → Q (some (.inl (Int32.ofNat 0))) (km_H (kmj h2 it) x a2 s2 k2 u2) := fun e h2 a2 s2 k2 u2 hh hs => hbad (by unfold kp_ar; rw [e]) h2 a2 s2 k2 u2 hh ⟨hs.1, hs.2.trans (kp_af0 e).symm⟩
    have hbad1 : ∀ y, kp_a1 t n (kp_sh v) j (kp_start t n p) = some y → kp_ar t n (kp_sh v) m (j + 1) (kp_nx t n (kp_start t n p)) = none → ∀ (h2 : kc_H) (a2 s2 k2 u2 : Nat), km_D h h2 → ((s2 ≤ n ∧ a2 ≤ n ∧ k2 < 27 ∧ u2 < 1000) ∧ s2 = kp_af t n (kp_sh v) m (j + 1) (kp_nx t n (kp_start t n p))) → Q (some (.inl (Int32.ofNat 0))) (km_H (kmj h2 it) x a2 s2 k2 u2) := fun y ey e h2 a2 s2 k2 u2 hh hs => hbad (by unfold kp_ar; rw [ey]; simp only; rw [e]) h2 a2 s2 k2 u2 hh ⟨hs.1, hs.2.trans (kp_af1 ey).symm⟩
    have hok1 : ∀ y, kp_a1 t n (kp_sh v) j (kp_start t n p) = some y → ∀ vs e, kp_ar t n (kp_sh v) m (j + 1) (kp_nx t n (kp_start t n p)) = some (vs, e) → _ := fun y ey vs e ev => hok (y :: vs) e (by unfold kp_ar; rw [ey]; simp only; rw [ev])
    have fail : ∀ (L : kc_L), kp_a1 t n (kp_sh v) j (kp_start t n p) = none → kc_Ev g (d + 4) wk_m64 Q 132 L [] (km_H (kmj h it) x (kp_nx t n (kp_start t n p)) (kp_start t n p) (kp_tk t n (kp_start t n p)) (kp_vv t n (kp_start t n p) u)) := by
      intro L e
      refine kx_go 1 (pc' := 133) (L' := L) (S' := [.inl (Int32.ofNat 0)]) (h' := (km_H (kmj h it) x (kp_nx t n (kp_start t n p)) (kp_start t n p) (kp_tk t n (kp_start t n p)) (kp_vv t n (kp_start t n p) u))) (by with_unfolding_all rfl) ?_
      exact kc_ret_ok rfl (rv := some (.inl (Int32.ofNat 0))) rfl (hbad0 e h _ _ _ _ km_D_rf ⟨⟨hst.2, hnx.2, qlt, hvv⟩, rfl⟩)
    have store : ∀ (b : Nat) (y : Nat), y < 1000 → kp_a1 t n (kp_sh v) j (kp_start t n p) = some y → kc_Ev g (d + 4) wk_m64 Q 164 [(4, .inl (Int32.ofNat b)), (3, .inl (Int32.ofNat j)), (2, .inl (Int32.ofNat (kp_tv v))), (0, .inr (.inr (.inl (some 259)))), (1, .inl (Int32.ofNat x))] [.inl (Int32.ofNat y), .inl (Int32.ofNat (5 * it + j)), .inr (.inr (.inl (some 265)))] (km_H (kmj h it) x (kp_nx t n (kp_start t n p)) (kp_start t n p) (kp_tk t n (kp_start t n p)) (kp_vv t n (kp_start t n p) u)) := by
      intro b y hy ey
      refine kx_iast rfl (c := 265) (j := 5 * it + j) (m := 1200) rfl (by decide) (by decide) (by omega) ?_
      rw [kmj_u (by decide)]
      have hD : km_D h (kc_upd h 265 (5 * it + j) (.inl (Int32.ofNat y))) := km_D_u5 (by omega) hy
      refine kx_go 1 (pc' := 166) (L' := [(4, .inl (Int32.ofNat b)), (3, .inl (Int32.ofNat j)), (2, .inl (Int32.ofNat (kp_tv v))), (0, .inr (.inr (.inl (some 259)))), (1, .inl (Int32.ofNat x))]) (S' := [.inr (.inr (.inl (some 259)))]) (h' := (km_H (kmj (kc_upd h 265 (5 * it + j) (.inl (Int32.ofNat y))) it) x (kp_nx t n (kp_start t n p)) (kp_start t n p) (kp_tk t n (kp_start t n p)) (kp_vv t n (kp_start t n p) u))) (by with_unfolding_all rfl) ?_
      refine kc_call_rule (M2 := wk_m65) (av := [.inr (.inr (.inl (some 259)))]) (r := []) rfl rfl (kc_Con_le (km_scan hg hx hn ((kmj_o (by decide)).trans ((km_D_n hD (by decide) (by decide)).trans hnt)) (fun j hj => (kmj_o (by decide)).trans ((fun j hj => (km_D_n hD (by decide) (by decide)).trans (ht j hj)) j hj)) hb hnx.2) (by omega)) (fun rv h' hq => ?_)
      obtain ⟨rfl, rfl⟩ := hq
      show kc_Ev g (d + 4) wk_m64 Q 169 [(4, .inl (Int32.ofNat b)), (3, .inl (Int32.ofNat j)), (2, .inl (Int32.ofNat (kp_tv v))), (0, .inr (.inr (.inl (some 259)))), (1, .inl (Int32.ofNat x))] [] (km_H (kmj (kc_upd h 265 (5 * it + j) (.inl (Int32.ofNat y))) it) x (kp_nx t n (kp_start t n (kp_nx t n (kp_start t n p)))) (kp_start t n (kp_nx t n (kp_start t n p))) (kp_tk t n (kp_start t n (kp_nx t n (kp_start t n p)))) (kp_vv t n (kp_start t n (kp_nx t n (kp_start t n p))) (kp_vv t n (kp_start t n p) u)))
      refine kx_go 2 (pc' := 74) (L' := [(3, .inl ((Int32.ofNat j) + Int32.ofInt 1)), (4, .inl (Int32.ofNat b)), (2, .inl (Int32.ofNat (kp_tv v))), (0, .inr (.inr (.inl (some 259)))), (1, .inl (Int32.ofNat x))]) (S' := []) (h' := (km_H (kmj (kc_upd h 265 (5 * it + j) (.inl (Int32.ofNat y))) it) x (kp_nx t n (kp_start t n (kp_nx t n (kp_start t n p)))) (kp_start t n (kp_nx t n (kp_start t n p))) (kp_tk t n (kp_start t n (kp_nx t n (kp_start t n p)))) (kp_vv t n (kp_start t n (kp_nx t n (kp_start t n p))) (kp_vv t n (kp_start t n p) u)))) (by with_unfolding_all rfl) ?_
      rw [kx_inc]
      refine kf_lo (L := [(3, .inl (Int32.ofNat (j + 1))), (2, .inl (Int32.ofNat (kp_tv v))), (0, .inr (.inr (.inl (some 259)))), (1, .inl (Int32.ofNat x))]) ?_ (ih (j + 1) (kc_upd h 265 (5 * it + j) (.inl (Int32.ofNat y))) _ _ (by omega) (by omega) ((km_D_n hD (by decide) (by decide)).trans hnt) (fun j hj => (km_D_n hD (by decide) (by decide)).trans (ht j hj)) hnx.2 hvv (fun vs e ev u2 hu2 => hok1 y ey vs e ev u2 hu2) (fun e h2 a2 s2 k2 u2 hh => hbad1 y ey e h2 a2 s2 k2 u2 (km_D_tr hD hh)))
      intro q hq
      simp only [List.mem_cons, List.not_mem_nil, or_false] at hq
      rcases hq with rfl | rfl | rfl | rfl <;> rfl
    by_cases ek : v = 1 ∧ j = 1
    · have ha1 : kp_a1 t n (kp_sh v) j (kp_start t n p) = _ := if_pos (hsh.mpr ek)
      rw [kq_t2] at ha1
      obtain ⟨rfl, rfl⟩ := ek
      refine kx_go 11 (pc' := 105) (L' := [(4, .inl (Int32.ofNat 1)), (3, .inl (Int32.ofNat 1)), (2, .inl (Int32.ofNat (kp_tv 1))), (0, .inr (.inr (.inl (some 259)))), (1, .inl (Int32.ofNat x))]) (S' := []) (h' := (km_H (kmj h it) x (kp_nx t n (kp_start t n p)) (kp_start t n p) (kp_tk t n (kp_start t n p)) (kp_vv t n (kp_start t n p) u))) (by with_unfolding_all rfl) ?_
      refine kx_go 4 (pc' := (if kc_cnd .eq (Int32.ofNat (kp_tk t n (kp_start t n p))).toInt (Int32.ofNat 4).toInt then 134 else 113)) (L' := [(4, .inl (Int32.ofNat 1)), (3, .inl (Int32.ofNat 1)), (2, .inl (Int32.ofNat (kp_tv 1))), (0, .inr (.inr (.inl (some 259)))), (1, .inl (Int32.ofNat x))]) (S' := []) (h' := (km_H (kmj h it) x (kp_nx t n (kp_start t n p)) (kp_start t n p) (kp_tk t n (kp_start t n p)) (kp_vv t n (kp_start t n p) u))) (by with_unfolding_all rfl) ?_
      by_cases e4 : kp_tk t n (kp_start t n p) = 4
      · rw [if_pos ((kx_eq (by omega) (by omega)).mpr e4)]
        have etk := e4
        refine kx_go 15 (pc' := 164) (L' := [(4, .inl (Int32.ofNat 1)), (3, .inl (Int32.ofNat 1)), (2, .inl (Int32.ofNat (kp_tv 1))), (0, .inr (.inr (.inl (some 259)))), (1, .inl (Int32.ofNat x))]) (S' := [.inl ((Int32.ofNat (kp_tk t n (kp_start t n p))) - (Int32.ofNat 4)), .inl (((Int32.ofNat 5) * (Int32.ofNat it)) + (Int32.ofNat 1)), .inr (.inr (.inl (some 265)))]) (h' := (km_H (kmj h it) x (kp_nx t n (kp_start t n p)) (kp_start t n p) (kp_tk t n (kp_start t n p)) (kp_vv t n (kp_start t n p) u))) (by with_unfolding_all rfl) ?_
        have esub : Int32.ofNat (kp_tk t n (kp_start t n p)) - Int32.ofNat 4 = Int32.ofNat 0 := by rw [etk]; rfl
        rw [kx_mul, kx_add, esub]
        exact store 1 0 (by decide) (by rw [ha1, etk]; rfl)
      · rw [if_neg (fun w => e4 ((kx_eq (by omega) (by omega)).mp w))]
        refine kx_go 4 (pc' := (if kc_cnd .eq (Int32.ofNat (kp_tk t n (kp_start t n p))).toInt (Int32.ofNat 5).toInt then 134 else 121)) (L' := [(4, .inl (Int32.ofNat 1)), (3, .inl (Int32.ofNat 1)), (2, .inl (Int32.ofNat (kp_tv 1))), (0, .inr (.inr (.inl (some 259)))), (1, .inl (Int32.ofNat x))]) (S' := []) (h' := (km_H (kmj h it) x (kp_nx t n (kp_start t n p)) (kp_start t n p) (kp_tk t n (kp_start t n p)) (kp_vv t n (kp_start t n p) u))) (by with_unfolding_all rfl) ?_
        by_cases e5 : kp_tk t n (kp_start t n p) = 5
        · rw [if_pos ((kx_eq (by omega) (by omega)).mpr e5)]
          have etk := e5
          refine kx_go 15 (pc' := 164) (L' := [(4, .inl (Int32.ofNat 1)), (3, .inl (Int32.ofNat 1)), (2, .inl (Int32.ofNat (kp_tv 1))), (0, .inr (.inr (.inl (some 259)))), (1, .inl (Int32.ofNat x))]) (S' := [.inl ((Int32.ofNat (kp_tk t n (kp_start t n p))) - (Int32.ofNat 4)), .inl (((Int32.ofNat 5) * (Int32.ofNat it)) + (Int32.ofNat 1)), .inr (.inr (.inl (some 265)))]) (h' := (km_H (kmj h it) x (kp_nx t n (kp_start t n p)) (kp_start t n p) (kp_tk t n (kp_start t n p)) (kp_vv t n (kp_start t n p) u))) (by with_unfolding_all rfl) ?_
          have esub : Int32.ofNat (kp_tk t n (kp_start t n p)) - Int32.ofNat 4 = Int32.ofNat 1 := by rw [etk]; rfl
          rw [kx_mul, kx_add, esub]
          exact store 1 1 (by decide) (by rw [ha1, etk]; rfl)
        · rw [if_neg (fun w => e5 ((kx_eq (by omega) (by omega)).mp w))]
          refine kx_go 1 (pc' := 132) (L' := [(4, .inl (Int32.ofNat 1)), (3, .inl (Int32.ofNat 1)), (2, .inl (Int32.ofNat (kp_tv 1))), (0, .inr (.inr (.inl (some 259)))), (1, .inl (Int32.ofNat x))]) (S' := []) (h' := (km_H (kmj h it) x (kp_nx t n (kp_start t n p)) (kp_start t n p) (kp_tk t n (kp_start t n p)) (kp_vv t n (kp_start t n p) u))) (by with_unfolding_all rfl) ?_
          exact fail _ (by rw [ha1, if_neg e5, if_neg e4])
    · have ha1 : kp_a1 t n (kp_sh v) j (kp_start t n p) = _ := if_neg (fun q => ek (hsh.mp q))
      have go97 : kc_Ev g (d + 4) wk_m64 Q 97 [(3, .inl (Int32.ofNat j)), (2, .inl (Int32.ofNat (kp_tv v))), (0, .inr (.inr (.inl (some 259)))), (1, .inl (Int32.ofNat x))] [] (km_H (kmj h it) x (kp_nx t n (kp_start t n p)) (kp_start t n p) (kp_tk t n (kp_start t n p)) (kp_vv t n (kp_start t n p) u)) := by
        refine kx_go 4 (pc' := 124) (L' := [(4, .inl (Int32.ofNat 0)), (3, .inl (Int32.ofNat j)), (2, .inl (Int32.ofNat (kp_tv v))), (0, .inr (.inr (.inl (some 259)))), (1, .inl (Int32.ofNat x))]) (S' := []) (h' := (km_H (kmj h it) x (kp_nx t n (kp_start t n p)) (kp_start t n p) (kp_tk t n (kp_start t n p)) (kp_vv t n (kp_start t n p) u))) (by with_unfolding_all rfl) ?_
        refine kx_go 4 (pc' := (if kc_cnd .eq (Int32.ofNat (kp_tk t n (kp_start t n p))).toInt (Int32.ofNat 2).toInt then 134 else 132)) (L' := [(4, .inl (Int32.ofNat 0)), (3, .inl (Int32.ofNat j)), (2, .inl (Int32.ofNat (kp_tv v))), (0, .inr (.inr (.inl (some 259)))), (1, .inl (Int32.ofNat x))]) (S' := []) (h' := (km_H (kmj h it) x (kp_nx t n (kp_start t n p)) (kp_start t n p) (kp_tk t n (kp_start t n p)) (kp_vv t n (kp_start t n p) u))) (by with_unfolding_all rfl) ?_
        by_cases e2 : kp_tk t n (kp_start t n p) = 2
        · rw [if_pos ((kx_eq (by omega) (by omega)).mpr e2)]
          refine kx_go 12 (pc' := 164) (L' := [(4, .inl (Int32.ofNat 0)), (3, .inl (Int32.ofNat j)), (2, .inl (Int32.ofNat (kp_tv v))), (0, .inr (.inr (.inl (some 259)))), (1, .inl (Int32.ofNat x))]) (S' := [.inl (Int32.ofNat (kp_vv t n (kp_start t n p) u)), .inl (((Int32.ofNat 5) * (Int32.ofNat it)) + (Int32.ofNat j)), .inr (.inr (.inl (some 265)))]) (h' := (km_H (kmj h it) x (kp_nx t n (kp_start t n p)) (kp_start t n p) (kp_tk t n (kp_start t n p)) (kp_vv t n (kp_start t n p) u))) (by with_unfolding_all rfl) ?_
          rw [kx_mul, kx_add]
          exact store 0 _ hvv (by rw [ha1, kq_v (v := u) (q2.mpr e2)])
        · rw [if_neg (fun w => e2 ((kx_eq (by omega) (by omega)).mp w))]
          exact fail _ (by rw [ha1, kq_nv (fun w => e2 (q2.mp w))])
      refine kx_go 3 (pc' := (if kc_cnd .ne (Int32.ofNat (kp_tv v)).toInt (Int32.ofNat 11).toInt then 97 else 88)) (L' := [(3, .inl (Int32.ofNat j)), (2, .inl (Int32.ofNat (kp_tv v))), (0, .inr (.inr (.inl (some 259)))), (1, .inl (Int32.ofNat x))]) (S' := []) (h' := (km_H (kmj h it) x (kp_nx t n (kp_start t n p)) (kp_start t n p) (kp_tk t n (kp_start t n p)) (kp_vv t n (kp_start t n p) u))) (by with_unfolding_all rfl) ?_
      by_cases e11 : kp_tv v = 11
      · rw [if_neg (fun w => (kx_ne (by omega) (by omega)).mp w e11)]
        have hv1 : v = 1 := by
          unfold kp_tv at e11
          split at e11 <;> omega
        refine kx_go 3 (pc' := (if kc_cnd .ne (Int32.ofNat j).toInt (Int32.ofNat 1).toInt then 97 else 93)) (L' := [(3, .inl (Int32.ofNat j)), (2, .inl (Int32.ofNat (kp_tv v))), (0, .inr (.inr (.inl (some 259)))), (1, .inl (Int32.ofNat x))]) (S' := []) (h' := (km_H (kmj h it) x (kp_nx t n (kp_start t n p)) (kp_start t n p) (kp_tk t n (kp_start t n p)) (kp_vv t n (kp_start t n p) u))) (by with_unfolding_all rfl) ?_
        rw [if_pos ((kx_ne (by omega) (by omega)).mpr (fun e => ek ⟨hv1, e⟩))]
        exact go97
      · rw [if_pos ((kx_ne (by omega) (by omega)).mpr e11)]
        exact go97
set_option maxRecDepth 20000 in
theorem km_rdlx0 {g : kc_G} {d : Nat} {Q : Option kc_V → kc_H → Prop} {n : Nat} {t : Nat → Nat} (hg : kc_ok g) (hn : n ≤ 240) (hb : ∀ j, j < 240 → t j < 256) : ∀ (u it : Nat) (h : kc_H) (p u0 : Nat), 61 - it = u → 4 * it ≤ p → p ≤ n → u0 < 1000 → h 260 (160 + 0) = .inl (Int32.ofNat n) → (∀ j, j < 240 → h 260 (170 + 240 * 0 + j) = .inl (Int32.ofNat (t j))) →
    (∀ l, kp_its t n 9 0 u p = some l → ∀ a2 s2 k2 u2, (s2 ≤ n ∧ a2 ≤ n ∧ k2 < 27 ∧ u2 < 1000) → Q (some (.inl (Int32.ofNat 1))) (km_H (kmj (km_ns h it l) (it + l.length)) 0 a2 s2 k2 u2)) →
    (kp_its t n 9 0 u p = none → ∀ (h2 : kc_H) (it2 a2 s2 k2 u2 : Nat), km_D h h2 → it2 ≤ 60 → ((s2 ≤ n ∧ a2 ≤ n ∧ k2 < 27 ∧ u2 < 1000) ∧ s2 = kp_flt t n 9 0 u p) → Q (some (.inl (Int32.ofNat 0))) (km_H (kmj h2 it2) 0 a2 s2 k2 u2)) → kc_Ev g (d + 4) wk_m64 Q 19 [(0, .inr (.inr (.inl (some 259)))), (1, .inl (Int32.ofNat 0))] [] (km_H (kmj h it) 0 (kp_nx t n (kp_start t n p)) (kp_start t n p) (kp_tk t n (kp_start t n p)) (kp_vv t n (kp_start t n p) u0)) := by
  have hx : 0 < 2 := by decide
  intro u
  induction u with
  | zero =>
    intro it h p u0 hu h4 hp hu0 hnt ht hok hbad
    omega
  | succ u ih =>
    intro it h p u0 hu h4 hp hu0 hnt ht hok hbad
    have hst := kp_start_le (t := t) hp
    have hnx := kp_nx_le (t := t) hst.2
    obtain ⟨q0, q2, q3, qlt⟩ := kq_k (t := t) (n := n) (S := kp_start t n p)
    have hvv := kp_vv_lt (t := t) (n := n) (S := kp_start t n p) hu0
    refine kx_go 3 (pc' := (if kc_cnd .eq (Int32.ofNat (kp_tk t n (kp_start t n p))).toInt 0 then 212 else 26)) (L' := [(0, .inr (.inr (.inl (some 259)))), (1, .inl (Int32.ofNat 0))]) (S' := []) (h' := (km_H (kmj h it) 0 (kp_nx t n (kp_start t n p)) (kp_start t n p) (kp_tk t n (kp_start t n p)) (kp_vv t n (kp_start t n p) u0))) (by with_unfolding_all rfl) ?_
    by_cases e0 : kp_tk t n (kp_start t n p) = 0
    · rw [if_pos (by rw [e0]; decide)]
      refine kx_go 1 (pc' := 213) (L' := [(0, .inr (.inr (.inl (some 259)))), (1, .inl (Int32.ofNat 0))]) (S' := [.inl (Int32.ofNat 1)]) (h' := (km_H (kmj h it) 0 (kp_nx t n (kp_start t n p)) (kp_start t n p) (kp_tk t n (kp_start t n p)) (kp_vv t n (kp_start t n p) u0))) (by with_unfolding_all rfl) ?_
      exact kc_ret_ok rfl (rv := some (.inl (Int32.ofNat 1))) rfl (hok [] (by unfold kp_its; rw [if_pos (q0.mpr e0)]) _ _ _ _ ⟨hst.2, hnx.2, qlt, hvv⟩)
    · have hkd0 : ¬ kp_kd t n (kp_start t n p) = 0 := fun e => e0 (q0.mp e)
      have hit : it < 60 := by
        have : ¬ n ≤ kp_start t n p := fun q => hkd0 (if_pos q)
        omega
      rw [if_neg (fun w => by unfold kc_cnd at w; rw [kx_ti (by omega)] at w; simp only [decide_eq_true_eq] at w; omega)]
      refine kx_go 9 (pc' := 43) (L' := [(2, .inl (Int32.ofNat (kp_tk t n (kp_start t n p)))), (0, .inr (.inr (.inl (some 259)))), (1, .inl (Int32.ofNat 0))]) (S' := [.inr (.inl (Int64.ofNat 18)), .inr (.inl (Int64.ofNat 10)), .inr (.inl ((Int32.ofNat (kp_tk t n (kp_start t n p))).toInt64))]) (h' := (km_H (kmj h it) 0 (kp_nx t n (kp_start t n p)) (kp_start t n p) (kp_tk t n (kp_start t n p)) (kp_vv t n (kp_start t n p) u0))) (by with_unfolding_all rfl) ?_
      rw [kx_i2l (by omega)]
      refine kc_call_rule (M2 := wk_m22) (av := [.inr (.inl (Int64.ofNat (kp_tk t n (kp_start t n p)))), .inr (.inl (Int64.ofNat 10)), .inr (.inl (Int64.ofNat 18))]) (r := []) rfl rfl (kc_Con_le (km_lies hg (by omega) (by omega) (by omega)) (by omega)) (fun rv h' hq => ?_)
      obtain ⟨rfl, rfl⟩ := hq
      show kc_Ev g (d + 4) wk_m64 Q 46 [(2, .inl (Int32.ofNat (kp_tk t n (kp_start t n p)))), (0, .inr (.inr (.inl (some 259)))), (1, .inl (Int32.ofNat 0))] [.inl (kp_b (decide (10 ≤ kp_tk t n (kp_start t n p) ∧ kp_tk t n (kp_start t n p) ≤ 18)))] (km_H (kmj h it) 0 (kp_nx t n (kp_start t n p)) (kp_start t n p) (kp_tk t n (kp_start t n p)) (kp_vv t n (kp_start t n p) u0))
      refine kx_go 1 (pc' := (if kc_cnd .ne (kp_b (decide (10 ≤ kp_tk t n (kp_start t n p) ∧ kp_tk t n (kp_start t n p) ≤ 18))).toInt 0 then 68 else 49)) (L' := [(2, .inl (Int32.ofNat (kp_tk t n (kp_start t n p)))), (0, .inr (.inr (.inl (some 259)))), (1, .inl (Int32.ofNat 0))]) (S' := []) (h' := (km_H (kmj h it) 0 (kp_nx t n (kp_start t n p)) (kp_start t n p) (kp_tk t n (kp_start t n p)) (kp_vv t n (kp_start t n p) u0))) (by with_unfolding_all rfl) ?_
      have hvb := kq_t0 (t := t) (n := n) (S := kp_start t n p)
      cases e1 : decide (10 ≤ kp_tk t n (kp_start t n p) ∧ kp_tk t n (kp_start t n p) ≤ 18) with
      | false =>
        rw [if_neg (fun w => by have := kx_b1.mp w; cases this)]
        rw [if_neg (of_decide_eq_false e1)] at hvb
        refine kx_go 2 (pc' := 67) (L' := [(2, .inl (Int32.ofNat (kp_tk t n (kp_start t n p)))), (0, .inr (.inr (.inl (some 259)))), (1, .inl (Int32.ofNat 0))]) (S' := [.inl (Int32.ofNat 0)]) (h' := (km_H (kmj h it) 0 (kp_nx t n (kp_start t n p)) (kp_start t n p) (kp_tk t n (kp_start t n p)) (kp_vv t n (kp_start t n p) u0))) (by with_unfolding_all rfl) ?_
        exact kc_ret_ok rfl (rv := some (.inl (Int32.ofNat 0))) rfl (hbad (by unfold kp_its; rw [if_neg hkd0]; unfold kp_item; rw [hvb]) h it _ _ _ _ km_D_rf (by omega) ⟨⟨hst.2, hnx.2, qlt, hvv⟩, ((kp_flt0 (by unfold kp_item; rw [hvb])).trans (kp_itf0 hvb)).symm⟩)
      | true =>
        rw [if_pos (kx_b1.mpr rfl)]
        have e1 := of_decide_eq_true e1
        rw [if_pos e1] at hvb
        obtain ⟨v, hv⟩ : ∃ v, v = kp_tk t n (kp_start t n p) - 10 := ⟨_, rfl⟩
        rw [← hv] at hvb
        have etv : kp_tk t n (kp_start t n p) = kp_tv v := by
          unfold kp_tv
          split <;> omega
        have hv16 : v < 16 := by omega
        obtain ⟨hi, hi4⟩ := kr_shl v hv16
        refine kf_lo (L := [(2, .inl (Int32.ofNat (kp_tv v))), (0, .inr (.inr (.inl (some 259)))), (1, .inl (Int32.ofNat 0))]) ?_ ?_
        · intro q hq
          simp only [List.mem_cons, List.not_mem_nil, or_false] at hq
          rcases hq with rfl | rfl | rfl
          · show some (Sum.inl (Int32.ofNat (kp_tk t n (kp_start t n p)))) = some (Sum.inl (Int32.ofNat (kp_tv v)))
            rw [etv]
          · rfl
          · rfl
        refine kx_go 1 (pc' := 69) (L' := [(2, .inl (Int32.ofNat (kp_tv v))), (0, .inr (.inr (.inl (some 259)))), (1, .inl (Int32.ofNat 0))]) (S' := [.inr (.inr (.inl (some 259)))]) (h' := (km_H (kmj h it) 0 (kp_nx t n (kp_start t n p)) (kp_start t n p) (kp_tk t n (kp_start t n p)) (kp_vv t n (kp_start t n p) u0))) (by with_unfolding_all rfl) ?_
        refine kc_call_rule (M2 := wk_m65) (av := [.inr (.inr (.inl (some 259)))]) (r := []) rfl rfl (kc_Con_le (km_scan hg hx hn ((kmj_o (by decide)).trans hnt) (fun j hj => (kmj_o (by decide)).trans (ht j hj)) hb hnx.2) (by omega)) (fun rv h' hq => ?_)
        obtain ⟨rfl, rfl⟩ := hq
        show kc_Ev g (d + 4) wk_m64 Q 72 [(2, .inl (Int32.ofNat (kp_tv v))), (0, .inr (.inr (.inl (some 259)))), (1, .inl (Int32.ofNat 0))] [] (km_H (kmj h it) 0 (kp_nx t n (kp_start t n (kp_nx t n (kp_start t n p)))) (kp_start t n (kp_nx t n (kp_start t n p))) (kp_tk t n (kp_start t n (kp_nx t n (kp_start t n p)))) (kp_vv t n (kp_start t n (kp_nx t n (kp_start t n p))) (kp_vv t n (kp_start t n p) u0)))
        refine kx_go 2 (pc' := 74) (L' := [(3, .inl (Int32.ofNat 0)), (2, .inl (Int32.ofNat (kp_tv v))), (0, .inr (.inr (.inl (some 259)))), (1, .inl (Int32.ofNat 0))]) (S' := []) (h' := (km_H (kmj h it) 0 (kp_nx t n (kp_start t n (kp_nx t n (kp_start t n p)))) (kp_start t n (kp_nx t n (kp_start t n p))) (kp_tk t n (kp_start t n (kp_nx t n (kp_start t n p)))) (kp_vv t n (kp_start t n (kp_nx t n (kp_start t n p))) (kp_vv t n (kp_start t n p) u0)))) (by with_unfolding_all rfl) ?_
        refine km_arlx (d := d) hg hx hn hb hv16 hit (ks_L (kp_sh v)) 0 h _ _ rfl (Nat.zero_le _) hnt ht hnx.2 hvv (fun vs e hev u2 hu2 => ?_) (fun hev h2 a2 s2 k2 u2 hh hb2 => ?_)
        · obtain ⟨b1, b2, b3⟩ := kp_ar_le _ _ _ _ _ hnx.2 hev
          have hlt := kp_ar_lt _ _ _ _ _ hev
          have hst2 := kp_start_le (t := t) b2
          have hnx2 := kp_nx_le (t := t) hst2.2
          obtain ⟨r0, r2, r3, rlt⟩ := kq_k (t := t) (n := n) (S := kp_start t n e)
          have hvv2 := kp_vv_lt (t := t) (n := n) (S := kp_start t n e) hu2
          have hDw := km_D_nw hit vs h 0 (by rw [b3]; omega) hlt
          refine kx_go 4 (pc' := (if kc_cnd .eq (Int32.ofNat (kp_tk t n (kp_start t n e))).toInt (Int32.ofNat 3).toInt then 185 else 183)) (L' := [(2, .inl (Int32.ofNat (kp_tv v))), (0, .inr (.inr (.inl (some 259)))), (1, .inl (Int32.ofNat 0))]) (S' := []) (h' := (km_H (kmj (km_nw h it 0 vs) it) 0 (kp_nx t n (kp_start t n e)) (kp_start t n e) (kp_tk t n (kp_start t n e)) (kp_vv t n (kp_start t n e) u2))) (by with_unfolding_all rfl) ?_
          by_cases e3 : kp_tk t n (kp_start t n e) = 3
          · rw [if_pos ((kx_eq (by omega) (by omega)).mpr e3)]
            have hitem : kp_item t n 9 0 (kp_nx t n (kp_start t n p)) (kp_kd t n (kp_start t n p)) (kp_start t n p) = some ((v, vs), kp_nx t n (kp_start t n e)) := by
              unfold kp_item
              rw [hvb]
              simp only
              rw [hev]
              simp only
              rw [if_pos (r3.mpr e3)]
            obtain ⟨c1, c2, c3, c4, c5, c6⟩ := kp_item_le (by omega) hnx.1 hnx.2 hitem
            refine kx_go 5 (pc' := 194) (L' := [(2, .inl (Int32.ofNat (kp_tv v))), (0, .inr (.inr (.inl (some 259)))), (1, .inl (Int32.ofNat 0))]) (S' := [.inl (Int32.ofNat (kp_tv v)), .inl (Int32.ofNat it), .inr (.inr (.inl (some 264)))]) (h' := (km_H (kmj (km_nw h it 0 vs) it) 0 (kp_nx t n (kp_start t n e)) (kp_start t n e) (kp_tk t n (kp_start t n e)) (kp_vv t n (kp_start t n e) u2))) (by with_unfolding_all rfl) ?_
            refine kx_iast rfl (c := 264) (j := it) (m := 240) rfl (by decide) (by decide) (by omega) ?_
            rw [kmj_u (by decide)]
            show kc_Ev g (d + 4) wk_m64 Q 195 [(2, .inl (Int32.ofNat (kp_tv v))), (0, .inr (.inr (.inl (some 259)))), (1, .inl (Int32.ofNat 0))] [] (km_H (kmj (km_n1 h it (v, vs)) it) 0 (kp_nx t n (kp_start t n e)) (kp_start t n e) (kp_tk t n (kp_start t n e)) (kp_vv t n (kp_start t n e) u2))
            refine kx_go 5 (pc' := 202) (L' := [(2, .inl (Int32.ofNat (kp_tv v))), (0, .inr (.inr (.inl (some 259)))), (1, .inl (Int32.ofNat 0))]) (S' := [.inl ((Int32.ofNat it) + (Int32.ofNat 1)), .inr (.inr (.inl (some 259)))]) (h' := (km_H (kmj (km_n1 h it (v, vs)) it) 0 (kp_nx t n (kp_start t n e)) (kp_start t n e) (kp_tk t n (kp_start t n e)) (kp_vv t n (kp_start t n e) u2))) (by with_unfolding_all rfl) ?_
            refine kx_go 1 (pc' := 205) (L' := [(2, .inl (Int32.ofNat (kp_tv v))), (0, .inr (.inr (.inl (some 259)))), (1, .inl (Int32.ofNat 0))]) (S' := []) (h' := kc_upd (km_H (kmj (km_n1 h it (v, vs)) it) 0 (kp_nx t n (kp_start t n e)) (kp_start t n e) (kp_tk t n (kp_start t n e)) (kp_vv t n (kp_start t n e) u2)) 259 13 (.inl (Int32.ofNat it + Int32.ofNat 1))) (by with_unfolding_all rfl) ?_
            rw [kx_inc1, kmj_13]
            have hD := km_D_n1 (h := h) (q := (v, vs)) hit (by show vs.length ≤ 4; rw [b3]; omega) hv16 hlt
            have hnt2 : km_n1 h it (v, vs) 260 (160 + 0) = .inl (Int32.ofNat n) := (km_D_n hD (by decide) (by decide)).trans hnt
            have ht2 : ∀ j, j < 240 → km_n1 h it (v, vs) 260 (170 + 240 * 0 + j) = .inl (Int32.ofNat (t j)) := fun j hj => (km_D_n hD (by decide) (by decide)).trans (ht j hj)
            refine kx_go 1 (pc' := 206) (L' := [(2, .inl (Int32.ofNat (kp_tv v))), (0, .inr (.inr (.inl (some 259)))), (1, .inl (Int32.ofNat 0))]) (S' := [.inr (.inr (.inl (some 259)))]) (h' := (km_H (kmj (km_n1 h it (v, vs)) (it + 1)) 0 (kp_nx t n (kp_start t n e)) (kp_start t n e) (kp_tk t n (kp_start t n e)) (kp_vv t n (kp_start t n e) u2))) (by with_unfolding_all rfl) ?_
            refine kc_call_rule (M2 := wk_m65) (av := [.inr (.inr (.inl (some 259)))]) (r := []) rfl rfl (kc_Con_le (km_scan hg hx hn ((kmj_o (by decide)).trans hnt2) (fun j hj => (kmj_o (by decide)).trans (ht2 j hj)) hb hnx2.2) (by omega)) (fun rv h' hq => ?_)
            obtain ⟨rfl, rfl⟩ := hq
            show kc_Ev g (d + 4) wk_m64 Q 209 [(2, .inl (Int32.ofNat (kp_tv v))), (0, .inr (.inr (.inl (some 259)))), (1, .inl (Int32.ofNat 0))] [] (km_H (kmj (km_n1 h it (v, vs)) (it + 1)) 0 (kp_nx t n (kp_start t n (kp_nx t n (kp_start t n e)))) (kp_start t n (kp_nx t n (kp_start t n e))) (kp_tk t n (kp_start t n (kp_nx t n (kp_start t n e)))) (kp_vv t n (kp_start t n (kp_nx t n (kp_start t n e))) (kp_vv t n (kp_start t n e) u2)))
            refine kx_go 1 (pc' := 19) (L' := [(2, .inl (Int32.ofNat (kp_tv v))), (0, .inr (.inr (.inl (some 259)))), (1, .inl (Int32.ofNat 0))]) (S' := []) (h' := (km_H (kmj (km_n1 h it (v, vs)) (it + 1)) 0 (kp_nx t n (kp_start t n (kp_nx t n (kp_start t n e)))) (kp_start t n (kp_nx t n (kp_start t n e))) (kp_tk t n (kp_start t n (kp_nx t n (kp_start t n e)))) (kp_vv t n (kp_start t n (kp_nx t n (kp_start t n e))) (kp_vv t n (kp_start t n e) u2)))) (by with_unfolding_all rfl) ?_
            refine kf_lo (L := [(0, .inr (.inr (.inl (some 259)))), (1, .inl (Int32.ofNat 0))]) ?_ (ih (it + 1) (km_n1 h it (v, vs)) _ _ (by omega) (by simp only at c1; omega) hnx2.2 hvv2 hnt2 ht2 (fun l hl a2 s2 k2 u3 hb3 => ?_) (fun hl h2 it2 a2 s2 k2 u3 hh a1 hb3 => ?_))
            · intro q hq
              simp only [List.mem_cons, List.not_mem_nil, or_false] at hq
              rcases hq with rfl | rfl <;> rfl
            · have := hok ((v, vs) :: l) (by unfold kp_its; rw [if_neg hkd0, hitem]; simp only; rw [hl]) a2 s2 k2 u3 hb3
              rw [show it + 1 + l.length = it + ((v, vs) :: l).length from by rw [List.length_cons]; omega]
              exact this
            · exact hbad (by unfold kp_its; rw [if_neg hkd0, hitem]; simp only; rw [hl]) h2 it2 a2 s2 k2 u3 (km_D_tr hD hh) a1 ⟨hb3.1, hb3.2.trans (kp_flt1 hitem).symm⟩
          · rw [if_neg (fun w => e3 ((kx_eq (by omega) (by omega)).mp w))]
            refine kx_go 1 (pc' := 184) (L' := [(2, .inl (Int32.ofNat (kp_tv v))), (0, .inr (.inr (.inl (some 259)))), (1, .inl (Int32.ofNat 0))]) (S' := [.inl (Int32.ofNat 0)]) (h' := (km_H (kmj (km_nw h it 0 vs) it) 0 (kp_nx t n (kp_start t n e)) (kp_start t n e) (kp_tk t n (kp_start t n e)) (kp_vv t n (kp_start t n e) u2))) (by with_unfolding_all rfl) ?_
            exact kc_ret_ok rfl (rv := some (.inl (Int32.ofNat 0))) rfl (hbad (by unfold kp_its; rw [if_neg hkd0]; unfold kp_item; rw [hvb]; simp only; rw [hev]; simp only; rw [if_neg (fun w => e3 (r3.mp w))]) _ it _ _ _ _ hDw (by omega) ⟨⟨hst2.2, hnx2.2, rlt, hvv2⟩, ((kp_flt0 (by unfold kp_item; rw [hvb]; simp only; rw [hev]; simp only; rw [if_neg (fun w => e3 (r3.mp w))])).trans (kp_itf2 hvb hev)).symm⟩)
        · exact hbad (by unfold kp_its; rw [if_neg hkd0]; unfold kp_item; rw [hvb]; simp only; rw [hev]) h2 it a2 s2 k2 u2 hh (by omega) ⟨hb2.1, hb2.2.trans ((kp_flt0 (by unfold kp_item; rw [hvb]; simp only; rw [hev])).trans (kp_itf1 hvb hev)).symm⟩
set_option maxRecDepth 20000 in
theorem km_rdlx1 {g : kc_G} {d : Nat} {Q : Option kc_V → kc_H → Prop} {n : Nat} {t : Nat → Nat} (hg : kc_ok g) (hn : n ≤ 240) (hb : ∀ j, j < 240 → t j < 256) : ∀ (u it : Nat) (h : kc_H) (p u0 : Nat), 61 - it = u → 4 * it ≤ p → p ≤ n → u0 < 1000 → h 260 (160 + 1) = .inl (Int32.ofNat n) → (∀ j, j < 240 → h 260 (170 + 240 * 1 + j) = .inl (Int32.ofNat (t j))) →
    (∀ l, kp_its t n 7 9 u p = some l → ∀ a2 s2 k2 u2, (s2 ≤ n ∧ a2 ≤ n ∧ k2 < 27 ∧ u2 < 1000) → Q (some (.inl (Int32.ofNat 1))) (km_H (kmj (km_ns h it l) (it + l.length)) 1 a2 s2 k2 u2)) →
    (kp_its t n 7 9 u p = none → ∀ (h2 : kc_H) (it2 a2 s2 k2 u2 : Nat), km_D h h2 → it2 ≤ 60 → ((s2 ≤ n ∧ a2 ≤ n ∧ k2 < 27 ∧ u2 < 1000) ∧ s2 = kp_flt t n 7 9 u p) → Q (some (.inl (Int32.ofNat 0))) (km_H (kmj h2 it2) 1 a2 s2 k2 u2)) → kc_Ev g (d + 4) wk_m64 Q 19 [(0, .inr (.inr (.inl (some 259)))), (1, .inl (Int32.ofNat 1))] [] (km_H (kmj h it) 1 (kp_nx t n (kp_start t n p)) (kp_start t n p) (kp_tk t n (kp_start t n p)) (kp_vv t n (kp_start t n p) u0)) := by
  have hx : 1 < 2 := by decide
  intro u
  induction u with
  | zero =>
    intro it h p u0 hu h4 hp hu0 hnt ht hok hbad
    omega
  | succ u ih =>
    intro it h p u0 hu h4 hp hu0 hnt ht hok hbad
    have hst := kp_start_le (t := t) hp
    have hnx := kp_nx_le (t := t) hst.2
    obtain ⟨q0, q2, q3, qlt⟩ := kq_k (t := t) (n := n) (S := kp_start t n p)
    have hvv := kp_vv_lt (t := t) (n := n) (S := kp_start t n p) hu0
    refine kx_go 3 (pc' := (if kc_cnd .eq (Int32.ofNat (kp_tk t n (kp_start t n p))).toInt 0 then 212 else 26)) (L' := [(0, .inr (.inr (.inl (some 259)))), (1, .inl (Int32.ofNat 1))]) (S' := []) (h' := (km_H (kmj h it) 1 (kp_nx t n (kp_start t n p)) (kp_start t n p) (kp_tk t n (kp_start t n p)) (kp_vv t n (kp_start t n p) u0))) (by with_unfolding_all rfl) ?_
    by_cases e0 : kp_tk t n (kp_start t n p) = 0
    · rw [if_pos (by rw [e0]; decide)]
      refine kx_go 1 (pc' := 213) (L' := [(0, .inr (.inr (.inl (some 259)))), (1, .inl (Int32.ofNat 1))]) (S' := [.inl (Int32.ofNat 1)]) (h' := (km_H (kmj h it) 1 (kp_nx t n (kp_start t n p)) (kp_start t n p) (kp_tk t n (kp_start t n p)) (kp_vv t n (kp_start t n p) u0))) (by with_unfolding_all rfl) ?_
      exact kc_ret_ok rfl (rv := some (.inl (Int32.ofNat 1))) rfl (hok [] (by unfold kp_its; rw [if_pos (q0.mpr e0)]) _ _ _ _ ⟨hst.2, hnx.2, qlt, hvv⟩)
    · have hkd0 : ¬ kp_kd t n (kp_start t n p) = 0 := fun e => e0 (q0.mp e)
      have hit : it < 60 := by
        have : ¬ n ≤ kp_start t n p := fun q => hkd0 (if_pos q)
        omega
      rw [if_neg (fun w => by unfold kc_cnd at w; rw [kx_ti (by omega)] at w; simp only [decide_eq_true_eq] at w; omega)]
      refine kx_go 9 (pc' := 60) (L' := [(2, .inl (Int32.ofNat (kp_tk t n (kp_start t n p)))), (0, .inr (.inr (.inl (some 259)))), (1, .inl (Int32.ofNat 1))]) (S' := [.inr (.inl (Int64.ofNat 26)), .inr (.inl (Int64.ofNat 20)), .inr (.inl ((Int32.ofNat (kp_tk t n (kp_start t n p))).toInt64))]) (h' := (km_H (kmj h it) 1 (kp_nx t n (kp_start t n p)) (kp_start t n p) (kp_tk t n (kp_start t n p)) (kp_vv t n (kp_start t n p) u0))) (by with_unfolding_all rfl) ?_
      rw [kx_i2l (by omega)]
      refine kc_call_rule (M2 := wk_m22) (av := [.inr (.inl (Int64.ofNat (kp_tk t n (kp_start t n p)))), .inr (.inl (Int64.ofNat 20)), .inr (.inl (Int64.ofNat 26))]) (r := []) rfl rfl (kc_Con_le (km_lies hg (by omega) (by omega) (by omega)) (by omega)) (fun rv h' hq => ?_)
      obtain ⟨rfl, rfl⟩ := hq
      show kc_Ev g (d + 4) wk_m64 Q 63 [(2, .inl (Int32.ofNat (kp_tk t n (kp_start t n p)))), (0, .inr (.inr (.inl (some 259)))), (1, .inl (Int32.ofNat 1))] [.inl (kp_b (decide (20 ≤ kp_tk t n (kp_start t n p) ∧ kp_tk t n (kp_start t n p) ≤ 26)))] (km_H (kmj h it) 1 (kp_nx t n (kp_start t n p)) (kp_start t n p) (kp_tk t n (kp_start t n p)) (kp_vv t n (kp_start t n p) u0))
      refine kx_go 1 (pc' := (if kc_cnd .ne (kp_b (decide (20 ≤ kp_tk t n (kp_start t n p) ∧ kp_tk t n (kp_start t n p) ≤ 26))).toInt 0 then 68 else 66)) (L' := [(2, .inl (Int32.ofNat (kp_tk t n (kp_start t n p)))), (0, .inr (.inr (.inl (some 259)))), (1, .inl (Int32.ofNat 1))]) (S' := []) (h' := (km_H (kmj h it) 1 (kp_nx t n (kp_start t n p)) (kp_start t n p) (kp_tk t n (kp_start t n p)) (kp_vv t n (kp_start t n p) u0))) (by with_unfolding_all rfl) ?_
      have hvb := kq_t1 (t := t) (n := n) (S := kp_start t n p)
      cases e1 : decide (20 ≤ kp_tk t n (kp_start t n p) ∧ kp_tk t n (kp_start t n p) ≤ 26) with
      | false =>
        rw [if_neg (fun w => by have := kx_b1.mp w; cases this)]
        rw [if_neg (of_decide_eq_false e1)] at hvb
        refine kx_go 1 (pc' := 67) (L' := [(2, .inl (Int32.ofNat (kp_tk t n (kp_start t n p)))), (0, .inr (.inr (.inl (some 259)))), (1, .inl (Int32.ofNat 1))]) (S' := [.inl (Int32.ofNat 0)]) (h' := (km_H (kmj h it) 1 (kp_nx t n (kp_start t n p)) (kp_start t n p) (kp_tk t n (kp_start t n p)) (kp_vv t n (kp_start t n p) u0))) (by with_unfolding_all rfl) ?_
        exact kc_ret_ok rfl (rv := some (.inl (Int32.ofNat 0))) rfl (hbad (by unfold kp_its; rw [if_neg hkd0]; unfold kp_item; rw [hvb]) h it _ _ _ _ km_D_rf (by omega) ⟨⟨hst.2, hnx.2, qlt, hvv⟩, ((kp_flt0 (by unfold kp_item; rw [hvb])).trans (kp_itf0 hvb)).symm⟩)
      | true =>
        rw [if_pos (kx_b1.mpr rfl)]
        have e1 := of_decide_eq_true e1
        rw [if_pos e1] at hvb
        obtain ⟨v, hv⟩ : ∃ v, v = kp_tk t n (kp_start t n p) - 11 := ⟨_, rfl⟩
        rw [← hv] at hvb
        have etv : kp_tk t n (kp_start t n p) = kp_tv v := by
          unfold kp_tv
          split <;> omega
        have hv16 : v < 16 := by omega
        obtain ⟨hi, hi4⟩ := kr_shl v hv16
        refine kf_lo (L := [(2, .inl (Int32.ofNat (kp_tv v))), (0, .inr (.inr (.inl (some 259)))), (1, .inl (Int32.ofNat 1))]) ?_ ?_
        · intro q hq
          simp only [List.mem_cons, List.not_mem_nil, or_false] at hq
          rcases hq with rfl | rfl | rfl
          · show some (Sum.inl (Int32.ofNat (kp_tk t n (kp_start t n p)))) = some (Sum.inl (Int32.ofNat (kp_tv v)))
            rw [etv]
          · rfl
          · rfl
        refine kx_go 1 (pc' := 69) (L' := [(2, .inl (Int32.ofNat (kp_tv v))), (0, .inr (.inr (.inl (some 259)))), (1, .inl (Int32.ofNat 1))]) (S' := [.inr (.inr (.inl (some 259)))]) (h' := (km_H (kmj h it) 1 (kp_nx t n (kp_start t n p)) (kp_start t n p) (kp_tk t n (kp_start t n p)) (kp_vv t n (kp_start t n p) u0))) (by with_unfolding_all rfl) ?_
        refine kc_call_rule (M2 := wk_m65) (av := [.inr (.inr (.inl (some 259)))]) (r := []) rfl rfl (kc_Con_le (km_scan hg hx hn ((kmj_o (by decide)).trans hnt) (fun j hj => (kmj_o (by decide)).trans (ht j hj)) hb hnx.2) (by omega)) (fun rv h' hq => ?_)
        obtain ⟨rfl, rfl⟩ := hq
        show kc_Ev g (d + 4) wk_m64 Q 72 [(2, .inl (Int32.ofNat (kp_tv v))), (0, .inr (.inr (.inl (some 259)))), (1, .inl (Int32.ofNat 1))] [] (km_H (kmj h it) 1 (kp_nx t n (kp_start t n (kp_nx t n (kp_start t n p)))) (kp_start t n (kp_nx t n (kp_start t n p))) (kp_tk t n (kp_start t n (kp_nx t n (kp_start t n p)))) (kp_vv t n (kp_start t n (kp_nx t n (kp_start t n p))) (kp_vv t n (kp_start t n p) u0)))
        refine kx_go 2 (pc' := 74) (L' := [(3, .inl (Int32.ofNat 0)), (2, .inl (Int32.ofNat (kp_tv v))), (0, .inr (.inr (.inl (some 259)))), (1, .inl (Int32.ofNat 1))]) (S' := []) (h' := (km_H (kmj h it) 1 (kp_nx t n (kp_start t n (kp_nx t n (kp_start t n p)))) (kp_start t n (kp_nx t n (kp_start t n p))) (kp_tk t n (kp_start t n (kp_nx t n (kp_start t n p)))) (kp_vv t n (kp_start t n (kp_nx t n (kp_start t n p))) (kp_vv t n (kp_start t n p) u0)))) (by with_unfolding_all rfl) ?_
        refine km_arlx (d := d) hg hx hn hb hv16 hit (ks_L (kp_sh v)) 0 h _ _ rfl (Nat.zero_le _) hnt ht hnx.2 hvv (fun vs e hev u2 hu2 => ?_) (fun hev h2 a2 s2 k2 u2 hh hb2 => ?_)
        · obtain ⟨b1, b2, b3⟩ := kp_ar_le _ _ _ _ _ hnx.2 hev
          have hlt := kp_ar_lt _ _ _ _ _ hev
          have hst2 := kp_start_le (t := t) b2
          have hnx2 := kp_nx_le (t := t) hst2.2
          obtain ⟨r0, r2, r3, rlt⟩ := kq_k (t := t) (n := n) (S := kp_start t n e)
          have hvv2 := kp_vv_lt (t := t) (n := n) (S := kp_start t n e) hu2
          have hDw := km_D_nw hit vs h 0 (by rw [b3]; omega) hlt
          refine kx_go 4 (pc' := (if kc_cnd .eq (Int32.ofNat (kp_tk t n (kp_start t n e))).toInt (Int32.ofNat 3).toInt then 185 else 183)) (L' := [(2, .inl (Int32.ofNat (kp_tv v))), (0, .inr (.inr (.inl (some 259)))), (1, .inl (Int32.ofNat 1))]) (S' := []) (h' := (km_H (kmj (km_nw h it 0 vs) it) 1 (kp_nx t n (kp_start t n e)) (kp_start t n e) (kp_tk t n (kp_start t n e)) (kp_vv t n (kp_start t n e) u2))) (by with_unfolding_all rfl) ?_
          by_cases e3 : kp_tk t n (kp_start t n e) = 3
          · rw [if_pos ((kx_eq (by omega) (by omega)).mpr e3)]
            have hitem : kp_item t n 7 9 (kp_nx t n (kp_start t n p)) (kp_kd t n (kp_start t n p)) (kp_start t n p) = some ((v, vs), kp_nx t n (kp_start t n e)) := by
              unfold kp_item
              rw [hvb]
              simp only
              rw [hev]
              simp only
              rw [if_pos (r3.mpr e3)]
            obtain ⟨c1, c2, c3, c4, c5, c6⟩ := kp_item_le (by omega) hnx.1 hnx.2 hitem
            refine kx_go 5 (pc' := 194) (L' := [(2, .inl (Int32.ofNat (kp_tv v))), (0, .inr (.inr (.inl (some 259)))), (1, .inl (Int32.ofNat 1))]) (S' := [.inl (Int32.ofNat (kp_tv v)), .inl (Int32.ofNat it), .inr (.inr (.inl (some 264)))]) (h' := (km_H (kmj (km_nw h it 0 vs) it) 1 (kp_nx t n (kp_start t n e)) (kp_start t n e) (kp_tk t n (kp_start t n e)) (kp_vv t n (kp_start t n e) u2))) (by with_unfolding_all rfl) ?_
            refine kx_iast rfl (c := 264) (j := it) (m := 240) rfl (by decide) (by decide) (by omega) ?_
            rw [kmj_u (by decide)]
            show kc_Ev g (d + 4) wk_m64 Q 195 [(2, .inl (Int32.ofNat (kp_tv v))), (0, .inr (.inr (.inl (some 259)))), (1, .inl (Int32.ofNat 1))] [] (km_H (kmj (km_n1 h it (v, vs)) it) 1 (kp_nx t n (kp_start t n e)) (kp_start t n e) (kp_tk t n (kp_start t n e)) (kp_vv t n (kp_start t n e) u2))
            refine kx_go 5 (pc' := 202) (L' := [(2, .inl (Int32.ofNat (kp_tv v))), (0, .inr (.inr (.inl (some 259)))), (1, .inl (Int32.ofNat 1))]) (S' := [.inl ((Int32.ofNat it) + (Int32.ofNat 1)), .inr (.inr (.inl (some 259)))]) (h' := (km_H (kmj (km_n1 h it (v, vs)) it) 1 (kp_nx t n (kp_start t n e)) (kp_start t n e) (kp_tk t n (kp_start t n e)) (kp_vv t n (kp_start t n e) u2))) (by with_unfolding_all rfl) ?_
            refine kx_go 1 (pc' := 205) (L' := [(2, .inl (Int32.ofNat (kp_tv v))), (0, .inr (.inr (.inl (some 259)))), (1, .inl (Int32.ofNat 1))]) (S' := []) (h' := kc_upd (km_H (kmj (km_n1 h it (v, vs)) it) 1 (kp_nx t n (kp_start t n e)) (kp_start t n e) (kp_tk t n (kp_start t n e)) (kp_vv t n (kp_start t n e) u2)) 259 13 (.inl (Int32.ofNat it + Int32.ofNat 1))) (by with_unfolding_all rfl) ?_
            rw [kx_inc1, kmj_13]
            have hD := km_D_n1 (h := h) (q := (v, vs)) hit (by show vs.length ≤ 4; rw [b3]; omega) hv16 hlt
            have hnt2 : km_n1 h it (v, vs) 260 (160 + 1) = .inl (Int32.ofNat n) := (km_D_n hD (by decide) (by decide)).trans hnt
            have ht2 : ∀ j, j < 240 → km_n1 h it (v, vs) 260 (170 + 240 * 1 + j) = .inl (Int32.ofNat (t j)) := fun j hj => (km_D_n hD (by decide) (by decide)).trans (ht j hj)
            refine kx_go 1 (pc' := 206) (L' := [(2, .inl (Int32.ofNat (kp_tv v))), (0, .inr (.inr (.inl (some 259)))), (1, .inl (Int32.ofNat 1))]) (S' := [.inr (.inr (.inl (some 259)))]) (h' := (km_H (kmj (km_n1 h it (v, vs)) (it + 1)) 1 (kp_nx t n (kp_start t n e)) (kp_start t n e) (kp_tk t n (kp_start t n e)) (kp_vv t n (kp_start t n e) u2))) (by with_unfolding_all rfl) ?_
            refine kc_call_rule (M2 := wk_m65) (av := [.inr (.inr (.inl (some 259)))]) (r := []) rfl rfl (kc_Con_le (km_scan hg hx hn ((kmj_o (by decide)).trans hnt2) (fun j hj => (kmj_o (by decide)).trans (ht2 j hj)) hb hnx2.2) (by omega)) (fun rv h' hq => ?_)
            obtain ⟨rfl, rfl⟩ := hq
            show kc_Ev g (d + 4) wk_m64 Q 209 [(2, .inl (Int32.ofNat (kp_tv v))), (0, .inr (.inr (.inl (some 259)))), (1, .inl (Int32.ofNat 1))] [] (km_H (kmj (km_n1 h it (v, vs)) (it + 1)) 1 (kp_nx t n (kp_start t n (kp_nx t n (kp_start t n e)))) (kp_start t n (kp_nx t n (kp_start t n e))) (kp_tk t n (kp_start t n (kp_nx t n (kp_start t n e)))) (kp_vv t n (kp_start t n (kp_nx t n (kp_start t n e))) (kp_vv t n (kp_start t n e) u2)))
            refine kx_go 1 (pc' := 19) (L' := [(2, .inl (Int32.ofNat (kp_tv v))), (0, .inr (.inr (.inl (some 259)))), (1, .inl (Int32.ofNat 1))]) (S' := []) (h' := (km_H (kmj (km_n1 h it (v, vs)) (it + 1)) 1 (kp_nx t n (kp_start t n (kp_nx t n (kp_start t n e)))) (kp_start t n (kp_nx t n (kp_start t n e))) (kp_tk t n (kp_start t n (kp_nx t n (kp_start t n e)))) (kp_vv t n (kp_start t n (kp_nx t n (kp_start t n e))) (kp_vv t n (kp_start t n e) u2)))) (by with_unfolding_all rfl) ?_
            refine kf_lo (L := [(0, .inr (.inr (.inl (some 259)))), (1, .inl (Int32.ofNat 1))]) ?_ (ih (it + 1) (km_n1 h it (v, vs)) _ _ (by omega) (by simp only at c1; omega) hnx2.2 hvv2 hnt2 ht2 (fun l hl a2 s2 k2 u3 hb3 => ?_) (fun hl h2 it2 a2 s2 k2 u3 hh a1 hb3 => ?_))
            · intro q hq
              simp only [List.mem_cons, List.not_mem_nil, or_false] at hq
              rcases hq with rfl | rfl <;> rfl
            · have := hok ((v, vs) :: l) (by unfold kp_its; rw [if_neg hkd0, hitem]; simp only; rw [hl]) a2 s2 k2 u3 hb3
              rw [show it + 1 + l.length = it + ((v, vs) :: l).length from by rw [List.length_cons]; omega]
              exact this
            · exact hbad (by unfold kp_its; rw [if_neg hkd0, hitem]; simp only; rw [hl]) h2 it2 a2 s2 k2 u3 (km_D_tr hD hh) a1 ⟨hb3.1, hb3.2.trans (kp_flt1 hitem).symm⟩
          · rw [if_neg (fun w => e3 ((kx_eq (by omega) (by omega)).mp w))]
            refine kx_go 1 (pc' := 184) (L' := [(2, .inl (Int32.ofNat (kp_tv v))), (0, .inr (.inr (.inl (some 259)))), (1, .inl (Int32.ofNat 1))]) (S' := [.inl (Int32.ofNat 0)]) (h' := (km_H (kmj (km_nw h it 0 vs) it) 1 (kp_nx t n (kp_start t n e)) (kp_start t n e) (kp_tk t n (kp_start t n e)) (kp_vv t n (kp_start t n e) u2))) (by with_unfolding_all rfl) ?_
            exact kc_ret_ok rfl (rv := some (.inl (Int32.ofNat 0))) rfl (hbad (by unfold kp_its; rw [if_neg hkd0]; unfold kp_item; rw [hvb]; simp only; rw [hev]; simp only; rw [if_neg (fun w => e3 (r3.mp w))]) _ it _ _ _ _ hDw (by omega) ⟨⟨hst2.2, hnx2.2, rlt, hvv2⟩, ((kp_flt0 (by unfold kp_item; rw [hvb]; simp only; rw [hev]; simp only; rw [if_neg (fun w => e3 (r3.mp w))])).trans (kp_itf2 hvb hev)).symm⟩)
        · exact hbad (by unfold kp_its; rw [if_neg hkd0]; unfold kp_item; rw [hvb]; simp only; rw [hev]) h2 it a2 s2 k2 u2 hh (by omega) ⟨hb2.1, hb2.2.trans ((kp_flt0 (by unfold kp_item; rw [hvb]; simp only; rw [hev])).trans (kp_itf1 hvb hev)).symm⟩
/-- what reads leaves behind -/
def km_Qrx (t : Nat → Nat) (n x m f : Nat) (h : kc_H) : Option kc_V → kc_H → Prop := fun rv h' => match kp_its t n m f 61 0 with
  | some l => ∃ a2 s2 k2 u2 : Nat, rv = some (.inl (Int32.ofNat 1)) ∧ (s2 ≤ n ∧ a2 ≤ n ∧ k2 < 27 ∧ u2 < 1000) ∧ h' = km_H (kmj (km_ns h 0 l) l.length) x a2 s2 k2 u2
  | none => ∃ (h2 : kc_H) (it2 a2 s2 k2 u2 : Nat), rv = some (.inl (Int32.ofNat 0)) ∧ (km_D h h2 ∧ it2 ≤ 60 ∧ ((s2 ≤ n ∧ a2 ≤ n ∧ k2 < 27 ∧ u2 < 1000) ∧ s2 = kp_flt t n m f 61 0)) ∧ h' = km_H (kmj h2 it2) x a2 s2 k2 u2
set_option maxRecDepth 20000 in
theorem km_readsx0 {g : kc_G} {d n s0 k0 v0 : Nat} {t : Nat → Nat} {h : kc_H} (hg : kc_ok g) (hn : n ≤ 240) (hb : ∀ j, j < 240 → t j < 256) (hnt : h 260 (160 + 0) = .inl (Int32.ofNat n)) (ht : ∀ j, j < 240 → h 260 (170 + 240 * 0 + j) = .inl (Int32.ofNat (t j))) (hv0 : v0 < 1000) (h0 : h 259 0 = .inr (.inr (.inl (some 260)))) (h8 : h 259 8 = .inl (Int32.ofNat s0)) (h9 : h 259 9 = .inl (Int32.ofNat k0)) (h10 : h 259 10 = .inl (Int32.ofNat v0)) (h11 : h 259 11 = .inr (.inr (.inl (some 264)))) (h12 : h 259 12 = .inr (.inr (.inl (some 265)))) : kc_Con g (d + 5) 64 [.inr (.inr (.inl (some 259))), .inl (Int32.ofNat 0)] h (km_Qrx t n 0 9 0 h) := by
  have hx : 0 < 2 := by decide
  refine kc_Con_new hg (M := wk_m64) rfl rfl rfl (show 2 ≤ 5 by decide) ?_
  refine kx_go 10 (pc' := 16) (L' := [(0, .inr (.inr (.inl (some 259)))), (1, .inl (Int32.ofNat 0))]) (S' := [.inr (.inr (.inl (some 259)))]) (h' := kc_upd (kc_upd (kc_upd h 259 6 (.inl (Int32.ofNat 0))) 259 7 (.inl (Int32.ofNat 0))) 259 13 (.inl (Int32.ofNat 0))) (by with_unfolding_all rfl) ?_
  rw [km_beg h0 h8 h9 h10 h11 h12]
  refine kc_call_rule (M2 := wk_m65) (av := [.inr (.inr (.inl (some 259)))]) (r := []) rfl rfl (kc_Con_le (km_scan hg hx hn ((kmj_o (by decide)).trans hnt) (fun j hj => (kmj_o (by decide)).trans (ht j hj)) hb (Nat.zero_le _)) (by omega)) (fun rv h' hq => ?_)
  obtain ⟨rfl, rfl⟩ := hq
  refine km_rdlx0 (d := d) hg hn hb 61 0 h 0 v0 rfl (by omega) (by omega) hv0 hnt ht (fun l hl a2 s2 k2 u2 hb2 => ?_) (fun hl h2 it2 a2 s2 k2 u2 b1 b2 b3 => ?_)
  · unfold km_Qrx
    rw [hl, Nat.zero_add]
    exact ⟨a2, s2, k2, u2, rfl, hb2, rfl⟩
  · unfold km_Qrx
    rw [hl]
    exact ⟨h2, it2, a2, s2, k2, u2, rfl, ⟨b1, b2, b3⟩, rfl⟩
set_option maxRecDepth 20000 in
theorem km_readsx1 {g : kc_G} {d n s0 k0 v0 : Nat} {t : Nat → Nat} {h : kc_H} (hg : kc_ok g) (hn : n ≤ 240) (hb : ∀ j, j < 240 → t j < 256) (hnt : h 260 (160 + 1) = .inl (Int32.ofNat n)) (ht : ∀ j, j < 240 → h 260 (170 + 240 * 1 + j) = .inl (Int32.ofNat (t j))) (hv0 : v0 < 1000) (h0 : h 259 0 = .inr (.inr (.inl (some 260)))) (h8 : h 259 8 = .inl (Int32.ofNat s0)) (h9 : h 259 9 = .inl (Int32.ofNat k0)) (h10 : h 259 10 = .inl (Int32.ofNat v0)) (h11 : h 259 11 = .inr (.inr (.inl (some 264)))) (h12 : h 259 12 = .inr (.inr (.inl (some 265)))) : kc_Con g (d + 5) 64 [.inr (.inr (.inl (some 259))), .inl (Int32.ofNat 1)] h (km_Qrx t n 1 7 9 h) := by
  have hx : 1 < 2 := by decide
  refine kc_Con_new hg (M := wk_m64) rfl rfl rfl (show 2 ≤ 5 by decide) ?_
  refine kx_go 10 (pc' := 16) (L' := [(0, .inr (.inr (.inl (some 259)))), (1, .inl (Int32.ofNat 1))]) (S' := [.inr (.inr (.inl (some 259)))]) (h' := kc_upd (kc_upd (kc_upd h 259 6 (.inl (Int32.ofNat 1))) 259 7 (.inl (Int32.ofNat 0))) 259 13 (.inl (Int32.ofNat 0))) (by with_unfolding_all rfl) ?_
  rw [km_beg h0 h8 h9 h10 h11 h12]
  refine kc_call_rule (M2 := wk_m65) (av := [.inr (.inr (.inl (some 259)))]) (r := []) rfl rfl (kc_Con_le (km_scan hg hx hn ((kmj_o (by decide)).trans hnt) (fun j hj => (kmj_o (by decide)).trans (ht j hj)) hb (Nat.zero_le _)) (by omega)) (fun rv h' hq => ?_)
  obtain ⟨rfl, rfl⟩ := hq
  refine km_rdlx1 (d := d) hg hn hb 61 0 h 0 v0 rfl (by omega) (by omega) hv0 hnt ht (fun l hl a2 s2 k2 u2 hb2 => ?_) (fun hl h2 it2 a2 s2 k2 u2 b1 b2 b3 => ?_)
  · unfold km_Qrx
    rw [hl, Nat.zero_add]
    exact ⟨a2, s2, k2, u2, rfl, hb2, rfl⟩
  · unfold km_Qrx
    rw [hl]
    exact ⟨h2, it2, a2, s2, k2, u2, rfl, ⟨b1, b2, b3⟩, rfl⟩
theorem km_Qrx_w {t : Nat → Nat} {n x m f : Nat} {h : kc_H} {rv : Option kc_V} {h' : kc_H} (hq : km_Qrx t n x m f h rv h') : km_Qr t n x m f h rv h' := by
  unfold km_Qrx at hq
  unfold km_Qr
  revert hq
  cases kp_its t n m f 61 0 with
  | some l => exact fun hq => hq
  | none =>
    intro hq
    obtain ⟨h2, it2, a2, s2, k2, u2, e1, ⟨e2, e3, e4, -⟩, e5⟩ := hq
    exact ⟨h2, it2, a2, s2, k2, u2, e1, ⟨e2, e3, e4⟩, e5⟩
