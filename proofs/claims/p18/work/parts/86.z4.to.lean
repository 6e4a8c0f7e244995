section
-- 86.z4
/-! ===== by hand: the reference's loop over the items ===== -/
set_option maxRecDepth 20000 in
theorem km_rdl0 {g : kc_G} {d : Nat} {Q : Option kc_V → kc_H → Prop} {n : Nat} {t : Nat → Nat} (hg : kc_ok g) (hn : n ≤ 240) (hb : ∀ j, j < 240 → t j < 256) : ∀ (u it : Nat) (h : kc_H) (p u0 : Nat), 61 - it = u → 4 * it ≤ p → p ≤ n → u0 < 1000 → h 260 (160 + 0) = .inl (Int32.ofNat n) → (∀ j, j < 240 → h 260 (170 + 240 * 0 + j) = .inl (Int32.ofNat (t j))) →
    (∀ l, kp_its t n 9 0 u p = some l → ∀ a2 s2 k2 u2, (s2 ≤ n ∧ a2 ≤ n ∧ k2 < 27 ∧ u2 < 1000) → Q (some (.inl (Int32.ofNat 1))) (km_H (kmj (km_ns h it l) (it + l.length)) 0 a2 s2 k2 u2)) →
    (kp_its t n 9 0 u p = none → ∀ (h2 : kc_H) (it2 a2 s2 k2 u2 : Nat), km_D h h2 → it2 ≤ 60 → (s2 ≤ n ∧ a2 ≤ n ∧ k2 < 27 ∧ u2 < 1000) → Q (some (.inl (Int32.ofNat 0))) (km_H (kmj h2 it2) 0 a2 s2 k2 u2)) → kc_Ev g (d + 4) wk_m64 Q 19 [(0, .inr (.inr (.inl (some 259)))), (1, .inl (Int32.ofNat 0))] [] (km_H (kmj h it) 0 (kp_nx t n (kp_start t n p)) (kp_start t n p) (kp_tk t n (kp_start t n p)) (kp_vv t n (kp_start t n p) u0)) := by
  have hx : 0 < 2 := by decide
  intro u
  induction u with
  | zero =>
    intro it h p u0 hu h4 hp hu0 hnt ht hok hbad
    omega
  | succ u ih =>
    intro it h p u0 hu h4 hp hu0 hnt ht hok hbad
    have hst := kp_start_le (t := t) hp
    have hnx := kp_nx_le (t := t) hst.2
    obtain ⟨q0, q2, q3, qlt⟩ := kq_k (t := t) (n := n) (S := kp_start t n p)
    have hvv := kp_vv_lt (t := t) (n := n) (S := kp_start t n p) hu0
    refine kx_go 3 (pc' := (if kc_cnd .eq (Int32.ofNat (kp_tk t n (kp_start t n p))).toInt 0 then 212 else 26)) (L' := [(0, .inr (.inr (.inl (some 259)))), (1, .inl (Int32.ofNat 0))]) (S' := []) (h' := (km_H (kmj h it) 0 (kp_nx t n (kp_start t n p)) (kp_start t n p) (kp_tk t n (kp_start t n p)) (kp_vv t n (kp_start t n p) u0))) (by with_unfolding_all rfl) ?_
    by_cases e0 : kp_tk t n (kp_start t n p) = 0
    · rw [if_pos (by rw [e0]; decide)]
      refine kx_go 1 (pc' := 213) (L' := [(0, .inr (.inr (.inl (some 259)))), (1, .inl (Int32.ofNat 0))]) (S' := [.inl (Int32.ofNat 1)]) (h' := (km_H (kmj h it) 0 (kp_nx t n (kp_start t n p)) (kp_start t n p) (kp_tk t n (kp_start t n p)) (kp_vv t n (kp_start t n p) u0))) (by with_unfolding_all rfl) ?_
      exact kc_ret_ok rfl (rv := some (.inl (Int32.ofNat 1))) rfl (hok [] (by unfold kp_its; rw [if_pos (q0.mpr e0)]) _ _ _ _ ⟨hst.2, hnx.2, qlt, hvv⟩)
    · have hkd0 : ¬ kp_kd t n (kp_start t n p) = 0 := fun e => e0 (q0.mp e)
      have hit : it < 60 := by
        have : ¬ n ≤ kp_start t n p := fun q => hkd0 (if_pos q)
        omega
      rw [if_neg (fun w => by unfold kc_cnd at w; rw [kx_ti (by omega)] at w; simp only [decide_eq_true_eq] at w; omega)]
      refine kx_go 9 (pc' := 43) (L' := [(2, .inl (Int32.ofNat (kp_tk t n (kp_start t n p)))), (0, .inr (.inr (.inl (some 259)))), (1, .inl (Int32.ofNat 0))]) (S' := [.inr (.inl (Int64.ofNat 18)), .inr (.inl (Int64.ofNat 10)), .inr (.inl ((Int32.ofNat (kp_tk t n (kp_start t n p))).toInt64))]) (h' := (km_H (kmj h it) 0 (kp_nx t n (kp_start t n p)) (kp_start t n p) (kp_tk t n (kp_start t n p)) (kp_vv t n (kp_start t n p) u0))) (by with_unfolding_all rfl) ?_
      rw [kx_i2l (by omega)]
      refine kc_call_rule (M2 := wk_m22) (av := [.inr (.inl (Int64.ofNat (kp_tk t n (kp_start t n p)))), .inr (.inl (Int64.ofNat 10)), .inr (.inl (Int64.ofNat 18))]) (r := []) rfl rfl (kc_Con_le (km_lies hg (by omega) (by omega) (by omega)) (by omega)) (fun rv h' hq => ?_)
      obtain ⟨rfl, rfl⟩ := hq
      show kc_Ev g (d + 4) wk_m64 Q 46 [(2, .inl (Int32.ofNat (kp_tk t n (kp_start t n p)))), (0, .inr (.inr (.inl (some 259)))), (1, .inl (Int32.ofNat 0))] [.inl (kp_b (decide (10 ≤ kp_tk t n (kp_start t n p) ∧ kp_tk t n (kp_start t n p) ≤ 18)))] (km_H (kmj h it) 0 (kp_nx t n (kp_start t n p)) (kp_start t n p) (kp_tk t n (kp_start t n p)) (kp_vv t n (kp_start t n p) u0))
      refine kx_go 1 (pc' := (if kc_cnd .ne (kp_b (decide (10 ≤ kp_tk t n (kp_start t n p) ∧ kp_tk t n (kp_start t n p) ≤ 18))).toInt 0 then 68 else 49)) (L' := [(2, .inl (Int32.ofNat (kp_tk t n (kp_start t n p)))), (0, .inr (.inr (.inl (some 259)))), (1, .inl (Int32.ofNat 0))]) (S' := []) (h' := (km_H (kmj h it) 0 (kp_nx t n (kp_start t n p)) (kp_start t n p) (kp_tk t n (kp_start t n p)) (kp_vv t n (kp_start t n p) u0))) (by with_unfolding_all rfl) ?_
      have hvb := kq_t0 (t := t) (n := n) (S := kp_start t n p)
      cases e1 : decide (10 ≤ kp_tk t n (kp_start t n p) ∧ kp_tk t n (kp_start t n p) ≤ 18) with
      | false =>
        rw [if_neg (fun w => by have := kx_b1.mp w; cases this)]
        rw [if_neg (of_decide_eq_false e1)] at hvb
        refine kx_go 2 (pc' := 67) (L' := [(2, .inl (Int32.ofNat (kp_tk t n (kp_start t n p)))), (0, .inr (.inr (.inl (some 259)))), (1, .inl (Int32.ofNat 0))]) (S' := [.inl (Int32.ofNat 0)]) (h' := (km_H (kmj h it) 0 (kp_nx t n (kp_start t n p)) (kp_start t n p) (kp_tk t n (kp_start t n p)) (kp_vv t n (kp_start t n p) u0))) (by with_unfolding_all rfl) ?_
        exact kc_ret_ok rfl (rv := some (.inl (Int32.ofNat 0))) rfl (hbad (by unfold kp_its; rw [if_neg hkd0]; unfold kp_item; rw [hvb]) h it _ _ _ _ km_D_rf (by omega) ⟨hst.2, hnx.2, qlt, hvv⟩)
      | true =>
        rw [if_pos (kx_b1.mpr rfl)]
        have e1 := of_decide_eq_true e1
        rw [if_pos e1] at hvb
        obtain ⟨v, hv⟩ : ∃ v, v = kp_tk t n (kp_start t n p) - 10 := ⟨_, rfl⟩
        rw [← hv] at hvb
        have etv : kp_tk t n (kp_start t n p) = kp_tv v := by
          unfold kp_tv
          split <;> omega
        have hv16 : v < 16 := by omega
        obtain ⟨hi, hi4⟩ := kr_shl v hv16
        refine kf_lo (L := [(2, .inl (Int32.ofNat (kp_tv v))), (0, .inr (.inr (.inl (some 259)))), (1, .inl (Int32.ofNat 0))]) ?_ ?_
        · intro q hq
          simp only [List.mem_cons, List.not_mem_nil, or_false] at hq
          rcases hq with rfl | rfl | rfl
          · show some (Sum.inl (Int32.ofNat (kp_tk t n (kp_start t n p)))) = some (Sum.inl (Int32.ofNat (kp_tv v)))
            rw [etv]
          · rfl
          · rfl
        refine kx_go 1 (pc' := 69) (L' := [(2, .inl (Int32.ofNat (kp_tv v))), (0, .inr (.inr (.inl (some 259)))), (1, .inl (Int32.ofNat 0))]) (S' := [.inr (.inr (.inl (some 259)))]) (h' := (km_H (kmj h it) 0 (kp_nx t n (kp_start t n p)) (kp_start t n p) (kp_tk t n (kp_start t n p)) (kp_vv t n (kp_start t n p) u0))) (by with_unfolding_all rfl) ?_
        refine kc_call_rule (M2 := wk_m65) (av := [.inr (.inr (.inl (some 259)))]) (r := []) rfl rfl (kc_Con_le (km_scan hg hx hn ((kmj_o (by decide)).trans hnt) (fun j hj => (kmj_o (by decide)).trans (ht j hj)) hb hnx.2) (by omega)) (fun rv h' hq => ?_)
        obtain ⟨rfl, rfl⟩ := hq
        show kc_Ev g (d + 4) wk_m64 Q 72 [(2, .inl (Int32.ofNat (kp_tv v))), (0, .inr (.inr (.inl (some 259)))), (1, .inl (Int32.ofNat 0))] [] (km_H (kmj h it) 0 (kp_nx t n (kp_start t n (kp_nx t n (kp_start t n p)))) (kp_start t n (kp_nx t n (kp_start t n p))) (kp_tk t n (kp_start t n (kp_nx t n (kp_start t n p)))) (kp_vv t n (kp_start t n (kp_nx t n (kp_start t n p))) (kp_vv t n (kp_start t n p) u0)))
        refine kx_go 2 (pc' := 74) (L' := [(3, .inl (Int32.ofNat 0)), (2, .inl (Int32.ofNat (kp_tv v))), (0, .inr (.inr (.inl (some 259)))), (1, .inl (Int32.ofNat 0))]) (S' := []) (h' := (km_H (kmj h it) 0 (kp_nx t n (kp_start t n (kp_nx t n (kp_start t n p)))) (kp_start t n (kp_nx t n (kp_start t n p))) (kp_tk t n (kp_start t n (kp_nx t n (kp_start t n p)))) (kp_vv t n (kp_start t n (kp_nx t n (kp_start t n p))) (kp_vv t n (kp_start t n p) u0)))) (by with_unfolding_all rfl) ?_
        refine km_arl (d := d) hg hx hn hb hv16 hit (ks_L (kp_sh v)) 0 h _ _ rfl (Nat.zero_le _) hnt ht hnx.2 hvv (fun vs e hev u2 hu2 => ?_) (fun hev h2 a2 s2 k2 u2 hh hb2 => ?_)
        · obtain ⟨b1, b2, b3⟩ := kp_ar_le _ _ _ _ _ hnx.2 hev
          have hlt := kp_ar_lt _ _ _ _ _ hev
          have hst2 := kp_start_le (t := t) b2
          have hnx2 := kp_nx_le (t := t) hst2.2
          obtain ⟨r0, r2, r3, rlt⟩ := kq_k (t := t) (n := n) (S := kp_start t n e)
          have hvv2 := kp_vv_lt (t := t) (n := n) (S := kp_start t n e) hu2
          have hDw := km_D_nw hit vs h 0 (by rw [b3]; omega) hlt
          refine kx_go 4 (pc' := (if kc_cnd .eq (Int32.ofNat (kp_tk t n (kp_start t n e))).toInt (Int32.ofNat 3).toInt then 185 else 183)) (L' := [(2, .inl (Int32.ofNat (kp_tv v))), (0, .inr (.inr (.inl (some 259)))), (1, .inl (Int32.ofNat 0))]) (S' := []) (h' := (km_H (kmj (km_nw h it 0 vs) it) 0 (kp_nx t n (kp_start t n e)) (kp_start t n e) (kp_tk t n (kp_start t n e)) (kp_vv t n (kp_start t n e) u2))) (by with_unfolding_all rfl) ?_
          by_cases e3 : kp_tk t n (kp_start t n e) = 3
          · rw [if_pos ((kx_eq (by omega) (by omega)).mpr e3)]
            have hitem : kp_item t n 9 0 (kp_nx t n (kp_start t n p)) (kp_kd t n (kp_start t n p)) (kp_start t n p) = some ((v, vs), kp_nx t n (kp_start t n e)) := by
              unfold kp_item
              rw [hvb]
              simp only
              rw [hev]
              simp only
              rw [if_pos (r3.mpr e3)]
            obtain ⟨c1, c2, c3, c4, c5, c6⟩ := kp_item_le (by omega) hnx.1 hnx.2 hitem
            refine kx_go 5 (pc' := 194) (L' := [(2, .inl (Int32.ofNat (kp_tv v))), (0, .inr (.inr (.inl (some 259)))), (1, .inl (Int32.ofNat 0))]) (S' := [.inl (Int32.ofNat (kp_tv v)), .inl (Int32.ofNat it), .inr (.inr (.inl (some 264)))]) (h' := (km_H (kmj (km_nw h it 0 vs) it) 0 (kp_nx t n (kp_start t n e)) (kp_start t n e) (kp_tk t n (kp_start t n e)) (kp_vv t n (kp_start t n e) u2))) (by with_unfolding_all rfl) ?_
            refine kx_iast rfl (c := 264) (j := it) (m := 240) rfl (by decide) (by decide) (by omega) ?_
            rw [kmj_u (by decide)]
            show kc_Ev g (d + 4) wk_m64 Q 195 [(2, .inl (Int32.ofNat (kp_tv v))), (0, .inr (.inr (.inl (some 259)))), (1, .inl (Int32.ofNat 0))] [] (km_H (kmj (km_n1 h it (v, vs)) it) 0 (kp_nx t n (kp_start t n e)) (kp_start t n e) (kp_tk t n (kp_start t n e)) (kp_vv t n (kp_start t n e) u2))
            refine kx_go 5 (pc' := 202) (L' := [(2, .inl (Int32.ofNat (kp_tv v))), (0, .inr (.inr (.inl (some 259)))), (1, .inl (Int32.ofNat 0))]) (S' := [.inl ((Int32.ofNat it) + (Int32.ofNat 1)), .inr (.inr (.inl (some 259)))]) (h' := (km_H (kmj (km_n1 h it (v, vs)) it) 0 (kp_nx t n (kp_start t n e)) (kp_start t n e) (kp_tk t n (kp_start t n e)) (kp_vv t n (kp_start t n e) u2))) (by with_unfolding_all rfl) ?_
            refine kx_go 1 (pc' := 205) (L' := [(2, .inl (Int32.ofNat (kp_tv v))), (0, .inr (.inr (.inl (some 259)))), (1, .inl (Int32.ofNat 0))]) (S' := []) (h' := kc_upd (km_H (kmj (km_n1 h it (v, vs)) it) 0 (kp_nx t n (kp_start t n e)) (kp_start t n e) (kp_tk t n (kp_start t n e)) (kp_vv t n (kp_start t n e) u2)) 259 13 (.inl (Int32.ofNat it + Int32.ofNat 1))) (by with_unfolding_all rfl) ?_
            rw [kx_inc1, kmj_13]
            have hD := km_D_n1 (h := h) (q := (v, vs)) hit (by show vs.length ≤ 4; rw [b3]; omega) hv16 hlt
            have hnt2 : km_n1 h it (v, vs) 260 (160 + 0) = .inl (Int32.ofNat n) := (km_D_n hD (by decide) (by decide)).trans hnt
            have ht2 : ∀ j, j < 240 → km_n1 h it (v, vs) 260 (170 + 240 * 0 + j) = .inl (Int32.ofNat (t j)) := fun j hj => (km_D_n hD (by decide) (by decide)).trans (ht j hj)
            refine kx_go 1 (pc' := 206) (L' := [(2, .inl (Int32.ofNat (kp_tv v))), (0, .inr (.inr (.inl (some 259)))), (1, .inl (Int32.ofNat 0))]) (S' := [.inr (.inr (.inl (some 259)))]) (h' := (km_H (kmj (km_n1 h it (v, vs)) (it + 1)) 0 (kp_nx t n (kp_start t n e)) (kp_start t n e) (kp_tk t n (kp_start t n e)) (kp_vv t n (kp_start t n e) u2))) (by with_unfolding_all rfl) ?_
            refine kc_call_rule (M2 := wk_m65) (av := [.inr (.inr (.inl (some 259)))]) (r := []) rfl rfl (kc_Con_le (km_scan hg hx hn ((kmj_o (by decide)).trans hnt2) (fun j hj => (kmj_o (by decide)).trans (ht2 j hj)) hb hnx2.2) (by omega)) (fun rv h' hq => ?_)
            obtain ⟨rfl, rfl⟩ := hq
            show kc_Ev g (d + 4) wk_m64 Q 209 [(2, .inl (Int32.ofNat (kp_tv v))), (0, .inr (.inr (.inl (some 259)))), (1, .inl (Int32.ofNat 0))] [] (km_H (kmj (km_n1 h it (v, vs)) (it + 1)) 0 (kp_nx t n (kp_start t n (kp_nx t n (kp_start t n e)))) (kp_start t n (kp_nx t n (kp_start t n e))) (kp_tk t n (kp_start t n (kp_nx t n (kp_start t n e)))) (kp_vv t n (kp_start t n (kp_nx t n (kp_start t n e))) (kp_vv t n (kp_start t n e) u2)))
            refine kx_go 1 (pc' := 19) (L' := [(2, .inl (Int32.ofNat (kp_tv v))), (0, .inr (.inr (.inl (some 259)))), (1, .inl (Int32.ofNat 0))]) (S' := []) (h' := (km_H (kmj (km_n1 h it (v, vs)) (it + 1)) 0 (kp_nx t n (kp_start t n (kp_nx t n (kp_start t n e)))) (kp_start t n (kp_nx t n (kp_start t n e))) (kp_tk t n (kp_start t n (kp_nx t n (kp_start t n e)))) (kp_vv t n (kp_start t n (kp_nx t n (kp_start t n e))) (kp_vv t n (kp_start t n e) u2)))) (by with_unfolding_all rfl) ?_
            refine kf_lo (L := [(0, .inr (.inr (.inl (some 259)))), (1, .inl (Int32.ofNat 0))]) ?_ (ih (it + 1) (km_n1 h it (v, vs)) _ _ (by omega) (by simp only at c1; omega) hnx2.2 hvv2 hnt2 ht2 (fun l hl a2 s2 k2 u3 hb3 => ?_) (fun hl h2 it2 a2 s2 k2 u3 hh a1 hb3 => ?_))
            · intro q hq
              simp only [List.mem_cons, List.not_mem_nil, or_false] at hq
              rcases hq with rfl | rfl <;> rfl
            · have := hok ((v, vs) :: l) (by unfold kp_its; rw [if_neg hkd0, hitem]; simp only; rw [hl]) a2 s2 k2 u3 hb3
              rw [show it + 1 + l.length = it + ((v, vs) :: l).length from by rw [List.length_cons]; omega]
              exact this
            · exact hbad (by unfold kp_its; rw [if_neg hkd0, hitem]; simp only; rw [hl]) h2 it2 a2 s2 k2 u3 (km_D_tr hD hh) a1 hb3
          · rw [if_neg (fun w => e3 ((kx_eq (by omega) (by omega)).mp w))]
            refine kx_go 1 (pc' := 184) (L' := [(2, .inl (Int32.ofNat (kp_tv v))), (0, .inr (.inr (.inl (some 259)))), (1, .inl (Int32.ofNat 0))]) (S' := [.inl (Int32.ofNat 0)]) (h' := (km_H (kmj (km_nw h it 0 vs) it) 0 (kp_nx t n (kp_start t n e)) (kp_start t n e) (kp_tk t n (kp_start t n e)) (kp_vv t n (kp_start t n e) u2))) (by with_unfolding_all rfl) ?_
            exact kc_ret_ok rfl (rv := some (.inl (Int32.ofNat 0))) rfl (hbad (by unfold kp_its; rw [if_neg hkd0]; unfold kp_item; rw [hvb]; simp only; rw [hev]; simp only; rw [if_neg (fun w => e3 (r3.mp w))]) _ it _ _ _ _ hDw (by omega) ⟨hst2.2, hnx2.2, rlt, hvv2⟩)
        · exact hbad (by unfold kp_its; rw [if_neg hkd0]; unfold kp_item; rw [hvb]; simp only; rw [hev]) h2 it a2 s2 k2 u2 hh (by omega) hb2
set_option maxRecDepth 20000 in
theorem km_rdl1 {g : kc_G} {d : Nat} {Q : Option kc_V → kc_H → Prop} {n : Nat} {t : Nat → Nat} (hg : kc_ok g) (hn : n ≤ 240) (hb : ∀ j, j < 240 → t j < 256) : ∀ (u it : Nat) (h : kc_H) (p u0 : Nat), 61 - it = u → 4 * it ≤ p → p ≤ n → u0 < 1000 → h 260 (160 + 1) = .inl (Int32.ofNat n) → (∀ j, j < 240 → h 260 (170 + 240 * 1 + j) = .inl (Int32.ofNat (t j))) →
    (∀ l, kp_its t n 7 9 u p = some l → ∀ a2 s2 k2 u2, (s2 ≤ n ∧ a2 ≤ n ∧ k2 < 27 ∧ u2 < 1000) → Q (some (.inl (Int32.ofNat 1))) (km_H (kmj (km_ns h it l) (it + l.length)) 1 a2 s2 k2 u2)) →
    (kp_its t n 7 9 u p = none → ∀ (h2 : kc_H) (it2 a2 s2 k2 u2 : Nat), km_D h h2 → it2 ≤ 60 → (s2 ≤ n ∧ a2 ≤ n ∧ k2 < 27 ∧ u2 < 1000) → Q (some (.inl (Int32.ofNat 0))) (km_H (kmj h2 it2) 1 a2 s2 k2 u2)) → kc_Ev g (d + 4) wk_m64 Q 19 [(0, .inr (.inr (.inl (some 259)))), (1, .inl (Int32.ofNat 1))] [] (km_H (kmj h it) 1 (kp_nx t n (kp_start t n p)) (kp_start t n p) (kp_tk t n (kp_start t n p)) (kp_vv t n (kp_start t n p) u0)) := by
  have hx : 1 < 2 := by decide
  intro u
  induction u with
  | zero =>
    intro it h p u0 hu h4 hp hu0 hnt ht hok hbad
    omega
  | succ u ih =>
    intro it h p u0 hu h4 hp hu0 hnt ht hok hbad
    have hst := kp_start_le (t := t) hp
    have hnx := kp_nx_le (t := t) hst.2
    obtain ⟨q0, q2, q3, qlt⟩ := kq_k (t := t) (n := n) (S := kp_start t n p)
    have hvv := kp_vv_lt (t := t) (n := n) (S := kp_start t n p) hu0
    refine kx_go 3 (pc' := (if kc_cnd .eq (Int32.ofNat (kp_tk t n (kp_start t n p))).toInt 0 then 212 else 26)) (L' := [(0, .inr (.inr (.inl (some 259)))), (1, .inl (Int32.ofNat 1))]) (S' := []) (h' := (km_H (kmj h it) 1 (kp_nx t n (kp_start t n p)) (kp_start t n p) (kp_tk t n (kp_start t n p)) (kp_vv t n (kp_start t n p) u0))) (by with_unfolding_all rfl) ?_
    by_cases e0 : kp_tk t n (kp_start t n p) = 0
    · rw [if_pos (by rw [e0]; decide)]
      refine kx_go 1 (pc' := 213) (L' := [(0, .inr (.inr (.inl (some 259)))), (1, .inl (Int32.ofNat 1))]) (S' := [.inl (Int32.ofNat 1)]) (h' := (km_H (kmj h it) 1 (kp_nx t n (kp_start t n p)) (kp_start t n p) (kp_tk t n (kp_start t n p)) (kp_vv t n (kp_start t n p) u0))) (by with_unfolding_all rfl) ?_
      exact kc_ret_ok rfl (rv := some (.inl (Int32.ofNat 1))) rfl (hok [] (by unfold kp_its; rw [if_pos (q0.mpr e0)]) _ _ _ _ ⟨hst.2, hnx.2, qlt, hvv⟩)
    · have hkd0 : ¬ kp_kd t n (kp_start t n p) = 0 := fun e => e0 (q0.mp e)
      have hit : it < 60 := by
        have : ¬ n ≤ kp_start t n p := fun q => hkd0 (if_pos q)
        omega
      rw [if_neg (fun w => by unfold kc_cnd at w; rw [kx_ti (by omega)] at w; simp only [decide_eq_true_eq] at w; omega)]
      refine kx_go 9 (pc' := 60) (L' := [(2, .inl (Int32.ofNat (kp_tk t n (kp_start t n p)))), (0, .inr (.inr (.inl (some 259)))), (1, .inl (Int32.ofNat 1))]) (S' := [.inr (.inl (Int64.ofNat 26)), .inr (.inl (Int64.ofNat 20)), .inr (.inl ((Int32.ofNat (kp_tk t n (kp_start t n p))).toInt64))]) (h' := (km_H (kmj h it) 1 (kp_nx t n (kp_start t n p)) (kp_start t n p) (kp_tk t n (kp_start t n p)) (kp_vv t n (kp_start t n p) u0))) (by with_unfolding_all rfl) ?_
      rw [kx_i2l (by omega)]
      refine kc_call_rule (M2 := wk_m22) (av := [.inr (.inl (Int64.ofNat (kp_tk t n (kp_start t n p)))), .inr (.inl (Int64.ofNat 20)), .inr (.inl (Int64.ofNat 26))]) (r := []) rfl rfl (kc_Con_le (km_lies hg (by omega) (by omega) (by omega)) (by omega)) (fun rv h' hq => ?_)
      obtain ⟨rfl, rfl⟩ := hq
      show kc_Ev g (d + 4) wk_m64 Q 63 [(2, .inl (Int32.ofNat (kp_tk t n (kp_start t n p)))), (0, .inr (.inr (.inl (some 259)))), (1, .inl (Int32.ofNat 1))] [.inl (kp_b (decide (20 ≤ kp_tk t n (kp_start t n p) ∧ kp_tk t n (kp_start t n p) ≤ 26)))] (km_H (kmj h it) 1 (kp_nx t n (kp_start t n p)) (kp_start t n p) (kp_tk t n (kp_start t n p)) (kp_vv t n (kp_start t n p) u0))
      refine kx_go 1 (pc' := (if kc_cnd .ne (kp_b (decide (20 ≤ kp_tk t n (kp_start t n p) ∧ kp_tk t n (kp_start t n p) ≤ 26))).toInt 0 then 68 else 66)) (L' := [(2, .inl (Int32.ofNat (kp_tk t n (kp_start t n p)))), (0, .inr (.inr (.inl (some 259)))), (1, .inl (Int32.ofNat 1))]) (S' := []) (h' := (km_H (kmj h it) 1 (kp_nx t n (kp_start t n p)) (kp_start t n p) (kp_tk t n (kp_start t n p)) (kp_vv t n (kp_start t n p) u0))) (by with_unfolding_all rfl) ?_
      have hvb := kq_t1 (t := t) (n := n) (S := kp_start t n p)
      cases e1 : decide (20 ≤ kp_tk t n (kp_start t n p) ∧ kp_tk t n (kp_start t n p) ≤ 26) with
      | false =>
        rw [if_neg (fun w => by have := kx_b1.mp w; cases this)]
        rw [if_neg (of_decide_eq_false e1)] at hvb
        refine kx_go 1 (pc' := 67) (L' := [(2, .inl (Int32.ofNat (kp_tk t n (kp_start t n p)))), (0, .inr (.inr (.inl (some 259)))), (1, .inl (Int32.ofNat 1))]) (S' := [.inl (Int32.ofNat 0)]) (h' := (km_H (kmj h it) 1 (kp_nx t n (kp_start t n p)) (kp_start t n p) (kp_tk t n (kp_start t n p)) (kp_vv t n (kp_start t n p) u0))) (by with_unfolding_all rfl) ?_
        exact kc_ret_ok rfl (rv := some (.inl (Int32.ofNat 0))) rfl (hbad (by unfold kp_its; rw [if_neg hkd0]; unfold kp_item; rw [hvb]) h it _ _ _ _ km_D_rf (by omega) ⟨hst.2, hnx.2, qlt, hvv⟩)
      | true =>
        rw [if_pos (kx_b1.mpr rfl)]
        have e1 := of_decide_eq_true e1
        rw [if_pos e1] at hvb
        obtain ⟨v, hv⟩ : ∃ v, v = kp_tk t n (kp_start t n p) - 11 := ⟨_, rfl⟩
        rw [← hv] at hvb
        have etv : kp_tk t n (kp_start t n p) = kp_tv v := by
          unfold kp_tv
          split <;> omega
        have hv16 : v < 16 := by omega
        obtain ⟨hi, hi4⟩ := kr_shl v hv16
        refine kf_lo (L := [(2, .inl (Int32.ofNat (kp_tv v))), (0, .inr (.inr (.inl (some 259)))), (1, .inl (Int32.ofNat 1))]) ?_ ?_
        · intro q hq
          simp only [List.mem_cons, List.not_mem_nil, or_false] at hq
          rcases hq with rfl | rfl | rfl
          · show some (Sum.inl (Int32.ofNat (kp_tk t n (kp_start t n p)))) = some (Sum.inl (Int32.ofNat (kp_tv v)))
            rw [etv]
          · rfl
          · rfl
        refine kx_go 1 (pc' := 69) (L' := [(2, .inl (Int32.ofNat (kp_tv v))), (0, .inr (.inr (.inl (some 259)))), (1, .inl (Int32.ofNat 1))]) (S' := [.inr (.inr (.inl (some 259)))]) (h' := (km_H (kmj h it) 1 (kp_nx t n (kp_start t n p)) (kp_start t n p) (kp_tk t n (kp_start t n p)) (kp_vv t n (kp_start t n p) u0))) (by with_unfolding_all rfl) ?_
        refine kc_call_rule (M2 := wk_m65) (av := [.inr (.inr (.inl (some 259)))]) (r := []) rfl rfl (kc_Con_le (km_scan hg hx hn ((kmj_o (by decide)).trans hnt) (fun j hj => (kmj_o (by decide)).trans (ht j hj)) hb hnx.2) (by omega)) (fun rv h' hq => ?_)
        obtain ⟨rfl, rfl⟩ := hq
        show kc_Ev g (d + 4) wk_m64 Q 72 [(2, .inl (Int32.ofNat (kp_tv v))), (0, .inr (.inr (.inl (some 259)))), (1, .inl (Int32.ofNat 1))] [] (km_H (kmj h it) 1 (kp_nx t n (kp_start t n (kp_nx t n (kp_start t n p)))) (kp_start t n (kp_nx t n (kp_start t n p))) (kp_tk t n (kp_start t n (kp_nx t n (kp_start t n p)))) (kp_vv t n (kp_start t n (kp_nx t n (kp_start t n p))) (kp_vv t n (kp_start t n p) u0)))
        refine kx_go 2 (pc' := 74) (L' := [(3, .inl (Int32.ofNat 0)), (2, .inl (Int32.ofNat (kp_tv v))), (0, .inr (.inr (.inl (some 259)))), (1, .inl (Int32.ofNat 1))]) (S' := []) (h' := (km_H (kmj h it) 1 (kp_nx t n (kp_start t n (kp_nx t n (kp_start t n p)))) (kp_start t n (kp_nx t n (kp_start t n p))) (kp_tk t n (kp_start t n (kp_nx t n (kp_start t n p)))) (kp_vv t n (kp_start t n (kp_nx t n (kp_start t n p))) (kp_vv t n (kp_start t n p) u0)))) (by with_unfolding_all rfl) ?_
        refine km_arl (d := d) hg hx hn hb hv16 hit (ks_L (kp_sh v)) 0 h _ _ rfl (Nat.zero_le _) hnt ht hnx.2 hvv (fun vs e hev u2 hu2 => ?_) (fun hev h2 a2 s2 k2 u2 hh hb2 => ?_)
        · obtain ⟨b1, b2, b3⟩ := kp_ar_le _ _ _ _ _ hnx.2 hev
          have hlt := kp_ar_lt _ _ _ _ _ hev
          have hst2 := kp_start_le (t := t) b2
          have hnx2 := kp_nx_le (t := t) hst2.2
          obtain ⟨r0, r2, r3, rlt⟩ := kq_k (t := t) (n := n) (S := kp_start t n e)
          have hvv2 := kp_vv_lt (t := t) (n := n) (S := kp_start t n e) hu2
          have hDw := km_D_nw hit vs h 0 (by rw [b3]; omega) hlt
          refine kx_go 4 (pc' := (if kc_cnd .eq (Int32.ofNat (kp_tk t n (kp_start t n e))).toInt (Int32.ofNat 3).toInt then 185 else 183)) (L' := [(2, .inl (Int32.ofNat (kp_tv v))), (0, .inr (.inr (.inl (some 259)))), (1, .inl (Int32.ofNat 1))]) (S' := []) (h' := (km_H (kmj (km_nw h it 0 vs) it) 1 (kp_nx t n (kp_start t n e)) (kp_start t n e) (kp_tk t n (kp_start t n e)) (kp_vv t n (kp_start t n e) u2))) (by with_unfolding_all rfl) ?_
          by_cases e3 : kp_tk t n (kp_start t n e) = 3
          · rw [if_pos ((kx_eq (by omega) (by omega)).mpr e3)]
            have hitem : kp_item t n 7 9 (kp_nx t n (kp_start t n p)) (kp_kd t n (kp_start t n p)) (kp_start t n p) = some ((v, vs), kp_nx t n (kp_start t n e)) := by
              unfold kp_item
              rw [hvb]
              simp only
              rw [hev]
              simp only
              rw [if_pos (r3.mpr e3)]
            obtain ⟨c1, c2, c3, c4, c5, c6⟩ := kp_item_le (by omega) hnx.1 hnx.2 hitem
            refine kx_go 5 (pc' := 194) (L' := [(2, .inl (Int32.ofNat (kp_tv v))), (0, .inr (.inr (.inl (some 259)))), (1, .inl (Int32.ofNat 1))]) (S' := [.inl (Int32.ofNat (kp_tv v)), .inl (Int32.ofNat it), .inr (.inr (.inl (some 264)))]) (h' := (km_H (kmj (km_nw h it 0 vs) it) 1 (kp_nx t n (kp_start t n e)) (kp_start t n e) (kp_tk t n (kp_start t n e)) (kp_vv t n (kp_start t n e) u2))) (by with_unfolding_all rfl) ?_
            refine kx_iast rfl (c := 264) (j := it) (m := 240) rfl (by decide) (by decide) (by omega) ?_
            rw [kmj_u (by decide)]
            show kc_Ev g (d + 4) wk_m64 Q 195 [(2, .inl (Int32.ofNat (kp_tv v))), (0, .inr (.inr (.inl (some 259)))), (1, .inl (Int32.ofNat 1))] [] (km_H (kmj (km_n1 h it (v, vs)) it) 1 (kp_nx t n (kp_start t n e)) (kp_start t n e) (kp_tk t n (kp_start t n e)) (kp_vv t n (kp_start t n e) u2))
            refine kx_go 5 (pc' := 202) (L' := [(2, .inl (Int32.ofNat (kp_tv v))), (0, .inr (.inr (.inl (some 259)))), (1, .inl (Int32.ofNat 1))]) (S' := [.inl ((Int32.ofNat it) + (Int32.ofNat 1)), .inr (.inr (.inl (some 259)))]) (h' := (km_H (kmj (km_n1 h it (v, vs)) it) 1 (kp_nx t n (kp_start t n e)) (kp_start t n e) (kp_tk t n (kp_start t n e)) (kp_vv t n (kp_start t n e) u2))) (by with_unfolding_all rfl) ?_
            refine kx_go 1 (pc' := 205) (L' := [(2, .inl (Int32.ofNat (kp_tv v))), (0, .inr (.inr (.inl (some 259)))), (1, .inl (Int32.ofNat 1))]) (S' := []) (h' := kc_upd (km_H (kmj (km_n1 h it (v, vs)) it) 1 (kp_nx t n (kp_start t n e)) (kp_start t n e) (kp_tk t n (kp_start t n e)) (kp_vv t n (kp_start t n e) u2)) 259 13 (.inl (Int32.ofNat it + Int32.ofNat 1))) (by with_unfolding_all rfl) ?_
            rw [kx_inc1, kmj_13]
            have hD := km_D_n1 (h := h) (q := (v, vs)) hit (by show vs.length ≤ 4; rw [b3]; omega) hv16 hlt
            have hnt2 : km_n1 h it (v, vs) 260 (160 + 1) = .inl (Int32.ofNat n) := (km_D_n hD (by decide) (by decide)).trans hnt
            have ht2 : ∀ j, j < 240 → km_n1 h it (v, vs) 260 (170 + 240 * 1 + j) = .inl (Int32.ofNat (t j)) := fun j hj => (km_D_n hD (by decide) (by decide)).trans (ht j hj)
            refine kx_go 1 (pc' := 206) (L' := [(2, .inl (Int32.ofNat (kp_tv v))), (0, .inr (.inr (.inl (some 259)))), (1, .inl (Int32.ofNat 1))]) (S' := [.inr (.inr (.inl (some 259)))]) (h' := (km_H (kmj (km_n1 h it (v, vs)) (it + 1)) 1 (kp_nx t n (kp_start t n e)) (kp_start t n e) (kp_tk t n (kp_start t n e)) (kp_vv t n (kp_start t n e) u2))) (by with_unfolding_all rfl) ?_
            refine kc_call_rule (M2 := wk_m65) (av := [.inr (.inr (.inl (some 259)))]) (r := []) rfl rfl (kc_Con_le (km_scan hg hx hn ((kmj_o (by decide)).trans hnt2) (fun j hj => (kmj_o (by decide)).trans (ht2 j hj)) hb hnx2.2) (by omega)) (fun rv h' hq => ?_)
            obtain ⟨rfl, rfl⟩ := hq
            show kc_Ev g (d + 4) wk_m64 Q 209 [(2, .inl (Int32.ofNat (kp_tv v))), (0, .inr (.inr (.inl (some 259)))), (1, .inl (Int32.ofNat 1))] [] (km_H (kmj (km_n1 h it (v, vs)) (it + 1)) 1 (kp_nx t n (kp_start t n (kp_nx t n (kp_start t n e)))) (kp_start t n (kp_nx t n (kp_start t n e))) (kp_tk t n (kp_start t n (kp_nx t n (kp_start t n e)))) (kp_vv t n (kp_start t n (kp_nx t n (kp_start t n e))) (kp_vv t n (kp_start t n e) u2)))
            refine kx_go 1 (pc' := 19) (L' := [(2, .inl (Int32.ofNat (kp_tv v))), (0, .inr (.inr (.inl (some 259)))), (1, .inl (Int32.ofNat 1))]) (S' := []) (h' := (km_H (kmj (km_n1 h it (v, vs)) (it + 1)) 1 (kp_nx t n (kp_start t n (kp_nx t n (kp_start t n e)))) (kp_start t n (kp_nx t n (kp_start t n e))) (kp_tk t n (kp_start t n (kp_nx t n (kp_start t n e)))) (kp_vv t n (kp_start t n (kp_nx t n (kp_start t n e))) (kp_vv t n (kp_start t n e) u2)))) (by with_unfolding_all rfl) ?_
            refine kf_lo (L := [(0, .inr (.inr (.inl (some 259)))), (1, .inl (Int32.ofNat 1))]) ?_ (ih (it + 1) (km_n1 h it (v, vs)) _ _ (by omega) (by simp only at c1; omega) hnx2.2 hvv2 hnt2 ht2 (fun l hl a2 s2 k2 u3 hb3 => ?_) (fun hl h2 it2 a2 s2 k2 u3 hh a1 hb3 => ?_))
            · intro q hq
              simp only [List.mem_cons, List.not_mem_nil, or_false] at hq
              rcases hq with rfl | rfl <;> rfl
            · have := hok ((v, vs) :: l) (by unfold kp_its; rw [if_neg hkd0, hitem]; simp only; rw [hl]) a2 s2 k2 u3 hb3
              rw [show it + 1 + l.length = it + ((v, vs) :: l).length from by rw [List.length_cons]; omega]
              exact this
            · exact hbad (by unfold kp_its; rw [if_neg hkd0, hitem]; simp only; rw [hl]) h2 it2 a2 s2 k2 u3 (km_D_tr hD hh) a1 hb3
          · rw [if_neg (fun w => e3 ((kx_eq (by omega) (by omega)).mp w))]
            refine kx_go 1 (pc' := 184) (L' := [(2, .inl (Int32.ofNat (kp_tv v))), (0, .inr (.inr (.inl (some 259)))), (1, .inl (Int32.ofNat 1))]) (S' := [.inl (Int32.ofNat 0)]) (h' := (km_H (kmj (km_nw h it 0 vs) it) 1 (kp_nx t n (kp_start t n e)) (kp_start t n e) (kp_tk t n (kp_start t n e)) (kp_vv t n (kp_start t n e) u2))) (by with_unfolding_all rfl) ?_
            exact kc_ret_ok rfl (rv := some (.inl (Int32.ofNat 0))) rfl (hbad (by unfold kp_its; rw [if_neg hkd0]; unfold kp_item; rw [hvb]; simp only; rw [hev]; simp only; rw [if_neg (fun w => e3 (r3.mp w))]) _ it _ _ _ _ hDw (by omega) ⟨hst2.2, hnx2.2, rlt, hvv2⟩)
        · exact hbad (by unfold kp_its; rw [if_neg hkd0]; unfold kp_item; rw [hvb]; simp only; rw [hev]) h2 it a2 s2 k2 u2 hh (by omega) hb2
end
section
-- 86.z5
/-! ===== by hand: the reference's reads ===== -/
theorem km_beg {h : kc_H} {x s0 k0 v0 : Nat} (h0 : h 259 0 = .inr (.inr (.inl (some 260)))) (h8 : h 259 8 = .inl (Int32.ofNat s0)) (h9 : h 259 9 = .inl (Int32.ofNat k0)) (h10 : h 259 10 = .inl (Int32.ofNat v0)) (h11 : h 259 11 = .inr (.inr (.inl (some 264)))) (h12 : h 259 12 = .inr (.inr (.inl (some 265)))) : kc_upd (kc_upd (kc_upd h 259 6 (.inl (Int32.ofNat x))) 259 7 (.inl (Int32.ofNat 0))) 259 13 (.inl (Int32.ofNat 0)) = km_H (kmj h 0) x 0 s0 k0 v0 := by
  funext a b
  unfold kc_upd km_H kmj
  by_cases ha : a = 259
  · subst ha
    by_cases b6 : b = 6
    · subst b6; simp
    · by_cases b7 : b = 7
      · subst b7; simp
      · by_cases b13 : b = 13
        · subst b13; simp
        · by_cases c0 : b = 0
          · subst c0; simp [h0]
          · by_cases c8 : b = 8
            · subst c8; simp [h8]
            · by_cases c9 : b = 9
              · subst c9; simp [h9]
              · by_cases c10 : b = 10
                · subst c10; simp [h10]
                · by_cases c11 : b = 11
                  · subst c11; simp [h11]
                  · by_cases c12 : b = 12
                    · subst c12; simp [h12]
                    · simp [b6, b7, b13, c0, c8, c9, c10, c11, c12]
  · simp [ha]
/-- what reads leaves behind -/
def km_Qr (t : Nat → Nat) (n x m f : Nat) (h : kc_H) : Option kc_V → kc_H → Prop := fun rv h' => match kp_its t n m f 61 0 with
  | some l => ∃ a2 s2 k2 u2 : Nat, rv = some (.inl (Int32.ofNat 1)) ∧ (s2 ≤ n ∧ a2 ≤ n ∧ k2 < 27 ∧ u2 < 1000) ∧ h' = km_H (kmj (km_ns h 0 l) l.length) x a2 s2 k2 u2
  | none => ∃ (h2 : kc_H) (it2 a2 s2 k2 u2 : Nat), rv = some (.inl (Int32.ofNat 0)) ∧ (km_D h h2 ∧ it2 ≤ 60 ∧ (s2 ≤ n ∧ a2 ≤ n ∧ k2 < 27 ∧ u2 < 1000)) ∧ h' = km_H (kmj h2 it2) x a2 s2 k2 u2
set_option maxRecDepth 20000 in
theorem km_reads0 {g : kc_G} {d n s0 k0 v0 : Nat} {t : Nat → Nat} {h : kc_H} (hg : kc_ok g) (hn : n ≤ 240) (hb : ∀ j, j < 240 → t j < 256) (hnt : h 260 (160 + 0) = .inl (Int32.ofNat n)) (ht : ∀ j, j < 240 → h 260 (170 + 240 * 0 + j) = .inl (Int32.ofNat (t j))) (hv0 : v0 < 1000) (h0 : h 259 0 = .inr (.inr (.inl (some 260)))) (h8 : h 259 8 = .inl (Int32.ofNat s0)) (h9 : h 259 9 = .inl (Int32.ofNat k0)) (h10 : h 259 10 = .inl (Int32.ofNat v0)) (h11 : h 259 11 = .inr (.inr (.inl (some 264)))) (h12 : h 259 12 = .inr (.inr (.inl (some 265)))) : kc_Con g (d + 5) 64 [.inr (.inr (.inl (some 259))), .inl (Int32.ofNat 0)] h (km_Qr t n 0 9 0 h) := by
  have hx : 0 < 2 := by decide
  refine kc_Con_new hg (M := wk_m64) rfl rfl rfl (show 2 ≤ 5 by decide) ?_
  refine kx_go 10 (pc' := 16) (L' := [(0, .inr (.inr (.inl (some 259)))), (1, .inl (Int32.ofNat 0))]) (S' := [.inr (.inr (.inl (some 259)))]) (h' := kc_upd (kc_upd (kc_upd h 259 6 (.inl (Int32.ofNat 0))) 259 7 (.inl (Int32.ofNat 0))) 259 13 (.inl (Int32.ofNat 0))) (by with_unfolding_all rfl) ?_
  rw [km_beg h0 h8 h9 h10 h11 h12]
  refine kc_call_rule (M2 := wk_m65) (av := [.inr (.inr (.inl (some 259)))]) (r := []) rfl rfl (kc_Con_le (km_scan hg hx hn ((kmj_o (by decide)).trans hnt) (fun j hj => (kmj_o (by decide)).trans (ht j hj)) hb (Nat.zero_le _)) (by omega)) (fun rv h' hq => ?_)
  obtain ⟨rfl, rfl⟩ := hq
  refine km_rdl0 (d := d) hg hn hb 61 0 h 0 v0 rfl (by omega) (by omega) hv0 hnt ht (fun l hl a2 s2 k2 u2 hb2 => ?_) (fun hl h2 it2 a2 s2 k2 u2 b1 b2 b3 => ?_)
  · unfold km_Qr
    rw [hl, Nat.zero_add]
    exact ⟨a2, s2, k2, u2, rfl, hb2, rfl⟩
  · unfold km_Qr
    rw [hl]
    exact ⟨h2, it2, a2, s2, k2, u2, rfl, ⟨b1, b2, b3⟩, rfl⟩
set_option maxRecDepth 20000 in
theorem km_reads1 {g : kc_G} {d n s0 k0 v0 : Nat} {t : Nat → Nat} {h : kc_H} (hg : kc_ok g) (hn : n ≤ 240) (hb : ∀ j, j < 240 → t j < 256) (hnt : h 260 (160 + 1) = .inl (Int32.ofNat n)) (ht : ∀ j, j < 240 → h 260 (170 + 240 * 1 + j) = .inl (Int32.ofNat (t j))) (hv0 : v0 < 1000) (h0 : h 259 0 = .inr (.inr (.inl (some 260)))) (h8 : h 259 8 = .inl (Int32.ofNat s0)) (h9 : h 259 9 = .inl (Int32.ofNat k0)) (h10 : h 259 10 = .inl (Int32.ofNat v0)) (h11 : h 259 11 = .inr (.inr (.inl (some 264)))) (h12 : h 259 12 = .inr (.inr (.inl (some 265)))) : kc_Con g (d + 5) 64 [.inr (.inr (.inl (some 259))), .inl (Int32.ofNat 1)] h (km_Qr t n 1 7 9 h) := by
  have hx : 1 < 2 := by decide
  refine kc_Con_new hg (M := wk_m64) rfl rfl rfl (show 2 ≤ 5 by decide) ?_
  refine kx_go 10 (pc' := 16) (L' := [(0, .inr (.inr (.inl (some 259)))), (1, .inl (Int32.ofNat 1))]) (S' := [.inr (.inr (.inl (some 259)))]) (h' := kc_upd (kc_upd (kc_upd h 259 6 (.inl (Int32.ofNat 1))) 259 7 (.inl (Int32.ofNat 0))) 259 13 (.inl (Int32.ofNat 0))) (by with_unfolding_all rfl) ?_
  rw [km_beg h0 h8 h9 h10 h11 h12]
  refine kc_call_rule (M2 := wk_m65) (av := [.inr (.inr (.inl (some 259)))]) (r := []) rfl rfl (kc_Con_le (km_scan hg hx hn ((kmj_o (by decide)).trans hnt) (fun j hj => (kmj_o (by decide)).trans (ht j hj)) hb (Nat.zero_le _)) (by omega)) (fun rv h' hq => ?_)
  obtain ⟨rfl, rfl⟩ := hq
  refine km_rdl1 (d := d) hg hn hb 61 0 h 0 v0 rfl (by omega) (by omega) hv0 hnt ht (fun l hl a2 s2 k2 u2 hb2 => ?_) (fun hl h2 it2 a2 s2 k2 u2 b1 b2 b3 => ?_)
  · unfold km_Qr
    rw [hl, Nat.zero_add]
    exact ⟨a2, s2, k2, u2, rfl, hb2, rfl⟩
  · unfold km_Qr
    rw [hl]
    exact ⟨h2, it2, a2, s2, k2, u2, rfl, ⟨b1, b2, b3⟩, rfl⟩
/-! what the kinds say -/
theorem kx_nb {v : Nat} (hv : v < 2147483648) : kd_nb (Int32.ofNat v) = 2147483648 + v := by
  unfold kd_nb
  rw [kx_ti hv]
  omega
theorem kx_ofg {x : kc_V} {u : Nat} (hu : u < 2147483648) (hx : kd_g 0 (fun _ => 0) (0, 2147483648, 2147483648 + u) x) : ∃ v, v ≤ u ∧ x = .inl (Int32.ofNat v) := by
  obtain ⟨z, rfl, h1, h2⟩ := hx
  unfold kd_nb at h1 h2
  refine ⟨z.toInt.toNat, by omega, ?_⟩
  congr 1
  apply Int32.toInt_inj.mp
  rw [kx_ti (by omega)]
  omega
theorem kx_ofr {x : kc_V} {a : Nat} (hx : kd_g 0 (fun _ => 0) (3, a, a) x) : x = .inr (.inr (.inl (some a))) := by
  obtain ⟨c, rfl, h1, h2⟩ := hx
  obtain rfl : c = a := by omega
  rfl
theorem kx_gof {v u : Nat} (hu : u < 2147483648) (hv : v ≤ u) : kd_g 0 (fun _ => 0) (0, 2147483648, 2147483648 + u) (.inl (Int32.ofNat v)) := ⟨_, rfl, by rw [kx_nb (by omega)]; omega, by rw [kx_nb (by omega)]; omega⟩
end
section
-- 86.z6
/-! ===== read and reads as contracts ===== -/
def kp_okI (q : Nat × List Nat) : Prop := q.1 < 16 ∧ q.2.length ≤ 4 ∧ ∀ v ∈ q.2, v < 1000
theorem kp_its_ok {t : Nat → Nat} {n m f : Nat} (hn : n ≤ 240) (hf : f + m ≤ 16) : ∀ (u it p : Nat) (l : List (Nat × List Nat)), 4 * it ≤ p → p ≤ n → kp_its t n m f u p = some l → (∀ q ∈ l, kp_okI q ∧ f ≤ q.1 ∧ q.1 < f + m ∧ q.2.length = ks_L (kp_sh q.1)) ∧ it + l.length ≤ 60
  | 0, it, p, l, h4, hp, h => by
    cases h
    exact ⟨fun q hq => (by cases hq), by show it + 0 ≤ 60; omega⟩
  | u + 1, it, p, l, h4, hp, h => by
    have hst := kp_start_le (t := t) hp
    have hnx := kp_nx_le (t := t) hst.2
    unfold kp_its at h
    split at h
    · cases h
      exact ⟨fun q hq => (by cases hq), by show it + 0 ≤ 60; omega⟩
    · cases h1 : kp_item t n m f (kp_nx t n (kp_start t n p)) (kp_kd t n (kp_start t n p)) (kp_start t n p) with
      | none => rw [h1] at h; cases h
      | some q =>
        rw [h1] at h
        simp only at h
        obtain ⟨c1, c2, c3, c4, c5, c6⟩ := kp_item_le hf hnx.1 hnx.2 h1
        cases h2 : kp_its t n m f u q.2 with
        | none => rw [h2] at h; cases h
        | some l2 =>
          rw [h2] at h
          cases h
          obtain ⟨d1, d2⟩ := kp_its_ok hn hf u (it + 1) q.2 l2 (by omega) c2 h2
          refine ⟨fun r hr => ?_, by rw [List.length_cons]; omega⟩
          rcases List.mem_cons.mp hr with rfl | hr
          · exact ⟨⟨by omega, by rw [c5]; exact (kr_shl _ (by omega)).2, c6⟩, c3, c4, c5⟩
          · exact d1 r hr
theorem kr_D_rf {h : kc_H} : kr_D h h := fun _ _ => Or.inl rfl
theorem kr_D_ws : ∀ (l : List (Nat × List Nat)) (h : kc_H) (it : Nat), it + l.length ≤ 60 → (∀ q ∈ l, kp_okI q) → kr_D h (kr_ws h it l)
  | [], h, it, _, _ => kr_D_rf
  | q :: l, h, it, hl, hq => by
    rw [List.length_cons] at hl
    obtain ⟨a1, a2, a3⟩ := hq q List.mem_cons_self
    exact kr_D_tr (kr_D_w1 (by omega) a2 a1 a3) (kr_D_ws l _ (it + 1) (by omega) (fun r hr => hq r (List.mem_cons_of_mem _ hr)))
theorem km_D_ns : ∀ (l : List (Nat × List Nat)) (h : kc_H) (it : Nat), it + l.length ≤ 60 → (∀ q ∈ l, kp_okI q) → km_D h (km_ns h it l)
  | [], h, it, _, _ => km_D_rf
  | q :: l, h, it, hl, hq => by
    rw [List.length_cons] at hl
    obtain ⟨a1, a2, a3⟩ := hq q List.mem_cons_self
    exact km_D_tr (km_D_n1 (by omega) a2 a1 a3) (km_D_ns l _ (it + 1) (by omega) (fun r hr => hq r (List.mem_cons_of_mem _ hr)))
theorem kr_k128 : ∀ b, b < 60 → kd_rn (kd_ty 128) b = some (0, 2147483648, 2147483648 + 15) := by decide +kernel
theorem kr_k130 : ∀ r, r < 60 → ∀ b, b < 4 → kd_rn (kd_ty (130 + r)) b = some (0, 2147483648, 2147483648 + 999) := by decide +kernel
theorem kr_k127 : kd_rn (kd_ty 127) 1 = some (0, 2147483648, 2147483648 + 60) ∧ kd_rn (kd_ty 127) 2 = some (3, 128, 128) ∧ kd_rn (kd_ty 127) 3 = some (3, 129, 129) ∧ kd_rn (kd_ty 127) 4 = some (3, 29, 30) ∧ kd_rn (kd_ty 127) 5 = some (0, 2147483648, 2147483648 + 240) ∧ kd_rn (kd_ty 127) 6 = some (0, 2147483648, 2147483648 + 240) ∧ kd_rn (kd_ty 127) 7 = some (0, 2147483648, 2147483648 + 4) ∧ kd_rn (kd_ty 127) 8 = some (0, 2147483648, 2147483648 + 240) ∧ kd_rn (kd_ty 127) 0 = some (3, 1, 1) := by decide +kernel
theorem kr_D_wt {h h2 : kc_H} (hw : kd_wt kd_ty h) (hD : kr_D h h2) : kd_wt kd_ty h2 := by
  intro a b v hv
  rcases hD a b with e | ⟨e1, e2, e3, x, e4, e5⟩ | ⟨e1, e3, x, e4, e5⟩
  · rw [e]; exact hw a b v hv
  · obtain ⟨r, rfl⟩ : ∃ r, a = 130 + r := ⟨a - 130, by omega⟩
    rw [kr_k130 r (by omega) b e3] at hv
    cases hv
    rw [e5]
    exact kx_gof (by omega) (by omega)
  · subst e1
    rw [kr_k128 b e3] at hv
    cases hv
    rw [e5]
    exact kx_gof (by omega) (by omega)
/-- the reader's heap keeps the kinds -/
theorem kr_H_wt {h : kc_H} {it c n p k s : Nat} (hw : kd_wt kd_ty h) (hc : c = 29 ∨ c = 30) (hit : it ≤ 60) (hn : n ≤ 240) (hp : p ≤ n) (hk : k < 5) (hs : s ≤ n) : kd_wt kd_ty (kr_H (kj h it) c n p k s) := by
  obtain ⟨t1, t2, t3, t4, t5, t6, t7, t8, -⟩ := kr_k127
  intro a b v hv
  unfold kr_H
  split
  · rename_i ha
    subst ha
    split
    · rename_i e; subst e; rw [t4] at hv; cases hv; exact ⟨c, rfl, by omega, by omega⟩
    · split
      · rename_i e; subst e; rw [t5] at hv; cases hv; exact kx_gof (by omega) (by omega)
      · split
        · rename_i e; subst e; rw [t6] at hv; cases hv; exact kx_gof (by omega) (by omega)
        · split
          · rename_i e; subst e; rw [t7] at hv; cases hv; exact kx_gof (by omega) (by omega)
          · split
            · rename_i e; subst e; rw [t8] at hv; cases hv; exact kx_gof (by omega) (by omega)
            · unfold kj
              rw [if_pos rfl]
              split
              · rename_i e; subst e; rw [t1] at hv; cases hv; exact kx_gof (by omega) (by omega)
              · split
                · rename_i e; subst e; rw [t2] at hv; cases hv; exact ⟨128, rfl, by omega, by omega⟩
                · split
                  · rename_i e; subst e; rw [t3] at hv; cases hv; exact ⟨129, rfl, by omega, by omega⟩
                  · exact hw 127 b v hv
  · rename_i ha
    rw [kj_o ha]
    exact hw a b v hv
def kr_W : kd_W := [(127, 127, 1, 1), (127, 127, 4, 8), (128, 128, 0, 59), (130, 189, 0, 3)]
theorem kd_inr_f {c c1 c2 i i1 i2 : Nat} (h : kd_inr c c1 c2 i i1 i2 = false) : ¬ (c1 ≤ c ∧ c ≤ c2 ∧ i1 ≤ i ∧ i ≤ i2) := by
  intro q
  unfold kd_inr at h
  rw [Nat.ble_eq_true_of_le q.1, Nat.ble_eq_true_of_le q.2.1, Nat.ble_eq_true_of_le q.2.2.1, Nat.ble_eq_true_of_le q.2.2.2] at h
  cases h
theorem kr_H_fr {h h2 : kc_H} {it c n p k s : Nat} (hw : kd_wt kd_ty h) (hD : kr_D h h2) : kd_fr kr_W h (kr_H (kj h2 it) c n p k s) := by
  intro a b hq
  have q1 := kd_inr_f (hq (127, 127, 1, 1) (by decide))
  have q2 := kd_inr_f (hq (127, 127, 4, 8) (by decide))
  have q3 := kd_inr_f (hq (128, 128, 0, 59) (by decide))
  have q4 := kd_inr_f (hq (130, 189, 0, 3) (by decide))
  simp only at q1 q2 q3 q4
  obtain ⟨t1, t2, t3, t4, t5, t6, t7, t8, -⟩ := kr_k127
  have e2 : h 127 2 = .inr (.inr (.inl (some 128))) := kx_ofr (hw _ _ _ t2)
  have e3 : h 127 3 = .inr (.inr (.inl (some 129))) := kx_ofr (hw _ _ _ t3)
  have hh : h2 a b = h a b := by
    rcases hD a b with e | ⟨a1, a2, a3, -⟩ | ⟨a1, a3, -⟩
    · exact e
    · exact absurd ⟨a1, by omega, by omega, by omega⟩ q4
    · exact absurd ⟨by omega, by omega, by omega, by omega⟩ q3
  unfold kr_H
  split
  · rename_i ha
    subst ha
    rw [if_neg (by omega), if_neg (by omega), if_neg (by omega), if_neg (by omega), if_neg (by omega)]
    unfold kj
    rw [if_pos rfl, if_neg (by omega)]
    split
    · rename_i e; subst e; exact e2.symm
    · split
      · rename_i e; subst e; exact e3.symm
      · exact hh
  · rename_i ha
    rw [kj_o ha]
    exact hh
theorem kr_k29 : ∀ j, j < 240 → kd_rn (kd_ty 29) j = some (0, 2147483648, 2147483648 + 255) ∧ kd_rn (kd_ty 30) j = some (0, 2147483648, 2147483648 + 255) := by decide +kernel
theorem kr_k129 : ∀ j, j < 60 → kd_rn (kd_ty 129) j = some (3, 130 + j, 130 + j) := by decide +kernel
theorem kr_k1 : kd_rn (kd_ty 1) 11 = some (3, 28, 28) ∧ kd_rn (kd_ty 1) 12 = some (3, 31, 31) ∧ kd_rn (kd_ty 28) 0 = some (3, 29, 29) ∧ kd_rn (kd_ty 28) 1 = some (3, 30, 30) ∧ kd_rn (kd_ty 31) 0 = some (0, 2147483648, 2147483648 + 240) ∧ kd_rn (kd_ty 31) 1 = some (0, 2147483648, 2147483648 + 240) := by decide +kernel
/-- a text of the class -/
theorem kr_tx {h : kc_H} (hw : kd_wt kd_ty h) {c : Nat} (hc : c = 29 ∨ c = 30) : ∃ t : Nat → Nat, (∀ j, j < 240 → t j < 256) ∧ ∀ j, j < 240 → h c j = .inl (Int32.ofNat (t j)) := by
  have : ∀ j, ∃ v, j < 240 → v < 256 ∧ h c j = .inl (Int32.ofNat v) := fun j => by
    by_cases hj : j < 240
    · obtain ⟨k1, k2⟩ := kr_k29 j hj
      have hk : kd_rn (kd_ty c) j = some (0, 2147483648, 2147483648 + 255) := by rcases hc with rfl | rfl <;> assumption
      obtain ⟨v, h1, h2⟩ := kx_ofg (by omega) (hw c j _ hk)
      exact ⟨v, fun _ => ⟨by omega, h2⟩⟩
    · exact ⟨0, fun q => absurd q hj⟩
  obtain ⟨t, ht⟩ := Classical.axiomOfChoice this
  exact ⟨t, fun j hj => (ht j hj).1, fun j hj => (ht j hj).2⟩
def kd_T61 : kd_Tc := ([(3, 127, 127), (0, 2147483648, 2147483649)], [], [(some (0, 2147483647, 2147483888), [], kr_W)])
theorem kr_post {g : kc_G} {h : kc_H} {t : Nat → Nat} {c n m f : Nat} (hw : kd_wt kd_ty h) (hc : c = 29 ∨ c = 30) (hn : n ≤ 240) (hf : f + m ≤ 16) {rv : Option kc_V} {h' : kc_H} (hq : kr_Qr t c n m f h rv h') : ∃ p ∈ kd_T61.2.2, kd_rv 0 (fun _ => 0) p.1 rv ∧ kd_gF 0 (fun _ => 0) p.2.1 h' ∧ kd_wt kd_ty h' ∧ kd_fr p.2.2 h h' := by
  unfold kr_Qr at hq
  refine ⟨_, List.mem_cons_self, ?_⟩
  cases hl : kp_its t n m f 61 0 with
  | some l =>
    rw [hl] at hq
    obtain ⟨p2, k2, s2, rfl, ⟨b1, b2, b3⟩, rfl⟩ := hq
    obtain ⟨a1, a2⟩ := kp_its_ok hn hf 61 0 0 l (by omega) (by omega) hl
    have hD := kr_D_ws l h 0 a2 (fun q hq => (a1 q hq).1)
    exact ⟨⟨_, rfl, by decide, by decide⟩, fun q hq => (by cases hq), kr_H_wt (kr_D_wt hw hD) hc (by omega) hn b1 b2 b3, kr_H_fr hw hD⟩
  | none =>
    rw [hl] at hq
    obtain ⟨h2, it2, p2, k2, s2, rfl, ⟨b0, b1, b2, b3, b4⟩, rfl⟩ := hq
    exact ⟨⟨_, rfl, by rw [kx_nb (by omega)]; omega, by rw [kx_nb (by omega)]; omega⟩, fun q hq => (by cases hq), kr_H_wt (kr_D_wt hw b0) hc b1 hn b3 b4 b2, kr_H_fr hw b0⟩
theorem kd_h61 {g : kc_G} (hg : kc_ok g) : kd_hold g 8 kd_ty 61 kd_T61 := by
  intro xs h hw hv hF
  match xs, hv with
  | [], hv => exact hv.elim
  | [_], hv => exact hv.2.elim
  | _ :: _ :: _ :: _, hv => exact hv.2.2.elim
  | [x1, x2], hv =>
    obtain ⟨h1, h2, -⟩ := hv
    have h1 := kx_ofr h1
    subst h1
    obtain ⟨w, w1, rfl⟩ := kx_ofg (u := 1) (by omega) h2
    obtain ⟨t1, t2, t3, t4, t5, t6, t7, t8, t0⟩ := kr_k127
    obtain ⟨u1, u2, u3, u4, u5, u6⟩ := kr_k1
    obtain ⟨k0, -, e7⟩ := kx_ofg (by omega) (hw _ _ _ t7)
    obtain ⟨s0, -, e8⟩ := kx_ofg (by omega) (hw _ _ _ t8)
    have hrw : ∀ i, i < 60 → h 129 i = .inr (.inr (.inl (some (130 + i)))) := fun i hi => kx_ofr (hw _ _ _ (kr_k129 i hi))
    rcases (show w = 0 ∨ w = 1 by omega) with rfl | rfl
    · obtain ⟨t, hb, ht⟩ := kr_tx hw (Or.inl rfl)
      obtain ⟨n, hn, en⟩ := kx_ofg (by omega) (hw _ _ _ u5)
      exact kc_Con_mono (kr_read0 (d := 0) hg hn hb ht hrw (kx_ofr (hw _ _ _ t0)) (kx_ofr (hw _ _ _ u1)) (kx_ofr (hw _ _ _ u3)) (kx_ofr (hw _ _ _ u2)) en (kx_ofr (hw _ _ _ t2)) (kx_ofr (hw _ _ _ t3)) e7 e8) (fun rv h' hq => kr_post (g := g) hw (Or.inl rfl) hn (by omega) hq)
    · obtain ⟨t, hb, ht⟩ := kr_tx hw (Or.inr rfl)
      obtain ⟨n, hn, en⟩ := kx_ofg (by omega) (hw _ _ _ u6)
      exact kc_Con_mono (kr_read1 (d := 0) hg hn hb ht hrw (kx_ofr (hw _ _ _ t0)) (kx_ofr (hw _ _ _ u1)) (kx_ofr (hw _ _ _ u4)) (kx_ofr (hw _ _ _ u2)) en (kx_ofr (hw _ _ _ t2)) (kx_ofr (hw _ _ _ t3)) e7 e8) (fun rv h' hq => kr_post (g := g) hw (Or.inr rfl) hn (by omega) hq)
end
section
-- 86.z7
/-! ===== reads as a contract ===== -/
theorem km_k264 : ∀ b, b < 60 → kd_rn (kd_ty 264) b = some (0, 2147483648, 2147483648 + 26) := by decide +kernel
theorem km_k265 : ∀ b, b < 300 → kd_rn (kd_ty 265) b = some (0, 2147483648, 2147483648 + 999) := by decide +kernel
theorem km_k259 : kd_rn (kd_ty 259) 0 = some (3, 260, 260) ∧ kd_rn (kd_ty 259) 6 = some (0, 2147483648, 2147483648 + 1) ∧ kd_rn (kd_ty 259) 7 = some (0, 2147483648, 2147483648 + 240) ∧ kd_rn (kd_ty 259) 8 = some (0, 2147483648, 2147483648 + 240) ∧ kd_rn (kd_ty 259) 9 = some (0, 2147483648, 2147483648 + 26) ∧ kd_rn (kd_ty 259) 10 = some (0, 2147483648, 2147483648 + 999) ∧ kd_rn (kd_ty 259) 11 = some (3, 264, 264) ∧ kd_rn (kd_ty 259) 12 = some (3, 265, 265) ∧ kd_rn (kd_ty 259) 13 = some (0, 2147483648, 2147483648 + 240) := by decide +kernel
theorem km_D_wt {h h2 : kc_H} (hw : kd_wt kd_ty h) (hD : km_D h h2) : kd_wt kd_ty h2 := by
  intro a b v hv
  rcases hD a b with e | ⟨e1, e3, x, e4, e5⟩ | ⟨e1, e3, x, e4, e5⟩
  · rw [e]; exact hw a b v hv
  · subst e1
    rw [km_k265 b e3] at hv
    cases hv
    rw [e5]
    exact kx_gof (by omega) (by omega)
  · subst e1
    rw [km_k264 b e3] at hv
    cases hv
    rw [e5]
    exact kx_gof (by omega) (by omega)
theorem km_H_wt {h : kc_H} {it x n a s k v : Nat} (hw : kd_wt kd_ty h) (hx : x < 2) (hit : it ≤ 60) (hn : n ≤ 240) (ha : a ≤ n) (hs : s ≤ n) (hk : k < 27) (hv1 : v < 1000) : kd_wt kd_ty (km_H (kmj h it) x a s k v) := by
  obtain ⟨t0, t6, t7, t8, t9, t10, t11, t12, t13⟩ := km_k259
  intro c b z hz
  unfold km_H
  split
  · rename_i hc
    subst hc
    split
    · rename_i e; subst e; rw [t0] at hz; cases hz; exact ⟨260, rfl, by omega, by omega⟩
    · split
      · rename_i e; subst e; rw [t6] at hz; cases hz; exact kx_gof (by omega) (by omega)
      · split
        · rename_i e; subst e; rw [t7] at hz; cases hz; exact kx_gof (by omega) (by omega)
        · split
          · rename_i e; subst e; rw [t8] at hz; cases hz; exact kx_gof (by omega) (by omega)
          · split
            · rename_i e; subst e; rw [t9] at hz; cases hz; exact kx_gof (by omega) (by omega)
            · split
              · rename_i e; subst e; rw [t10] at hz; cases hz; exact kx_gof (by omega) (by omega)
              · unfold kmj
                rw [if_pos rfl]
                split
                · rename_i e; subst e; rw [t11] at hz; cases hz; exact ⟨264, rfl, by omega, by omega⟩
                · split
                  · rename_i e; subst e; rw [t12] at hz; cases hz; exact ⟨265, rfl, by omega, by omega⟩
                  · split
                    · rename_i e; subst e; rw [t13] at hz; cases hz; exact kx_gof (by omega) (by omega)
                    · exact hw 259 b z hz
  · rename_i hc
    rw [kmj_o hc]
    exact hw c b z hz
def km_W : kd_W := [(259, 259, 6, 10), (259, 259, 13, 13), (264, 264, 0, 59), (265, 265, 0, 299)]
theorem km_H_fr {h h2 : kc_H} {it x a s k v : Nat} (hw : kd_wt kd_ty h) (hD : km_D h h2) : kd_fr km_W h (km_H (kmj h2 it) x a s k v) := by
  intro c b hq
  have q1 := kd_inr_f (hq (259, 259, 6, 10) (by decide))
  have q2 := kd_inr_f (hq (259, 259, 13, 13) (by decide))
  have q3 := kd_inr_f (hq (264, 264, 0, 59) (by decide))
  have q4 := kd_inr_f (hq (265, 265, 0, 299) (by decide))
  simp only at q1 q2 q3 q4
  obtain ⟨t0, t6, t7, t8, t9, t10, t11, t12, t13⟩ := km_k259
  have e0 : h 259 0 = .inr (.inr (.inl (some 260))) := kx_ofr (hw _ _ _ t0)
  have e11 : h 259 11 = .inr (.inr (.inl (some 264))) := kx_ofr (hw _ _ _ t11)
  have e12 : h 259 12 = .inr (.inr (.inl (some 265))) := kx_ofr (hw _ _ _ t12)
  have hh : h2 c b = h c b := by
    rcases hD c b with e | ⟨a1, a3, -⟩ | ⟨a1, a3, -⟩
    · exact e
    · exact absurd ⟨by omega, by omega, by omega, by omega⟩ q4
    · exact absurd ⟨by omega, by omega, by omega, by omega⟩ q3
  unfold km_H
  split
  · rename_i hc
    subst hc
    split
    · rename_i e; subst e; exact e0.symm
    · rw [if_neg (by omega), if_neg (by omega), if_neg (by omega), if_neg (by omega), if_neg (by omega)]
      unfold kmj
      rw [if_pos rfl]
      split
      · rename_i e; subst e; exact e11.symm
      · split
        · rename_i e; subst e; exact e12.symm
        · rw [if_neg (by omega)]
          exact hh
  · rename_i hc
    rw [kmj_o hc]
    exact hh
theorem km_k260 : (∀ x, x < 2 → kd_rn (kd_ty 260) (160 + x) = some (0, 2147483648, 2147483648 + 240)) ∧ ∀ j, j < 480 → kd_rn (kd_ty 260) (170 + j) = some (0, 2147483648, 2147483648 + 255) := by decide +kernel
/-- a text of the book -/
theorem km_tx {h : kc_H} (hw : kd_wt kd_ty h) {x : Nat} (hx : x < 2) : ∃ t : Nat → Nat, (∀ j, j < 240 → t j < 256) ∧ ∀ j, j < 240 → h 260 (170 + 240 * x + j) = .inl (Int32.ofNat (t j)) := by
  have : ∀ j, ∃ v, j < 240 → v < 256 ∧ h 260 (170 + 240 * x + j) = .inl (Int32.ofNat v) := fun j => by
    by_cases hj : j < 240
    · have hk := km_k260.2 (240 * x + j) (by omega)
      rw [← Nat.add_assoc] at hk
      obtain ⟨v, h1, h2⟩ := kx_ofg (by omega) (hw _ _ _ hk)
      exact ⟨v, fun _ => ⟨by omega, h2⟩⟩
    · exact ⟨0, fun q => absurd q hj⟩
  obtain ⟨t, ht⟩ := Classical.axiomOfChoice this
  exact ⟨t, fun j hj => (ht j hj).1, fun j hj => (ht j hj).2⟩
def kd_T64 : kd_Tc := ([(3, 259, 259), (0, 2147483648, 2147483649)], [], [(some (0, 2147483648, 2147483649), [], km_W)])
theorem km_post {h : kc_H} {t : Nat → Nat} {x n m f : Nat} (hw : kd_wt kd_ty h) (hx : x < 2) (hn : n ≤ 240) (hf : f + m ≤ 16) {rv : Option kc_V} {h' : kc_H} (hq : km_Qr t n x m f h rv h') : ∃ p ∈ kd_T64.2.2, kd_rv 0 (fun _ => 0) p.1 rv ∧ kd_gF 0 (fun _ => 0) p.2.1 h' ∧ kd_wt kd_ty h' ∧ kd_fr p.2.2 h h' := by
  unfold km_Qr at hq
  refine ⟨_, List.mem_cons_self, ?_⟩
  cases hl : kp_its t n m f 61 0 with
  | some l =>
    rw [hl] at hq
    obtain ⟨a2, s2, k2, u2, rfl, ⟨b1, b2, b3, b4⟩, rfl⟩ := hq
    obtain ⟨a1, a3⟩ := kp_its_ok hn hf 61 0 0 l (by omega) (by omega) hl
    have hD := km_D_ns l h 0 a3 (fun q hq => (a1 q hq).1)
    exact ⟨⟨_, rfl, by decide, by decide⟩, fun q hq => (by cases hq), km_H_wt (km_D_wt hw hD) hx (by omega) hn b2 b1 b3 b4, km_H_fr hw hD⟩
  | none =>
    rw [hl] at hq
    obtain ⟨h2, it2, a2, s2, k2, u2, rfl, ⟨b0, b5, b1, b2, b3, b4⟩, rfl⟩ := hq
    exact ⟨⟨_, rfl, by decide, by decide⟩, fun q hq => (by cases hq), km_H_wt (km_D_wt hw b0) hx b5 hn b2 b1 b3 b4, km_H_fr hw b0⟩
theorem kd_h64 {g : kc_G} (hg : kc_ok g) : kd_hold g 5 kd_ty 64 kd_T64 := by
  intro xs h hw hv hF
  match xs, hv with
  | [], hv => exact hv.elim
  | [_], hv => exact hv.2.elim
  | _ :: _ :: _ :: _, hv => exact hv.2.2.elim
  | [x1, x2], hv =>
    obtain ⟨h1, h2, -⟩ := hv
    have h1 := kx_ofr h1
    subst h1
    obtain ⟨w, w1, rfl⟩ := kx_ofg (u := 1) (by omega) h2
    obtain ⟨t0, t6, t7, t8, t9, t10, t11, t12, t13⟩ := km_k259
    obtain ⟨s0, -, e8⟩ := kx_ofg (by omega) (hw _ _ _ t8)
    obtain ⟨k0, -, e9⟩ := kx_ofg (by omega) (hw _ _ _ t9)
    obtain ⟨v0, hv0, e10⟩ := kx_ofg (by omega) (hw _ _ _ t10)
    obtain ⟨t, hb, ht⟩ := km_tx hw (show w < 2 by omega)
    obtain ⟨n, hn, en⟩ := kx_ofg (by omega) (hw _ _ _ (km_k260.1 w (by omega)))
    rcases (show w = 0 ∨ w = 1 by omega) with rfl | rfl
    · exact kc_Con_mono (km_reads0 (d := 0) hg hn hb en ht (by omega) (kx_ofr (hw _ _ _ t0)) e8 e9 e10 (kx_ofr (hw _ _ _ t11)) (kx_ofr (hw _ _ _ t12))) (fun rv h' hq => km_post hw (by omega) hn (by omega) hq)
    · exact kc_Con_mono (km_reads1 (d := 0) hg hn hb en ht (by omega) (kx_ofr (hw _ _ _ t0)) e8 e9 e10 (kx_ofr (hw _ _ _ t11)) (kx_ofr (hw _ _ _ t12))) (fun rv h' hq => km_post hw (by omega) hn (by omega) hq)
end
section
-- 87.kc00
/-! ===== contracts, kc 0 ===== -/
def kd_P60 : List kd_P := [(some (0, 2147483646, 2147483888), [], [(130, 189, 0, 3), (128, 128, 0, 59), (127, 127, 1, 1), (127, 127, 4, 8)])]
def kd_T60 : kd_Tc := ([(3, 0, 0), (0, 0, 4294967295)], [], kd_P60)
def kd_C60 : List (Nat × kd_Tc) := [(61, kd_T61)]
def kd_S60 : List kd_St := []
theorem kd_e60 : kd_run0 kd_ty kd_x60 2 (kd_call kd_ty kd_xt (kd_ctl kd_C60) 600 1) kd_T60 600 kd_S60 = true := by decide +kernel
theorem kd_h60 {g : kc_G} (hg : kc_ok g) : kd_hold g 10 kd_ty 60 kd_T60 := kd_mk (d0 := 8) (di := 1) hg kd_xk60 rfl rfl rfl rfl (kd_al_r kd_C60 ⟨kd_hold_le (kd_h61 hg) (by decide), trivial⟩) (by decide) (by decide +kernel) kd_e60 (kd_al_r kd_S60 trivial)
def kd_P73 : List kd_P := [(some (0, 2147483648, 2147483649), [], [(195, 200, 0, 2), (202, 202, 0, 2), (130, 189, 0, 3), (192, 193, 0, 5), (201, 201, 0, 5), (191, 191, 0, 9), (203, 203, 0, 9), (128, 128, 0, 59), (127, 127, 1, 1), (190, 190, 2, 6), (127, 127, 4, 8), (190, 190, 14, 14)])]
def kd_T73 : kd_Tc := ([(3, 190, 190)], [], kd_P73)
def kd_C73 : List (Nat × kd_Tc) := [(61, kd_T61), (74, kd_T74), (183, kd_T183)]
def kd_S73_0 : kd_St := (20, [(2147483648, 4294967294)], 1, [(3, 190, 190), (1, 0, 2147483648)], [], [(195, 200, 0, 2), (202, 202, 0, 2), (130, 189, 0, 3), (192, 193, 0, 5), (201, 201, 0, 5), (191, 191, 0, 9), (203, 203, 0, 9), (128, 128, 0, 59), (127, 127, 1, 1), (190, 190, 2, 6), (127, 127, 4, 8), (190, 190, 14, 14)], [(0, (0, 21, 21)), (0, (1, 0, 2147483648))])
def kd_S73 : List kd_St := [kd_S73_0]
theorem kd_e73 : kd_run0 kd_ty kd_x73 2 (kd_call kd_ty kd_xt (kd_ctl kd_C73) 600 0) kd_T73 600 kd_S73 = true := by decide +kernel
theorem kd_r73_0 : kd_run1 kd_ty kd_x73 2 (kd_call kd_ty kd_xt (kd_ctl kd_C73) 600 0) kd_T73.2.2 600 kd_S73 kd_S73_0 = true := by decide +kernel
theorem kd_h73 {g : kc_G} (hg : kc_ok g) : kd_hold g 10 kd_ty 73 kd_T73 := kd_mk (d0 := 9) (di := 0) hg kd_xk73 rfl rfl rfl rfl (kd_al_r kd_C73 ⟨kd_hold_le (kd_h61 hg) (by decide), kd_hold_le (kd_h74 hg) (by decide), kd_hold_le (kd_h183 hg) (by decide), trivial⟩) (by decide) (by decide +kernel) kd_e73 (kd_al_r kd_S73 ⟨kd_r73_0, trivial⟩)
def kd_P72 : List kd_P := [(some (0, 0, 4294967295), [], [(195, 200, 0, 2), (202, 202, 0, 2), (130, 189, 0, 3), (192, 193, 0, 5), (201, 201, 0, 5), (191, 191, 0, 9), (203, 203, 0, 9), (128, 128, 0, 59), (127, 127, 1, 1), (190, 190, 2, 6), (127, 127, 4, 8), (190, 190, 14, 14)])]
def kd_T72 : kd_Tc := ([(3, 0, 0), (0, 0, 4294967295)], [], kd_P72)
def kd_C72 : List (Nat × kd_Tc) := [(73, kd_T73), (76, kd_T76)]
def kd_S72 : List kd_St := []
theorem kd_e72 : kd_run0 kd_ty kd_x72 2 (kd_call kd_ty kd_xt (kd_ctl kd_C72) 600 1) kd_T72 600 kd_S72 = true := by decide +kernel
theorem kd_h72 {g : kc_G} (hg : kc_ok g) : kd_hold g 12 kd_ty 72 kd_T72 := kd_mk (d0 := 10) (di := 1) hg kd_xk72 rfl rfl rfl rfl (kd_al_r kd_C72 ⟨kd_hold_le (kd_h73 hg) (by decide), kd_hold_le (kd_h76 hg) (by decide), trivial⟩) (by decide) (by decide +kernel) kd_e72 (kd_al_r kd_S72 trivial)
def kd_P80 : List kd_P := [(some (0, 0, 4294967295), [], [(195, 200, 0, 2), (202, 202, 0, 2), (130, 189, 0, 3), (192, 193, 0, 5), (201, 201, 0, 5), (191, 191, 0, 9), (203, 203, 0, 9), (128, 128, 0, 59), (127, 127, 1, 1), (190, 190, 2, 6), (127, 127, 4, 8), (190, 190, 14, 14)])]
def kd_T80 : kd_Tc := ([(3, 0, 0), (0, 0, 4294967295), (0, 0, 4294967295), (0, 0, 4294967295)], [], kd_P80)
def kd_C80 : List (Nat × kd_Tc) := [(73, kd_T73), (187, kd_T187), (189, kd_T189)]
def kd_S80 : List kd_St := []
theorem kd_e80 : kd_run0 kd_ty kd_x80 5 (kd_call kd_ty kd_xt (kd_ctl kd_C80) 600 3) kd_T80 600 kd_S80 = true := by decide +kernel
theorem kd_h80 {g : kc_G} (hg : kc_ok g) : kd_hold g 14 kd_ty 80 kd_T80 := kd_mk (d0 := 10) (di := 3) hg kd_xk80 rfl rfl rfl rfl (kd_al_r kd_C80 ⟨kd_hold_le (kd_h73 hg) (by decide), kd_hold_le (kd_h187 hg) (by decide), kd_hold_le (kd_h189 hg) (by decide), trivial⟩) (by decide) (by decide +kernel) kd_e80 (kd_al_r kd_S80 trivial)
def kd_P83 : List kd_P := [(some (0, 0, 4294967295), [], [(195, 200, 0, 2), (202, 202, 0, 2), (130, 189, 0, 3), (192, 193, 0, 5), (201, 201, 0, 5), (191, 191, 0, 9), (203, 203, 0, 9), (128, 128, 0, 59), (127, 127, 1, 1), (190, 190, 2, 6), (127, 127, 4, 8), (190, 190, 14, 14)])]
def kd_T83 : kd_Tc := ([(3, 0, 0), (0, 0, 4294967295)], [], kd_P83)
def kd_C83 : List (Nat × kd_Tc) := [(73, kd_T73)]
def kd_S83 : List kd_St := []
theorem kd_e83 : kd_run0 kd_ty kd_x83 2 (kd_call kd_ty kd_xt (kd_ctl kd_C83) 600 2) kd_T83 600 kd_S83 = true := by decide +kernel
theorem kd_h83 {g : kc_G} (hg : kc_ok g) : kd_hold g 13 kd_ty 83 kd_T83 := kd_mk (d0 := 10) (di := 2) hg kd_xk83 rfl rfl rfl rfl (kd_al_r kd_C83 ⟨kd_hold_le (kd_h73 hg) (by decide), trivial⟩) (by decide) (by decide +kernel) kd_e83 (kd_al_r kd_S83 trivial)
end
section
-- 88.km00
/-! ===== contracts, km 0 ===== -/
def kd_P63 : List kd_P := [(some (0, 2147483646, 2147483888), [], [(264, 264, 0, 59), (265, 265, 0, 299), (259, 259, 6, 10), (259, 259, 13, 13)])]
def kd_T63 : kd_Tc := ([(3, 259, 259), (0, 0, 4294967295)], [], kd_P63)
def kd_C63 : List (Nat × kd_Tc) := [(64, kd_T64)]
def kd_S63 : List kd_St := []
theorem kd_e63 : kd_run0 kd_ty kd_x63 2 (kd_call kd_ty kd_xt (kd_ctl kd_C63) 600 2) kd_T63 600 kd_S63 = true := by decide +kernel
theorem kd_h63 {g : kc_G} (hg : kc_ok g) : kd_hold g 8 kd_ty 63 kd_T63 := kd_mk (d0 := 5) (di := 2) hg kd_xk63 rfl rfl rfl rfl (kd_al_r kd_C63 ⟨kd_hold_le (kd_h64 hg) (by decide), trivial⟩) (by decide) (by decide +kernel) kd_e63 (kd_al_r kd_S63 trivial)
def kd_P78 : List kd_P := [(some (0, 2147483648, 2147483649), [], [(268, 271, 0, 0), (271, 271, 0, 2), (268, 270, 0, 5), (266, 266, 0, 9), (267, 267, 0, 17), (264, 264, 0, 59), (265, 265, 0, 299), (268, 271, 1, 1), (268, 271, 2, 2), (268, 270, 3, 3), (268, 270, 4, 4), (268, 270, 5, 5), (259, 259, 6, 10), (259, 259, 13, 13), (259, 259, 20, 25)])]
def kd_T78 : kd_Tc := ([(3, 259, 259)], [], kd_P78)
def kd_C78 : List (Nat × kd_Tc) := [(64, kd_T64), (238, kd_T238), (237, kd_T237k2)]
def kd_S78_0 : kd_St := (12, [], 0, [(3, 259, 259), (0, 2147483648, 2147483648)], [], [(264, 264, 0, 59), (265, 265, 0, 299), (259, 259, 6, 10), (259, 259, 13, 13)], [(0, (0, 13, 13)), (0, (0, 2147483648, 2147483648)), (0, (0, 0, 0)), (0, (0, 0, 0))])
def kd_S78_1 : kd_St := (42, [], 0, [(3, 259, 259), (0, 2147483648, 2147483648)], [], [(266, 266, 0, 9), (264, 264, 0, 59), (265, 265, 0, 299), (259, 259, 6, 10), (259, 259, 13, 13)], [(0, (0, 43, 43)), (0, (0, 2147483648, 2147483648)), (0, (0, 0, 0)), (0, (0, 0, 0))])
def kd_S78_2 : kd_St := (12, [(2147483648, 2147483653), (2147483649, 2147483658)], 2, [(3, 259, 259), (0, 2147483649, 2147483649)], [(260, 2, (1, 0, 2147483648)), (266, 0, (1, 1, 2147483648))], [(266, 266, 0, 0), (264, 264, 0, 59), (265, 265, 0, 299), (259, 259, 6, 10), (259, 259, 13, 13)], [(0, (0, 13, 13)), (0, (0, 2147483649, 2147483649)), (0, (0, 0, 0)), (0, (0, 0, 0))])
def kd_S78_3 : kd_St := (12, [(2147483648, 2147483653), (2147483648, 2147483653), (2147483650, 2147483658)], 3, [(3, 259, 259), (0, 2147483650, 2147483650)], [(260, 2, (1, 0, 2147483648)), (266, 0, (1, 1, 2147483648)), (266, 1, (1, 2, 2147483648))], [(266, 266, 0, 1), (264, 264, 0, 59), (265, 265, 0, 299), (259, 259, 6, 10), (259, 259, 13, 13)], [(0, (0, 13, 13)), (0, (0, 2147483650, 2147483650)), (0, (0, 0, 0)), (0, (0, 0, 0))])
def kd_S78_4 : kd_St := (12, [(2147483648, 2147483653), (2147483648, 2147483653), (2147483648, 2147483653), (2147483651, 2147483658)], 4, [(3, 259, 259), (0, 2147483651, 2147483651)], [(260, 2, (1, 0, 2147483648)), (266, 0, (1, 1, 2147483648)), (266, 1, (1, 2, 2147483648)), (266, 2, (1, 3, 2147483648))], [(266, 266, 0, 2), (264, 264, 0, 59), (265, 265, 0, 299), (259, 259, 6, 10), (259, 259, 13, 13)], [(0, (0, 13, 13)), (0, (0, 2147483651, 2147483651)), (0, (0, 0, 0)), (0, (0, 0, 0))])
def kd_S78_5 : kd_St := (12, [(2147483648, 2147483653), (2147483648, 2147483653), (2147483648, 2147483653), (2147483648, 2147483653), (2147483652, 2147483658)], 5, [(3, 259, 259), (0, 2147483652, 2147483652)], [(260, 2, (1, 0, 2147483648)), (266, 0, (1, 1, 2147483648)), (266, 1, (1, 2, 2147483648)), (266, 2, (1, 3, 2147483648)), (266, 3, (1, 4, 2147483648))], [(266, 266, 0, 3), (264, 264, 0, 59), (265, 265, 0, 299), (259, 259, 6, 10), (259, 259, 13, 13)], [(0, (0, 13, 13)), (0, (0, 2147483652, 2147483652)), (0, (0, 0, 0)), (0, (0, 0, 0))])
def kd_S78_6 : kd_St := (12, [(2147483648, 2147483653), (2147483648, 2147483653), (2147483648, 2147483653), (2147483648, 2147483653), (2147483648, 2147483653), (2147483653, 2147483658)], 6, [(3, 259, 259), (0, 2147483653, 2147483653)], [(260, 2, (1, 0, 2147483648)), (266, 0, (1, 1, 2147483648)), (266, 1, (1, 2, 2147483648)), (266, 2, (1, 3, 2147483648)), (266, 3, (1, 4, 2147483648)), (266, 4, (1, 5, 2147483648))], [(266, 266, 0, 4), (264, 264, 0, 59), (265, 265, 0, 299), (259, 259, 6, 10), (259, 259, 13, 13)], [(0, (0, 13, 13)), (0, (0, 2147483653, 2147483653)), (0, (0, 0, 0)), (0, (0, 0, 0))])
def kd_S78_7 : kd_St := (12, [(2147483648, 2147483653), (2147483648, 2147483653), (2147483648, 2147483653), (2147483648, 2147483653), (2147483648, 2147483653), (2147483648, 2147483653), (2147483654, 2147483658)], 7, [(3, 259, 259), (0, 2147483654, 2147483654)], [(260, 2, (1, 0, 2147483648)), (266, 0, (1, 1, 2147483648)), (266, 1, (1, 2, 2147483648)), (266, 2, (1, 3, 2147483648)), (266, 3, (1, 4, 2147483648)), (266, 4, (1, 5, 2147483648)), (266, 5, (1, 6, 2147483648))], [(266, 266, 0, 5), (264, 264, 0, 59), (265, 265, 0, 299), (259, 259, 6, 10), (259, 259, 13, 13)], [(0, (0, 13, 13)), (0, (0, 2147483654, 2147483654)), (0, (0, 0, 0)), (0, (0, 0, 0))])
def kd_S78_8 : kd_St := (12, [(2147483648, 2147483653), (2147483648, 2147483653), (2147483648, 2147483653), (2147483648, 2147483653), (2147483648, 2147483653), (2147483648, 2147483653), (2147483648, 2147483653), (2147483655, 2147483658)], 8, [(3, 259, 259), (0, 2147483655, 2147483655)], [(260, 2, (1, 0, 2147483648)), (266, 0, (1, 1, 2147483648)), (266, 1, (1, 2, 2147483648)), (266, 2, (1, 3, 2147483648)), (266, 3, (1, 4, 2147483648)), (266, 4, (1, 5, 2147483648)), (266, 5, (1, 6, 2147483648)), (266, 6, (1, 7, 2147483648))], [(266, 266, 0, 6), (264, 264, 0, 59), (265, 265, 0, 299), (259, 259, 6, 10), (259, 259, 13, 13)], [(0, (0, 13, 13)), (0, (0, 2147483655, 2147483655)), (0, (0, 0, 0)), (0, (0, 0, 0))])
def kd_S78_9 : kd_St := (12, [(2147483648, 2147483653), (2147483648, 2147483653), (2147483648, 2147483653), (2147483648, 2147483653), (2147483648, 2147483653), (2147483648, 2147483653), (2147483648, 2147483653), (2147483648, 2147483653), (2147483656, 2147483658)], 9, [(3, 259, 259), (0, 2147483656, 2147483656)], [(260, 2, (1, 0, 2147483648)), (266, 0, (1, 1, 2147483648)), (266, 1, (1, 2, 2147483648)), (266, 2, (1, 3, 2147483648)), (266, 3, (1, 4, 2147483648)), (266, 4, (1, 5, 2147483648)), (266, 5, (1, 6, 2147483648)), (266, 6, (1, 7, 2147483648)), (266, 7, (1, 8, 2147483648))], [(266, 266, 0, 7), (264, 264, 0, 59), (265, 265, 0, 299), (259, 259, 6, 10), (259, 259, 13, 13)], [(0, (0, 13, 13)), (0, (0, 2147483656, 2147483656)), (0, (0, 0, 0)), (0, (0, 0, 0))])
def kd_S78_10 : kd_St := (12, [(2147483648, 2147483653), (2147483648, 2147483653), (2147483648, 2147483653), (2147483648, 2147483653), (2147483648, 2147483653), (2147483648, 2147483653), (2147483648, 2147483653), (2147483648, 2147483653), (2147483648, 2147483653), (2147483657, 2147483658)], 10, [(3, 259, 259), (0, 2147483657, 2147483657)], [(260, 2, (1, 0, 2147483648)), (266, 0, (1, 1, 2147483648)), (266, 1, (1, 2, 2147483648)), (266, 2, (1, 3, 2147483648)), (266, 3, (1, 4, 2147483648)), (266, 4, (1, 5, 2147483648)), (266, 5, (1, 6, 2147483648)), (266, 6, (1, 7, 2147483648)), (266, 7, (1, 8, 2147483648)), (266, 8, (1, 9, 2147483648))], [(266, 266, 0, 8), (264, 264, 0, 59), (265, 265, 0, 299), (259, 259, 6, 10), (259, 259, 13, 13)], [(0, (0, 13, 13)), (0, (0, 2147483657, 2147483657)), (0, (0, 0, 0)), (0, (0, 0, 0))])
def kd_S78_11 : kd_St := (12, [(2147483648, 2147483653), (2147483648, 2147483653), (2147483648, 2147483653), (2147483648, 2147483653), (2147483648, 2147483653), (2147483648, 2147483653), (2147483648, 2147483653), (2147483648, 2147483653), (2147483648, 2147483653), (2147483648, 2147483653)], 10, [(3, 259, 259), (0, 2147483658, 2147483658)], [(260, 2, (0, 2147483658, 2147483658)), (266, 0, (1, 0, 2147483648)), (266, 1, (1, 1, 2147483648)), (266, 2, (1, 2, 2147483648)), (266, 3, (1, 3, 2147483648)), (266, 4, (1, 4, 2147483648)), (266, 5, (1, 5, 2147483648)), (266, 6, (1, 6, 2147483648)), (266, 7, (1, 7, 2147483648)), (266, 8, (1, 8, 2147483648)), (266, 9, (1, 9, 2147483648))], [(266, 266, 0, 9), (264, 264, 0, 59), (265, 265, 0, 299), (259, 259, 6, 10), (259, 259, 13, 13)], [(0, (0, 13, 13)), (0, (0, 2147483658, 2147483658)), (0, (0, 0, 0)), (0, (0, 0, 0))])
def kd_S78_12 : kd_St := (42, [(2147483648, 2147483657)], 1, [(3, 259, 259), (0, 2147483649, 2147483649)], [(268, 0, (0, 2147483648, 2147483648)), (269, 0, (0, 2147483648, 2147483648)), (270, 0, (1, 0, 2147483648)), (271, 0, (0, 2147483648, 2147483648))], [(268, 271, 0, 0), (266, 266, 0, 9), (264, 264, 0, 59), (265, 265, 0, 299), (259, 259, 6, 10), (259, 259, 13, 13)], [(0, (0, 43, 43)), (0, (0, 2147483649, 2147483649)), (0, (0, 0, 0)), (0, (0, 0, 0))])
def kd_S78_13 : kd_St := (42, [(2147483648, 2147483657), (2147483648, 2147483657)], 2, [(3, 259, 259), (0, 2147483650, 2147483650)], [(268, 0, (0, 2147483648, 2147483648)), (268, 1, (0, 2147483648, 2147483648)), (269, 0, (0, 2147483648, 2147483648)), (269, 1, (0, 2147483648, 2147483648)), (270, 0, (1, 0, 2147483648)), (270, 1, (1, 1, 2147483648)), (271, 0, (0, 2147483648, 2147483648))], [(268, 271, 0, 0), (266, 266, 0, 9), (264, 264, 0, 59), (265, 265, 0, 299), (268, 270, 1, 1), (259, 259, 6, 10), (259, 259, 13, 13)], [(0, (0, 43, 43)), (0, (0, 2147483650, 2147483650)), (0, (0, 0, 0)), (0, (0, 0, 0))])
def kd_S78_14 : kd_St := (42, [(2147483648, 2147483657), (2147483648, 2147483657), (2147483648, 2147483657)], 3, [(3, 259, 259), (0, 2147483651, 2147483651)], [(268, 0, (0, 2147483648, 2147483648)), (268, 1, (0, 2147483648, 2147483648)), (268, 2, (0, 2147483648, 2147483648)), (269, 0, (0, 2147483648, 2147483648)), (269, 1, (0, 2147483648, 2147483648)), (269, 2, (0, 2147483648, 2147483648)), (270, 0, (1, 0, 2147483648)), (270, 1, (1, 1, 2147483648)), (270, 2, (1, 2, 2147483648)), (271, 0, (0, 2147483648, 2147483648)), (271, 1, (0, 2147483648, 2147483648))], [(268, 271, 0, 0), (266, 266, 0, 9), (264, 264, 0, 59), (265, 265, 0, 299), (268, 271, 1, 1), (268, 270, 2, 2), (259, 259, 6, 10), (259, 259, 13, 13)], [(0, (0, 43, 43)), (0, (0, 2147483651, 2147483651)), (0, (0, 0, 0)), (0, (0, 0, 0))])
def kd_S78_15 : kd_St := (42, [(2147483648, 2147483657), (2147483648, 2147483657), (2147483648, 2147483657), (2147483648, 2147483657)], 4, [(3, 259, 259), (0, 2147483652, 2147483652)], [(268, 0, (0, 2147483648, 2147483648)), (268, 1, (0, 2147483648, 2147483648)), (268, 2, (0, 2147483648, 2147483648)), (268, 3, (0, 2147483648, 2147483648)), (269, 0, (0, 2147483648, 2147483648)), (269, 1, (0, 2147483648, 2147483648)), (269, 2, (0, 2147483648, 2147483648)), (269, 3, (0, 2147483648, 2147483648)), (270, 0, (1, 0, 2147483648)), (270, 1, (1, 1, 2147483648)), (270, 2, (1, 2, 2147483648)), (270, 3, (1, 3, 2147483648)), (271, 0, (0, 2147483648, 2147483648)), (271, 1, (0, 2147483648, 2147483648))], [(268, 271, 0, 0), (266, 266, 0, 9), (264, 264, 0, 59), (265, 265, 0, 299), (268, 271, 1, 1), (268, 270, 2, 2), (268, 270, 3, 3), (259, 259, 6, 10), (259, 259, 13, 13)], [(0, (0, 43, 43)), (0, (0, 2147483652, 2147483652)), (0, (0, 0, 0)), (0, (0, 0, 0))])
def kd_S78_16 : kd_St := (42, [(2147483648, 2147483657), (2147483648, 2147483657), (2147483648, 2147483657), (2147483648, 2147483657), (2147483648, 2147483657)], 5, [(3, 259, 259), (0, 2147483653, 2147483653)], [(268, 0, (0, 2147483648, 2147483648)), (268, 1, (0, 2147483648, 2147483648)), (268, 2, (0, 2147483648, 2147483648)), (268, 3, (0, 2147483648, 2147483648)), (268, 4, (0, 2147483648, 2147483648)), (269, 0, (0, 2147483648, 2147483648)), (269, 1, (0, 2147483648, 2147483648)), (269, 2, (0, 2147483648, 2147483648)), (269, 3, (0, 2147483648, 2147483648)), (269, 4, (0, 2147483648, 2147483648)), (270, 0, (1, 0, 2147483648)), (270, 1, (1, 1, 2147483648)), (270, 2, (1, 2, 2147483648)), (270, 3, (1, 3, 2147483648)), (270, 4, (1, 4, 2147483648)), (271, 0, (0, 2147483648, 2147483648)), (271, 1, (0, 2147483648, 2147483648)), (271, 2, (0, 2147483648, 2147483648))], [(268, 271, 0, 0), (266, 266, 0, 9), (264, 264, 0, 59), (265, 265, 0, 299), (268, 271, 1, 1), (268, 271, 2, 2), (268, 270, 3, 3), (268, 270, 4, 4), (259, 259, 6, 10), (259, 259, 13, 13)], [(0, (0, 43, 43)), (0, (0, 2147483653, 2147483653)), (0, (0, 0, 0)), (0, (0, 0, 0))])
def kd_S78_17 : kd_St := (42, [(2147483648, 2147483657), (2147483648, 2147483657), (2147483648, 2147483657), (2147483648, 2147483657), (2147483648, 2147483657), (2147483648, 2147483657)], 6, [(3, 259, 259), (0, 2147483654, 2147483654)], [(268, 0, (0, 2147483648, 2147483648)), (268, 1, (0, 2147483648, 2147483648)), (268, 2, (0, 2147483648, 2147483648)), (268, 3, (0, 2147483648, 2147483648)), (268, 4, (0, 2147483648, 2147483648)), (268, 5, (0, 2147483648, 2147483648)), (269, 0, (0, 2147483648, 2147483648)), (269, 1, (0, 2147483648, 2147483648)), (269, 2, (0, 2147483648, 2147483648)), (269, 3, (0, 2147483648, 2147483648)), (269, 4, (0, 2147483648, 2147483648)), (269, 5, (0, 2147483648, 2147483648)), (270, 0, (1, 0, 2147483648)), (270, 1, (1, 1, 2147483648)), (270, 2, (1, 2, 2147483648)), (270, 3, (1, 3, 2147483648)), (270, 4, (1, 4, 2147483648)), (270, 5, (1, 5, 2147483648)), (271, 0, (0, 2147483648, 2147483648)), (271, 1, (0, 2147483648, 2147483648)), (271, 2, (0, 2147483648, 2147483648))], [(268, 271, 0, 0), (266, 266, 0, 9), (264, 264, 0, 59), (265, 265, 0, 299), (268, 271, 1, 1), (268, 271, 2, 2), (268, 270, 3, 3), (268, 270, 4, 4), (268, 270, 5, 5), (259, 259, 6, 10), (259, 259, 13, 13)], [(0, (0, 43, 43)), (0, (0, 2147483654, 2147483654)), (0, (0, 0, 0)), (0, (0, 0, 0))])
def kd_S78_18 : kd_St := (122, [(2147483648, 2147483888)], 1, [(3, 259, 259), (0, 2147483654, 2147483654)], [(259, 24, (1, 0, 2147483648)), (259, 25, (0, 2147483648, 2147483648))], [(268, 271, 0, 0), (271, 271, 0, 2), (268, 270, 0, 5), (266, 266, 0, 9), (267, 267, 0, 17), (264, 264, 0, 59), (265, 265, 0, 299), (268, 271, 1, 1), (268, 271, 2, 2), (268, 270, 3, 3), (268, 270, 4, 4), (268, 270, 5, 5), (259, 259, 6, 10), (259, 259, 13, 13), (259, 259, 20, 25)], [(0, (0, 123, 123)), (0, (0, 2147483648, 2147483648)), (0, (1, 0, 2147483648)), (0, (0, 0, 0))])
def kd_S78_19 : kd_St := (122, [(2147483649, 2147483655), (2147483648, 2147483888), (2147483649, 2147483888)], 3, [(3, 259, 259), (0, 2147483654, 2147483654)], [(259, 13, (1, 0, 2147483648)), (259, 24, (1, 1, 2147483648)), (259, 25, (1, 2, 2147483648))], [(268, 271, 0, 0), (271, 271, 0, 2), (268, 270, 0, 5), (266, 266, 0, 9), (267, 267, 0, 17), (264, 264, 0, 59), (265, 265, 0, 299), (268, 271, 1, 1), (268, 271, 2, 2), (268, 270, 3, 3), (268, 270, 4, 4), (268, 270, 5, 5), (259, 259, 6, 10), (259, 259, 13, 13), (259, 259, 20, 25)], [(0, (0, 123, 123)), (0, (1, 2, 2147483648)), (0, (1, 1, 2147483648)), (0, (0, 0, 0))])
def kd_S78 : List kd_St := [kd_S78_0, kd_S78_1, kd_S78_2, kd_S78_3, kd_S78_4, kd_S78_5, kd_S78_6, kd_S78_7, kd_S78_8, kd_S78_9, kd_S78_10, kd_S78_11, kd_S78_12, kd_S78_13, kd_S78_14, kd_S78_15, kd_S78_16, kd_S78_17, kd_S78_18, kd_S78_19]
theorem kd_e78 : kd_run0 kd_ty kd_x78 2 (kd_call kd_ty kd_xt (kd_ctl kd_C78) 600 0) kd_T78 600 kd_S78 = true := by decide +kernel
theorem kd_r78_0 : kd_run1 kd_ty kd_x78 2 (kd_call kd_ty kd_xt (kd_ctl kd_C78) 600 0) kd_T78.2.2 600 kd_S78 kd_S78_0 = true := by decide +kernel
theorem kd_r78_1 : kd_run1 kd_ty kd_x78 2 (kd_call kd_ty kd_xt (kd_ctl kd_C78) 600 0) kd_T78.2.2 600 kd_S78 kd_S78_1 = true := by decide +kernel
theorem kd_r78_2 : kd_run1 kd_ty kd_x78 2 (kd_call kd_ty kd_xt (kd_ctl kd_C78) 600 0) kd_T78.2.2 600 kd_S78 kd_S78_2 = true := by decide +kernel
theorem kd_r78_3 : kd_run1 kd_ty kd_x78 2 (kd_call kd_ty kd_xt (kd_ctl kd_C78) 600 0) kd_T78.2.2 600 kd_S78 kd_S78_3 = true := by decide +kernel
theorem kd_r78_4 : kd_run1 kd_ty kd_x78 2 (kd_call kd_ty kd_xt (kd_ctl kd_C78) 600 0) kd_T78.2.2 600 kd_S78 kd_S78_4 = true := by decide +kernel
theorem kd_r78_5 : kd_run1 kd_ty kd_x78 2 (kd_call kd_ty kd_xt (kd_ctl kd_C78) 600 0) kd_T78.2.2 600 kd_S78 kd_S78_5 = true := by decide +kernel
theorem kd_r78_6 : kd_run1 kd_ty kd_x78 2 (kd_call kd_ty kd_xt (kd_ctl kd_C78) 600 0) kd_T78.2.2 600 kd_S78 kd_S78_6 = true := by decide +kernel
theorem kd_r78_7 : kd_run1 kd_ty kd_x78 2 (kd_call kd_ty kd_xt (kd_ctl kd_C78) 600 0) kd_T78.2.2 600 kd_S78 kd_S78_7 = true := by decide +kernel
theorem kd_r78_8 : kd_run1 kd_ty kd_x78 2 (kd_call kd_ty kd_xt (kd_ctl kd_C78) 600 0) kd_T78.2.2 600 kd_S78 kd_S78_8 = true := by decide +kernel
theorem kd_r78_9 : kd_run1 kd_ty kd_x78 2 (kd_call kd_ty kd_xt (kd_ctl kd_C78) 600 0) kd_T78.2.2 600 kd_S78 kd_S78_9 = true := by decide +kernel
theorem kd_r78_10 : kd_run1 kd_ty kd_x78 2 (kd_call kd_ty kd_xt (kd_ctl kd_C78) 600 0) kd_T78.2.2 600 kd_S78 kd_S78_10 = true := by decide +kernel
theorem kd_r78_11 : kd_run1 kd_ty kd_x78 2 (kd_call kd_ty kd_xt (kd_ctl kd_C78) 600 0) kd_T78.2.2 600 kd_S78 kd_S78_11 = true := by decide +kernel
theorem kd_r78_12 : kd_run1 kd_ty kd_x78 2 (kd_call kd_ty kd_xt (kd_ctl kd_C78) 600 0) kd_T78.2.2 600 kd_S78 kd_S78_12 = true := by decide +kernel
theorem kd_r78_13 : kd_run1 kd_ty kd_x78 2 (kd_call kd_ty kd_xt (kd_ctl kd_C78) 600 0) kd_T78.2.2 600 kd_S78 kd_S78_13 = true := by decide +kernel
theorem kd_r78_14 : kd_run1 kd_ty kd_x78 2 (kd_call kd_ty kd_xt (kd_ctl kd_C78) 600 0) kd_T78.2.2 600 kd_S78 kd_S78_14 = true := by decide +kernel
theorem kd_r78_15 : kd_run1 kd_ty kd_x78 2 (kd_call kd_ty kd_xt (kd_ctl kd_C78) 600 0) kd_T78.2.2 600 kd_S78 kd_S78_15 = true := by decide +kernel
theorem kd_r78_16 : kd_run1 kd_ty kd_x78 2 (kd_call kd_ty kd_xt (kd_ctl kd_C78) 600 0) kd_T78.2.2 600 kd_S78 kd_S78_16 = true := by decide +kernel
theorem kd_r78_17 : kd_run1 kd_ty kd_x78 2 (kd_call kd_ty kd_xt (kd_ctl kd_C78) 600 0) kd_T78.2.2 600 kd_S78 kd_S78_17 = true := by decide +kernel
theorem kd_r78_18 : kd_run1 kd_ty kd_x78 2 (kd_call kd_ty kd_xt (kd_ctl kd_C78) 600 0) kd_T78.2.2 600 kd_S78 kd_S78_18 = true := by decide +kernel
theorem kd_r78_19 : kd_run1 kd_ty kd_x78 2 (kd_call kd_ty kd_xt (kd_ctl kd_C78) 600 0) kd_T78.2.2 600 kd_S78 kd_S78_19 = true := by decide +kernel
theorem kd_h78 {g : kc_G} (hg : kc_ok g) : kd_hold g 15 kd_ty 78 kd_T78 := kd_mk (d0 := 14) (di := 0) hg kd_xk78 rfl rfl rfl rfl (kd_al_r kd_C78 ⟨kd_hold_le (kd_h64 hg) (by decide), kd_hold_le (kd_h238 hg) (by decide), kd_hold_le (kd_h237k2 hg) (by decide), trivial⟩) (by decide) (by decide +kernel) kd_e78 (kd_al_r kd_S78 ⟨kd_r78_0, kd_r78_1, kd_r78_2, kd_r78_3, kd_r78_4, kd_r78_5, kd_r78_6, kd_r78_7, kd_r78_8, kd_r78_9, kd_r78_10, kd_r78_11, kd_r78_12, kd_r78_13, kd_r78_14, kd_r78_15, kd_r78_16, kd_r78_17, kd_r78_18, kd_r78_19, trivial⟩)
def kd_P77 : List kd_P := [(some (0, 0, 4294967295), [], [(268, 271, 0, 0), (271, 271, 0, 2), (268, 270, 0, 5), (266, 266, 0, 9), (267, 267, 0, 17), (264, 264, 0, 59), (265, 265, 0, 299), (268, 271, 1, 1), (268, 271, 2, 2), (259, 259, 6, 10), (259, 259, 13, 13), (259, 259, 20, 25)])]
def kd_T77 : kd_Tc := ([(3, 259, 259), (0, 0, 4294967295)], [], kd_P77)
def kd_C77 : List (Nat × kd_Tc) := [(78, kd_T78), (79, kd_T79)]
def kd_S77 : List kd_St := []
theorem kd_e77 : kd_run0 kd_ty kd_x77 2 (kd_call kd_ty kd_xt (kd_ctl kd_C77) 600 1) kd_T77 600 kd_S77 = true := by decide +kernel
theorem kd_h77 {g : kc_G} (hg : kc_ok g) : kd_hold g 17 kd_ty 77 kd_T77 := kd_mk (d0 := 15) (di := 1) hg kd_xk77 rfl rfl rfl rfl (kd_al_r kd_C77 ⟨kd_hold_le (kd_h78 hg) (by decide), kd_hold_le (kd_h79 hg) (by decide), trivial⟩) (by decide) (by decide +kernel) kd_e77 (kd_al_r kd_S77 trivial)
def kd_P81 : List kd_P := [(some (0, 0, 4294967295), [], [(268, 271, 0, 0), (271, 271, 0, 2), (268, 270, 0, 5), (266, 266, 0, 9), (267, 267, 0, 17), (264, 264, 0, 59), (265, 265, 0, 299), (268, 271, 1, 1), (268, 271, 2, 2), (259, 259, 6, 10), (259, 259, 13, 13), (259, 259, 20, 25)])]
def kd_T81 : kd_Tc := ([(3, 259, 259), (0, 0, 4294967295), (0, 0, 4294967295), (0, 0, 4294967295)], [], kd_P81)
def kd_C81 : List (Nat × kd_Tc) := [(78, kd_T78), (242, kd_T242), (245, kd_T245)]
def kd_S81 : List kd_St := []
theorem kd_e81 : kd_run0 kd_ty kd_x81 5 (kd_call kd_ty kd_xt (kd_ctl kd_C81) 600 3) kd_T81 600 kd_S81 = true := by decide +kernel
theorem kd_h81 {g : kc_G} (hg : kc_ok g) : kd_hold g 19 kd_ty 81 kd_T81 := kd_mk (d0 := 15) (di := 3) hg kd_xk81 rfl rfl rfl rfl (kd_al_r kd_C81 ⟨kd_hold_le (kd_h78 hg) (by decide), kd_hold_le (kd_h242 hg) (by decide), kd_hold_le (kd_h245 hg) (by decide), trivial⟩) (by decide) (by decide +kernel) kd_e81 (kd_al_r kd_S81 trivial)
def kd_P84 : List kd_P := [(some (0, 0, 4294967295), [], [(268, 271, 0, 0), (271, 271, 0, 2), (268, 270, 0, 5), (266, 266, 0, 9), (267, 267, 0, 17), (264, 264, 0, 59), (265, 265, 0, 299), (268, 271, 1, 1), (268, 271, 2, 2), (259, 259, 6, 10), (259, 259, 13, 13), (259, 259, 20, 25)])]
def kd_T84 : kd_Tc := ([(3, 259, 259), (0, 0, 4294967295)], [], kd_P84)
def kd_C84 : List (Nat × kd_Tc) := [(78, kd_T78)]
def kd_S84 : List kd_St := []
theorem kd_e84 : kd_run0 kd_ty kd_x84 2 (kd_call kd_ty kd_xt (kd_ctl kd_C84) 600 2) kd_T84 600 kd_S84 = true := by decide +kernel
theorem kd_h84 {g : kc_G} (hg : kc_ok g) : kd_hold g 18 kd_ty 84 kd_T84 := kd_mk (d0 := 15) (di := 2) hg kd_xk84 rfl rfl rfl rfl (kd_al_r kd_C84 ⟨kd_hold_le (kd_h78 hg) (by decide), trivial⟩) (by decide) (by decide +kernel) kd_e84 (kd_al_r kd_S84 trivial)
end
section
-- 89.z0
/-! ===== by hand: divisor, tells, wholeChance of the reference ===== -/
theorem kx_rem (a b : Int64) : (a - a / b * b).toInt = a.toInt.tmod b.toInt := by
  rw [Int64.toInt_sub, Int64.toInt_mul, Int64.toInt_div, Int.bmod_mul_bmod, Int.sub_bmod_bmod, Int.mul_comm, ← Int.tmod_def, ← Int64.toInt_mod]
  exact Int64.toInt_bmod (a % b)
theorem kx_rem_lt {a b : Int64} (hb : ¬ b = 0) : (a - a / b * b).toInt.natAbs < b.toInt.natAbs := by
  rw [kx_rem, Int.natAbs_tmod]
  apply Nat.mod_lt
  have : ¬ b.toInt = 0 := fun e => hb (Int64.toInt_inj.mp (e.trans (by decide)))
  omega
theorem kx_j0 {b : Int64} : (kc_cnd .eq (kc_lcmp b (Int64.ofNat 0)).toInt 0 = true) ↔ b = 0 := by
  constructor
  · intro h
    by_cases e : b = 0
    · exact e
    · exfalso
      have e0 : ¬ b.toInt = 0 := fun q => e (Int64.toInt_inj.mp (q.trans (by decide)))
      unfold kc_lcmp at h
      rw [show (Int64.ofNat 0).toInt = 0 from by decide] at h
      by_cases h1 : 0 < b.toInt
      · rw [if_pos h1] at h; exact absurd h (by decide)
      · rw [if_neg h1, if_pos (by omega)] at h; exact absurd h (by decide)
  · intro h
    subst h
    decide
set_option maxRecDepth 20000 in
theorem km_dvl {g : kc_G} {d : Nat} {Q : Option kc_V → kc_H → Prop} {h : kc_H} {a b : Int64} (hQ : ∀ x : Int64, ¬ x = 0 → Q (some (.inr (.inl x))) h) : ∀ (m : Nat) (x y : Int64), y.toInt.natAbs < m → (y = 0 → ¬ x = 0) → kc_Ev g d wk_m150 Q 6 [(6, .inr (.inl (y))), (4, .inr (.inl (x))), (0, .inr (.inl (a))), (2, .inr (.inl (b)))] [] h := by
  intro m
  induction m with
  | zero => intro x y hm; omega
  | succ m ih =>
    intro x y hm hxy
    refine kx_go 4 (pc' := (if kc_cnd .eq (kc_lcmp y (Int64.ofNat 0)).toInt 0 then 31 else 13)) (L' := [(6, .inr (.inl (y))), (4, .inr (.inl (x))), (0, .inr (.inl (a))), (2, .inr (.inl (b)))]) (S' := []) (h' := h) (by with_unfolding_all rfl) ?_
    by_cases e : y = 0
    · rw [if_pos (kx_j0.mpr e)]
      refine kx_go 1 (pc' := 33) (L' := [(6, .inr (.inl (y))), (4, .inr (.inl (x))), (0, .inr (.inl (a))), (2, .inr (.inl (b)))]) (S' := [.inr (.inl (x))]) (h' := h) (by with_unfolding_all rfl) ?_
      exact kc_ret_ok rfl (rv := some (.inr (.inl x))) rfl (hQ x (hxy e))
    · rw [if_neg (fun q => e (kx_j0.mp q))]
      refine kx_go 2 (pc' := 17) (L' := [(6, .inr (.inl (y))), (4, .inr (.inl (x))), (0, .inr (.inl (a))), (2, .inr (.inl (b)))]) (S' := [.inr (.inl (y)), .inr (.inl (x))]) (h' := h) (by with_unfolding_all rfl) ?_
      refine ks_st 18 (L' := [(6, .inr (.inl (y))), (4, .inr (.inl (x))), (0, .inr (.inl (a))), (2, .inr (.inl (b)))]) (S' := [.inr (.inl (x - x / y * y))]) rfl (if_neg e) ?_
      refine kx_go 6 (pc' := 6) (L' := [(6, .inr (.inl (x - x / y * y))), (4, .inr (.inl (y))), (8, .inr (.inl (x - x / y * y))), (0, .inr (.inl (a))), (2, .inr (.inl (b)))]) (S' := []) (h' := h) (by with_unfolding_all rfl) ?_
      have hr := kx_rem_lt (a := x) e
      refine kf_lo (L := [(6, .inr (.inl (x - x / y * y))), (4, .inr (.inl (y))), (0, .inr (.inl (a))), (2, .inr (.inl (b)))]) ?_ (ih y (x - x / y * y) (by omega) (fun _ => e))
      intro q hq
      simp only [List.mem_cons, List.not_mem_nil, or_false] at hq
      rcases hq with rfl | rfl | rfl | rfl <;> rfl
set_option maxRecDepth 20000 in
theorem km_dv {g : kc_G} {d : Nat} {h : kc_H} {a b : Int64} (hg : kc_ok g) (hb : ¬ b = 0) : kc_Con g (d + 1) 150 [.inr (.inl a), .inr (.inl b)] h (fun rv h' => ∃ x : Int64, ¬ x = 0 ∧ rv = some (.inr (.inl x)) ∧ h' = h) := by
  refine kc_Con_new hg (M := wk_m150) rfl rfl rfl (show 4 ≤ 10 by decide) ?_
  refine kx_go 4 (pc' := 6) (L' := [(6, .inr (.inl (b))), (4, .inr (.inl (a))), (0, .inr (.inl (a))), (2, .inr (.inl (b)))]) (S' := []) (h' := h) (by with_unfolding_all rfl) ?_
  exact km_dvl (fun x hx => ⟨x, hx, rfl, rfl⟩) (b.toInt.natAbs + 1) a b (Nat.lt_succ_self _) (fun e => absurd e hb)
set_option maxRecDepth 20000 in
theorem km_tells {g : kc_G} {d : Nat} {h : kc_H} {a b : Int64} (hg : kc_ok g) (hb : ¬ b = 0) : kc_Con g (d + 2) 149 [.inr (.inr (.inl (some 259))), .inr (.inl a), .inr (.inl b)] h (fun rv h' => ∃ x y : Int64, rv = some (.inl (Int32.ofNat 1)) ∧ h' = kc_upd (kc_upd h 259 4 (.inr (.inl x))) 259 5 (.inr (.inl y))) := by
  refine kc_Con_new hg (M := wk_m149) rfl rfl rfl (show 5 ≤ 7 by decide) ?_
  refine kx_go 2 (pc' := 2) (L' := [(0, .inr (.inr (.inl (some 259)))), (1, .inr (.inl (a))), (3, .inr (.inl (b)))]) (S' := [.inr (.inl (b)), .inr (.inl (a))]) (h' := h) (by with_unfolding_all rfl) ?_
  refine kc_call_rule (M2 := wk_m150) (av := [.inr (.inl a), .inr (.inl b)]) (r := []) rfl rfl (km_dv (d := d) hg hb) (fun rv h' hq => ?_)
  obtain ⟨x, hx, rfl, rfl⟩ := hq
  show kc_Ev g (d + 1) wk_m149 _ 5 [(0, .inr (.inr (.inl (some 259)))), (1, .inr (.inl (a))), (3, .inr (.inl (b)))] [.inr (.inl (x))] h'
  refine kx_go 4 (pc' := 11) (L' := [(5, .inr (.inl (x))), (0, .inr (.inr (.inl (some 259)))), (1, .inr (.inl (a))), (3, .inr (.inl (b)))]) (S' := [.inr (.inl (x)), .inr (.inl (a)), .inr (.inr (.inl (some 259)))]) (h' := h') (by with_unfolding_all rfl) ?_
  refine ks_st 12 (L' := [(5, .inr (.inl (x))), (0, .inr (.inr (.inl (some 259)))), (1, .inr (.inl (a))), (3, .inr (.inl (b)))]) (S' := [.inr (.inl (a / x)), .inr (.inr (.inl (some 259)))]) rfl (if_neg hx) ?_
  refine kx_go 1 (pc' := 15) (L' := [(5, .inr (.inl (x))), (0, .inr (.inr (.inl (some 259)))), (1, .inr (.inl (a))), (3, .inr (.inl (b)))]) (S' := []) (h' := (kc_upd h' 259 4 (.inr (.inl (a / x))))) (by with_unfolding_all rfl) ?_
  refine kx_go 3 (pc' := 19) (L' := [(5, .inr (.inl (x))), (0, .inr (.inr (.inl (some 259)))), (1, .inr (.inl (a))), (3, .inr (.inl (b)))]) (S' := [.inr (.inl (x)), .inr (.inl (b)), .inr (.inr (.inl (some 259)))]) (h' := (kc_upd h' 259 4 (.inr (.inl (a / x))))) (by with_unfolding_all rfl) ?_
  refine ks_st 20 (L' := [(5, .inr (.inl (x))), (0, .inr (.inr (.inl (some 259)))), (1, .inr (.inl (a))), (3, .inr (.inl (b)))]) (S' := [.inr (.inl (b / x)), .inr (.inr (.inl (some 259)))]) rfl (if_neg hx) ?_
  refine kx_go 2 (pc' := 24) (L' := [(5, .inr (.inl (x))), (0, .inr (.inr (.inl (some 259)))), (1, .inr (.inl (a))), (3, .inr (.inl (b)))]) (S' := [.inl (Int32.ofNat 1)]) (h' := (kc_upd (kc_upd h' 259 4 (.inr (.inl (a / x)))) 259 5 (.inr (.inl (b / x))))) (by with_unfolding_all rfl) ?_
  exact kc_ret_ok rfl (rv := some (.inl (Int32.ofNat 1))) rfl ⟨a / x, b / x, rfl, rfl⟩
theorem kx_hmul (w : Nat) : Int64.ofNat w * Int64.ofNat 100 = Int64.ofNat (w * 100) := (Int64.ofNat_mul w 100).symm
set_option maxRecDepth 20000 in
theorem km_whl {g : kc_G} {d : Nat} {Q : Option kc_V → kc_H → Prop} {h : kc_H} {n : Nat} (hn : n ≤ 10) (he : h 259 47 = .inl (Int32.ofNat n)) (hQ : Q (some (.inr (.inl (Int64.ofNat (100 ^ n))))) h) : ∀ (m k : Nat), n - k = m → k ≤ n → kc_Ev g d wk_m148 Q 4 [(3, .inl (Int32.ofNat k)), (1, .inr (.inl (Int64.ofNat (100 ^ k)))), (0, .inr (.inr (.inl (some 259))))] [] h := by
  intro m
  induction m with
  | zero =>
    intro k hm hk
    refine kx_go 2 (pc' := 6) (L' := [(3, .inl (Int32.ofNat k)), (1, .inr (.inl (Int64.ofNat (100 ^ k)))), (0, .inr (.inr (.inl (some 259))))]) (S' := [.inr (.inr (.inl (some 259))), .inl (Int32.ofNat k)]) (h' := h) (by with_unfolding_all rfl) ?_
    refine kx_getf (c := 259) rfl (by decide) he ?_
    refine kx_go 1 (pc' := (if kc_cnd .ge (Int32.ofNat k).toInt (Int32.ofNat n).toInt then 24 else 12)) (L' := [(3, .inl (Int32.ofNat k)), (1, .inr (.inl (Int64.ofNat (100 ^ k)))), (0, .inr (.inr (.inl (some 259))))]) (S' := []) (h' := h) (by with_unfolding_all rfl) ?_
    rw [if_pos ((kx_ge (by omega) (by omega)).mpr (by omega))]
    refine kx_go 1 (pc' := 25) (L' := [(3, .inl (Int32.ofNat k)), (1, .inr (.inl (Int64.ofNat (100 ^ k)))), (0, .inr (.inr (.inl (some 259))))]) (S' := [.inr (.inl (Int64.ofNat (100 ^ k)))]) (h' := h) (by with_unfolding_all rfl) ?_
    obtain rfl : k = n := by omega
    exact kc_ret_ok rfl (rv := some (.inr (.inl (Int64.ofNat (100 ^ k))))) rfl hQ
  | succ m ih =>
    intro k hm hk
    refine kx_go 2 (pc' := 6) (L' := [(3, .inl (Int32.ofNat k)), (1, .inr (.inl (Int64.ofNat (100 ^ k)))), (0, .inr (.inr (.inl (some 259))))]) (S' := [.inr (.inr (.inl (some 259))), .inl (Int32.ofNat k)]) (h' := h) (by with_unfolding_all rfl) ?_
    refine kx_getf (c := 259) rfl (by decide) he ?_
    refine kx_go 1 (pc' := (if kc_cnd .ge (Int32.ofNat k).toInt (Int32.ofNat n).toInt then 24 else 12)) (L' := [(3, .inl (Int32.ofNat k)), (1, .inr (.inl (Int64.ofNat (100 ^ k)))), (0, .inr (.inr (.inl (some 259))))]) (S' := []) (h' := h) (by with_unfolding_all rfl) ?_
    rw [if_neg (fun q => by have := (kx_ge (by omega) (by omega)).mp q; omega)]
    refine kx_go 6 (pc' := 4) (L' := [(3, .inl ((Int32.ofNat k) + Int32.ofInt 1)), (1, .inr (.inl ((Int64.ofNat (100 ^ k)) * (Int64.ofNat 100)))), (0, .inr (.inr (.inl (some 259))))]) (S' := []) (h' := h) (by with_unfolding_all rfl) ?_
    rw [kx_inc, kx_hmul, ← Nat.pow_succ]
    exact ih (k + 1) (by omega) (by omega)
theorem km_wpos : ∀ n, n ≤ 10 → 9223372036854775809 ≤ kd_nj (Int64.ofNat (100 ^ n)) := by
  intro n hn
  have : ∀ n, n < 11 → 9223372036854775809 ≤ kd_nj (Int64.ofNat (100 ^ n)) := by decide +kernel
  exact this n (by omega)
def kd_T148b : kd_Tc := ([(3, 259, 259)], [], [(some (2, 9223372036854775809, 18446744073709551615), [], [])])
theorem kd_h148b {g : kc_G} (hg : kc_ok g) : kd_hold g 1 kd_ty 148 kd_T148b := by
  intro xs h hw hv hF
  match xs, hv with
  | [], hv => exact hv.elim
  | _ :: _ :: _, hv => exact hv.2.elim
  | [x1], hv =>
    have h1 := kx_ofr hv.1
    subst h1
    obtain ⟨n, hn, en⟩ := kx_ofg (u := 10) (by omega) (hw 259 47 _ (by decide +kernel))
    refine kc_Con_new hg (M := wk_m148) rfl rfl rfl (show 1 ≤ 4 by decide) ?_
    refine kx_go 4 (pc' := 4) (L' := [(3, .inl (Int32.ofNat 0)), (1, .inr (.inl (Int64.ofNat (100 ^ 0)))), (0, .inr (.inr (.inl (some 259))))]) (S' := []) (h' := h) (by with_unfolding_all rfl) ?_
    exact km_whl hn en ⟨_, List.mem_cons_self, ⟨_, rfl, km_wpos n hn, kd_nj_J _⟩, fun q hq => (by cases hq), hw, fun c i _ => rfl⟩ n 0 (by omega) (by omega)
def kd_T149 : kd_Tc := ([(3, 259, 259), kd_tJ, (2, 9223372036854775809, 18446744073709551615)], [], [(some (0, 2147483649, 2147483649), [], [(259, 259, 4, 5)])])
theorem kd_h149 {g : kc_G} (hg : kc_ok g) : kd_hold g 2 kd_ty 149 kd_T149 := by
  intro xs h hw hv hF
  match xs, hv with
  | [], hv => exact hv.elim
  | [_], hv => exact hv.2.elim
  | [_, _], hv => exact hv.2.2.elim
  | _ :: _ :: _ :: _ :: _, hv => exact hv.2.2.2.elim
  | [x0, x1, x2], hv =>
    obtain ⟨h0, h1, h2, -⟩ := hv
    have h0 := kx_ofr h0
    subst h0
    obtain ⟨a, rfl, -, -⟩ := h1
    obtain ⟨b, rfl, hb1, -⟩ := h2
    have hb : ¬ b = 0 := fun e => by
      subst e
      revert hb1
      decide
    refine kc_Con_mono (km_tells (d := 0) hg hb) (fun rv h' hq => ?_)
    obtain ⟨x, y, rfl, rfl⟩ := hq
    refine ⟨_, List.mem_cons_self, ⟨_, rfl, by decide, by decide⟩, fun q hq => (by cases hq), kf_wtJ (by decide +kernel) (kf_wtJ (by decide +kernel) hw), fun c i hn => ?_⟩
    have hn := kd_inr_f (hn (259, 259, 4, 5) List.mem_cons_self)
    simp only at hn
    unfold kc_upd
    rw [if_neg (by omega), if_neg (by omega)]
end
