/-! ===== by hand: the reference's loop over the items ===== -/
set_option maxRecDepth 20000 in
theorem km_rdl0 {g : kc_G} {d : Nat} {Q : Option kc_V → kc_H → Prop} {n : Nat} {t : Nat → Nat} (hg : kc_ok g) (hn : n ≤ 240) (hb : ∀ j, j < 240 → t j < 256) : ∀ (u it : Nat) (h : kc_H) (p u0 : Nat), 61 - it = u → 4 * it ≤ p → p ≤ n → u0 < 1000 → h 260 (160 + 0) = .inl (Int32.ofNat n) → (∀ j, j < 240 → h 260 (170 + 240 * 0 + j) = .inl (Int32.ofNat (t j))) →
    (∀ l, kp_its t n 9 0 u p = some l → ∀ a2 s2 k2 u2, (s2 ≤ n ∧ a2 ≤ n ∧ k2 < 27 ∧ u2 < 1000) → Q (some (.inl (Int32.ofNat 1))) (km_H (kmj (km_ns h it l) (it + l.length)) 0 a2 s2 k2 u2)) →
    (kp_its t n 9 0 u p = none → ∀ (h2 : kc_H) (it2 a2 s2 k2 u2 : Nat), km_D h h2 → it2 ≤ 60 → (s2 ≤ n ∧ a2 ≤ n ∧ k2 < 27 ∧ u2 < 1000) → Q (some (.inl (Int32.ofNat 0))) (km_H (kmj h2 it2) 0 a2 s2 k2 u2)) → kc_Ev g (d + 4) wk_m64 Q 19 [(0, .inr (.inr (.inl (some 259)))), (1, .inl (Int32.ofNat 0))] [] (km_H (kmj h it) 0 (kp_nx t n (kp_start t n p)) (kp_start t n p) (kp_tk t n (kp_start t n p)) (kp_vv t n (kp_start t n p) u0)) := by
  have hx : 0 < 2 := by decide
  intro u
  induction u with
  | zero =>
    intro it h p u0 hu h4 hp hu0 hnt ht hok hbad
    omega
  | succ u ih =>
    intro it h p u0 hu h4 hp hu0 hnt ht hok hbad
    have hst := kp_start_le (t := t) hp
    have hnx := kp_nx_le (t := t) hst.2
    obtain ⟨q0, q2, q3, qlt⟩ := kq_k (t := t) (n := n) (S := kp_start t n p)
    have hvv := kp_vv_lt (t := t) (n := n) (S := kp_start t n p) hu0
    refine kx_go 3 (pc' := (if kc_cnd .eq (Int32.ofNat (kp_tk t n (kp_start t n p))).toInt 0 then 212 else 26)) (L' := [(0, .inr (.inr (.inl (some 259)))), (1, .inl (Int32.ofNat 0))]) (S' := []) (h' := (km_H (kmj h it) 0 (kp_nx t n (kp_start t n p)) (kp_start t n p) (kp_tk t n (kp_start t n p)) (kp_vv t n (kp_start t n p) u0))) (by with_unfolding_all rfl) ?_
    by_cases e0 : kp_tk t n (kp_start t n p) = 0
    · rw [if_pos (by rw [e0]; decide)]
      refine kx_go 1 (pc' := 213) (L' := [(0, .inr (.inr (.inl (some 259)))), (1, .inl (Int32.ofNat 0))]) (S' := [.inl (Int32.ofNat 1)]) (h' := (km_H (kmj h it) 0 (kp_nx t n (kp_start t n p)) (kp_start t n p) (kp_tk t n (kp_start t n p)) (kp_vv t n (kp_start t n p) u0))) (by with_unfolding_all rfl) ?_
      exact kc_ret_ok rfl (rv := some (.inl (Int32.ofNat 1))) rfl (hok [] (by unfold kp_its; rw [if_pos (q0.mpr e0)]) _ _ _ _ ⟨hst.2, hnx.2, qlt, hvv⟩)
    · have hkd0 : ¬ kp_kd t n (kp_start t n p) = 0 := fun e => e0 (q0.mp e)
      have hit : it < 60 := by
        have : ¬ n ≤ kp_start t n p := fun q => hkd0 (if_pos q)
        omega
      rw [if_neg (fun w => by unfold kc_cnd at w; rw [kx_ti (by omega)] at w; simp only [decide_eq_true_eq] at w; omega)]
      refine kx_go 9 (pc' := 43) (L' := [(2, .inl (Int32.ofNat (kp_tk t n (kp_start t n p)))), (0, .inr (.inr (.inl (some 259)))), (1, .inl (Int32.ofNat 0))]) (S' := [.inr (.inl (Int64.ofNat 18)), .inr (.inl (Int64.ofNat 10)), .inr (.inl ((Int32.ofNat (kp_tk t n (kp_start t n p))).toInt64))]) (h' := (km_H (kmj h it) 0 (kp_nx t n (kp_start t n p)) (kp_start t n p) (kp_tk t n (kp_start t n p)) (kp_vv t n (kp_start t n p) u0))) (by with_unfolding_all rfl) ?_
      rw [kx_i2l (by omega)]
      refine kc_call_rule (M2 := wk_m22) (av := [.inr (.inl (Int64.ofNat (kp_tk t n (kp_start t n p)))), .inr (.inl (Int64.ofNat 10)), .inr (.inl (Int64.ofNat 18))]) (r := []) rfl rfl (kc_Con_le (km_lies hg (by omega) (by omega) (by omega)) (by omega)) (fun rv h' hq => ?_)
      obtain ⟨rfl, rfl⟩ := hq
      show kc_Ev g (d + 4) wk_m64 Q 46 [(2, .inl (Int32.ofNat (kp_tk t n (kp_start t n p)))), (0, .inr (.inr (.inl (some 259)))), (1, .inl (Int32.ofNat 0))] [.inl (kp_b (decide (10 ≤ kp_tk t n (kp_start t n p) ∧ kp_tk t n (kp_start t n p) ≤ 18)))] (km_H (kmj h it) 0 (kp_nx t n (kp_start t n p)) (kp_start t n p) (kp_tk t n (kp_start t n p)) (kp_vv t n (kp_start t n p) u0))
      refine kx_go 1 (pc' := (if kc_cnd .ne (kp_b (decide (10 ≤ kp_tk t n (kp_start t n p) ∧ kp_tk t n (kp_start t n p) ≤ 18))).toInt 0 then 68 else 49)) (L' := [(2, .inl (Int32.ofNat (kp_tk t n (kp_start t n p)))), (0, .inr (.inr (.inl (some 259)))), (1, .inl (Int32.ofNat 0))]) (S' := []) (h' := (km_H (kmj h it) 0 (kp_nx t n (kp_start t n p)) (kp_start t n p) (kp_tk t n (kp_start t n p)) (kp_vv t n (kp_start t n p) u0))) (by with_unfolding_all rfl) ?_
      have hvb := kq_t0 (t := t) (n := n) (S := kp_start t n p)
      cases e1 : decide (10 ≤ kp_tk t n (kp_start t n p) ∧ kp_tk t n (kp_start t n p) ≤ 18) with
      | false =>
        rw [if_neg (fun w => by have := kx_b1.mp w; cases this)]
        rw [if_neg (of_decide_eq_false e1)] at hvb
        refine kx_go 2 (pc' := 67) (L' := [(2, .inl (Int32.ofNat (kp_tk t n (kp_start t n p)))), (0, .inr (.inr (.inl (some 259)))), (1, .inl (Int32.ofNat 0))]) (S' := [.inl (Int32.ofNat 0)]) (h' := (km_H (kmj h it) 0 (kp_nx t n (kp_start t n p)) (kp_start t n p) (kp_tk t n (kp_start t n p)) (kp_vv t n (kp_start t n p) u0))) (by with_unfolding_all rfl) ?_
        exact kc_ret_ok rfl (rv := some (.inl (Int32.ofNat 0))) rfl (hbad (by unfold kp_its; rw [if_neg hkd0]; unfold kp_item; rw [hvb]) h it _ _ _ _ km_D_rf (by omega) ⟨hst.2, hnx.2, qlt, hvv⟩)
      | true =>
        rw [if_pos (kx_b1.mpr rfl)]
        have e1 := of_decide_eq_true e1
        rw [if_pos e1] at hvb
        obtain ⟨v, hv⟩ : ∃ v, v = kp_tk t n (kp_start t n p) - 10 := ⟨_, rfl⟩
        rw [← hv] at hvb
        have etv : kp_tk t n (kp_start t n p) = kp_tv v := by
          unfold kp_tv
          split <;> omega
        have hv16 : v < 16 := by omega
        obtain ⟨hi, hi4⟩ := kr_shl v hv16
        refine kf_lo (L := [(2, .inl (Int32.ofNat (kp_tv v))), (0, .inr (.inr (.inl (some 259)))), (1, .inl (Int32.ofNat 0))]) ?_ ?_
        · intro q hq
          simp only [List.mem_cons, List.not_mem_nil, or_false] at hq
          rcases hq with rfl | rfl | rfl
          · show some (Sum.inl (Int32.ofNat (kp_tk t n (kp_start t n p)))) = some (Sum.inl (Int32.ofNat (kp_tv v)))
            rw [etv]
          · rfl
          · rfl
        refine kx_go 1 (pc' := 69) (L' := [(2, .inl (Int32.ofNat (kp_tv v))), (0, .inr (.inr (.inl (some 259)))), (1, .inl (Int32.ofNat 0))]) (S' := [.inr (.inr (.inl (some 259)))]) (h' := (km_H (kmj h it) 0 (kp_nx t n (kp_start t n p)) (kp_start t n p) (kp_tk t n (kp_start t n p)) (kp_vv t n (kp_start t n p) u0))) (by with_unfolding_all rfl) ?_
        refine kc_call_rule (M2 := wk_m65) (av := [.inr (.inr (.inl (some 259)))]) (r := []) rfl rfl (kc_Con_le (km_scan hg hx hn ((kmj_o (by decide)).trans hnt) (fun j hj => (kmj_o (by decide)).trans (ht j hj)) hb hnx.2) (by omega)) (fun rv h' hq => ?_)
        obtain ⟨rfl, rfl⟩ := hq
        show kc_Ev g (d + 4) wk_m64 Q 72 [(2, .inl (Int32.ofNat (kp_tv v))), (0, .inr (.inr (.inl (some 259)))), (1, .inl (Int32.ofNat 0))] [] (km_H (kmj h it) 0 (kp_nx t n (kp_start t n (kp_nx t n (kp_start t n p)))) (kp_start t n (kp_nx t n (kp_start t n p))) (kp_tk t n (kp_start t n (kp_nx t n (kp_start t n p)))) (kp_vv t n (kp_start t n (kp_nx t n (kp_start t n p))) (kp_vv t n (kp_start t n p) u0)))
        refine kx_go 2 (pc' := 74) (L' := [(3, .inl (Int32.ofNat 0)), (2, .inl (Int32.ofNat (kp_tv v))), (0, .inr (.inr (.inl (some 259)))), (1, .inl (Int32.ofNat 0))]) (S' := []) (h' := (km_H (kmj h it) 0 (kp_nx t n (kp_start t n (kp_nx t n (kp_start t n p)))) (kp_start t n (kp_nx t n (kp_start t n p))) (kp_tk t n (kp_start t n (kp_nx t n (kp_start t n p)))) (kp_vv t n (kp_start t n (kp_nx t n (kp_start t n p))) (kp_vv t n (kp_start t n p) u0)))) (by with_unfolding_all rfl) ?_
        refine km_arl (d := d) hg hx hn hb hv16 hit (ks_L (kp_sh v)) 0 h _ _ rfl (Nat.zero_le _) hnt ht hnx.2 hvv (fun vs e hev u2 hu2 => ?_) (fun hev h2 a2 s2 k2 u2 hh hb2 => ?_)
        · obtain ⟨b1, b2, b3⟩ := kp_ar_le _ _ _ _ _ hnx.2 hev
          have hlt := kp_ar_lt _ _ _ _ _ hev
          have hst2 := kp_start_le (t := t) b2
          have hnx2 := kp_nx_le (t := t) hst2.2
          obtain ⟨r0, r2, r3, rlt⟩ := kq_k (t := t) (n := n) (S := kp_start t n e)
          have hvv2 := kp_vv_lt (t := t) (n := n) (S := kp_start t n e) hu2
          have hDw := km_D_nw hit vs h 0 (by rw [b3]; omega) hlt
          refine kx_go 4 (pc' := (if kc_cnd .eq (Int32.ofNat (kp_tk t n (kp_start t n e))).toInt (Int32.ofNat 3).toInt then 185 else 183)) (L' := [(2, .inl (Int32.ofNat (kp_tv v))), (0, .inr (.inr (.inl (some 259)))), (1, .inl (Int32.ofNat 0))]) (S' := []) (h' := (km_H (kmj (km_nw h it 0 vs) it) 0 (kp_nx t n (kp_start t n e)) (kp_start t n e) (kp_tk t n (kp_start t n e)) (kp_vv t n (kp_start t n e) u2))) (by with_unfolding_all rfl) ?_
          by_cases e3 : kp_tk t n (kp_start t n e) = 3
          · rw [if_pos ((kx_eq (by omega) (by omega)).mpr e3)]
            have hitem : kp_item t n 9 0 (kp_nx t n (kp_start t n p)) (kp_kd t n (kp_start t n p)) (kp_start t n p) = some ((v, vs), kp_nx t n (kp_start t n e)) := by
              unfold kp_item
              rw [hvb]
              simp only
              rw [hev]
              simp only
              rw [if_pos (r3.mpr e3)]
            obtain ⟨c1, c2, c3, c4, c5, c6⟩ := kp_item_le (by omega) hnx.1 hnx.2 hitem
            refine kx_go 5 (pc' := 194) (L' := [(2, .inl (Int32.ofNat (kp_tv v))), (0, .inr (.inr (.inl (some 259)))), (1, .inl (Int32.ofNat 0))]) (S' := [.inl (Int32.ofNat (kp_tv v)), .inl (Int32.ofNat it), .inr (.inr (.inl (some 264)))]) (h' := (km_H (kmj (km_nw h it 0 vs) it) 0 (kp_nx t n (kp_start t n e)) (kp_start t n e) (kp_tk t n (kp_start t n e)) (kp_vv t n (kp_start t n e) u2))) (by with_unfolding_all rfl) ?_
            refine kx_iast rfl (c := 264) (j := it) (m := 240) rfl (by decide) (by decide) (by omega) ?_
            rw [kmj_u (by decide)]
            show kc_Ev g (d + 4) wk_m64 Q 195 [(2, .inl (Int32.ofNat (kp_tv v))), (0, .inr (.inr (.inl (some 259)))), (1, .inl (Int32.ofNat 0))] [] (km_H (kmj (km_n1 h it (v, vs)) it) 0 (kp_nx t n (kp_start t n e)) (kp_start t n e) (kp_tk t n (kp_start t n e)) (kp_vv t n (kp_start t n e) u2))
            refine kx_go 5 (pc' := 202) (L' := [(2, .inl (Int32.ofNat (kp_tv v))), (0, .inr (.inr (.inl (some 259)))), (1, .inl (Int32.ofNat 0))]) (S' := [.inl ((Int32.ofNat it) + (Int32.ofNat 1)), .inr (.inr (.inl (some 259)))]) (h' := (km_H (kmj (km_n1 h it (v, vs)) it) 0 (kp_nx t n (kp_start t n e)) (kp_start t n e) (kp_tk t n (kp_start t n e)) (kp_vv t n (kp_start t n e) u2))) (by with_unfolding_all rfl) ?_
            refine kx_go 1 (pc' := 205) (L' := [(2, .inl (Int32.ofNat (kp_tv v))), (0, .inr (.inr (.inl (some 259)))), (1, .inl (Int32.ofNat 0))]) (S' := []) (h' := kc_upd (km_H (kmj (km_n1 h it (v, vs)) it) 0 (kp_nx t n (kp_start t n e)) (kp_start t n e) (kp_tk t n (kp_start t n e)) (kp_vv t n (kp_start t n e) u2)) 259 13 (.inl (Int32.ofNat it + Int32.ofNat 1))) (by with_unfolding_all rfl) ?_
            rw [kx_inc1, kmj_13]
            have hD := km_D_n1 (h := h) (q := (v, vs)) hit (by show vs.length ≤ 4; rw [b3]; omega) hv16 hlt
            have hnt2 : km_n1 h it (v, vs) 260 (160 + 0) = .inl (Int32.ofNat n) := (km_D_n hD (by decide) (by decide)).trans hnt
            have ht2 : ∀ j, j < 240 → km_n1 h it (v, vs) 260 (170 + 240 * 0 + j) = .inl (Int32.ofNat (t j)) := fun j hj => (km_D_n hD (by decide) (by decide)).trans (ht j hj)
            refine kx_go 1 (pc' := 206) (L' := [(2, .inl (Int32.ofNat (kp_tv v))), (0, .inr (.inr (.inl (some 259)))), (1, .inl (Int32.ofNat 0))]) (S' := [.inr (.inr (.inl (some 259)))]) (h' := (km_H (kmj (km_n1 h it (v, vs)) (it + 1)) 0 (kp_nx t n (kp_start t n e)) (kp_start t n e) (kp_tk t n (kp_start t n e)) (kp_vv t n (kp_start t n e) u2))) (by with_unfolding_all rfl) ?_
            refine kc_call_rule (M2 := wk_m65) (av := [.inr (.inr (.inl (some 259)))]) (r := []) rfl rfl (kc_Con_le (km_scan hg hx hn ((kmj_o (by decide)).trans hnt2) (fun j hj => (kmj_o (by decide)).trans (ht2 j hj)) hb hnx2.2) (by omega)) (fun rv h' hq => ?_)
            obtain ⟨rfl, rfl⟩ := hq
            show kc_Ev g (d + 4) wk_m64 Q 209 [(2, .inl (Int32.ofNat (kp_tv v))), (0, .inr (.inr (.inl (some 259)))), (1, .inl (Int32.ofNat 0))] [] (km_H (kmj (km_n1 h it (v, vs)) (it + 1)) 0 (kp_nx t n (kp_start t n (kp_nx t n (kp_start t n e)))) (kp_start t n (kp_nx t n (kp_start t n e))) (kp_tk t n (kp_start t n (kp_nx t n (kp_start t n e)))) (kp_vv t n (kp_start t n (kp_nx t n (kp_start t n e))) (kp_vv t n (kp_start t n e) u2)))
            refine kx_go 1 (pc' := 19) (L' := [(2, .inl (Int32.ofNat (kp_tv v))), (0, .inr (.inr (.inl (some 259)))), (1, .inl (Int32.ofNat 0))]) (S' := []) (h' := (km_H (kmj (km_n1 h it (v, vs)) (it + 1)) 0 (kp_nx t n (kp_start t n (kp_nx t n (kp_start t n e)))) (kp_start t n (kp_nx t n (kp_start t n e))) (kp_tk t n (kp_start t n (kp_nx t n (kp_start t n e)))) (kp_vv t n (kp_start t n (kp_nx t n (kp_start t n e))) (kp_vv t n (kp_start t n e) u2)))) (by with_unfolding_all rfl) ?_
            refine kf_lo (L := [(0, .inr (.inr (.inl (some 259)))), (1, .inl (Int32.ofNat 0))]) ?_ (ih (it + 1) (km_n1 h it (v, vs)) _ _ (by omega) (by simp only at c1; omega) hnx2.2 hvv2 hnt2 ht2 (fun l hl a2 s2 k2 u3 hb3 => ?_) (fun hl h2 it2 a2 s2 k2 u3 hh a1 hb3 => ?_))
            · intro q hq
              simp only [List.mem_cons, List.not_mem_nil, or_false] at hq
              rcases hq with rfl | rfl <;> rfl
            · have := hok ((v, vs) :: l) (by unfold kp_its; rw [if_neg hkd0, hitem]; simp only; rw [hl]) a2 s2 k2 u3 hb3
              rw [show it + 1 + l.length = it + ((v, vs) :: l).length from by rw [List.length_cons]; omega]
              exact this
            · exact hbad (by unfold kp_its; rw [if_neg hkd0, hitem]; simp only; rw [hl]) h2 it2 a2 s2 k2 u3 (km_D_tr hD hh) a1 hb3
          · rw [if_neg (fun w => e3 ((kx_eq (by omega) (by omega)).mp w))]
            refine kx_go 1 (pc' := 184) (L' := [(2, .inl (Int32.ofNat (kp_tv v))), (0, .inr (.inr (.inl (some 259)))), (1, .inl (Int32.ofNat 0))]) (S' := [.inl (Int32.ofNat 0)]) (h' := (km_H (kmj (km_nw h it 0 vs) it) 0 (kp_nx t n (kp_start t n e)) (kp_start t n e) (kp_tk t n (kp_start t n e)) (kp_vv t n (kp_start t n e) u2))) (by with_unfolding_all rfl) ?_
            exact kc_ret_ok rfl (rv := some (.inl (Int32.ofNat 0))) rfl (hbad (by unfold kp_its; rw [if_neg hkd0]; unfold kp_item; rw [hvb]; simp only; rw [hev]; simp only; rw [if_neg (fun w => e3 (r3.mp w))]) _ it _ _ _ _ hDw (by omega) ⟨hst2.2, hnx2.2, rlt, hvv2⟩)
        · exact hbad (by unfold kp_its; rw [if_neg hkd0]; unfold kp_item; rw [hvb]; simp only; rw [hev]) h2 it a2 s2 k2 u2 hh (by omega) hb2
set_option maxRecDepth 20000 in
theorem km_rdl1 {g : kc_G} {d : Nat} {Q : Option kc_V → kc_H → Prop} {n : Nat} {t : Nat → Nat} (hg : kc_ok g) (hn : n ≤ 240) (hb : ∀ j, j < 240 → t j < 256) : ∀ (u it : Nat) (h : kc_H) (p u0 : Nat), 61 - it = u → 4 * it ≤ p → p ≤ n → u0 < 1000 → h 260 (160 + 1) = .inl (Int32.ofNat n) → (∀ j, j < 240 → h 260 (170 + 240 * 1 + j) = .inl (Int32.ofNat (t j))) →
    (∀ l, kp_its t n 7 9 u p = some l → ∀ a2 s2 k2 u2, (s2 ≤ n ∧ a2 ≤ n ∧ k2 < 27 ∧ u2 < 1000) → Q (some (.inl (Int32.ofNat 1))) (km_H (kmj (km_ns h it l) (it + l.length)) 1 a2 s2 k2 u2)) →
    (kp_its t n 7 9 u p = none → ∀ (h2 : kc_H) (it2 a2 s2 k2 u2 : Nat), km_D h h2 → it2 ≤ 60 → (s2 ≤ n ∧ a2 ≤ n ∧ k2 < 27 ∧ u2 < 1000) → Q (some (.inl (Int32.ofNat 0))) (km_H (kmj h2 it2) 1 a2 s2 k2 u2)) → kc_Ev g (d + 4) wk_m64 Q 19 [(0, .inr (.inr (.inl (some 259)))), (1, .inl (Int32.ofNat 1))] [] (km_H (kmj h it) 1 (kp_nx t n (kp_start t n p)) (kp_start t n p) (kp_tk t n (kp_start t n p)) (kp_vv t n (kp_start t n p) u0)) := by
  have hx : 1 < 2 := by decide
  intro u
  induction u with
  | zero =>
    intro it h p u0 hu h4 hp hu0 hnt ht hok hbad
    omega
  | succ u ih =>
    intro it h p u0 hu h4 hp hu0 hnt ht hok hbad
    have hst := kp_start_le (t := t) hp
    have hnx := kp_nx_le (t := t) hst.2
    obtain ⟨q0, q2, q3, qlt⟩ := kq_k (t := t) (n := n) (S := kp_start t n p)
    have hvv := kp_vv_lt (t := t) (n := n) (S := kp_start t n p) hu0
    refine kx_go 3 (pc' := (if kc_cnd .eq (Int32.ofNat (kp_tk t n (kp_start t n p))).toInt 0 then 212 else 26)) (L' := [(0, .inr (.inr (.inl (some 259)))), (1, .inl (Int32.ofNat 1))]) (S' := []) (h' := (km_H (kmj h it) 1 (kp_nx t n (kp_start t n p)) (kp_start t n p) (kp_tk t n (kp_start t n p)) (kp_vv t n (kp_start t n p) u0))) (by with_unfolding_all rfl) ?_
    by_cases e0 : kp_tk t n (kp_start t n p) = 0
    · rw [if_pos (by rw [e0]; decide)]
      refine kx_go 1 (pc' := 213) (L' := [(0, .inr (.inr (.inl (some 259)))), (1, .inl (Int32.ofNat 1))]) (S' := [.inl (Int32.ofNat 1)]) (h' := (km_H (kmj h it) 1 (kp_nx t n (kp_start t n p)) (kp_start t n p) (kp_tk t n (kp_start t n p)) (kp_vv t n (kp_start t n p) u0))) (by with_unfolding_all rfl) ?_
      exact kc_ret_ok rfl (rv := some (.inl (Int32.ofNat 1))) rfl (hok [] (by unfold kp_its; rw [if_pos (q0.mpr e0)]) _ _ _ _ ⟨hst.2, hnx.2, qlt, hvv⟩)
    · have hkd0 : ¬ kp_kd t n (kp_start t n p) = 0 := fun e => e0 (q0.mp e)
      have hit : it < 60 := by
        have : ¬ n ≤ kp_start t n p := fun q => hkd0 (if_pos q)
        omega
      rw [if_neg (fun w => by unfold kc_cnd at w; rw [kx_ti (by omega)] at w; simp only [decide_eq_true_eq] at w; omega)]
      refine kx_go 9 (pc' := 60) (L' := [(2, .inl (Int32.ofNat (kp_tk t n (kp_start t n p)))), (0, .inr (.inr (.inl (some 259)))), (1, .inl (Int32.ofNat 1))]) (S' := [.inr (.inl (Int64.ofNat 26)), .inr (.inl (Int64.ofNat 20)), .inr (.inl ((Int32.ofNat (kp_tk t n (kp_start t n p))).toInt64))]) (h' := (km_H (kmj h it) 1 (kp_nx t n (kp_start t n p)) (kp_start t n p) (kp_tk t n (kp_start t n p)) (kp_vv t n (kp_start t n p) u0))) (by with_unfolding_all rfl) ?_
      rw [kx_i2l (by omega)]
      refine kc_call_rule (M2 := wk_m22) (av := [.inr (.inl (Int64.ofNat (kp_tk t n (kp_start t n p)))), .inr (.inl (Int64.ofNat 20)), .inr (.inl (Int64.ofNat 26))]) (r := []) rfl rfl (kc_Con_le (km_lies hg (by omega) (by omega) (by omega)) (by omega)) (fun rv h' hq => ?_)
      obtain ⟨rfl, rfl⟩ := hq
      show kc_Ev g (d + 4) wk_m64 Q 63 [(2, .inl (Int32.ofNat (kp_tk t n (kp_start t n p)))), (0, .inr (.inr (.inl (some 259)))), (1, .inl (Int32.ofNat 1))] [.inl (kp_b (decide (20 ≤ kp_tk t n (kp_start t n p) ∧ kp_tk t n (kp_start t n p) ≤ 26)))] (km_H (kmj h it) 1 (kp_nx t n (kp_start t n p)) (kp_start t n p) (kp_tk t n (kp_start t n p)) (kp_vv t n (kp_start t n p) u0))
      refine kx_go 1 (pc' := (if kc_cnd .ne (kp_b (decide (20 ≤ kp_tk t n (kp_start t n p) ∧ kp_tk t n (kp_start t n p) ≤ 26))).toInt 0 then 68 else 66)) (L' := [(2, .inl (Int32.ofNat (kp_tk t n (kp_start t n p)))), (0, .inr (.inr (.inl (some 259)))), (1, .inl (Int32.ofNat 1))]) (S' := []) (h' := (km_H (kmj h it) 1 (kp_nx t n (kp_start t n p)) (kp_start t n p) (kp_tk t n (kp_start t n p)) (kp_vv t n (kp_start t n p) u0))) (by with_unfolding_all rfl) ?_
      have hvb := kq_t1 (t := t) (n := n) (S := kp_start t n p)
      cases e1 : decide (20 ≤ kp_tk t n (kp_start t n p) ∧ kp_tk t n (kp_start t n p) ≤ 26) with
      | false =>
        rw [if_neg (fun w => by have := kx_b1.mp w; cases this)]
        rw [if_neg (of_decide_eq_false e1)] at hvb
        refine kx_go 1 (pc' := 67) (L' := [(2, .inl (Int32.ofNat (kp_tk t n (kp_start t n p)))), (0, .inr (.inr (.inl (some 259)))), (1, .inl (Int32.ofNat 1))]) (S' := [.inl (Int32.ofNat 0)]) (h' := (km_H (kmj h it) 1 (kp_nx t n (kp_start t n p)) (kp_start t n p) (kp_tk t n (kp_start t n p)) (kp_vv t n (kp_start t n p) u0))) (by with_unfolding_all rfl) ?_
        exact kc_ret_ok rfl (rv := some (.inl (Int32.ofNat 0))) rfl (hbad (by unfold kp_its; rw [if_neg hkd0]; unfold kp_item; rw [hvb]) h it _ _ _ _ km_D_rf (by omega) ⟨hst.2, hnx.2, qlt, hvv⟩)
      | true =>
        rw [if_pos (kx_b1.mpr rfl)]
        have e1 := of_decide_eq_true e1
        rw [if_pos e1] at hvb
        obtain ⟨v, hv⟩ : ∃ v, v = kp_tk t n (kp_start t n p) - 11 := ⟨_, rfl⟩
        rw [← hv] at hvb
        have etv : kp_tk t n (kp_start t n p) = kp_tv v := by
          unfold kp_tv
          split <;> omega
        have hv16 : v < 16 := by omega
        obtain ⟨hi, hi4⟩ := kr_shl v hv16
        refine kf_lo (L := [(2, .inl (Int32.ofNat (kp_tv v))), (0, .inr (.inr (.inl (some 259)))), (1, .inl (Int32.ofNat 1))]) ?_ ?_
        · intro q hq
          simp only [List.mem_cons, List.not_mem_nil, or_false] at hq
          rcases hq with rfl | rfl | rfl
          · show some (Sum.inl (Int32.ofNat (kp_tk t n (kp_start t n p)))) = some (Sum.inl (Int32.ofNat (kp_tv v)))
            rw [etv]
          · rfl
          · rfl
        refine kx_go 1 (pc' := 69) (L' := [(2, .inl (Int32.ofNat (kp_tv v))), (0, .inr (.inr (.inl (some 259)))), (1, .inl (Int32.ofNat 1))]) (S' := [.inr (.inr (.inl (some 259)))]) (h' := (km_H (kmj h it) 1 (kp_nx t n (kp_start t n p)) (kp_start t n p) (kp_tk t n (kp_start t n p)) (kp_vv t n (kp_start t n p) u0))) (by with_unfolding_all rfl) ?_
        refine kc_call_rule (M2 := wk_m65) (av := [.inr (.inr (.inl (some 259)))]) (r := []) rfl rfl (kc_Con_le (km_scan hg hx hn ((kmj_o (by decide)).trans hnt) (fun j hj => (kmj_o (by decide)).trans (ht j hj)) hb hnx.2) (by omega)) (fun rv h' hq => ?_)
        obtain ⟨rfl, rfl⟩ := hq
        show kc_Ev g (d + 4) wk_m64 Q 72 [(2, .inl (Int32.ofNat (kp_tv v))), (0, .inr (.inr (.inl (some 259)))), (1, .inl (Int32.ofNat 1))] [] (km_H (kmj h it) 1 (kp_nx t n (kp_start t n (kp_nx t n (kp_start t n p)))) (kp_start t n (kp_nx t n (kp_start t n p))) (kp_tk t n (kp_start t n (kp_nx t n (kp_start t n p)))) (kp_vv t n (kp_start t n (kp_nx t n (kp_start t n p))) (kp_vv t n (kp_start t n p) u0)))
        refine kx_go 2 (pc' := 74) (L' := [(3, .inl (Int32.ofNat 0)), (2, .inl (Int32.ofNat (kp_tv v))), (0, .inr (.inr (.inl (some 259)))), (1, .inl (Int32.ofNat 1))]) (S' := []) (h' := (km_H (kmj h it) 1 (kp_nx t n (kp_start t n (kp_nx t n (kp_start t n p)))) (kp_start t n (kp_nx t n (kp_start t n p))) (kp_tk t n (kp_start t n (kp_nx t n (kp_start t n p)))) (kp_vv t n (kp_start t n (kp_nx t n (kp_start t n p))) (kp_vv t n (kp_start t n p) u0)))) (by with_unfolding_all rfl) ?_
        refine km_arl (d := d) hg hx hn hb hv16 hit (ks_L (kp_sh v)) 0 h _ _ rfl (Nat.zero_le _) hnt ht hnx.2 hvv (fun vs e hev u2 hu2 => ?_) (fun hev h2 a2 s2 k2 u2 hh hb2 => ?_)
        · obtain ⟨b1, b2, b3⟩ := kp_ar_le _ _ _ _ _ hnx.2 hev
          have hlt := kp_ar_lt _ _ _ _ _ hev
          have hst2 := kp_start_le (t := t) b2
          have hnx2 := kp_nx_le (t := t) hst2.2
          obtain ⟨r0, r2, r3, rlt⟩ := kq_k (t := t) (n := n) (S := kp_start t n e)
          have hvv2 := kp_vv_lt (t := t) (n := n) (S := kp_start t n e) hu2
          have hDw := km_D_nw hit vs h 0 (by rw [b3]; omega) hlt
          refine kx_go 4 (pc' := (if kc_cnd .eq (Int32.ofNat (kp_tk t n (kp_start t n e))).toInt (Int32.ofNat 3).toInt then 185 else 183)) (L' := [(2, .inl (Int32.ofNat (kp_tv v))), (0, .inr (.inr (.inl (some 259)))), (1, .inl (Int32.ofNat 1))]) (S' := []) (h' := (km_H (kmj (km_nw h it 0 vs) it) 1 (kp_nx t n (kp_start t n e)) (kp_start t n e) (kp_tk t n (kp_start t n e)) (kp_vv t n (kp_start t n e) u2))) (by with_unfolding_all rfl) ?_
          by_cases e3 : kp_tk t n (kp_start t n e) = 3
          · rw [if_pos ((kx_eq (by omega) (by omega)).mpr e3)]
            have hitem : kp_item t n 7 9 (kp_nx t n (kp_start t n p)) (kp_kd t n (kp_start t n p)) (kp_start t n p) = some ((v, vs), kp_nx t n (kp_start t n e)) := by
              unfold kp_item
              rw [hvb]
              simp only
              rw [hev]
              simp only
              rw [if_pos (r3.mpr e3)]
            obtain ⟨c1, c2, c3, c4, c5, c6⟩ := kp_item_le (by omega) hnx.1 hnx.2 hitem
            refine kx_go 5 (pc' := 194) (L' := [(2, .inl (Int32.ofNat (kp_tv v))), (0, .inr (.inr (.inl (some 259)))), (1, .inl (Int32.ofNat 1))]) (S' := [.inl (Int32.ofNat (kp_tv v)), .inl (Int32.ofNat it), .inr (.inr (.inl (some 264)))]) (h' := (km_H (kmj (km_nw h it 0 vs) it) 1 (kp_nx t n (kp_start t n e)) (kp_start t n e) (kp_tk t n (kp_start t n e)) (kp_vv t n (kp_start t n e) u2))) (by with_unfolding_all rfl) ?_
            refine kx_iast rfl (c := 264) (j := it) (m := 240) rfl (by decide) (by decide) (by omega) ?_
            rw [kmj_u (by decide)]
            show kc_Ev g (d + 4) wk_m64 Q 195 [(2, .inl (Int32.ofNat (kp_tv v))), (0, .inr (.inr (.inl (some 259)))), (1, .inl (Int32.ofNat 1))] [] (km_H (kmj (km_n1 h it (v, vs)) it) 1 (kp_nx t n (kp_start t n e)) (kp_start t n e) (kp_tk t n (kp_start t n e)) (kp_vv t n (kp_start t n e) u2))
            refine kx_go 5 (pc' := 202) (L' := [(2, .inl (Int32.ofNat (kp_tv v))), (0, .inr (.inr (.inl (some 259)))), (1, .inl (Int32.ofNat 1))]) (S' := [.inl ((Int32.ofNat it) + (Int32.ofNat 1)), .inr (.inr (.inl (some 259)))]) (h' := (km_H (kmj (km_n1 h it (v, vs)) it) 1 (kp_nx t n (kp_start t n e)) (kp_start t n e) (kp_tk t n (kp_start t n e)) (kp_vv t n (kp_start t n e) u2))) (by with_unfolding_all rfl) ?_
            refine kx_go 1 (pc' := 205) (L' := [(2, .inl (Int32.ofNat (kp_tv v))), (0, .inr (.inr (.inl (some 259)))), (1, .inl (Int32.ofNat 1))]) (S' := []) (h' := kc_upd (km_H (kmj (km_n1 h it (v, vs)) it) 1 (kp_nx t n (kp_start t n e)) (kp_start t n e) (kp_tk t n (kp_start t n e)) (kp_vv t n (kp_start t n e) u2)) 259 13 (.inl (Int32.ofNat it + Int32.ofNat 1))) (by with_unfolding_all rfl) ?_
            rw [kx_inc1, kmj_13]
            have hD := km_D_n1 (h := h) (q := (v, vs)) hit (by show vs.length ≤ 4; rw [b3]; omega) hv16 hlt
            have hnt2 : km_n1 h it (v, vs) 260 (160 + 1) = .inl (Int32.ofNat n) := (km_D_n hD (by decide) (by decide)).trans hnt
            have ht2 : ∀ j, j < 240 → km_n1 h it (v, vs) 260 (170 + 240 * 1 + j) = .inl (Int32.ofNat (t j)) := fun j hj => (km_D_n hD (by decide) (by decide)).trans (ht j hj)
            refine kx_go 1 (pc' := 206) (L' := [(2, .inl (Int32.ofNat (kp_tv v))), (0, .inr (.inr (.inl (some 259)))), (1, .inl (Int32.ofNat 1))]) (S' := [.inr (.inr (.inl (some 259)))]) (h' := (km_H (kmj (km_n1 h it (v, vs)) (it + 1)) 1 (kp_nx t n (kp_start t n e)) (kp_start t n e) (kp_tk t n (kp_start t n e)) (kp_vv t n (kp_start t n e) u2))) (by with_unfolding_all rfl) ?_
            refine kc_call_rule (M2 := wk_m65) (av := [.inr (.inr (.inl (some 259)))]) (r := []) rfl rfl (kc_Con_le (km_scan hg hx hn ((kmj_o (by decide)).trans hnt2) (fun j hj => (kmj_o (by decide)).trans (ht2 j hj)) hb hnx2.2) (by omega)) (fun rv h' hq => ?_)
            obtain ⟨rfl, rfl⟩ := hq
            show kc_Ev g (d + 4) wk_m64 Q 209 [(2, .inl (Int32.ofNat (kp_tv v))), (0, .inr (.inr (.inl (some 259)))), (1, .inl (Int32.ofNat 1))] [] (km_H (kmj (km_n1 h it (v, vs)) (it + 1)) 1 (kp_nx t n (kp_start t n (kp_nx t n (kp_start t n e)))) (kp_start t n (kp_nx t n (kp_start t n e))) (kp_tk t n (kp_start t n (kp_nx t n (kp_start t n e)))) (kp_vv t n (kp_start t n (kp_nx t n (kp_start t n e))) (kp_vv t n (kp_start t n e) u2)))
            refine kx_go 1 (pc' := 19) (L' := [(2, .inl (Int32.ofNat (kp_tv v))), (0, .inr (.inr (.inl (some 259)))), (1, .inl (Int32.ofNat 1))]) (S' := []) (h' := (km_H (kmj (km_n1 h it (v, vs)) (it + 1)) 1 (kp_nx t n (kp_start t n (kp_nx t n (kp_start t n e)))) (kp_start t n (kp_nx t n (kp_start t n e))) (kp_tk t n (kp_start t n (kp_nx t n (kp_start t n e)))) (kp_vv t n (kp_start t n (kp_nx t n (kp_start t n e))) (kp_vv t n (kp_start t n e) u2)))) (by with_unfolding_all rfl) ?_
            refine kf_lo (L := [(0, .inr (.inr (.inl (some 259)))), (1, .inl (Int32.ofNat 1))]) ?_ (ih (it + 1) (km_n1 h it (v, vs)) _ _ (by omega) (by simp only at c1; omega) hnx2.2 hvv2 hnt2 ht2 (fun l hl a2 s2 k2 u3 hb3 => ?_) (fun hl h2 it2 a2 s2 k2 u3 hh a1 hb3 => ?_))
            · intro q hq
              simp only [List.mem_cons, List.not_mem_nil, or_false] at hq
              rcases hq with rfl | rfl <;> rfl
            · have := hok ((v, vs) :: l) (by unfold kp_its; rw [if_neg hkd0, hitem]; simp only; rw [hl]) a2 s2 k2 u3 hb3
              rw [show it + 1 + l.length = it + ((v, vs) :: l).length from by rw [List.length_cons]; omega]
              exact this
            · exact hbad (by unfold kp_its; rw [if_neg hkd0, hitem]; simp only; rw [hl]) h2 it2 a2 s2 k2 u3 (km_D_tr hD hh) a1 hb3
          · rw [if_neg (fun w => e3 ((kx_eq (by omega) (by omega)).mp w))]
            refine kx_go 1 (pc' := 184) (L' := [(2, .inl (Int32.ofNat (kp_tv v))), (0, .inr (.inr (.inl (some 259)))), (1, .inl (Int32.ofNat 1))]) (S' := [.inl (Int32.ofNat 0)]) (h' := (km_H (kmj (km_nw h it 0 vs) it) 1 (kp_nx t n (kp_start t n e)) (kp_start t n e) (kp_tk t n (kp_start t n e)) (kp_vv t n (kp_start t n e) u2))) (by with_unfolding_all rfl) ?_
            exact kc_ret_ok rfl (rv := some (.inl (Int32.ofNat 0))) rfl (hbad (by unfold kp_its; rw [if_neg hkd0]; unfold kp_item; rw [hvb]; simp only; rw [hev]; simp only; rw [if_neg (fun w => e3 (r3.mp w))]) _ it _ _ _ _ hDw (by omega) ⟨hst2.2, hnx2.2, rlt, hvv2⟩)
        · exact hbad (by unfold kp_its; rw [if_neg hkd0]; unfold kp_item; rw [hvb]; simp only; rw [hev]) h2 it a2 s2 k2 u2 hh (by omega) hb2
