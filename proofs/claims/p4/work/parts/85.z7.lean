/-! ===== by hand: readItem ===== -/
theorem kp_vb_lt {t : Nat → Nat} {p k s : Nat} : ∀ (m f v : Nat), kp_vb t p k s m f = some v → f ≤ v ∧ v < f + m ∧ kp_is t p k s (v + 2) = true
  | 0, _, _, h => by cases h
  | m + 1, f, v, h => by
    have h : (bif kp_is t p k s (f + 2) then some f else kp_vb t p k s m (f + 1)) = some v := h
    cases e : kp_is t p k s (f + 2) with
    | true =>
      rw [e] at h
      cases h
      exact ⟨Nat.le_refl _, by omega, e⟩
    | false =>
      rw [e] at h
      have := kp_vb_lt m (f + 1) v h
      exact ⟨by omega, by omega, this.2.2⟩
theorem kp_is_r {t : Nat → Nat} {p k s i : Nat} (h : kp_is t p k s i = true) : k = 1 ∧ p - s = ks_L i := by
  unfold kp_is at h
  cases e1 : decide (k = 1) with
  | false => rw [e1] at h; cases h
  | true =>
    rw [e1] at h
    cases e2 : decide (p - s = ks_L i) with
    | false => rw [e2] at h; cases h
    | true => exact ⟨of_decide_eq_true e1, of_decide_eq_true e2⟩
theorem kp_a1_gt {t : Nat → Nat} {n i j s x : Nat} (hs : s ≤ n) (h : kp_a1 t n i j s = some x) : s < kp_nx t n s := by
  unfold kp_a1 at h
  split at h
  · unfold kp_hd at h
    cases e1 : kp_is t (kp_nx t n s) (kp_kd t n s) s 0 with
    | true =>
      have := (kp_is_r e1).2
      have h4 : ks_L 0 = 4 := by decide
      omega
    | false =>
      rw [e1] at h
      cases e2 : kp_is t (kp_nx t n s) (kp_kd t n s) s 1 with
      | true =>
        have := (kp_is_r e2).2
        have h4 : ks_L 1 = 4 := by decide
        omega
      | false => rw [e2] at h; cases h
  · unfold kp_nh at h
    split at h
    · rename_i hk
      unfold kp_kd at hk
      unfold kp_nx
      split at hk
      · cases hk
      · rename_i h3
        rw [if_neg h3]
        split at hk
        · cases hk
        · rename_i h4
          rw [if_neg h4]
          split at hk
          · rename_i h5
            rw [if_pos h5]
            obtain ⟨m, hm⟩ : ∃ m, n - s = m + 1 := ⟨n - s - 1, by omega⟩
            rw [hm]
            show s < (bif kp_fig (t s) then kp_skip kp_fig t m (s + 1) else s)
            rw [h5]
            have := kp_skip_le kp_fig t m (s + 1)
            show s < kp_skip kp_fig t m (s + 1)
            omega
          · split at hk <;> cases hk
    · cases h
theorem kp_ar_le {t : Nat → Nat} {n i : Nat} : ∀ (m j p : Nat) (vs : List Nat) (e : Nat), p ≤ n → kp_ar t n i m j p = some (vs, e) → p + m ≤ e ∧ e ≤ n ∧ vs.length = m
  | 0, j, p, vs, e, hp, h => by
    cases h
    exact ⟨Nat.le_refl _, hp, rfl⟩
  | m + 1, j, p, vs, e, hp, h => by
    have hst := kp_start_le (t := t) hp
    have hnx := kp_nx_le (t := t) hst.2
    unfold kp_ar at h
    cases h1 : kp_a1 t n i j (kp_start t n p) with
    | none => rw [h1] at h; cases h
    | some x =>
      rw [h1] at h
      simp only at h
      have hgt := kp_a1_gt hst.2 h1
      cases h2 : kp_ar t n i m (j + 1) (kp_nx t n (kp_start t n p)) with
      | none => rw [h2] at h; cases h
      | some q =>
        obtain ⟨vs0, e0⟩ := q
        rw [h2] at h
        cases h
        have := kp_ar_le m (j + 1) _ vs0 e0 hnx.2 h2
        exact ⟨by omega, this.2.1, by rw [List.length_cons, this.2.2]⟩
theorem kr_T_w {r : Nat} : ∀ (vs : List Nat) (h : kc_H) (j : Nat), j + vs.length ≤ 4 → (∀ v ∈ vs, v < 1000) → kr_T h (kr_w h r j vs) r
  | [], h, j, _, _ => kr_T_rf
  | v :: vs, h, j, hj, hv => kr_T_u (by rw [List.length_cons] at hj; omega) (hv v List.mem_cons_self) (kr_T_w vs (kc_upd h r j (.inl (Int32.ofNat v))) (j + 1) (by rw [List.length_cons] at hj; omega) (fun x hx => hv x (List.mem_cons_of_mem _ hx)))
theorem kp_a1_lt {t : Nat → Nat} {n i j s x : Nat} (h : kp_a1 t n i j s = some x) : x < 1000 := by
  unfold kp_a1 at h
  split at h
  · unfold kp_hd at h
    cases e1 : kp_is t (kp_nx t n s) (kp_kd t n s) s 0 with
    | true => rw [e1] at h; cases h; decide
    | false =>
      rw [e1] at h
      cases e2 : kp_is t (kp_nx t n s) (kp_kd t n s) s 1 with
      | true => rw [e2] at h; cases h; decide
      | false => rw [e2] at h; cases h
  · exact kp_nh_lt h
theorem kp_ar_lt {t : Nat → Nat} {n i : Nat} : ∀ (m j p : Nat) (vs : List Nat) (e : Nat), kp_ar t n i m j p = some (vs, e) → ∀ v ∈ vs, v < 1000
  | 0, j, p, vs, e, h => by
    cases h
    intro v hv
    cases hv
  | m + 1, j, p, vs, e, h => by
    unfold kp_ar at h
    cases h1 : kp_a1 t n i j (kp_start t n p) with
    | none => rw [h1] at h; cases h
    | some x =>
      rw [h1] at h
      simp only at h
      cases h2 : kp_ar t n i m (j + 1) (kp_nx t n (kp_start t n p)) with
      | none => rw [h2] at h; cases h
      | some q =>
        obtain ⟨vs0, e0⟩ := q
        rw [h2] at h
        cases h
        intro v hv
        rcases List.mem_cons.mp hv with rfl | hv
        · exact kp_a1_lt h1
        · exact kp_ar_lt m (j + 1) _ vs0 e0 h2 v hv
theorem kp_4 : ∀ v, v < 16 → 4 ≤ ks_L (v + 2) + ks_L (kp_sh v) + 1 := by decide +kernel
/-- an item has four bytes at least -/
theorem kp_item_le {t : Nat → Nat} {n m f p k s : Nat} {q : (Nat × List Nat) × Nat} (hf : f + m ≤ 16) (hsp : s ≤ p) (hp : p ≤ n) (h : kp_item t n m f p k s = some q) : s + 4 ≤ q.2 ∧ q.2 ≤ n ∧ f ≤ q.1.1 ∧ q.1.1 < f + m ∧ q.1.2.length = ks_L (kp_sh q.1.1) ∧ ∀ v ∈ q.1.2, v < 1000 := by
  unfold kp_item at h
  cases h1 : kp_vb t p k s m f with
  | none => rw [h1] at h; cases h
  | some v =>
    rw [h1] at h
    simp only at h
    obtain ⟨a1, a2, a3⟩ := kp_vb_lt m f v h1
    have a4 := (kp_is_r a3).2
    cases h2 : kp_ar t n (kp_sh v) (ks_L (kp_sh v)) 0 p with
    | none => rw [h2] at h; cases h
    | some r =>
      obtain ⟨vs, e⟩ := r
      rw [h2] at h
      simp only at h
      obtain ⟨b1, b2, b3⟩ := kp_ar_le _ _ _ _ _ hp h2
      have hst := kp_start_le (t := t) b2
      have hnx := kp_nx_le (t := t) hst.2
      split at h
      · rename_i hk
        cases h
        have h4 := kp_4 v (by omega)
        have hgt : kp_start t n e < kp_nx t n (kp_start t n e) := by
          unfold kp_kd at hk
          unfold kp_nx
          split at hk
          · cases hk
          · rename_i h3
            rw [if_neg h3]
            split at hk
            · cases hk
            · rename_i h4
              rw [if_neg h4]
              split at hk
              · split at hk <;> cases hk
              · rename_i h5
                rw [if_neg h5]
                omega
        exact ⟨by omega, hnx.2, a1, a2, b3, kp_ar_lt _ _ _ _ _ h2⟩
      · cases h
/-- what readItem leaves behind -/
def kr_Qi (t : Nat → Nat) (c n it m f p k s : Nat) (h : kc_H) : Option kc_V → kc_H → Prop := fun rv h' => match kp_item t n m f p k s with
  | none => ∃ (h2 : kc_H) (p2 k2 s2 : Nat), rv = some (.inl (Int32.ofNat s2)) ∧ (s2 ≤ n ∧ p2 ≤ n ∧ k2 < 5) ∧ h' = kr_H (kj h2 it) c n p2 k2 s2 ∧ kr_T h h2 (130 + it)
  | some q => ∃ k2 s2 : Nat, rv = some (.inl (Int32.ofInt (-1))) ∧ (k2 < 5 ∧ s2 ≤ n) ∧ h' = kr_H (kj (kc_upd (kr_w h (130 + it) 0 q.1.2) 128 it (.inl (Int32.ofNat q.1.1))) (it + 1)) c n q.2 k2 s2
set_option maxRecDepth 20000 in
theorem kr_item0 {g : kc_G} {d : Nat} {c n : Nat} {t : Nat → Nat} (hg : kc_ok g) (hc1 : kc_shp c = some (0, 0, 240)) (hc2 : c < kc_N) (hc3 : c < 127) (hn : n ≤ 240) (hb : ∀ j, j < 240 → t j < 256) {h : kc_H} {it p k s : Nat} (hit : it < 60) (ht : ∀ j, j < 240 → h c j = .inl (Int32.ofNat (t j))) (hrw : h 129 it = .inr (.inr (.inl (some (130 + it))))) (hsp : s ≤ p) (hp : p ≤ n) (hk : k < 5) : kc_Con g (d + 7) 174 [.inr (.inr (.inl (some 127))), .inl (Int32.ofNat 0)] (kr_H (kj h it) c n p k s) (kr_Qi t c n it 9 0 p k s h) := by
  have ht' : ∀ j, j < 240 → kj h it c j = .inl (Int32.ofNat (t j)) := fun j hj => (kj_o (by omega)).trans (ht j hj)
  refine kc_Con_new hg (M := wk_m174) rfl rfl rfl (show 2 ≤ 6 by decide) ?_
  refine kx_go 2 (pc' := 2) (L' := [(0, .inr (.inr (.inl (some 127)))), (1, .inl (Int32.ofNat 0))]) (S' := [.inl (Int32.ofNat 0), .inr (.inr (.inl (some 127)))]) (h' := (kr_H (kj h it) c n p k s)) (by with_unfolding_all rfl) ?_
  refine kc_call_rule (M2 := wk_m175) (av := [.inr (.inr (.inl (some 127))), .inl (Int32.ofNat 0)]) (r := []) rfl rfl (kr_vb0 (d := d) hc1 hc2 (by omega) hn ht' hb hg hsp hp (by omega)) (fun rv h' hq => ?_)
  obtain ⟨rfl, rfl⟩ := hq
  generalize hQ : kr_Qi t c n it 9 0 p k s h = Q
  unfold kr_Qi kp_item at hQ
  cases hv : kp_vb t p k s 9 0 with
  | none =>
    rw [hv] at hQ
    simp only at hQ
    show kc_Ev g (d + 6) wk_m174 Q 5 [(0, .inr (.inr (.inl (some 127)))), (1, .inl (Int32.ofNat 0))] [.inl (Int32.ofInt (-1))] (kr_H (kj h it) c n p k s)
    refine kx_go 4 (pc' := (if kc_cnd .eq (Int32.ofInt (-1)).toInt (Int32.ofInt (-1)).toInt then 20 else 11)) (L' := [(2, .inl (Int32.ofInt (-1))), (0, .inr (.inr (.inl (some 127)))), (1, .inl (Int32.ofNat 0))]) (S' := []) (h' := (kr_H (kj h it) c n p k s)) (by with_unfolding_all rfl) ?_
    rw [if_pos kx_m1]
    refine kx_go 2 (pc' := 24) (L' := [(2, .inl (Int32.ofInt (-1))), (0, .inr (.inr (.inl (some 127)))), (1, .inl (Int32.ofNat 0))]) (S' := [.inl (Int32.ofNat s)]) (h' := (kr_H (kj h it) c n p k s)) (by with_unfolding_all rfl) ?_
    refine kc_ret_ok rfl (rv := some (.inl (Int32.ofNat s))) rfl ?_
    rw [← hQ]
    exact ⟨h, p, k, s, rfl, ⟨by omega, hp, hk⟩, rfl, kr_T_rf⟩
  | some v =>
    rw [hv] at hQ
    simp only at hQ
    obtain ⟨v1, v2, v3⟩ := kp_vb_lt _ _ _ hv
    obtain ⟨hi, hi4⟩ := kr_shl v (by omega)
    show kc_Ev g (d + 6) wk_m174 Q 5 [(0, .inr (.inr (.inl (some 127)))), (1, .inl (Int32.ofNat 0))] [.inl (Int32.ofNat v)] (kr_H (kj h it) c n p k s)
    refine kx_go 4 (pc' := (if kc_cnd .eq (Int32.ofNat v).toInt (Int32.ofInt (-1)).toInt then 20 else 11)) (L' := [(2, .inl (Int32.ofNat v)), (0, .inr (.inr (.inl (some 127)))), (1, .inl (Int32.ofNat 0))]) (S' := []) (h' := (kr_H (kj h it) c n p k s)) (by with_unfolding_all rfl) ?_
    rw [if_neg (kx_nm1 (by omega))]
    refine kx_go 4 (pc' := (if kc_cnd .lt (Int32.ofNat it).toInt (Int32.ofNat 60).toInt then 25 else 20)) (L' := [(2, .inl (Int32.ofNat v)), (0, .inr (.inr (.inl (some 127)))), (1, .inl (Int32.ofNat 0))]) (S' := []) (h' := (kr_H (kj h it) c n p k s)) (by with_unfolding_all rfl) ?_
    rw [if_pos ((kx_lt (by omega) (by omega)).mpr hit)]
    refine kx_go 1 (pc' := 26) (L' := [(2, .inl (Int32.ofNat v)), (0, .inr (.inr (.inl (some 127)))), (1, .inl (Int32.ofNat 0))]) (S' := [.inl (Int32.ofNat v)]) (h' := (kr_H (kj h it) c n p k s)) (by with_unfolding_all rfl) ?_
    refine kc_call_rule (M2 := wk_m178) (av := [.inl (Int32.ofNat v)]) (r := []) rfl rfl (kr_sh (d := d + 5) hg v (by omega)) (fun rv h' hq => ?_)
    obtain ⟨rfl, rfl⟩ := hq
    show kc_Ev g (d + 6) wk_m174 Q 29 [(2, .inl (Int32.ofNat v)), (0, .inr (.inr (.inl (some 127)))), (1, .inl (Int32.ofNat 0))] [ks_s (kp_sh v)] (kr_H (kj h it) c n p k s)
    refine kx_go 3 (pc' := 33) (L' := [(4, .inl (Int32.ofNat 0)), (3, ks_s (kp_sh v)), (2, .inl (Int32.ofNat v)), (0, .inr (.inr (.inl (some 127)))), (1, .inl (Int32.ofNat 0))]) (S' := []) (h' := (kr_H (kj h it) c n p k s)) (by with_unfolding_all rfl) ?_
    refine kr_itl (d := d) hg hc1 hc2 hc3 hn hb hi hi4 hit (ks_L (kp_sh v)) 0 h p k s rfl (Nat.zero_le _) ht hrw hp (fun vs e hev k2 s2 => ?_) (fun hev h2 p2 k2 s2 hh hs2 => ?_)
    · rw [hev] at hQ
      simp only at hQ
      obtain ⟨b1, b2, b3⟩ := kp_ar_le _ _ _ _ _ hp hev
      have ht2 : ∀ j, j < 240 → kr_w h (130 + it) 0 vs c j = .inl (Int32.ofNat (t j)) := fun j hj => (kr_w_o (by omega) vs h 0).trans (ht j hj)
      refine kx_go 1 (pc' := 117) (L' := [(2, .inl (Int32.ofNat v)), (0, .inr (.inr (.inl (some 127))))]) (S' := [.inr (.inr (.inl (some 127)))]) (h' := (kr_H (kj (kr_w h (130 + it) 0 vs) it) c n e k2 s2)) (by with_unfolding_all rfl) ?_
      refine kc_call_rule (M2 := wk_m62) (av := [.inr (.inr (.inl (some 127)))]) (r := []) rfl rfl (kc_Con_le (kr_step hg hc1 hc2 (by omega) hn (fun j hj => (kj_o (by omega)).trans (ht2 j hj)) hb b2) (by omega)) (fun rv h' hq => ?_)
      obtain ⟨rfl, rfl⟩ := hq
      have hst := kp_start_le (t := t) b2
      have hkd := kp_kd_lt (t := t) (n := n) (s := kp_start t n e)
      show kc_Ev g (d + 6) wk_m174 Q 120 [(2, .inl (Int32.ofNat v)), (0, .inr (.inr (.inl (some 127))))] [] (kr_H (kj (kr_w h (130 + it) 0 vs) it) c n (kp_nx t n (kp_start t n e)) (kp_kd t n (kp_start t n e)) (kp_start t n e))
      refine kx_go 4 (pc' := (if kc_cnd .eq (Int32.ofNat (kp_kd t n (kp_start t n e))).toInt (Int32.ofNat 3).toInt then 133 else 128)) (L' := [(2, .inl (Int32.ofNat v)), (0, .inr (.inr (.inl (some 127))))]) (S' := []) (h' := (kr_H (kj (kr_w h (130 + it) 0 vs) it) c n (kp_nx t n (kp_start t n e)) (kp_kd t n (kp_start t n e)) (kp_start t n e))) (by with_unfolding_all rfl) ?_
      by_cases e3 : kp_kd t n (kp_start t n e) = 3
      · rw [if_pos ((kx_eq (by omega) (by omega)).mpr e3)]
        rw [if_pos e3] at hQ
        refine kx_go 5 (pc' := 142) (L' := [(2, .inl (Int32.ofNat v)), (0, .inr (.inr (.inl (some 127))))]) (S' := [.inl (Int32.ofNat v), .inl (Int32.ofNat it), .inr (.inr (.inl (some 128)))]) (h' := (kr_H (kj (kr_w h (130 + it) 0 vs) it) c n (kp_nx t n (kp_start t n e)) (kp_kd t n (kp_start t n e)) (kp_start t n e))) (by with_unfolding_all rfl) ?_
        refine kx_iast rfl (c := 128) (j := it) (m := 60) rfl (by decide) (by decide) hit ?_
        rw [kj_u (by decide)]
        refine kx_go 5 (pc' := 150) (L' := [(2, .inl (Int32.ofNat v)), (0, .inr (.inr (.inl (some 127))))]) (S' := [.inl ((Int32.ofNat it) + (Int32.ofNat 1)), .inr (.inr (.inl (some 127)))]) (h' := (kr_H (kj (kc_upd (kr_w h (130 + it) 0 vs) 128 it (.inl (Int32.ofNat v))) it) c n (kp_nx t n (kp_start t n e)) (kp_kd t n (kp_start t n e)) (kp_start t n e))) (by with_unfolding_all rfl) ?_
        refine kx_go 1 (pc' := 153) (L' := [(2, .inl (Int32.ofNat v)), (0, .inr (.inr (.inl (some 127))))]) (S' := []) (h' := kc_upd (kr_H (kj (kc_upd (kr_w h (130 + it) 0 vs) 128 it (.inl (Int32.ofNat v))) it) c n (kp_nx t n (kp_start t n e)) (kp_kd t n (kp_start t n e)) (kp_start t n e)) 127 1 (.inl (Int32.ofNat it + Int32.ofNat 1))) (by with_unfolding_all rfl) ?_
        rw [kx_inc1, kj_1]
        refine kx_go 1 (pc' := 154) (L' := [(2, .inl (Int32.ofNat v)), (0, .inr (.inr (.inl (some 127))))]) (S' := [.inl (Int32.ofInt (-1))]) (h' := (kr_H (kj (kc_upd (kr_w h (130 + it) 0 vs) 128 it (.inl (Int32.ofNat v))) (it + 1)) c n (kp_nx t n (kp_start t n e)) (kp_kd t n (kp_start t n e)) (kp_start t n e))) (by with_unfolding_all rfl) ?_
        refine kc_ret_ok rfl (rv := some (.inl (Int32.ofInt (-1)))) rfl ?_
        rw [← hQ]
        exact ⟨_, _, rfl, ⟨hkd, hst.2⟩, rfl⟩
      · rw [if_neg (fun w => e3 ((kx_eq (by omega) (by omega)).mp w))]
        rw [if_neg e3] at hQ
        refine kx_go 2 (pc' := 132) (L' := [(2, .inl (Int32.ofNat v)), (0, .inr (.inr (.inl (some 127))))]) (S' := [.inl (Int32.ofNat (kp_start t n e))]) (h' := (kr_H (kj (kr_w h (130 + it) 0 vs) it) c n (kp_nx t n (kp_start t n e)) (kp_kd t n (kp_start t n e)) (kp_start t n e))) (by with_unfolding_all rfl) ?_
        refine kc_ret_ok rfl (rv := some (.inl (Int32.ofNat (kp_start t n e)))) rfl ?_
        rw [← hQ]
        exact ⟨_, _, _, _, rfl, ⟨hst.2, (kp_nx_le (t := t) hst.2).2, hkd⟩, rfl, kr_T_w vs h 0 (by rw [b3]; omega) (kp_ar_lt _ _ _ _ _ hev)⟩
    · rw [hev] at hQ
      simp only at hQ
      rw [← hQ]
      exact ⟨h2, p2, k2, s2, rfl, hs2, rfl, hh⟩
set_option maxRecDepth 20000 in
theorem kr_item1 {g : kc_G} {d : Nat} {c n : Nat} {t : Nat → Nat} (hg : kc_ok g) (hc1 : kc_shp c = some (0, 0, 240)) (hc2 : c < kc_N) (hc3 : c < 127) (hn : n ≤ 240) (hb : ∀ j, j < 240 → t j < 256) {h : kc_H} {it p k s : Nat} (hit : it < 60) (ht : ∀ j, j < 240 → h c j = .inl (Int32.ofNat (t j))) (hrw : h 129 it = .inr (.inr (.inl (some (130 + it))))) (hsp : s ≤ p) (hp : p ≤ n) (hk : k < 5) : kc_Con g (d + 7) 174 [.inr (.inr (.inl (some 127))), .inl (Int32.ofNat 1)] (kr_H (kj h it) c n p k s) (kr_Qi t c n it 7 9 p k s h) := by
  have ht' : ∀ j, j < 240 → kj h it c j = .inl (Int32.ofNat (t j)) := fun j hj => (kj_o (by omega)).trans (ht j hj)
  refine kc_Con_new hg (M := wk_m174) rfl rfl rfl (show 2 ≤ 6 by decide) ?_
  refine kx_go 2 (pc' := 2) (L' := [(0, .inr (.inr (.inl (some 127)))), (1, .inl (Int32.ofNat 1))]) (S' := [.inl (Int32.ofNat 1), .inr (.inr (.inl (some 127)))]) (h' := (kr_H (kj h it) c n p k s)) (by with_unfolding_all rfl) ?_
  refine kc_call_rule (M2 := wk_m175) (av := [.inr (.inr (.inl (some 127))), .inl (Int32.ofNat 1)]) (r := []) rfl rfl (kr_vb1 (d := d) hc1 hc2 (by omega) hn ht' hb hg hsp hp (by omega)) (fun rv h' hq => ?_)
  obtain ⟨rfl, rfl⟩ := hq
  generalize hQ : kr_Qi t c n it 7 9 p k s h = Q
  unfold kr_Qi kp_item at hQ
  cases hv : kp_vb t p k s 7 9 with
  | none =>
    rw [hv] at hQ
    simp only at hQ
    show kc_Ev g (d + 6) wk_m174 Q 5 [(0, .inr (.inr (.inl (some 127)))), (1, .inl (Int32.ofNat 1))] [.inl (Int32.ofInt (-1))] (kr_H (kj h it) c n p k s)
    refine kx_go 4 (pc' := (if kc_cnd .eq (Int32.ofInt (-1)).toInt (Int32.ofInt (-1)).toInt then 20 else 11)) (L' := [(2, .inl (Int32.ofInt (-1))), (0, .inr (.inr (.inl (some 127)))), (1, .inl (Int32.ofNat 1))]) (S' := []) (h' := (kr_H (kj h it) c n p k s)) (by with_unfolding_all rfl) ?_
    rw [if_pos kx_m1]
    refine kx_go 2 (pc' := 24) (L' := [(2, .inl (Int32.ofInt (-1))), (0, .inr (.inr (.inl (some 127)))), (1, .inl (Int32.ofNat 1))]) (S' := [.inl (Int32.ofNat s)]) (h' := (kr_H (kj h it) c n p k s)) (by with_unfolding_all rfl) ?_
    refine kc_ret_ok rfl (rv := some (.inl (Int32.ofNat s))) rfl ?_
    rw [← hQ]
    exact ⟨h, p, k, s, rfl, ⟨by omega, hp, hk⟩, rfl, kr_T_rf⟩
  | some v =>
    rw [hv] at hQ
    simp only at hQ
    obtain ⟨v1, v2, v3⟩ := kp_vb_lt _ _ _ hv
    obtain ⟨hi, hi4⟩ := kr_shl v (by omega)
    show kc_Ev g (d + 6) wk_m174 Q 5 [(0, .inr (.inr (.inl (some 127)))), (1, .inl (Int32.ofNat 1))] [.inl (Int32.ofNat v)] (kr_H (kj h it) c n p k s)
    refine kx_go 4 (pc' := (if kc_cnd .eq (Int32.ofNat v).toInt (Int32.ofInt (-1)).toInt then 20 else 11)) (L' := [(2, .inl (Int32.ofNat v)), (0, .inr (.inr (.inl (some 127)))), (1, .inl (Int32.ofNat 1))]) (S' := []) (h' := (kr_H (kj h it) c n p k s)) (by with_unfolding_all rfl) ?_
    rw [if_neg (kx_nm1 (by omega))]
    refine kx_go 4 (pc' := (if kc_cnd .lt (Int32.ofNat it).toInt (Int32.ofNat 60).toInt then 25 else 20)) (L' := [(2, .inl (Int32.ofNat v)), (0, .inr (.inr (.inl (some 127)))), (1, .inl (Int32.ofNat 1))]) (S' := []) (h' := (kr_H (kj h it) c n p k s)) (by with_unfolding_all rfl) ?_
    rw [if_pos ((kx_lt (by omega) (by omega)).mpr hit)]
    refine kx_go 1 (pc' := 26) (L' := [(2, .inl (Int32.ofNat v)), (0, .inr (.inr (.inl (some 127)))), (1, .inl (Int32.ofNat 1))]) (S' := [.inl (Int32.ofNat v)]) (h' := (kr_H (kj h it) c n p k s)) (by with_unfolding_all rfl) ?_
    refine kc_call_rule (M2 := wk_m178) (av := [.inl (Int32.ofNat v)]) (r := []) rfl rfl (kr_sh (d := d + 5) hg v (by omega)) (fun rv h' hq => ?_)
    obtain ⟨rfl, rfl⟩ := hq
    show kc_Ev g (d + 6) wk_m174 Q 29 [(2, .inl (Int32.ofNat v)), (0, .inr (.inr (.inl (some 127)))), (1, .inl (Int32.ofNat 1))] [ks_s (kp_sh v)] (kr_H (kj h it) c n p k s)
    refine kx_go 3 (pc' := 33) (L' := [(4, .inl (Int32.ofNat 0)), (3, ks_s (kp_sh v)), (2, .inl (Int32.ofNat v)), (0, .inr (.inr (.inl (some 127)))), (1, .inl (Int32.ofNat 1))]) (S' := []) (h' := (kr_H (kj h it) c n p k s)) (by with_unfolding_all rfl) ?_
    refine kr_itl (d := d) hg hc1 hc2 hc3 hn hb hi hi4 hit (ks_L (kp_sh v)) 0 h p k s rfl (Nat.zero_le _) ht hrw hp (fun vs e hev k2 s2 => ?_) (fun hev h2 p2 k2 s2 hh hs2 => ?_)
    · rw [hev] at hQ
      simp only at hQ
      obtain ⟨b1, b2, b3⟩ := kp_ar_le _ _ _ _ _ hp hev
      have ht2 : ∀ j, j < 240 → kr_w h (130 + it) 0 vs c j = .inl (Int32.ofNat (t j)) := fun j hj => (kr_w_o (by omega) vs h 0).trans (ht j hj)
      refine kx_go 1 (pc' := 117) (L' := [(2, .inl (Int32.ofNat v)), (0, .inr (.inr (.inl (some 127))))]) (S' := [.inr (.inr (.inl (some 127)))]) (h' := (kr_H (kj (kr_w h (130 + it) 0 vs) it) c n e k2 s2)) (by with_unfolding_all rfl) ?_
      refine kc_call_rule (M2 := wk_m62) (av := [.inr (.inr (.inl (some 127)))]) (r := []) rfl rfl (kc_Con_le (kr_step hg hc1 hc2 (by omega) hn (fun j hj => (kj_o (by omega)).trans (ht2 j hj)) hb b2) (by omega)) (fun rv h' hq => ?_)
      obtain ⟨rfl, rfl⟩ := hq
      have hst := kp_start_le (t := t) b2
      have hkd := kp_kd_lt (t := t) (n := n) (s := kp_start t n e)
      show kc_Ev g (d + 6) wk_m174 Q 120 [(2, .inl (Int32.ofNat v)), (0, .inr (.inr (.inl (some 127))))] [] (kr_H (kj (kr_w h (130 + it) 0 vs) it) c n (kp_nx t n (kp_start t n e)) (kp_kd t n (kp_start t n e)) (kp_start t n e))
      refine kx_go 4 (pc' := (if kc_cnd .eq (Int32.ofNat (kp_kd t n (kp_start t n e))).toInt (Int32.ofNat 3).toInt then 133 else 128)) (L' := [(2, .inl (Int32.ofNat v)), (0, .inr (.inr (.inl (some 127))))]) (S' := []) (h' := (kr_H (kj (kr_w h (130 + it) 0 vs) it) c n (kp_nx t n (kp_start t n e)) (kp_kd t n (kp_start t n e)) (kp_start t n e))) (by with_unfolding_all rfl) ?_
      by_cases e3 : kp_kd t n (kp_start t n e) = 3
      · rw [if_pos ((kx_eq (by omega) (by omega)).mpr e3)]
        rw [if_pos e3] at hQ
        refine kx_go 5 (pc' := 142) (L' := [(2, .inl (Int32.ofNat v)), (0, .inr (.inr (.inl (some 127))))]) (S' := [.inl (Int32.ofNat v), .inl (Int32.ofNat it), .inr (.inr (.inl (some 128)))]) (h' := (kr_H (kj (kr_w h (130 + it) 0 vs) it) c n (kp_nx t n (kp_start t n e)) (kp_kd t n (kp_start t n e)) (kp_start t n e))) (by with_unfolding_all rfl) ?_
        refine kx_iast rfl (c := 128) (j := it) (m := 60) rfl (by decide) (by decide) hit ?_
        rw [kj_u (by decide)]
        refine kx_go 5 (pc' := 150) (L' := [(2, .inl (Int32.ofNat v)), (0, .inr (.inr (.inl (some 127))))]) (S' := [.inl ((Int32.ofNat it) + (Int32.ofNat 1)), .inr (.inr (.inl (some 127)))]) (h' := (kr_H (kj (kc_upd (kr_w h (130 + it) 0 vs) 128 it (.inl (Int32.ofNat v))) it) c n (kp_nx t n (kp_start t n e)) (kp_kd t n (kp_start t n e)) (kp_start t n e))) (by with_unfolding_all rfl) ?_
        refine kx_go 1 (pc' := 153) (L' := [(2, .inl (Int32.ofNat v)), (0, .inr (.inr (.inl (some 127))))]) (S' := []) (h' := kc_upd (kr_H (kj (kc_upd (kr_w h (130 + it) 0 vs) 128 it (.inl (Int32.ofNat v))) it) c n (kp_nx t n (kp_start t n e)) (kp_kd t n (kp_start t n e)) (kp_start t n e)) 127 1 (.inl (Int32.ofNat it + Int32.ofNat 1))) (by with_unfolding_all rfl) ?_
        rw [kx_inc1, kj_1]
        refine kx_go 1 (pc' := 154) (L' := [(2, .inl (Int32.ofNat v)), (0, .inr (.inr (.inl (some 127))))]) (S' := [.inl (Int32.ofInt (-1))]) (h' := (kr_H (kj (kc_upd (kr_w h (130 + it) 0 vs) 128 it (.inl (Int32.ofNat v))) (it + 1)) c n (kp_nx t n (kp_start t n e)) (kp_kd t n (kp_start t n e)) (kp_start t n e))) (by with_unfolding_all rfl) ?_
        refine kc_ret_ok rfl (rv := some (.inl (Int32.ofInt (-1)))) rfl ?_
        rw [← hQ]
        exact ⟨_, _, rfl, ⟨hkd, hst.2⟩, rfl⟩
      · rw [if_neg (fun w => e3 ((kx_eq (by omega) (by omega)).mp w))]
        rw [if_neg e3] at hQ
        refine kx_go 2 (pc' := 132) (L' := [(2, .inl (Int32.ofNat v)), (0, .inr (.inr (.inl (some 127))))]) (S' := [.inl (Int32.ofNat (kp_start t n e))]) (h' := (kr_H (kj (kr_w h (130 + it) 0 vs) it) c n (kp_nx t n (kp_start t n e)) (kp_kd t n (kp_start t n e)) (kp_start t n e))) (by with_unfolding_all rfl) ?_
        refine kc_ret_ok rfl (rv := some (.inl (Int32.ofNat (kp_start t n e)))) rfl ?_
        rw [← hQ]
        exact ⟨_, _, _, _, rfl, ⟨hst.2, (kp_nx_le (t := t) hst.2).2, hkd⟩, rfl, kr_T_w vs h 0 (by rw [b3]; omega) (kp_ar_lt _ _ _ _ _ hev)⟩
    · rw [hev] at hQ
      simp only at hQ
      rw [← hQ]
      exact ⟨h2, p2, k2, s2, rfl, hs2, rfl, hh⟩
