/-! ===== the day, class, whole ===== -/
theorem kv_k127 : kd_rn (kd_ty 127) 7 = some (0, 2147483648, 2147483648 + 4) ∧ kd_rn (kd_ty 127) 8 = some (0, 2147483648, 2147483648 + 240) := by decide +kernel
theorem kv_k127b : kd_rn (kd_ty 127) 0 = some (3, 1, 1) := by decide +kernel
def kv_W2 : kd_W := [(1, 1, 0, 3), (3, 10, 0, 5)]
theorem kv_dfr {h h1 h2 h3 hE : kc_H} {c i : Nat} (hfrE : kd_fr kv_WC h3 hE) (hfr3 : kd_fr kv_W2 h2 h3) (hh2 : h2 = kt_K h1 1 32 31) (hfr1 : kd_fr kr_W h h1) (q1 : ¬ (1 ≤ c ∧ c ≤ 62 ∧ 0 ≤ i ∧ i ≤ 239)) (q2 : ¬ (127 ≤ c ∧ c ≤ 127 ∧ 1 ≤ i ∧ i ≤ 8)) (q3 : ¬ (128 ≤ c ∧ c ≤ 189 ∧ 0 ≤ i ∧ i ≤ 59)) : hE c i = h c i := by
  have hln : ∀ k, kt_ln k ≤ 240 := fun k => by
    by_cases hk : k < 31
    · exact (show ∀ k, k < 31 → kt_ln k ≤ 240 by decide) k hk
    · unfold kt_ln
      rw [List.getD_eq_getElem?_getD, List.getElem?_eq_none (by show 31 ≤ k; omega)]
      exact Nat.zero_le _
  have e2 : h2 c i = h1 c i := by
    rw [hh2]
    unfold kt_K
    have := hln (c - 32)
    rw [if_neg (by omega)]
  rw [hfrE c i (fun q hq => by
    simp only [kv_WC, List.mem_cons, List.not_mem_nil, or_false] at hq
    rcases hq with rfl | rfl | rfl | rfl | rfl <;> exact kb_inr (by (try dsimp only); omega)), hfr3 c i (fun q hq => by
    simp only [kv_W2, List.mem_cons, List.not_mem_nil, or_false] at hq
    rcases hq with rfl | rfl <;> exact kb_inr (by (try dsimp only); omega)), e2]
  exact hfr1 c i (fun q hq => by
    simp only [kr_W, List.mem_cons, List.not_mem_nil, or_false] at hq
    rcases hq with rfl | rfl | rfl | rfl <;> exact kb_inr (by (try dsimp only); omega))
set_option maxRecDepth 20000 in
theorem kv_day67 {g : kc_G} {h : kc_H} {n : Nat} {t : Nat → Nat} (hg : kc_ok g) (hw : kd_wt kd_ty h) (hn : n ≤ 240) (hb : ∀ j, j < 240 → t j < 256) (ht : ∀ j, j < 240 → h 29 j = .inl (Int32.ofNat (t j))) (ha4 : h 31 0 = .inl (Int32.ofNat n)) : kc_Con g 15 67 [.inr (.inr (.inl (some 0)))] h (kv_dC h (kv_out t n)) := by
  have k0 := kx_ofr (hw _ _ _ kv_k0.1)
  have k4 := kx_ofr (hw _ _ _ kv_k0.2.2)
  obtain ⟨s0, -, es0⟩ := kx_ofg (by omega) (hw _ _ _ kv_k127.2)
  obtain ⟨q0, -, eq0⟩ := kx_ofg (by omega) (hw _ _ _ kv_k127.1)
  refine kc_Con_new hg (M := wk_m67) rfl rfl rfl (show 1 ≤ 3 by decide) ?_
  refine kx_go 1 (pc' := 1) (L' := [(0, .inr (.inr (.inl (some 0))))]) (S' := [.inr (.inr (.inl (some 0)))]) (h' := h) (by with_unfolding_all rfl) ?_
  refine kx_getf (c := 0) (v := .inr (.inr (.inl (some 127)))) rfl (by decide) k4 ?_
  refine kx_go 1 (pc' := 5) (L' := [(0, .inr (.inr (.inl (some 0))))]) (S' := [.inl (Int32.ofNat 0), .inr (.inr (.inl (some 127)))]) (h' := h) (by with_unfolding_all rfl) ?_
  refine kc_call_rule (M2 := wk_m61) (av := [.inr (.inr (.inl (some 127))), .inl (Int32.ofNat 0)]) (r := []) rfl rfl (kc_Con_le (kr_read0 (d := 0) (n := n) (t := t) hg hn hb ht (fun i hi => kx_ofr (hw _ _ _ (kr_k129 i hi))) (kx_ofr (hw _ _ _ kv_k127b)) (kx_ofr (hw _ _ _ kr_k1.1)) (kx_ofr (hw _ _ _ kr_k1.2.2.1)) (kx_ofr (hw _ _ _ kr_k1.2.1)) ha4 (kx_ofr (hw _ _ _ kr_k127.2.1)) (kx_ofr (hw _ _ _ kr_k127.2.2.1)) eq0 es0) (by decide)) (fun rv h1 hq => ?_)
  have hpost := kr_post (g := g) hw (Or.inl rfl) hn (by decide) hq
  obtain ⟨pp, pp1, -, -, hw1, hfr1⟩ := hpost
  obtain rfl := List.mem_singleton.mp pp1
  simp only at hfr1
  unfold kr_Qr at hq
  cases hk : kp_its t n 9 0 61 0 with
  | none =>
    rw [hk] at hq
    obtain ⟨hx, it2, p2, k2, s2, rfl, ⟨-, -, hs2, -, -⟩, -⟩ := hq
    show kc_Ev g 14 wk_m67 _ 8 [(0, .inr (.inr (.inl (some 0))))] [.inl (Int32.ofNat s2)] h1
    refine kx_go 4 (pc' := (if kc_cnd .eq (Int32.ofNat s2).toInt (Int32.ofInt (-1)).toInt then 19 else 14)) (L' := [(1, .inl (Int32.ofNat s2)), (0, .inr (.inr (.inl (some 0))))]) (S' := []) (h' := h1) (by with_unfolding_all rfl) ?_
    rw [if_neg (kx_nm1 (by omega))]
    refine kx_go 3 (pc' := 18) (L' := [(1, .inl (Int32.ofNat s2)), (0, .inr (.inr (.inl (some 0))))]) (S' := [.inl ((Int32.ofInt (-10)) - (Int32.ofNat s2))]) (h' := h1) (by with_unfolding_all rfl) ?_
    refine kc_ret_ok rfl (rv := some (.inl ((Int32.ofInt (-10)) - (Int32.ofNat s2)))) rfl ⟨⟨_, rfl⟩, hw1, kd_cvW_r kr_W (by decide) hfr1, fun j hj => ?_, kv_fr1 hfr1 (by decide), Or.inl ⟨?_, kv_fr1 hfr1 (by decide), kv_fr1 hfr1 (by decide), kv_fr1 hfr1 (by decide)⟩⟩
    · exact hfr1 29 j (fun q hq => by
        simp only [kr_W, List.mem_cons, List.not_mem_nil, or_false] at hq
        rcases hq with rfl | rfl | rfl | rfl <;> exact kb_inr (by (try dsimp only); omega))
    · unfold kv_out
      rw [hk]
  | some l =>
    rw [hk] at hq
    obtain ⟨p2, k2, s2, rfl, ⟨hp2, hk2, hs2⟩, hh1⟩ := hq
    obtain ⟨hall, hlen⟩ := kp_its_ok hn (by decide) 61 0 0 l (by omega) (by omega) hk
    show kc_Ev g 14 wk_m67 _ 8 [(0, .inr (.inr (.inl (some 0))))] [.inl (Int32.ofInt (-1))] h1
    refine kx_go 4 (pc' := (if kc_cnd .eq (Int32.ofInt (-1)).toInt (Int32.ofInt (-1)).toInt then 19 else 14)) (L' := [(1, .inl (Int32.ofInt (-1))), (0, .inr (.inr (.inl (some 0))))]) (S' := []) (h' := h1) (by with_unfolding_all rfl) ?_
    rw [if_pos kx_m1]
    have j0 := kx_ofr (hw1 _ _ _ kv_k0.1)
    have j1 := kx_ofr (hw1 _ _ _ kv_k0.2.1)
    refine kx_go 1 (pc' := 20) (L' := [(1, .inl (Int32.ofInt (-1))), (0, .inr (.inr (.inl (some 0))))]) (S' := [.inr (.inr (.inl (some 0)))]) (h' := h1) (by with_unfolding_all rfl) ?_
    refine kx_getf (c := 0) (v := .inr (.inr (.inl (some 32)))) rfl (by decide) j1 ?_
    refine kx_go 1 (pc' := 24) (L' := [(1, .inl (Int32.ofInt (-1))), (0, .inr (.inr (.inl (some 0))))]) (S' := [.inr (.inr (.inl (some 0))), .inr (.inr (.inl (some 32)))]) (h' := h1) (by with_unfolding_all rfl) ?_
    refine kx_getf (c := 0) (v := .inr (.inr (.inl (some 1)))) rfl (by decide) j0 ?_
    refine kc_call_rule (M2 := wk_m68) (av := [.inr (.inr (.inl (some 32))), .inr (.inr (.inl (some 1)))]) (r := []) rfl rfl (kc_Con_le (kt_take1_32 (d := 0) hg hw1) (by decide)) (fun rv h2 hq2 => ?_)
    obtain ⟨rfl, hh2⟩ := hq2
    have hw2 : kd_wt kd_ty h2 := by rw [hh2]; exact kt_K_wt hw1 kt_ty1_32
    have i0 := kx_ofr (hw2 _ _ _ kv_k0.1)
    show kc_Ev g 14 wk_m67 _ 30 [(1, .inl (Int32.ofInt (-1))), (0, .inr (.inr (.inl (some 0))))] [] h2
    refine kx_go 1 (pc' := 31) (L' := [(1, .inl (Int32.ofInt (-1))), (0, .inr (.inr (.inl (some 0))))]) (S' := [.inr (.inr (.inl (some 0)))]) (h' := h2) (by with_unfolding_all rfl) ?_
    refine kx_getf (c := 0) (v := .inr (.inr (.inl (some 1)))) rfl (by decide) i0 ?_
    refine kc_call_rule (M2 := wk_m2) (av := [.inr (.inr (.inl (some 1)))]) (r := []) rfl rfl (kc_Con_le (kd_h2 hg _ h2 hw2 ⟨⟨1, rfl, by decide, by decide⟩, trivial⟩ (fun q hq => by cases hq)) (by decide)) (fun rv h3 hq3 => ?_)
    obtain ⟨pp, p1, pr, pF, hw3, hfr3⟩ := hq3
    obtain rfl := List.mem_singleton.mp p1
    cases rv with
    | some y => exact pr.elim
    | none =>
      have hfr3 : kd_fr kv_W2 h2 h3 := kd_cvW_r _ (by decide) hfr3
      have hC3 : kv_Cs h3 0 0 0 (fun _ => 0) := by
        refine ⟨⟨by decide, by decide, by decide, ?_, ?_, ?_⟩, fun i hi => ⟨Nat.zero_le _, ?_⟩⟩
        · exact kx_ofs (k := 0) (by decide) (pF (1, 0, _) (by decide))
        · exact kx_ofs (k := 0) (by decide) (pF (1, 1, _) (by decide))
        · exact kx_ofs (k := 0) (by decide) (pF (1, 2, _) (by decide))
        · rcases (show i = 0 ∨ i = 1 ∨ i = 2 ∨ i = 3 ∨ i = 4 ∨ i = 5 by omega) with rfl | rfl | rfl | rfl | rfl | rfl
          · exact kx_ofs (k := 0) (by decide) (pF (9, 0, _) (by decide))
          · exact kx_ofs (k := 0) (by decide) (pF (9, 1, _) (by decide))
          · exact kx_ofs (k := 0) (by decide) (pF (9, 2, _) (by decide))
          · exact kx_ofs (k := 0) (by decide) (pF (9, 3, _) (by decide))
          · exact kx_ofs (k := 0) (by decide) (pF (9, 4, _) (by decide))
          · exact kx_ofs (k := 0) (by decide) (pF (9, 5, _) (by decide))
      show kc_Ev g 14 wk_m67 _ 37 [(1, .inl (Int32.ofInt (-1))), (0, .inr (.inr (.inl (some 0))))] [] h3
      refine kx_go 2 (pc' := 39) (L' := [(2, .inl (Int32.ofNat 0)), (1, .inl (Int32.ofInt (-1))), (0, .inr (.inr (.inl (some 0))))]) (S' := []) (h' := h3) (by with_unfolding_all rfl) ?_
      /- cells far from a Told: as behind the reading -/
      have far : ∀ c i, 63 ≤ c → h3 c i = h1 c i := fun c i hc => by
        rw [hfr3 c i (fun q hq => by
          simp only [kv_W2, List.mem_cons, List.not_mem_nil, or_false] at hq
          rcases hq with rfl | rfl <;> exact kb_inr (by (try dsimp only); omega)), hh2]
        unfold kt_K
        rw [if_neg (by omega)]
      have hit : h3 127 1 = .inl (Int32.ofNat l.length) := by
        rw [far 127 1 (by decide), hh1]
        rfl
      have hat : ∀ (i : Nat) (q : Nat × List Nat), l[i]? = some q → h3 128 i = .inl (Int32.ofNat q.1) ∧ ∀ k x, q.2[k]? = some x → h3 (130 + i) k = .inl (Int32.ofNat x) := fun i q hq => by
        obtain ⟨a1, a2⟩ := kr_ws_at l h 0 i q hq
        rw [Nat.zero_add] at a1 a2
        have e1 : ∀ c b, ¬ c = 127 → h1 c b = kr_ws h 0 l c b := fun c b hc => by
          rw [hh1]
          unfold kr_H kj
          rw [if_neg hc, if_neg hc]
        exact ⟨by rw [far 128 i (by decide), e1 128 i (by decide)]; exact a1, fun k x hx => by rw [far (130 + i) k (by omega), e1 (130 + i) k (by omega)]; exact a2 k x hx⟩
      /- the copy: the spare has what the day had -/
      have sp : ∀ k, k < 31 → ∀ i, i < kt_ln k → h3 (32 + k) i = h1 (1 + k) i := fun k hk i hi => by
        rw [hfr3 (32 + k) i (fun q hq => by
          simp only [kv_W2, List.mem_cons, List.not_mem_nil, or_false] at hq
          rcases hq with rfl | rfl <;> exact kb_inr (by (try dsimp only); omega)), hh2]
        unfold kt_K
        rw [show 32 + k - 32 = k from by omega, if_pos ⟨by omega, by omega, hi⟩]
      have tx : ∀ c i, (c = 29 ∨ c = 31) → h3 c i = h1 c i := fun c i hc => by
        rw [hfr3 c i (fun q hq => by
          simp only [kv_W2, List.mem_cons, List.not_mem_nil, or_false] at hq
          rcases hq with rfl | rfl <;> exact kb_inr (by (try dsimp only); omega)), hh2]
        unfold kt_K
        rw [if_neg (by omega)]
      have near : ∀ c i, c < 127 → h1 c i = h c i := fun c i hc => hfr1 c i (fun q hq => by
        simp only [kr_W, List.mem_cons, List.not_mem_nil, or_false] at hq
        rcases hq with rfl | rfl | rfl | rfl <;> exact kb_inr (by (try dsimp only); omega))
      have wc : ∀ hE c i, kd_fr kv_WC h3 hE → 26 ≤ c → hE c i = h3 c i := fun hE c i hfrE hc => hfrE c i (fun q hq => by
        simp only [kv_WC, List.mem_cons, List.not_mem_nil, or_false] at hq
        rcases hq with rfl | rfl | rfl | rfl | rfl <;> exact kb_inr (by (try dsimp only); omega))
      refine kv_dayl (z1 := Int32.ofInt (-1)) (l := l) (hB := h3) (out := kv_out t n) hg (by decide) hit (by omega) (fun i q hq => ?_) hat ?_ ?_ l.length 0 h3 0 0 0 (fun _ => 0) (by omega) (by omega) hw3 kv_fr0 hC3 ?_
      · obtain ⟨b1, -, b3, b4⟩ := hall q (List.mem_of_getElem? hq)
        exact ⟨b1, by omega, b4⟩
      · intro z hE D M L f hwE hfrE hCE hfo
        refine ⟨⟨z, rfl⟩, hwE, fun c i hq => ?_, fun j hj => ?_, ?_, Or.inr ⟨D, M, L, f, hfo.symm, hCE⟩⟩
        · have q1 := kd_inr_f (hq (1, 62, 0, 239) (by decide))
          have q2 := kd_inr_f (hq (127, 127, 1, 8) (by decide))
          have q3 := kd_inr_f (hq (128, 189, 0, 59) (by decide))
          simp only at q1 q2 q3
          exact kv_dfr hfrE hfr3 hh2 hfr1 q1 q2 q3
        · rw [wc hE 29 j hfrE (by decide), tx 29 j (Or.inl rfl), near 29 j (by decide)]
        · rw [wc hE 31 0 hfrE (by decide), tx 31 0 (Or.inr rfl), near 31 0 (by decide)]
      · intro z hE hwE hfrE hno
        have bk : ∀ k, k < 31 → ∀ i, i < kt_ln k → kt_K hE 32 1 31 (1 + k) i = h (1 + k) i := fun k hk i hi => by
          unfold kt_K
          rw [show 1 + k - 1 = k from by omega, if_pos ⟨by omega, by omega, hi⟩, wc hE (32 + k) i hfrE (by omega), sp k hk i hi, near (1 + k) i (by omega)]
        refine ⟨⟨z, rfl⟩, kt_K_wt hwE kt_ty32_1, fun c i hq => ?_, fun j hj => bk 28 (by decide) j hj, bk 30 (by decide) 0 (by decide), Or.inl ⟨hno, bk 0 (by decide) 0 (by decide), bk 0 (by decide) 1 (by decide), bk 0 (by decide) 2 (by decide)⟩⟩
        have q1 := kd_inr_f (hq (1, 62, 0, 239) (by decide))
        have q2 := kd_inr_f (hq (127, 127, 1, 8) (by decide))
        have q3 := kd_inr_f (hq (128, 189, 0, 59) (by decide))
        simp only at q1 q2 q3
        by_cases e : 1 ≤ c ∧ c < 1 + 31 ∧ i < kt_ln (c - 1)
        · have := bk (c - 1) (by omega) i e.2.2
          rw [show 1 + (c - 1) = c from by omega] at this
          exact this
        · rw [show kt_K hE 32 1 31 c i = hE c i from if_neg e]
          exact kv_dfr hfrE hfr3 hh2 hfr1 q1 q2 q3
      · show kv_fold (l.drop 0) 0 0 0 (fun _ => 0) = kv_out t n
        rw [List.drop_zero]
        unfold kv_out
        rw [hk]
