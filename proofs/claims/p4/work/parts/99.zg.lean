/-! ===== the day, reference ===== -/
def kv_W71 : kd_W := [(259, 259, 6, 10), (259, 259, 13, 13), (260, 260, 0, 649), (263, 263, 0, 649), (264, 264, 0, 59), (265, 265, 0, 299)]
def kv_dR (h : kc_H) (out : Option (Nat × Nat × Nat × (Nat → Nat))) : Option kc_V → kc_H → Prop := fun rv h' => (∃ z : Int32, rv = some (.inl z)) ∧ kd_wt kd_ty h' ∧ kd_fr kv_W71 h h' ∧ (∀ j, j < 240 → h' 260 (170 + j) = h 260 (170 + j)) ∧ h' 260 160 = h 260 160 ∧ ((out = none ∧ ∀ i, i < 650 → h' 260 i = h 260 i) ∨ ∃ D M L f, out = some (D, M, L, f) ∧ kv_R h' D M L ∧ h' 260 3 = .inl (Int32.ofNat 0))
def kv_W12 : kd_W := [(260, 260, 0, 3), (260, 260, 10, 57)]
theorem kv_k259 : kd_rn (kd_ty 259) 8 = some (0, 2147483648, 2147483648 + 240) ∧ kd_rn (kd_ty 259) 9 = some (0, 2147483648, 2147483648 + 26) ∧ kd_rn (kd_ty 259) 10 = some (0, 2147483648, 2147483648 + 999) := by decide +kernel
set_option maxRecDepth 20000 in
theorem kv_dayr {g : kc_G} {d : Nat} {Q : Option kc_V → kc_H → Prop} {hB : kc_H} {l : List (Nat × List Nat)} {out : Option (Nat × Nat × Nat × (Nat → Nat))} (hg : kc_ok g) (hd : 6 ≤ d) (hit : hB 259 13 = .inl (Int32.ofNat l.length)) (hl60 : l.length ≤ 60) (hl : ∀ (i : Nat) (q : Nat × List Nat), l[i]? = some q → kp_okI q ∧ q.1 < 9 ∧ q.2.length = ks_L (kp_sh q.1)) (hat : ∀ (i : Nat) (q : Nat × List Nat), l[i]? = some q → hB 264 i = .inl (Int32.ofNat (kp_tv q.1)) ∧ ∀ k x, q.2[k]? = some x → hB 265 (5 * i + k) = .inl (Int32.ofNat x))
    (hQ1 : ∀ (z : Int32) (hE : kc_H) (D M L : Nat) (f : Nat → Nat), kd_wt kd_ty hE → kd_fr kv_WR hB hE → kv_R hE D M L → kv_fold [] D M L f = out → Q (some (.inl z)) hE) (hQ0 : ∀ (z : Int32) (hE : kc_H), kd_wt kd_ty hE → kd_fr kv_WR hB hE → out = none → Q (some (.inl z)) (kz_cp hE 260 0 263 0 650)) : ∀ (u i : Nat) (hh : kc_H) (D M L : Nat) (f : Nat → Nat), l.length - i = u → i ≤ l.length → kd_wt kd_ty hh → kd_fr kv_WR hB hh → kv_Rs hh D M L f → kv_fold (l.drop i) D M L f = out → kc_Ev g d wk_m71 Q 49 [(1, .inl (Int32.ofNat i)), (0, .inr (.inr (.inl (some 259))))] [] hh := by
  intro u
  induction u with
  | zero =>
    intro i hh D M L f hu hi hw hfr hC hf
    have eit : hh 259 13 = .inl (Int32.ofNat l.length) := (kv_fr1 hfr (by decide)).trans hit
    refine kx_go 2 (pc' := 51) (L' := [(1, .inl (Int32.ofNat i)), (0, .inr (.inr (.inl (some 259))))]) (S' := [.inr (.inr (.inl (some 259))), .inl (Int32.ofNat i)]) (h' := hh) (by with_unfolding_all rfl) ?_
    refine kx_getf (c := 259) (v := .inl (Int32.ofNat l.length)) rfl (by decide) eit ?_
    refine kx_go 1 (pc' := (if kc_cnd .ge (Int32.ofNat i).toInt (Int32.ofNat l.length).toInt then 104 else 57)) (L' := [(1, .inl (Int32.ofNat i)), (0, .inr (.inr (.inl (some 259))))]) (S' := []) (h' := hh) (by with_unfolding_all rfl) ?_
    rw [if_pos ((kx_ge (by omega) (by omega)).mpr (by omega))]
    refine kx_go 1 (pc' := 105) (L' := [(1, .inl (Int32.ofNat i)), (0, .inr (.inr (.inl (some 259))))]) (S' := [.inr (.inr (.inl (some 259)))]) (h' := hh) (by with_unfolding_all rfl) ?_
    refine kx_getf (c := 259) (v := .inl (Int32.ofNat l.length)) rfl (by decide) eit ?_
    have hnil : l.drop i = [] := List.drop_eq_nil_of_le (by omega)
    rw [hnil] at hf
    exact kc_ret_ok rfl (rv := some (.inl (Int32.ofNat l.length))) rfl (hQ1 _ _ D M L f hw hfr hC.1 hf)
  | succ u ih =>
    intro i hh D M L f hu hi hw hfr hC hf
    have eit : hh 259 13 = .inl (Int32.ofNat l.length) := (kv_fr1 hfr (by decide)).trans hit
    refine kx_go 2 (pc' := 51) (L' := [(1, .inl (Int32.ofNat i)), (0, .inr (.inr (.inl (some 259))))]) (S' := [.inr (.inr (.inl (some 259))), .inl (Int32.ofNat i)]) (h' := hh) (by with_unfolding_all rfl) ?_
    refine kx_getf (c := 259) (v := .inl (Int32.ofNat l.length)) rfl (by decide) eit ?_
    refine kx_go 1 (pc' := (if kc_cnd .ge (Int32.ofNat i).toInt (Int32.ofNat l.length).toInt then 104 else 57)) (L' := [(1, .inl (Int32.ofNat i)), (0, .inr (.inr (.inl (some 259))))]) (S' := []) (h' := hh) (by with_unfolding_all rfl) ?_
    rw [if_neg (fun q => by have := (kx_ge (by omega) (by omega)).mp q; omega)]
    obtain ⟨q, hq⟩ : ∃ q, l[i]? = some q := ⟨l[i]'(by omega), List.getElem?_eq_getElem (by omega)⟩
    obtain ⟨hqo, hq9, hql⟩ := hl i q hq
    obtain ⟨a1, a2⟩ := hat i q hq
    have ew : hh 264 i = .inl (Int32.ofNat (kp_tv q.1)) := (kv_fr1 hfr ((show ∀ i, i < 60 → (kv_WR.all fun q => !kd_inr 264 q.1 q.2.1 i q.2.2.1 q.2.2.2) = true from by decide +kernel) i (by omega))).trans a1
    have er : ∀ k, hh 265 (5 * i + k) = hB 265 (5 * i + k) := fun k => hfr 265 (5 * i + k) (fun q hq => by
      simp only [kv_WR, List.mem_cons, List.not_mem_nil, or_false] at hq
      rcases hq with rfl | rfl <;> exact kb_inr (by (try dsimp only); omega))
    obtain ⟨nf, hnf⟩ : ∃ nf : Nat → Nat, ∀ k, k < 4 → hh 265 (5 * i + k) = .inl (Int32.ofNat (nf k)) ∧ nf k < 1000 := by
      have : ∀ k, ∃ v, k < 4 → hh 265 (5 * i + k) = .inl (Int32.ofNat v) ∧ v < 1000 := fun k => by
        by_cases hk : k < 4
        · obtain ⟨v, v1, v2⟩ := kx_ofg (by omega) (hw _ _ _ (km_k265 (5 * i + k) (by omega)))
          exact ⟨v, fun _ => ⟨v2, by omega⟩⟩
        · exact ⟨0, fun q => absurd q hk⟩
      exact Classical.axiomOfChoice this
    have hst : kv_step q.1 nf D M L f = kv_step q.1 (fun k => q.2.getD k 0) D M L f := kv_step_c hq9 (fun k hk => by
      have hk2 : k < q.2.length := by omega
      have e1 := a2 k q.2[k] (List.getElem?_eq_getElem hk2)
      have e2 := (hnf k (by have := hqo.2.1; omega)).1
      rw [er k, e1] at e2
      have e3 : Int32.ofNat q.2[k] = Int32.ofNat (nf k) := Sum.inl.inj e2
      have e4 : (Int32.ofNat q.2[k]).toInt = (Int32.ofNat (nf k)).toInt := by rw [e3]
      have e5 := hqo.2.2 q.2[k] (List.getElem_mem hk2)
      have e6 := (hnf k (by have := hqo.2.1; omega)).2
      rw [kx_ti (by omega), kx_ti (by omega)] at e4
      show nf k = q.2.getD k 0
      rw [List.getD_eq_getElem?_getD, List.getElem?_eq_getElem hk2]
      show nf k = q.2[k]
      omega)
    refine kx_go 2 (pc' := 59) (L' := [(1, .inl (Int32.ofNat i)), (0, .inr (.inr (.inl (some 259))))]) (S' := [.inl (Int32.ofNat i), .inr (.inr (.inl (some 259)))]) (h' := hh) (by with_unfolding_all rfl) ?_
    refine kc_call_rule (M2 := wk_m235) (av := [.inr (.inr (.inl (some 259))), .inl (Int32.ofNat i)]) (r := []) rfl rfl (kc_Con_le (kv_item hg hw (show i < 60 by omega) hq9 hC ew hnf) hd) (fun rv h2 hq2 => ?_)
    rw [hst] at hq2
    obtain ⟨r, rfl, hw2, hfr2, hq2⟩ := hq2
    have hdr : l.drop i = q :: l.drop (i + 1) := by
      rw [List.drop_eq_getElem_cons (show i < l.length by omega)]
      congr 1
      have := List.getElem?_eq_getElem (l := l) (i := i) (by omega)
      rw [this] at hq
      exact Option.some.inj hq
    rw [hdr] at hf
    show kc_Ev g d wk_m71 Q 62 [(1, .inl (Int32.ofNat i)), (0, .inr (.inr (.inl (some 259))))] [.inl r] h2
    refine kx_go 1 (pc' := (if kc_cnd .ge (r).toInt 0 then 98 else 65)) (L' := [(1, .inl (Int32.ofNat i)), (0, .inr (.inr (.inl (some 259))))]) (S' := []) (h' := h2) (by with_unfolding_all rfl) ?_
    rcases hq2 with ⟨D2, M2, L2, f2, e2, r0, hC2⟩ | ⟨e2, r0⟩
    · rw [if_pos (kv_g0 r0)]
      refine kx_go 2 (pc' := 49) (L' := [(1, .inl ((Int32.ofNat i) + Int32.ofInt 1)), (0, .inr (.inr (.inl (some 259))))]) (S' := []) (h' := h2) (by with_unfolding_all rfl) ?_
      rw [kx_inc]
      refine ih (i + 1) h2 D2 M2 L2 f2 (by omega) (by omega) hw2 (kv_fr_tr hfr hfr2) hC2 ?_
      rw [← hf]
      show _ = (match kv_step q.1 (fun k => q.2.getD k 0) D M L f with
        | some s => kv_fold (l.drop (i + 1)) s.1 s.2.1 s.2.2.1 s.2.2.2
        | none => none)
      rw [e2]
    · rw [if_neg (kv_g1 r0)]
      refine kx_go 2 (pc' := 67) (L' := [(2, .inl (Int32.ofNat 0)), (1, .inl (Int32.ofNat i)), (0, .inr (.inr (.inl (some 259))))]) (S' := []) (h' := h2) (by with_unfolding_all rfl) ?_
      have key := kz_dy2 (g := g) (d := d) (Q := Q) (h := h2) (i := i) (fun k hk => kz_int_r hw2 (by rw [(kz_k260 k hk).2.2.2]; exact (kz_k260 k hk).1)) 650 0 (by omega) (by omega) ?_
      · rw [kz_0, kz_wid hw2] at key
        exact key
      rw [kz_wid hw2]
      refine kx_go 3 (pc' := 97) (L' := [(2, .inl (Int32.ofNat 650)), (1, .inl (Int32.ofNat i)), (0, .inr (.inr (.inl (some 259))))]) (S' := [.inl ((Int32.ofInt (-1000)) - (Int32.ofNat i))]) (h' := (kz_cp h2 260 0 263 0 650)) (by with_unfolding_all rfl) ?_
      refine kc_ret_ok rfl (rv := some (.inl ((Int32.ofInt (-1000)) - (Int32.ofNat i)))) rfl (hQ0 _ h2 hw2 (kv_fr_tr hfr hfr2) ?_)
      rw [← hf]
      show (match kv_step q.1 (fun k => q.2.getD k 0) D M L f with
        | some s => kv_fold (l.drop (i + 1)) s.1 s.2.1 s.2.2.1 s.2.2.2
        | none => none) = none
      rw [e2]
set_option maxRecDepth 20000 in
theorem kv_day71 {g : kc_G} {h : kc_H} {n : Nat} {t : Nat → Nat} (hg : kc_ok g) (hw : kd_wt kd_ty h) (hn : n ≤ 240) (hb : ∀ j, j < 240 → t j < 256) (ht : ∀ j, j < 240 → h 260 (170 + j) = .inl (Int32.ofNat (t j))) (hnt : h 260 160 = .inl (Int32.ofNat n)) : kc_Con g 10 71 [.inr (.inr (.inl (some 259)))] h (kv_dR h (kv_out t n)) := by
  obtain ⟨s0, -, es0⟩ := kx_ofg (by omega) (hw _ _ _ kv_k259.1)
  obtain ⟨q0, -, eq0⟩ := kx_ofg (by omega) (hw _ _ _ kv_k259.2.1)
  obtain ⟨v0, hv0, ev0⟩ := kx_ofg (by omega) (hw _ _ _ kv_k259.2.2)
  refine kc_Con_new hg (M := wk_m71) rfl rfl rfl (show 1 ≤ 3 by decide) ?_
  refine kx_go 2 (pc' := 2) (L' := [(0, .inr (.inr (.inl (some 259))))]) (S' := [.inl (Int32.ofNat 0), .inr (.inr (.inl (some 259)))]) (h' := h) (by with_unfolding_all rfl) ?_
  refine kc_call_rule (M2 := wk_m64) (av := [.inr (.inr (.inl (some 259))), .inl (Int32.ofNat 0)]) (r := []) rfl rfl (kc_Con_le (km_reads0 (d := 0) (n := n) (t := t) hg hn hb hnt (fun j hj => by rw [show 170 + 240 * 0 + j = 170 + j from by omega]; exact ht j hj) (by omega) (kx_ofr (hw _ _ _ kz_k.1)) es0 eq0 ev0 (kx_ofr (hw _ _ _ kv_kr.1)) (kx_ofr (hw _ _ _ kv_kr.2))) (by decide)) (fun rv h1 hq => ?_)
  have hpost := km_post hw (by decide) hn (by decide) hq
  obtain ⟨pp, pp1, -, -, hw1, hfr1⟩ := hpost
  obtain rfl := List.mem_singleton.mp pp1
  simp only at hfr1
  unfold km_Qr at hq
  have near : ∀ i, h1 260 i = h 260 i := fun i => hfr1 260 i (fun q hq => by
    simp only [km_W, List.mem_cons, List.not_mem_nil, or_false] at hq
    rcases hq with rfl | rfl | rfl | rfl <;> exact kb_inr (by (try dsimp only); omega))
  cases hk : kp_its t n 9 0 61 0 with
  | none =>
    rw [hk] at hq
    obtain ⟨hx, it2, a2, s2, k2, u2, rfl, -, -⟩ := hq
    show kc_Ev g 9 wk_m71 _ 5 [(0, .inr (.inr (.inl (some 259))))] [.inl (Int32.ofNat 0)] h1
    refine kx_go 1 (pc' := 8) (L' := [(0, .inr (.inr (.inl (some 259))))]) (S' := []) (h' := h1) (by with_unfolding_all rfl) ?_
    obtain ⟨s1, -, es1⟩ := kx_ofg (by omega) (hw1 _ _ _ kv_k259.1)
    refine kx_go 2 (pc' := 11) (L' := [(0, .inr (.inr (.inl (some 259))))]) (S' := [.inr (.inr (.inl (some 259))), .inl (Int32.ofInt (-10))]) (h' := h1) (by with_unfolding_all rfl) ?_
    refine kx_getf (c := 259) (v := .inl (Int32.ofNat s1)) rfl (by decide) es1 ?_
    refine kx_go 1 (pc' := 15) (L' := [(0, .inr (.inr (.inl (some 259))))]) (S' := [.inl ((Int32.ofInt (-10)) - (Int32.ofNat s1))]) (h' := h1) (by with_unfolding_all rfl) ?_
    refine kc_ret_ok rfl (rv := some (.inl ((Int32.ofInt (-10)) - (Int32.ofNat s1)))) rfl ⟨⟨_, rfl⟩, hw1, kd_cvW_r km_W (by decide) hfr1, fun j hj => near _, near _, Or.inl ⟨?_, fun i hi => near i⟩⟩
    unfold kv_out
    rw [hk]
  | some l =>
    rw [hk] at hq
    obtain ⟨a2, s2, k2, u2, rfl, -, hh1⟩ := hq
    obtain ⟨hall, hlen⟩ := kp_its_ok hn (by decide) 61 0 0 l (by omega) (by omega) hk
    show kc_Ev g 9 wk_m71 _ 5 [(0, .inr (.inr (.inl (some 259))))] [.inl (Int32.ofNat 1)] h1
    refine kx_go 1 (pc' := 16) (L' := [(0, .inr (.inr (.inl (some 259))))]) (S' := []) (h' := h1) (by with_unfolding_all rfl) ?_
    refine kx_go 2 (pc' := 18) (L' := [(1, .inl (Int32.ofNat 0)), (0, .inr (.inr (.inl (some 259))))]) (S' := []) (h' := h1) (by with_unfolding_all rfl) ?_
    have key := kz_dy1 (g := g) (d := 9) (Q := kv_dR h (kv_out t n)) (h := h1) (fun k hk => kz_int_r hw1 (kz_k260 k hk).1) 650 0 (by omega) (by omega) ?_
    · rw [kz_0, kz_wid hw1] at key
      exact key
    rw [kz_wid hw1]
    generalize hh2 : kz_cp h1 263 0 260 0 650 = h2
    have hw2 : kd_wt kd_ty h2 := by
      rw [← hh2]
      exact kz_cp_wt hw1 (fun j hj => by rw [Nat.zero_add, (kz_k260 j hj).2.2.2])
    refine kx_go 1 (pc' := 44) (L' := [(1, .inl (Int32.ofNat 650)), (0, .inr (.inr (.inl (some 259))))]) (S' := [.inr (.inr (.inl (some 259)))]) (h' := h2) (by with_unfolding_all rfl) ?_
    refine kc_call_rule (M2 := wk_m12) (av := [.inr (.inr (.inl (some 259)))]) (r := []) rfl rfl (kc_Con_le (kd_h12 hg _ h2 hw2 ⟨⟨259, rfl, by decide, by decide⟩, trivial⟩ (fun q hq => by cases hq)) (by decide)) (fun rv h3 hq3 => ?_)
    obtain ⟨pp, p1, pr, pF, hw3, hfr3⟩ := hq3
    obtain rfl := List.mem_singleton.mp p1
    cases rv with
    | some y => exact pr.elim
    | none =>
      have hfr3 : kd_fr kv_W12 h2 h3 := kd_cvW_r _ (by decide) hfr3
      have hl3 : h3 260 3 = .inl (Int32.ofNat 0) := kx_ofs (k := 0) (by decide) (pF (260, 3, _) (by decide))
      have hC3 : kv_Rs h3 0 0 0 (fun _ => 0) := by
        refine ⟨⟨by decide, by decide, by decide, ?_, ?_, ?_⟩, fun i hi => ⟨Nat.zero_le _, ?_⟩⟩
        · exact kx_ofs (k := 0) (by decide) (pF (260, 0, _) (by decide))
        · exact kx_ofs (k := 0) (by decide) (pF (260, 1, _) (by decide))
        · exact kx_ofs (k := 0) (by decide) (pF (260, 2, _) (by decide))
        · rcases (show i = 0 ∨ i = 1 ∨ i = 2 ∨ i = 3 ∨ i = 4 ∨ i = 5 by omega) with rfl | rfl | rfl | rfl | rfl | rfl
          · exact kx_ofs (k := 0) (by decide) (pF (260, 46, _) (by decide))
          · exact kx_ofs (k := 0) (by decide) (pF (260, 47, _) (by decide))
          · exact kx_ofs (k := 0) (by decide) (pF (260, 48, _) (by decide))
          · exact kx_ofs (k := 0) (by decide) (pF (260, 49, _) (by decide))
          · exact kx_ofs (k := 0) (by decide) (pF (260, 50, _) (by decide))
          · exact kx_ofs (k := 0) (by decide) (pF (260, 51, _) (by decide))
      show kc_Ev g 9 wk_m71 _ 47 [(1, .inl (Int32.ofNat 650)), (0, .inr (.inr (.inl (some 259))))] [] h3
      refine kx_go 2 (pc' := 49) (L' := [(1, .inl (Int32.ofNat 0)), (0, .inr (.inr (.inl (some 259))))]) (S' := []) (h' := h3) (by with_unfolding_all rfl) ?_
      have far3 : ∀ c i, ¬ c = 260 → h3 c i = h2 c i := fun c i hc => hfr3 c i (fun q hq => by
        simp only [kv_W12, List.mem_cons, List.not_mem_nil, or_false] at hq
        rcases hq with rfl | rfl <;> exact kb_inr (by (try dsimp only); omega))
      have far : ∀ c i, ¬ c = 260 → ¬ c = 263 → h3 c i = h1 c i := fun c i hc hc2 => by
        rw [far3 c i hc, ← hh2]
        exact kz_n hc2
      have as3 : ∀ i, i < 650 → h3 263 i = h 260 i := fun i hi => by
        rw [far3 263 i (by decide), ← hh2, ← near i]
        unfold kz_cp
        rw [if_pos ⟨rfl, by omega, by omega⟩, show 0 + (i - 0) = i from by omega]
      have hit : h3 259 13 = .inl (Int32.ofNat l.length) := by
        rw [far 259 13 (by decide) (by decide), hh1]
        rfl
      have hat : ∀ (i : Nat) (q : Nat × List Nat), l[i]? = some q → h3 264 i = .inl (Int32.ofNat (kp_tv q.1)) ∧ ∀ k x, q.2[k]? = some x → h3 265 (5 * i + k) = .inl (Int32.ofNat x) := fun i q hq => by
        obtain ⟨a1, a2⟩ := km_ns_at l h 0 i q hq (fun q hq => (hall q hq).1.2.1)
        rw [Nat.zero_add] at a1 a2
        have e1 : ∀ c b, ¬ c = 259 → h1 c b = km_ns h 0 l c b := fun c b hc => by
          rw [hh1, km_o hc, kmj_o hc]
        exact ⟨by rw [far 264 i (by decide) (by decide), e1 264 i (by decide)]; exact a1, fun k x hx => by rw [far 265 (5 * i + k) (by decide) (by decide), e1 265 (5 * i + k) (by decide)]; exact a2 k x hx⟩
      have bk3 : ∀ i, 149 < i → h3 260 i = h 260 i := fun i hi => by
        rw [hfr3 260 i (fun q hq => by
          simp only [kv_W12, List.mem_cons, List.not_mem_nil, or_false] at hq
          rcases hq with rfl | rfl <;> exact kb_inr (by (try dsimp only); omega)), ← hh2, kz_n (by decide), near i]
      have wr : ∀ hE c i, kd_fr kv_WR h3 hE → (¬ c = 260 ∨ 149 < i ∨ i = 3) → hE c i = h3 c i := fun hE c i hfrE hc => hfrE c i (fun q hq => by
        simp only [kv_WR, List.mem_cons, List.not_mem_nil, or_false] at hq
        rcases hq with rfl | rfl <;> exact kb_inr (by (try dsimp only); omega))
      have rest : ∀ hE c i, kd_fr kv_WR h3 hE → ¬ c = 260 → (∀ q ∈ kv_W71, kd_inr c q.1 q.2.1 i q.2.2.1 q.2.2.2 = false) → hE c i = h c i := fun hE c i hfrE hc hq => by
        have q1 := kd_inr_f (hq (259, 259, 6, 10) (by decide))
        have q2 := kd_inr_f (hq (259, 259, 13, 13) (by decide))
        have q3 := kd_inr_f (hq (263, 263, 0, 649) (by decide))
        have q4 := kd_inr_f (hq (264, 264, 0, 59) (by decide))
        have q5 := kd_inr_f (hq (265, 265, 0, 299) (by decide))
        simp only at q1 q2 q3 q4 q5
        rw [wr hE c i hfrE (Or.inl hc), far3 c i hc, ← hh2]
        have e : kz_cp h1 263 0 260 0 650 c i = h1 c i := by
          unfold kz_cp
          rw [if_neg (by omega)]
        rw [e]
        exact hfr1 c i (fun q hq => by
          simp only [km_W, List.mem_cons, List.not_mem_nil, or_false] at hq
          rcases hq with rfl | rfl | rfl | rfl <;> exact kb_inr (by (try dsimp only); omega))
      refine kf_lo (L := [(1, .inl (Int32.ofNat 0)), (0, .inr (.inr (.inl (some 259))))]) (by intro q hq; simp only [List.mem_cons, List.not_mem_nil, or_false] at hq; rcases hq with rfl | rfl <;> rfl) ?_
      refine kv_dayr (l := l) (hB := h3) (out := kv_out t n) hg (by decide) hit (by omega) (fun i q hq => ?_) hat ?_ ?_ l.length 0 h3 0 0 0 (fun _ => 0) (by omega) (by omega) hw3 kv_fr0 hC3 ?_
      · obtain ⟨b1, -, b3, b4⟩ := hall q (List.mem_of_getElem? hq)
        exact ⟨b1, by omega, b4⟩
      · intro z hE D M L f hwE hfrE hCE hfo
        refine ⟨⟨z, rfl⟩, hwE, fun c i hq => ?_, fun j hj => ?_, ?_, Or.inr ⟨D, M, L, f, hfo.symm, hCE, ?_⟩⟩
        · by_cases hc : c = 260
          · subst hc
            have q6 := kd_inr_f (hq (260, 260, 0, 649) (by decide))
            simp only at q6
            rw [wr hE 260 i hfrE (by omega), bk3 i (by omega)]
          · exact rest hE c i hfrE hc hq
        · rw [wr hE 260 _ hfrE (by omega), bk3 _ (by omega)]
        · rw [wr hE 260 _ hfrE (by omega), bk3 _ (by omega)]
        · rw [wr hE 260 3 hfrE (by omega), hl3]
      · intro z hE hwE hfrE hno
        have bk : ∀ i, i < 650 → kz_cp hE 260 0 263 0 650 260 i = h 260 i := fun i hi => by
          unfold kz_cp
          rw [if_pos ⟨rfl, by omega, by omega⟩, show 0 + (i - 0) = i from by omega, wr hE 263 i hfrE (Or.inl (by decide)), as3 i hi]
        refine ⟨⟨z, rfl⟩, kz_cp_wt hwE (fun j hj => by rw [Nat.zero_add, (kz_k260 j hj).2.2.2]), fun c i hq => ?_, fun j hj => bk _ (by omega), bk _ (by decide), Or.inl ⟨hno, bk⟩⟩
        by_cases hc : c = 260
        · subst hc
          have q6 := kd_inr_f (hq (260, 260, 0, 649) (by decide))
          simp only at q6
          have e : kz_cp hE 260 0 263 0 650 260 i = hE 260 i := by
            unfold kz_cp
            rw [if_neg (by omega)]
          rw [e, wr hE 260 i hfrE (by omega), bk3 i (by omega)]
        · rw [kz_n hc]
          exact rest hE c i hfrE hc hq
      · show kv_fold (l.drop 0) 0 0 0 (fun _ => 0) = kv_out t n
        rw [List.drop_zero]
        unfold kv_out
        rw [hk]
