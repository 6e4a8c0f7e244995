/-! ===== by hand: the loop over the items ===== -/
theorem kx_getf {g : kc_G} {d : Nat} {M : wk_M} {Q : Option kc_V → kc_H → Prop} {pc : Nat} {AL : kc_L} {AS : List kc_V} {h : kc_H} {n idx : Nat} {x : Nat × Nat × Int} {wd : List Nat} {t : Nat} {a : Int} {c : Nat} {v : kc_V} (hf : wk_fetch M pc = some (pc, .getfield idx, n, x, wd, t, a)) (ho : kc_obj (.inr (.inr (.inl (some c)))) x.1 x.2.1 = some c) (hv : h c x.2.1 = v) (k : kc_Ev g d M Q (pc + 3) AL (v :: AS) h) : kc_Ev g d M Q pc AL (.inr (.inr (.inl (some c))) :: AS) h := by
  refine kc_heap_ok hf (dd := 3) (AS' := v :: AS) (h' := h) ?_ k
  show ((kc_obj (.inr (.inr (.inl (some c)))) x.1 x.2.1).map fun k => ((3, h k x.2.1 :: AS, h) : Nat × List kc_V × kc_H)) = _
  rw [ho]
  simp only [Option.map_some]
  rw [hv]
/-- the items of a text -/
def kp_its (t : Nat → Nat) (n m f : Nat) : Nat → Nat → Option (List (Nat × List Nat))
  | 0, _ => some []
  | u + 1, p => if kp_kd t n (kp_start t n p) = 0 then some [] else match kp_item t n m f (kp_nx t n (kp_start t n p)) (kp_kd t n (kp_start t n p)) (kp_start t n p) with
    | none => none
    | some q => match kp_its t n m f u q.2 with
      | none => none
      | some l => some (q.1 :: l)
def kr_w1 (h : kc_H) (it : Nat) (q : Nat × List Nat) : kc_H := kc_upd (kr_w h (130 + it) 0 q.2) 128 it (.inl (Int32.ofNat q.1))
def kr_ws : kc_H → Nat → List (Nat × List Nat) → kc_H
  | h, _, [] => h
  | h, it, q :: l => kr_ws (kr_w1 h it q) (it + 1) l
/-- only rows and words have changed, within bounds -/
def kr_D (h h2 : kc_H) : Prop := ∀ a b, h2 a b = h a b ∨ (130 ≤ a ∧ a < 190 ∧ b < 4 ∧ ∃ v, v < 1000 ∧ h2 a b = .inl (Int32.ofNat v)) ∨ (a = 128 ∧ b < 60 ∧ ∃ v, v < 16 ∧ h2 a b = .inl (Int32.ofNat v))
theorem kr_D_tr {h h1 h2 : kc_H} (a1 : kr_D h h1) (a2 : kr_D h1 h2) : kr_D h h2 := fun a b => by
  rcases a2 a b with e | e | e
  · rcases a1 a b with q | ⟨q1, q2, q0, v, q3, q4⟩ | ⟨q1, q0, v, q3, q4⟩
    · exact Or.inl (e.trans q)
    · exact Or.inr (Or.inl ⟨q1, q2, q0, v, q3, e.trans q4⟩)
    · exact Or.inr (Or.inr ⟨q1, q0, v, q3, e.trans q4⟩)
  · exact Or.inr (Or.inl e)
  · exact Or.inr (Or.inr e)
theorem kr_D_T {h h2 : kc_H} {it : Nat} (hit : it < 60) (hh : kr_T h h2 (130 + it)) : kr_D h h2 := fun a b => by
  rcases hh a b with e | ⟨e1, e0, v, e2, e3⟩
  · exact Or.inl e
  · exact Or.inr (Or.inl ⟨by omega, by omega, e0, v, e2, e3⟩)
theorem kr_D_w1 {h : kc_H} {it : Nat} {q : Nat × List Nat} (hit : it < 60) (h0 : q.2.length ≤ 4) (h1 : q.1 < 16) (h2 : ∀ v ∈ q.2, v < 1000) : kr_D h (kr_w1 h it q) := by
  refine kr_D_tr (kr_D_T hit (kr_T_w q.2 h 0 (by omega) h2)) (fun a b => ?_)
  unfold kr_w1 kc_upd
  split
  · rename_i e
    exact Or.inr (Or.inr ⟨e.1, by omega, q.1, h1, rfl⟩)
  · exact Or.inl rfl
theorem kr_D_n {h h2 : kc_H} {a b : Nat} (hh : kr_D h h2) (h1 : ¬ a = 128) (h3 : ¬ (130 ≤ a ∧ a < 190)) : h2 a b = h a b := by
  rcases hh a b with e | e | e
  · exact e
  · exact absurd ⟨e.1, e.2.1⟩ h3
  · exact absurd e.1 h1
set_option maxRecDepth 20000 in
theorem kr_rdl0 {g : kc_G} {d : Nat} {Q : Option kc_V → kc_H → Prop} {c n : Nat} {t : Nat → Nat} (hg : kc_ok g) (hc1 : kc_shp c = some (0, 0, 240)) (hc2 : c < kc_N) (hc3 : c < 127) (hn : n ≤ 240) (hb : ∀ j, j < 240 → t j < 256) : ∀ (u it : Nat) (h : kc_H) (p k s : Nat), 61 - it = u → 4 * it ≤ p → p ≤ n → (∀ j, j < 240 → h c j = .inl (Int32.ofNat (t j))) → (∀ i, i < 60 → h 129 i = .inr (.inr (.inl (some (130 + i))))) →
    (∀ l, kp_its t n 9 0 u p = some l → ∀ p2 k2 s2, p2 ≤ n → k2 < 5 → s2 ≤ n → Q (some (.inl (Int32.ofInt (-1)))) (kr_H (kj (kr_ws h it l) (it + l.length)) c n p2 k2 s2)) →
    (kp_its t n 9 0 u p = none → ∀ (h2 : kc_H) (it2 p2 k2 s2 : Nat), kr_D h h2 → it2 ≤ 60 → (s2 ≤ n ∧ p2 ≤ n ∧ k2 < 5) → Q (some (.inl (Int32.ofNat s2))) (kr_H (kj h2 it2) c n p2 k2 s2)) → kc_Ev g (d + 7) wk_m61 Q 38 [(2, .inl (Int32.ofNat it)), (0, .inr (.inr (.inl (some 127)))), (1, .inl (Int32.ofNat 0))] [] (kr_H (kj h it) c n p k s) := by
  intro u
  induction u with
  | zero =>
    intro it h p k s hu h4 hp ht hrw hok hbad
    omega
  | succ u ih =>
    intro it h p k s hu h4 hp ht hrw hok hbad
    refine kx_go 3 (pc' := (if kc_cnd .gt (Int32.ofNat it).toInt (Int32.ofNat 60).toInt then 76 else 44)) (L' := [(2, .inl (Int32.ofNat it)), (0, .inr (.inr (.inl (some 127)))), (1, .inl (Int32.ofNat 0))]) (S' := []) (h' := (kr_H (kj h it) c n p k s)) (by with_unfolding_all rfl) ?_
    rw [if_neg (fun w => by have := (kx_gt (by omega) (by omega)).mp w; omega)]
    refine kx_go 1 (pc' := 45) (L' := [(2, .inl (Int32.ofNat it)), (0, .inr (.inr (.inl (some 127)))), (1, .inl (Int32.ofNat 0))]) (S' := [.inr (.inr (.inl (some 127)))]) (h' := (kr_H (kj h it) c n p k s)) (by with_unfolding_all rfl) ?_
    refine kc_call_rule (M2 := wk_m62) (av := [.inr (.inr (.inl (some 127)))]) (r := []) rfl rfl (kc_Con_le (kr_step hg hc1 hc2 (by omega) hn (fun j hj => (kj_o (by omega)).trans (ht j hj)) hb hp) (by omega)) (fun rv h' hq => ?_)
    obtain ⟨rfl, rfl⟩ := hq
    have hst := kp_start_le (t := t) hp
    have hnx := kp_nx_le (t := t) hst.2
    have hkd := kp_kd_lt (t := t) (n := n) (s := kp_start t n p)
    show kc_Ev g (d + 7) wk_m61 Q 48 [(2, .inl (Int32.ofNat it)), (0, .inr (.inr (.inl (some 127)))), (1, .inl (Int32.ofNat 0))] [] (kr_H (kj h it) c n (kp_nx t n (kp_start t n p)) (kp_kd t n (kp_start t n p)) (kp_start t n p))
    refine kx_go 3 (pc' := (if kc_cnd .ne (Int32.ofNat (kp_kd t n (kp_start t n p))).toInt 0 then 57 else 55)) (L' := [(2, .inl (Int32.ofNat it)), (0, .inr (.inr (.inl (some 127)))), (1, .inl (Int32.ofNat 0))]) (S' := []) (h' := (kr_H (kj h it) c n (kp_nx t n (kp_start t n p)) (kp_kd t n (kp_start t n p)) (kp_start t n p))) (by with_unfolding_all rfl) ?_
    by_cases e0 : kp_kd t n (kp_start t n p) = 0
    · rw [if_neg (fun w => by rw [e0] at w; revert w; decide)]
      refine kx_go 1 (pc' := 56) (L' := [(2, .inl (Int32.ofNat it)), (0, .inr (.inr (.inl (some 127)))), (1, .inl (Int32.ofNat 0))]) (S' := [.inl (Int32.ofInt (-1))]) (h' := (kr_H (kj h it) c n (kp_nx t n (kp_start t n p)) (kp_kd t n (kp_start t n p)) (kp_start t n p))) (by with_unfolding_all rfl) ?_
      exact kc_ret_ok rfl (rv := some (.inl (Int32.ofInt (-1)))) rfl (hok [] (by unfold kp_its; rw [if_pos e0]) _ _ _ hnx.2 hkd hst.2)
    · have hit : it < 60 := by
        have : ¬ n ≤ kp_start t n p := fun q => e0 (if_pos q)
        omega
      rw [if_pos (by unfold kc_cnd; rw [kx_ti (by omega)]; simp only [Bool.not_eq_true', decide_eq_false_iff_not]; omega)]
      refine kx_go 2 (pc' := 59) (L' := [(2, .inl (Int32.ofNat it)), (0, .inr (.inr (.inl (some 127)))), (1, .inl (Int32.ofNat 0))]) (S' := [.inl (Int32.ofNat 0), .inr (.inr (.inl (some 127)))]) (h' := (kr_H (kj h it) c n (kp_nx t n (kp_start t n p)) (kp_kd t n (kp_start t n p)) (kp_start t n p))) (by with_unfolding_all rfl) ?_
      refine kc_call_rule (M2 := wk_m174) (av := [.inr (.inr (.inl (some 127))), .inl (Int32.ofNat 0)]) (r := []) rfl rfl (kr_item0 (d := d) hg hc1 hc2 hc3 hn hb hit ht (hrw it hit) hnx.1 hnx.2 hkd) (fun rv h' hq => ?_)
      unfold kr_Qi at hq
      cases hi : kp_item t n 9 0 (kp_nx t n (kp_start t n p)) (kp_kd t n (kp_start t n p)) (kp_start t n p) with
      | none =>
        rw [hi] at hq
        obtain ⟨h2, p2, k2, s2, rfl, hb2, rfl, hT⟩ := hq
        show kc_Ev g (d + 7) wk_m61 Q 62 [(2, .inl (Int32.ofNat it)), (0, .inr (.inr (.inl (some 127)))), (1, .inl (Int32.ofNat 0))] [.inl (Int32.ofNat s2)] (kr_H (kj h2 it) c n p2 k2 s2)
        refine kx_go 4 (pc' := (if kc_cnd .eq (Int32.ofNat s2).toInt (Int32.ofInt (-1)).toInt then 70 else 68)) (L' := [(3, .inl (Int32.ofNat s2)), (2, .inl (Int32.ofNat it)), (0, .inr (.inr (.inl (some 127)))), (1, .inl (Int32.ofNat 0))]) (S' := []) (h' := (kr_H (kj h2 it) c n p2 k2 s2)) (by with_unfolding_all rfl) ?_
        rw [if_neg (kx_nm1 (by omega))]
        refine kx_go 1 (pc' := 69) (L' := [(3, .inl (Int32.ofNat s2)), (2, .inl (Int32.ofNat it)), (0, .inr (.inr (.inl (some 127)))), (1, .inl (Int32.ofNat 0))]) (S' := [.inl (Int32.ofNat s2)]) (h' := (kr_H (kj h2 it) c n p2 k2 s2)) (by with_unfolding_all rfl) ?_
        exact kc_ret_ok rfl (rv := some (.inl (Int32.ofNat s2))) rfl (hbad (by unfold kp_its; rw [if_neg e0, hi]) h2 it p2 k2 s2 (kr_D_T hit hT) (by omega) hb2)
      | some q =>
        rw [hi] at hq
        obtain ⟨k2, s2, rfl, hb2, rfl⟩ := hq
        obtain ⟨c1, c2, c3, c4, c5, c6⟩ := kp_item_le (by omega) hnx.1 hnx.2 hi
        show kc_Ev g (d + 7) wk_m61 Q 62 [(2, .inl (Int32.ofNat it)), (0, .inr (.inr (.inl (some 127)))), (1, .inl (Int32.ofNat 0))] [.inl (Int32.ofInt (-1))] (kr_H (kj (kr_w1 h it q.1) (it + 1)) c n q.2 k2 s2)
        refine kx_go 4 (pc' := (if kc_cnd .eq (Int32.ofInt (-1)).toInt (Int32.ofInt (-1)).toInt then 70 else 68)) (L' := [(3, .inl (Int32.ofInt (-1))), (2, .inl (Int32.ofNat it)), (0, .inr (.inr (.inl (some 127)))), (1, .inl (Int32.ofNat 0))]) (S' := []) (h' := (kr_H (kj (kr_w1 h it q.1) (it + 1)) c n q.2 k2 s2)) (by with_unfolding_all rfl) ?_
        rw [if_pos kx_m1]
        refine kx_go 2 (pc' := 38) (L' := [(2, .inl ((Int32.ofNat it) + Int32.ofInt 1)), (3, .inl (Int32.ofInt (-1))), (0, .inr (.inr (.inl (some 127)))), (1, .inl (Int32.ofNat 0))]) (S' := []) (h' := (kr_H (kj (kr_w1 h it q.1) (it + 1)) c n q.2 k2 s2)) (by with_unfolding_all rfl) ?_
        rw [kx_inc]
        have hD := kr_D_w1 (h := h) (q := q.1) hit (by rw [c5]; exact (kr_shl _ (by omega)).2) (by omega) c6
        refine kf_lo (L := [(2, .inl (Int32.ofNat (it + 1))), (0, .inr (.inr (.inl (some 127)))), (1, .inl (Int32.ofNat 0))]) ?_ (ih (it + 1) (kr_w1 h it q.1) q.2 k2 s2 (by omega) (by omega) c2 (fun j hj => (kr_D_n hD (by omega) (by omega)).trans (ht j hj)) (fun j hj => (kr_D_n hD (by omega) (by omega)).trans (hrw j hj)) (fun l hl p2 k3 s3 a1 a2 a3 => ?_) (fun hl h2 it2 p2 k3 s3 hh a1 a2 => ?_))
        · intro q hq
          simp only [List.mem_cons, List.not_mem_nil, or_false] at hq
          rcases hq with rfl | rfl | rfl <;> rfl
        · have := hok (q.1 :: l) (by unfold kp_its; rw [if_neg e0, hi]; simp only; rw [hl]) p2 k3 s3 a1 a2 a3
          rw [show it + 1 + l.length = it + (q.1 :: l).length from by rw [List.length_cons]; omega]
          exact this
        · exact hbad (by unfold kp_its; rw [if_neg e0, hi]; simp only; rw [hl]) h2 it2 p2 k3 s3 (kr_D_tr hD hh) a1 a2
set_option maxRecDepth 20000 in
theorem kr_rdl1 {g : kc_G} {d : Nat} {Q : Option kc_V → kc_H → Prop} {c n : Nat} {t : Nat → Nat} (hg : kc_ok g) (hc1 : kc_shp c = some (0, 0, 240)) (hc2 : c < kc_N) (hc3 : c < 127) (hn : n ≤ 240) (hb : ∀ j, j < 240 → t j < 256) : ∀ (u it : Nat) (h : kc_H) (p k s : Nat), 61 - it = u → 4 * it ≤ p → p ≤ n → (∀ j, j < 240 → h c j = .inl (Int32.ofNat (t j))) → (∀ i, i < 60 → h 129 i = .inr (.inr (.inl (some (130 + i))))) →
    (∀ l, kp_its t n 7 9 u p = some l → ∀ p2 k2 s2, p2 ≤ n → k2 < 5 → s2 ≤ n → Q (some (.inl (Int32.ofInt (-1)))) (kr_H (kj (kr_ws h it l) (it + l.length)) c n p2 k2 s2)) →
    (kp_its t n 7 9 u p = none → ∀ (h2 : kc_H) (it2 p2 k2 s2 : Nat), kr_D h h2 → it2 ≤ 60 → (s2 ≤ n ∧ p2 ≤ n ∧ k2 < 5) → Q (some (.inl (Int32.ofNat s2))) (kr_H (kj h2 it2) c n p2 k2 s2)) → kc_Ev g (d + 7) wk_m61 Q 38 [(2, .inl (Int32.ofNat it)), (0, .inr (.inr (.inl (some 127)))), (1, .inl (Int32.ofNat 1))] [] (kr_H (kj h it) c n p k s) := by
  intro u
  induction u with
  | zero =>
    intro it h p k s hu h4 hp ht hrw hok hbad
    omega
  | succ u ih =>
    intro it h p k s hu h4 hp ht hrw hok hbad
    refine kx_go 3 (pc' := (if kc_cnd .gt (Int32.ofNat it).toInt (Int32.ofNat 60).toInt then 76 else 44)) (L' := [(2, .inl (Int32.ofNat it)), (0, .inr (.inr (.inl (some 127)))), (1, .inl (Int32.ofNat 1))]) (S' := []) (h' := (kr_H (kj h it) c n p k s)) (by with_unfolding_all rfl) ?_
    rw [if_neg (fun w => by have := (kx_gt (by omega) (by omega)).mp w; omega)]
    refine kx_go 1 (pc' := 45) (L' := [(2, .inl (Int32.ofNat it)), (0, .inr (.inr (.inl (some 127)))), (1, .inl (Int32.ofNat 1))]) (S' := [.inr (.inr (.inl (some 127)))]) (h' := (kr_H (kj h it) c n p k s)) (by with_unfolding_all rfl) ?_
    refine kc_call_rule (M2 := wk_m62) (av := [.inr (.inr (.inl (some 127)))]) (r := []) rfl rfl (kc_Con_le (kr_step hg hc1 hc2 (by omega) hn (fun j hj => (kj_o (by omega)).trans (ht j hj)) hb hp) (by omega)) (fun rv h' hq => ?_)
    obtain ⟨rfl, rfl⟩ := hq
    have hst := kp_start_le (t := t) hp
    have hnx := kp_nx_le (t := t) hst.2
    have hkd := kp_kd_lt (t := t) (n := n) (s := kp_start t n p)
    show kc_Ev g (d + 7) wk_m61 Q 48 [(2, .inl (Int32.ofNat it)), (0, .inr (.inr (.inl (some 127)))), (1, .inl (Int32.ofNat 1))] [] (kr_H (kj h it) c n (kp_nx t n (kp_start t n p)) (kp_kd t n (kp_start t n p)) (kp_start t n p))
    refine kx_go 3 (pc' := (if kc_cnd .ne (Int32.ofNat (kp_kd t n (kp_start t n p))).toInt 0 then 57 else 55)) (L' := [(2, .inl (Int32.ofNat it)), (0, .inr (.inr (.inl (some 127)))), (1, .inl (Int32.ofNat 1))]) (S' := []) (h' := (kr_H (kj h it) c n (kp_nx t n (kp_start t n p)) (kp_kd t n (kp_start t n p)) (kp_start t n p))) (by with_unfolding_all rfl) ?_
    by_cases e0 : kp_kd t n (kp_start t n p) = 0
    · rw [if_neg (fun w => by rw [e0] at w; revert w; decide)]
      refine kx_go 1 (pc' := 56) (L' := [(2, .inl (Int32.ofNat it)), (0, .inr (.inr (.inl (some 127)))), (1, .inl (Int32.ofNat 1))]) (S' := [.inl (Int32.ofInt (-1))]) (h' := (kr_H (kj h it) c n (kp_nx t n (kp_start t n p)) (kp_kd t n (kp_start t n p)) (kp_start t n p))) (by with_unfolding_all rfl) ?_
      exact kc_ret_ok rfl (rv := some (.inl (Int32.ofInt (-1)))) rfl (hok [] (by unfold kp_its; rw [if_pos e0]) _ _ _ hnx.2 hkd hst.2)
    · have hit : it < 60 := by
        have : ¬ n ≤ kp_start t n p := fun q => e0 (if_pos q)
        omega
      rw [if_pos (by unfold kc_cnd; rw [kx_ti (by omega)]; simp only [Bool.not_eq_true', decide_eq_false_iff_not]; omega)]
      refine kx_go 2 (pc' := 59) (L' := [(2, .inl (Int32.ofNat it)), (0, .inr (.inr (.inl (some 127)))), (1, .inl (Int32.ofNat 1))]) (S' := [.inl (Int32.ofNat 1), .inr (.inr (.inl (some 127)))]) (h' := (kr_H (kj h it) c n (kp_nx t n (kp_start t n p)) (kp_kd t n (kp_start t n p)) (kp_start t n p))) (by with_unfolding_all rfl) ?_
      refine kc_call_rule (M2 := wk_m174) (av := [.inr (.inr (.inl (some 127))), .inl (Int32.ofNat 1)]) (r := []) rfl rfl (kr_item1 (d := d) hg hc1 hc2 hc3 hn hb hit ht (hrw it hit) hnx.1 hnx.2 hkd) (fun rv h' hq => ?_)
      unfold kr_Qi at hq
      cases hi : kp_item t n 7 9 (kp_nx t n (kp_start t n p)) (kp_kd t n (kp_start t n p)) (kp_start t n p) with
      | none =>
        rw [hi] at hq
        obtain ⟨h2, p2, k2, s2, rfl, hb2, rfl, hT⟩ := hq
        show kc_Ev g (d + 7) wk_m61 Q 62 [(2, .inl (Int32.ofNat it)), (0, .inr (.inr (.inl (some 127)))), (1, .inl (Int32.ofNat 1))] [.inl (Int32.ofNat s2)] (kr_H (kj h2 it) c n p2 k2 s2)
        refine kx_go 4 (pc' := (if kc_cnd .eq (Int32.ofNat s2).toInt (Int32.ofInt (-1)).toInt then 70 else 68)) (L' := [(3, .inl (Int32.ofNat s2)), (2, .inl (Int32.ofNat it)), (0, .inr (.inr (.inl (some 127)))), (1, .inl (Int32.ofNat 1))]) (S' := []) (h' := (kr_H (kj h2 it) c n p2 k2 s2)) (by with_unfolding_all rfl) ?_
        rw [if_neg (kx_nm1 (by omega))]
        refine kx_go 1 (pc' := 69) (L' := [(3, .inl (Int32.ofNat s2)), (2, .inl (Int32.ofNat it)), (0, .inr (.inr (.inl (some 127)))), (1, .inl (Int32.ofNat 1))]) (S' := [.inl (Int32.ofNat s2)]) (h' := (kr_H (kj h2 it) c n p2 k2 s2)) (by with_unfolding_all rfl) ?_
        exact kc_ret_ok rfl (rv := some (.inl (Int32.ofNat s2))) rfl (hbad (by unfold kp_its; rw [if_neg e0, hi]) h2 it p2 k2 s2 (kr_D_T hit hT) (by omega) hb2)
      | some q =>
        rw [hi] at hq
        obtain ⟨k2, s2, rfl, hb2, rfl⟩ := hq
        obtain ⟨c1, c2, c3, c4, c5, c6⟩ := kp_item_le (by omega) hnx.1 hnx.2 hi
        show kc_Ev g (d + 7) wk_m61 Q 62 [(2, .inl (Int32.ofNat it)), (0, .inr (.inr (.inl (some 127)))), (1, .inl (Int32.ofNat 1))] [.inl (Int32.ofInt (-1))] (kr_H (kj (kr_w1 h it q.1) (it + 1)) c n q.2 k2 s2)
        refine kx_go 4 (pc' := (if kc_cnd .eq (Int32.ofInt (-1)).toInt (Int32.ofInt (-1)).toInt then 70 else 68)) (L' := [(3, .inl (Int32.ofInt (-1))), (2, .inl (Int32.ofNat it)), (0, .inr (.inr (.inl (some 127)))), (1, .inl (Int32.ofNat 1))]) (S' := []) (h' := (kr_H (kj (kr_w1 h it q.1) (it + 1)) c n q.2 k2 s2)) (by with_unfolding_all rfl) ?_
        rw [if_pos kx_m1]
        refine kx_go 2 (pc' := 38) (L' := [(2, .inl ((Int32.ofNat it) + Int32.ofInt 1)), (3, .inl (Int32.ofInt (-1))), (0, .inr (.inr (.inl (some 127)))), (1, .inl (Int32.ofNat 1))]) (S' := []) (h' := (kr_H (kj (kr_w1 h it q.1) (it + 1)) c n q.2 k2 s2)) (by with_unfolding_all rfl) ?_
        rw [kx_inc]
        have hD := kr_D_w1 (h := h) (q := q.1) hit (by rw [c5]; exact (kr_shl _ (by omega)).2) (by omega) c6
        refine kf_lo (L := [(2, .inl (Int32.ofNat (it + 1))), (0, .inr (.inr (.inl (some 127)))), (1, .inl (Int32.ofNat 1))]) ?_ (ih (it + 1) (kr_w1 h it q.1) q.2 k2 s2 (by omega) (by omega) c2 (fun j hj => (kr_D_n hD (by omega) (by omega)).trans (ht j hj)) (fun j hj => (kr_D_n hD (by omega) (by omega)).trans (hrw j hj)) (fun l hl p2 k3 s3 a1 a2 a3 => ?_) (fun hl h2 it2 p2 k3 s3 hh a1 a2 => ?_))
        · intro q hq
          simp only [List.mem_cons, List.not_mem_nil, or_false] at hq
          rcases hq with rfl | rfl | rfl <;> rfl
        · have := hok (q.1 :: l) (by unfold kp_its; rw [if_neg e0, hi]; simp only; rw [hl]) p2 k3 s3 a1 a2 a3
          rw [show it + 1 + l.length = it + (q.1 :: l).length from by rw [List.length_cons]; omega]
          exact this
        · exact hbad (by unfold kp_its; rw [if_neg e0, hi]; simp only; rw [hl]) h2 it2 p2 k3 s3 (kr_D_tr hD hh) a1 a2
