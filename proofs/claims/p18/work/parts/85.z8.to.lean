section
-- 85.z8
/-! ===== by hand: the loop over the items ===== -/
theorem kx_getf {g : kc_G} {d : Nat} {M : wk_M} {Q : Option kc_V → kc_H → Prop} {pc : Nat} {AL : kc_L} {AS : List kc_V} {h : kc_H} {n idx : Nat} {x : Nat × Nat × Int} {wd : List Nat} {t : Nat} {a : Int} {c : Nat} {v : kc_V} (hf : wk_fetch M pc = some (pc, .getfield idx, n, x, wd, t, a)) (ho : kc_obj (.inr (.inr (.inl (some c)))) x.1 x.2.1 = some c) (hv : h c x.2.1 = v) (k : kc_Ev g d M Q (pc + 3) AL (v :: AS) h) : kc_Ev g d M Q pc AL (.inr (.inr (.inl (some c))) :: AS) h := by
  refine kc_heap_ok hf (dd := 3) (AS' := v :: AS) (h' := h) ?_ k
  show ((kc_obj (.inr (.inr (.inl (some c)))) x.1 x.2.1).map fun k => ((3, h k x.2.1 :: AS, h) : Nat × List kc_V × kc_H)) = _
  rw [ho]
  simp only [Option.map_some]
  rw [hv]
/-- the items of a text -/
def kp_its (t : Nat → Nat) (n m f : Nat) : Nat → Nat → Option (List (Nat × List Nat))
  | 0, _ => some []
  | u + 1, p => if kp_kd t n (kp_start t n p) = 0 then some [] else match kp_item t n m f (kp_nx t n (kp_start t n p)) (kp_kd t n (kp_start t n p)) (kp_start t n p) with
    | none => none
    | some q => match kp_its t n m f u q.2 with
      | none => none
      | some l => some (q.1 :: l)
def kr_w1 (h : kc_H) (it : Nat) (q : Nat × List Nat) : kc_H := kc_upd (kr_w h (130 + it) 0 q.2) 128 it (.inl (Int32.ofNat q.1))
def kr_ws : kc_H → Nat → List (Nat × List Nat) → kc_H
  | h, _, [] => h
  | h, it, q :: l => kr_ws (kr_w1 h it q) (it + 1) l
/-- only rows and words have changed, within bounds -/
def kr_D (h h2 : kc_H) : Prop := ∀ a b, h2 a b = h a b ∨ (130 ≤ a ∧ a < 190 ∧ b < 4 ∧ ∃ v, v < 1000 ∧ h2 a b = .inl (Int32.ofNat v)) ∨ (a = 128 ∧ b < 60 ∧ ∃ v, v < 16 ∧ h2 a b = .inl (Int32.ofNat v))
theorem kr_D_tr {h h1 h2 : kc_H} (a1 : kr_D h h1) (a2 : kr_D h1 h2) : kr_D h h2 := fun a b => by
  rcases a2 a b with e | e | e
  · rcases a1 a b with q | ⟨q1, q2, q0, v, q3, q4⟩ | ⟨q1, q0, v, q3, q4⟩
    · exact Or.inl (e.trans q)
    · exact Or.inr (Or.inl ⟨q1, q2, q0, v, q3, e.trans q4⟩)
    · exact Or.inr (Or.inr ⟨q1, q0, v, q3, e.trans q4⟩)
  · exact Or.inr (Or.inl e)
  · exact Or.inr (Or.inr e)
theorem kr_D_T {h h2 : kc_H} {it : Nat} (hit : it < 60) (hh : kr_T h h2 (130 + it)) : kr_D h h2 := fun a b => by
  rcases hh a b with e | ⟨e1, e0, v, e2, e3⟩
  · exact Or.inl e
  · exact Or.inr (Or.inl ⟨by omega, by omega, e0, v, e2, e3⟩)
theorem kr_D_w1 {h : kc_H} {it : Nat} {q : Nat × List Nat} (hit : it < 60) (h0 : q.2.length ≤ 4) (h1 : q.1 < 16) (h2 : ∀ v ∈ q.2, v < 1000) : kr_D h (kr_w1 h it q) := by
  refine kr_D_tr (kr_D_T hit (kr_T_w q.2 h 0 (by omega) h2)) (fun a b => ?_)
  unfold kr_w1 kc_upd
  split
  · rename_i e
    exact Or.inr (Or.inr ⟨e.1, by omega, q.1, h1, rfl⟩)
  · exact Or.inl rfl
theorem kr_D_n {h h2 : kc_H} {a b : Nat} (hh : kr_D h h2) (h1 : ¬ a = 128) (h3 : ¬ (130 ≤ a ∧ a < 190)) : h2 a b = h a b := by
  rcases hh a b with e | e | e
  · exact e
  · exact absurd ⟨e.1, e.2.1⟩ h3
  · exact absurd e.1 h1
set_option maxRecDepth 20000 in
theorem kr_rdl0 {g : kc_G} {d : Nat} {Q : Option kc_V → kc_H → Prop} {c n : Nat} {t : Nat → Nat} (hg : kc_ok g) (hc1 : kc_shp c = some (0, 0, 240)) (hc2 : c < kc_N) (hc3 : c < 127) (hn : n ≤ 240) (hb : ∀ j, j < 240 → t j < 256) : ∀ (u it : Nat) (h : kc_H) (p k s : Nat), 61 - it = u → 4 * it ≤ p → p ≤ n → (∀ j, j < 240 → h c j = .inl (Int32.ofNat (t j))) → (∀ i, i < 60 → h 129 i = .inr (.inr (.inl (some (130 + i))))) →
    (∀ l, kp_its t n 9 0 u p = some l → ∀ p2 k2 s2, p2 ≤ n → k2 < 5 → s2 ≤ n → Q (some (.inl (Int32.ofInt (-1)))) (kr_H (kj (kr_ws h it l) (it + l.length)) c n p2 k2 s2)) →
    (kp_its t n 9 0 u p = none → ∀ (h2 : kc_H) (it2 p2 k2 s2 : Nat), kr_D h h2 → it2 ≤ 60 → (s2 ≤ n ∧ p2 ≤ n ∧ k2 < 5) → Q (some (.inl (Int32.ofNat s2))) (kr_H (kj h2 it2) c n p2 k2 s2)) → kc_Ev g (d + 7) wk_m61 Q 38 [(2, .inl (Int32.ofNat it)), (0, .inr (.inr (.inl (some 127)))), (1, .inl (Int32.ofNat 0))] [] (kr_H (kj h it) c n p k s) := by
  intro u
  induction u with
  | zero =>
    intro it h p k s hu h4 hp ht hrw hok hbad
    omega
  | succ u ih =>
    intro it h p k s hu h4 hp ht hrw hok hbad
    refine kx_go 3 (pc' := (if kc_cnd .gt (Int32.ofNat it).toInt (Int32.ofNat 60).toInt then 76 else 44)) (L' := [(2, .inl (Int32.ofNat it)), (0, .inr (.inr (.inl (some 127)))), (1, .inl (Int32.ofNat 0))]) (S' := []) (h' := (kr_H (kj h it) c n p k s)) (by with_unfolding_all rfl) ?_
    rw [if_neg (fun w => by have := (kx_gt (by omega) (by omega)).mp w; omega)]
    refine kx_go 1 (pc' := 45) (L' := [(2, .inl (Int32.ofNat it)), (0, .inr (.inr (.inl (some 127)))), (1, .inl (Int32.ofNat 0))]) (S' := [.inr (.inr (.inl (some 127)))]) (h' := (kr_H (kj h it) c n p k s)) (by with_unfolding_all rfl) ?_
    refine kc_call_rule (M2 := wk_m62) (av := [.inr (.inr (.inl (some 127)))]) (r := []) rfl rfl (kc_Con_le (kr_step hg hc1 hc2 (by omega) hn (fun j hj => (kj_o (by omega)).trans (ht j hj)) hb hp) (by omega)) (fun rv h' hq => ?_)
    obtain ⟨rfl, rfl⟩ := hq
    have hst := kp_start_le (t := t) hp
    have hnx := kp_nx_le (t := t) hst.2
    have hkd := kp_kd_lt (t := t) (n := n) (s := kp_start t n p)
    show kc_Ev g (d + 7) wk_m61 Q 48 [(2, .inl (Int32.ofNat it)), (0, .inr (.inr (.inl (some 127)))), (1, .inl (Int32.ofNat 0))] [] (kr_H (kj h it) c n (kp_nx t n (kp_start t n p)) (kp_kd t n (kp_start t n p)) (kp_start t n p))
    refine kx_go 3 (pc' := (if kc_cnd .ne (Int32.ofNat (kp_kd t n (kp_start t n p))).toInt 0 then 57 else 55)) (L' := [(2, .inl (Int32.ofNat it)), (0, .inr (.inr (.inl (some 127)))), (1, .inl (Int32.ofNat 0))]) (S' := []) (h' := (kr_H (kj h it) c n (kp_nx t n (kp_start t n p)) (kp_kd t n (kp_start t n p)) (kp_start t n p))) (by with_unfolding_all rfl) ?_
    by_cases e0 : kp_kd t n (kp_start t n p) = 0
    · rw [if_neg (fun w => by rw [e0] at w; revert w; decide)]
      refine kx_go 1 (pc' := 56) (L' := [(2, .inl (Int32.ofNat it)), (0, .inr (.inr (.inl (some 127)))), (1, .inl (Int32.ofNat 0))]) (S' := [.inl (Int32.ofInt (-1))]) (h' := (kr_H (kj h it) c n (kp_nx t n (kp_start t n p)) (kp_kd t n (kp_start t n p)) (kp_start t n p))) (by with_unfolding_all rfl) ?_
      exact kc_ret_ok rfl (rv := some (.inl (Int32.ofInt (-1)))) rfl (hok [] (by unfold kp_its; rw [if_pos e0]) _ _ _ hnx.2 hkd hst.2)
    · have hit : it < 60 := by
        have : ¬ n ≤ kp_start t n p := fun q => e0 (if_pos q)
        omega
      rw [if_pos (by unfold kc_cnd; rw [kx_ti (by omega)]; simp only [Bool.not_eq_true', decide_eq_false_iff_not]; omega)]
      refine kx_go 2 (pc' := 59) (L' := [(2, .inl (Int32.ofNat it)), (0, .inr (.inr (.inl (some 127)))), (1, .inl (Int32.ofNat 0))]) (S' := [.inl (Int32.ofNat 0), .inr (.inr (.inl (some 127)))]) (h' := (kr_H (kj h it) c n (kp_nx t n (kp_start t n p)) (kp_kd t n (kp_start t n p)) (kp_start t n p))) (by with_unfolding_all rfl) ?_
      refine kc_call_rule (M2 := wk_m174) (av := [.inr (.inr (.inl (some 127))), .inl (Int32.ofNat 0)]) (r := []) rfl rfl (kr_item0 (d := d) hg hc1 hc2 hc3 hn hb hit ht (hrw it hit) hnx.1 hnx.2 hkd) (fun rv h' hq => ?_)
      unfold kr_Qi at hq
      cases hi : kp_item t n 9 0 (kp_nx t n (kp_start t n p)) (kp_kd t n (kp_start t n p)) (kp_start t n p) with
      | none =>
        rw [hi] at hq
        obtain ⟨h2, p2, k2, s2, rfl, hb2, rfl, hT⟩ := hq
        show kc_Ev g (d + 7) wk_m61 Q 62 [(2, .inl (Int32.ofNat it)), (0, .inr (.inr (.inl (some 127)))), (1, .inl (Int32.ofNat 0))] [.inl (Int32.ofNat s2)] (kr_H (kj h2 it) c n p2 k2 s2)
        refine kx_go 4 (pc' := (if kc_cnd .eq (Int32.ofNat s2).toInt (Int32.ofInt (-1)).toInt then 70 else 68)) (L' := [(3, .inl (Int32.ofNat s2)), (2, .inl (Int32.ofNat it)), (0, .inr (.inr (.inl (some 127)))), (1, .inl (Int32.ofNat 0))]) (S' := []) (h' := (kr_H (kj h2 it) c n p2 k2 s2)) (by with_unfolding_all rfl) ?_
        rw [if_neg (kx_nm1 (by omega))]
        refine kx_go 1 (pc' := 69) (L' := [(3, .inl (Int32.ofNat s2)), (2, .inl (Int32.ofNat it)), (0, .inr (.inr (.inl (some 127)))), (1, .inl (Int32.ofNat 0))]) (S' := [.inl (Int32.ofNat s2)]) (h' := (kr_H (kj h2 it) c n p2 k2 s2)) (by with_unfolding_all rfl) ?_
        exact kc_ret_ok rfl (rv := some (.inl (Int32.ofNat s2))) rfl (hbad (by unfold kp_its; rw [if_neg e0, hi]) h2 it p2 k2 s2 (kr_D_T hit hT) (by omega) hb2)
      | some q =>
        rw [hi] at hq
        obtain ⟨k2, s2, rfl, hb2, rfl⟩ := hq
        obtain ⟨c1, c2, c3, c4, c5, c6⟩ := kp_item_le (by omega) hnx.1 hnx.2 hi
        show kc_Ev g (d + 7) wk_m61 Q 62 [(2, .inl (Int32.ofNat it)), (0, .inr (.inr (.inl (some 127)))), (1, .inl (Int32.ofNat 0))] [.inl (Int32.ofInt (-1))] (kr_H (kj (kr_w1 h it q.1) (it + 1)) c n q.2 k2 s2)
        refine kx_go 4 (pc' := (if kc_cnd .eq (Int32.ofInt (-1)).toInt (Int32.ofInt (-1)).toInt then 70 else 68)) (L' := [(3, .inl (Int32.ofInt (-1))), (2, .inl (Int32.ofNat it)), (0, .inr (.inr (.inl (some 127)))), (1, .inl (Int32.ofNat 0))]) (S' := []) (h' := (kr_H (kj (kr_w1 h it q.1) (it + 1)) c n q.2 k2 s2)) (by with_unfolding_all rfl) ?_
        rw [if_pos kx_m1]
        refine kx_go 2 (pc' := 38) (L' := [(2, .inl ((Int32.ofNat it) + Int32.ofInt 1)), (3, .inl (Int32.ofInt (-1))), (0, .inr (.inr (.inl (some 127)))), (1, .inl (Int32.ofNat 0))]) (S' := []) (h' := (kr_H (kj (kr_w1 h it q.1) (it + 1)) c n q.2 k2 s2)) (by with_unfolding_all rfl) ?_
        rw [kx_inc]
        have hD := kr_D_w1 (h := h) (q := q.1) hit (by rw [c5]; exact (kr_shl _ (by omega)).2) (by omega) c6
        refine kf_lo (L := [(2, .inl (Int32.ofNat (it + 1))), (0, .inr (.inr (.inl (some 127)))), (1, .inl (Int32.ofNat 0))]) ?_ (ih (it + 1) (kr_w1 h it q.1) q.2 k2 s2 (by omega) (by omega) c2 (fun j hj => (kr_D_n hD (by omega) (by omega)).trans (ht j hj)) (fun j hj => (kr_D_n hD (by omega) (by omega)).trans (hrw j hj)) (fun l hl p2 k3 s3 a1 a2 a3 => ?_) (fun hl h2 it2 p2 k3 s3 hh a1 a2 => ?_))
        · intro q hq
          simp only [List.mem_cons, List.not_mem_nil, or_false] at hq
          rcases hq with rfl | rfl | rfl <;> rfl
        · have := hok (q.1 :: l) (by unfold kp_its; rw [if_neg e0, hi]; simp only; rw [hl]) p2 k3 s3 a1 a2 a3
          rw [show it + 1 + l.length = it + (q.1 :: l).length from by rw [List.length_cons]; omega]
          exact this
        · exact hbad (by unfold kp_its; rw [if_neg e0, hi]; simp only; rw [hl]) h2 it2 p2 k3 s3 (kr_D_tr hD hh) a1 a2
set_option maxRecDepth 20000 in
theorem kr_rdl1 {g : kc_G} {d : Nat} {Q : Option kc_V → kc_H → Prop} {c n : Nat} {t : Nat → Nat} (hg : kc_ok g) (hc1 : kc_shp c = some (0, 0, 240)) (hc2 : c < kc_N) (hc3 : c < 127) (hn : n ≤ 240) (hb : ∀ j, j < 240 → t j < 256) : ∀ (u it : Nat) (h : kc_H) (p k s : Nat), 61 - it = u → 4 * it ≤ p → p ≤ n → (∀ j, j < 240 → h c j = .inl (Int32.ofNat (t j))) → (∀ i, i < 60 → h 129 i = .inr (.inr (.inl (some (130 + i))))) →
    (∀ l, kp_its t n 7 9 u p = some l → ∀ p2 k2 s2, p2 ≤ n → k2 < 5 → s2 ≤ n → Q (some (.inl (Int32.ofInt (-1)))) (kr_H (kj (kr_ws h it l) (it + l.length)) c n p2 k2 s2)) →
    (kp_its t n 7 9 u p = none → ∀ (h2 : kc_H) (it2 p2 k2 s2 : Nat), kr_D h h2 → it2 ≤ 60 → (s2 ≤ n ∧ p2 ≤ n ∧ k2 < 5) → Q (some (.inl (Int32.ofNat s2))) (kr_H (kj h2 it2) c n p2 k2 s2)) → kc_Ev g (d + 7) wk_m61 Q 38 [(2, .inl (Int32.ofNat it)), (0, .inr (.inr (.inl (some 127)))), (1, .inl (Int32.ofNat 1))] [] (kr_H (kj h it) c n p k s) := by
  intro u
  induction u with
  | zero =>
    intro it h p k s hu h4 hp ht hrw hok hbad
    omega
  | succ u ih =>
    intro it h p k s hu h4 hp ht hrw hok hbad
    refine kx_go 3 (pc' := (if kc_cnd .gt (Int32.ofNat it).toInt (Int32.ofNat 60).toInt then 76 else 44)) (L' := [(2, .inl (Int32.ofNat it)), (0, .inr (.inr (.inl (some 127)))), (1, .inl (Int32.ofNat 1))]) (S' := []) (h' := (kr_H (kj h it) c n p k s)) (by with_unfolding_all rfl) ?_
    rw [if_neg (fun w => by have := (kx_gt (by omega) (by omega)).mp w; omega)]
    refine kx_go 1 (pc' := 45) (L' := [(2, .inl (Int32.ofNat it)), (0, .inr (.inr (.inl (some 127)))), (1, .inl (Int32.ofNat 1))]) (S' := [.inr (.inr (.inl (some 127)))]) (h' := (kr_H (kj h it) c n p k s)) (by with_unfolding_all rfl) ?_
    refine kc_call_rule (M2 := wk_m62) (av := [.inr (.inr (.inl (some 127)))]) (r := []) rfl rfl (kc_Con_le (kr_step hg hc1 hc2 (by omega) hn (fun j hj => (kj_o (by omega)).trans (ht j hj)) hb hp) (by omega)) (fun rv h' hq => ?_)
    obtain ⟨rfl, rfl⟩ := hq
    have hst := kp_start_le (t := t) hp
    have hnx := kp_nx_le (t := t) hst.2
    have hkd := kp_kd_lt (t := t) (n := n) (s := kp_start t n p)
    show kc_Ev g (d + 7) wk_m61 Q 48 [(2, .inl (Int32.ofNat it)), (0, .inr (.inr (.inl (some 127)))), (1, .inl (Int32.ofNat 1))] [] (kr_H (kj h it) c n (kp_nx t n (kp_start t n p)) (kp_kd t n (kp_start t n p)) (kp_start t n p))
    refine kx_go 3 (pc' := (if kc_cnd .ne (Int32.ofNat (kp_kd t n (kp_start t n p))).toInt 0 then 57 else 55)) (L' := [(2, .inl (Int32.ofNat it)), (0, .inr (.inr (.inl (some 127)))), (1, .inl (Int32.ofNat 1))]) (S' := []) (h' := (kr_H (kj h it) c n (kp_nx t n (kp_start t n p)) (kp_kd t n (kp_start t n p)) (kp_start t n p))) (by with_unfolding_all rfl) ?_
    by_cases e0 : kp_kd t n (kp_start t n p) = 0
    · rw [if_neg (fun w => by rw [e0] at w; revert w; decide)]
      refine kx_go 1 (pc' := 56) (L' := [(2, .inl (Int32.ofNat it)), (0, .inr (.inr (.inl (some 127)))), (1, .inl (Int32.ofNat 1))]) (S' := [.inl (Int32.ofInt (-1))]) (h' := (kr_H (kj h it) c n (kp_nx t n (kp_start t n p)) (kp_kd t n (kp_start t n p)) (kp_start t n p))) (by with_unfolding_all rfl) ?_
      exact kc_ret_ok rfl (rv := some (.inl (Int32.ofInt (-1)))) rfl (hok [] (by unfold kp_its; rw [if_pos e0]) _ _ _ hnx.2 hkd hst.2)
    · have hit : it < 60 := by
        have : ¬ n ≤ kp_start t n p := fun q => e0 (if_pos q)
        omega
      rw [if_pos (by unfold kc_cnd; rw [kx_ti (by omega)]; simp only [Bool.not_eq_true', decide_eq_false_iff_not]; omega)]
      refine kx_go 2 (pc' := 59) (L' := [(2, .inl (Int32.ofNat it)), (0, .inr (.inr (.inl (some 127)))), (1, .inl (Int32.ofNat 1))]) (S' := [.inl (Int32.ofNat 1), .inr (.inr (.inl (some 127)))]) (h' := (kr_H (kj h it) c n (kp_nx t n (kp_start t n p)) (kp_kd t n (kp_start t n p)) (kp_start t n p))) (by with_unfolding_all rfl) ?_
      refine kc_call_rule (M2 := wk_m174) (av := [.inr (.inr (.inl (some 127))), .inl (Int32.ofNat 1)]) (r := []) rfl rfl (kr_item1 (d := d) hg hc1 hc2 hc3 hn hb hit ht (hrw it hit) hnx.1 hnx.2 hkd) (fun rv h' hq => ?_)
      unfold kr_Qi at hq
      cases hi : kp_item t n 7 9 (kp_nx t n (kp_start t n p)) (kp_kd t n (kp_start t n p)) (kp_start t n p) with
      | none =>
        rw [hi] at hq
        obtain ⟨h2, p2, k2, s2, rfl, hb2, rfl, hT⟩ := hq
        show kc_Ev g (d + 7) wk_m61 Q 62 [(2, .inl (Int32.ofNat it)), (0, .inr (.inr (.inl (some 127)))), (1, .inl (Int32.ofNat 1))] [.inl (Int32.ofNat s2)] (kr_H (kj h2 it) c n p2 k2 s2)
        refine kx_go 4 (pc' := (if kc_cnd .eq (Int32.ofNat s2).toInt (Int32.ofInt (-1)).toInt then 70 else 68)) (L' := [(3, .inl (Int32.ofNat s2)), (2, .inl (Int32.ofNat it)), (0, .inr (.inr (.inl (some 127)))), (1, .inl (Int32.ofNat 1))]) (S' := []) (h' := (kr_H (kj h2 it) c n p2 k2 s2)) (by with_unfolding_all rfl) ?_
        rw [if_neg (kx_nm1 (by omega))]
        refine kx_go 1 (pc' := 69) (L' := [(3, .inl (Int32.ofNat s2)), (2, .inl (Int32.ofNat it)), (0, .inr (.inr (.inl (some 127)))), (1, .inl (Int32.ofNat 1))]) (S' := [.inl (Int32.ofNat s2)]) (h' := (kr_H (kj h2 it) c n p2 k2 s2)) (by with_unfolding_all rfl) ?_
        exact kc_ret_ok rfl (rv := some (.inl (Int32.ofNat s2))) rfl (hbad (by unfold kp_its; rw [if_neg e0, hi]) h2 it p2 k2 s2 (kr_D_T hit hT) (by omega) hb2)
      | some q =>
        rw [hi] at hq
        obtain ⟨k2, s2, rfl, hb2, rfl⟩ := hq
        obtain ⟨c1, c2, c3, c4, c5, c6⟩ := kp_item_le (by omega) hnx.1 hnx.2 hi
        show kc_Ev g (d + 7) wk_m61 Q 62 [(2, .inl (Int32.ofNat it)), (0, .inr (.inr (.inl (some 127)))), (1, .inl (Int32.ofNat 1))] [.inl (Int32.ofInt (-1))] (kr_H (kj (kr_w1 h it q.1) (it + 1)) c n q.2 k2 s2)
        refine kx_go 4 (pc' := (if kc_cnd .eq (Int32.ofInt (-1)).toInt (Int32.ofInt (-1)).toInt then 70 else 68)) (L' := [(3, .inl (Int32.ofInt (-1))), (2, .inl (Int32.ofNat it)), (0, .inr (.inr (.inl (some 127)))), (1, .inl (Int32.ofNat 1))]) (S' := []) (h' := (kr_H (kj (kr_w1 h it q.1) (it + 1)) c n q.2 k2 s2)) (by with_unfolding_all rfl) ?_
        rw [if_pos kx_m1]
        refine kx_go 2 (pc' := 38) (L' := [(2, .inl ((Int32.ofNat it) + Int32.ofInt 1)), (3, .inl (Int32.ofInt (-1))), (0, .inr (.inr (.inl (some 127)))), (1, .inl (Int32.ofNat 1))]) (S' := []) (h' := (kr_H (kj (kr_w1 h it q.1) (it + 1)) c n q.2 k2 s2)) (by with_unfolding_all rfl) ?_
        rw [kx_inc]
        have hD := kr_D_w1 (h := h) (q := q.1) hit (by rw [c5]; exact (kr_shl _ (by omega)).2) (by omega) c6
        refine kf_lo (L := [(2, .inl (Int32.ofNat (it + 1))), (0, .inr (.inr (.inl (some 127)))), (1, .inl (Int32.ofNat 1))]) ?_ (ih (it + 1) (kr_w1 h it q.1) q.2 k2 s2 (by omega) (by omega) c2 (fun j hj => (kr_D_n hD (by omega) (by omega)).trans (ht j hj)) (fun j hj => (kr_D_n hD (by omega) (by omega)).trans (hrw j hj)) (fun l hl p2 k3 s3 a1 a2 a3 => ?_) (fun hl h2 it2 p2 k3 s3 hh a1 a2 => ?_))
        · intro q hq
          simp only [List.mem_cons, List.not_mem_nil, or_false] at hq
          rcases hq with rfl | rfl | rfl <;> rfl
        · have := hok (q.1 :: l) (by unfold kp_its; rw [if_neg e0, hi]; simp only; rw [hl]) p2 k3 s3 a1 a2 a3
          rw [show it + 1 + l.length = it + (q.1 :: l).length from by rw [List.length_cons]; omega]
          exact this
        · exact hbad (by unfold kp_its; rw [if_neg e0, hi]; simp only; rw [hl]) h2 it2 p2 k3 s3 (kr_D_tr hD hh) a1 a2
end
section
-- 85.z9
/-! ===== by hand: read ===== -/
theorem kr_beg {h : kc_H} {c n k0 s0 : Nat} (h2 : h 127 2 = .inr (.inr (.inl (some 128)))) (h3 : h 127 3 = .inr (.inr (.inl (some 129)))) (h7 : h 127 7 = .inl (Int32.ofNat k0)) (h8 : h 127 8 = .inl (Int32.ofNat s0)) : kc_upd (kc_upd (kc_upd (kc_upd h 127 4 (.inr (.inr (.inl (some c))))) 127 5 (.inl (Int32.ofNat n))) 127 6 (.inl (Int32.ofNat 0))) 127 1 (.inl (Int32.ofNat 0)) = kr_H (kj h 0) c n 0 k0 s0 := by
  funext a b
  unfold kc_upd kr_H kj
  by_cases ha : a = 127
  · subst ha
    by_cases b1 : b = 1
    · subst b1; simp
    · by_cases b4 : b = 4
      · subst b4; simp
      · by_cases b5 : b = 5
        · subst b5; simp
        · by_cases b6 : b = 6
          · subst b6; simp
          · by_cases b2 : b = 2
            · subst b2; simp [h2]
            · by_cases b3 : b = 3
              · subst b3; simp [h3]
              · by_cases b7 : b = 7
                · subst b7; simp [h7]
                · by_cases b8 : b = 8
                  · subst b8; simp [h8]
                  · simp [b1, b2, b3, b4, b5, b6, b7, b8]
  · simp [ha]
/-- what read leaves behind -/
def kr_Qr (t : Nat → Nat) (c n m f : Nat) (h : kc_H) : Option kc_V → kc_H → Prop := fun rv h' => match kp_its t n m f 61 0 with
  | some l => ∃ p2 k2 s2 : Nat, rv = some (.inl (Int32.ofInt (-1))) ∧ (p2 ≤ n ∧ k2 < 5 ∧ s2 ≤ n) ∧ h' = kr_H (kj (kr_ws h 0 l) l.length) c n p2 k2 s2
  | none => ∃ (h2 : kc_H) (it2 p2 k2 s2 : Nat), rv = some (.inl (Int32.ofNat s2)) ∧ (kr_D h h2 ∧ it2 ≤ 60 ∧ (s2 ≤ n ∧ p2 ≤ n ∧ k2 < 5)) ∧ h' = kr_H (kj h2 it2) c n p2 k2 s2
set_option maxRecDepth 20000 in
theorem kr_read0 {g : kc_G} {d : Nat} {n k0 s0 : Nat} {t : Nat → Nat} {h : kc_H} (hg : kc_ok g) (hn : n ≤ 240) (hb : ∀ j, j < 240 → t j < 256) (ht : ∀ j, j < 240 → h 29 j = .inl (Int32.ofNat (t j))) (hrw : ∀ i, i < 60 → h 129 i = .inr (.inr (.inl (some (130 + i))))) (a0 : h 127 0 = .inr (.inr (.inl (some 1)))) (a1 : h 1 11 = .inr (.inr (.inl (some 28)))) (a2 : h 28 0 = .inr (.inr (.inl (some 29)))) (a3 : h 1 12 = .inr (.inr (.inl (some 31)))) (a4 : h 31 0 = .inl (Int32.ofNat n)) (a5 : h 127 2 = .inr (.inr (.inl (some 128)))) (a6 : h 127 3 = .inr (.inr (.inl (some 129)))) (a7 : h 127 7 = .inl (Int32.ofNat k0)) (a8 : h 127 8 = .inl (Int32.ofNat s0)) : kc_Con g (d + 8) 61 [.inr (.inr (.inl (some 127))), .inl (Int32.ofNat 0)] h (kr_Qr t 29 n 9 0 h) := by
  refine kc_Con_new hg (M := wk_m61) rfl rfl rfl (show 2 ≤ 4 by decide) ?_
  refine kx_go 2 (pc' := 2) (L' := [(0, .inr (.inr (.inl (some 127)))), (1, .inl (Int32.ofNat 0))]) (S' := [.inr (.inr (.inl (some 127))), .inr (.inr (.inl (some 127)))]) (h' := h) (by with_unfolding_all rfl) ?_
  refine kx_getf (c := 127) rfl (by decide) a0 ?_
  refine kx_getf (c := 1) rfl (by decide) a1 ?_
  refine kx_go 1 (pc' := 9) (L' := [(0, .inr (.inr (.inl (some 127)))), (1, .inl (Int32.ofNat 0))]) (S' := [.inl (Int32.ofNat 0), .inr (.inr (.inl (some 28))), .inr (.inr (.inl (some 127)))]) (h' := h) (by with_unfolding_all rfl) ?_
  refine kx_aald rfl (c := 28) (j := 0) (m := 2) (t0 := 2) rfl (by decide) (by decide) (by decide) (by decide) a2 ?_
  refine kx_go 3 (pc' := 15) (L' := [(0, .inr (.inr (.inl (some 127)))), (1, .inl (Int32.ofNat 0))]) (S' := [.inr (.inr (.inl (some 127))), .inr (.inr (.inl (some 127)))]) (h' := kc_upd h 127 4 (.inr (.inr (.inl (some 29))))) (by with_unfolding_all rfl) ?_
  refine kx_getf (c := 127) (v := .inr (.inr (.inl (some 1)))) rfl (by decide) ((if_neg (by decide)).trans a0) ?_
  refine kx_getf (c := 1) (v := .inr (.inr (.inl (some 31)))) rfl (by decide) ((if_neg (by decide)).trans a3) ?_
  refine kx_go 1 (pc' := 22) (L' := [(0, .inr (.inr (.inl (some 127)))), (1, .inl (Int32.ofNat 0))]) (S' := [.inl (Int32.ofNat 0), .inr (.inr (.inl (some 31))), .inr (.inr (.inl (some 127)))]) (h' := kc_upd h 127 4 (.inr (.inr (.inl (some 29))))) (by with_unfolding_all rfl) ?_
  refine kx_iald rfl (c := 31) (j := 0) (m := 2) (v := .inl (Int32.ofNat n)) rfl (by decide) (by decide) (by decide) ((if_neg (by decide)).trans a4) ?_
  refine kx_go 1 (pc' := 26) (L' := [(0, .inr (.inr (.inl (some 127)))), (1, .inl (Int32.ofNat 0))]) (S' := []) (h' := kc_upd (kc_upd h 127 4 (.inr (.inr (.inl (some 29))))) 127 5 (.inl (Int32.ofNat n))) (by with_unfolding_all rfl) ?_
  refine kx_go 8 (pc' := 38) (L' := [(2, .inl (Int32.ofNat 0)), (0, .inr (.inr (.inl (some 127)))), (1, .inl (Int32.ofNat 0))]) (S' := []) (h' := kc_upd (kc_upd (kc_upd (kc_upd h 127 4 (.inr (.inr (.inl (some 29))))) 127 5 (.inl (Int32.ofNat n))) 127 6 (.inl (Int32.ofNat 0))) 127 1 (.inl (Int32.ofNat 0))) (by with_unfolding_all rfl) ?_
  rw [kr_beg a5 a6 a7 a8]
  refine kr_rdl0 (d := d) hg rfl (by decide) (by decide) hn hb 61 0 h 0 k0 s0 rfl (by omega) (by omega) ht hrw (fun l hl p2 k2 s2 b1 b2 b3 => ?_) (fun hl h2 it2 p2 k2 s2 b1 b2 b3 => ?_)
  · unfold kr_Qr
    rw [hl]
    rw [Nat.zero_add]
    exact ⟨p2, k2, s2, rfl, ⟨b1, b2, b3⟩, rfl⟩
  · unfold kr_Qr
    rw [hl]
    exact ⟨h2, it2, p2, k2, s2, rfl, ⟨b1, b2, b3⟩, rfl⟩
set_option maxRecDepth 20000 in
theorem kr_read1 {g : kc_G} {d : Nat} {n k0 s0 : Nat} {t : Nat → Nat} {h : kc_H} (hg : kc_ok g) (hn : n ≤ 240) (hb : ∀ j, j < 240 → t j < 256) (ht : ∀ j, j < 240 → h 30 j = .inl (Int32.ofNat (t j))) (hrw : ∀ i, i < 60 → h 129 i = .inr (.inr (.inl (some (130 + i))))) (a0 : h 127 0 = .inr (.inr (.inl (some 1)))) (a1 : h 1 11 = .inr (.inr (.inl (some 28)))) (a2 : h 28 1 = .inr (.inr (.inl (some 30)))) (a3 : h 1 12 = .inr (.inr (.inl (some 31)))) (a4 : h 31 1 = .inl (Int32.ofNat n)) (a5 : h 127 2 = .inr (.inr (.inl (some 128)))) (a6 : h 127 3 = .inr (.inr (.inl (some 129)))) (a7 : h 127 7 = .inl (Int32.ofNat k0)) (a8 : h 127 8 = .inl (Int32.ofNat s0)) : kc_Con g (d + 8) 61 [.inr (.inr (.inl (some 127))), .inl (Int32.ofNat 1)] h (kr_Qr t 30 n 7 9 h) := by
  refine kc_Con_new hg (M := wk_m61) rfl rfl rfl (show 2 ≤ 4 by decide) ?_
  refine kx_go 2 (pc' := 2) (L' := [(0, .inr (.inr (.inl (some 127)))), (1, .inl (Int32.ofNat 1))]) (S' := [.inr (.inr (.inl (some 127))), .inr (.inr (.inl (some 127)))]) (h' := h) (by with_unfolding_all rfl) ?_
  refine kx_getf (c := 127) rfl (by decide) a0 ?_
  refine kx_getf (c := 1) rfl (by decide) a1 ?_
  refine kx_go 1 (pc' := 9) (L' := [(0, .inr (.inr (.inl (some 127)))), (1, .inl (Int32.ofNat 1))]) (S' := [.inl (Int32.ofNat 1), .inr (.inr (.inl (some 28))), .inr (.inr (.inl (some 127)))]) (h' := h) (by with_unfolding_all rfl) ?_
  refine kx_aald rfl (c := 28) (j := 1) (m := 2) (t0 := 2) rfl (by decide) (by decide) (by decide) (by decide) a2 ?_
  refine kx_go 3 (pc' := 15) (L' := [(0, .inr (.inr (.inl (some 127)))), (1, .inl (Int32.ofNat 1))]) (S' := [.inr (.inr (.inl (some 127))), .inr (.inr (.inl (some 127)))]) (h' := kc_upd h 127 4 (.inr (.inr (.inl (some 30))))) (by with_unfolding_all rfl) ?_
  refine kx_getf (c := 127) (v := .inr (.inr (.inl (some 1)))) rfl (by decide) ((if_neg (by decide)).trans a0) ?_
  refine kx_getf (c := 1) (v := .inr (.inr (.inl (some 31)))) rfl (by decide) ((if_neg (by decide)).trans a3) ?_
  refine kx_go 1 (pc' := 22) (L' := [(0, .inr (.inr (.inl (some 127)))), (1, .inl (Int32.ofNat 1))]) (S' := [.inl (Int32.ofNat 1), .inr (.inr (.inl (some 31))), .inr (.inr (.inl (some 127)))]) (h' := kc_upd h 127 4 (.inr (.inr (.inl (some 30))))) (by with_unfolding_all rfl) ?_
  refine kx_iald rfl (c := 31) (j := 1) (m := 2) (v := .inl (Int32.ofNat n)) rfl (by decide) (by decide) (by decide) ((if_neg (by decide)).trans a4) ?_
  refine kx_go 1 (pc' := 26) (L' := [(0, .inr (.inr (.inl (some 127)))), (1, .inl (Int32.ofNat 1))]) (S' := []) (h' := kc_upd (kc_upd h 127 4 (.inr (.inr (.inl (some 30))))) 127 5 (.inl (Int32.ofNat n))) (by with_unfolding_all rfl) ?_
  refine kx_go 8 (pc' := 38) (L' := [(2, .inl (Int32.ofNat 0)), (0, .inr (.inr (.inl (some 127)))), (1, .inl (Int32.ofNat 1))]) (S' := []) (h' := kc_upd (kc_upd (kc_upd (kc_upd h 127 4 (.inr (.inr (.inl (some 30))))) 127 5 (.inl (Int32.ofNat n))) 127 6 (.inl (Int32.ofNat 0))) 127 1 (.inl (Int32.ofNat 0))) (by with_unfolding_all rfl) ?_
  rw [kr_beg a5 a6 a7 a8]
  refine kr_rdl1 (d := d) hg rfl (by decide) (by decide) hn hb 61 0 h 0 k0 s0 rfl (by omega) (by omega) ht hrw (fun l hl p2 k2 s2 b1 b2 b3 => ?_) (fun hl h2 it2 p2 k2 s2 b1 b2 b3 => ?_)
  · unfold kr_Qr
    rw [hl]
    rw [Nat.zero_add]
    exact ⟨p2, k2, s2, rfl, ⟨b1, b2, b3⟩, rfl⟩
  · unfold kr_Qr
    rw [hl]
    exact ⟨h2, it2, p2, k2, s2, rfl, ⟨b1, b2, b3⟩, rfl⟩
end
section
-- 86.z0
/-! ===== by hand: the reference reads: places, words ===== -/
theorem kx_mul (a b : Nat) : Int32.ofNat a * Int32.ofNat b = Int32.ofNat (a * b) := (Int32.ofNat_mul a b).symm
theorem kx_tj {a : Nat} (h : a < 9223372036854775808) : (Int64.ofNat a).toInt = (a : Int) := Int64.toInt_ofNat_of_lt (by omega)
theorem kx_i2l {a : Nat} (h : a < 2147483648) : (Int32.ofNat a).toInt64 = Int64.ofNat a := by
  apply Int64.toInt_inj.mp
  rw [Int32.toInt_toInt64, kx_ti h, kx_tj (by omega)]
theorem kx_jlt {a b : Nat} (ha : a < 9223372036854775808) (hb : b < 9223372036854775808) : (kc_cnd .lt (kc_lcmp (Int64.ofNat a) (Int64.ofNat b)).toInt 0 = true) ↔ a < b := by
  unfold kc_lcmp
  rw [kx_tj ha, kx_tj hb]
  by_cases h1 : (b : Int) < a
  · rw [if_pos h1]
    constructor
    · intro q; exact absurd q (by decide)
    · intro q; omega
  · rw [if_neg h1]
    by_cases h2 : (a : Int) < b
    · rw [if_pos h2]
      exact ⟨fun _ => by omega, fun _ => by decide⟩
    · rw [if_neg h2]
      constructor
      · intro q; exact absurd q (by decide)
      · intro q; omega
theorem kx_jgt {a b : Nat} (ha : a < 9223372036854775808) (hb : b < 9223372036854775808) : (kc_cnd .gt (kc_lcmp (Int64.ofNat a) (Int64.ofNat b)).toInt 0 = true) ↔ b < a := by
  unfold kc_lcmp
  rw [kx_tj ha, kx_tj hb]
  by_cases h1 : (b : Int) < a
  · rw [if_pos h1]
    exact ⟨fun _ => by omega, fun _ => by decide⟩
  · rw [if_neg h1]
    by_cases h2 : (a : Int) < b
    · rw [if_pos h2]
      constructor
      · intro q; exact absurd q (by decide)
      · intro q; omega
    · rw [if_neg h2]
      constructor
      · intro q; exact absurd q (by decide)
      · intro q; omega
theorem kx_jne {a b : Nat} (ha : a < 9223372036854775808) (hb : b < 9223372036854775808) : (kc_cnd .ne (kc_lcmp (Int64.ofNat a) (Int64.ofNat b)).toInt 0 = true) ↔ ¬ a = b := by
  unfold kc_lcmp
  rw [kx_tj ha, kx_tj hb]
  by_cases h1 : (b : Int) < a
  · rw [if_pos h1]
    exact ⟨fun _ => by omega, fun _ => by decide⟩
  · rw [if_neg h1]
    by_cases h2 : (a : Int) < b
    · rw [if_pos h2]
      exact ⟨fun _ => by omega, fun _ => by decide⟩
    · rw [if_neg h2]
      constructor
      · intro q; exact absurd q (by decide)
      · intro q; omega
/-- the model's fields: book, text, at, start, token, value -/
def km_H (h : kc_H) (x a s k v : Nat) : kc_H := fun c b => if c = 259 then (if b = 0 then .inr (.inr (.inl (some 260))) else if b = 6 then .inl (Int32.ofNat x) else if b = 7 then .inl (Int32.ofNat a) else if b = 8 then .inl (Int32.ofNat s) else if b = 9 then .inl (Int32.ofNat k) else if b = 10 then .inl (Int32.ofNat v) else h 259 b) else h c b
theorem km_o {h : kc_H} {x a s k v c b : Nat} (hc : ¬ c = 259) : km_H h x a s k v c b = h c b := if_neg hc
theorem km_7 {h : kc_H} {x a s k v a' : Nat} : kc_upd (km_H h x a s k v) 259 7 (.inl (Int32.ofNat a')) = km_H h x a' s k v := by
  funext c b
  unfold kc_upd km_H
  by_cases hc : c = 259
  · by_cases hb : b = 7
    · simp [hc, hb]
    · simp [hc, hb]
  · simp [hc]
theorem km_8 {h : kc_H} {x a s k v s' : Nat} : kc_upd (km_H h x a s k v) 259 8 (.inl (Int32.ofNat s')) = km_H h x a s' k v := by
  funext c b
  unfold kc_upd km_H
  by_cases hc : c = 259
  · by_cases hb : b = 8
    · simp [hc, hb]
    · simp [hc, hb]
  · simp [hc]
theorem km_9 {h : kc_H} {x a s k v k' : Nat} : kc_upd (km_H h x a s k v) 259 9 (.inl (Int32.ofNat k')) = km_H h x a s k' v := by
  funext c b
  unfold kc_upd km_H
  by_cases hc : c = 259
  · by_cases hb : b = 9
    · simp [hc, hb]
    · simp [hc, hb]
  · simp [hc]
theorem km_10 {h : kc_H} {x a s k v v' : Nat} : kc_upd (km_H h x a s k v) 259 10 (.inl (Int32.ofNat v')) = km_H h x a s k v' := by
  funext c b
  unfold kc_upd km_H
  by_cases hc : c = 259
  · by_cases hb : b = 10
    · simp [hc, hb]
    · simp [hc, hb]
  · simp [hc]
set_option maxRecDepth 20000 in
theorem km_lies {g : kc_G} {h : kc_H} (hg : kc_ok g) {a b c : Nat} (ha : a < 2147483648) (hb : b < 2147483648) (hc : c < 2147483648) : kc_Con g 1 22 [.inr (.inl (Int64.ofNat a)), .inr (.inl (Int64.ofNat b)), .inr (.inl (Int64.ofNat c))] h (fun rv h' => rv = some (.inl (kp_b (decide (b ≤ a ∧ a ≤ c)))) ∧ h' = h) := by
  refine kc_Con_new hg (M := wk_m22) rfl rfl rfl (show 6 ≤ 6 by decide) ?_
  refine kx_go 4 (pc' := (if kc_cnd .lt (kc_lcmp (Int64.ofNat a) (Int64.ofNat b)).toInt 0 then 17 else 6)) (L' := [(0, .inr (.inl (Int64.ofNat a))), (2, .inr (.inl (Int64.ofNat b))), (4, .inr (.inl (Int64.ofNat c)))]) (S' := []) (h' := h) (by with_unfolding_all rfl) ?_
  by_cases e1 : a < b
  · rw [if_pos ((kx_jlt (by omega) (by omega)).mpr e1)]
    refine kx_go 1 (pc' := 18) (L' := [(0, .inr (.inl (Int64.ofNat a))), (2, .inr (.inl (Int64.ofNat b))), (4, .inr (.inl (Int64.ofNat c)))]) (S' := [.inl (Int32.ofNat 0)]) (h' := h) (by with_unfolding_all rfl) ?_
    exact kc_ret_ok rfl (rv := some (.inl (Int32.ofNat 0))) rfl ⟨by rw [show decide (b ≤ a ∧ a ≤ c) = false from decide_eq_false (by omega)]; rfl, rfl⟩
  · rw [if_neg (fun q => e1 ((kx_jlt (by omega) (by omega)).mp q))]
    refine kx_go 4 (pc' := (if kc_cnd .gt (kc_lcmp (Int64.ofNat a) (Int64.ofNat c)).toInt 0 then 17 else 13)) (L' := [(0, .inr (.inl (Int64.ofNat a))), (2, .inr (.inl (Int64.ofNat b))), (4, .inr (.inl (Int64.ofNat c)))]) (S' := []) (h' := h) (by with_unfolding_all rfl) ?_
    by_cases e2 : c < a
    · rw [if_pos ((kx_jgt (by omega) (by omega)).mpr e2)]
      refine kx_go 1 (pc' := 18) (L' := [(0, .inr (.inl (Int64.ofNat a))), (2, .inr (.inl (Int64.ofNat b))), (4, .inr (.inl (Int64.ofNat c)))]) (S' := [.inl (Int32.ofNat 0)]) (h' := h) (by with_unfolding_all rfl) ?_
      exact kc_ret_ok rfl (rv := some (.inl (Int32.ofNat 0))) rfl ⟨by rw [show decide (b ≤ a ∧ a ≤ c) = false from decide_eq_false (by omega)]; rfl, rfl⟩
    · rw [if_neg (fun q => e2 ((kx_jgt (by omega) (by omega)).mp q))]
      refine kx_go 2 (pc' := 18) (L' := [(0, .inr (.inl (Int64.ofNat a))), (2, .inr (.inl (Int64.ofNat b))), (4, .inr (.inl (Int64.ofNat c)))]) (S' := [.inl (Int32.ofNat 1)]) (h' := h) (by with_unfolding_all rfl) ?_
      exact kc_ret_ok rfl (rv := some (.inl (Int32.ofNat 1))) rfl ⟨by rw [show decide (b ≤ a ∧ a ≤ c) = true from decide_eq_true (by omega)]; rfl, rfl⟩
set_option maxRecDepth 20000 in
theorem km_at {g : kc_G} {d : Nat} {h : kc_H} {x n : Nat} {t : Nat → Nat} (hg : kc_ok g) (hx : x < 2) (hn : n ≤ 240) (hnt : h 260 (160 + x) = .inl (Int32.ofNat n)) (ht : ∀ j, j < 240 → h 260 (170 + 240 * x + j) = .inl (Int32.ofNat (t j))) (hb : ∀ j, j < 240 → t j < 256) {a s k v lo hi : Nat} (ha : a ≤ n) (hlo : lo < 2147483648) (hhi : hi < 2147483648) : kc_Con g 2 66 [.inr (.inr (.inl (some 259))), .inl (Int32.ofNat lo), .inl (Int32.ofNat hi)] (km_H h x a s k v) (fun rv h' => rv = some (.inl (kp_b (bif decide (a < n) then decide (lo ≤ t a ∧ t a ≤ hi) else false))) ∧ h' = (km_H h x a s k v)) := by
  refine kc_Con_new hg (M := wk_m66) rfl rfl rfl (show 3 ≤ 3 by decide) ?_
  refine kx_go 8 (pc' := 16) (L' := [(0, .inr (.inr (.inl (some 259)))), (1, .inl (Int32.ofNat lo)), (2, .inl (Int32.ofNat hi))]) (S' := [.inl ((Int32.ofNat 160) + (Int32.ofNat x)), .inr (.inr (.inl (some 260))), .inl (Int32.ofNat a)]) (h' := (km_H h x a s k v)) (by with_unfolding_all rfl) ?_
  rw [kx_add]
  refine kx_iald rfl (c := 260) (j := 160 + x) (m := 650) rfl (by decide) (by decide) (by omega) ((km_o (by decide)).trans hnt) ?_
  refine kx_go 1 (pc' := (if kc_cnd .ge (Int32.ofNat a).toInt (Int32.ofNat n).toInt then 57 else 20)) (L' := [(0, .inr (.inr (.inl (some 259)))), (1, .inl (Int32.ofNat lo)), (2, .inl (Int32.ofNat hi))]) (S' := []) (h' := (km_H h x a s k v)) (by with_unfolding_all rfl) ?_
  by_cases e1 : n ≤ a
  · rw [if_pos ((kx_ge (by omega) (by omega)).mpr e1)]
    refine kx_go 1 (pc' := 58) (L' := [(0, .inr (.inr (.inl (some 259)))), (1, .inl (Int32.ofNat lo)), (2, .inl (Int32.ofNat hi))]) (S' := [.inl (Int32.ofNat 0)]) (h' := (km_H h x a s k v)) (by with_unfolding_all rfl) ?_
    exact kc_ret_ok rfl (rv := some (.inl (Int32.ofNat 0))) rfl ⟨by rw [show decide (a < n) = false from decide_eq_false (by omega)]; rfl, rfl⟩
  · rw [if_neg (fun q => e1 ((kx_ge (by omega) (by omega)).mp q))]
    have hbp := hb a (by omega)
    refine kx_go 11 (pc' := 41) (L' := [(0, .inr (.inr (.inl (some 259)))), (1, .inl (Int32.ofNat lo)), (2, .inl (Int32.ofNat hi))]) (S' := [.inl (((Int32.ofNat 170) + ((Int32.ofNat 240) * (Int32.ofNat x))) + (Int32.ofNat a)), .inr (.inr (.inl (some 260)))]) (h' := (km_H h x a s k v)) (by with_unfolding_all rfl) ?_
    rw [kx_mul, kx_add, kx_add]
    refine kx_iald rfl (c := 260) (j := 170 + 240 * x + a) (m := 650) rfl (by decide) (by decide) (by omega) ((km_o (by decide)).trans (ht a (by omega))) ?_
    refine kx_go 5 (pc' := 47) (L' := [(0, .inr (.inr (.inl (some 259)))), (1, .inl (Int32.ofNat lo)), (2, .inl (Int32.ofNat hi))]) (S' := [.inr (.inl ((Int32.ofNat hi).toInt64)), .inr (.inl ((Int32.ofNat lo).toInt64)), .inr (.inl ((Int32.ofNat (t a)).toInt64))]) (h' := (km_H h x a s k v)) (by with_unfolding_all rfl) ?_
    rw [kx_i2l (by omega), kx_i2l (by omega), kx_i2l (by omega)]
    refine kc_call_rule (M2 := wk_m22) (av := [.inr (.inl (Int64.ofNat (t a))), .inr (.inl (Int64.ofNat lo)), .inr (.inl (Int64.ofNat hi))]) (r := []) rfl rfl (kc_Con_le (km_lies hg (by omega) hlo hhi) (by omega)) (fun rv h' hq => ?_)
    obtain ⟨rfl, rfl⟩ := hq
    show kc_Ev g 1 wk_m66 _ 50 [(0, .inr (.inr (.inl (some 259)))), (1, .inl (Int32.ofNat lo)), (2, .inl (Int32.ofNat hi))] [.inl (kp_b (decide (lo ≤ t a ∧ t a ≤ hi)))] (km_H h x a s k v)
    refine kx_go 1 (pc' := (if kc_cnd .eq (kp_b (decide (lo ≤ t a ∧ t a ≤ hi))).toInt 0 then 57 else 53)) (L' := [(0, .inr (.inr (.inl (some 259)))), (1, .inl (Int32.ofNat lo)), (2, .inl (Int32.ofNat hi))]) (S' := []) (h' := (km_H h x a s k v)) (by with_unfolding_all rfl) ?_
    cases e2 : decide (lo ≤ t a ∧ t a ≤ hi) with
    | true =>
      rw [if_neg (fun q => by have := kx_b0.mp q; cases this)]
      refine kx_go 2 (pc' := 58) (L' := [(0, .inr (.inr (.inl (some 259)))), (1, .inl (Int32.ofNat lo)), (2, .inl (Int32.ofNat hi))]) (S' := [.inl (Int32.ofNat 1)]) (h' := (km_H h x a s k v)) (by with_unfolding_all rfl) ?_
      exact kc_ret_ok rfl (rv := some (.inl (Int32.ofNat 1))) rfl ⟨by rw [show decide (a < n) = true from decide_eq_true (by omega)]; rfl, rfl⟩
    | false =>
      rw [if_pos (kx_b0.mpr rfl)]
      refine kx_go 1 (pc' := 58) (L' := [(0, .inr (.inr (.inl (some 259)))), (1, .inl (Int32.ofNat lo)), (2, .inl (Int32.ofNat hi))]) (S' := [.inl (Int32.ofNat 0)]) (h' := (km_H h x a s k v)) (by with_unfolding_all rfl) ?_
      exact kc_ret_ok rfl (rv := some (.inl (Int32.ofNat 0))) rfl ⟨by rw [show decide (a < n) = true from decide_eq_true (by omega)]; rfl, rfl⟩
set_option maxRecDepth 20000 in
theorem km_by {g : kc_G} {d : Nat} {h : kc_H} {x n : Nat} {t : Nat → Nat} (hg : kc_ok g) (hx : x < 2) (hn : n ≤ 240) (hnt : h 260 (160 + x) = .inl (Int32.ofNat n)) (ht : ∀ j, j < 240 → h 260 (170 + 240 * x + j) = .inl (Int32.ofNat (t j))) (hb : ∀ j, j < 240 → t j < 256) {a s k v j : Nat} (hj : j < 240) : kc_Con g (d + 1) 232 [.inr (.inr (.inl (some 259))), .inl (Int32.ofNat j)] (km_H h x a s k v) (fun rv h' => rv = some (.inl (Int32.ofNat (t j))) ∧ h' = (km_H h x a s k v)) := by
  refine kc_Con_new hg (M := wk_m232) rfl rfl rfl (show 2 ≤ 2 by decide) ?_
  refine kx_go 10 (pc' := 18) (L' := [(0, .inr (.inr (.inl (some 259)))), (1, .inl (Int32.ofNat j))]) (S' := [.inl (((Int32.ofNat 170) + ((Int32.ofNat 240) * (Int32.ofNat x))) + (Int32.ofNat j)), .inr (.inr (.inl (some 260)))]) (h' := (km_H h x a s k v)) (by with_unfolding_all rfl) ?_
  rw [kx_mul, kx_add, kx_add]
  refine kx_iald rfl (c := 260) (j := 170 + 240 * x + j) (m := 650) rfl (by decide) (by decide) (by omega) ((km_o (by decide)).trans (ht j hj)) ?_
  exact kc_ret_ok rfl (rv := some (.inl (Int32.ofNat (t j)))) rfl ⟨rfl, rfl⟩
def kp_wd (w : Nat) : Nat := if w = 447877 then 10 else if w = 408612 then 11 else if w = 146930 then 12 else if w = 23609 then 13 else if w = 394661 then 14 else if w = 212548 then 15 else if w = 1643 then 16 else if w = 4785454 then 17 else if w = 659011763 then 18 else 1
def kp_wa (w : Nat) : Nat := if w = 263623 then 20 else if w = 656741 then 21 else if w = 514226 then 22 else if w = 646192 then 23 else if w = 20594117 then 24 else if w = 150000 then 25 else if w = 239 then 26 else 1
def kp_wf (w : Nat) : Nat := if w = 263748 then 5 else if w = 638164 then 4 else 1
def kp_wo (w : Nat) : Nat := if kp_wd w = 1 then (if kp_wa w = 1 then kp_wf w else kp_wa w) else kp_wd w
set_option maxRecDepth 20000 in
theorem km_w1 {g : kc_G} {d : Nat} {Q : Option kc_V → kc_H → Prop} {h : kc_H} {w : Nat} (hw : w < 9223372036854775808) {ac dy : Nat} (hQ : Q (some (.inl (Int32.ofNat (kp_wf w)))) h) : kc_Ev g d wk_m233 Q 230 [(3, .inl (Int32.ofNat ac)), (2, .inl (Int32.ofNat dy)), (0, .inr (.inl (Int64.ofNat w)))] [] h := by
  refine kx_go 4 (pc' := (if kc_cnd .ne (kc_lcmp (Int64.ofNat w) (Int64.ofNat 263748)).toInt 0 then 242 else 238)) (L' := [(3, .inl (Int32.ofNat ac)), (2, .inl (Int32.ofNat dy)), (0, .inr (.inl (Int64.ofNat w)))]) (S' := []) (h' := h) (by with_unfolding_all rfl) ?_
  by_cases e0 : w = 263748
  · rw [if_neg (fun q => (kx_jne (by omega) (by omega)).mp q e0)]
    refine kx_go 2 (pc' := 255) (L' := [(3, .inl (Int32.ofNat ac)), (2, .inl (Int32.ofNat dy)), (0, .inr (.inl (Int64.ofNat w)))]) (S' := [.inl (Int32.ofNat 5)]) (h' := h) (by with_unfolding_all rfl) ?_
    rw [show kp_wf w = 5 from by unfold kp_wf; rw [if_pos e0]] at hQ
    exact kc_ret_ok rfl (rv := some (.inl (Int32.ofNat 5))) rfl hQ
  · rw [if_pos ((kx_jne (by omega) (by omega)).mpr e0)]
    refine kx_go 4 (pc' := (if kc_cnd .ne (kc_lcmp (Int64.ofNat w) (Int64.ofNat 638164)).toInt 0 then 254 else 250)) (L' := [(3, .inl (Int32.ofNat ac)), (2, .inl (Int32.ofNat dy)), (0, .inr (.inl (Int64.ofNat w)))]) (S' := []) (h' := h) (by with_unfolding_all rfl) ?_
    by_cases e1 : w = 638164
    · rw [if_neg (fun q => (kx_jne (by omega) (by omega)).mp q e1)]
      refine kx_go 2 (pc' := 255) (L' := [(3, .inl (Int32.ofNat ac)), (2, .inl (Int32.ofNat dy)), (0, .inr (.inl (Int64.ofNat w)))]) (S' := [.inl (Int32.ofNat 4)]) (h' := h) (by with_unfolding_all rfl) ?_
      rw [show kp_wf w = 4 from by unfold kp_wf; rw [if_neg e0, if_pos e1]] at hQ
      exact kc_ret_ok rfl (rv := some (.inl (Int32.ofNat 4))) rfl hQ
    · rw [if_pos ((kx_jne (by omega) (by omega)).mpr e1)]
      refine kx_go 1 (pc' := 255) (L' := [(3, .inl (Int32.ofNat ac)), (2, .inl (Int32.ofNat dy)), (0, .inr (.inl (Int64.ofNat w)))]) (S' := [.inl (Int32.ofNat 1)]) (h' := h) (by with_unfolding_all rfl) ?_
      rw [show kp_wf w = 1 from by unfold kp_wf; rw [if_neg e0, if_neg e1]] at hQ
      exact kc_ret_ok rfl (rv := some (.inl (Int32.ofNat 1))) rfl hQ
set_option maxRecDepth 20000 in
theorem km_w2 {g : kc_G} {d : Nat} {Q : Option kc_V → kc_H → Prop} {h : kc_H} {w : Nat} (hw : w < 9223372036854775808) {ac dy : Nat} (ha : ac < 100) (hd : dy < 100) (hQ : Q (some (.inl (Int32.ofNat (if dy = 1 then (if ac = 1 then kp_wf w else ac) else dy)))) h) : kc_Ev g d wk_m233 Q 211 [(2, .inl (Int32.ofNat dy)), (0, .inr (.inl (Int64.ofNat w)))] [.inl (Int32.ofNat ac)] h := by
  refine kx_go 4 (pc' := (if kc_cnd .eq (Int32.ofNat dy).toInt (Int32.ofNat 1).toInt then 221 else 217)) (L' := [(3, .inl (Int32.ofNat ac)), (2, .inl (Int32.ofNat dy)), (0, .inr (.inl (Int64.ofNat w)))]) (S' := []) (h' := h) (by with_unfolding_all rfl) ?_
  by_cases e1 : dy = 1
  · rw [if_pos ((kx_eq (by omega) (by omega)).mpr e1)]
    rw [if_pos e1] at hQ
    refine kx_go 3 (pc' := (if kc_cnd .eq (Int32.ofNat ac).toInt (Int32.ofNat 1).toInt then 230 else 226)) (L' := [(3, .inl (Int32.ofNat ac)), (2, .inl (Int32.ofNat dy)), (0, .inr (.inl (Int64.ofNat w)))]) (S' := []) (h' := h) (by with_unfolding_all rfl) ?_
    by_cases e2 : ac = 1
    · rw [if_pos ((kx_eq (by omega) (by omega)).mpr e2)]
      rw [if_pos e2] at hQ
      exact km_w1 hw hQ
    · rw [if_neg (fun q => e2 ((kx_eq (by omega) (by omega)).mp q))]
      rw [if_neg e2] at hQ
      refine kx_go 2 (pc' := 255) (L' := [(3, .inl (Int32.ofNat ac)), (2, .inl (Int32.ofNat dy)), (0, .inr (.inl (Int64.ofNat w)))]) (S' := [.inl (Int32.ofNat ac)]) (h' := h) (by with_unfolding_all rfl) ?_
      exact kc_ret_ok rfl (rv := some (.inl (Int32.ofNat ac))) rfl hQ
  · rw [if_neg (fun q => e1 ((kx_eq (by omega) (by omega)).mp q))]
    rw [if_neg e1] at hQ
    refine kx_go 2 (pc' := 255) (L' := [(3, .inl (Int32.ofNat ac)), (2, .inl (Int32.ofNat dy)), (0, .inr (.inl (Int64.ofNat w)))]) (S' := [.inl (Int32.ofNat dy)]) (h' := h) (by with_unfolding_all rfl) ?_
    exact kc_ret_ok rfl (rv := some (.inl (Int32.ofNat dy))) rfl hQ
set_option maxRecDepth 20000 in
theorem km_w3 {g : kc_G} {d : Nat} {Q : Option kc_V → kc_H → Prop} {h : kc_H} {w : Nat} (hw : w < 9223372036854775808) {dy : Nat} (hd : dy < 100) (hQ : Q (some (.inl (Int32.ofNat (if dy = 1 then (if kp_wa w = 1 then kp_wf w else kp_wa w) else dy)))) h) : kc_Ev g d wk_m233 Q 119 [(2, .inl (Int32.ofNat dy)), (0, .inr (.inl (Int64.ofNat w)))] [] h := by
  refine kx_go 4 (pc' := (if kc_cnd .ne (kc_lcmp (Int64.ofNat w) (Int64.ofNat 263623)).toInt 0 then 132 else 127)) (L' := [(2, .inl (Int32.ofNat dy)), (0, .inr (.inl (Int64.ofNat w)))]) (S' := []) (h' := h) (by with_unfolding_all rfl) ?_
  by_cases e0 : w = 263623
  · rw [if_neg (fun q => (kx_jne (by omega) (by omega)).mp q e0)]
    refine kx_go 2 (pc' := 211) (L' := [(2, .inl (Int32.ofNat dy)), (0, .inr (.inl (Int64.ofNat w)))]) (S' := [.inl (Int32.ofNat 20)]) (h' := h) (by with_unfolding_all rfl) ?_
    rw [show kp_wa w = 20 from by unfold kp_wa; rw [if_pos e0]] at hQ
    exact km_w2 hw (by decide) hd hQ
  · rw [if_pos ((kx_jne (by omega) (by omega)).mpr e0)]
    refine kx_go 4 (pc' := (if kc_cnd .ne (kc_lcmp (Int64.ofNat w) (Int64.ofNat 656741)).toInt 0 then 145 else 140)) (L' := [(2, .inl (Int32.ofNat dy)), (0, .inr (.inl (Int64.ofNat w)))]) (S' := []) (h' := h) (by with_unfolding_all rfl) ?_
    by_cases e1 : w = 656741
    · rw [if_neg (fun q => (kx_jne (by omega) (by omega)).mp q e1)]
      refine kx_go 2 (pc' := 211) (L' := [(2, .inl (Int32.ofNat dy)), (0, .inr (.inl (Int64.ofNat w)))]) (S' := [.inl (Int32.ofNat 21)]) (h' := h) (by with_unfolding_all rfl) ?_
      rw [show kp_wa w = 21 from by unfold kp_wa; rw [if_neg e0, if_pos e1]] at hQ
      exact km_w2 hw (by decide) hd hQ
    · rw [if_pos ((kx_jne (by omega) (by omega)).mpr e1)]
      refine kx_go 4 (pc' := (if kc_cnd .ne (kc_lcmp (Int64.ofNat w) (Int64.ofNat 514226)).toInt 0 then 158 else 153)) (L' := [(2, .inl (Int32.ofNat dy)), (0, .inr (.inl (Int64.ofNat w)))]) (S' := []) (h' := h) (by with_unfolding_all rfl) ?_
      by_cases e2 : w = 514226
      · rw [if_neg (fun q => (kx_jne (by omega) (by omega)).mp q e2)]
        refine kx_go 2 (pc' := 211) (L' := [(2, .inl (Int32.ofNat dy)), (0, .inr (.inl (Int64.ofNat w)))]) (S' := [.inl (Int32.ofNat 22)]) (h' := h) (by with_unfolding_all rfl) ?_
        rw [show kp_wa w = 22 from by unfold kp_wa; rw [if_neg e0, if_neg e1, if_pos e2]] at hQ
        exact km_w2 hw (by decide) hd hQ
      · rw [if_pos ((kx_jne (by omega) (by omega)).mpr e2)]
        refine kx_go 4 (pc' := (if kc_cnd .ne (kc_lcmp (Int64.ofNat w) (Int64.ofNat 646192)).toInt 0 then 171 else 166)) (L' := [(2, .inl (Int32.ofNat dy)), (0, .inr (.inl (Int64.ofNat w)))]) (S' := []) (h' := h) (by with_unfolding_all rfl) ?_
        by_cases e3 : w = 646192
        · rw [if_neg (fun q => (kx_jne (by omega) (by omega)).mp q e3)]
          refine kx_go 2 (pc' := 211) (L' := [(2, .inl (Int32.ofNat dy)), (0, .inr (.inl (Int64.ofNat w)))]) (S' := [.inl (Int32.ofNat 23)]) (h' := h) (by with_unfolding_all rfl) ?_
          rw [show kp_wa w = 23 from by unfold kp_wa; rw [if_neg e0, if_neg e1, if_neg e2, if_pos e3]] at hQ
          exact km_w2 hw (by decide) hd hQ
        · rw [if_pos ((kx_jne (by omega) (by omega)).mpr e3)]
          refine kx_go 4 (pc' := (if kc_cnd .ne (kc_lcmp (Int64.ofNat w) (Int64.ofNat 20594117)).toInt 0 then 184 else 179)) (L' := [(2, .inl (Int32.ofNat dy)), (0, .inr (.inl (Int64.ofNat w)))]) (S' := []) (h' := h) (by with_unfolding_all rfl) ?_
          by_cases e4 : w = 20594117
          · rw [if_neg (fun q => (kx_jne (by omega) (by omega)).mp q e4)]
            refine kx_go 2 (pc' := 211) (L' := [(2, .inl (Int32.ofNat dy)), (0, .inr (.inl (Int64.ofNat w)))]) (S' := [.inl (Int32.ofNat 24)]) (h' := h) (by with_unfolding_all rfl) ?_
            rw [show kp_wa w = 24 from by unfold kp_wa; rw [if_neg e0, if_neg e1, if_neg e2, if_neg e3, if_pos e4]] at hQ
            exact km_w2 hw (by decide) hd hQ
          · rw [if_pos ((kx_jne (by omega) (by omega)).mpr e4)]
            refine kx_go 4 (pc' := (if kc_cnd .ne (kc_lcmp (Int64.ofNat w) (Int64.ofNat 150000)).toInt 0 then 197 else 192)) (L' := [(2, .inl (Int32.ofNat dy)), (0, .inr (.inl (Int64.ofNat w)))]) (S' := []) (h' := h) (by with_unfolding_all rfl) ?_
            by_cases e5 : w = 150000
            · rw [if_neg (fun q => (kx_jne (by omega) (by omega)).mp q e5)]
              refine kx_go 2 (pc' := 211) (L' := [(2, .inl (Int32.ofNat dy)), (0, .inr (.inl (Int64.ofNat w)))]) (S' := [.inl (Int32.ofNat 25)]) (h' := h) (by with_unfolding_all rfl) ?_
              rw [show kp_wa w = 25 from by unfold kp_wa; rw [if_neg e0, if_neg e1, if_neg e2, if_neg e3, if_neg e4, if_pos e5]] at hQ
              exact km_w2 hw (by decide) hd hQ
            · rw [if_pos ((kx_jne (by omega) (by omega)).mpr e5)]
              refine kx_go 4 (pc' := (if kc_cnd .ne (kc_lcmp (Int64.ofNat w) (Int64.ofNat 239)).toInt 0 then 210 else 205)) (L' := [(2, .inl (Int32.ofNat dy)), (0, .inr (.inl (Int64.ofNat w)))]) (S' := []) (h' := h) (by with_unfolding_all rfl) ?_
              by_cases e6 : w = 239
              · rw [if_neg (fun q => (kx_jne (by omega) (by omega)).mp q e6)]
                refine kx_go 2 (pc' := 211) (L' := [(2, .inl (Int32.ofNat dy)), (0, .inr (.inl (Int64.ofNat w)))]) (S' := [.inl (Int32.ofNat 26)]) (h' := h) (by with_unfolding_all rfl) ?_
                rw [show kp_wa w = 26 from by unfold kp_wa; rw [if_neg e0, if_neg e1, if_neg e2, if_neg e3, if_neg e4, if_neg e5, if_pos e6]] at hQ
                exact km_w2 hw (by decide) hd hQ
              · rw [if_pos ((kx_jne (by omega) (by omega)).mpr e6)]
                refine kx_go 1 (pc' := 211) (L' := [(2, .inl (Int32.ofNat dy)), (0, .inr (.inl (Int64.ofNat w)))]) (S' := [.inl (Int32.ofNat 1)]) (h' := h) (by with_unfolding_all rfl) ?_
                rw [show kp_wa w = 1 from by unfold kp_wa; rw [if_neg e0, if_neg e1, if_neg e2, if_neg e3, if_neg e4, if_neg e5, if_neg e6]] at hQ
                exact km_w2 hw (by decide) hd hQ
set_option maxRecDepth 20000 in
theorem km_wo {g : kc_G} {d : Nat} {h : kc_H} {w : Nat} (hg : kc_ok g) (hw : w < 9223372036854775808) : kc_Con g (d + 1) 233 [.inr (.inl (Int64.ofNat w))] h (fun rv h' => rv = some (.inl (Int32.ofNat (kp_wo w))) ∧ h' = h) := by
  refine kc_Con_new hg (M := wk_m233) rfl rfl rfl (show 2 ≤ 4 by decide) ?_
  generalize hQ0 : (fun (rv : Option kc_V) (h' : kc_H) => rv = some (.inl (Int32.ofNat (kp_wo w))) ∧ h' = h) = Q
  have hQ : Q (some (.inl (Int32.ofNat (kp_wo w)))) h := by rw [← hQ0]; exact ⟨rfl, rfl⟩
  unfold kp_wo at hQ
  refine kx_go 4 (pc' := (if kc_cnd .ne (kc_lcmp (Int64.ofNat w) (Int64.ofNat 447877)).toInt 0 then 13 else 8)) (L' := [(0, .inr (.inl (Int64.ofNat w)))]) (S' := []) (h' := h) (by with_unfolding_all rfl) ?_
  by_cases e0 : w = 447877
  · rw [if_neg (fun q => (kx_jne (by omega) (by omega)).mp q e0)]
    refine kx_go 3 (pc' := 119) (L' := [(2, .inl (Int32.ofNat 10)), (0, .inr (.inl (Int64.ofNat w)))]) (S' := []) (h' := h) (by with_unfolding_all rfl) ?_
    rw [show kp_wd w = 10 from by unfold kp_wd; rw [if_pos e0]] at hQ
    exact km_w3 hw (by decide) hQ
  · rw [if_pos ((kx_jne (by omega) (by omega)).mpr e0)]
    refine kx_go 4 (pc' := (if kc_cnd .ne (kc_lcmp (Int64.ofNat w) (Int64.ofNat 408612)).toInt 0 then 26 else 21)) (L' := [(0, .inr (.inl (Int64.ofNat w)))]) (S' := []) (h' := h) (by with_unfolding_all rfl) ?_
    by_cases e1 : w = 408612
    · rw [if_neg (fun q => (kx_jne (by omega) (by omega)).mp q e1)]
      refine kx_go 3 (pc' := 119) (L' := [(2, .inl (Int32.ofNat 11)), (0, .inr (.inl (Int64.ofNat w)))]) (S' := []) (h' := h) (by with_unfolding_all rfl) ?_
      rw [show kp_wd w = 11 from by unfold kp_wd; rw [if_neg e0, if_pos e1]] at hQ
      exact km_w3 hw (by decide) hQ
    · rw [if_pos ((kx_jne (by omega) (by omega)).mpr e1)]
      refine kx_go 4 (pc' := (if kc_cnd .ne (kc_lcmp (Int64.ofNat w) (Int64.ofNat 146930)).toInt 0 then 39 else 34)) (L' := [(0, .inr (.inl (Int64.ofNat w)))]) (S' := []) (h' := h) (by with_unfolding_all rfl) ?_
      by_cases e2 : w = 146930
      · rw [if_neg (fun q => (kx_jne (by omega) (by omega)).mp q e2)]
        refine kx_go 3 (pc' := 119) (L' := [(2, .inl (Int32.ofNat 12)), (0, .inr (.inl (Int64.ofNat w)))]) (S' := []) (h' := h) (by with_unfolding_all rfl) ?_
        rw [show kp_wd w = 12 from by unfold kp_wd; rw [if_neg e0, if_neg e1, if_pos e2]] at hQ
        exact km_w3 hw (by decide) hQ
      · rw [if_pos ((kx_jne (by omega) (by omega)).mpr e2)]
        refine kx_go 4 (pc' := (if kc_cnd .ne (kc_lcmp (Int64.ofNat w) (Int64.ofNat 23609)).toInt 0 then 52 else 47)) (L' := [(0, .inr (.inl (Int64.ofNat w)))]) (S' := []) (h' := h) (by with_unfolding_all rfl) ?_
        by_cases e3 : w = 23609
        · rw [if_neg (fun q => (kx_jne (by omega) (by omega)).mp q e3)]
          refine kx_go 3 (pc' := 119) (L' := [(2, .inl (Int32.ofNat 13)), (0, .inr (.inl (Int64.ofNat w)))]) (S' := []) (h' := h) (by with_unfolding_all rfl) ?_
          rw [show kp_wd w = 13 from by unfold kp_wd; rw [if_neg e0, if_neg e1, if_neg e2, if_pos e3]] at hQ
          exact km_w3 hw (by decide) hQ
        · rw [if_pos ((kx_jne (by omega) (by omega)).mpr e3)]
          refine kx_go 4 (pc' := (if kc_cnd .ne (kc_lcmp (Int64.ofNat w) (Int64.ofNat 394661)).toInt 0 then 65 else 60)) (L' := [(0, .inr (.inl (Int64.ofNat w)))]) (S' := []) (h' := h) (by with_unfolding_all rfl) ?_
          by_cases e4 : w = 394661
          · rw [if_neg (fun q => (kx_jne (by omega) (by omega)).mp q e4)]
            refine kx_go 3 (pc' := 119) (L' := [(2, .inl (Int32.ofNat 14)), (0, .inr (.inl (Int64.ofNat w)))]) (S' := []) (h' := h) (by with_unfolding_all rfl) ?_
            rw [show kp_wd w = 14 from by unfold kp_wd; rw [if_neg e0, if_neg e1, if_neg e2, if_neg e3, if_pos e4]] at hQ
            exact km_w3 hw (by decide) hQ
          · rw [if_pos ((kx_jne (by omega) (by omega)).mpr e4)]
            refine kx_go 4 (pc' := (if kc_cnd .ne (kc_lcmp (Int64.ofNat w) (Int64.ofNat 212548)).toInt 0 then 78 else 73)) (L' := [(0, .inr (.inl (Int64.ofNat w)))]) (S' := []) (h' := h) (by with_unfolding_all rfl) ?_
            by_cases e5 : w = 212548
            · rw [if_neg (fun q => (kx_jne (by omega) (by omega)).mp q e5)]
              refine kx_go 3 (pc' := 119) (L' := [(2, .inl (Int32.ofNat 15)), (0, .inr (.inl (Int64.ofNat w)))]) (S' := []) (h' := h) (by with_unfolding_all rfl) ?_
              rw [show kp_wd w = 15 from by unfold kp_wd; rw [if_neg e0, if_neg e1, if_neg e2, if_neg e3, if_neg e4, if_pos e5]] at hQ
              exact km_w3 hw (by decide) hQ
            · rw [if_pos ((kx_jne (by omega) (by omega)).mpr e5)]
              refine kx_go 4 (pc' := (if kc_cnd .ne (kc_lcmp (Int64.ofNat w) (Int64.ofNat 1643)).toInt 0 then 91 else 86)) (L' := [(0, .inr (.inl (Int64.ofNat w)))]) (S' := []) (h' := h) (by with_unfolding_all rfl) ?_
              by_cases e6 : w = 1643
              · rw [if_neg (fun q => (kx_jne (by omega) (by omega)).mp q e6)]
                refine kx_go 3 (pc' := 119) (L' := [(2, .inl (Int32.ofNat 16)), (0, .inr (.inl (Int64.ofNat w)))]) (S' := []) (h' := h) (by with_unfolding_all rfl) ?_
                rw [show kp_wd w = 16 from by unfold kp_wd; rw [if_neg e0, if_neg e1, if_neg e2, if_neg e3, if_neg e4, if_neg e5, if_pos e6]] at hQ
                exact km_w3 hw (by decide) hQ
              · rw [if_pos ((kx_jne (by omega) (by omega)).mpr e6)]
                refine kx_go 4 (pc' := (if kc_cnd .ne (kc_lcmp (Int64.ofNat w) (Int64.ofNat 4785454)).toInt 0 then 104 else 99)) (L' := [(0, .inr (.inl (Int64.ofNat w)))]) (S' := []) (h' := h) (by with_unfolding_all rfl) ?_
                by_cases e7 : w = 4785454
                · rw [if_neg (fun q => (kx_jne (by omega) (by omega)).mp q e7)]
                  refine kx_go 3 (pc' := 119) (L' := [(2, .inl (Int32.ofNat 17)), (0, .inr (.inl (Int64.ofNat w)))]) (S' := []) (h' := h) (by with_unfolding_all rfl) ?_
                  rw [show kp_wd w = 17 from by unfold kp_wd; rw [if_neg e0, if_neg e1, if_neg e2, if_neg e3, if_neg e4, if_neg e5, if_neg e6, if_pos e7]] at hQ
                  exact km_w3 hw (by decide) hQ
                · rw [if_pos ((kx_jne (by omega) (by omega)).mpr e7)]
                  refine kx_go 4 (pc' := (if kc_cnd .ne (kc_lcmp (Int64.ofNat w) (Int64.ofNat 659011763)).toInt 0 then 117 else 112)) (L' := [(0, .inr (.inl (Int64.ofNat w)))]) (S' := []) (h' := h) (by with_unfolding_all rfl) ?_
                  by_cases e8 : w = 659011763
                  · rw [if_neg (fun q => (kx_jne (by omega) (by omega)).mp q e8)]
                    refine kx_go 3 (pc' := 119) (L' := [(2, .inl (Int32.ofNat 18)), (0, .inr (.inl (Int64.ofNat w)))]) (S' := []) (h' := h) (by with_unfolding_all rfl) ?_
                    rw [show kp_wd w = 18 from by unfold kp_wd; rw [if_neg e0, if_neg e1, if_neg e2, if_neg e3, if_neg e4, if_neg e5, if_neg e6, if_neg e7, if_pos e8]] at hQ
                    exact km_w3 hw (by decide) hQ
                  · rw [if_pos ((kx_jne (by omega) (by omega)).mpr e8)]
                    refine kx_go 2 (pc' := 119) (L' := [(2, .inl (Int32.ofNat 1)), (0, .inr (.inl (Int64.ofNat w)))]) (S' := []) (h' := h) (by with_unfolding_all rfl) ?_
                    rw [show kp_wd w = 1 from by unfold kp_wd; rw [if_neg e0, if_neg e1, if_neg e2, if_neg e3, if_neg e4, if_neg e5, if_neg e6, if_neg e7, if_neg e8]] at hQ
                    exact km_w3 hw (by decide) hQ
end
section
-- 86.z1
/-! ===== by hand: the reference's scans ===== -/
theorem kx_wd {w b : Nat} (h : 97 ≤ b) : Int64.ofNat 32 * Int64.ofNat w + Int64.ofNat b - Int64.ofNat 97 + Int64.ofNat 1 = Int64.ofNat (32 * w + b - 96) := by
  rw [← Int64.ofNat_mul, ← Int64.ofNat_add]
  have e : Int64.ofNat (32 * w + b) = Int64.ofNat (32 * w + b - 97) + Int64.ofNat 97 := by rw [← Int64.ofNat_add]; congr 1; omega
  rw [e, Int64.add_sub_cancel, ← Int64.ofNat_add]
  congr 1
  omega
def kp_cd (t : Nat → Nat) (s : Nat) : Nat → Nat → Nat → Nat
  | 0, _, w => w
  | m + 1, a, w => bif kp_let (t a) then kp_cd t s m (a + 1) (if a - s ≤ 6 then 32 * w + t a - 96 else 0) else w
def kp_vl (t : Nat → Nat) (s : Nat) : Nat → Nat → Nat → Nat
  | 0, _, v => v
  | m + 1, a, v => bif kp_fig (t a) then kp_vl t s m (a + 1) (if 3 ≤ a - s then v else 10 * v + t a - 48) else v
def kp_tk (t : Nat → Nat) (n s : Nat) : Nat := if n ≤ s then 0 else if kp_let (t s) = true then (if kp_skip kp_let t (n - s) s - s ≤ 6 then kp_wo (kp_cd t s (n - s) s 0) else 1) else if kp_fig (t s) = true then (if kp_skip kp_fig t (n - s) s - s ≤ 3 then 2 else 1) else if t s = 59 then 3 else 1
def kp_vv (t : Nat → Nat) (n s v : Nat) : Nat := if n ≤ s then v else if kp_let (t s) = true then v else if kp_fig (t s) = true then kp_vl t s (n - s) s 0 else v
theorem kp_cd_lt {t : Nat → Nat} {s : Nat} : ∀ (m a w : Nat), s ≤ a → w < 32 ^ (a - s) → kp_skip kp_let t m a - s ≤ 6 → kp_cd t s m a w < 32 ^ (kp_skip kp_let t m a - s)
  | 0, a, w, _, hw, _ => hw
  | m + 1, a, w, hs, hw, he => by
    have he : (bif kp_let (t a) then kp_skip kp_let t m (a + 1) else a) - s ≤ 6 := he
    show (bif kp_let (t a) then kp_cd t s m (a + 1) (if a - s ≤ 6 then 32 * w + t a - 96 else 0) else w) < 32 ^ ((bif kp_let (t a) then kp_skip kp_let t m (a + 1) else a) - s)
    cases e : kp_let (t a) with
    | false => exact hw
    | true =>
      rw [e] at he
      have he : kp_skip kp_let t m (a + 1) - s ≤ 6 := he
      have h1 := kp_skip_le kp_let t m (a + 1)
      have h2 : 97 ≤ t a ∧ t a ≤ 122 := of_decide_eq_true e
      refine kp_cd_lt m (a + 1) _ (by omega) ?_ he
      rw [if_pos (by omega), show a + 1 - s = (a - s) + 1 from by omega, Nat.pow_succ]
      generalize 32 ^ (a - s) = y at hw ⊢
      omega
theorem kp_cd_b {t : Nat → Nat} {n s : Nat} (he : kp_skip kp_let t (n - s) s - s ≤ 6) : kp_cd t s (n - s) s 0 < 9223372036854775808 := by
  have h := kp_cd_lt (t := t) (n - s) s 0 (Nat.le_refl _) (Nat.pow_pos (by decide)) he
  have h2 : 32 ^ (kp_skip kp_let t (n - s) s - s) ≤ 32 ^ 6 := Nat.pow_le_pow_right (by decide) he
  exact Nat.lt_of_lt_of_le h (Nat.le_trans h2 (by decide))
set_option maxRecDepth 20000 in
theorem km_s0 {g : kc_G} {d : Nat} {Q : Option kc_V → kc_H → Prop} {h : kc_H} {x n : Nat} {t : Nat → Nat} (hg : kc_ok g) (hx : x < 2) (hn : n ≤ 240) (hnt : h 260 (160 + x) = .inl (Int32.ofNat n)) (ht : ∀ j, j < 240 → h 260 (170 + 240 * x + j) = .inl (Int32.ofNat (t j))) (hb : ∀ j, j < 240 → t j < 256) (hd : 3 ≤ d) {s k v : Nat} : ∀ (m a : Nat), n - a = m → a ≤ n → kc_Ev g d wk_m65 Q 24 [(0, .inr (.inr (.inl (some 259))))] [] (km_H h x (kp_skip kp_sp t m a) s k v) → kc_Ev g d wk_m65 Q 0 [(0, .inr (.inr (.inl (some 259))))] [] (km_H h x a s k v) := by
  intro m
  induction m with
  | zero =>
    intro a hm ha K
    refine kx_go 3 (pc' := 5) (L' := [(0, .inr (.inr (.inl (some 259))))]) (S' := [.inl (Int32.ofNat 32), .inl (Int32.ofNat 32), .inr (.inr (.inl (some 259)))]) (h' := (km_H h x a s k v)) (by with_unfolding_all rfl) ?_
    refine kc_call_rule (M2 := wk_m66) (av := [.inr (.inr (.inl (some 259))), .inl (Int32.ofNat 32), .inl (Int32.ofNat 32)]) (r := []) rfl rfl (kc_Con_le (km_at (d := 0) hg hx hn hnt ht hb (by omega) (by omega) (by omega)) (by omega)) (fun rv h' hq => ?_)
    obtain ⟨rfl, rfl⟩ := hq
    show kc_Ev g d wk_m65 Q 8 [(0, .inr (.inr (.inl (some 259))))] [.inl (kp_b (bif decide (a < n) then decide (32 ≤ t a ∧ t a ≤ 32) else false))] (km_H h x a s k v)
    refine kx_go 1 (pc' := (if kc_cnd .eq (kp_b (bif decide (a < n) then decide (32 ≤ t a ∧ t a ≤ 32) else false)).toInt 0 then 24 else 11)) (L' := [(0, .inr (.inr (.inl (some 259))))]) (S' := []) (h' := (km_H h x a s k v)) (by with_unfolding_all rfl) ?_
    rw [show decide (a < n) = false from decide_eq_false (by omega), cond_false]
    rw [if_pos (kx_b0.mpr rfl)]
    exact K
  | succ m ih =>
    intro a hm ha K
    refine kx_go 3 (pc' := 5) (L' := [(0, .inr (.inr (.inl (some 259))))]) (S' := [.inl (Int32.ofNat 32), .inl (Int32.ofNat 32), .inr (.inr (.inl (some 259)))]) (h' := (km_H h x a s k v)) (by with_unfolding_all rfl) ?_
    refine kc_call_rule (M2 := wk_m66) (av := [.inr (.inr (.inl (some 259))), .inl (Int32.ofNat 32), .inl (Int32.ofNat 32)]) (r := []) rfl rfl (kc_Con_le (km_at (d := 0) hg hx hn hnt ht hb (by omega) (by omega) (by omega)) (by omega)) (fun rv h' hq => ?_)
    obtain ⟨rfl, rfl⟩ := hq
    show kc_Ev g d wk_m65 Q 8 [(0, .inr (.inr (.inl (some 259))))] [.inl (kp_b (bif decide (a < n) then decide (32 ≤ t a ∧ t a ≤ 32) else false))] (km_H h x a s k v)
    refine kx_go 1 (pc' := (if kc_cnd .eq (kp_b (bif decide (a < n) then decide (32 ≤ t a ∧ t a ≤ 32) else false)).toInt 0 then 24 else 11)) (L' := [(0, .inr (.inr (.inl (some 259))))]) (S' := []) (h' := (km_H h x a s k v)) (by with_unfolding_all rfl) ?_
    rw [show decide (a < n) = true from decide_eq_true (by omega)]
    have K : kc_Ev g d wk_m65 Q 24 [(0, .inr (.inr (.inl (some 259))))] [] (km_H h x (bif kp_sp (t a) then kp_skip kp_sp t m (a + 1) else a) s k v) := K
    by_cases e : t a = 32
    · rw [if_neg (fun q => by have := kx_b0.mp q; rw [show decide (32 ≤ t a ∧ t a ≤ 32) = true from decide_eq_true (by omega)] at this; cases this)]
      rw [show kp_sp (t a) = true from decide_eq_true e] at K
      refine kx_go 5 (pc' := 18) (L' := [(0, .inr (.inr (.inl (some 259))))]) (S' := [.inl ((Int32.ofNat a) + (Int32.ofNat 1)), .inr (.inr (.inl (some 259)))]) (h' := (km_H h x a s k v)) (by with_unfolding_all rfl) ?_
      refine kx_go 1 (pc' := 21) (L' := [(0, .inr (.inr (.inl (some 259))))]) (S' := []) (h' := kc_upd (km_H h x a s k v) 259 7 (.inl (Int32.ofNat a + Int32.ofNat 1))) (by with_unfolding_all rfl) ?_
      rw [kx_inc1, km_7]
      refine kx_go 1 (pc' := 0) (L' := [(0, .inr (.inr (.inl (some 259))))]) (S' := []) (h' := (km_H h x (a + 1) s k v)) (by with_unfolding_all rfl) ?_
      exact ih (a + 1) (by omega) (by omega) K
    · rw [if_pos (kx_b0.mpr (by rw [show decide (32 ≤ t a ∧ t a ≤ 32) = false from decide_eq_false (by omega)]; rfl))]
      rw [show kp_sp (t a) = false from decide_eq_false e] at K
      exact K
set_option maxRecDepth 20000 in
theorem km_s1 {g : kc_G} {d : Nat} {Q : Option kc_V → kc_H → Prop} {h : kc_H} {x n : Nat} {t : Nat → Nat} (hg : kc_ok g) (hx : x < 2) (hn : n ≤ 240) (hnt : h 260 (160 + x) = .inl (Int32.ofNat n)) (ht : ∀ j, j < 240 → h 260 (170 + 240 * x + j) = .inl (Int32.ofNat (t j))) (hb : ∀ j, j < 240 → t j < 256) (hd : 3 ≤ d) {s k v : Nat} : ∀ (m a w : Nat), n - a = m → a ≤ n → s ≤ a → kc_Ev g d wk_m65 Q 135 [(1, .inr (.inl (Int64.ofNat (kp_cd t s m a w)))), (0, .inr (.inr (.inl (some 259))))] [] (km_H h x (kp_skip kp_let t m a) s k v) → kc_Ev g d wk_m65 Q 71 [(1, .inr (.inl (Int64.ofNat w))), (0, .inr (.inr (.inl (some 259))))] [] (km_H h x a s k v) := by
  intro m
  induction m with
  | zero =>
    intro a w hm ha hsa K
    refine kx_go 3 (pc' := 76) (L' := [(1, .inr (.inl (Int64.ofNat w))), (0, .inr (.inr (.inl (some 259))))]) (S' := [.inl (Int32.ofNat 122), .inl (Int32.ofNat 97), .inr (.inr (.inl (some 259)))]) (h' := (km_H h x a s k v)) (by with_unfolding_all rfl) ?_
    refine kc_call_rule (M2 := wk_m66) (av := [.inr (.inr (.inl (some 259))), .inl (Int32.ofNat 97), .inl (Int32.ofNat 122)]) (r := []) rfl rfl (kc_Con_le (km_at (d := 0) hg hx hn hnt ht hb (by omega) (by omega) (by omega)) (by omega)) (fun rv h' hq => ?_)
    obtain ⟨rfl, rfl⟩ := hq
    show kc_Ev g d wk_m65 Q 79 [(1, .inr (.inl (Int64.ofNat w))), (0, .inr (.inr (.inl (some 259))))] [.inl (kp_b (bif decide (a < n) then decide (97 ≤ t a ∧ t a ≤ 122) else false))] (km_H h x a s k v)
    refine kx_go 1 (pc' := (if kc_cnd .eq (kp_b (bif decide (a < n) then decide (97 ≤ t a ∧ t a ≤ 122) else false)).toInt 0 then 135 else 82)) (L' := [(1, .inr (.inl (Int64.ofNat w))), (0, .inr (.inr (.inl (some 259))))]) (S' := []) (h' := (km_H h x a s k v)) (by with_unfolding_all rfl) ?_
    rw [show decide (a < n) = false from decide_eq_false (by omega), cond_false]
    rw [if_pos (kx_b0.mpr rfl)]
    exact K
  | succ m ih =>
    intro a w hm ha hsa K
    refine kx_go 3 (pc' := 76) (L' := [(1, .inr (.inl (Int64.ofNat w))), (0, .inr (.inr (.inl (some 259))))]) (S' := [.inl (Int32.ofNat 122), .inl (Int32.ofNat 97), .inr (.inr (.inl (some 259)))]) (h' := (km_H h x a s k v)) (by with_unfolding_all rfl) ?_
    refine kc_call_rule (M2 := wk_m66) (av := [.inr (.inr (.inl (some 259))), .inl (Int32.ofNat 97), .inl (Int32.ofNat 122)]) (r := []) rfl rfl (kc_Con_le (km_at (d := 0) hg hx hn hnt ht hb (by omega) (by omega) (by omega)) (by omega)) (fun rv h' hq => ?_)
    obtain ⟨rfl, rfl⟩ := hq
    show kc_Ev g d wk_m65 Q 79 [(1, .inr (.inl (Int64.ofNat w))), (0, .inr (.inr (.inl (some 259))))] [.inl (kp_b (bif decide (a < n) then decide (97 ≤ t a ∧ t a ≤ 122) else false))] (km_H h x a s k v)
    refine kx_go 1 (pc' := (if kc_cnd .eq (kp_b (bif decide (a < n) then decide (97 ≤ t a ∧ t a ≤ 122) else false)).toInt 0 then 135 else 82)) (L' := [(1, .inr (.inl (Int64.ofNat w))), (0, .inr (.inr (.inl (some 259))))]) (S' := []) (h' := (km_H h x a s k v)) (by with_unfolding_all rfl) ?_
    rw [show decide (a < n) = true from decide_eq_true (by omega)]
    have K : kc_Ev g d wk_m65 Q 135 [(1, .inr (.inl (Int64.ofNat (bif kp_let (t a) then kp_cd t s m (a + 1) (if a - s ≤ 6 then 32 * w + t a - 96 else 0) else w)))), (0, .inr (.inr (.inl (some 259))))] [] (km_H h x (bif kp_let (t a) then kp_skip kp_let t m (a + 1) else a) s k v) := K
    cases e : kp_let (t a) with
    | true =>
      rw [if_neg (fun q => by have := kx_b0.mp q; rw [show decide (97 ≤ t a ∧ t a ≤ 122) = true from e] at this; cases this)]
      rw [e] at K
      have h97 : 97 ≤ t a ∧ t a ≤ 122 := of_decide_eq_true e
      refine kx_go 7 (pc' := (if kc_cnd .le ((Int32.ofNat a) - (Int32.ofNat s)).toInt (Int32.ofNat 6).toInt then 100 else 96)) (L' := [(1, .inr (.inl (Int64.ofNat w))), (0, .inr (.inr (.inl (some 259))))]) (S' := []) (h' := (km_H h x a s k v)) (by with_unfolding_all rfl) ?_
      rw [kx_sub hsa]
      have K2 : ∀ w2, w2 = (if a - s ≤ 6 then 32 * w + t a - 96 else 0) → kc_Ev g d wk_m65 Q 121 [(1, .inr (.inl (Int64.ofNat w))), (0, .inr (.inr (.inl (some 259))))] [.inr (.inl (Int64.ofNat w2))] (km_H h x a s k v) := by
        intro w2 hw2
        rw [← hw2] at K
        refine kx_go 1 (pc' := 122) (L' := [(1, .inr (.inl (Int64.ofNat w2))), (0, .inr (.inr (.inl (some 259))))]) (S' := []) (h' := (km_H h x a s k v)) (by with_unfolding_all rfl) ?_
        refine kx_go 5 (pc' := 129) (L' := [(1, .inr (.inl (Int64.ofNat w2))), (0, .inr (.inr (.inl (some 259))))]) (S' := [.inl ((Int32.ofNat a) + (Int32.ofNat 1)), .inr (.inr (.inl (some 259)))]) (h' := (km_H h x a s k v)) (by with_unfolding_all rfl) ?_
        refine kx_go 1 (pc' := 132) (L' := [(1, .inr (.inl (Int64.ofNat w2))), (0, .inr (.inr (.inl (some 259))))]) (S' := []) (h' := kc_upd (km_H h x a s k v) 259 7 (.inl (Int32.ofNat a + Int32.ofNat 1))) (by with_unfolding_all rfl) ?_
        rw [kx_inc1, km_7]
        refine kx_go 1 (pc' := 71) (L' := [(1, .inr (.inl (Int64.ofNat w2))), (0, .inr (.inr (.inl (some 259))))]) (S' := []) (h' := (km_H h x (a + 1) s k v)) (by with_unfolding_all rfl) ?_
        exact ih (a + 1) w2 (by omega) (by omega) (by omega) K
      by_cases e6 : a - s ≤ 6
      · rw [if_pos ((kx_le (by omega) (by omega)).mpr e6)]
        refine kx_go 6 (pc' := 110) (L' := [(1, .inr (.inl (Int64.ofNat w))), (0, .inr (.inr (.inl (some 259))))]) (S' := [.inl (Int32.ofNat a), .inr (.inr (.inl (some 259))), .inr (.inl ((Int64.ofNat 32) * (Int64.ofNat w)))]) (h' := (km_H h x a s k v)) (by with_unfolding_all rfl) ?_
        refine kc_call_rule (M2 := wk_m232) (av := [.inr (.inr (.inl (some 259))), .inl (Int32.ofNat a)]) (r := [.inr (.inl ((Int64.ofNat 32) * (Int64.ofNat w)))]) rfl rfl (kc_Con_le (km_by (d := 0) hg hx hn hnt ht hb (by omega)) (by omega)) (fun rv h' hq => ?_)
        obtain ⟨rfl, rfl⟩ := hq
        show kc_Ev g d wk_m65 Q 113 [(1, .inr (.inl (Int64.ofNat w))), (0, .inr (.inr (.inl (some 259))))] [.inl (Int32.ofNat (t a)), .inr (.inl ((Int64.ofNat 32) * (Int64.ofNat w)))] (km_H h x a s k v)
        refine kx_go 6 (pc' := 121) (L' := [(1, .inr (.inl (Int64.ofNat w))), (0, .inr (.inr (.inl (some 259))))]) (S' := [.inr (.inl (((((Int64.ofNat 32) * (Int64.ofNat w)) + ((Int32.ofNat (t a)).toInt64)) - (Int64.ofNat 97)) + (Int64.ofNat 1)))]) (h' := (km_H h x a s k v)) (by with_unfolding_all rfl) ?_
        rw [kx_i2l (by have := hb a (by omega); omega), kx_wd h97.1]
        exact K2 _ (by rw [if_pos e6])
      · rw [if_neg (fun q => e6 ((kx_le (by omega) (by omega)).mp q))]
        refine kx_go 2 (pc' := 121) (L' := [(1, .inr (.inl (Int64.ofNat w))), (0, .inr (.inr (.inl (some 259))))]) (S' := [.inr (.inl (Int64.ofNat 0))]) (h' := (km_H h x a s k v)) (by with_unfolding_all rfl) ?_
        exact K2 0 (by rw [if_neg e6])
    | false =>
      rw [if_pos (kx_b0.mpr (by rw [show decide (97 ≤ t a ∧ t a ≤ 122) = false from e]; rfl))]
      rw [e] at K
      exact K
set_option maxRecDepth 20000 in
theorem km_s2 {g : kc_G} {d : Nat} {Q : Option kc_V → kc_H → Prop} {h : kc_H} {x n : Nat} {t : Nat → Nat} (hg : kc_ok g) (hx : x < 2) (hn : n ≤ 240) (hnt : h 260 (160 + x) = .inl (Int32.ofNat n)) (ht : ∀ j, j < 240 → h 260 (170 + 240 * x + j) = .inl (Int32.ofNat (t j))) (hb : ∀ j, j < 240 → t j < 256) (hd : 3 ≤ d) {s k : Nat} : ∀ (m a v : Nat), n - a = m → a ≤ n → s ≤ a → kc_Ev g d wk_m65 Q 245 [(0, .inr (.inr (.inl (some 259))))] [] (km_H h x (kp_skip kp_fig t m a) s k (kp_vl t s m a v)) → kc_Ev g d wk_m65 Q 178 [(0, .inr (.inr (.inl (some 259))))] [] (km_H h x a s k v) := by
  intro m
  induction m with
  | zero =>
    intro a v hm ha hsa K
    refine kx_go 3 (pc' := 183) (L' := [(0, .inr (.inr (.inl (some 259))))]) (S' := [.inl (Int32.ofNat 57), .inl (Int32.ofNat 48), .inr (.inr (.inl (some 259)))]) (h' := (km_H h x a s k v)) (by with_unfolding_all rfl) ?_
    refine kc_call_rule (M2 := wk_m66) (av := [.inr (.inr (.inl (some 259))), .inl (Int32.ofNat 48), .inl (Int32.ofNat 57)]) (r := []) rfl rfl (kc_Con_le (km_at (d := 0) hg hx hn hnt ht hb (by omega) (by omega) (by omega)) (by omega)) (fun rv h' hq => ?_)
    obtain ⟨rfl, rfl⟩ := hq
    show kc_Ev g d wk_m65 Q 186 [(0, .inr (.inr (.inl (some 259))))] [.inl (kp_b (bif decide (a < n) then decide (48 ≤ t a ∧ t a ≤ 57) else false))] (km_H h x a s k v)
    refine kx_go 1 (pc' := (if kc_cnd .eq (kp_b (bif decide (a < n) then decide (48 ≤ t a ∧ t a ≤ 57) else false)).toInt 0 then 245 else 189)) (L' := [(0, .inr (.inr (.inl (some 259))))]) (S' := []) (h' := (km_H h x a s k v)) (by with_unfolding_all rfl) ?_
    rw [show decide (a < n) = false from decide_eq_false (by omega), cond_false]
    rw [if_pos (kx_b0.mpr rfl)]
    exact K
  | succ m ih =>
    intro a v hm ha hsa K
    refine kx_go 3 (pc' := 183) (L' := [(0, .inr (.inr (.inl (some 259))))]) (S' := [.inl (Int32.ofNat 57), .inl (Int32.ofNat 48), .inr (.inr (.inl (some 259)))]) (h' := (km_H h x a s k v)) (by with_unfolding_all rfl) ?_
    refine kc_call_rule (M2 := wk_m66) (av := [.inr (.inr (.inl (some 259))), .inl (Int32.ofNat 48), .inl (Int32.ofNat 57)]) (r := []) rfl rfl (kc_Con_le (km_at (d := 0) hg hx hn hnt ht hb (by omega) (by omega) (by omega)) (by omega)) (fun rv h' hq => ?_)
    obtain ⟨rfl, rfl⟩ := hq
    show kc_Ev g d wk_m65 Q 186 [(0, .inr (.inr (.inl (some 259))))] [.inl (kp_b (bif decide (a < n) then decide (48 ≤ t a ∧ t a ≤ 57) else false))] (km_H h x a s k v)
    refine kx_go 1 (pc' := (if kc_cnd .eq (kp_b (bif decide (a < n) then decide (48 ≤ t a ∧ t a ≤ 57) else false)).toInt 0 then 245 else 189)) (L' := [(0, .inr (.inr (.inl (some 259))))]) (S' := []) (h' := (km_H h x a s k v)) (by with_unfolding_all rfl) ?_
    rw [show decide (a < n) = true from decide_eq_true (by omega)]
    have K : kc_Ev g d wk_m65 Q 245 [(0, .inr (.inr (.inl (some 259))))] [] (km_H h x (bif kp_fig (t a) then kp_skip kp_fig t m (a + 1) else a) s k (bif kp_fig (t a) then kp_vl t s m (a + 1) (if 3 ≤ a - s then v else 10 * v + t a - 48) else v)) := K
    cases e : kp_fig (t a) with
    | true =>
      rw [if_neg (fun q => by have := kx_b0.mp q; rw [show decide (48 ≤ t a ∧ t a ≤ 57) = true from e] at this; cases this)]
      rw [e] at K
      have h48 : 48 ≤ t a ∧ t a ≤ 57 := of_decide_eq_true e
      refine kx_go 8 (pc' := (if kc_cnd .ge ((Int32.ofNat a) - (Int32.ofNat s)).toInt (Int32.ofNat 3).toInt then 225 else 203)) (L' := [(0, .inr (.inr (.inl (some 259))))]) (S' := [.inr (.inr (.inl (some 259)))]) (h' := (km_H h x a s k v)) (by with_unfolding_all rfl) ?_
      rw [kx_sub hsa]
      have K2 : ∀ v2, v2 = (if 3 ≤ a - s then v else 10 * v + t a - 48) → kc_Ev g d wk_m65 Q 229 [(0, .inr (.inr (.inl (some 259))))] [.inl (Int32.ofNat v2), .inr (.inr (.inl (some 259)))] (km_H h x a s k v) := by
        intro v2 hv2
        rw [← hv2] at K
        refine kx_go 1 (pc' := 232) (L' := [(0, .inr (.inr (.inl (some 259))))]) (S' := []) (h' := kc_upd (km_H h x a s k v) 259 10 (.inl (Int32.ofNat v2))) (by with_unfolding_all rfl) ?_
        rw [km_10]
        refine kx_go 5 (pc' := 239) (L' := [(0, .inr (.inr (.inl (some 259))))]) (S' := [.inl ((Int32.ofNat a) + (Int32.ofNat 1)), .inr (.inr (.inl (some 259)))]) (h' := (km_H h x a s k v2)) (by with_unfolding_all rfl) ?_
        refine kx_go 1 (pc' := 242) (L' := [(0, .inr (.inr (.inl (some 259))))]) (S' := []) (h' := kc_upd (km_H h x a s k v2) 259 7 (.inl (Int32.ofNat a + Int32.ofNat 1))) (by with_unfolding_all rfl) ?_
        rw [kx_inc1, km_7]
        refine kx_go 1 (pc' := 178) (L' := [(0, .inr (.inr (.inl (some 259))))]) (S' := []) (h' := (km_H h x (a + 1) s k v2)) (by with_unfolding_all rfl) ?_
        exact ih (a + 1) v2 (by omega) (by omega) (by omega) K
      by_cases e3 : 3 ≤ a - s
      · rw [if_pos ((kx_ge (by omega) (by omega)).mpr e3)]
        refine kx_go 2 (pc' := 229) (L' := [(0, .inr (.inr (.inl (some 259))))]) (S' := [.inl (Int32.ofNat v), .inr (.inr (.inl (some 259)))]) (h' := (km_H h x a s k v)) (by with_unfolding_all rfl) ?_
        exact K2 _ (by rw [if_pos e3])
      · rw [if_neg (fun q => e3 ((kx_ge (by omega) (by omega)).mp q))]
        refine kx_go 7 (pc' := 215) (L' := [(0, .inr (.inr (.inl (some 259))))]) (S' := [.inl (Int32.ofNat a), .inr (.inr (.inl (some 259))), .inl ((Int32.ofNat 10) * (Int32.ofNat v)), .inr (.inr (.inl (some 259)))]) (h' := (km_H h x a s k v)) (by with_unfolding_all rfl) ?_
        refine kc_call_rule (M2 := wk_m232) (av := [.inr (.inr (.inl (some 259))), .inl (Int32.ofNat a)]) (r := [.inl ((Int32.ofNat 10) * (Int32.ofNat v)), .inr (.inr (.inl (some 259)))]) rfl rfl (kc_Con_le (km_by (d := 0) hg hx hn hnt ht hb (by omega)) (by omega)) (fun rv h' hq => ?_)
        obtain ⟨rfl, rfl⟩ := hq
        show kc_Ev g d wk_m65 Q 218 [(0, .inr (.inr (.inl (some 259))))] [.inl (Int32.ofNat (t a)), .inl ((Int32.ofNat 10) * (Int32.ofNat v)), .inr (.inr (.inl (some 259)))] (km_H h x a s k v)
        refine kx_go 4 (pc' := 229) (L' := [(0, .inr (.inr (.inl (some 259))))]) (S' := [.inl ((((Int32.ofNat 10) * (Int32.ofNat v)) + (Int32.ofNat (t a))) - (Int32.ofNat 48)), .inr (.inr (.inl (some 259)))]) (h' := (km_H h x a s k v)) (by with_unfolding_all rfl) ?_
        rw [kx_dig h48.1]
        exact K2 _ (by rw [if_neg e3])
    | false =>
      rw [if_pos (kx_b0.mpr (by rw [show decide (48 ≤ t a ∧ t a ≤ 57) = false from e]; rfl))]
      rw [e] at K
      exact K
set_option maxRecDepth 20000 in
theorem km_st1 {g : kc_G} {d : Nat} {Q : Option kc_V → kc_H → Prop} {h : kc_H} {x n : Nat} {t : Nat → Nat} (hg : kc_ok g) (hx : x < 2) (hn : n ≤ 240) (hnt : h 260 (160 + x) = .inl (Int32.ofNat n)) (ht : ∀ j, j < 240 → h 260 (170 + 240 * x + j) = .inl (Int32.ofNat (t j))) (hb : ∀ j, j < 240 → t j < 256) (hd : 3 ≤ d) {s k v q : Nat} (hqn : q ≤ n) (hQ : Q none (km_H h x (kp_nx t n q) q (kp_tk t n q) (kp_vv t n q v))) : kc_Ev g d wk_m65 Q 24 [(0, .inr (.inr (.inl (some 259))))] [] (km_H h x q s k v) := by
  refine kx_go 3 (pc' := 29) (L' := [(0, .inr (.inr (.inl (some 259))))]) (S' := [.inl (Int32.ofNat q), .inr (.inr (.inl (some 259)))]) (h' := (km_H h x q s k v)) (by with_unfolding_all rfl) ?_
  refine kx_go 1 (pc' := 32) (L' := [(0, .inr (.inr (.inl (some 259))))]) (S' := []) (h' := kc_upd (km_H h x q s k v) 259 8 (.inl (Int32.ofNat q))) (by with_unfolding_all rfl) ?_
  rw [km_8]
  refine kx_go 8 (pc' := 48) (L' := [(0, .inr (.inr (.inl (some 259))))]) (S' := [.inl ((Int32.ofNat 160) + (Int32.ofNat x)), .inr (.inr (.inl (some 260))), .inl (Int32.ofNat q)]) (h' := (km_H h x q q k v)) (by with_unfolding_all rfl) ?_
  rw [kx_add]
  refine kx_iald rfl (c := 260) (j := 160 + x) (m := 650) rfl (by decide) (by decide) (by omega) ((km_o (by decide)).trans hnt) ?_
  refine kx_go 1 (pc' := (if kc_cnd .ne (Int32.ofNat q).toInt (Int32.ofNat n).toInt then 58 else 52)) (L' := [(0, .inr (.inr (.inl (some 259))))]) (S' := []) (h' := (km_H h x q q k v)) (by with_unfolding_all rfl) ?_
  by_cases e1 : q = n
  · rw [if_neg (fun w => (kx_ne (by omega) (by omega)).mp w e1)]
    refine kx_go 2 (pc' := 54) (L' := [(0, .inr (.inr (.inl (some 259))))]) (S' := [.inl (Int32.ofNat 0), .inr (.inr (.inl (some 259)))]) (h' := (km_H h x q q k v)) (by with_unfolding_all rfl) ?_
    refine kx_go 1 (pc' := 57) (L' := [(0, .inr (.inr (.inl (some 259))))]) (S' := []) (h' := kc_upd (km_H h x q q k v) 259 9 (.inl (Int32.ofNat 0))) (by with_unfolding_all rfl) ?_
    rw [km_9]
    have hnq : n ≤ q := by omega
    rw [show kp_nx t n q = q from if_pos hnq, show kp_tk t n q = 0 from if_pos hnq, show kp_vv t n q v = v from if_pos hnq] at hQ
    exact kc_ret_ok rfl (rv := none) rfl hQ
  · rw [if_pos ((kx_ne (by omega) (by omega)).mpr e1)]
    have hnq : ¬ n ≤ q := by omega
    unfold kp_nx kp_tk kp_vv at hQ
    rw [if_neg hnq, if_neg hnq, if_neg hnq] at hQ
    have hbq := hb q (by omega)
    refine kx_go 3 (pc' := 63) (L' := [(0, .inr (.inr (.inl (some 259))))]) (S' := [.inl (Int32.ofNat 122), .inl (Int32.ofNat 97), .inr (.inr (.inl (some 259)))]) (h' := (km_H h x q q k v)) (by with_unfolding_all rfl) ?_
    refine kc_call_rule (M2 := wk_m66) (av := [.inr (.inr (.inl (some 259))), .inl (Int32.ofNat 97), .inl (Int32.ofNat 122)]) (r := []) rfl rfl (kc_Con_le (km_at (d := 0) hg hx hn hnt ht hb (by omega) (by omega) (by omega)) (by omega)) (fun rv h' hq => ?_)
    obtain ⟨rfl, rfl⟩ := hq
    show kc_Ev g d wk_m65 Q 66 [(0, .inr (.inr (.inl (some 259))))] [.inl (kp_b (bif decide (q < n) then decide (97 ≤ t q ∧ t q ≤ 122) else false))] (km_H h x q q k v)
    refine kx_go 1 (pc' := (if kc_cnd .eq (kp_b (bif decide (q < n) then decide (97 ≤ t q ∧ t q ≤ 122) else false)).toInt 0 then 162 else 69)) (L' := [(0, .inr (.inr (.inl (some 259))))]) (S' := []) (h' := (km_H h x q q k v)) (by with_unfolding_all rfl) ?_
    rw [show decide (q < n) = true from decide_eq_true (by omega)]
    cases e2 : kp_let (t q) with
    | true =>
      rw [if_neg (fun w => by have := kx_b0.mp w; rw [show decide (97 ≤ t q ∧ t q ≤ 122) = true from e2] at this; cases this)]
      simp only [e2, ↓reduceIte] at hQ
      refine kx_go 2 (pc' := 71) (L' := [(1, .inr (.inl (Int64.ofNat 0))), (0, .inr (.inr (.inl (some 259))))]) (S' := []) (h' := (km_H h x q q k v)) (by with_unfolding_all rfl) ?_
      refine km_s1 hg hx hn hnt ht hb hd (n - q) q 0 rfl (by omega) (Nat.le_refl _) ?_
      have hcd := kp_cd_b (t := t) (n := n) (s := q)
      have he := kp_skip_le kp_let t (n - q) q
      generalize kp_skip kp_let t (n - q) q = e at hQ he hcd ⊢
      generalize kp_cd t q (n - q) q 0 = w at hQ hcd ⊢
      refine kx_go 8 (pc' := (if kc_cnd .le ((Int32.ofNat e) - (Int32.ofNat q)).toInt (Int32.ofNat 6).toInt then 154 else 150)) (L' := [(1, .inr (.inl (Int64.ofNat w))), (0, .inr (.inr (.inl (some 259))))]) (S' := [.inr (.inr (.inl (some 259)))]) (h' := (km_H h x e q k v)) (by with_unfolding_all rfl) ?_
      rw [kx_sub he.1]
      by_cases e6 : e - q ≤ 6
      · rw [if_pos ((kx_le (by omega) (by omega)).mpr e6)]
        rw [if_pos e6] at hQ
        refine kx_go 1 (pc' := 155) (L' := [(1, .inr (.inl (Int64.ofNat w))), (0, .inr (.inr (.inl (some 259))))]) (S' := [.inr (.inl (Int64.ofNat w)), .inr (.inr (.inl (some 259)))]) (h' := (km_H h x e q k v)) (by with_unfolding_all rfl) ?_
        refine kc_call_rule (M2 := wk_m233) (av := [.inr (.inl (Int64.ofNat w))]) (r := [.inr (.inr (.inl (some 259)))]) rfl rfl (kc_Con_le (km_wo (d := 0) hg (hcd e6)) (by omega)) (fun rv h' hq => ?_)
        obtain ⟨rfl, rfl⟩ := hq
        show kc_Ev g d wk_m65 Q 158 [(1, .inr (.inl (Int64.ofNat w))), (0, .inr (.inr (.inl (some 259))))] [.inl (Int32.ofNat (kp_wo w)), .inr (.inr (.inl (some 259)))] (km_H h x e q k v)
        refine kx_go 1 (pc' := 161) (L' := [(1, .inr (.inl (Int64.ofNat w))), (0, .inr (.inr (.inl (some 259))))]) (S' := []) (h' := kc_upd (km_H h x e q k v) 259 9 (.inl (Int32.ofNat (kp_wo w)))) (by with_unfolding_all rfl) ?_
        rw [km_9]
        exact kc_ret_ok rfl (rv := none) rfl hQ
      · rw [if_neg (fun w => e6 ((kx_le (by omega) (by omega)).mp w))]
        rw [if_neg e6] at hQ
        refine kx_go 2 (pc' := 158) (L' := [(1, .inr (.inl (Int64.ofNat w))), (0, .inr (.inr (.inl (some 259))))]) (S' := [.inl (Int32.ofNat 1), .inr (.inr (.inl (some 259)))]) (h' := (km_H h x e q k v)) (by with_unfolding_all rfl) ?_
        refine kx_go 1 (pc' := 161) (L' := [(1, .inr (.inl (Int64.ofNat w))), (0, .inr (.inr (.inl (some 259))))]) (S' := []) (h' := kc_upd (km_H h x e q k v) 259 9 (.inl (Int32.ofNat 1))) (by with_unfolding_all rfl) ?_
        rw [km_9]
        exact kc_ret_ok rfl (rv := none) rfl hQ
    | false =>
      rw [if_pos (kx_b0.mpr (by rw [show decide (97 ≤ t q ∧ t q ≤ 122) = false from e2]; rfl))]
      simp only [e2, ↓reduceIte, Bool.false_eq_true] at hQ
      refine kx_go 3 (pc' := 167) (L' := [(0, .inr (.inr (.inl (some 259))))]) (S' := [.inl (Int32.ofNat 57), .inl (Int32.ofNat 48), .inr (.inr (.inl (some 259)))]) (h' := (km_H h x q q k v)) (by with_unfolding_all rfl) ?_
      refine kc_call_rule (M2 := wk_m66) (av := [.inr (.inr (.inl (some 259))), .inl (Int32.ofNat 48), .inl (Int32.ofNat 57)]) (r := []) rfl rfl (kc_Con_le (km_at (d := 0) hg hx hn hnt ht hb (by omega) (by omega) (by omega)) (by omega)) (fun rv h' hq => ?_)
      obtain ⟨rfl, rfl⟩ := hq
      show kc_Ev g d wk_m65 Q 170 [(0, .inr (.inr (.inl (some 259))))] [.inl (kp_b (bif decide (q < n) then decide (48 ≤ t q ∧ t q ≤ 57) else false))] (km_H h x q q k v)
      refine kx_go 1 (pc' := (if kc_cnd .eq (kp_b (bif decide (q < n) then decide (48 ≤ t q ∧ t q ≤ 57) else false)).toInt 0 then 268 else 173)) (L' := [(0, .inr (.inr (.inl (some 259))))]) (S' := []) (h' := (km_H h x q q k v)) (by with_unfolding_all rfl) ?_
      rw [show decide (q < n) = true from decide_eq_true (by omega)]
      cases e3 : kp_fig (t q) with
      | true =>
        rw [if_neg (fun w => by have := kx_b0.mp w; rw [show decide (48 ≤ t q ∧ t q ≤ 57) = true from e3] at this; cases this)]
        simp only [e3, ↓reduceIte] at hQ
        refine kx_go 2 (pc' := 175) (L' := [(0, .inr (.inr (.inl (some 259))))]) (S' := [.inl (Int32.ofNat 0), .inr (.inr (.inl (some 259)))]) (h' := (km_H h x q q k v)) (by with_unfolding_all rfl) ?_
        refine kx_go 1 (pc' := 178) (L' := [(0, .inr (.inr (.inl (some 259))))]) (S' := []) (h' := kc_upd (km_H h x q q k v) 259 10 (.inl (Int32.ofNat 0))) (by with_unfolding_all rfl) ?_
        rw [km_10]
        refine km_s2 hg hx hn hnt ht hb hd (n - q) q 0 rfl (by omega) (Nat.le_refl _) ?_
        have he := kp_skip_le kp_fig t (n - q) q
        generalize kp_skip kp_fig t (n - q) q = e at hQ he ⊢
        generalize kp_vl t q (n - q) q 0 = u at hQ ⊢
        refine kx_go 8 (pc' := (if kc_cnd .le ((Int32.ofNat e) - (Int32.ofNat q)).toInt (Int32.ofNat 3).toInt then 263 else 259)) (L' := [(0, .inr (.inr (.inl (some 259))))]) (S' := [.inr (.inr (.inl (some 259)))]) (h' := (km_H h x e q k u)) (by with_unfolding_all rfl) ?_
        rw [kx_sub he.1]
        by_cases e4 : e - q ≤ 3
        · rw [if_pos ((kx_le (by omega) (by omega)).mpr e4)]
          rw [if_pos e4] at hQ
          refine kx_go 1 (pc' := 264) (L' := [(0, .inr (.inr (.inl (some 259))))]) (S' := [.inl (Int32.ofNat 2), .inr (.inr (.inl (some 259)))]) (h' := (km_H h x e q k u)) (by with_unfolding_all rfl) ?_
          refine kx_go 1 (pc' := 267) (L' := [(0, .inr (.inr (.inl (some 259))))]) (S' := []) (h' := kc_upd (km_H h x e q k u) 259 9 (.inl (Int32.ofNat 2))) (by with_unfolding_all rfl) ?_
          rw [km_9]
          exact kc_ret_ok rfl (rv := none) rfl hQ
        · rw [if_neg (fun w => e4 ((kx_le (by omega) (by omega)).mp w))]
          rw [if_neg e4] at hQ
          refine kx_go 2 (pc' := 264) (L' := [(0, .inr (.inr (.inl (some 259))))]) (S' := [.inl (Int32.ofNat 1), .inr (.inr (.inl (some 259)))]) (h' := (km_H h x e q k u)) (by with_unfolding_all rfl) ?_
          refine kx_go 1 (pc' := 267) (L' := [(0, .inr (.inr (.inl (some 259))))]) (S' := []) (h' := kc_upd (km_H h x e q k u) 259 9 (.inl (Int32.ofNat 1))) (by with_unfolding_all rfl) ?_
          rw [km_9]
          exact kc_ret_ok rfl (rv := none) rfl hQ
      | false =>
        rw [if_pos (kx_b0.mpr (by rw [show decide (48 ≤ t q ∧ t q ≤ 57) = false from e3]; rfl))]
        simp only [e3, ↓reduceIte, Bool.false_eq_true] at hQ
        refine kx_go 4 (pc' := 274) (L' := [(0, .inr (.inr (.inl (some 259))))]) (S' := [.inl (Int32.ofNat 59), .inl (Int32.ofNat 59), .inr (.inr (.inl (some 259))), .inr (.inr (.inl (some 259)))]) (h' := (km_H h x q q k v)) (by with_unfolding_all rfl) ?_
        refine kc_call_rule (M2 := wk_m66) (av := [.inr (.inr (.inl (some 259))), .inl (Int32.ofNat 59), .inl (Int32.ofNat 59)]) (r := [.inr (.inr (.inl (some 259)))]) rfl rfl (kc_Con_le (km_at (d := 0) hg hx hn hnt ht hb (by omega) (by omega) (by omega)) (by omega)) (fun rv h' hq => ?_)
        obtain ⟨rfl, rfl⟩ := hq
        show kc_Ev g d wk_m65 Q 277 [(0, .inr (.inr (.inl (some 259))))] [.inl (kp_b (bif decide (q < n) then decide (59 ≤ t q ∧ t q ≤ 59) else false)), .inr (.inr (.inl (some 259)))] (km_H h x q q k v)
        refine kx_go 1 (pc' := (if kc_cnd .eq (kp_b (bif decide (q < n) then decide (59 ≤ t q ∧ t q ≤ 59) else false)).toInt 0 then 284 else 280)) (L' := [(0, .inr (.inr (.inl (some 259))))]) (S' := [.inr (.inr (.inl (some 259)))]) (h' := (km_H h x q q k v)) (by with_unfolding_all rfl) ?_
        rw [show decide (q < n) = true from decide_eq_true (by omega)]
        by_cases e4 : t q = 59
        · rw [if_neg (fun w => by have := kx_b0.mp w; rw [show decide (59 ≤ t q ∧ t q ≤ 59) = true from decide_eq_true (by omega)] at this; cases this)]
          rw [if_pos e4] at hQ
          refine kx_go 2 (pc' := 285) (L' := [(0, .inr (.inr (.inl (some 259))))]) (S' := [.inl (Int32.ofNat 3), .inr (.inr (.inl (some 259)))]) (h' := (km_H h x q q k v)) (by with_unfolding_all rfl) ?_
          refine kx_go 1 (pc' := 288) (L' := [(0, .inr (.inr (.inl (some 259))))]) (S' := []) (h' := kc_upd (km_H h x q q k v) 259 9 (.inl (Int32.ofNat 3))) (by with_unfolding_all rfl) ?_
          rw [km_9]
          refine kx_go 5 (pc' := 295) (L' := [(0, .inr (.inr (.inl (some 259))))]) (S' := [.inl ((Int32.ofNat q) + (Int32.ofNat 1)), .inr (.inr (.inl (some 259)))]) (h' := (km_H h x q q 3 v)) (by with_unfolding_all rfl) ?_
          refine kx_go 1 (pc' := 298) (L' := [(0, .inr (.inr (.inl (some 259))))]) (S' := []) (h' := kc_upd (km_H h x q q 3 v) 259 7 (.inl (Int32.ofNat q + Int32.ofNat 1))) (by with_unfolding_all rfl) ?_
          rw [kx_inc1, km_7]
          exact kc_ret_ok rfl (rv := none) rfl hQ
        · rw [if_pos (kx_b0.mpr (by rw [show decide (59 ≤ t q ∧ t q ≤ 59) = false from decide_eq_false (by omega)]; rfl))]
          rw [if_neg e4] at hQ
          refine kx_go 1 (pc' := 285) (L' := [(0, .inr (.inr (.inl (some 259))))]) (S' := [.inl (Int32.ofNat 1), .inr (.inr (.inl (some 259)))]) (h' := (km_H h x q q k v)) (by with_unfolding_all rfl) ?_
          refine kx_go 1 (pc' := 288) (L' := [(0, .inr (.inr (.inl (some 259))))]) (S' := []) (h' := kc_upd (km_H h x q q k v) 259 9 (.inl (Int32.ofNat 1))) (by with_unfolding_all rfl) ?_
          rw [km_9]
          refine kx_go 5 (pc' := 295) (L' := [(0, .inr (.inr (.inl (some 259))))]) (S' := [.inl ((Int32.ofNat q) + (Int32.ofNat 1)), .inr (.inr (.inl (some 259)))]) (h' := (km_H h x q q 1 v)) (by with_unfolding_all rfl) ?_
          refine kx_go 1 (pc' := 298) (L' := [(0, .inr (.inr (.inl (some 259))))]) (S' := []) (h' := kc_upd (km_H h x q q 1 v) 259 7 (.inl (Int32.ofNat q + Int32.ofNat 1))) (by with_unfolding_all rfl) ?_
          rw [kx_inc1, km_7]
          exact kc_ret_ok rfl (rv := none) rfl hQ
/-- scans() -/
theorem km_scan {g : kc_G} {h : kc_H} {x n : Nat} {t : Nat → Nat} (hg : kc_ok g) (hx : x < 2) (hn : n ≤ 240) (hnt : h 260 (160 + x) = .inl (Int32.ofNat n)) (ht : ∀ j, j < 240 → h 260 (170 + 240 * x + j) = .inl (Int32.ofNat (t j))) (hb : ∀ j, j < 240 → t j < 256) {a s k v : Nat} (ha : a ≤ n) : kc_Con g 4 65 [.inr (.inr (.inl (some 259)))] (km_H h x a s k v) (fun rv h' => rv = none ∧ h' = km_H h x (kp_nx t n (kp_start t n a)) (kp_start t n a) (kp_tk t n (kp_start t n a)) (kp_vv t n (kp_start t n a) v)) := by
  refine kc_Con_new hg (M := wk_m65) rfl rfl rfl (show 1 ≤ 3 by decide) ?_
  show kc_Ev g 3 wk_m65 _ 0 [(0, .inr (.inr (.inl (some 259))))] [] (km_H h x a s k v)
  refine km_s0 hg hx hn hnt ht hb (Nat.le_refl _) (n - a) a rfl ha ?_
  exact km_st1 hg hx hn hnt ht hb (Nat.le_refl _) (kp_start_le ha).2 ⟨rfl, rfl⟩
end
section
-- 86.z2
/-! ===== tokens alike: the class's and the reference's ===== -/
def kp_c2 (f : Nat → Nat) : Nat → Nat
  | 0 => 0
  | m + 1 => 32 * kp_c2 f m + (f m - 96)
def kp_K (i : Nat) : Nat := kp_c2 (kp_ch i) (ks_L i)
theorem kq_con {f g : Nat → Nat} : ∀ m, (∀ j, j < m → f j = g j) → kp_c2 f m = kp_c2 g m
  | 0, _ => rfl
  | m + 1, h => by
    show 32 * kp_c2 f m + (f m - 96) = 32 * kp_c2 g m + (g m - 96)
    rw [kq_con m (fun j hj => h j (by omega)), h m (by omega)]
theorem kq_inj {f g : Nat → Nat} : ∀ m m', (∀ j, j < m → 97 ≤ f j ∧ f j ≤ 122) → (∀ j, j < m' → 97 ≤ g j ∧ g j ≤ 122) → kp_c2 f m = kp_c2 g m' → m = m' ∧ ∀ j, j < m → f j = g j
  | 0, 0, _, _, _ => ⟨rfl, fun j hj => by omega⟩
  | 0, m' + 1, _, hg, h => by
    have h : 0 = 32 * kp_c2 g m' + (g m' - 96) := h
    have := hg m' (by omega)
    omega
  | m + 1, 0, hf, _, h => by
    have h : 32 * kp_c2 f m + (f m - 96) = 0 := h
    have := hf m (by omega)
    omega
  | m + 1, m' + 1, hf, hg, h => by
    have h : 32 * kp_c2 f m + (f m - 96) = 32 * kp_c2 g m' + (g m' - 96) := h
    have h1 := hf m (by omega)
    have h2 := hg m' (by omega)
    obtain ⟨e1, e2⟩ := kq_inj m m' (fun j hj => hf j (by omega)) (fun j hj => hg j (by omega)) (by omega)
    refine ⟨by omega, fun j hj => ?_⟩
    by_cases hj2 : j = m
    · subst hj2
      subst e1
      omega
    · exact e2 j (by omega)
theorem kq_cd {t : Nat → Nat} {s : Nat} : ∀ m a, s ≤ a → kp_skip kp_let t m a - s ≤ 6 → kp_cd t s m a (kp_c2 (fun j => t (s + j)) (a - s)) = kp_c2 (fun j => t (s + j)) (kp_skip kp_let t m a - s)
  | 0, a, _, _ => rfl
  | m + 1, a, hs, he => by
    have he : (bif kp_let (t a) then kp_skip kp_let t m (a + 1) else a) - s ≤ 6 := he
    show (bif kp_let (t a) then kp_cd t s m (a + 1) (if a - s ≤ 6 then 32 * kp_c2 (fun j => t (s + j)) (a - s) + t a - 96 else 0) else kp_c2 (fun j => t (s + j)) (a - s)) = kp_c2 (fun j => t (s + j)) ((bif kp_let (t a) then kp_skip kp_let t m (a + 1) else a) - s)
    cases e : kp_let (t a) with
    | false => rfl
    | true =>
      rw [e] at he
      have he : kp_skip kp_let t m (a + 1) - s ≤ 6 := he
      have h1 := kp_skip_le kp_let t m (a + 1)
      have h2 : 97 ≤ t a ∧ t a ≤ 122 := of_decide_eq_true e
      have h3 := kq_cd m (a + 1) (by omega) he
      have h4 : kp_c2 (fun j => t (s + j)) (a + 1 - s) = 32 * kp_c2 (fun j => t (s + j)) (a - s) + t a - 96 := by
        rw [show a + 1 - s = (a - s) + 1 from by omega]
        show 32 * kp_c2 (fun j => t (s + j)) (a - s) + (t (s + (a - s)) - 96) = _
        rw [show s + (a - s) = a from by omega]
        omega
      rw [h4] at h3
      rw [if_pos (by omega)]
      exact h3
theorem kq_m {t : Nat → Nat} {i s : Nat} : ∀ m j, kp_m t i s m j = true ↔ ∀ x, j ≤ x → x < j + m → t (s + x) = kp_ch i x
  | 0, j => ⟨fun _ x h1 h2 => by omega, fun _ => rfl⟩
  | m + 1, j => by
    show (bif decide (t (s + j) = kp_ch i j) then kp_m t i s m (j + 1) else false) = true ↔ _
    by_cases e : t (s + j) = kp_ch i j
    · rw [decide_eq_true e]
      refine (kq_m m (j + 1)).trans ⟨fun h x h1 h2 => ?_, fun h x h1 h2 => h x (by omega) (by omega)⟩
      by_cases q : x = j
      · rw [q]; exact e
      · exact h x (by omega) (by omega)
    · rw [decide_eq_false e]
      exact ⟨fun h => (by cases h), fun h => absurd (h j (Nat.le_refl _) (by omega)) e⟩
theorem kq_ch : ∀ i, i < 18 → (ks_L i ≤ 6 ∧ ∀ j, j < ks_L i → 97 ≤ kp_ch i j ∧ kp_ch i j ≤ 122) := by decide +kernel
/-- a text stands here just if the word has its number -/
theorem kq_is {t : Nat → Nat} {n S i : Nat} (hi : i < 18) : kp_is t (kp_skip kp_let t (n - S) S) 1 S i = (bif decide (kp_skip kp_let t (n - S) S - S ≤ 6) then decide (kp_cd t S (n - S) S 0 = kp_K i) else false) := by
  obtain ⟨hL, hch⟩ := kq_ch i hi
  have hse := kp_skip_le kp_let t (n - S) S
  have hall := kp_skip_all (P := kp_let) (t := t) (n - S) S
  have hcd := kq_cd (t := t) (s := S) (n - S) S (Nat.le_refl _)
  rw [Nat.sub_self] at hcd
  have hcd : kp_skip kp_let t (n - S) S - S ≤ 6 → kp_cd t S (n - S) S 0 = kp_c2 (fun j => t (S + j)) (kp_skip kp_let t (n - S) S - S) := hcd
  generalize kp_skip kp_let t (n - S) S = e at hse hall hcd ⊢
  generalize kp_cd t S (n - S) S 0 = w at hcd ⊢
  unfold kp_is
  rw [show decide (1 = 1) = true from rfl]
  by_cases h6 : e - S ≤ 6
  · rw [decide_eq_true h6]
    have hcd := hcd h6
    show (bif decide (e - S = ks_L i) then kp_m t i S (ks_L i) 0 else false) = decide (w = kp_K i)
    by_cases hl : e - S = ks_L i
    · rw [decide_eq_true hl]
      show kp_m t i S (ks_L i) 0 = decide (w = kp_K i)
      by_cases hw : w = kp_K i
      · rw [decide_eq_true hw, kq_m]
        intro x h1 h2
        rw [hcd] at hw
        exact (kq_inj _ _ (fun j hj => of_decide_eq_true (hall (S + j) (by omega) (by omega))) hch hw).2 x (by omega)
      · rw [decide_eq_false hw]
        refine Bool.eq_false_iff.mpr (fun hm => hw ?_)
        rw [hcd, hl]
        exact kq_con _ (fun j hj => (kq_m _ _).mp hm j (Nat.zero_le _) (by omega))
    · rw [decide_eq_false hl]
      refine (decide_eq_false (fun hw => hl ?_)).symm
      rw [hcd] at hw
      exact (kq_inj _ _ (fun j hj => of_decide_eq_true (hall (S + j) (by omega) (by omega))) hch hw).1
  · rw [decide_eq_false h6]
    show (bif decide (e - S = ks_L i) then kp_m t i S (ks_L i) 0 else false) = false
    rw [decide_eq_false (by omega)]
    rfl
theorem kq_no {t : Nat → Nat} {p k s : Nat} (hk : ¬ k = 1) (i : Nat) : kp_is t p k s i = false := by
  unfold kp_is
  rw [decide_eq_false hk]
  rfl
theorem kq_nov {t : Nat → Nat} {p k s : Nat} (hk : ¬ k = 1) : ∀ m f, kp_vb t p k s m f = none
  | 0, _ => rfl
  | m + 1, f => by
    show (bif kp_is t p k s (f + 2) then some f else kp_vb t p k s m (f + 1)) = none
    rw [kq_no hk]
    exact kq_nov hk m (f + 1)
theorem kq_noh {t : Nat → Nat} {p k s : Nat} (hk : ¬ k = 1) : kp_hd t p k s = none := by
  unfold kp_hd
  rw [kq_no hk, kq_no hk]
  rfl
theorem kq_Ks : [263748, 638164, 447877, 408612, 146930, 23609, 394661, 212548, 1643, 4785454, 659011763, 263623, 656741, 514226, 646192, 20594117, 150000, 239] = (List.range 18).map kp_K := by decide +kernel
theorem kq_K0 : kp_K 0 = 263748 := by decide +kernel
theorem kq_K1 : kp_K 1 = 638164 := by decide +kernel
theorem kq_K2 : kp_K 2 = 447877 := by decide +kernel
theorem kq_K3 : kp_K 3 = 408612 := by decide +kernel
theorem kq_K4 : kp_K 4 = 146930 := by decide +kernel
theorem kq_K5 : kp_K 5 = 23609 := by decide +kernel
theorem kq_K6 : kp_K 6 = 394661 := by decide +kernel
theorem kq_K7 : kp_K 7 = 212548 := by decide +kernel
theorem kq_K8 : kp_K 8 = 1643 := by decide +kernel
theorem kq_K9 : kp_K 9 = 4785454 := by decide +kernel
theorem kq_K10 : kp_K 10 = 659011763 := by decide +kernel
theorem kq_K11 : kp_K 11 = 263623 := by decide +kernel
theorem kq_K12 : kp_K 12 = 656741 := by decide +kernel
theorem kq_K13 : kp_K 13 = 514226 := by decide +kernel
theorem kq_K14 : kp_K 14 = 646192 := by decide +kernel
theorem kq_K15 : kp_K 15 = 20594117 := by decide +kernel
theorem kq_K16 : kp_K 16 = 150000 := by decide +kernel
theorem kq_K17 : kp_K 17 = 239 := by decide +kernel
theorem kq_w0 {w : Nat} : (bif decide (w = 447877) then some 0 else (bif decide (w = 408612) then some 1 else (bif decide (w = 146930) then some 2 else (bif decide (w = 23609) then some 3 else (bif decide (w = 394661) then some 4 else (bif decide (w = 212548) then some 5 else (bif decide (w = 1643) then some 6 else (bif decide (w = 4785454) then some 7 else (bif decide (w = 659011763) then some 8 else none))))))))) = (if 10 ≤ kp_wo w ∧ kp_wo w ≤ 18 then some (kp_wo w - 10) else none) := by
  by_cases e0 : w = 447877
  · subst e0; decide
  · skip
    by_cases e1 : w = 408612
    · subst e1; decide
    · skip
      by_cases e2 : w = 146930
      · subst e2; decide
      · skip
        by_cases e3 : w = 23609
        · subst e3; decide
        · skip
          by_cases e4 : w = 394661
          · subst e4; decide
          · skip
            by_cases e5 : w = 212548
            · subst e5; decide
            · skip
              by_cases e6 : w = 1643
              · subst e6; decide
              · skip
                by_cases e7 : w = 4785454
                · subst e7; decide
                · skip
                  by_cases e8 : w = 659011763
                  · subst e8; decide
                  · skip
                    by_cases e9 : w = 263623
                    · subst e9; decide
                    · skip
                      by_cases e10 : w = 656741
                      · subst e10; decide
                      · skip
                        by_cases e11 : w = 514226
                        · subst e11; decide
                        · skip
                          by_cases e12 : w = 646192
                          · subst e12; decide
                          · skip
                            by_cases e13 : w = 20594117
                            · subst e13; decide
                            · skip
                              by_cases e14 : w = 150000
                              · subst e14; decide
                              · skip
                                by_cases e15 : w = 239
                                · subst e15; decide
                                · skip
                                  by_cases e16 : w = 263748
                                  · subst e16; decide
                                  · skip
                                    by_cases e17 : w = 638164
                                    · subst e17; decide
                                    · skip
                                      simp [kp_wo, kp_wd, kp_wa, kp_wf, e0, e1, e2, e3, e4, e5, e6, e7, e8, e9, e10, e11, e12, e13, e14, e15, e16, e17]
theorem kq_w1 {w : Nat} : (bif decide (w = 263623) then some 9 else (bif decide (w = 656741) then some 10 else (bif decide (w = 514226) then some 11 else (bif decide (w = 646192) then some 12 else (bif decide (w = 20594117) then some 13 else (bif decide (w = 150000) then some 14 else (bif decide (w = 239) then some 15 else none))))))) = (if 20 ≤ kp_wo w ∧ kp_wo w ≤ 26 then some (kp_wo w - 11) else none) := by
  by_cases e0 : w = 447877
  · subst e0; decide
  · skip
    by_cases e1 : w = 408612
    · subst e1; decide
    · skip
      by_cases e2 : w = 146930
      · subst e2; decide
      · skip
        by_cases e3 : w = 23609
        · subst e3; decide
        · skip
          by_cases e4 : w = 394661
          · subst e4; decide
          · skip
            by_cases e5 : w = 212548
            · subst e5; decide
            · skip
              by_cases e6 : w = 1643
              · subst e6; decide
              · skip
                by_cases e7 : w = 4785454
                · subst e7; decide
                · skip
                  by_cases e8 : w = 659011763
                  · subst e8; decide
                  · skip
                    by_cases e9 : w = 263623
                    · subst e9; decide
                    · skip
                      by_cases e10 : w = 656741
                      · subst e10; decide
                      · skip
                        by_cases e11 : w = 514226
                        · subst e11; decide
                        · skip
                          by_cases e12 : w = 646192
                          · subst e12; decide
                          · skip
                            by_cases e13 : w = 20594117
                            · subst e13; decide
                            · skip
                              by_cases e14 : w = 150000
                              · subst e14; decide
                              · skip
                                by_cases e15 : w = 239
                                · subst e15; decide
                                · skip
                                  by_cases e16 : w = 263748
                                  · subst e16; decide
                                  · skip
                                    by_cases e17 : w = 638164
                                    · subst e17; decide
                                    · skip
                                      simp [kp_wo, kp_wd, kp_wa, kp_wf, e0, e1, e2, e3, e4, e5, e6, e7, e8, e9, e10, e11, e12, e13, e14, e15, e16, e17]
theorem kq_w2 {w : Nat} : (bif decide (w = 263748) then some 1 else bif decide (w = 638164) then some 0 else none) = (if kp_wo w = 5 then some 1 else if kp_wo w = 4 then some 0 else none) := by
  by_cases e0 : w = 447877
  · subst e0; decide
  · skip
    by_cases e1 : w = 408612
    · subst e1; decide
    · skip
      by_cases e2 : w = 146930
      · subst e2; decide
      · skip
        by_cases e3 : w = 23609
        · subst e3; decide
        · skip
          by_cases e4 : w = 394661
          · subst e4; decide
          · skip
            by_cases e5 : w = 212548
            · subst e5; decide
            · skip
              by_cases e6 : w = 1643
              · subst e6; decide
              · skip
                by_cases e7 : w = 4785454
                · subst e7; decide
                · skip
                  by_cases e8 : w = 659011763
                  · subst e8; decide
                  · skip
                    by_cases e9 : w = 263623
                    · subst e9; decide
                    · skip
                      by_cases e10 : w = 656741
                      · subst e10; decide
                      · skip
                        by_cases e11 : w = 514226
                        · subst e11; decide
                        · skip
                          by_cases e12 : w = 646192
                          · subst e12; decide
                          · skip
                            by_cases e13 : w = 20594117
                            · subst e13; decide
                            · skip
                              by_cases e14 : w = 150000
                              · subst e14; decide
                              · skip
                                by_cases e15 : w = 239
                                · subst e15; decide
                                · skip
                                  by_cases e16 : w = 263748
                                  · subst e16; decide
                                  · skip
                                    by_cases e17 : w = 638164
                                    · subst e17; decide
                                    · skip
                                      simp [kp_wo, kp_wd, kp_wa, kp_wf, e0, e1, e2, e3, e4, e5, e6, e7, e8, e9, e10, e11, e12, e13, e14, e15, e16, e17]
theorem kq_w3 {w : Nat} : kp_wo w < 27 ∧ ¬ kp_wo w = 0 ∧ ¬ kp_wo w = 2 ∧ ¬ kp_wo w = 3 := by
  by_cases e0 : w = 447877
  · subst e0; decide
  · skip
    by_cases e1 : w = 408612
    · subst e1; decide
    · skip
      by_cases e2 : w = 146930
      · subst e2; decide
      · skip
        by_cases e3 : w = 23609
        · subst e3; decide
        · skip
          by_cases e4 : w = 394661
          · subst e4; decide
          · skip
            by_cases e5 : w = 212548
            · subst e5; decide
            · skip
              by_cases e6 : w = 1643
              · subst e6; decide
              · skip
                by_cases e7 : w = 4785454
                · subst e7; decide
                · skip
                  by_cases e8 : w = 659011763
                  · subst e8; decide
                  · skip
                    by_cases e9 : w = 263623
                    · subst e9; decide
                    · skip
                      by_cases e10 : w = 656741
                      · subst e10; decide
                      · skip
                        by_cases e11 : w = 514226
                        · subst e11; decide
                        · skip
                          by_cases e12 : w = 646192
                          · subst e12; decide
                          · skip
                            by_cases e13 : w = 20594117
                            · subst e13; decide
                            · skip
                              by_cases e14 : w = 150000
                              · subst e14; decide
                              · skip
                                by_cases e15 : w = 239
                                · subst e15; decide
                                · skip
                                  by_cases e16 : w = 263748
                                  · subst e16; decide
                                  · skip
                                    by_cases e17 : w = 638164
                                    · subst e17; decide
                                    · skip
                                      simp [kp_wo, kp_wd, kp_wa, kp_wf, e0, e1, e2, e3, e4, e5, e6, e7, e8, e9, e10, e11, e12, e13, e14, e15, e16, e17]
theorem kq_u0 {t : Nat → Nat} {n S : Nat} : kp_vb t (kp_skip kp_let t (n - S) S) 1 S 9 0 = (bif decide (kp_skip kp_let t (n - S) S - S ≤ 6) then (match kp_cd t S (n - S) S 0 with
  | w => (bif decide (w = 447877) then some 0 else (bif decide (w = 408612) then some 1 else (bif decide (w = 146930) then some 2 else (bif decide (w = 23609) then some 3 else (bif decide (w = 394661) then some 4 else (bif decide (w = 212548) then some 5 else (bif decide (w = 1643) then some 6 else (bif decide (w = 4785454) then some 7 else (bif decide (w = 659011763) then some 8 else none)))))))))) else none) := by
  show (bif kp_is t _ 1 S 2 then some 0 else bif kp_is t _ 1 S 3 then some 1 else bif kp_is t _ 1 S 4 then some 2 else bif kp_is t _ 1 S 5 then some 3 else bif kp_is t _ 1 S 6 then some 4 else bif kp_is t _ 1 S 7 then some 5 else bif kp_is t _ 1 S 8 then some 6 else bif kp_is t _ 1 S 9 then some 7 else bif kp_is t _ 1 S 10 then some 8 else none) = _
  rw [kq_is (i := 2) (by decide), kq_is (i := 3) (by decide), kq_is (i := 4) (by decide), kq_is (i := 5) (by decide), kq_is (i := 6) (by decide), kq_is (i := 7) (by decide), kq_is (i := 8) (by decide), kq_is (i := 9) (by decide), kq_is (i := 10) (by decide)]
  cases decide (kp_skip kp_let t (n - S) S - S ≤ 6) with
  | false => rfl
  | true => rw [kq_K2, kq_K3, kq_K4, kq_K5, kq_K6, kq_K7, kq_K8, kq_K9, kq_K10]; rfl
theorem kq_u1 {t : Nat → Nat} {n S : Nat} : kp_vb t (kp_skip kp_let t (n - S) S) 1 S 7 9 = (bif decide (kp_skip kp_let t (n - S) S - S ≤ 6) then (match kp_cd t S (n - S) S 0 with
  | w => (bif decide (w = 263623) then some 9 else (bif decide (w = 656741) then some 10 else (bif decide (w = 514226) then some 11 else (bif decide (w = 646192) then some 12 else (bif decide (w = 20594117) then some 13 else (bif decide (w = 150000) then some 14 else (bif decide (w = 239) then some 15 else none)))))))) else none) := by
  show (bif kp_is t _ 1 S 11 then some 9 else bif kp_is t _ 1 S 12 then some 10 else bif kp_is t _ 1 S 13 then some 11 else bif kp_is t _ 1 S 14 then some 12 else bif kp_is t _ 1 S 15 then some 13 else bif kp_is t _ 1 S 16 then some 14 else bif kp_is t _ 1 S 17 then some 15 else none) = _
  rw [kq_is (i := 11) (by decide), kq_is (i := 12) (by decide), kq_is (i := 13) (by decide), kq_is (i := 14) (by decide), kq_is (i := 15) (by decide), kq_is (i := 16) (by decide), kq_is (i := 17) (by decide)]
  cases decide (kp_skip kp_let t (n - S) S - S ≤ 6) with
  | false => rfl
  | true => rw [kq_K11, kq_K12, kq_K13, kq_K14, kq_K15, kq_K16, kq_K17]; rfl
theorem kq_u2 {t : Nat → Nat} {n S : Nat} : kp_hd t (kp_skip kp_let t (n - S) S) 1 S = (bif decide (kp_skip kp_let t (n - S) S - S ≤ 6) then (match kp_cd t S (n - S) S 0 with
  | w => (bif decide (w = 263748) then some 1 else bif decide (w = 638164) then some 0 else none)) else none) := by
  unfold kp_hd
  rw [kq_is (i := 0) (by decide), kq_is (i := 1) (by decide)]
  cases decide (kp_skip kp_let t (n - S) S - S ≤ 6) with
  | false => rfl
  | true => rw [kq_K0, kq_K1]; rfl
theorem kq_t0 {t : Nat → Nat} {n S : Nat} : kp_vb t (kp_nx t n S) (kp_kd t n S) S 9 0 = (if 10 ≤ kp_tk t n S ∧ kp_tk t n S ≤ 18 then some (kp_tk t n S - 10) else none) := by
  unfold kp_nx kp_kd kp_tk
  by_cases h0 : n ≤ S
  · rw [if_pos h0, if_pos h0, if_pos h0, kq_nov (by decide)]
    decide
  · rw [if_neg h0, if_neg h0, if_neg h0]
    cases h1 : kp_let (t S) with
    | true =>
      simp only [↓reduceIte]
      rw [kq_u0]
      by_cases h6 : kp_skip kp_let t (n - S) S - S ≤ 6
      · rw [decide_eq_true h6, if_pos h6]
        exact kq_w0
      · rw [decide_eq_false h6, if_neg h6]
        rfl
    | false =>
      simp only [↓reduceIte, Bool.false_eq_true]
      cases h2 : kp_fig (t S) with
      | true =>
        simp only [↓reduceIte]
        by_cases h3 : kp_skip kp_fig t (n - S) S - S ≤ 3
        · rw [if_pos h3, if_pos h3, kq_nov (by decide)]
          decide
        · rw [if_neg h3, if_neg h3, kq_nov (by decide)]
          decide
      | false =>
        simp only [↓reduceIte, Bool.false_eq_true]
        by_cases h3 : t S = 59
        · rw [if_pos h3, if_pos h3, kq_nov (by decide)]
          decide
        · rw [if_neg h3, if_neg h3, kq_nov (by decide)]
          decide
theorem kq_t1 {t : Nat → Nat} {n S : Nat} : kp_vb t (kp_nx t n S) (kp_kd t n S) S 7 9 = (if 20 ≤ kp_tk t n S ∧ kp_tk t n S ≤ 26 then some (kp_tk t n S - 11) else none) := by
  unfold kp_nx kp_kd kp_tk
  by_cases h0 : n ≤ S
  · rw [if_pos h0, if_pos h0, if_pos h0, kq_nov (by decide)]
    decide
  · rw [if_neg h0, if_neg h0, if_neg h0]
    cases h1 : kp_let (t S) with
    | true =>
      simp only [↓reduceIte]
      rw [kq_u1]
      by_cases h6 : kp_skip kp_let t (n - S) S - S ≤ 6
      · rw [decide_eq_true h6, if_pos h6]
        exact kq_w1
      · rw [decide_eq_false h6, if_neg h6]
        rfl
    | false =>
      simp only [↓reduceIte, Bool.false_eq_true]
      cases h2 : kp_fig (t S) with
      | true =>
        simp only [↓reduceIte]
        by_cases h3 : kp_skip kp_fig t (n - S) S - S ≤ 3
        · rw [if_pos h3, if_pos h3, kq_nov (by decide)]
          decide
        · rw [if_neg h3, if_neg h3, kq_nov (by decide)]
          decide
      | false =>
        simp only [↓reduceIte, Bool.false_eq_true]
        by_cases h3 : t S = 59
        · rw [if_pos h3, if_pos h3, kq_nov (by decide)]
          decide
        · rw [if_neg h3, if_neg h3, kq_nov (by decide)]
          decide
theorem kq_t2 {t : Nat → Nat} {n S : Nat} : kp_hd t (kp_nx t n S) (kp_kd t n S) S = (if kp_tk t n S = 5 then some 1 else if kp_tk t n S = 4 then some 0 else none) := by
  unfold kp_nx kp_kd kp_tk
  by_cases h0 : n ≤ S
  · rw [if_pos h0, if_pos h0, if_pos h0, kq_noh (by decide)]
    decide
  · rw [if_neg h0, if_neg h0, if_neg h0]
    cases h1 : kp_let (t S) with
    | true =>
      simp only [↓reduceIte]
      rw [kq_u2]
      by_cases h6 : kp_skip kp_let t (n - S) S - S ≤ 6
      · rw [decide_eq_true h6, if_pos h6]
        exact kq_w2
      · rw [decide_eq_false h6, if_neg h6]
        rfl
    | false =>
      simp only [↓reduceIte, Bool.false_eq_true]
      cases h2 : kp_fig (t S) with
      | true =>
        simp only [↓reduceIte]
        by_cases h3 : kp_skip kp_fig t (n - S) S - S ≤ 3
        · rw [if_pos h3, if_pos h3, kq_noh (by decide)]
          decide
        · rw [if_neg h3, if_neg h3, kq_noh (by decide)]
          decide
      | false =>
        simp only [↓reduceIte, Bool.false_eq_true]
        by_cases h3 : t S = 59
        · rw [if_pos h3, if_pos h3, kq_noh (by decide)]
          decide
        · rw [if_neg h3, if_neg h3, kq_noh (by decide)]
          decide
theorem kq_vl {t : Nat → Nat} {s : Nat} : ∀ m a v, s ≤ a → kp_skip kp_fig t m a - s ≤ 3 → kp_vl t s m a v = kp_nv t (kp_skip kp_fig t m a - a) a v
  | 0, a, v, _, _ => by
    show v = kp_nv t (a - a) a v
    rw [Nat.sub_self]
    rfl
  | m + 1, a, v, hs, he => by
    have he : (bif kp_fig (t a) then kp_skip kp_fig t m (a + 1) else a) - s ≤ 3 := he
    show (bif kp_fig (t a) then kp_vl t s m (a + 1) (if 3 ≤ a - s then v else 10 * v + t a - 48) else v) = kp_nv t ((bif kp_fig (t a) then kp_skip kp_fig t m (a + 1) else a) - a) a v
    cases e : kp_fig (t a) with
    | false =>
      show v = kp_nv t (a - a) a v
      rw [Nat.sub_self]
      rfl
    | true =>
      rw [e] at he
      have he : kp_skip kp_fig t m (a + 1) - s ≤ 3 := he
      have h1 := kp_skip_le kp_fig t m (a + 1)
      show kp_vl t s m (a + 1) (if 3 ≤ a - s then v else 10 * v + t a - 48) = kp_nv t (kp_skip kp_fig t m (a + 1) - a) a v
      rw [if_neg (by omega), kq_vl m (a + 1) _ (by omega) he]
      rw [show kp_skip kp_fig t m (a + 1) - a = (kp_skip kp_fig t m (a + 1) - (a + 1)) + 1 from by omega]
      rfl
/-- kinds and tokens -/
theorem kq_k {t : Nat → Nat} {n S : Nat} : (kp_kd t n S = 0 ↔ kp_tk t n S = 0) ∧ (kp_kd t n S = 2 ↔ kp_tk t n S = 2) ∧ (kp_kd t n S = 3 ↔ kp_tk t n S = 3) ∧ kp_tk t n S < 27 := by
  unfold kp_kd kp_tk
  by_cases h0 : n ≤ S
  · rw [if_pos h0, if_pos h0]; decide
  · rw [if_neg h0, if_neg h0]
    cases h1 : kp_let (t S) with
    | true =>
      simp only [↓reduceIte]
      by_cases h6 : kp_skip kp_let t (n - S) S - S ≤ 6
      · rw [if_pos h6]
        obtain ⟨a1, a2, a3, a4⟩ := kq_w3 (w := kp_cd t S (n - S) S 0)
        exact ⟨⟨fun h => (by cases h), fun h => absurd h a2⟩, ⟨fun h => (by cases h), fun h => absurd h a3⟩, ⟨fun h => (by cases h), fun h => absurd h a4⟩, a1⟩
      · rw [if_neg h6]; decide
    | false =>
      simp only [↓reduceIte, Bool.false_eq_true]
      cases h2 : kp_fig (t S) with
      | true =>
        simp only [↓reduceIte]
        by_cases h3 : kp_skip kp_fig t (n - S) S - S ≤ 3
        · rw [if_pos h3, if_pos h3]; decide
        · rw [if_neg h3, if_neg h3]; decide
      | false =>
        simp only [↓reduceIte, Bool.false_eq_true]
        by_cases h3 : t S = 59
        · rw [if_pos h3, if_pos h3]; decide
        · rw [if_neg h3, if_neg h3]; decide
theorem kq_v {t : Nat → Nat} {n S v : Nat} (hk : kp_kd t n S = 2) : kp_nh t (kp_nx t n S) (kp_kd t n S) S = some (kp_vv t n S v) := by
  have h3 := kp_k2 hk
  unfold kp_nh
  rw [if_pos hk]
  unfold kp_kd at hk
  unfold kp_nx at h3 ⊢
  unfold kp_vv
  split at hk
  · cases hk
  · rename_i g0
    rw [if_neg g0] at h3 ⊢
    rw [if_neg g0]
    split at hk
    · cases hk
    · rename_i g1
      rw [if_neg g1] at h3 ⊢
      rw [if_neg g1]
      split at hk
      · rename_i g2
        rw [if_pos g2] at h3 ⊢
        rw [if_pos g2, kq_vl _ _ _ (Nat.le_refl _) h3]
      · split at hk <;> cases hk
theorem kq_nv {t : Nat → Nat} {n S : Nat} (hk : ¬ kp_kd t n S = 2) : kp_nh t (kp_nx t n S) (kp_kd t n S) S = none := if_neg hk
end
section
-- 86.z3
/-! ===== by hand: the numbers of an item, the reference ===== -/
def kmj (h : kc_H) (it : Nat) : kc_H := fun c b => if c = 259 then (if b = 11 then .inr (.inr (.inl (some 264))) else if b = 12 then .inr (.inr (.inl (some 265))) else if b = 13 then .inl (Int32.ofNat it) else h 259 b) else h c b
theorem kmj_o {h : kc_H} {it a b : Nat} (ha : ¬ a = 259) : kmj h it a b = h a b := if_neg ha
theorem kmj_u {h : kc_H} {it x a s k v c b : Nat} {w : kc_V} (hc : ¬ c = 259) : kc_upd (km_H (kmj h it) x a s k v) c b w = km_H (kmj (kc_upd h c b w) it) x a s k v := by
  funext y z
  unfold kc_upd km_H kmj
  by_cases hy : y = 259
  · have hyc : ¬ 259 = c := fun e => hc e.symm
    simp [hy, hyc]
  · simp [hy]
theorem kmj_13 {h : kc_H} {it it' x a s k v : Nat} : kc_upd (km_H (kmj h it) x a s k v) 259 13 (.inl (Int32.ofNat it')) = km_H (kmj h it') x a s k v := by
  funext c b
  unfold kc_upd km_H kmj
  by_cases hc : c = 259
  · by_cases hb : b = 13
    · simp [hc, hb]
    · simp [hc, hb]
  · simp [hc]
/-- the reference's number of a verb -/
def kp_tv (v : Nat) : Nat := if v < 9 then v + 10 else v + 11
theorem km_sh : ∀ v, v < 16 → ∀ j, j < ks_L (kp_sh v) → (kp_ch (kp_sh v) j = 104 ↔ v = 1 ∧ j = 1) := by decide +kernel
set_option maxRecDepth 20000 in
theorem km_num {g : kc_G} {d : Nat} {h : kc_H} (hg : kc_ok g) : ∀ v : Nat, v < 16 → kc_Con g (d + 1) 234 [.inl (Int32.ofNat (kp_tv v))] h (fun rv h' => rv = some (.inl (Int32.ofNat (ks_L (kp_sh v)))) ∧ h' = h)
  | 0, _ => by
    refine kc_Con_new hg (M := wk_m234) rfl rfl rfl (show 1 ≤ 1 by decide) ?_
    refine kx_go 3 (pc' := 85) (L' := [(0, .inl (Int32.ofNat 10))]) (S' := [.inl (Int32.ofNat 3)]) (h' := h) (by with_unfolding_all rfl) ?_
    exact kc_ret_ok rfl (rv := some (.inl (Int32.ofNat 3))) rfl ⟨rfl, rfl⟩
  | 1, _ => by
    refine kc_Con_new hg (M := wk_m234) rfl rfl rfl (show 1 ≤ 1 by decide) ?_
    refine kx_go 3 (pc' := 87) (L' := [(0, .inl (Int32.ofNat 11))]) (S' := [.inl (Int32.ofNat 4)]) (h' := h) (by with_unfolding_all rfl) ?_
    exact kc_ret_ok rfl (rv := some (.inl (Int32.ofNat 4))) rfl ⟨rfl, rfl⟩
  | 2, _ => by
    refine kc_Con_new hg (M := wk_m234) rfl rfl rfl (show 1 ≤ 1 by decide) ?_
    refine kx_go 3 (pc' := 91) (L' := [(0, .inl (Int32.ofNat 12))]) (S' := [.inl (Int32.ofNat 0)]) (h' := h) (by with_unfolding_all rfl) ?_
    exact kc_ret_ok rfl (rv := some (.inl (Int32.ofNat 0))) rfl ⟨rfl, rfl⟩
  | 3, _ => by
    refine kc_Con_new hg (M := wk_m234) rfl rfl rfl (show 1 ≤ 1 by decide) ?_
    refine kx_go 3 (pc' := 85) (L' := [(0, .inl (Int32.ofNat 13))]) (S' := [.inl (Int32.ofNat 3)]) (h' := h) (by with_unfolding_all rfl) ?_
    exact kc_ret_ok rfl (rv := some (.inl (Int32.ofNat 3))) rfl ⟨rfl, rfl⟩
  | 4, _ => by
    refine kc_Con_new hg (M := wk_m234) rfl rfl rfl (show 1 ≤ 1 by decide) ?_
    refine kx_go 3 (pc' := 85) (L' := [(0, .inl (Int32.ofNat 14))]) (S' := [.inl (Int32.ofNat 3)]) (h' := h) (by with_unfolding_all rfl) ?_
    exact kc_ret_ok rfl (rv := some (.inl (Int32.ofNat 3))) rfl ⟨rfl, rfl⟩
  | 5, _ => by
    refine kc_Con_new hg (M := wk_m234) rfl rfl rfl (show 1 ≤ 1 by decide) ?_
    refine kx_go 3 (pc' := 89) (L' := [(0, .inl (Int32.ofNat 15))]) (S' := [.inl (Int32.ofNat 1)]) (h' := h) (by with_unfolding_all rfl) ?_
    exact kc_ret_ok rfl (rv := some (.inl (Int32.ofNat 1))) rfl ⟨rfl, rfl⟩
  | 6, _ => by
    refine kc_Con_new hg (M := wk_m234) rfl rfl rfl (show 1 ≤ 1 by decide) ?_
    refine kx_go 3 (pc' := 93) (L' := [(0, .inl (Int32.ofNat 16))]) (S' := [.inl (Int32.ofNat 2)]) (h' := h) (by with_unfolding_all rfl) ?_
    exact kc_ret_ok rfl (rv := some (.inl (Int32.ofNat 2))) rfl ⟨rfl, rfl⟩
  | 7, _ => by
    refine kc_Con_new hg (M := wk_m234) rfl rfl rfl (show 1 ≤ 1 by decide) ?_
    refine kx_go 3 (pc' := 93) (L' := [(0, .inl (Int32.ofNat 17))]) (S' := [.inl (Int32.ofNat 2)]) (h' := h) (by with_unfolding_all rfl) ?_
    exact kc_ret_ok rfl (rv := some (.inl (Int32.ofNat 2))) rfl ⟨rfl, rfl⟩
  | 8, _ => by
    refine kc_Con_new hg (M := wk_m234) rfl rfl rfl (show 1 ≤ 1 by decide) ?_
    refine kx_go 3 (pc' := 93) (L' := [(0, .inl (Int32.ofNat 18))]) (S' := [.inl (Int32.ofNat 2)]) (h' := h) (by with_unfolding_all rfl) ?_
    exact kc_ret_ok rfl (rv := some (.inl (Int32.ofNat 2))) rfl ⟨rfl, rfl⟩
  | 9, _ => by
    refine kc_Con_new hg (M := wk_m234) rfl rfl rfl (show 1 ≤ 1 by decide) ?_
    refine kx_go 3 (pc' := 85) (L' := [(0, .inl (Int32.ofNat 20))]) (S' := [.inl (Int32.ofNat 3)]) (h' := h) (by with_unfolding_all rfl) ?_
    exact kc_ret_ok rfl (rv := some (.inl (Int32.ofNat 3))) rfl ⟨rfl, rfl⟩
  | 10, _ => by
    refine kc_Con_new hg (M := wk_m234) rfl rfl rfl (show 1 ≤ 1 by decide) ?_
    refine kx_go 3 (pc' := 93) (L' := [(0, .inl (Int32.ofNat 21))]) (S' := [.inl (Int32.ofNat 2)]) (h' := h) (by with_unfolding_all rfl) ?_
    exact kc_ret_ok rfl (rv := some (.inl (Int32.ofNat 2))) rfl ⟨rfl, rfl⟩
  | 11, _ => by
    refine kc_Con_new hg (M := wk_m234) rfl rfl rfl (show 1 ≤ 1 by decide) ?_
    refine kx_go 3 (pc' := 93) (L' := [(0, .inl (Int32.ofNat 22))]) (S' := [.inl (Int32.ofNat 2)]) (h' := h) (by with_unfolding_all rfl) ?_
    exact kc_ret_ok rfl (rv := some (.inl (Int32.ofNat 2))) rfl ⟨rfl, rfl⟩
  | 12, _ => by
    refine kc_Con_new hg (M := wk_m234) rfl rfl rfl (show 1 ≤ 1 by decide) ?_
    refine kx_go 3 (pc' := 87) (L' := [(0, .inl (Int32.ofNat 23))]) (S' := [.inl (Int32.ofNat 4)]) (h' := h) (by with_unfolding_all rfl) ?_
    exact kc_ret_ok rfl (rv := some (.inl (Int32.ofNat 4))) rfl ⟨rfl, rfl⟩
  | 13, _ => by
    refine kc_Con_new hg (M := wk_m234) rfl rfl rfl (show 1 ≤ 1 by decide) ?_
    refine kx_go 3 (pc' := 93) (L' := [(0, .inl (Int32.ofNat 24))]) (S' := [.inl (Int32.ofNat 2)]) (h' := h) (by with_unfolding_all rfl) ?_
    exact kc_ret_ok rfl (rv := some (.inl (Int32.ofNat 2))) rfl ⟨rfl, rfl⟩
  | 14, _ => by
    refine kc_Con_new hg (M := wk_m234) rfl rfl rfl (show 1 ≤ 1 by decide) ?_
    refine kx_go 3 (pc' := 93) (L' := [(0, .inl (Int32.ofNat 25))]) (S' := [.inl (Int32.ofNat 2)]) (h' := h) (by with_unfolding_all rfl) ?_
    exact kc_ret_ok rfl (rv := some (.inl (Int32.ofNat 2))) rfl ⟨rfl, rfl⟩
  | 15, _ => by
    refine kc_Con_new hg (M := wk_m234) rfl rfl rfl (show 1 ≤ 1 by decide) ?_
    refine kx_go 3 (pc' := 89) (L' := [(0, .inl (Int32.ofNat 26))]) (S' := [.inl (Int32.ofNat 1)]) (h' := h) (by with_unfolding_all rfl) ?_
    exact kc_ret_ok rfl (rv := some (.inl (Int32.ofNat 1))) rfl ⟨rfl, rfl⟩
  | v + 16, hv => absurd hv (by omega)
theorem kp_vl_lt {t : Nat → Nat} {s : Nat} : ∀ m a v, s ≤ a → (a - s ≤ 3 → v < 10 ^ (a - s)) → v < 1000 → kp_vl t s m a v < 1000
  | 0, a, v, _, _, hv => hv
  | m + 1, a, v, hs, h1, hv => by
    show (bif kp_fig (t a) then kp_vl t s m (a + 1) (if 3 ≤ a - s then v else 10 * v + t a - 48) else v) < 1000
    cases e : kp_fig (t a) with
    | false => exact hv
    | true =>
      have h2 : 48 ≤ t a ∧ t a ≤ 57 := of_decide_eq_true e
      by_cases h3 : 3 ≤ a - s
      · rw [if_pos h3]
        exact kp_vl_lt m (a + 1) v (by omega) (fun q => by omega) hv
      · rw [if_neg h3]
        have h4 := h1 (by omega)
        have h5 : 10 * v + t a - 48 < 10 ^ (a + 1 - s) := by
          rw [show a + 1 - s = (a - s) + 1 from by omega, Nat.pow_succ]
          generalize 10 ^ (a - s) = y at h4 ⊢
          omega
        refine kp_vl_lt m (a + 1) _ (by omega) (fun _ => h5) (Nat.lt_of_lt_of_le h5 ?_)
        have : 10 ^ (a + 1 - s) ≤ 10 ^ 3 := Nat.pow_le_pow_right (by decide) (by omega)
        exact this
theorem kp_vv_lt {t : Nat → Nat} {n S v : Nat} (hv : v < 1000) : kp_vv t n S v < 1000 := by
  unfold kp_vv
  split
  · exact hv
  · split
    · exact hv
    · split
      · exact kp_vl_lt _ _ _ (Nat.le_refl _) (fun _ => Nat.pow_pos (by decide)) (by decide)
      · exact hv
/-- numbers written -/
def km_nw : kc_H → Nat → Nat → List Nat → kc_H
  | h, _, _, [] => h
  | h, it, j, v :: vs => km_nw (kc_upd h 265 (5 * it + j) (.inl (Int32.ofNat v))) it (j + 1) vs
def km_n1 (h : kc_H) (it : Nat) (q : Nat × List Nat) : kc_H := kc_upd (km_nw h it 0 q.2) 264 it (.inl (Int32.ofNat (kp_tv q.1)))
def km_ns : kc_H → Nat → List (Nat × List Nat) → kc_H
  | h, _, [] => h
  | h, it, q :: l => km_ns (km_n1 h it q) (it + 1) l
/-- only numbers and verbs have changed, within bounds -/
def km_D (h h2 : kc_H) : Prop := ∀ a b, h2 a b = h a b ∨ (a = 265 ∧ b < 300 ∧ ∃ v, v < 1000 ∧ h2 a b = .inl (Int32.ofNat v)) ∨ (a = 264 ∧ b < 60 ∧ ∃ v, v < 27 ∧ h2 a b = .inl (Int32.ofNat v))
theorem km_D_rf {h : kc_H} : km_D h h := fun _ _ => Or.inl rfl
theorem km_D_tr {h h1 h2 : kc_H} (a1 : km_D h h1) (a2 : km_D h1 h2) : km_D h h2 := fun a b => by
  rcases a2 a b with e | e | e
  · rcases a1 a b with q | ⟨q1, q0, v, q3, q4⟩ | ⟨q1, q0, v, q3, q4⟩
    · exact Or.inl (e.trans q)
    · exact Or.inr (Or.inl ⟨q1, q0, v, q3, e.trans q4⟩)
    · exact Or.inr (Or.inr ⟨q1, q0, v, q3, e.trans q4⟩)
  · exact Or.inr (Or.inl e)
  · exact Or.inr (Or.inr e)
theorem km_D_n {h h2 : kc_H} {a b : Nat} (hh : km_D h h2) (h1 : ¬ a = 264) (h3 : ¬ a = 265) : h2 a b = h a b := by
  rcases hh a b with e | e | e
  · exact e
  · exact absurd e.1 h3
  · exact absurd e.1 h1
theorem km_D_u5 {h : kc_H} {b v : Nat} (hb : b < 300) (hv : v < 1000) : km_D h (kc_upd h 265 b (.inl (Int32.ofNat v))) := fun x y => by
  unfold kc_upd
  split
  · rename_i e
    exact Or.inr (Or.inl ⟨e.1, by omega, v, hv, rfl⟩)
  · exact Or.inl rfl
theorem km_D_u4 {h : kc_H} {b v : Nat} (hb : b < 60) (hv : v < 27) : km_D h (kc_upd h 264 b (.inl (Int32.ofNat v))) := fun x y => by
  unfold kc_upd
  split
  · rename_i e
    exact Or.inr (Or.inr ⟨e.1, by omega, v, hv, rfl⟩)
  · exact Or.inl rfl
theorem km_D_nw {it : Nat} (hit : it < 60) : ∀ (vs : List Nat) (h : kc_H) (j : Nat), j + vs.length ≤ 4 → (∀ v ∈ vs, v < 1000) → km_D h (km_nw h it j vs)
  | [], h, j, _, _ => km_D_rf
  | v :: vs, h, j, hj, hv => by
    rw [List.length_cons] at hj
    exact km_D_tr (km_D_u5 (by omega) (hv v List.mem_cons_self)) (km_D_nw hit vs _ (j + 1) (by omega) (fun x hx => hv x (List.mem_cons_of_mem _ hx)))
theorem kp_tv_lt {v : Nat} (hv : v < 16) : kp_tv v < 27 := by
  unfold kp_tv
  split <;> omega
theorem km_D_n1 {h : kc_H} {it : Nat} {q : Nat × List Nat} (hit : it < 60) (h0 : q.2.length ≤ 4) (h1 : q.1 < 16) (h2 : ∀ v ∈ q.2, v < 1000) : km_D h (km_n1 h it q) := km_D_tr (km_D_nw hit q.2 h 0 (by omega) h2) (km_D_u4 hit (kp_tv_lt h1))
set_option maxRecDepth 20000 in
theorem km_arl {g : kc_G} {d : Nat} {Q : Option kc_V → kc_H → Prop} {x n : Nat} {t : Nat → Nat} (hg : kc_ok g) (hx : x < 2) (hn : n ≤ 240) (hb : ∀ j, j < 240 → t j < 256) {it v : Nat} (hv : v < 16) (hit : it < 60) : ∀ (m j : Nat) (h : kc_H) (p u : Nat), ks_L (kp_sh v) - j = m → j ≤ ks_L (kp_sh v) → h 260 (160 + x) = .inl (Int32.ofNat n) → (∀ j, j < 240 → h 260 (170 + 240 * x + j) = .inl (Int32.ofNat (t j))) → p ≤ n → u < 1000 →
    (∀ vs e, kp_ar t n (kp_sh v) m j p = some (vs, e) → ∀ u2, u2 < 1000 → kc_Ev g (d + 4) wk_m64 Q 175 [(2, .inl (Int32.ofNat (kp_tv v))), (0, .inr (.inr (.inl (some 259)))), (1, .inl (Int32.ofNat x))] [] (km_H (kmj (km_nw h it j vs) it) x (kp_nx t n (kp_start t n e)) (kp_start t n e) (kp_tk t n (kp_start t n e)) (kp_vv t n (kp_start t n e) u2))) →
    (kp_ar t n (kp_sh v) m j p = none → ∀ (h2 : kc_H) (a2 s2 k2 u2 : Nat), km_D h h2 → (s2 ≤ n ∧ a2 ≤ n ∧ k2 < 27 ∧ u2 < 1000) → Q (some (.inl (Int32.ofNat 0))) (km_H (kmj h2 it) x a2 s2 k2 u2)) → kc_Ev g (d + 4) wk_m64 Q 74 [(3, .inl (Int32.ofNat j)), (2, .inl (Int32.ofNat (kp_tv v))), (0, .inr (.inr (.inl (some 259)))), (1, .inl (Int32.ofNat x))] [] (km_H (kmj h it) x (kp_nx t n (kp_start t n p)) (kp_start t n p) (kp_tk t n (kp_start t n p)) (kp_vv t n (kp_start t n p) u)) := by
  obtain ⟨hi, hi4⟩ := kr_shl v hv
  have htv := kp_tv_lt hv
  intro m
  induction m with
  | zero =>
    intro j h p u hm hj hnt ht hp hu hok hbad
    refine kx_go 2 (pc' := 76) (L' := [(3, .inl (Int32.ofNat j)), (2, .inl (Int32.ofNat (kp_tv v))), (0, .inr (.inr (.inl (some 259)))), (1, .inl (Int32.ofNat x))]) (S' := [.inl (Int32.ofNat (kp_tv v)), .inl (Int32.ofNat j)]) (h' := (km_H (kmj h it) x (kp_nx t n (kp_start t n p)) (kp_start t n p) (kp_tk t n (kp_start t n p)) (kp_vv t n (kp_start t n p) u))) (by with_unfolding_all rfl) ?_
    refine kc_call_rule (M2 := wk_m234) (av := [.inl (Int32.ofNat (kp_tv v))]) (r := [.inl (Int32.ofNat j)]) rfl rfl (kc_Con_le (km_num (d := 0) hg v hv) (by omega)) (fun rv h' hq => ?_)
    obtain ⟨rfl, rfl⟩ := hq
    show kc_Ev g (d + 4) wk_m64 Q 79 [(3, .inl (Int32.ofNat j)), (2, .inl (Int32.ofNat (kp_tv v))), (0, .inr (.inr (.inl (some 259)))), (1, .inl (Int32.ofNat x))] [.inl (Int32.ofNat (ks_L (kp_sh v))), .inl (Int32.ofNat j)] (km_H (kmj h it) x (kp_nx t n (kp_start t n p)) (kp_start t n p) (kp_tk t n (kp_start t n p)) (kp_vv t n (kp_start t n p) u))
    refine kx_go 1 (pc' := (if kc_cnd .ge (Int32.ofNat j).toInt (Int32.ofNat (ks_L (kp_sh v))).toInt then 175 else 82)) (L' := [(3, .inl (Int32.ofNat j)), (2, .inl (Int32.ofNat (kp_tv v))), (0, .inr (.inr (.inl (some 259)))), (1, .inl (Int32.ofNat x))]) (S' := []) (h' := (km_H (kmj h it) x (kp_nx t n (kp_start t n p)) (kp_start t n p) (kp_tk t n (kp_start t n p)) (kp_vv t n (kp_start t n p) u))) (by with_unfolding_all rfl) ?_
    rw [if_pos ((kx_ge (by omega) (by omega)).mpr (by omega))]
    refine kf_lo (L := [(2, .inl (Int32.ofNat (kp_tv v))), (0, .inr (.inr (.inl (some 259)))), (1, .inl (Int32.ofNat x))]) ?_ (hok [] p rfl u hu)
    intro q hq
    simp only [List.mem_cons, List.not_mem_nil, or_false] at hq
    rcases hq with rfl | rfl | rfl <;> rfl
  | succ m ih =>
    intro j h p u hm hj hnt ht hp hu hok hbad
    refine kx_go 2 (pc' := 76) (L' := [(3, .inl (Int32.ofNat j)), (2, .inl (Int32.ofNat (kp_tv v))), (0, .inr (.inr (.inl (some 259)))), (1, .inl (Int32.ofNat x))]) (S' := [.inl (Int32.ofNat (kp_tv v)), .inl (Int32.ofNat j)]) (h' := (km_H (kmj h it) x (kp_nx t n (kp_start t n p)) (kp_start t n p) (kp_tk t n (kp_start t n p)) (kp_vv t n (kp_start t n p) u))) (by with_unfolding_all rfl) ?_
    refine kc_call_rule (M2 := wk_m234) (av := [.inl (Int32.ofNat (kp_tv v))]) (r := [.inl (Int32.ofNat j)]) rfl rfl (kc_Con_le (km_num (d := 0) hg v hv) (by omega)) (fun rv h' hq => ?_)
    obtain ⟨rfl, rfl⟩ := hq
    show kc_Ev g (d + 4) wk_m64 Q 79 [(3, .inl (Int32.ofNat j)), (2, .inl (Int32.ofNat (kp_tv v))), (0, .inr (.inr (.inl (some 259)))), (1, .inl (Int32.ofNat x))] [.inl (Int32.ofNat (ks_L (kp_sh v))), .inl (Int32.ofNat j)] (km_H (kmj h it) x (kp_nx t n (kp_start t n p)) (kp_start t n p) (kp_tk t n (kp_start t n p)) (kp_vv t n (kp_start t n p) u))
    refine kx_go 1 (pc' := (if kc_cnd .ge (Int32.ofNat j).toInt (Int32.ofNat (ks_L (kp_sh v))).toInt then 175 else 82)) (L' := [(3, .inl (Int32.ofNat j)), (2, .inl (Int32.ofNat (kp_tv v))), (0, .inr (.inr (.inl (some 259)))), (1, .inl (Int32.ofNat x))]) (S' := []) (h' := (km_H (kmj h it) x (kp_nx t n (kp_start t n p)) (kp_start t n p) (kp_tk t n (kp_start t n p)) (kp_vv t n (kp_start t n p) u))) (by with_unfolding_all rfl) ?_
    rw [if_neg (fun w => by have := (kx_ge (by omega) (by omega)).mp w; omega)]
    have hst := kp_start_le (t := t) hp
    have hnx := kp_nx_le (t := t) hst.2
    obtain ⟨q0, q2, q3, qlt⟩ := kq_k (t := t) (n := n) (S := kp_start t n p)
    have hvv := kp_vv_lt (t := t) (n := n) (S := kp_start t n p) hu
    have hsh := km_sh v hv j (by omega)
    have hbad0 : kp_a1 t n (kp_sh v) j (kp_start t n p) = none → _ := fun e => hbad (by unfold kp_ar; rw [e])
    have hbad1 : ∀ y, kp_a1 t n (kp_sh v) j (kp_start t n p) = some y → kp_ar t n (kp_sh v) m (j + 1) (kp_nx t n (kp_start t n p)) = none → _ := fun y ey e => hbad (by unfold kp_ar; rw [ey]; simp only; rw [e])
    have hok1 : ∀ y, kp_a1 t n (kp_sh v) j (kp_start t n p) = some y → ∀ vs e, kp_ar t n (kp_sh v) m (j + 1) (kp_nx t n (kp_start t n p)) = some (vs, e) → _ := fun y ey vs e ev => hok (y :: vs) e (by unfold kp_ar; rw [ey]; simp only; rw [ev])
    have fail : ∀ (L : kc_L), kp_a1 t n (kp_sh v) j (kp_start t n p) = none → kc_Ev g (d + 4) wk_m64 Q 132 L [] (km_H (kmj h it) x (kp_nx t n (kp_start t n p)) (kp_start t n p) (kp_tk t n (kp_start t n p)) (kp_vv t n (kp_start t n p) u)) := by
      intro L e
      refine kx_go 1 (pc' := 133) (L' := L) (S' := [.inl (Int32.ofNat 0)]) (h' := (km_H (kmj h it) x (kp_nx t n (kp_start t n p)) (kp_start t n p) (kp_tk t n (kp_start t n p)) (kp_vv t n (kp_start t n p) u))) (by with_unfolding_all rfl) ?_
      exact kc_ret_ok rfl (rv := some (.inl (Int32.ofNat 0))) rfl (hbad0 e h _ _ _ _ km_D_rf ⟨hst.2, hnx.2, qlt, hvv⟩)
    have store : ∀ (b : Nat) (y : Nat), y < 1000 → kp_a1 t n (kp_sh v) j (kp_start t n p) = some y → kc_Ev g (d + 4) wk_m64 Q 164 [(4, .inl (Int32.ofNat b)), (3, .inl (Int32.ofNat j)), (2, .inl (Int32.ofNat (kp_tv v))), (0, .inr (.inr (.inl (some 259)))), (1, .inl (Int32.ofNat x))] [.inl (Int32.ofNat y), .inl (Int32.ofNat (5 * it + j)), .inr (.inr (.inl (some 265)))] (km_H (kmj h it) x (kp_nx t n (kp_start t n p)) (kp_start t n p) (kp_tk t n (kp_start t n p)) (kp_vv t n (kp_start t n p) u)) := by
      intro b y hy ey
      refine kx_iast rfl (c := 265) (j := 5 * it + j) (m := 1200) rfl (by decide) (by decide) (by omega) ?_
      rw [kmj_u (by decide)]
      have hD : km_D h (kc_upd h 265 (5 * it + j) (.inl (Int32.ofNat y))) := km_D_u5 (by omega) hy
      refine kx_go 1 (pc' := 166) (L' := [(4, .inl (Int32.ofNat b)), (3, .inl (Int32.ofNat j)), (2, .inl (Int32.ofNat (kp_tv v))), (0, .inr (.inr (.inl (some 259)))), (1, .inl (Int32.ofNat x))]) (S' := [.inr (.inr (.inl (some 259)))]) (h' := (km_H (kmj (kc_upd h 265 (5 * it + j) (.inl (Int32.ofNat y))) it) x (kp_nx t n (kp_start t n p)) (kp_start t n p) (kp_tk t n (kp_start t n p)) (kp_vv t n (kp_start t n p) u))) (by with_unfolding_all rfl) ?_
      refine kc_call_rule (M2 := wk_m65) (av := [.inr (.inr (.inl (some 259)))]) (r := []) rfl rfl (kc_Con_le (km_scan hg hx hn ((kmj_o (by decide)).trans ((km_D_n hD (by decide) (by decide)).trans hnt)) (fun j hj => (kmj_o (by decide)).trans ((fun j hj => (km_D_n hD (by decide) (by decide)).trans (ht j hj)) j hj)) hb hnx.2) (by omega)) (fun rv h' hq => ?_)
      obtain ⟨rfl, rfl⟩ := hq
      show kc_Ev g (d + 4) wk_m64 Q 169 [(4, .inl (Int32.ofNat b)), (3, .inl (Int32.ofNat j)), (2, .inl (Int32.ofNat (kp_tv v))), (0, .inr (.inr (.inl (some 259)))), (1, .inl (Int32.ofNat x))] [] (km_H (kmj (kc_upd h 265 (5 * it + j) (.inl (Int32.ofNat y))) it) x (kp_nx t n (kp_start t n (kp_nx t n (kp_start t n p)))) (kp_start t n (kp_nx t n (kp_start t n p))) (kp_tk t n (kp_start t n (kp_nx t n (kp_start t n p)))) (kp_vv t n (kp_start t n (kp_nx t n (kp_start t n p))) (kp_vv t n (kp_start t n p) u)))
      refine kx_go 2 (pc' := 74) (L' := [(3, .inl ((Int32.ofNat j) + Int32.ofInt 1)), (4, .inl (Int32.ofNat b)), (2, .inl (Int32.ofNat (kp_tv v))), (0, .inr (.inr (.inl (some 259)))), (1, .inl (Int32.ofNat x))]) (S' := []) (h' := (km_H (kmj (kc_upd h 265 (5 * it + j) (.inl (Int32.ofNat y))) it) x (kp_nx t n (kp_start t n (kp_nx t n (kp_start t n p)))) (kp_start t n (kp_nx t n (kp_start t n p))) (kp_tk t n (kp_start t n (kp_nx t n (kp_start t n p)))) (kp_vv t n (kp_start t n (kp_nx t n (kp_start t n p))) (kp_vv t n (kp_start t n p) u)))) (by with_unfolding_all rfl) ?_
      rw [kx_inc]
      refine kf_lo (L := [(3, .inl (Int32.ofNat (j + 1))), (2, .inl (Int32.ofNat (kp_tv v))), (0, .inr (.inr (.inl (some 259)))), (1, .inl (Int32.ofNat x))]) ?_ (ih (j + 1) (kc_upd h 265 (5 * it + j) (.inl (Int32.ofNat y))) _ _ (by omega) (by omega) ((km_D_n hD (by decide) (by decide)).trans hnt) (fun j hj => (km_D_n hD (by decide) (by decide)).trans (ht j hj)) hnx.2 hvv (fun vs e ev u2 hu2 => hok1 y ey vs e ev u2 hu2) (fun e h2 a2 s2 k2 u2 hh => hbad1 y ey e h2 a2 s2 k2 u2 (km_D_tr hD hh)))
      intro q hq
      simp only [List.mem_cons, List.not_mem_nil, or_false] at hq
      rcases hq with rfl | rfl | rfl | rfl <;> rfl
    by_cases ek : v = 1 ∧ j = 1
    · have ha1 : kp_a1 t n (kp_sh v) j (kp_start t n p) = _ := if_pos (hsh.mpr ek)
      rw [kq_t2] at ha1
      obtain ⟨rfl, rfl⟩ := ek
      refine kx_go 11 (pc' := 105) (L' := [(4, .inl (Int32.ofNat 1)), (3, .inl (Int32.ofNat 1)), (2, .inl (Int32.ofNat (kp_tv 1))), (0, .inr (.inr (.inl (some 259)))), (1, .inl (Int32.ofNat x))]) (S' := []) (h' := (km_H (kmj h it) x (kp_nx t n (kp_start t n p)) (kp_start t n p) (kp_tk t n (kp_start t n p)) (kp_vv t n (kp_start t n p) u))) (by with_unfolding_all rfl) ?_
      refine kx_go 4 (pc' := (if kc_cnd .eq (Int32.ofNat (kp_tk t n (kp_start t n p))).toInt (Int32.ofNat 4).toInt then 134 else 113)) (L' := [(4, .inl (Int32.ofNat 1)), (3, .inl (Int32.ofNat 1)), (2, .inl (Int32.ofNat (kp_tv 1))), (0, .inr (.inr (.inl (some 259)))), (1, .inl (Int32.ofNat x))]) (S' := []) (h' := (km_H (kmj h it) x (kp_nx t n (kp_start t n p)) (kp_start t n p) (kp_tk t n (kp_start t n p)) (kp_vv t n (kp_start t n p) u))) (by with_unfolding_all rfl) ?_
      by_cases e4 : kp_tk t n (kp_start t n p) = 4
      · rw [if_pos ((kx_eq (by omega) (by omega)).mpr e4)]
        have etk := e4
        refine kx_go 15 (pc' := 164) (L' := [(4, .inl (Int32.ofNat 1)), (3, .inl (Int32.ofNat 1)), (2, .inl (Int32.ofNat (kp_tv 1))), (0, .inr (.inr (.inl (some 259)))), (1, .inl (Int32.ofNat x))]) (S' := [.inl ((Int32.ofNat (kp_tk t n (kp_start t n p))) - (Int32.ofNat 4)), .inl (((Int32.ofNat 5) * (Int32.ofNat it)) + (Int32.ofNat 1)), .inr (.inr (.inl (some 265)))]) (h' := (km_H (kmj h it) x (kp_nx t n (kp_start t n p)) (kp_start t n p) (kp_tk t n (kp_start t n p)) (kp_vv t n (kp_start t n p) u))) (by with_unfolding_all rfl) ?_
        have esub : Int32.ofNat (kp_tk t n (kp_start t n p)) - Int32.ofNat 4 = Int32.ofNat 0 := by rw [etk]; rfl
        rw [kx_mul, kx_add, esub]
        exact store 1 0 (by decide) (by rw [ha1, etk]; rfl)
      · rw [if_neg (fun w => e4 ((kx_eq (by omega) (by omega)).mp w))]
        refine kx_go 4 (pc' := (if kc_cnd .eq (Int32.ofNat (kp_tk t n (kp_start t n p))).toInt (Int32.ofNat 5).toInt then 134 else 121)) (L' := [(4, .inl (Int32.ofNat 1)), (3, .inl (Int32.ofNat 1)), (2, .inl (Int32.ofNat (kp_tv 1))), (0, .inr (.inr (.inl (some 259)))), (1, .inl (Int32.ofNat x))]) (S' := []) (h' := (km_H (kmj h it) x (kp_nx t n (kp_start t n p)) (kp_start t n p) (kp_tk t n (kp_start t n p)) (kp_vv t n (kp_start t n p) u))) (by with_unfolding_all rfl) ?_
        by_cases e5 : kp_tk t n (kp_start t n p) = 5
        · rw [if_pos ((kx_eq (by omega) (by omega)).mpr e5)]
          have etk := e5
          refine kx_go 15 (pc' := 164) (L' := [(4, .inl (Int32.ofNat 1)), (3, .inl (Int32.ofNat 1)), (2, .inl (Int32.ofNat (kp_tv 1))), (0, .inr (.inr (.inl (some 259)))), (1, .inl (Int32.ofNat x))]) (S' := [.inl ((Int32.ofNat (kp_tk t n (kp_start t n p))) - (Int32.ofNat 4)), .inl (((Int32.ofNat 5) * (Int32.ofNat it)) + (Int32.ofNat 1)), .inr (.inr (.inl (some 265)))]) (h' := (km_H (kmj h it) x (kp_nx t n (kp_start t n p)) (kp_start t n p) (kp_tk t n (kp_start t n p)) (kp_vv t n (kp_start t n p) u))) (by with_unfolding_all rfl) ?_
          have esub : Int32.ofNat (kp_tk t n (kp_start t n p)) - Int32.ofNat 4 = Int32.ofNat 1 := by rw [etk]; rfl
          rw [kx_mul, kx_add, esub]
          exact store 1 1 (by decide) (by rw [ha1, etk]; rfl)
        · rw [if_neg (fun w => e5 ((kx_eq (by omega) (by omega)).mp w))]
          refine kx_go 1 (pc' := 132) (L' := [(4, .inl (Int32.ofNat 1)), (3, .inl (Int32.ofNat 1)), (2, .inl (Int32.ofNat (kp_tv 1))), (0, .inr (.inr (.inl (some 259)))), (1, .inl (Int32.ofNat x))]) (S' := []) (h' := (km_H (kmj h it) x (kp_nx t n (kp_start t n p)) (kp_start t n p) (kp_tk t n (kp_start t n p)) (kp_vv t n (kp_start t n p) u))) (by with_unfolding_all rfl) ?_
          exact fail _ (by rw [ha1, if_neg e5, if_neg e4])
    · have ha1 : kp_a1 t n (kp_sh v) j (kp_start t n p) = _ := if_neg (fun q => ek (hsh.mp q))
      have go97 : kc_Ev g (d + 4) wk_m64 Q 97 [(3, .inl (Int32.ofNat j)), (2, .inl (Int32.ofNat (kp_tv v))), (0, .inr (.inr (.inl (some 259)))), (1, .inl (Int32.ofNat x))] [] (km_H (kmj h it) x (kp_nx t n (kp_start t n p)) (kp_start t n p) (kp_tk t n (kp_start t n p)) (kp_vv t n (kp_start t n p) u)) := by
        refine kx_go 4 (pc' := 124) (L' := [(4, .inl (Int32.ofNat 0)), (3, .inl (Int32.ofNat j)), (2, .inl (Int32.ofNat (kp_tv v))), (0, .inr (.inr (.inl (some 259)))), (1, .inl (Int32.ofNat x))]) (S' := []) (h' := (km_H (kmj h it) x (kp_nx t n (kp_start t n p)) (kp_start t n p) (kp_tk t n (kp_start t n p)) (kp_vv t n (kp_start t n p) u))) (by with_unfolding_all rfl) ?_
        refine kx_go 4 (pc' := (if kc_cnd .eq (Int32.ofNat (kp_tk t n (kp_start t n p))).toInt (Int32.ofNat 2).toInt then 134 else 132)) (L' := [(4, .inl (Int32.ofNat 0)), (3, .inl (Int32.ofNat j)), (2, .inl (Int32.ofNat (kp_tv v))), (0, .inr (.inr (.inl (some 259)))), (1, .inl (Int32.ofNat x))]) (S' := []) (h' := (km_H (kmj h it) x (kp_nx t n (kp_start t n p)) (kp_start t n p) (kp_tk t n (kp_start t n p)) (kp_vv t n (kp_start t n p) u))) (by with_unfolding_all rfl) ?_
        by_cases e2 : kp_tk t n (kp_start t n p) = 2
        · rw [if_pos ((kx_eq (by omega) (by omega)).mpr e2)]
          refine kx_go 12 (pc' := 164) (L' := [(4, .inl (Int32.ofNat 0)), (3, .inl (Int32.ofNat j)), (2, .inl (Int32.ofNat (kp_tv v))), (0, .inr (.inr (.inl (some 259)))), (1, .inl (Int32.ofNat x))]) (S' := [.inl (Int32.ofNat (kp_vv t n (kp_start t n p) u)), .inl (((Int32.ofNat 5) * (Int32.ofNat it)) + (Int32.ofNat j)), .inr (.inr (.inl (some 265)))]) (h' := (km_H (kmj h it) x (kp_nx t n (kp_start t n p)) (kp_start t n p) (kp_tk t n (kp_start t n p)) (kp_vv t n (kp_start t n p) u))) (by with_unfolding_all rfl) ?_
          rw [kx_mul, kx_add]
          exact store 0 _ hvv (by rw [ha1, kq_v (v := u) (q2.mpr e2)])
        · rw [if_neg (fun w => e2 ((kx_eq (by omega) (by omega)).mp w))]
          exact fail _ (by rw [ha1, kq_nv (fun w => e2 (q2.mp w))])
      refine kx_go 3 (pc' := (if kc_cnd .ne (Int32.ofNat (kp_tv v)).toInt (Int32.ofNat 11).toInt then 97 else 88)) (L' := [(3, .inl (Int32.ofNat j)), (2, .inl (Int32.ofNat (kp_tv v))), (0, .inr (.inr (.inl (some 259)))), (1, .inl (Int32.ofNat x))]) (S' := []) (h' := (km_H (kmj h it) x (kp_nx t n (kp_start t n p)) (kp_start t n p) (kp_tk t n (kp_start t n p)) (kp_vv t n (kp_start t n p) u))) (by with_unfolding_all rfl) ?_
      by_cases e11 : kp_tv v = 11
      · rw [if_neg (fun w => (kx_ne (by omega) (by omega)).mp w e11)]
        have hv1 : v = 1 := by
          unfold kp_tv at e11
          split at e11 <;> omega
        refine kx_go 3 (pc' := (if kc_cnd .ne (Int32.ofNat j).toInt (Int32.ofNat 1).toInt then 97 else 93)) (L' := [(3, .inl (Int32.ofNat j)), (2, .inl (Int32.ofNat (kp_tv v))), (0, .inr (.inr (.inl (some 259)))), (1, .inl (Int32.ofNat x))]) (S' := []) (h' := (km_H (kmj h it) x (kp_nx t n (kp_start t n p)) (kp_start t n p) (kp_tk t n (kp_start t n p)) (kp_vv t n (kp_start t n p) u))) (by with_unfolding_all rfl) ?_
        rw [if_pos ((kx_ne (by omega) (by omega)).mpr (fun e => ek ⟨hv1, e⟩))]
        exact go97
      · rw [if_pos ((kx_ne (by omega) (by omega)).mpr e11)]
        exact go97
end
