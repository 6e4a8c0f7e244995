/-! ===== by hand: the numbers of an item, the reference ===== -/
def kmj (h : kc_H) (it : Nat) : kc_H := fun c b => if c = 259 then (if b = 11 then .inr (.inr (.inl (some 264))) else if b = 12 then .inr (.inr (.inl (some 265))) else if b = 13 then .inl (Int32.ofNat it) else h 259 b) else h c b
theorem kmj_o {h : kc_H} {it a b : Nat} (ha : ¬ a = 259) : kmj h it a b = h a b := if_neg ha
theorem kmj_u {h : kc_H} {it x a s k v c b : Nat} {w : kc_V} (hc : ¬ c = 259) : kc_upd (km_H (kmj h it) x a s k v) c b w = km_H (kmj (kc_upd h c b w) it) x a s k v := by
  funext y z
  unfold kc_upd km_H kmj
  by_cases hy : y = 259
  · have hyc : ¬ 259 = c := fun e => hc e.symm
    simp [hy, hyc]
  · simp [hy]
theorem kmj_13 {h : kc_H} {it it' x a s k v : Nat} : kc_upd (km_H (kmj h it) x a s k v) 259 13 (.inl (Int32.ofNat it')) = km_H (kmj h it') x a s k v := by
  funext c b
  unfold kc_upd km_H kmj
  by_cases hc : c = 259
  · by_cases hb : b = 13
    · simp [hc, hb]
    · simp [hc, hb]
  · simp [hc]
/-- the reference's number of a verb -/
def kp_tv (v : Nat) : Nat := if v < 9 then v + 10 else v + 11
theorem km_sh : ∀ v, v < 16 → ∀ j, j < ks_L (kp_sh v) → (kp_ch (kp_sh v) j = 104 ↔ v = 1 ∧ j = 1) := by decide +kernel
set_option maxRecDepth 20000 in
theorem km_num {g : kc_G} {d : Nat} {h : kc_H} (hg : kc_ok g) : ∀ v : Nat, v < 16 → kc_Con g (d + 1) 234 [.inl (Int32.ofNat (kp_tv v))] h (fun rv h' => rv = some (.inl (Int32.ofNat (ks_L (kp_sh v)))) ∧ h' = h)
  | 0, _ => by
    refine kc_Con_new hg (M := wk_m234) rfl rfl rfl (show 1 ≤ 1 by decide) ?_
    refine kx_go 3 (pc' := 85) (L' := [(0, .inl (Int32.ofNat 10))]) (S' := [.inl (Int32.ofNat 3)]) (h' := h) (by with_unfolding_all rfl) ?_
    exact kc_ret_ok rfl (rv := some (.inl (Int32.ofNat 3))) rfl ⟨rfl, rfl⟩
  | 1, _ => by
    refine kc_Con_new hg (M := wk_m234) rfl rfl rfl (show 1 ≤ 1 by decide) ?_
    refine kx_go 3 (pc' := 87) (L' := [(0, .inl (Int32.ofNat 11))]) (S' := [.inl (Int32.ofNat 4)]) (h' := h) (by with_unfolding_all rfl) ?_
    exact kc_ret_ok rfl (rv := some (.inl (Int32.ofNat 4))) rfl ⟨rfl, rfl⟩
  | 2, _ => by
    refine kc_Con_new hg (M := wk_m234) rfl rfl rfl (show 1 ≤ 1 by decide) ?_
    refine kx_go 3 (pc' := 91) (L' := [(0, .inl (Int32.ofNat 12))]) (S' := [.inl (Int32.ofNat 0)]) (h' := h) (by with_unfolding_all rfl) ?_
    exact kc_ret_ok rfl (rv := some (.inl (Int32.ofNat 0))) rfl ⟨rfl, rfl⟩
  | 3, _ => by
    refine kc_Con_new hg (M := wk_m234) rfl rfl rfl (show 1 ≤ 1 by decide) ?_
    refine kx_go 3 (pc' := 85) (L' := [(0, .inl (Int32.ofNat 13))]) (S' := [.inl (Int32.ofNat 3)]) (h' := h) (by with_unfolding_all rfl) ?_
    exact kc_ret_ok rfl (rv := some (.inl (Int32.ofNat 3))) rfl ⟨rfl, rfl⟩
  | 4, _ => by
    refine kc_Con_new hg (M := wk_m234) rfl rfl rfl (show 1 ≤ 1 by decide) ?_
    refine kx_go 3 (pc' := 85) (L' := [(0, .inl (Int32.ofNat 14))]) (S' := [.inl (Int32.ofNat 3)]) (h' := h) (by with_unfolding_all rfl) ?_
    exact kc_ret_ok rfl (rv := some (.inl (Int32.ofNat 3))) rfl ⟨rfl, rfl⟩
  | 5, _ => by
    refine kc_Con_new hg (M := wk_m234) rfl rfl rfl (show 1 ≤ 1 by decide) ?_
    refine kx_go 3 (pc' := 89) (L' := [(0, .inl (Int32.ofNat 15))]) (S' := [.inl (Int32.ofNat 1)]) (h' := h) (by with_unfolding_all rfl) ?_
    exact kc_ret_ok rfl (rv := some (.inl (Int32.ofNat 1))) rfl ⟨rfl, rfl⟩
  | 6, _ => by
    refine kc_Con_new hg (M := wk_m234) rfl rfl rfl (show 1 ≤ 1 by decide) ?_
    refine kx_go 3 (pc' := 93) (L' := [(0, .inl (Int32.ofNat 16))]) (S' := [.inl (Int32.ofNat 2)]) (h' := h) (by with_unfolding_all rfl) ?_
    exact kc_ret_ok rfl (rv := some (.inl (Int32.ofNat 2))) rfl ⟨rfl, rfl⟩
  | 7, _ => by
    refine kc_Con_new hg (M := wk_m234) rfl rfl rfl (show 1 ≤ 1 by decide) ?_
    refine kx_go 3 (pc' := 93) (L' := [(0, .inl (Int32.ofNat 17))]) (S' := [.inl (Int32.ofNat 2)]) (h' := h) (by with_unfolding_all rfl) ?_
    exact kc_ret_ok rfl (rv := some (.inl (Int32.ofNat 2))) rfl ⟨rfl, rfl⟩
  | 8, _ => by
    refine kc_Con_new hg (M := wk_m234) rfl rfl rfl (show 1 ≤ 1 by decide) ?_
    refine kx_go 3 (pc' := 93) (L' := [(0, .inl (Int32.ofNat 18))]) (S' := [.inl (Int32.ofNat 2)]) (h' := h) (by with_unfolding_all rfl) ?_
    exact kc_ret_ok rfl (rv := some (.inl (Int32.ofNat 2))) rfl ⟨rfl, rfl⟩
  | 9, _ => by
    refine kc_Con_new hg (M := wk_m234) rfl rfl rfl (show 1 ≤ 1 by decide) ?_
    refine kx_go 3 (pc' := 85) (L' := [(0, .inl (Int32.ofNat 20))]) (S' := [.inl (Int32.ofNat 3)]) (h' := h) (by with_unfolding_all rfl) ?_
    exact kc_ret_ok rfl (rv := some (.inl (Int32.ofNat 3))) rfl ⟨rfl, rfl⟩
  | 10, _ => by
    refine kc_Con_new hg (M := wk_m234) rfl rfl rfl (show 1 ≤ 1 by decide) ?_
    refine kx_go 3 (pc' := 93) (L' := [(0, .inl (Int32.ofNat 21))]) (S' := [.inl (Int32.ofNat 2)]) (h' := h) (by with_unfolding_all rfl) ?_
    exact kc_ret_ok rfl (rv := some (.inl (Int32.ofNat 2))) rfl ⟨rfl, rfl⟩
  | 11, _ => by
    refine kc_Con_new hg (M := wk_m234) rfl rfl rfl (show 1 ≤ 1 by decide) ?_
    refine kx_go 3 (pc' := 93) (L' := [(0, .inl (Int32.ofNat 22))]) (S' := [.inl (Int32.ofNat 2)]) (h' := h) (by with_unfolding_all rfl) ?_
    exact kc_ret_ok rfl (rv := some (.inl (Int32.ofNat 2))) rfl ⟨rfl, rfl⟩
  | 12, _ => by
    refine kc_Con_new hg (M := wk_m234) rfl rfl rfl (show 1 ≤ 1 by decide) ?_
    refine kx_go 3 (pc' := 87) (L' := [(0, .inl (Int32.ofNat 23))]) (S' := [.inl (Int32.ofNat 4)]) (h' := h) (by with_unfolding_all rfl) ?_
    exact kc_ret_ok rfl (rv := some (.inl (Int32.ofNat 4))) rfl ⟨rfl, rfl⟩
  | 13, _ => by
    refine kc_Con_new hg (M := wk_m234) rfl rfl rfl (show 1 ≤ 1 by decide) ?_
    refine kx_go 3 (pc' := 93) (L' := [(0, .inl (Int32.ofNat 24))]) (S' := [.inl (Int32.ofNat 2)]) (h' := h) (by with_unfolding_all rfl) ?_
    exact kc_ret_ok rfl (rv := some (.inl (Int32.ofNat 2))) rfl ⟨rfl, rfl⟩
  | 14, _ => by
    refine kc_Con_new hg (M := wk_m234) rfl rfl rfl (show 1 ≤ 1 by decide) ?_
    refine kx_go 3 (pc' := 93) (L' := [(0, .inl (Int32.ofNat 25))]) (S' := [.inl (Int32.ofNat 2)]) (h' := h) (by with_unfolding_all rfl) ?_
    exact kc_ret_ok rfl (rv := some (.inl (Int32.ofNat 2))) rfl ⟨rfl, rfl⟩
  | 15, _ => by
    refine kc_Con_new hg (M := wk_m234) rfl rfl rfl (show 1 ≤ 1 by decide) ?_
    refine kx_go 3 (pc' := 89) (L' := [(0, .inl (Int32.ofNat 26))]) (S' := [.inl (Int32.ofNat 1)]) (h' := h) (by with_unfolding_all rfl) ?_
    exact kc_ret_ok rfl (rv := some (.inl (Int32.ofNat 1))) rfl ⟨rfl, rfl⟩
  | v + 16, hv => absurd hv (by omega)
theorem kp_vl_lt {t : Nat → Nat} {s : Nat} : ∀ m a v, s ≤ a → (a - s ≤ 3 → v < 10 ^ (a - s)) → v < 1000 → kp_vl t s m a v < 1000
  | 0, a, v, _, _, hv => hv
  | m + 1, a, v, hs, h1, hv => by
    show (bif kp_fig (t a) then kp_vl t s m (a + 1) (if 3 ≤ a - s then v else 10 * v + t a - 48) else v) < 1000
    cases e : kp_fig (t a) with
    | false => exact hv
    | true =>
      have h2 : 48 ≤ t a ∧ t a ≤ 57 := of_decide_eq_true e
      by_cases h3 : 3 ≤ a - s
      · rw [if_pos h3]
        exact kp_vl_lt m (a + 1) v (by omega) (fun q => by omega) hv
      · rw [if_neg h3]
        have h4 := h1 (by omega)
        have h5 : 10 * v + t a - 48 < 10 ^ (a + 1 - s) := by
          rw [show a + 1 - s = (a - s) + 1 from by omega, Nat.pow_succ]
          generalize 10 ^ (a - s) = y at h4 ⊢
          omega
        refine kp_vl_lt m (a + 1) _ (by omega) (fun _ => h5) (Nat.lt_of_lt_of_le h5 ?_)
        have : 10 ^ (a + 1 - s) ≤ 10 ^ 3 := Nat.pow_le_pow_right (by decide) (by omega)
        exact this
theorem kp_vv_lt {t : Nat → Nat} {n S v : Nat} (hv : v < 1000) : kp_vv t n S v < 1000 := by
  unfold kp_vv
  split
  · exact hv
  · split
    · exact hv
    · split
      · exact kp_vl_lt _ _ _ (Nat.le_refl _) (fun _ => Nat.pow_pos (by decide)) (by decide)
      · exact hv
/-- numbers written -/
def km_nw : kc_H → Nat → Nat → List Nat → kc_H
  | h, _, _, [] => h
  | h, it, j, v :: vs => km_nw (kc_upd h 265 (5 * it + j) (.inl (Int32.ofNat v))) it (j + 1) vs
def km_n1 (h : kc_H) (it : Nat) (q : Nat × List Nat) : kc_H := kc_upd (km_nw h it 0 q.2) 264 it (.inl (Int32.ofNat (kp_tv q.1)))
def km_ns : kc_H → Nat → List (Nat × List Nat) → kc_H
  | h, _, [] => h
  | h, it, q :: l => km_ns (km_n1 h it q) (it + 1) l
/-- only numbers and verbs have changed, within bounds -/
def km_D (h h2 : kc_H) : Prop := ∀ a b, h2 a b = h a b ∨ (a = 265 ∧ b < 300 ∧ ∃ v, v < 1000 ∧ h2 a b = .inl (Int32.ofNat v)) ∨ (a = 264 ∧ b < 60 ∧ ∃ v, v < 27 ∧ h2 a b = .inl (Int32.ofNat v))
theorem km_D_rf {h : kc_H} : km_D h h := fun _ _ => Or.inl rfl
theorem km_D_tr {h h1 h2 : kc_H} (a1 : km_D h h1) (a2 : km_D h1 h2) : km_D h h2 := fun a b => by
  rcases a2 a b with e | e | e
  · rcases a1 a b with q | ⟨q1, q0, v, q3, q4⟩ | ⟨q1, q0, v, q3, q4⟩
    · exact Or.inl (e.trans q)
    · exact Or.inr (Or.inl ⟨q1, q0, v, q3, e.trans q4⟩)
    · exact Or.inr (Or.inr ⟨q1, q0, v, q3, e.trans q4⟩)
  · exact Or.inr (Or.inl e)
  · exact Or.inr (Or.inr e)
theorem km_D_n {h h2 : kc_H} {a b : Nat} (hh : km_D h h2) (h1 : ¬ a = 264) (h3 : ¬ a = 265) : h2 a b = h a b := by
  rcases hh a b with e | e | e
  · exact e
  · exact absurd e.1 h3
  · exact absurd e.1 h1
theorem km_D_u5 {h : kc_H} {b v : Nat} (hb : b < 300) (hv : v < 1000) : km_D h (kc_upd h 265 b (.inl (Int32.ofNat v))) := fun x y => by
  unfold kc_upd
  split
  · rename_i e
    exact Or.inr (Or.inl ⟨e.1, by omega, v, hv, rfl⟩)
  · exact Or.inl rfl
theorem km_D_u4 {h : kc_H} {b v : Nat} (hb : b < 60) (hv : v < 27) : km_D h (kc_upd h 264 b (.inl (Int32.ofNat v))) := fun x y => by
  unfold kc_upd
  split
  · rename_i e
    exact Or.inr (Or.inr ⟨e.1, by omega, v, hv, rfl⟩)
  · exact Or.inl rfl
theorem km_D_nw {it : Nat} (hit : it < 60) : ∀ (vs : List Nat) (h : kc_H) (j : Nat), j + vs.length ≤ 4 → (∀ v ∈ vs, v < 1000) → km_D h (km_nw h it j vs)
  | [], h, j, _, _ => km_D_rf
  | v :: vs, h, j, hj, hv => by
    rw [List.length_cons] at hj
    exact km_D_tr (km_D_u5 (by omega) (hv v List.mem_cons_self)) (km_D_nw hit vs _ (j + 1) (by omega) (fun x hx => hv x (List.mem_cons_of_mem _ hx)))
theorem kp_tv_lt {v : Nat} (hv : v < 16) : kp_tv v < 27 := by
  unfold kp_tv
  split <;> omega
theorem km_D_n1 {h : kc_H} {it : Nat} {q : Nat × List Nat} (hit : it < 60) (h0 : q.2.length ≤ 4) (h1 : q.1 < 16) (h2 : ∀ v ∈ q.2, v < 1000) : km_D h (km_n1 h it q) := km_D_tr (km_D_nw hit q.2 h 0 (by omega) h2) (km_D_u4 hit (kp_tv_lt h1))
set_option maxRecDepth 20000 in
theorem km_arl {g : kc_G} {d : Nat} {Q : Option kc_V → kc_H → Prop} {x n : Nat} {t : Nat → Nat} (hg : kc_ok g) (hx : x < 2) (hn : n ≤ 240) (hb : ∀ j, j < 240 → t j < 256) {it v : Nat} (hv : v < 16) (hit : it < 60) : ∀ (m j : Nat) (h : kc_H) (p u : Nat), ks_L (kp_sh v) - j = m → j ≤ ks_L (kp_sh v) → h 260 (160 + x) = .inl (Int32.ofNat n) → (∀ j, j < 240 → h 260 (170 + 240 * x + j) = .inl (Int32.ofNat (t j))) → p ≤ n → u < 1000 →
    (∀ vs e, kp_ar t n (kp_sh v) m j p = some (vs, e) → ∀ u2, u2 < 1000 → kc_Ev g (d + 4) wk_m64 Q 175 [(2, .inl (Int32.ofNat (kp_tv v))), (0, .inr (.inr (.inl (some 259)))), (1, .inl (Int32.ofNat x))] [] (km_H (kmj (km_nw h it j vs) it) x (kp_nx t n (kp_start t n e)) (kp_start t n e) (kp_tk t n (kp_start t n e)) (kp_vv t n (kp_start t n e) u2))) →
    (kp_ar t n (kp_sh v) m j p = none → ∀ (h2 : kc_H) (a2 s2 k2 u2 : Nat), km_D h h2 → (s2 ≤ n ∧ a2 ≤ n ∧ k2 < 27 ∧ u2 < 1000) → Q (some (.inl (Int32.ofNat 0))) (km_H (kmj h2 it) x a2 s2 k2 u2)) → kc_Ev g (d + 4) wk_m64 Q 74 [(3, .inl (Int32.ofNat j)), (2, .inl (Int32.ofNat (kp_tv v))), (0, .inr (.inr (.inl (some 259)))), (1, .inl (Int32.ofNat x))] [] (km_H (kmj h it) x (kp_nx t n (kp_start t n p)) (kp_start t n p) (kp_tk t n (kp_start t n p)) (kp_vv t n (kp_start t n p) u)) := by
  obtain ⟨hi, hi4⟩ := kr_shl v hv
  have htv := kp_tv_lt hv
  intro m
  induction m with
  | zero =>
    intro j h p u hm hj hnt ht hp hu hok hbad
    refine kx_go 2 (pc' := 76) (L' := [(3, .inl (Int32.ofNat j)), (2, .inl (Int32.ofNat (kp_tv v))), (0, .inr (.inr (.inl (some 259)))), (1, .inl (Int32.ofNat x))]) (S' := [.inl (Int32.ofNat (kp_tv v)), .inl (Int32.ofNat j)]) (h' := (km_H (kmj h it) x (kp_nx t n (kp_start t n p)) (kp_start t n p) (kp_tk t n (kp_start t n p)) (kp_vv t n (kp_start t n p) u))) (by with_unfolding_all rfl) ?_
    refine kc_call_rule (M2 := wk_m234) (av := [.inl (Int32.ofNat (kp_tv v))]) (r := [.inl (Int32.ofNat j)]) rfl rfl (kc_Con_le (km_num (d := 0) hg v hv) (by omega)) (fun rv h' hq => ?_)
    obtain ⟨rfl, rfl⟩ := hq
    show kc_Ev g (d + 4) wk_m64 Q 79 [(3, .inl (Int32.ofNat j)), (2, .inl (Int32.ofNat (kp_tv v))), (0, .inr (.inr (.inl (some 259)))), (1, .inl (Int32.ofNat x))] [.inl (Int32.ofNat (ks_L (kp_sh v))), .inl (Int32.ofNat j)] (km_H (kmj h it) x (kp_nx t n (kp_start t n p)) (kp_start t n p) (kp_tk t n (kp_start t n p)) (kp_vv t n (kp_start t n p) u))
    refine kx_go 1 (pc' := (if kc_cnd .ge (Int32.ofNat j).toInt (Int32.ofNat (ks_L (kp_sh v))).toInt then 175 else 82)) (L' := [(3, .inl (Int32.ofNat j)), (2, .inl (Int32.ofNat (kp_tv v))), (0, .inr (.inr (.inl (some 259)))), (1, .inl (Int32.ofNat x))]) (S' := []) (h' := (km_H (kmj h it) x (kp_nx t n (kp_start t n p)) (kp_start t n p) (kp_tk t n (kp_start t n p)) (kp_vv t n (kp_start t n p) u))) (by with_unfolding_all rfl) ?_
    rw [if_pos ((kx_ge (by omega) (by omega)).mpr (by omega))]
    refine kf_lo (L := [(2, .inl (Int32.ofNat (kp_tv v))), (0, .inr (.inr (.inl (some 259)))), (1, .inl (Int32.ofNat x))]) ?_ (hok [] p rfl u hu)
    intro q hq
    simp only [List.mem_cons, List.not_mem_nil, or_false] at hq
    rcases hq with rfl | rfl | rfl <;> rfl
  | succ m ih =>
    intro j h p u hm hj hnt ht hp hu hok hbad
    refine kx_go 2 (pc' := 76) (L' := [(3, .inl (Int32.ofNat j)), (2, .inl (Int32.ofNat (kp_tv v))), (0, .inr (.inr (.inl (some 259)))), (1, .inl (Int32.ofNat x))]) (S' := [.inl (Int32.ofNat (kp_tv v)), .inl (Int32.ofNat j)]) (h' := (km_H (kmj h it) x (kp_nx t n (kp_start t n p)) (kp_start t n p) (kp_tk t n (kp_start t n p)) (kp_vv t n (kp_start t n p) u))) (by with_unfolding_all rfl) ?_
    refine kc_call_rule (M2 := wk_m234) (av := [.inl (Int32.ofNat (kp_tv v))]) (r := [.inl (Int32.ofNat j)]) rfl rfl (kc_Con_le (km_num (d := 0) hg v hv) (by omega)) (fun rv h' hq => ?_)
    obtain ⟨rfl, rfl⟩ := hq
    show kc_Ev g (d + 4) wk_m64 Q 79 [(3, .inl (Int32.ofNat j)), (2, .inl (Int32.ofNat (kp_tv v))), (0, .inr (.inr (.inl (some 259)))), (1, .inl (Int32.ofNat x))] [.inl (Int32.ofNat (ks_L (kp_sh v))), .inl (Int32.ofNat j)] (km_H (kmj h it) x (kp_nx t n (kp_start t n p)) (kp_start t n p) (kp_tk t n (kp_start t n p)) (kp_vv t n (kp_start t n p) u))
    refine kx_go 1 (pc' := (if kc_cnd .ge (Int32.ofNat j).toInt (Int32.ofNat (ks_L (kp_sh v))).toInt then 175 else 82)) (L' := [(3, .inl (Int32.ofNat j)), (2, .inl (Int32.ofNat (kp_tv v))), (0, .inr (.inr (.inl (some 259)))), (1, .inl (Int32.ofNat x))]) (S' := []) (h' := (km_H (kmj h it) x (kp_nx t n (kp_start t n p)) (kp_start t n p) (kp_tk t n (kp_start t n p)) (kp_vv t n (kp_start t n p) u))) (by with_unfolding_all rfl) ?_
    rw [if_neg (fun w => by have := (kx_ge (by omega) (by omega)).mp w; omega)]
    have hst := kp_start_le (t := t) hp
    have hnx := kp_nx_le (t := t) hst.2
    obtain ⟨q0, q2, q3, qlt⟩ := kq_k (t := t) (n := n) (S := kp_start t n p)
    have hvv := kp_vv_lt (t := t) (n := n) (S := kp_start t n p) hu
    have hsh := km_sh v hv j (by omega)
    have hbad0 : kp_a1 t n (kp_sh v) j (kp_start t n p) = none → _ := fun e => hbad (by unfold kp_ar; rw [e])
    have hbad1 : ∀ y, kp_a1 t n (kp_sh v) j (kp_start t n p) = some y → kp_ar t n (kp_sh v) m (j + 1) (kp_nx t n (kp_start t n p)) = none → _ := fun y ey e => hbad (by unfold kp_ar; rw [ey]; simp only; rw [e])
    have hok1 : ∀ y, kp_a1 t n (kp_sh v) j (kp_start t n p) = some y → ∀ vs e, kp_ar t n (kp_sh v) m (j + 1) (kp_nx t n (kp_start t n p)) = some (vs, e) → _ := fun y ey vs e ev => hok (y :: vs) e (by unfold kp_ar; rw [ey]; simp only; rw [ev])
    have fail : ∀ (L : kc_L), kp_a1 t n (kp_sh v) j (kp_start t n p) = none → kc_Ev g (d + 4) wk_m64 Q 132 L [] (km_H (kmj h it) x (kp_nx t n (kp_start t n p)) (kp_start t n p) (kp_tk t n (kp_start t n p)) (kp_vv t n (kp_start t n p) u)) := by
      intro L e
      refine kx_go 1 (pc' := 133) (L' := L) (S' := [.inl (Int32.ofNat 0)]) (h' := (km_H (kmj h it) x (kp_nx t n (kp_start t n p)) (kp_start t n p) (kp_tk t n (kp_start t n p)) (kp_vv t n (kp_start t n p) u))) (by with_unfolding_all rfl) ?_
      exact kc_ret_ok rfl (rv := some (.inl (Int32.ofNat 0))) rfl (hbad0 e h _ _ _ _ km_D_rf ⟨hst.2, hnx.2, qlt, hvv⟩)
    have store : ∀ (b : Nat) (y : Nat), y < 1000 → kp_a1 t n (kp_sh v) j (kp_start t n p) = some y → kc_Ev g (d + 4) wk_m64 Q 164 [(4, .inl (Int32.ofNat b)), (3, .inl (Int32.ofNat j)), (2, .inl (Int32.ofNat (kp_tv v))), (0, .inr (.inr (.inl (some 259)))), (1, .inl (Int32.ofNat x))] [.inl (Int32.ofNat y), .inl (Int32.ofNat (5 * it + j)), .inr (.inr (.inl (some 265)))] (km_H (kmj h it) x (kp_nx t n (kp_start t n p)) (kp_start t n p) (kp_tk t n (kp_start t n p)) (kp_vv t n (kp_start t n p) u)) := by
      intro b y hy ey
      refine kx_iast rfl (c := 265) (j := 5 * it + j) (m := 1200) rfl (by decide) (by decide) (by omega) ?_
      rw [kmj_u (by decide)]
      have hD : km_D h (kc_upd h 265 (5 * it + j) (.inl (Int32.ofNat y))) := km_D_u5 (by omega) hy
      refine kx_go 1 (pc' := 166) (L' := [(4, .inl (Int32.ofNat b)), (3, .inl (Int32.ofNat j)), (2, .inl (Int32.ofNat (kp_tv v))), (0, .inr (.inr (.inl (some 259)))), (1, .inl (Int32.ofNat x))]) (S' := [.inr (.inr (.inl (some 259)))]) (h' := (km_H (kmj (kc_upd h 265 (5 * it + j) (.inl (Int32.ofNat y))) it) x (kp_nx t n (kp_start t n p)) (kp_start t n p) (kp_tk t n (kp_start t n p)) (kp_vv t n (kp_start t n p) u))) (by with_unfolding_all rfl) ?_
      refine kc_call_rule (M2 := wk_m65) (av := [.inr (.inr (.inl (some 259)))]) (r := []) rfl rfl (kc_Con_le (km_scan hg hx hn ((kmj_o (by decide)).trans ((km_D_n hD (by decide) (by decide)).trans hnt)) (fun j hj => (kmj_o (by decide)).trans ((fun j hj => (km_D_n hD (by decide) (by decide)).trans (ht j hj)) j hj)) hb hnx.2) (by omega)) (fun rv h' hq => ?_)
      obtain ⟨rfl, rfl⟩ := hq
      show kc_Ev g (d + 4) wk_m64 Q 169 [(4, .inl (Int32.ofNat b)), (3, .inl (Int32.ofNat j)), (2, .inl (Int32.ofNat (kp_tv v))), (0, .inr (.inr (.inl (some 259)))), (1, .inl (Int32.ofNat x))] [] (km_H (kmj (kc_upd h 265 (5 * it + j) (.inl (Int32.ofNat y))) it) x (kp_nx t n (kp_start t n (kp_nx t n (kp_start t n p)))) (kp_start t n (kp_nx t n (kp_start t n p))) (kp_tk t n (kp_start t n (kp_nx t n (kp_start t n p)))) (kp_vv t n (kp_start t n (kp_nx t n (kp_start t n p))) (kp_vv t n (kp_start t n p) u)))
      refine kx_go 2 (pc' := 74) (L' := [(3, .inl ((Int32.ofNat j) + Int32.ofInt 1)), (4, .inl (Int32.ofNat b)), (2, .inl (Int32.ofNat (kp_tv v))), (0, .inr (.inr (.inl (some 259)))), (1, .inl (Int32.ofNat x))]) (S' := []) (h' := (km_H (kmj (kc_upd h 265 (5 * it + j) (.inl (Int32.ofNat y))) it) x (kp_nx t n (kp_start t n (kp_nx t n (kp_start t n p)))) (kp_start t n (kp_nx t n (kp_start t n p))) (kp_tk t n (kp_start t n (kp_nx t n (kp_start t n p)))) (kp_vv t n (kp_start t n (kp_nx t n (kp_start t n p))) (kp_vv t n (kp_start t n p) u)))) (by with_unfolding_all rfl) ?_
      rw [kx_inc]
      refine kf_lo (L := [(3, .inl (Int32.ofNat (j + 1))), (2, .inl (Int32.ofNat (kp_tv v))), (0, .inr (.inr (.inl (some 259)))), (1, .inl (Int32.ofNat x))]) ?_ (ih (j + 1) (kc_upd h 265 (5 * it + j) (.inl (Int32.ofNat y))) _ _ (by omega) (by omega) ((km_D_n hD (by decide) (by decide)).trans hnt) (fun j hj => (km_D_n hD (by decide) (by decide)).trans (ht j hj)) hnx.2 hvv (fun vs e ev u2 hu2 => hok1 y ey vs e ev u2 hu2) (fun e h2 a2 s2 k2 u2 hh => hbad1 y ey e h2 a2 s2 k2 u2 (km_D_tr hD hh)))
      intro q hq
      simp only [List.mem_cons, List.not_mem_nil, or_false] at hq
      rcases hq with rfl | rfl | rfl | rfl <;> rfl
    by_cases ek : v = 1 ∧ j = 1
    · have ha1 : kp_a1 t n (kp_sh v) j (kp_start t n p) = _ := if_pos (hsh.mpr ek)
      rw [kq_t2] at ha1
      obtain ⟨rfl, rfl⟩ := ek
      refine kx_go 11 (pc' := 105) (L' := [(4, .inl (Int32.ofNat 1)), (3, .inl (Int32.ofNat 1)), (2, .inl (Int32.ofNat (kp_tv 1))), (0, .inr (.inr (.inl (some 259)))), (1, .inl (Int32.ofNat x))]) (S' := []) (h' := (km_H (kmj h it) x (kp_nx t n (kp_start t n p)) (kp_start t n p) (kp_tk t n (kp_start t n p)) (kp_vv t n (kp_start t n p) u))) (by with_unfolding_all rfl) ?_
      refine kx_go 4 (pc' := (if kc_cnd .eq (Int32.ofNat (kp_tk t n (kp_start t n p))).toInt (Int32.ofNat 4).toInt then 134 else 113)) (L' := [(4, .inl (Int32.ofNat 1)), (3, .inl (Int32.ofNat 1)), (2, .inl (Int32.ofNat (kp_tv 1))), (0, .inr (.inr (.inl (some 259)))), (1, .inl (Int32.ofNat x))]) (S' := []) (h' := (km_H (kmj h it) x (kp_nx t n (kp_start t n p)) (kp_start t n p) (kp_tk t n (kp_start t n p)) (kp_vv t n (kp_start t n p) u))) (by with_unfolding_all rfl) ?_
      by_cases e4 : kp_tk t n (kp_start t n p) = 4
      · rw [if_pos ((kx_eq (by omega) (by omega)).mpr e4)]
        have etk := e4
        refine kx_go 15 (pc' := 164) (L' := [(4, .inl (Int32.ofNat 1)), (3, .inl (Int32.ofNat 1)), (2, .inl (Int32.ofNat (kp_tv 1))), (0, .inr (.inr (.inl (some 259)))), (1, .inl (Int32.ofNat x))]) (S' := [.inl ((Int32.ofNat (kp_tk t n (kp_start t n p))) - (Int32.ofNat 4)), .inl (((Int32.ofNat 5) * (Int32.ofNat it)) + (Int32.ofNat 1)), .inr (.inr (.inl (some 265)))]) (h' := (km_H (kmj h it) x (kp_nx t n (kp_start t n p)) (kp_start t n p) (kp_tk t n (kp_start t n p)) (kp_vv t n (kp_start t n p) u))) (by with_unfolding_all rfl) ?_
        have esub : Int32.ofNat (kp_tk t n (kp_start t n p)) - Int32.ofNat 4 = Int32.ofNat 0 := by rw [etk]; rfl
        rw [kx_mul, kx_add, esub]
        exact store 1 0 (by decide) (by rw [ha1, etk]; rfl)
      · rw [if_neg (fun w => e4 ((kx_eq (by omega) (by omega)).mp w))]
        refine kx_go 4 (pc' := (if kc_cnd .eq (Int32.ofNat (kp_tk t n (kp_start t n p))).toInt (Int32.ofNat 5).toInt then 134 else 121)) (L' := [(4, .inl (Int32.ofNat 1)), (3, .inl (Int32.ofNat 1)), (2, .inl (Int32.ofNat (kp_tv 1))), (0, .inr (.inr (.inl (some 259)))), (1, .inl (Int32.ofNat x))]) (S' := []) (h' := (km_H (kmj h it) x (kp_nx t n (kp_start t n p)) (kp_start t n p) (kp_tk t n (kp_start t n p)) (kp_vv t n (kp_start t n p) u))) (by with_unfolding_all rfl) ?_
        by_cases e5 : kp_tk t n (kp_start t n p) = 5
        · rw [if_pos ((kx_eq (by omega) (by omega)).mpr e5)]
          have etk := e5
          refine kx_go 15 (pc' := 164) (L' := [(4, .inl (Int32.ofNat 1)), (3, .inl (Int32.ofNat 1)), (2, .inl (Int32.ofNat (kp_tv 1))), (0, .inr (.inr (.inl (some 259)))), (1, .inl (Int32.ofNat x))]) (S' := [.inl ((Int32.ofNat (kp_tk t n (kp_start t n p))) - (Int32.ofNat 4)), .inl (((Int32.ofNat 5) * (Int32.ofNat it)) + (Int32.ofNat 1)), .inr (.inr (.inl (some 265)))]) (h' := (km_H (kmj h it) x (kp_nx t n (kp_start t n p)) (kp_start t n p) (kp_tk t n (kp_start t n p)) (kp_vv t n (kp_start t n p) u))) (by with_unfolding_all rfl) ?_
          have esub : Int32.ofNat (kp_tk t n (kp_start t n p)) - Int32.ofNat 4 = Int32.ofNat 1 := by rw [etk]; rfl
          rw [kx_mul, kx_add, esub]
          exact store 1 1 (by decide) (by rw [ha1, etk]; rfl)
        · rw [if_neg (fun w => e5 ((kx_eq (by omega) (by omega)).mp w))]
          refine kx_go 1 (pc' := 132) (L' := [(4, .inl (Int32.ofNat 1)), (3, .inl (Int32.ofNat 1)), (2, .inl (Int32.ofNat (kp_tv 1))), (0, .inr (.inr (.inl (some 259)))), (1, .inl (Int32.ofNat x))]) (S' := []) (h' := (km_H (kmj h it) x (kp_nx t n (kp_start t n p)) (kp_start t n p) (kp_tk t n (kp_start t n p)) (kp_vv t n (kp_start t n p) u))) (by with_unfolding_all rfl) ?_
          exact fail _ (by rw [ha1, if_neg e5, if_neg e4])
    · have ha1 : kp_a1 t n (kp_sh v) j (kp_start t n p) = _ := if_neg (fun q => ek (hsh.mp q))
      have go97 : kc_Ev g (d + 4) wk_m64 Q 97 [(3, .inl (Int32.ofNat j)), (2, .inl (Int32.ofNat (kp_tv v))), (0, .inr (.inr (.inl (some 259)))), (1, .inl (Int32.ofNat x))] [] (km_H (kmj h it) x (kp_nx t n (kp_start t n p)) (kp_start t n p) (kp_tk t n (kp_start t n p)) (kp_vv t n (kp_start t n p) u)) := by
        refine kx_go 4 (pc' := 124) (L' := [(4, .inl (Int32.ofNat 0)), (3, .inl (Int32.ofNat j)), (2, .inl (Int32.ofNat (kp_tv v))), (0, .inr (.inr (.inl (some 259)))), (1, .inl (Int32.ofNat x))]) (S' := []) (h' := (km_H (kmj h it) x (kp_nx t n (kp_start t n p)) (kp_start t n p) (kp_tk t n (kp_start t n p)) (kp_vv t n (kp_start t n p) u))) (by with_unfolding_all rfl) ?_
        refine kx_go 4 (pc' := (if kc_cnd .eq (Int32.ofNat (kp_tk t n (kp_start t n p))).toInt (Int32.ofNat 2).toInt then 134 else 132)) (L' := [(4, .inl (Int32.ofNat 0)), (3, .inl (Int32.ofNat j)), (2, .inl (Int32.ofNat (kp_tv v))), (0, .inr (.inr (.inl (some 259)))), (1, .inl (Int32.ofNat x))]) (S' := []) (h' := (km_H (kmj h it) x (kp_nx t n (kp_start t n p)) (kp_start t n p) (kp_tk t n (kp_start t n p)) (kp_vv t n (kp_start t n p) u))) (by with_unfolding_all rfl) ?_
        by_cases e2 : kp_tk t n (kp_start t n p) = 2
        · rw [if_pos ((kx_eq (by omega) (by omega)).mpr e2)]
          refine kx_go 12 (pc' := 164) (L' := [(4, .inl (Int32.ofNat 0)), (3, .inl (Int32.ofNat j)), (2, .inl (Int32.ofNat (kp_tv v))), (0, .inr (.inr (.inl (some 259)))), (1, .inl (Int32.ofNat x))]) (S' := [.inl (Int32.ofNat (kp_vv t n (kp_start t n p) u)), .inl (((Int32.ofNat 5) * (Int32.ofNat it)) + (Int32.ofNat j)), .inr (.inr (.inl (some 265)))]) (h' := (km_H (kmj h it) x (kp_nx t n (kp_start t n p)) (kp_start t n p) (kp_tk t n (kp_start t n p)) (kp_vv t n (kp_start t n p) u))) (by with_unfolding_all rfl) ?_
          rw [kx_mul, kx_add]
          exact store 0 _ hvv (by rw [ha1, kq_v (v := u) (q2.mpr e2)])
        · rw [if_neg (fun w => e2 ((kx_eq (by omega) (by omega)).mp w))]
          exact fail _ (by rw [ha1, kq_nv (fun w => e2 (q2.mp w))])
      refine kx_go 3 (pc' := (if kc_cnd .ne (Int32.ofNat (kp_tv v)).toInt (Int32.ofNat 11).toInt then 97 else 88)) (L' := [(3, .inl (Int32.ofNat j)), (2, .inl (Int32.ofNat (kp_tv v))), (0, .inr (.inr (.inl (some 259)))), (1, .inl (Int32.ofNat x))]) (S' := []) (h' := (km_H (kmj h it) x (kp_nx t n (kp_start t n p)) (kp_start t n p) (kp_tk t n (kp_start t n p)) (kp_vv t n (kp_start t n p) u))) (by with_unfolding_all rfl) ?_
      by_cases e11 : kp_tv v = 11
      · rw [if_neg (fun w => (kx_ne (by omega) (by omega)).mp w e11)]
        have hv1 : v = 1 := by
          unfold kp_tv at e11
          split at e11 <;> omega
        refine kx_go 3 (pc' := (if kc_cnd .ne (Int32.ofNat j).toInt (Int32.ofNat 1).toInt then 97 else 93)) (L' := [(3, .inl (Int32.ofNat j)), (2, .inl (Int32.ofNat (kp_tv v))), (0, .inr (.inr (.inl (some 259)))), (1, .inl (Int32.ofNat x))]) (S' := []) (h' := (km_H (kmj h it) x (kp_nx t n (kp_start t n p)) (kp_start t n p) (kp_tk t n (kp_start t n p)) (kp_vv t n (kp_start t n p) u))) (by with_unfolding_all rfl) ?_
        rw [if_pos ((kx_ne (by omega) (by omega)).mpr (fun e => ek ⟨hv1, e⟩))]
        exact go97
      · rw [if_pos ((kx_ne (by omega) (by omega)).mpr e11)]
        exact go97
