/-! ===== by hand: image, from of the reference ===== -/
set_option maxRecDepth 20000 in
theorem kz_image {g : kc_G} {d i : Nat} {h : kc_H} (hg : kc_ok g) (hi : i < 2) (hs : ∀ k, k < 650 → ∃ z : Int32, h 260 k = .inl z) : kc_Con g (d + 2) 158 [.inr (.inr (.inl (some 259))), .inl (Int32.ofNat i)] (kz h) (fun rv h' => rv = some (.inl (Int32.ofNat 1)) ∧ h' = kc_upd (kz_cp (kz h) 261 (650 * i) 260 0 650) 262 i (.inl (kp_b true))) := by
  refine kc_Con_new hg (M := wk_m158) rfl rfl rfl (show 2 ≤ 3 by decide) ?_
  refine kx_go 4 (pc' := 4) (L' := [(0, .inr (.inr (.inl (some 259)))), (1, .inl (Int32.ofNat i))]) (S' := [.inr (.inl (Int64.ofNat 1)), .inr (.inl (Int64.ofNat 0)), .inr (.inl ((Int32.ofNat i).toInt64))]) (h' := (kz h)) (by with_unfolding_all rfl) ?_
  rw [kx_i2l (by omega)]
  refine kc_call_rule (M2 := wk_m22) (av := [.inr (.inl (Int64.ofNat i)), .inr (.inl (Int64.ofNat 0)), .inr (.inl (Int64.ofNat 1))]) (r := []) rfl rfl (kc_Con_le (km_lies hg (by omega) (by omega) (by omega)) (by omega)) (fun rv h' hq => ?_)
  obtain ⟨rfl, rfl⟩ := hq
  show kc_Ev g (d + 1) wk_m158 _ 7 [(0, .inr (.inr (.inl (some 259)))), (1, .inl (Int32.ofNat i))] [.inl (kp_b (decide (0 ≤ i ∧ i ≤ 1)))] (kz h)
  refine kx_go 1 (pc' := (if kc_cnd .ne (kp_b (decide (0 ≤ i ∧ i ≤ 1))).toInt 0 then 13 else 10)) (L' := [(0, .inr (.inr (.inl (some 259)))), (1, .inl (Int32.ofNat i))]) (S' := []) (h' := (kz h)) (by with_unfolding_all rfl) ?_
  rw [if_pos (kx_b1.mpr (decide_eq_true (by omega)))]
  refine kx_go 2 (pc' := 15) (L' := [(2, .inl (Int32.ofNat 0)), (0, .inr (.inr (.inl (some 259)))), (1, .inl (Int32.ofNat i))]) (S' := []) (h' := (kz h)) (by with_unfolding_all rfl) ?_
  have key := kz_img (g := g) (d := d + 1) (h := h) (Q := fun rv h' => rv = some (.inl (Int32.ofNat 1)) ∧ h' = kc_upd (kz_cp (kz h) 261 (650 * i) 260 0 650) 262 i (.inl (kp_b true))) hi hs 650 0 (by omega) (by omega) ?_
  · rw [kz_0] at key
    exact key
  refine kx_go 4 (pc' := 52) (L' := [(2, .inl (Int32.ofNat 650)), (0, .inr (.inr (.inl (some 259)))), (1, .inl (Int32.ofNat i))]) (S' := [.inl (Int32.ofNat 1), .inl (Int32.ofNat i), .inr (.inr (.inl (some 262)))]) (h' := (kz_cp (kz h) 261 (650 * i) 260 0 650)) (by with_unfolding_all rfl) ?_
  refine kx_bast (w := true) rfl (c := 262) (j := i) (m := 2) rfl (by decide) (by decide) hi ?_
  refine kx_go 1 (pc' := 54) (L' := [(2, .inl (Int32.ofNat 650)), (0, .inr (.inr (.inl (some 259)))), (1, .inl (Int32.ofNat i))]) (S' := [.inl (Int32.ofNat 1)]) (h' := (kc_upd (kz_cp (kz h) 261 (650 * i) 260 0 650) 262 i (.inl (kp_b true)))) (by with_unfolding_all rfl) ?_
  exact kc_ret_ok rfl (rv := some (.inl (Int32.ofNat 1))) rfl ⟨rfl, rfl⟩
set_option maxRecDepth 20000 in
theorem kz_from {g : kc_G} {d i : Nat} {h : kc_H} (hg : kc_ok g) (hi : i < 2) {b : Bool} (hb : h 262 i = .inl (kp_b b)) (hs : ∀ k, k < 650 → ∃ z : Int32, h 261 (650 * i + k) = .inl z) : kc_Con g (d + 2) 160 [.inr (.inr (.inl (some 259))), .inl (Int32.ofNat i)] (kz h) (fun rv h' => (b = true ∧ rv = some (.inl (Int32.ofNat 1)) ∧ h' = (kz_cp (kz h) 260 0 261 (650 * i) 650)) ∨ (b = false ∧ rv = some (.inl (Int32.ofInt (-3))) ∧ h' = kz h)) := by
  refine kc_Con_new hg (M := wk_m160) rfl rfl rfl (show 2 ≤ 3 by decide) ?_
  refine kx_go 4 (pc' := 4) (L' := [(0, .inr (.inr (.inl (some 259)))), (1, .inl (Int32.ofNat i))]) (S' := [.inr (.inl (Int64.ofNat 1)), .inr (.inl (Int64.ofNat 0)), .inr (.inl ((Int32.ofNat i).toInt64))]) (h' := (kz h)) (by with_unfolding_all rfl) ?_
  rw [kx_i2l (by omega)]
  refine kc_call_rule (M2 := wk_m22) (av := [.inr (.inl (Int64.ofNat i)), .inr (.inl (Int64.ofNat 0)), .inr (.inl (Int64.ofNat 1))]) (r := []) rfl rfl (kc_Con_le (km_lies hg (by omega) (by omega) (by omega)) (by omega)) (fun rv h' hq => ?_)
  obtain ⟨rfl, rfl⟩ := hq
  show kc_Ev g (d + 1) wk_m160 _ 7 [(0, .inr (.inr (.inl (some 259)))), (1, .inl (Int32.ofNat i))] [.inl (kp_b (decide (0 ≤ i ∧ i ≤ 1)))] (kz h)
  refine kx_go 1 (pc' := (if kc_cnd .ne (kp_b (decide (0 ≤ i ∧ i ≤ 1))).toInt 0 then 13 else 10)) (L' := [(0, .inr (.inr (.inl (some 259)))), (1, .inl (Int32.ofNat i))]) (S' := []) (h' := (kz h)) (by with_unfolding_all rfl) ?_
  rw [if_pos (kx_b1.mpr (decide_eq_true (by omega)))]
  refine kx_go 3 (pc' := 18) (L' := [(0, .inr (.inr (.inl (some 259)))), (1, .inl (Int32.ofNat i))]) (S' := [.inl (Int32.ofNat i), .inr (.inr (.inl (some 262)))]) (h' := (kz h)) (by with_unfolding_all rfl) ?_
  refine kx_bald rfl (c := 262) (j := i) (m := 2) (v := .inl (kp_b b)) rfl (by decide) (by decide) hi ((kz_o (by decide)).trans hb) ?_
  refine kx_go 1 (pc' := (if kc_cnd .ne (kp_b b).toInt 0 then 25 else 22)) (L' := [(0, .inr (.inr (.inl (some 259)))), (1, .inl (Int32.ofNat i))]) (S' := []) (h' := (kz h)) (by with_unfolding_all rfl) ?_
  cases b with
  | false =>
    rw [if_neg (fun q => by have := kx_b1.mp q; cases this)]
    refine kx_go 1 (pc' := 24) (L' := [(0, .inr (.inr (.inl (some 259)))), (1, .inl (Int32.ofNat i))]) (S' := [.inl (Int32.ofInt (-3))]) (h' := (kz h)) (by with_unfolding_all rfl) ?_
    exact kc_ret_ok rfl (rv := some (.inl (Int32.ofInt (-3)))) rfl (Or.inr ⟨rfl, rfl, rfl⟩)
  | true =>
    rw [if_pos (kx_b1.mpr rfl)]
    refine kx_go 2 (pc' := 27) (L' := [(2, .inl (Int32.ofNat 0)), (0, .inr (.inr (.inl (some 259)))), (1, .inl (Int32.ofNat i))]) (S' := []) (h' := (kz h)) (by with_unfolding_all rfl) ?_
    have key := kz_frm (g := g) (d := d + 1) (h := h) (Q := fun rv h' => (true = true ∧ rv = some (.inl (Int32.ofNat 1)) ∧ h' = (kz_cp (kz h) 260 0 261 (650 * i) 650)) ∨ (true = false ∧ rv = some (.inl (Int32.ofInt (-3))) ∧ h' = kz h)) hi hs 650 0 (by omega) (by omega) ?_
    · rw [kz_0] at key
      exact key
    refine kx_go 1 (pc' := 59) (L' := [(2, .inl (Int32.ofNat 650)), (0, .inr (.inr (.inl (some 259)))), (1, .inl (Int32.ofNat i))]) (S' := [.inl (Int32.ofNat 1)]) (h' := (kz_cp (kz h) 260 0 261 (650 * i) 650)) (by with_unfolding_all rfl) ?_
    exact kc_ret_ok rfl (rv := some (.inl (Int32.ofNat 1))) rfl (Or.inl ⟨rfl, rfl, rfl⟩)
/-! kinds -/
theorem kz_k : kd_rn (kd_ty 259) 0 = some (3, 260, 260) ∧ kd_rn (kd_ty 259) 1 = some (3, 261, 261) ∧ kd_rn (kd_ty 259) 2 = some (3, 262, 262) ∧ kd_rn (kd_ty 259) 3 = some (3, 263, 263) := by decide +kernel
theorem kz_wid {h : kc_H} (hw : kd_wt kd_ty h) : kz h = h := kz_id (kx_ofr (hw _ _ _ kz_k.1)) (kx_ofr (hw _ _ _ kz_k.2.1)) (kx_ofr (hw _ _ _ kz_k.2.2.1)) (kx_ofr (hw _ _ _ kz_k.2.2.2))
def kz_int (v : Option kd_V) : Bool := match v with
  | some (0, _, _) => true
  | _ => false
theorem kz_k260 : ∀ k, k < 650 → (kz_int (kd_rn (kd_ty 260) k) = true ∧ kd_rn (kd_ty 261) k = kd_rn (kd_ty 260) k ∧ kd_rn (kd_ty 261) (650 + k) = kd_rn (kd_ty 260) k ∧ kd_rn (kd_ty 263) k = kd_rn (kd_ty 260) k) := by decide +kernel
theorem kz_int_r {h : kc_H} {c b : Nat} (hw : kd_wt kd_ty h) (hk : kz_int (kd_rn (kd_ty c) b) = true) : ∃ z : Int32, h c b = .inl z := by
  unfold kz_int at hk
  split at hk
  · rename_i lo hi e
    obtain ⟨z, e1, -, -⟩ := hw c b _ e
    exact ⟨z, e1⟩
  · cases hk
theorem kz_cp_wt {h : kc_H} {c1 o1 c2 o2 k : Nat} (hw : kd_wt kd_ty h) (hk : ∀ j, j < k → kd_rn (kd_ty c1) (o1 + j) = kd_rn (kd_ty c2) (o2 + j)) : kd_wt kd_ty (kz_cp h c1 o1 c2 o2 k) := by
  intro c b v hv
  unfold kz_cp
  split
  · rename_i e
    obtain ⟨rfl, e1, e2⟩ := e
    refine hw c2 _ v ?_
    rw [← hk (b - o1) (by omega), show o1 + (b - o1) = b from by omega]
    exact hv
  · exact hw c b v hv
theorem kz_wtb {h : kc_H} {c i : Nat} {w : Bool} (ht : kd_rn (kd_ty c) i = some (0, 2147483648, 2147483649)) (hw : kd_wt kd_ty h) : kd_wt kd_ty (kc_upd h c i (.inl (kp_b w))) := by
  intro c' i' v hv
  unfold kc_upd
  split
  · rename_i e
    obtain ⟨rfl, rfl⟩ := e
    rw [ht] at hv
    cases hv
    exact ⟨_, rfl, by cases w <;> decide, by cases w <;> decide⟩
  · exact hw c' i' v hv
theorem kz_k262 : ∀ i, i < 2 → kd_rn (kd_ty 262) i = some (0, 2147483648, 2147483649) := by decide +kernel
def kd_T158c : kd_Tc := ([(3, 259, 259), (0, 2147483648, 2147483649)], [], [(some (0, 2147483649, 2147483649), [], [(261, 261, 0, 1299), (262, 262, 0, 1)])])
theorem kd_h158c {g : kc_G} (hg : kc_ok g) : kd_hold g 2 kd_ty 158 kd_T158c := by
  intro xs h hw hv hF
  match xs, hv with
  | [], hv => exact hv.elim
  | [_], hv => exact hv.2.elim
  | _ :: _ :: _ :: _, hv => exact hv.2.2.elim
  | [x1, x2], hv =>
    obtain ⟨h1, h2, -⟩ := hv
    have h1 := kx_ofr h1
    subst h1
    obtain ⟨i, w1, rfl⟩ := kx_ofg (u := 1) (by omega) h2
    have key := kz_image (d := 0) (h := h) hg (show i < 2 by omega) (fun k hk => kz_int_r hw (kz_k260 k hk).1)
    rw [kz_wid hw] at key
    refine kc_Con_mono key (fun rv h' hq => ?_)
    obtain ⟨rfl, rfl⟩ := hq
    have hw2 : kd_wt kd_ty (kz_cp h 261 (650 * i) 260 0 650) := kz_cp_wt hw (fun j hj => by
      obtain ⟨-, a1, a2, -⟩ := kz_k260 j hj
      rw [Nat.zero_add]
      rcases (show i = 0 ∨ i = 1 by omega) with rfl | rfl
      · rw [show 650 * 0 + j = j from by omega]; exact a1
      · exact a2)
    refine ⟨_, List.mem_cons_self, ⟨_, rfl, by decide, by decide⟩, fun q hq => (by cases hq), kz_wtb (kz_k262 i (by omega)) hw2, fun c b hq => ?_⟩
    have q1 := kd_inr_f (hq (261, 261, 0, 1299) (by decide))
    have q2 := kd_inr_f (hq (262, 262, 0, 1) (by decide))
    simp only at q1 q2
    unfold kc_upd kz_cp
    rw [if_neg (by omega), if_neg (by omega)]
def kd_T160c : kd_Tc := ([(3, 259, 259), (0, 2147483648, 2147483649)], [], [(some (0, 2147483645, 2147483649), [], [(260, 260, 0, 649)])])
theorem kd_h160c {g : kc_G} (hg : kc_ok g) : kd_hold g 2 kd_ty 160 kd_T160c := by
  intro xs h hw hv hF
  match xs, hv with
  | [], hv => exact hv.elim
  | [_], hv => exact hv.2.elim
  | _ :: _ :: _ :: _, hv => exact hv.2.2.elim
  | [x1, x2], hv =>
    obtain ⟨h1, h2, -⟩ := hv
    have h1 := kx_ofr h1
    subst h1
    obtain ⟨i, w1, rfl⟩ := kx_ofg (u := 1) (by omega) h2
    obtain ⟨b, b1, eb⟩ := kx_ofg (u := 1) (by omega) (hw 262 i _ (kz_k262 i (by omega)))
    have hk : ∀ j, j < 650 → kd_rn (kd_ty 261) (650 * i + j) = kd_rn (kd_ty 260) j := fun j hj => by
      obtain ⟨-, a1, a2, -⟩ := kz_k260 j hj
      rcases (show i = 0 ∨ i = 1 by omega) with rfl | rfl
      · rw [show 650 * 0 + j = j from by omega]; exact a1
      · exact a2
    have hw2 : kd_wt kd_ty (kz_cp h 260 0 261 (650 * i) 650) := kz_cp_wt hw (fun j hj => by rw [Nat.zero_add, hk j hj])
    have key := kz_from (d := 0) (h := h) (b := decide (b = 1)) hg (show i < 2 by omega) (by rcases (show b = 0 ∨ b = 1 by omega) with rfl | rfl <;> exact eb) (fun k hk2 => kz_int_r hw (by rw [hk k hk2]; exact (kz_k260 k hk2).1))
    rw [kz_wid hw] at key
    refine kc_Con_mono key (fun rv h' hq => ?_)
    rcases hq with ⟨-, rfl, rfl⟩ | ⟨-, rfl, rfl⟩
    · refine ⟨_, List.mem_cons_self, ⟨_, rfl, by decide, by decide⟩, fun q hq => (by cases hq), hw2, fun c b hq => ?_⟩
      have q1 := kd_inr_f (hq (260, 260, 0, 649) (by decide))
      simp only at q1
      unfold kz_cp
      rw [if_neg (by omega)]
    · exact ⟨_, List.mem_cons_self, ⟨_, rfl, by decide, by decide⟩, fun q hq => (by cases hq), hw, fun c b _ => rfl⟩
