section
-- 98.z2
/-! ===== findBest by hand ===== -/
theorem kb_out {n c i : Nat} (h1 : ¬ c = 260 ∨ i < 150 ∨ 150 + n ≤ i) (h2 : (kb_W0.all fun q => !kd_inr c q.1 q.2.1 i q.2.2.1 q.2.2.2) = true) : ∀ q ∈ kb_W n, kd_inr c q.1 q.2.1 i q.2.2.1 q.2.2.2 = false := by
  intro q hq
  rcases List.mem_cons.mp hq with rfl | hq
  · show kd_inr c 260 260 i 150 (149 + n) = false
    cases e : kd_inr c 260 260 i 150 (149 + n) with
    | false => rfl
    | true =>
      exfalso
      unfold kd_inr at e
      simp only [Bool.and_eq_true] at e
      have a1 := Nat.le_of_ble_eq_true e.1
      have a2 := Nat.le_of_ble_eq_true e.2.1
      have a3 := Nat.le_of_ble_eq_true e.2.2.1
      have a4 := Nat.le_of_ble_eq_true e.2.2.2
      omega
  · have := List.all_eq_true.mp h2 q hq
    cases e : kd_inr c q.1 q.2.1 i q.2.2.1 q.2.2.2 with
    | false => rfl
    | true => rw [e] at this; cases this
def kb_WL (n : Nat) : kd_W := (279, 279, 0, 9) :: (259, 259, 35, 35) :: kb_W n
theorem kb_k1 : ∀ j, j < 10 → (kb_W0.all fun q => !kd_inr 279 q.1 q.2.1 j q.2.2.1 q.2.2.2) = true := by decide +kernel
theorem kb_k2 : (kb_W0.all fun q => !kd_inr 259 q.1 q.2.1 35 q.2.2.1 q.2.2.2) = true ∧ (kb_W0.all fun q => !kd_inr 260 q.1 q.2.1 1 q.2.2.1 q.2.2.2) = true ∧ (kb_W0.all fun q => !kd_inr 260 q.1 q.2.1 2 q.2.2.1 q.2.2.2) = true := by decide +kernel
theorem kb_k3 : ∀ j, j < 5 → (kb_W0.all fun q => !kd_inr 282 q.1 q.2.1 j q.2.2.1 q.2.2.2) = true := by decide +kernel
theorem kb_pre_tr {q : Nat} {h h' : kc_H} (e1 : h' 260 1 = h 260 1) (e2 : h' 260 2 = h 260 2) (hF : kd_gF 0 (fun _ => 0) (kb_pre q) h) : kd_gF 0 (fun _ => 0) (kb_pre q) h' := by
  match q, hF with
  | 0, hF =>
    intro x hx
    have hx2 : x = (260, 1, (0, 2147483649, 2147483651)) := List.mem_singleton.mp hx
    subst hx2
    show kd_g 0 _ _ (h' 260 1)
    rw [e1]
    exact hF _ hx
  | 1, hF =>
    intro x hx
    rcases List.mem_cons.mp hx with hx2 | hx2
    · subst hx2
      show kd_g 0 _ _ (h' 260 2)
      rw [e2]
      exact hF _ hx
    · have hx3 := List.mem_singleton.mp hx2
      subst hx3
      show kd_g 0 _ _ (h' 260 1)
      rw [e1]
      exact hF _ hx
  | q + 2, hF =>
    intro x hx
    rcases List.mem_cons.mp hx with hx2 | hx2
    · subst hx2
      show kd_g 0 _ _ (h' 260 2)
      rw [e2]
      exact hF _ hx
    · have hx3 := List.mem_singleton.mp hx2
      subst hx3
      show kd_g 0 _ _ (h' 260 1)
      rw [e1]
      exact hF _ hx
theorem kb_fr {n : Nat} {hB hh hh' : kc_H} {f2 : Nat → Nat} (hfr : kd_fr (kb_WL n) hB hh) (hfr' : kd_fr (kb_W n) hh hh') (e34 : hh' 259 34 = .inr (.inr (.inl (some 279)))) : kd_fr (kb_WL n) hB (kw_H hh' n f2) := by
  intro c i hq
  have q1 := kd_inr_f (hq (279, 279, 0, 9) List.mem_cons_self)
  have q2 := kd_inr_f (hq (259, 259, 35, 35) (List.mem_cons_of_mem _ List.mem_cons_self))
  simp only at q1 q2
  have e : hh' c i = hB c i := (hfr' c i (fun q hm => hq q (List.mem_cons_of_mem _ (List.mem_cons_of_mem _ hm)))).trans (hfr c i hq)
  rw [← e]
  unfold kw_H
  split
  · rename_i e0
    subst e0
    split
    · rename_i e1; subst e1; exact e34.symm
    · rw [if_neg (by omega)]
  · split
    · rename_i e0
      subst e0
      rw [if_neg (by omega)]
    · rfl
set_option maxRecDepth 20000 in
theorem kb_loop {g : kc_G} {d q n : Nat} (hg : kc_ok g) (hd : 3 ≤ d) (hn : n ≤ 5) (hbody : kb_body g d q n) {Q : Option kc_V → kc_H → Prop} {hB : kc_H} (hQ : ∀ (L : kc_L) (hE : kc_H), kd_wt kd_ty hE → kd_fr (kb_WL n) hB hE → kc_get L 0 = some (.inr (.inr (.inl (some 259)))) → kc_get L 2 = some (.inl (Int32.ofNat n)) → kc_Ev g d wk_m130 Q 214 L [] hE) : ∀ (u : Nat) (f : Nat → Nat) (hh : kc_H) (mv : kc_V) (L : kc_L), 11 ^ n - kw_v f n < u → (∀ j, j < 10 → f j ≤ 10) → (∀ j, j < n → f j < n) → kd_wt kd_ty hh → kd_fr (kb_WL n) hB hh → kd_gF 0 (fun _ => 0) (kb_pre q) hh → kd_g 0 (fun _ => 0) (kb_mn q) mv → hh 259 35 = .inl (Int32.ofNat n) → (∀ j, j < 10 → hh 279 j = .inl (Int32.ofNat (f j))) → kc_get L 0 = some (.inr (.inr (.inl (some 259)))) → kc_get L 1 = some mv → kc_get L 2 = some (.inl (Int32.ofNat n)) → kc_get L 3 = some (.inl (Int32.ofNat 1)) → kc_Ev g d wk_m130 Q 54 L [] hh := by
  intro u
  induction u with
  | zero => intro f hh mv L hu; omega
  | succ u ih =>
    intro f hh mv L hu hf hfn hw hfr hpre hmv e35 er l0 l1 l2 l3
    refine hbody Q hh mv L hw hpre hmv (fun j hj => ⟨f j, hfn j hj, er j (by omega)⟩) l0 l1 l2 l3 ?_
    intro L2 h2 hw2 hfr2 m0 m1 m2
    obtain ⟨mv2, m1, gm2⟩ := m1
    have e34 : h2 259 34 = .inr (.inr (.inl (some 279))) := kx_ofr (hw2 _ _ _ kw_k.1)
    have e35b : h2 259 35 = .inl (Int32.ofNat n) := (hfr2 259 35 (kb_out (Or.inl (by decide)) kb_k2.1)).trans e35
    have er2 : ∀ j, j < 10 → h2 279 j = .inl (Int32.ofNat (f j)) := fun j hj => (hfr2 279 j (kb_out (Or.inl (by decide)) (kb_k1 j hj))).trans (er j hj)
    have e1 : h2 260 1 = hh 260 1 := hfr2 260 1 (kb_out (Or.inr (Or.inl (by decide))) kb_k2.2.1)
    have e2 : h2 260 2 = hh 260 2 := hfr2 260 2 (kb_out (Or.inr (Or.inl (by decide))) kb_k2.2.2)
    have hpre2 := kb_pre_tr e1 e2 hpre
    have hid := kw_id e34 e35b er2
    refine kf_lo (L := [(0, .inr (.inr (.inl (some 259)))), (1, mv2), (2, .inl (Int32.ofNat n))]) ?_ ?_
    · intro q hq
      simp only [List.mem_cons, List.not_mem_nil, or_false] at hq
      rcases hq with rfl | rfl | rfl
      · exact m0
      · exact m1
      · exact m2
    rw [← hid]
    refine kx_go 1 (pc' := 207) (L' := [(0, .inr (.inr (.inl (some 259)))), (1, mv2), (2, .inl (Int32.ofNat n))]) (S' := [.inr (.inr (.inl (some 259)))]) (h' := (kw_H h2 n f)) (by with_unfolding_all rfl) ?_
    refine kc_call_rule (M2 := wk_m133) (av := [.inr (.inr (.inl (some 259)))]) (r := []) rfl rfl (kc_Con_le (kw_next (d := 0) hg (by omega) hf hfn) (by omega)) (fun rv h' hq => ?_)
    rcases hq with ⟨k, f2, rfl, b0, b1, b2, b3, b4, b5, rfl⟩ | ⟨f2, rfl, b5, rfl⟩
    · show kc_Ev g d wk_m130 Q 210 [(0, .inr (.inr (.inl (some 259)))), (1, mv2), (2, .inl (Int32.ofNat n))] [.inl (Int32.ofNat 1)] (kw_H h2 n f2)
      refine kx_go 2 (pc' := 54) (L' := [(3, .inl (Int32.ofNat 1)), (0, .inr (.inr (.inl (some 259)))), (1, mv2), (2, .inl (Int32.ofNat n))]) (S' := []) (h' := (kw_H h2 n f2)) (by with_unfolding_all rfl) ?_
      have hlt := kw_v_lt (n := n) (fun j hj => hf j (by omega)) b1 b2 n (by omega) (Nat.le_refl _)
      have hle := kw_v_le (f := f2) n (fun j hj => b5 j (by omega))
      refine ih f2 (kw_H h2 n f2) mv2 _ (by omega) b5 (fun j hj => ?_) (kw_wt hw2 (by omega) b5) (kb_fr hfr hfr2 e34) (kb_pre_tr (h := h2) rfl rfl hpre2) gm2 rfl (fun j hj => kw_r hj) rfl rfl rfl rfl
      by_cases q : j < k
      · rw [b1 j q]; exact hfn j hj
      · by_cases q2 : j = k
        · rw [q2]; exact b3
        · have := b4 j (by omega) hj; omega
    · show kc_Ev g d wk_m130 Q 210 [(0, .inr (.inr (.inl (some 259)))), (1, mv2), (2, .inl (Int32.ofNat n))] [.inl (Int32.ofNat 0)] (kw_H h2 n f2)
      refine kx_go 2 (pc' := 54) (L' := [(3, .inl (Int32.ofNat 0)), (0, .inr (.inr (.inl (some 259)))), (1, mv2), (2, .inl (Int32.ofNat n))]) (S' := []) (h' := (kw_H h2 n f2)) (by with_unfolding_all rfl) ?_
      refine kx_go 2 (pc' := 214) (L' := [(3, .inl (Int32.ofNat 0)), (0, .inr (.inr (.inl (some 259)))), (1, mv2), (2, .inl (Int32.ofNat n))]) (S' := []) (h' := (kw_H h2 n f2)) (by with_unfolding_all rfl) ?_
      exact hQ _ _ (kw_wt hw2 (by omega) b5) (kb_fr hfr hfr2 e34) rfl rfl
theorem kb_k4 : kd_rn (kd_ty 259) 40 = some (3, 282, 282) ∧ (∃ a b, kd_rn (kd_ty 259) 39 = some (0, a, b)) := ⟨by decide +kernel, 0, 4294967295, by decide +kernel⟩
theorem kb_k5 : ∀ j, j < 5 → kd_rn (kd_ty 260) (150 + j) = some (0, 2147483648, 2147483648 + 5) ∧ kd_rn (kd_ty 282) j = some (0, 2147483648, 2147483648 + 5) := by decide +kernel
set_option maxRecDepth 20000 in
theorem kb_endl {g : kc_G} {d n : Nat} {Q : Option kc_V → kc_H → Prop} {h : kc_H} (hn : n ≤ 5) (h0 : h 259 0 = .inr (.inr (.inl (some 260)))) (h40 : h 259 40 = .inr (.inr (.inl (some 282)))) (hz : ∃ z : Int32, h 259 39 = .inl z) (hs : ∀ k, k < n → ∃ z : Int32, h 282 k = .inl z) (hQ : ∀ r : Int32, (r = Int32.ofNat 0 ∨ r = Int32.ofNat 1) → Q (some (.inl r)) (kz_cp h 260 150 282 0 n)) : ∀ (m k : Nat), n - k = m → k ≤ n → kc_Ev g d wk_m130 Q 217 [(4, .inl (Int32.ofNat k)), (0, .inr (.inr (.inl (some 259)))), (2, .inl (Int32.ofNat n))] [] (kz_cp h 260 150 282 0 k) := by
  intro m
  induction m with
  | zero =>
    intro k hm hk
    refine kx_go 3 (pc' := (if kc_cnd .ge (Int32.ofNat k).toInt (Int32.ofNat n).toInt then 247 else 223)) (L' := [(4, .inl (Int32.ofNat k)), (0, .inr (.inr (.inl (some 259)))), (2, .inl (Int32.ofNat n))]) (S' := []) (h' := (kz_cp h 260 150 282 0 k)) (by with_unfolding_all rfl) ?_
    rw [if_pos ((kx_ge (by omega) (by omega)).mpr (by omega))]
    obtain rfl : k = n := by omega
    refine kx_go 1 (pc' := 248) (L' := [(4, .inl (Int32.ofNat k)), (0, .inr (.inr (.inl (some 259)))), (2, .inl (Int32.ofNat k))]) (S' := [.inr (.inr (.inl (some 259)))]) (h' := (kz_cp h 260 150 282 0 k)) (by with_unfolding_all rfl) ?_
    obtain ⟨z, ez⟩ := hz
    refine kx_getf (c := 259) (v := .inl (z)) rfl (by decide) ((kz_n (by decide)).trans ez) ?_
    refine kx_go 2 (pc' := (if kc_cnd .ge (z).toInt (Int32.ofNat 1000000).toInt then 261 else 257)) (L' := [(4, .inl (Int32.ofNat k)), (0, .inr (.inr (.inl (some 259)))), (2, .inl (Int32.ofNat k))]) (S' := []) (h' := (kz_cp h 260 150 282 0 k)) (by with_unfolding_all rfl) ?_
    by_cases e : kc_cnd .ge z.toInt (Int32.ofNat 1000000).toInt = true
    · rw [if_pos e]
      refine kx_go 1 (pc' := 262) (L' := [(4, .inl (Int32.ofNat k)), (0, .inr (.inr (.inl (some 259)))), (2, .inl (Int32.ofNat k))]) (S' := [.inl (Int32.ofNat 0)]) (h' := (kz_cp h 260 150 282 0 k)) (by with_unfolding_all rfl) ?_
      exact kc_ret_ok rfl (rv := some (.inl (Int32.ofNat 0))) rfl (hQ _ (Or.inl rfl))
    · rw [if_neg e]
      refine kx_go 2 (pc' := 262) (L' := [(4, .inl (Int32.ofNat k)), (0, .inr (.inr (.inl (some 259)))), (2, .inl (Int32.ofNat k))]) (S' := [.inl (Int32.ofNat 1)]) (h' := (kz_cp h 260 150 282 0 k)) (by with_unfolding_all rfl) ?_
      exact kc_ret_ok rfl (rv := some (.inl (Int32.ofNat 1))) rfl (hQ _ (Or.inr rfl))
  | succ m ih =>
    intro k hm hk
    refine kx_go 3 (pc' := (if kc_cnd .ge (Int32.ofNat k).toInt (Int32.ofNat n).toInt then 247 else 223)) (L' := [(4, .inl (Int32.ofNat k)), (0, .inr (.inr (.inl (some 259)))), (2, .inl (Int32.ofNat n))]) (S' := []) (h' := (kz_cp h 260 150 282 0 k)) (by with_unfolding_all rfl) ?_
    rw [if_neg (fun q => by have := (kx_ge (by omega) (by omega)).mp q; omega)]
    refine kx_go 1 (pc' := 224) (L' := [(4, .inl (Int32.ofNat k)), (0, .inr (.inr (.inl (some 259)))), (2, .inl (Int32.ofNat n))]) (S' := [.inr (.inr (.inl (some 259)))]) (h' := (kz_cp h 260 150 282 0 k)) (by with_unfolding_all rfl) ?_
    refine kx_getf (c := 259) (v := .inr (.inr (.inl (some 260)))) rfl (by decide) ((kz_n (by decide)).trans h0) ?_
    refine kx_go 4 (pc' := 234) (L' := [(4, .inl (Int32.ofNat k)), (0, .inr (.inr (.inl (some 259)))), (2, .inl (Int32.ofNat n))]) (S' := [.inr (.inr (.inl (some 259))), .inl ((Int32.ofNat 150) + (Int32.ofNat k)), .inr (.inr (.inl (some 260)))]) (h' := (kz_cp h 260 150 282 0 k)) (by with_unfolding_all rfl) ?_
    rw [← Int32.ofNat_add]
    refine kx_getf (c := 259) (v := .inr (.inr (.inl (some 282)))) rfl (by decide) ((kz_n (by decide)).trans h40) ?_
    refine kx_go 1 (pc' := 239) (L' := [(4, .inl (Int32.ofNat k)), (0, .inr (.inr (.inl (some 259)))), (2, .inl (Int32.ofNat n))]) (S' := [.inl (Int32.ofNat k), .inr (.inr (.inl (some 282))), .inl (Int32.ofNat (150 + k)), .inr (.inr (.inl (some 260)))]) (h' := (kz_cp h 260 150 282 0 k)) (by with_unfolding_all rfl) ?_
    obtain ⟨w, ew⟩ := hs k (by omega)
    refine kx_iald rfl (c := 282) (j := k) (m := 5) (v := .inl w) rfl (by decide) (by decide) (by omega) ((kz_n (by decide)).trans ew) ?_
    refine kx_iast rfl (c := 260) (j := 150 + k) (m := 650) rfl (by decide) (by decide) (by omega) ?_
    rw [kz_s (h := h) (c1 := 260) (o1 := 150) (c2 := 282) (o2 := 0) (k := k) (w := .inl w) (by rw [Nat.zero_add]; exact ew)]
    refine kx_go 2 (pc' := 217) (L' := [(4, .inl ((Int32.ofNat k) + Int32.ofInt 1)), (0, .inr (.inr (.inl (some 259)))), (2, .inl (Int32.ofNat n))]) (S' := []) (h' := (kz_cp h 260 150 282 0 (k + 1))) (by with_unfolding_all rfl) ?_
    rw [kx_inc]
    exact ih (k + 1) (by omega) (by omega)
set_option maxRecDepth 20000 in
theorem kb_place {g : kc_G} {d k : Nat} {h : kc_H} {w : Int32} (hg : kc_ok g) (hk : k < 5) (h0 : h 259 0 = .inr (.inr (.inl (some 260)))) (hw : h 260 (150 + k) = .inl w) : kc_Con g (d + 1) 259 [.inr (.inr (.inl (some 259))), .inl (Int32.ofNat k)] h (fun rv h' => rv = some (.inl w) ∧ h' = h) := by
  refine kc_Con_new hg (M := wk_m259) rfl rfl rfl (show 2 ≤ 2 by decide) ?_
  refine kx_go 1 (pc' := 1) (L' := [(0, .inr (.inr (.inl (some 259)))), (1, .inl (Int32.ofNat k))]) (S' := [.inr (.inr (.inl (some 259)))]) (h' := h) (by with_unfolding_all rfl) ?_
  refine kx_getf (c := 259) (v := .inr (.inr (.inl (some 260)))) rfl (by decide) h0 ?_
  refine kx_go 3 (pc' := 9) (L' := [(0, .inr (.inr (.inl (some 259)))), (1, .inl (Int32.ofNat k))]) (S' := [.inl ((Int32.ofNat 150) + (Int32.ofNat k)), .inr (.inr (.inl (some 260)))]) (h' := h) (by with_unfolding_all rfl) ?_
  rw [← Int32.ofNat_add]
  refine kx_iald rfl (c := 260) (j := 150 + k) (m := 650) (v := .inl w) rfl (by decide) (by decide) (by omega) hw ?_
  exact kc_ret_ok rfl (rv := some (.inl w)) rfl ⟨rfl, rfl⟩
set_option maxRecDepth 20000 in
theorem kb_save {g : kc_G} {d n : Nat} {Q : Option kc_V → kc_H → Prop} {h : kc_H} {mz : Int32} (hg : kc_ok g) (hd : 1 ≤ d) (hn : n ≤ 5) (h0 : h 259 0 = .inr (.inr (.inl (some 260)))) (h40 : h 259 40 = .inr (.inr (.inl (some 282)))) (hs : ∀ k, k < n → ∃ z : Int32, h 260 (150 + k) = .inl z) : ∀ (m k : Nat), n - k = m → k ≤ n → kc_Ev g d wk_m130 Q 35 [(3, .inl (Int32.ofNat n)), (2, .inl (Int32.ofNat n)), (0, .inr (.inr (.inl (some 259)))), (1, .inl (mz))] [] (kz_cp h 282 0 260 150 n) → kc_Ev g d wk_m130 Q 13 [(3, .inl (Int32.ofNat k)), (2, .inl (Int32.ofNat n)), (0, .inr (.inr (.inl (some 259)))), (1, .inl (mz))] [] (kz_cp h 282 0 260 150 k) := by
  intro m
  induction m with
  | zero =>
    intro k hm hk hK
    refine kx_go 3 (pc' := (if kc_cnd .ge (Int32.ofNat k).toInt (Int32.ofNat n).toInt then 35 else 18)) (L' := [(3, .inl (Int32.ofNat k)), (2, .inl (Int32.ofNat n)), (0, .inr (.inr (.inl (some 259)))), (1, .inl (mz))]) (S' := []) (h' := (kz_cp h 282 0 260 150 k)) (by with_unfolding_all rfl) ?_
    rw [if_pos ((kx_ge (by omega) (by omega)).mpr (by omega))]
    obtain rfl : k = n := by omega
    exact hK
  | succ m ih =>
    intro k hm hk hK
    refine kx_go 3 (pc' := (if kc_cnd .ge (Int32.ofNat k).toInt (Int32.ofNat n).toInt then 35 else 18)) (L' := [(3, .inl (Int32.ofNat k)), (2, .inl (Int32.ofNat n)), (0, .inr (.inr (.inl (some 259)))), (1, .inl (mz))]) (S' := []) (h' := (kz_cp h 282 0 260 150 k)) (by with_unfolding_all rfl) ?_
    rw [if_neg (fun q => by have := (kx_ge (by omega) (by omega)).mp q; omega)]
    refine kx_go 1 (pc' := 19) (L' := [(3, .inl (Int32.ofNat k)), (2, .inl (Int32.ofNat n)), (0, .inr (.inr (.inl (some 259)))), (1, .inl (mz))]) (S' := [.inr (.inr (.inl (some 259)))]) (h' := (kz_cp h 282 0 260 150 k)) (by with_unfolding_all rfl) ?_
    refine kx_getf (c := 259) (v := .inr (.inr (.inl (some 282)))) rfl (by decide) ((kz_n (by decide)).trans h40) ?_
    refine kx_go 3 (pc' := 25) (L' := [(3, .inl (Int32.ofNat k)), (2, .inl (Int32.ofNat n)), (0, .inr (.inr (.inl (some 259)))), (1, .inl (mz))]) (S' := [.inl (Int32.ofNat k), .inr (.inr (.inl (some 259))), .inl (Int32.ofNat k), .inr (.inr (.inl (some 282)))]) (h' := (kz_cp h 282 0 260 150 k)) (by with_unfolding_all rfl) ?_
    obtain ⟨w, ew⟩ := hs k (by omega)
    refine kc_call_rule (M2 := wk_m259) (av := [.inr (.inr (.inl (some 259))), .inl (Int32.ofNat k)]) (r := [.inl (Int32.ofNat k), .inr (.inr (.inl (some 282)))]) rfl rfl (kc_Con_le (kb_place (d := 0) (w := w) hg (by omega) ((kz_n (by decide)).trans h0) ((kz_n (by decide)).trans ew)) hd) (fun rv h' hq => ?_)
    obtain ⟨rfl, rfl⟩ := hq
    show kc_Ev g d wk_m130 Q 28 [(3, .inl (Int32.ofNat k)), (2, .inl (Int32.ofNat n)), (0, .inr (.inr (.inl (some 259)))), (1, .inl (mz))] [.inl (w), .inl (Int32.ofNat k), .inr (.inr (.inl (some 282)))] (kz_cp h 282 0 260 150 k)
    refine kx_iast rfl (c := 282) (j := k) (m := 5) rfl (by decide) (by decide) (by omega) ?_
    have e9 := kz_s (h := h) (c1 := 282) (o1 := 0) (c2 := 260) (o2 := 150) (k := k) (w := .inl w) ew
    rw [Nat.zero_add] at e9
    rw [e9]
    refine kx_go 2 (pc' := 13) (L' := [(3, .inl ((Int32.ofNat k) + Int32.ofInt 1)), (2, .inl (Int32.ofNat n)), (0, .inr (.inr (.inl (some 259)))), (1, .inl (mz))]) (S' := []) (h' := (kz_cp h 282 0 260 150 (k + 1))) (by with_unfolding_all rfl) ?_
    rw [kx_inc]
    exact ih (k + 1) (by omega) (by omega) hK
def kd_W130 : kd_W := (280, 280, 0, 4) :: (282, 282, 0, 4) :: (279, 279, 0, 9) :: (259, 259, 35, 35) :: kb_W0
def kd_P130 : List kd_P := [(some (0, 2147483648, 2147483649), [], kd_W130)]
theorem kb_k6 : kd_rn (kd_ty 260) 3 = some (0, 2147483648, 2147483648 + 5) := by decide +kernel
theorem kb_k8 : (259, 259, 38, 39) ∈ kb_W0 := by decide
theorem kb_inr {c c1 c2 i i1 i2 : Nat} (h : ¬ (c1 ≤ c ∧ c ≤ c2 ∧ i1 ≤ i ∧ i ≤ i2)) : kd_inr c c1 c2 i i1 i2 = false := by
  cases e : kd_inr c c1 c2 i i1 i2 with
  | false => rfl
  | true =>
    exfalso
    unfold kd_inr at e
    simp only [Bool.and_eq_true] at e
    exact h ⟨Nat.le_of_ble_eq_true e.1, Nat.le_of_ble_eq_true e.2.1, Nat.le_of_ble_eq_true e.2.2.1, Nat.le_of_ble_eq_true e.2.2.2⟩
set_option maxRecDepth 20000 in
theorem kb_whole {g : kc_G} {q : Nat} (hg : kc_ok g) (hmn : ∀ x, kd_g 0 (fun _ => 0) (kb_mn q) x → ∃ z : Int32, x = .inl z) (hbody : ∀ n, n ≤ 5 → kb_body g 6 q n) (hbeg : ∀ n, n ≤ 5 → kb_begin g 6 q n) : kd_hold g 7 kd_ty 130 ([(3, 259, 259), kb_mn q], kb_pre q, kd_P130) := by
  intro xs h hw hv hF
  match xs, hv with
  | [], hv => exact hv.elim
  | [_], hv => exact hv.2.elim
  | _ :: _ :: _ :: _, hv => exact hv.2.2.elim
  | [x0, x1], hv =>
    obtain ⟨a0, a1, -⟩ := hv
    have a0 := kx_ofr a0
    subst a0
    obtain ⟨mz, rfl⟩ := hmn x1 a1
    obtain ⟨n, n5, en⟩ := kx_ofg (by omega) (hw _ _ _ kb_k6)
    have b0 := kx_ofr (hw _ _ _ kz_k.1)
    refine kc_Con_new hg (M := wk_m130) rfl rfl rfl (show 2 ≤ 6 by decide) ?_
    refine kx_go 1 (pc' := 1) (L' := [(0, .inr (.inr (.inl (some 259)))), (1, .inl (mz))]) (S' := [.inr (.inr (.inl (some 259)))]) (h' := h) (by with_unfolding_all rfl) ?_
    refine kx_getf (c := 259) (v := .inr (.inr (.inl (some 260)))) rfl (by decide) b0 ?_
    refine kx_go 1 (pc' := 5) (L' := [(0, .inr (.inr (.inl (some 259)))), (1, .inl (mz))]) (S' := [.inl (Int32.ofNat 3), .inr (.inr (.inl (some 260)))]) (h' := h) (by with_unfolding_all rfl) ?_
    refine kx_iald rfl (c := 260) (j := 3) (m := 650) (v := .inl (Int32.ofNat n)) rfl (by decide) (by decide) (by decide) en ?_
    refine kx_go 2 (pc' := 8) (L' := [(2, .inl (Int32.ofNat n)), (0, .inr (.inr (.inl (some 259)))), (1, .inl (mz))]) (S' := [.inr (.inr (.inl (some 259)))]) (h' := h) (by with_unfolding_all rfl) ?_
    refine kc_call_rule (M2 := wk_m131) (av := [.inr (.inr (.inl (some 259)))]) (r := []) rfl rfl (kc_Con_le (kd_h131 hg _ h hw ⟨⟨259, rfl, by decide, by decide⟩, trivial⟩ (fun q hq => by cases hq)) (by decide)) (fun rv h1 hq => ?_)
    obtain ⟨pp, p1, p2, -, hw1, fr1⟩ := hq
    obtain rfl := List.mem_singleton.mp p1
    cases rv with
    | some y => exact p2.elim
    | none =>
      show kc_Ev g 6 wk_m130 _ 11 [(2, .inl (Int32.ofNat n)), (0, .inr (.inr (.inl (some 259)))), (1, .inl (mz))] [] h1
      refine kx_go 2 (pc' := 13) (L' := [(3, .inl (Int32.ofNat 0)), (2, .inl (Int32.ofNat n)), (0, .inr (.inr (.inl (some 259)))), (1, .inl (mz))]) (S' := []) (h' := h1) (by with_unfolding_all rfl) ?_
      have c0 := kx_ofr (hw1 _ _ _ kz_k.1)
      have c40 := kx_ofr (hw1 _ _ _ kb_k4.1)
      have hs1 : ∀ k, k < n → ∃ z : Int32, h1 260 (150 + k) = .inl z := fun k hk => by
        obtain ⟨z, -, ez⟩ := kx_ofg (by omega) (hw1 _ _ _ (kb_k5 k (by omega)).1)
        exact ⟨_, ez⟩
      have sv := kb_save (g := g) (d := 6) (Q := fun xr h' => ∃ p ∈ kd_P130, kd_rv 0 (fun _ => 0) p.1 xr ∧ kd_gF 0 (fun _ => 0) p.2.1 h' ∧ kd_wt kd_ty h' ∧ kd_fr p.2.2 h h') (mz := mz) hg (by decide) n5 c0 c40 hs1 n 0 (by omega) (by omega) ?_
      · rw [kz_0] at sv
        exact kf_lo (by intro q hq; simp only [List.mem_cons, List.not_mem_nil, or_false] at hq; rcases hq with rfl | rfl | rfl | rfl <;> rfl) sv
      have hw2 : kd_wt kd_ty (kz_cp h1 282 0 260 150 n) := kz_cp_wt hw1 (fun j hj => by rw [Nat.zero_add, (kb_k5 j (by omega)).1, (kb_k5 j (by omega)).2])
      refine hbeg n n5 _ _ (.inl mz) _ hw2 a1 rfl rfl rfl ?_
      intro L3 h3 hw3 fr3 m0 m1 m2 m3 e35 er
      obtain ⟨mv3, m1, gm3⟩ := m1
      have h12 : ∀ i, i < 150 → h3 260 i = h 260 i := fun i hi => by
        rw [fr3 260 i (fun q hq => by simp only [kb_WB, List.mem_cons, List.not_mem_nil, or_false] at hq; rcases hq with rfl | rfl | rfl <;> rfl), kz_n (by decide), fr1 260 i (fun q hq => by obtain rfl := List.mem_singleton.mp hq; rfl)]
      have hpre3 := kb_pre_tr (h12 1 (by decide)) (h12 2 (by decide)) hF
      have hex : ∀ j, ∃ v, j < 10 → v ≤ 10 ∧ h3 279 j = .inl (Int32.ofNat v) ∧ (j < n → v = j) := fun j => by
        by_cases hj : j < 10
        · by_cases h1 : j < n
          · exact ⟨j, fun _ => ⟨by omega, er j h1, fun _ => rfl⟩⟩
          · obtain ⟨v, a1, a2⟩ := kx_ofg (by omega) (hw3 _ _ _ (kw_k279 j hj).1)
            exact ⟨v, fun _ => ⟨a1, a2, fun b1 => absurd b1 h1⟩⟩
        · exact ⟨0, fun q => absurd q hj⟩
      obtain ⟨f, hf⟩ := Classical.axiomOfChoice hex
      refine kb_loop (q := q) hg (by decide) n5 (hbody n n5) (hB := h3) ?_ (11 ^ n - kw_v f n + 1) f h3 mv3 L3 (Nat.lt_succ_self _) (fun j hj => (hf j hj).1) (fun j hj => by have := (hf j (by omega)).2.2 hj; omega) hw3 (fun c i _ => rfl) hpre3 gm3 e35 (fun j hj => (hf j hj).2.1) m0 m1 m2 m3
      intro L4 h4 hw4 fr4 k0 k2
      refine kf_lo (L := [(0, .inr (.inr (.inl (some 259)))), (2, .inl (Int32.ofNat n))]) (fun q hq => ?_) ?_
      · simp only [List.mem_cons, List.not_mem_nil, or_false] at hq
        rcases hq with rfl | rfl
        · exact k0
        · exact k2
      refine kx_go 2 (pc' := 217) (L' := [(4, .inl (Int32.ofNat 0)), (0, .inr (.inr (.inl (some 259)))), (2, .inl (Int32.ofNat n))]) (S' := []) (h' := h4) (by with_unfolding_all rfl) ?_
      have d0 := kx_ofr (hw4 _ _ _ kz_k.1)
      have d40 := kx_ofr (hw4 _ _ _ kb_k4.1)
      have dz : ∃ z : Int32, h4 259 39 = .inl z := by
        obtain ⟨a, b, e⟩ := kb_k4.2
        obtain ⟨z, ez, -, -⟩ := hw4 _ _ _ e
        exact ⟨z, ez⟩
      have hs4 : ∀ k, k < n → ∃ z : Int32, h4 282 k = .inl z := fun k hk => by
        obtain ⟨z, -, ez⟩ := kx_ofg (by omega) (hw4 _ _ _ (kb_k5 k (by omega)).2)
        exact ⟨_, ez⟩
      have hw5 : kd_wt kd_ty (kz_cp h4 260 150 282 0 n) := kz_cp_wt hw4 (fun j hj => by rw [Nat.zero_add, (kb_k5 j (by omega)).1, (kb_k5 j (by omega)).2])
      have hfin : kd_fr kd_W130 h (kz_cp h4 260 150 282 0 n) := by
        intro c i hq
        have q1 := kd_inr_f (hq (280, 280, 0, 4) (by decide))
        have q2 := kd_inr_f (hq (282, 282, 0, 4) (by decide))
        have q3 := kd_inr_f (hq (279, 279, 0, 9) (by decide))
        have q4 := kd_inr_f (hq (259, 259, 35, 35) (by decide))
        have q5 := kd_inr_f (hq (259, 259, 38, 39) (by decide))
        simp only at q1 q2 q3 q4 q5
        have s1 : ∀ c i, ¬ (280 ≤ c ∧ c ≤ 280 ∧ 0 ≤ i ∧ i ≤ 4) → h1 c i = h c i := fun c i hn => fr1 c i (fun q hq => by
          obtain rfl := List.mem_singleton.mp hq
          exact kb_inr hn)
        have s3 : ∀ c i, ¬ (279 ≤ c ∧ c ≤ 279 ∧ 0 ≤ i ∧ i ≤ 9) → ¬ (259 ≤ c ∧ c ≤ 259 ∧ 35 ≤ i ∧ i ≤ 35) → ¬ (259 ≤ c ∧ c ≤ 259 ∧ 38 ≤ i ∧ i ≤ 39) → h3 c i = kz_cp h1 282 0 260 150 n c i := fun c i n1 n2 n3 => fr3 c i (fun q hq => by
          simp only [kb_WB, List.mem_cons, List.not_mem_nil, or_false] at hq
          rcases hq with rfl | rfl | rfl
          · exact kb_inr n1
          · exact kb_inr n2
          · exact kb_inr n3)
        unfold kz_cp
        by_cases e : c = 260 ∧ (150 ≤ i ∧ i < 150 + n)
        · rw [if_pos e, Nat.zero_add, fr4 282 (i - 150) (fun q hm => by
            rcases List.mem_cons.mp hm with rfl | hm
            · rfl
            · rcases List.mem_cons.mp hm with rfl | hm
              · rfl
              · exact kb_out (Or.inl (by decide)) (kb_k3 (i - 150) (by omega)) q hm), s3 282 (i - 150) (by omega) (by omega) (by omega)]
          unfold kz_cp
          rw [if_pos ⟨rfl, by omega, by omega⟩, s1 260 _ (by omega), e.1]
          congr 1
          omega
        · rw [if_neg e, fr4 c i (fun q hm => by
            rcases List.mem_cons.mp hm with rfl | hm
            · exact kb_inr q3
            · rcases List.mem_cons.mp hm with rfl | hm
              · exact kb_inr q4
              · rcases List.mem_cons.mp hm with rfl | hm
                · exact kb_inr (c1 := 260) (c2 := 260) (i1 := 150) (i2 := 149 + n) (by omega)
                · exact hq q (List.mem_cons_of_mem _ (List.mem_cons_of_mem _ (List.mem_cons_of_mem _ (List.mem_cons_of_mem _ hm))))), s3 c i q3 q4 q5]
          unfold kz_cp
          rw [if_neg (by omega), s1 c i q1]
      have en := kb_endl (g := g) (d := 6) (Q := fun xr h' => ∃ p ∈ kd_P130, kd_rv 0 (fun _ => 0) p.1 xr ∧ kd_gF 0 (fun _ => 0) p.2.1 h' ∧ kd_wt kd_ty h' ∧ kd_fr p.2.2 h h') n5 d0 d40 dz hs4 (fun r hr => ⟨_, List.mem_cons_self, ⟨r, rfl, by rcases hr with rfl | rfl <;> decide, by rcases hr with rfl | rfl <;> decide⟩, fun q hq => (by cases hq), hw5, hfin⟩) n 0 (by omega) (by omega)
      rw [kz_0] at en
      exact en
theorem kd_h130a {g : kc_G} (hg : kc_ok g) : kd_hold g 7 kd_ty 130 ([(3, 259, 259), kb_mn 0], kb_pre 0, kd_P130) := kb_whole hg (fun x hx => by obtain ⟨z, rfl, -, -⟩ := hx; exact ⟨z, rfl⟩) (fun n hn => (match n, hn with
  | 0, _ => kb_b0_0 hg
  | 1, _ => kb_b0_1 hg
  | 2, _ => kb_b0_2 hg
  | 3, _ => kb_b0_3 hg
  | 4, _ => kb_b0_4 hg
  | 5, _ => kb_b0_5 hg
  | n + 6, hn => absurd hn (by omega))) (fun n hn => (match n, hn with
  | 0, _ => kb_g0_0 hg
  | 1, _ => kb_g0_1 hg
  | 2, _ => kb_g0_2 hg
  | 3, _ => kb_g0_3 hg
  | 4, _ => kb_g0_4 hg
  | 5, _ => kb_g0_5 hg
  | n + 6, hn => absurd hn (by omega)))
theorem kd_h130b {g : kc_G} (hg : kc_ok g) : kd_hold g 7 kd_ty 130 ([(3, 259, 259), kb_mn 1], kb_pre 1, kd_P130) := kb_whole hg (fun x hx => by obtain ⟨z, rfl, -, -⟩ := hx; exact ⟨z, rfl⟩) (fun n hn => (match n, hn with
  | 0, _ => kb_b1_0 hg
  | 1, _ => kb_b1_1 hg
  | 2, _ => kb_b1_2 hg
  | 3, _ => kb_b1_3 hg
  | 4, _ => kb_b1_4 hg
  | 5, _ => kb_b1_5 hg
  | n + 6, hn => absurd hn (by omega))) (fun n hn => (match n, hn with
  | 0, _ => kb_g1_0 hg
  | 1, _ => kb_g1_1 hg
  | 2, _ => kb_g1_2 hg
  | 3, _ => kb_g1_3 hg
  | 4, _ => kb_g1_4 hg
  | 5, _ => kb_g1_5 hg
  | n + 6, hn => absurd hn (by omega)))
theorem kd_h130c {g : kc_G} (hg : kc_ok g) : kd_hold g 7 kd_ty 130 ([(3, 259, 259), kb_mn 2], kb_pre 2, kd_P130) := kb_whole hg (fun x hx => by obtain ⟨z, rfl, -, -⟩ := hx; exact ⟨z, rfl⟩) (fun n hn => (match n, hn with
  | 0, _ => kb_b2_0 hg
  | 1, _ => kb_b2_1 hg
  | 2, _ => kb_b2_2 hg
  | 3, _ => kb_b2_3 hg
  | 4, _ => kb_b2_4 hg
  | 5, _ => kb_b2_5 hg
  | n + 6, hn => absurd hn (by omega))) (fun n hn => (match n, hn with
  | 0, _ => kb_g2_0 hg
  | 1, _ => kb_g2_1 hg
  | 2, _ => kb_g2_2 hg
  | 3, _ => kb_g2_3 hg
  | 4, _ => kb_g2_4 hg
  | 5, _ => kb_g2_5 hg
  | n + 6, hn => absurd hn (by omega)))
end
section
-- 98.zkm00
/-! ===== contracts, zkm 0 ===== -/
def kd_T130a : kd_Tc := ([(3, 259, 259), kb_mn 0], kb_pre 0, kd_P130)
def kd_T130b : kd_Tc := ([(3, 259, 259), kb_mn 1], kb_pre 1, kd_P130)
def kd_T130c : kd_Tc := ([(3, 259, 259), kb_mn 2], kb_pre 2, kd_P130)
def kd_P129 : List kd_P := [(some (0, 0, 4294967295), [], [(272, 278, 0, 0), (280, 282, 0, 4), (276, 278, 0, 5), (272, 272, 0, 9), (278, 279, 0, 9), (273, 277, 1, 1), (273, 277, 2, 2), (273, 277, 3, 3), (273, 277, 4, 4), (273, 277, 5, 5), (273, 275, 6, 6), (273, 275, 7, 7), (273, 275, 8, 8), (273, 275, 9, 9), (259, 259, 33, 33), (259, 259, 35, 35), (259, 259, 38, 39)])]
def kd_T129q0 : kd_Tc := ([(3, 259, 259), (0, 0, 4294967295)], [(260, 1, (0, 2147483648, 2147483648)), (260, 2, (0, 2147483648, 2147483648))], kd_P129)
def kd_C129q0 : List (Nat × kd_Tc) := [(130, kd_T130b), (121, kd_T121n0m0)]
def kd_S129q0 : List kd_St := []
theorem kd_e129q0 : kd_run0 kd_ty kd_x129 3 (kd_call kd_ty kd_xt (kd_ctl kd_C129q0) 600 1) kd_T129q0 600 kd_S129q0 = true := by decide +kernel
theorem kd_h129q0 {g : kc_G} (hg : kc_ok g) : kd_hold g 9 kd_ty 129 kd_T129q0 := kd_mk (d0 := 7) (di := 1) hg kd_xk129 rfl rfl rfl rfl (kd_al_r kd_C129q0 ⟨kd_hold_le (kd_h130b hg) (by decide), kd_hold_le (kd_h121n0m0 hg) (by decide), trivial⟩) (by decide) (by decide +kernel) kd_e129q0 (kd_al_r kd_S129q0 trivial)
def kd_T129q1 : kd_Tc := ([(3, 259, 259), (0, 0, 4294967295)], [(260, 1, (0, 2147483649, 2147483649)), (260, 2, (0, 2147483648, 2147483648))], kd_P129)
def kd_C129q1 : List (Nat × kd_Tc) := [(130, kd_T130a), (121, kd_T121n0m1)]
def kd_S129q1 : List kd_St := []
theorem kd_e129q1 : kd_run0 kd_ty kd_x129 3 (kd_call kd_ty kd_xt (kd_ctl kd_C129q1) 600 1) kd_T129q1 600 kd_S129q1 = true := by decide +kernel
theorem kd_h129q1 {g : kc_G} (hg : kc_ok g) : kd_hold g 9 kd_ty 129 kd_T129q1 := kd_mk (d0 := 7) (di := 1) hg kd_xk129 rfl rfl rfl rfl (kd_al_r kd_C129q1 ⟨kd_hold_le (kd_h130a hg) (by decide), kd_hold_le (kd_h121n0m1 hg) (by decide), trivial⟩) (by decide) (by decide +kernel) kd_e129q1 (kd_al_r kd_S129q1 trivial)
def kd_T129q2 : kd_Tc := ([(3, 259, 259), (0, 0, 4294967295)], [(260, 1, (0, 2147483650, 2147483650)), (260, 2, (0, 2147483648, 2147483648))], kd_P129)
def kd_C129q2 : List (Nat × kd_Tc) := [(130, kd_T130a), (121, kd_T121n0m2)]
def kd_S129q2 : List kd_St := []
theorem kd_e129q2 : kd_run0 kd_ty kd_x129 3 (kd_call kd_ty kd_xt (kd_ctl kd_C129q2) 600 1) kd_T129q2 600 kd_S129q2 = true := by decide +kernel
theorem kd_h129q2 {g : kc_G} (hg : kc_ok g) : kd_hold g 9 kd_ty 129 kd_T129q2 := kd_mk (d0 := 7) (di := 1) hg kd_xk129 rfl rfl rfl rfl (kd_al_r kd_C129q2 ⟨kd_hold_le (kd_h130a hg) (by decide), kd_hold_le (kd_h121n0m2 hg) (by decide), trivial⟩) (by decide) (by decide +kernel) kd_e129q2 (kd_al_r kd_S129q2 trivial)
def kd_T129q3 : kd_Tc := ([(3, 259, 259), (0, 0, 4294967295)], [(260, 1, (0, 2147483651, 2147483651)), (260, 2, (0, 2147483648, 2147483648))], kd_P129)
def kd_C129q3 : List (Nat × kd_Tc) := [(130, kd_T130a), (121, kd_T121n0m3)]
def kd_S129q3 : List kd_St := []
theorem kd_e129q3 : kd_run0 kd_ty kd_x129 3 (kd_call kd_ty kd_xt (kd_ctl kd_C129q3) 600 1) kd_T129q3 600 kd_S129q3 = true := by decide +kernel
theorem kd_h129q3 {g : kc_G} (hg : kc_ok g) : kd_hold g 9 kd_ty 129 kd_T129q3 := kd_mk (d0 := 7) (di := 1) hg kd_xk129 rfl rfl rfl rfl (kd_al_r kd_C129q3 ⟨kd_hold_le (kd_h130a hg) (by decide), kd_hold_le (kd_h121n0m3 hg) (by decide), trivial⟩) (by decide) (by decide +kernel) kd_e129q3 (kd_al_r kd_S129q3 trivial)
def kd_T129q4 : kd_Tc := ([(3, 259, 259), (0, 0, 4294967295)], [(260, 1, (0, 2147483648, 2147483648)), (260, 2, (0, 2147483649, 2147483649))], kd_P129)
def kd_C129q4 : List (Nat × kd_Tc) := [(130, kd_T130c), (121, kd_T121n1m0)]
def kd_S129q4 : List kd_St := []
theorem kd_e129q4 : kd_run0 kd_ty kd_x129 3 (kd_call kd_ty kd_xt (kd_ctl kd_C129q4) 600 1) kd_T129q4 600 kd_S129q4 = true := by decide +kernel
theorem kd_h129q4 {g : kc_G} (hg : kc_ok g) : kd_hold g 9 kd_ty 129 kd_T129q4 := kd_mk (d0 := 7) (di := 1) hg kd_xk129 rfl rfl rfl rfl (kd_al_r kd_C129q4 ⟨kd_hold_le (kd_h130c hg) (by decide), kd_hold_le (kd_h121n1m0 hg) (by decide), trivial⟩) (by decide) (by decide +kernel) kd_e129q4 (kd_al_r kd_S129q4 trivial)
def kd_T129q5 : kd_Tc := ([(3, 259, 259), (0, 0, 4294967295)], [(260, 1, (0, 2147483649, 2147483649)), (260, 2, (0, 2147483649, 2147483649))], kd_P129)
def kd_C129q5 : List (Nat × kd_Tc) := [(130, kd_T130a), (121, kd_T121n1m1)]
def kd_S129q5 : List kd_St := []
theorem kd_e129q5 : kd_run0 kd_ty kd_x129 3 (kd_call kd_ty kd_xt (kd_ctl kd_C129q5) 600 1) kd_T129q5 600 kd_S129q5 = true := by decide +kernel
theorem kd_h129q5 {g : kc_G} (hg : kc_ok g) : kd_hold g 9 kd_ty 129 kd_T129q5 := kd_mk (d0 := 7) (di := 1) hg kd_xk129 rfl rfl rfl rfl (kd_al_r kd_C129q5 ⟨kd_hold_le (kd_h130a hg) (by decide), kd_hold_le (kd_h121n1m1 hg) (by decide), trivial⟩) (by decide) (by decide +kernel) kd_e129q5 (kd_al_r kd_S129q5 trivial)
def kd_T129q6 : kd_Tc := ([(3, 259, 259), (0, 0, 4294967295)], [(260, 1, (0, 2147483650, 2147483650)), (260, 2, (0, 2147483649, 2147483649))], kd_P129)
def kd_C129q6 : List (Nat × kd_Tc) := [(130, kd_T130a), (121, kd_T121n1m2)]
def kd_S129q6 : List kd_St := []
theorem kd_e129q6 : kd_run0 kd_ty kd_x129 3 (kd_call kd_ty kd_xt (kd_ctl kd_C129q6) 600 1) kd_T129q6 600 kd_S129q6 = true := by decide +kernel
theorem kd_h129q6 {g : kc_G} (hg : kc_ok g) : kd_hold g 9 kd_ty 129 kd_T129q6 := kd_mk (d0 := 7) (di := 1) hg kd_xk129 rfl rfl rfl rfl (kd_al_r kd_C129q6 ⟨kd_hold_le (kd_h130a hg) (by decide), kd_hold_le (kd_h121n1m2 hg) (by decide), trivial⟩) (by decide) (by decide +kernel) kd_e129q6 (kd_al_r kd_S129q6 trivial)
def kd_T129q7 : kd_Tc := ([(3, 259, 259), (0, 0, 4294967295)], [(260, 1, (0, 2147483651, 2147483651)), (260, 2, (0, 2147483649, 2147483649))], kd_P129)
def kd_C129q7 : List (Nat × kd_Tc) := [(130, kd_T130a), (121, kd_T121n1m3)]
def kd_S129q7 : List kd_St := []
theorem kd_e129q7 : kd_run0 kd_ty kd_x129 3 (kd_call kd_ty kd_xt (kd_ctl kd_C129q7) 600 1) kd_T129q7 600 kd_S129q7 = true := by decide +kernel
theorem kd_h129q7 {g : kc_G} (hg : kc_ok g) : kd_hold g 9 kd_ty 129 kd_T129q7 := kd_mk (d0 := 7) (di := 1) hg kd_xk129 rfl rfl rfl rfl (kd_al_r kd_C129q7 ⟨kd_hold_le (kd_h130a hg) (by decide), kd_hold_le (kd_h121n1m3 hg) (by decide), trivial⟩) (by decide) (by decide +kernel) kd_e129q7 (kd_al_r kd_S129q7 trivial)
def kd_T129q8 : kd_Tc := ([(3, 259, 259), (0, 0, 4294967295)], [(260, 1, (0, 2147483648, 2147483648)), (260, 2, (0, 2147483650, 2147483650))], kd_P129)
def kd_C129q8 : List (Nat × kd_Tc) := [(130, kd_T130c), (121, kd_T121n2m0)]
def kd_S129q8 : List kd_St := []
theorem kd_e129q8 : kd_run0 kd_ty kd_x129 3 (kd_call kd_ty kd_xt (kd_ctl kd_C129q8) 600 1) kd_T129q8 600 kd_S129q8 = true := by decide +kernel
theorem kd_h129q8 {g : kc_G} (hg : kc_ok g) : kd_hold g 9 kd_ty 129 kd_T129q8 := kd_mk (d0 := 7) (di := 1) hg kd_xk129 rfl rfl rfl rfl (kd_al_r kd_C129q8 ⟨kd_hold_le (kd_h130c hg) (by decide), kd_hold_le (kd_h121n2m0 hg) (by decide), trivial⟩) (by decide) (by decide +kernel) kd_e129q8 (kd_al_r kd_S129q8 trivial)
def kd_T129q9 : kd_Tc := ([(3, 259, 259), (0, 0, 4294967295)], [(260, 1, (0, 2147483649, 2147483649)), (260, 2, (0, 2147483650, 2147483650))], kd_P129)
def kd_C129q9 : List (Nat × kd_Tc) := [(130, kd_T130a), (121, kd_T121n2m1)]
def kd_S129q9 : List kd_St := []
theorem kd_e129q9 : kd_run0 kd_ty kd_x129 3 (kd_call kd_ty kd_xt (kd_ctl kd_C129q9) 600 1) kd_T129q9 600 kd_S129q9 = true := by decide +kernel
theorem kd_h129q9 {g : kc_G} (hg : kc_ok g) : kd_hold g 9 kd_ty 129 kd_T129q9 := kd_mk (d0 := 7) (di := 1) hg kd_xk129 rfl rfl rfl rfl (kd_al_r kd_C129q9 ⟨kd_hold_le (kd_h130a hg) (by decide), kd_hold_le (kd_h121n2m1 hg) (by decide), trivial⟩) (by decide) (by decide +kernel) kd_e129q9 (kd_al_r kd_S129q9 trivial)
def kd_T129q10 : kd_Tc := ([(3, 259, 259), (0, 0, 4294967295)], [(260, 1, (0, 2147483650, 2147483650)), (260, 2, (0, 2147483650, 2147483650))], kd_P129)
def kd_C129q10 : List (Nat × kd_Tc) := [(130, kd_T130a), (121, kd_T121n2m2)]
def kd_S129q10 : List kd_St := []
theorem kd_e129q10 : kd_run0 kd_ty kd_x129 3 (kd_call kd_ty kd_xt (kd_ctl kd_C129q10) 600 1) kd_T129q10 600 kd_S129q10 = true := by decide +kernel
theorem kd_h129q10 {g : kc_G} (hg : kc_ok g) : kd_hold g 9 kd_ty 129 kd_T129q10 := kd_mk (d0 := 7) (di := 1) hg kd_xk129 rfl rfl rfl rfl (kd_al_r kd_C129q10 ⟨kd_hold_le (kd_h130a hg) (by decide), kd_hold_le (kd_h121n2m2 hg) (by decide), trivial⟩) (by decide) (by decide +kernel) kd_e129q10 (kd_al_r kd_S129q10 trivial)
def kd_T129q11 : kd_Tc := ([(3, 259, 259), (0, 0, 4294967295)], [(260, 1, (0, 2147483651, 2147483651)), (260, 2, (0, 2147483650, 2147483650))], kd_P129)
def kd_C129q11 : List (Nat × kd_Tc) := [(130, kd_T130a), (121, kd_T121n2m3)]
def kd_S129q11 : List kd_St := []
theorem kd_e129q11 : kd_run0 kd_ty kd_x129 3 (kd_call kd_ty kd_xt (kd_ctl kd_C129q11) 600 1) kd_T129q11 600 kd_S129q11 = true := by decide +kernel
theorem kd_h129q11 {g : kc_G} (hg : kc_ok g) : kd_hold g 9 kd_ty 129 kd_T129q11 := kd_mk (d0 := 7) (di := 1) hg kd_xk129 rfl rfl rfl rfl (kd_al_r kd_C129q11 ⟨kd_hold_le (kd_h130a hg) (by decide), kd_hold_le (kd_h121n2m3 hg) (by decide), trivial⟩) (by decide) (by decide +kernel) kd_e129q11 (kd_al_r kd_S129q11 trivial)
def kd_T129q12 : kd_Tc := ([(3, 259, 259), (0, 0, 4294967295)], [(260, 1, (0, 2147483648, 2147483648)), (260, 2, (0, 2147483651, 2147483651))], kd_P129)
def kd_C129q12 : List (Nat × kd_Tc) := [(130, kd_T130c), (121, kd_T121n3m0)]
def kd_S129q12 : List kd_St := []
theorem kd_e129q12 : kd_run0 kd_ty kd_x129 3 (kd_call kd_ty kd_xt (kd_ctl kd_C129q12) 600 1) kd_T129q12 600 kd_S129q12 = true := by decide +kernel
theorem kd_h129q12 {g : kc_G} (hg : kc_ok g) : kd_hold g 9 kd_ty 129 kd_T129q12 := kd_mk (d0 := 7) (di := 1) hg kd_xk129 rfl rfl rfl rfl (kd_al_r kd_C129q12 ⟨kd_hold_le (kd_h130c hg) (by decide), kd_hold_le (kd_h121n3m0 hg) (by decide), trivial⟩) (by decide) (by decide +kernel) kd_e129q12 (kd_al_r kd_S129q12 trivial)
def kd_T129q13 : kd_Tc := ([(3, 259, 259), (0, 0, 4294967295)], [(260, 1, (0, 2147483649, 2147483649)), (260, 2, (0, 2147483651, 2147483651))], kd_P129)
def kd_C129q13 : List (Nat × kd_Tc) := [(130, kd_T130a), (121, kd_T121n3m1)]
def kd_S129q13 : List kd_St := []
theorem kd_e129q13 : kd_run0 kd_ty kd_x129 3 (kd_call kd_ty kd_xt (kd_ctl kd_C129q13) 600 1) kd_T129q13 600 kd_S129q13 = true := by decide +kernel
theorem kd_h129q13 {g : kc_G} (hg : kc_ok g) : kd_hold g 9 kd_ty 129 kd_T129q13 := kd_mk (d0 := 7) (di := 1) hg kd_xk129 rfl rfl rfl rfl (kd_al_r kd_C129q13 ⟨kd_hold_le (kd_h130a hg) (by decide), kd_hold_le (kd_h121n3m1 hg) (by decide), trivial⟩) (by decide) (by decide +kernel) kd_e129q13 (kd_al_r kd_S129q13 trivial)
def kd_T129q14 : kd_Tc := ([(3, 259, 259), (0, 0, 4294967295)], [(260, 1, (0, 2147483650, 2147483650)), (260, 2, (0, 2147483651, 2147483651))], kd_P129)
def kd_C129q14 : List (Nat × kd_Tc) := [(130, kd_T130a), (121, kd_T121n3m2)]
def kd_S129q14 : List kd_St := []
theorem kd_e129q14 : kd_run0 kd_ty kd_x129 3 (kd_call kd_ty kd_xt (kd_ctl kd_C129q14) 600 1) kd_T129q14 600 kd_S129q14 = true := by decide +kernel
theorem kd_h129q14 {g : kc_G} (hg : kc_ok g) : kd_hold g 9 kd_ty 129 kd_T129q14 := kd_mk (d0 := 7) (di := 1) hg kd_xk129 rfl rfl rfl rfl (kd_al_r kd_C129q14 ⟨kd_hold_le (kd_h130a hg) (by decide), kd_hold_le (kd_h121n3m2 hg) (by decide), trivial⟩) (by decide) (by decide +kernel) kd_e129q14 (kd_al_r kd_S129q14 trivial)
def kd_T129q15 : kd_Tc := ([(3, 259, 259), (0, 0, 4294967295)], [(260, 1, (0, 2147483651, 2147483651)), (260, 2, (0, 2147483651, 2147483651))], kd_P129)
def kd_C129q15 : List (Nat × kd_Tc) := [(130, kd_T130a), (121, kd_T121n3m3)]
def kd_S129q15 : List kd_St := []
theorem kd_e129q15 : kd_run0 kd_ty kd_x129 3 (kd_call kd_ty kd_xt (kd_ctl kd_C129q15) 600 1) kd_T129q15 600 kd_S129q15 = true := by decide +kernel
theorem kd_h129q15 {g : kc_G} (hg : kc_ok g) : kd_hold g 9 kd_ty 129 kd_T129q15 := kd_mk (d0 := 7) (di := 1) hg kd_xk129 rfl rfl rfl rfl (kd_al_r kd_C129q15 ⟨kd_hold_le (kd_h130a hg) (by decide), kd_hold_le (kd_h121n3m3 hg) (by decide), trivial⟩) (by decide) (by decide +kernel) kd_e129q15 (kd_al_r kd_S129q15 trivial)
def kd_T129q16 : kd_Tc := ([(3, 259, 259), (0, 0, 4294967295)], [(260, 1, (0, 2147483648, 2147483648)), (260, 2, (0, 2147483652, 2147483652))], kd_P129)
def kd_C129q16 : List (Nat × kd_Tc) := [(130, kd_T130c), (121, kd_T121n4m0)]
def kd_S129q16 : List kd_St := []
theorem kd_e129q16 : kd_run0 kd_ty kd_x129 3 (kd_call kd_ty kd_xt (kd_ctl kd_C129q16) 600 1) kd_T129q16 600 kd_S129q16 = true := by decide +kernel
theorem kd_h129q16 {g : kc_G} (hg : kc_ok g) : kd_hold g 9 kd_ty 129 kd_T129q16 := kd_mk (d0 := 7) (di := 1) hg kd_xk129 rfl rfl rfl rfl (kd_al_r kd_C129q16 ⟨kd_hold_le (kd_h130c hg) (by decide), kd_hold_le (kd_h121n4m0 hg) (by decide), trivial⟩) (by decide) (by decide +kernel) kd_e129q16 (kd_al_r kd_S129q16 trivial)
def kd_T129q17 : kd_Tc := ([(3, 259, 259), (0, 0, 4294967295)], [(260, 1, (0, 2147483649, 2147483649)), (260, 2, (0, 2147483652, 2147483652))], kd_P129)
def kd_C129q17 : List (Nat × kd_Tc) := [(130, kd_T130a), (121, kd_T121n4m1)]
def kd_S129q17 : List kd_St := []
theorem kd_e129q17 : kd_run0 kd_ty kd_x129 3 (kd_call kd_ty kd_xt (kd_ctl kd_C129q17) 600 1) kd_T129q17 600 kd_S129q17 = true := by decide +kernel
theorem kd_h129q17 {g : kc_G} (hg : kc_ok g) : kd_hold g 9 kd_ty 129 kd_T129q17 := kd_mk (d0 := 7) (di := 1) hg kd_xk129 rfl rfl rfl rfl (kd_al_r kd_C129q17 ⟨kd_hold_le (kd_h130a hg) (by decide), kd_hold_le (kd_h121n4m1 hg) (by decide), trivial⟩) (by decide) (by decide +kernel) kd_e129q17 (kd_al_r kd_S129q17 trivial)
def kd_T129q18 : kd_Tc := ([(3, 259, 259), (0, 0, 4294967295)], [(260, 1, (0, 2147483650, 2147483650)), (260, 2, (0, 2147483652, 2147483652))], kd_P129)
def kd_C129q18 : List (Nat × kd_Tc) := [(130, kd_T130a), (121, kd_T121n4m2)]
def kd_S129q18 : List kd_St := []
theorem kd_e129q18 : kd_run0 kd_ty kd_x129 3 (kd_call kd_ty kd_xt (kd_ctl kd_C129q18) 600 1) kd_T129q18 600 kd_S129q18 = true := by decide +kernel
theorem kd_h129q18 {g : kc_G} (hg : kc_ok g) : kd_hold g 9 kd_ty 129 kd_T129q18 := kd_mk (d0 := 7) (di := 1) hg kd_xk129 rfl rfl rfl rfl (kd_al_r kd_C129q18 ⟨kd_hold_le (kd_h130a hg) (by decide), kd_hold_le (kd_h121n4m2 hg) (by decide), trivial⟩) (by decide) (by decide +kernel) kd_e129q18 (kd_al_r kd_S129q18 trivial)
def kd_T129q19 : kd_Tc := ([(3, 259, 259), (0, 0, 4294967295)], [(260, 1, (0, 2147483651, 2147483651)), (260, 2, (0, 2147483652, 2147483652))], kd_P129)
def kd_C129q19 : List (Nat × kd_Tc) := [(130, kd_T130a), (121, kd_T121n4m3)]
def kd_S129q19 : List kd_St := []
theorem kd_e129q19 : kd_run0 kd_ty kd_x129 3 (kd_call kd_ty kd_xt (kd_ctl kd_C129q19) 600 1) kd_T129q19 600 kd_S129q19 = true := by decide +kernel
theorem kd_h129q19 {g : kc_G} (hg : kc_ok g) : kd_hold g 9 kd_ty 129 kd_T129q19 := kd_mk (d0 := 7) (di := 1) hg kd_xk129 rfl rfl rfl rfl (kd_al_r kd_C129q19 ⟨kd_hold_le (kd_h130a hg) (by decide), kd_hold_le (kd_h121n4m3 hg) (by decide), trivial⟩) (by decide) (by decide +kernel) kd_e129q19 (kd_al_r kd_S129q19 trivial)
def kd_T129q20 : kd_Tc := ([(3, 259, 259), (0, 0, 4294967295)], [(260, 1, (0, 2147483648, 2147483648)), (260, 2, (0, 2147483653, 2147483653))], kd_P129)
def kd_C129q20 : List (Nat × kd_Tc) := [(130, kd_T130c), (121, kd_T121n5m0)]
def kd_S129q20 : List kd_St := []
theorem kd_e129q20 : kd_run0 kd_ty kd_x129 3 (kd_call kd_ty kd_xt (kd_ctl kd_C129q20) 600 1) kd_T129q20 600 kd_S129q20 = true := by decide +kernel
theorem kd_h129q20 {g : kc_G} (hg : kc_ok g) : kd_hold g 9 kd_ty 129 kd_T129q20 := kd_mk (d0 := 7) (di := 1) hg kd_xk129 rfl rfl rfl rfl (kd_al_r kd_C129q20 ⟨kd_hold_le (kd_h130c hg) (by decide), kd_hold_le (kd_h121n5m0 hg) (by decide), trivial⟩) (by decide) (by decide +kernel) kd_e129q20 (kd_al_r kd_S129q20 trivial)
def kd_T129q21 : kd_Tc := ([(3, 259, 259), (0, 0, 4294967295)], [(260, 1, (0, 2147483649, 2147483649)), (260, 2, (0, 2147483653, 2147483653))], kd_P129)
def kd_C129q21 : List (Nat × kd_Tc) := [(130, kd_T130a), (121, kd_T121n5m1)]
def kd_S129q21 : List kd_St := []
theorem kd_e129q21 : kd_run0 kd_ty kd_x129 3 (kd_call kd_ty kd_xt (kd_ctl kd_C129q21) 600 1) kd_T129q21 600 kd_S129q21 = true := by decide +kernel
theorem kd_h129q21 {g : kc_G} (hg : kc_ok g) : kd_hold g 9 kd_ty 129 kd_T129q21 := kd_mk (d0 := 7) (di := 1) hg kd_xk129 rfl rfl rfl rfl (kd_al_r kd_C129q21 ⟨kd_hold_le (kd_h130a hg) (by decide), kd_hold_le (kd_h121n5m1 hg) (by decide), trivial⟩) (by decide) (by decide +kernel) kd_e129q21 (kd_al_r kd_S129q21 trivial)
def kd_T129q22 : kd_Tc := ([(3, 259, 259), (0, 0, 4294967295)], [(260, 1, (0, 2147483650, 2147483650)), (260, 2, (0, 2147483653, 2147483653))], kd_P129)
def kd_C129q22 : List (Nat × kd_Tc) := [(130, kd_T130a), (121, kd_T121n5m2)]
def kd_S129q22 : List kd_St := []
theorem kd_e129q22 : kd_run0 kd_ty kd_x129 3 (kd_call kd_ty kd_xt (kd_ctl kd_C129q22) 600 1) kd_T129q22 600 kd_S129q22 = true := by decide +kernel
theorem kd_h129q22 {g : kc_G} (hg : kc_ok g) : kd_hold g 9 kd_ty 129 kd_T129q22 := kd_mk (d0 := 7) (di := 1) hg kd_xk129 rfl rfl rfl rfl (kd_al_r kd_C129q22 ⟨kd_hold_le (kd_h130a hg) (by decide), kd_hold_le (kd_h121n5m2 hg) (by decide), trivial⟩) (by decide) (by decide +kernel) kd_e129q22 (kd_al_r kd_S129q22 trivial)
def kd_T129q23 : kd_Tc := ([(3, 259, 259), (0, 0, 4294967295)], [(260, 1, (0, 2147483651, 2147483651)), (260, 2, (0, 2147483653, 2147483653))], kd_P129)
def kd_C129q23 : List (Nat × kd_Tc) := [(121, kd_T121n5m3)]
def kd_S129q23 : List kd_St := []
theorem kd_e129q23 : kd_run0 kd_ty kd_x129 3 (kd_call kd_ty kd_xt (kd_ctl kd_C129q23) 600 1) kd_T129q23 600 kd_S129q23 = true := by decide +kernel
theorem kd_h129q23 {g : kc_G} (hg : kc_ok g) : kd_hold g 3 kd_ty 129 kd_T129q23 := kd_mk (d0 := 1) (di := 1) hg kd_xk129 rfl rfl rfl rfl (kd_al_r kd_C129q23 ⟨kd_hold_le (kd_h121n5m3 hg) (by decide), trivial⟩) (by decide) (by decide +kernel) kd_e129q23 (kd_al_r kd_S129q23 trivial)
def kd_T129q24 : kd_Tc := ([(3, 259, 259), (0, 0, 4294967295)], [(260, 1, (0, 2147483648, 2147483648)), (260, 2, (0, 2147483654, 2147483654))], kd_P129)
def kd_C129q24 : List (Nat × kd_Tc) := [(130, kd_T130c), (121, kd_T121n6m0)]
def kd_S129q24 : List kd_St := []
theorem kd_e129q24 : kd_run0 kd_ty kd_x129 3 (kd_call kd_ty kd_xt (kd_ctl kd_C129q24) 600 1) kd_T129q24 600 kd_S129q24 = true := by decide +kernel
theorem kd_h129q24 {g : kc_G} (hg : kc_ok g) : kd_hold g 9 kd_ty 129 kd_T129q24 := kd_mk (d0 := 7) (di := 1) hg kd_xk129 rfl rfl rfl rfl (kd_al_r kd_C129q24 ⟨kd_hold_le (kd_h130c hg) (by decide), kd_hold_le (kd_h121n6m0 hg) (by decide), trivial⟩) (by decide) (by decide +kernel) kd_e129q24 (kd_al_r kd_S129q24 trivial)
def kd_T129q25 : kd_Tc := ([(3, 259, 259), (0, 0, 4294967295)], [(260, 1, (0, 2147483649, 2147483649)), (260, 2, (0, 2147483654, 2147483654))], kd_P129)
def kd_C129q25 : List (Nat × kd_Tc) := [(130, kd_T130a), (121, kd_T121n6m1)]
def kd_S129q25 : List kd_St := []
theorem kd_e129q25 : kd_run0 kd_ty kd_x129 3 (kd_call kd_ty kd_xt (kd_ctl kd_C129q25) 600 1) kd_T129q25 600 kd_S129q25 = true := by decide +kernel
theorem kd_h129q25 {g : kc_G} (hg : kc_ok g) : kd_hold g 9 kd_ty 129 kd_T129q25 := kd_mk (d0 := 7) (di := 1) hg kd_xk129 rfl rfl rfl rfl (kd_al_r kd_C129q25 ⟨kd_hold_le (kd_h130a hg) (by decide), kd_hold_le (kd_h121n6m1 hg) (by decide), trivial⟩) (by decide) (by decide +kernel) kd_e129q25 (kd_al_r kd_S129q25 trivial)
def kd_T129q26 : kd_Tc := ([(3, 259, 259), (0, 0, 4294967295)], [(260, 1, (0, 2147483650, 2147483650)), (260, 2, (0, 2147483654, 2147483654))], kd_P129)
def kd_C129q26 : List (Nat × kd_Tc) := [(130, kd_T130a), (121, kd_T121n6m2)]
def kd_S129q26 : List kd_St := []
theorem kd_e129q26 : kd_run0 kd_ty kd_x129 3 (kd_call kd_ty kd_xt (kd_ctl kd_C129q26) 600 1) kd_T129q26 600 kd_S129q26 = true := by decide +kernel
theorem kd_h129q26 {g : kc_G} (hg : kc_ok g) : kd_hold g 9 kd_ty 129 kd_T129q26 := kd_mk (d0 := 7) (di := 1) hg kd_xk129 rfl rfl rfl rfl (kd_al_r kd_C129q26 ⟨kd_hold_le (kd_h130a hg) (by decide), kd_hold_le (kd_h121n6m2 hg) (by decide), trivial⟩) (by decide) (by decide +kernel) kd_e129q26 (kd_al_r kd_S129q26 trivial)
def kd_T129q27 : kd_Tc := ([(3, 259, 259), (0, 0, 4294967295)], [(260, 1, (0, 2147483651, 2147483651)), (260, 2, (0, 2147483654, 2147483654))], kd_P129)
def kd_C129q27 : List (Nat × kd_Tc) := [(121, kd_T121n6m3)]
def kd_S129q27 : List kd_St := []
theorem kd_e129q27 : kd_run0 kd_ty kd_x129 3 (kd_call kd_ty kd_xt (kd_ctl kd_C129q27) 600 1) kd_T129q27 600 kd_S129q27 = true := by decide +kernel
theorem kd_h129q27 {g : kc_G} (hg : kc_ok g) : kd_hold g 3 kd_ty 129 kd_T129q27 := kd_mk (d0 := 1) (di := 1) hg kd_xk129 rfl rfl rfl rfl (kd_al_r kd_C129q27 ⟨kd_hold_le (kd_h121n6m3 hg) (by decide), trivial⟩) (by decide) (by decide +kernel) kd_e129q27 (kd_al_r kd_S129q27 trivial)
def kd_T129q28 : kd_Tc := ([(3, 259, 259), (0, 0, 4294967295)], [(260, 1, (0, 2147483648, 2147483648)), (260, 2, (0, 2147483655, 2147483655))], kd_P129)
def kd_C129q28 : List (Nat × kd_Tc) := [(130, kd_T130c), (121, kd_T121n7m0)]
def kd_S129q28 : List kd_St := []
theorem kd_e129q28 : kd_run0 kd_ty kd_x129 3 (kd_call kd_ty kd_xt (kd_ctl kd_C129q28) 600 1) kd_T129q28 600 kd_S129q28 = true := by decide +kernel
theorem kd_h129q28 {g : kc_G} (hg : kc_ok g) : kd_hold g 9 kd_ty 129 kd_T129q28 := kd_mk (d0 := 7) (di := 1) hg kd_xk129 rfl rfl rfl rfl (kd_al_r kd_C129q28 ⟨kd_hold_le (kd_h130c hg) (by decide), kd_hold_le (kd_h121n7m0 hg) (by decide), trivial⟩) (by decide) (by decide +kernel) kd_e129q28 (kd_al_r kd_S129q28 trivial)
def kd_T129q29 : kd_Tc := ([(3, 259, 259), (0, 0, 4294967295)], [(260, 1, (0, 2147483649, 2147483649)), (260, 2, (0, 2147483655, 2147483655))], kd_P129)
def kd_C129q29 : List (Nat × kd_Tc) := [(130, kd_T130a), (121, kd_T121n7m1)]
def kd_S129q29 : List kd_St := []
theorem kd_e129q29 : kd_run0 kd_ty kd_x129 3 (kd_call kd_ty kd_xt (kd_ctl kd_C129q29) 600 1) kd_T129q29 600 kd_S129q29 = true := by decide +kernel
theorem kd_h129q29 {g : kc_G} (hg : kc_ok g) : kd_hold g 9 kd_ty 129 kd_T129q29 := kd_mk (d0 := 7) (di := 1) hg kd_xk129 rfl rfl rfl rfl (kd_al_r kd_C129q29 ⟨kd_hold_le (kd_h130a hg) (by decide), kd_hold_le (kd_h121n7m1 hg) (by decide), trivial⟩) (by decide) (by decide +kernel) kd_e129q29 (kd_al_r kd_S129q29 trivial)
def kd_T129q30 : kd_Tc := ([(3, 259, 259), (0, 0, 4294967295)], [(260, 1, (0, 2147483650, 2147483650)), (260, 2, (0, 2147483655, 2147483655))], kd_P129)
def kd_C129q30 : List (Nat × kd_Tc) := [(121, kd_T121n7m2)]
def kd_S129q30 : List kd_St := []
theorem kd_e129q30 : kd_run0 kd_ty kd_x129 3 (kd_call kd_ty kd_xt (kd_ctl kd_C129q30) 600 1) kd_T129q30 600 kd_S129q30 = true := by decide +kernel
theorem kd_h129q30 {g : kc_G} (hg : kc_ok g) : kd_hold g 3 kd_ty 129 kd_T129q30 := kd_mk (d0 := 1) (di := 1) hg kd_xk129 rfl rfl rfl rfl (kd_al_r kd_C129q30 ⟨kd_hold_le (kd_h121n7m2 hg) (by decide), trivial⟩) (by decide) (by decide +kernel) kd_e129q30 (kd_al_r kd_S129q30 trivial)
def kd_T129q31 : kd_Tc := ([(3, 259, 259), (0, 0, 4294967295)], [(260, 1, (0, 2147483651, 2147483651)), (260, 2, (0, 2147483655, 2147483655))], kd_P129)
def kd_C129q31 : List (Nat × kd_Tc) := [(121, kd_T121n7m3)]
def kd_S129q31 : List kd_St := []
theorem kd_e129q31 : kd_run0 kd_ty kd_x129 3 (kd_call kd_ty kd_xt (kd_ctl kd_C129q31) 600 1) kd_T129q31 600 kd_S129q31 = true := by decide +kernel
theorem kd_h129q31 {g : kc_G} (hg : kc_ok g) : kd_hold g 3 kd_ty 129 kd_T129q31 := kd_mk (d0 := 1) (di := 1) hg kd_xk129 rfl rfl rfl rfl (kd_al_r kd_C129q31 ⟨kd_hold_le (kd_h121n7m3 hg) (by decide), trivial⟩) (by decide) (by decide +kernel) kd_e129q31 (kd_al_r kd_S129q31 trivial)
def kd_T129q32 : kd_Tc := ([(3, 259, 259), (0, 0, 4294967295)], [(260, 1, (0, 2147483648, 2147483648)), (260, 2, (0, 2147483656, 2147483656))], kd_P129)
def kd_C129q32 : List (Nat × kd_Tc) := [(130, kd_T130c), (121, kd_T121n8m0)]
def kd_S129q32 : List kd_St := []
theorem kd_e129q32 : kd_run0 kd_ty kd_x129 3 (kd_call kd_ty kd_xt (kd_ctl kd_C129q32) 600 1) kd_T129q32 600 kd_S129q32 = true := by decide +kernel
theorem kd_h129q32 {g : kc_G} (hg : kc_ok g) : kd_hold g 9 kd_ty 129 kd_T129q32 := kd_mk (d0 := 7) (di := 1) hg kd_xk129 rfl rfl rfl rfl (kd_al_r kd_C129q32 ⟨kd_hold_le (kd_h130c hg) (by decide), kd_hold_le (kd_h121n8m0 hg) (by decide), trivial⟩) (by decide) (by decide +kernel) kd_e129q32 (kd_al_r kd_S129q32 trivial)
def kd_T129q33 : kd_Tc := ([(3, 259, 259), (0, 0, 4294967295)], [(260, 1, (0, 2147483649, 2147483649)), (260, 2, (0, 2147483656, 2147483656))], kd_P129)
def kd_C129q33 : List (Nat × kd_Tc) := [(130, kd_T130a), (121, kd_T121n8m1)]
def kd_S129q33 : List kd_St := []
theorem kd_e129q33 : kd_run0 kd_ty kd_x129 3 (kd_call kd_ty kd_xt (kd_ctl kd_C129q33) 600 1) kd_T129q33 600 kd_S129q33 = true := by decide +kernel
theorem kd_h129q33 {g : kc_G} (hg : kc_ok g) : kd_hold g 9 kd_ty 129 kd_T129q33 := kd_mk (d0 := 7) (di := 1) hg kd_xk129 rfl rfl rfl rfl (kd_al_r kd_C129q33 ⟨kd_hold_le (kd_h130a hg) (by decide), kd_hold_le (kd_h121n8m1 hg) (by decide), trivial⟩) (by decide) (by decide +kernel) kd_e129q33 (kd_al_r kd_S129q33 trivial)
def kd_T129q34 : kd_Tc := ([(3, 259, 259), (0, 0, 4294967295)], [(260, 1, (0, 2147483650, 2147483650)), (260, 2, (0, 2147483656, 2147483656))], kd_P129)
def kd_C129q34 : List (Nat × kd_Tc) := [(121, kd_T121n8m2)]
def kd_S129q34 : List kd_St := []
theorem kd_e129q34 : kd_run0 kd_ty kd_x129 3 (kd_call kd_ty kd_xt (kd_ctl kd_C129q34) 600 1) kd_T129q34 600 kd_S129q34 = true := by decide +kernel
theorem kd_h129q34 {g : kc_G} (hg : kc_ok g) : kd_hold g 3 kd_ty 129 kd_T129q34 := kd_mk (d0 := 1) (di := 1) hg kd_xk129 rfl rfl rfl rfl (kd_al_r kd_C129q34 ⟨kd_hold_le (kd_h121n8m2 hg) (by decide), trivial⟩) (by decide) (by decide +kernel) kd_e129q34 (kd_al_r kd_S129q34 trivial)
def kd_T129q35 : kd_Tc := ([(3, 259, 259), (0, 0, 4294967295)], [(260, 1, (0, 2147483651, 2147483651)), (260, 2, (0, 2147483656, 2147483656))], kd_P129)
def kd_C129q35 : List (Nat × kd_Tc) := [(121, kd_T121n8m3)]
def kd_S129q35 : List kd_St := []
theorem kd_e129q35 : kd_run0 kd_ty kd_x129 3 (kd_call kd_ty kd_xt (kd_ctl kd_C129q35) 600 1) kd_T129q35 600 kd_S129q35 = true := by decide +kernel
theorem kd_h129q35 {g : kc_G} (hg : kc_ok g) : kd_hold g 3 kd_ty 129 kd_T129q35 := kd_mk (d0 := 1) (di := 1) hg kd_xk129 rfl rfl rfl rfl (kd_al_r kd_C129q35 ⟨kd_hold_le (kd_h121n8m3 hg) (by decide), trivial⟩) (by decide) (by decide +kernel) kd_e129q35 (kd_al_r kd_S129q35 trivial)
def kd_T129q36 : kd_Tc := ([(3, 259, 259), (0, 0, 4294967295)], [(260, 1, (0, 2147483648, 2147483648)), (260, 2, (0, 2147483657, 2147483657))], kd_P129)
def kd_C129q36 : List (Nat × kd_Tc) := [(130, kd_T130c), (121, kd_T121n9m0)]
def kd_S129q36 : List kd_St := []
theorem kd_e129q36 : kd_run0 kd_ty kd_x129 3 (kd_call kd_ty kd_xt (kd_ctl kd_C129q36) 600 1) kd_T129q36 600 kd_S129q36 = true := by decide +kernel
theorem kd_h129q36 {g : kc_G} (hg : kc_ok g) : kd_hold g 9 kd_ty 129 kd_T129q36 := kd_mk (d0 := 7) (di := 1) hg kd_xk129 rfl rfl rfl rfl (kd_al_r kd_C129q36 ⟨kd_hold_le (kd_h130c hg) (by decide), kd_hold_le (kd_h121n9m0 hg) (by decide), trivial⟩) (by decide) (by decide +kernel) kd_e129q36 (kd_al_r kd_S129q36 trivial)
def kd_T129q37 : kd_Tc := ([(3, 259, 259), (0, 0, 4294967295)], [(260, 1, (0, 2147483649, 2147483649)), (260, 2, (0, 2147483657, 2147483657))], kd_P129)
def kd_C129q37 : List (Nat × kd_Tc) := [(130, kd_T130a), (121, kd_T121n9m1)]
def kd_S129q37 : List kd_St := []
theorem kd_e129q37 : kd_run0 kd_ty kd_x129 3 (kd_call kd_ty kd_xt (kd_ctl kd_C129q37) 600 1) kd_T129q37 600 kd_S129q37 = true := by decide +kernel
theorem kd_h129q37 {g : kc_G} (hg : kc_ok g) : kd_hold g 9 kd_ty 129 kd_T129q37 := kd_mk (d0 := 7) (di := 1) hg kd_xk129 rfl rfl rfl rfl (kd_al_r kd_C129q37 ⟨kd_hold_le (kd_h130a hg) (by decide), kd_hold_le (kd_h121n9m1 hg) (by decide), trivial⟩) (by decide) (by decide +kernel) kd_e129q37 (kd_al_r kd_S129q37 trivial)
def kd_T129q38 : kd_Tc := ([(3, 259, 259), (0, 0, 4294967295)], [(260, 1, (0, 2147483650, 2147483650)), (260, 2, (0, 2147483657, 2147483657))], kd_P129)
def kd_C129q38 : List (Nat × kd_Tc) := [(121, kd_T121n9m2)]
def kd_S129q38 : List kd_St := []
theorem kd_e129q38 : kd_run0 kd_ty kd_x129 3 (kd_call kd_ty kd_xt (kd_ctl kd_C129q38) 600 1) kd_T129q38 600 kd_S129q38 = true := by decide +kernel
theorem kd_h129q38 {g : kc_G} (hg : kc_ok g) : kd_hold g 3 kd_ty 129 kd_T129q38 := kd_mk (d0 := 1) (di := 1) hg kd_xk129 rfl rfl rfl rfl (kd_al_r kd_C129q38 ⟨kd_hold_le (kd_h121n9m2 hg) (by decide), trivial⟩) (by decide) (by decide +kernel) kd_e129q38 (kd_al_r kd_S129q38 trivial)
def kd_T129q39 : kd_Tc := ([(3, 259, 259), (0, 0, 4294967295)], [(260, 1, (0, 2147483651, 2147483651)), (260, 2, (0, 2147483657, 2147483657))], kd_P129)
def kd_C129q39 : List (Nat × kd_Tc) := [(121, kd_T121n9m3)]
def kd_S129q39 : List kd_St := []
theorem kd_e129q39 : kd_run0 kd_ty kd_x129 3 (kd_call kd_ty kd_xt (kd_ctl kd_C129q39) 600 1) kd_T129q39 600 kd_S129q39 = true := by decide +kernel
theorem kd_h129q39 {g : kc_G} (hg : kc_ok g) : kd_hold g 3 kd_ty 129 kd_T129q39 := kd_mk (d0 := 1) (di := 1) hg kd_xk129 rfl rfl rfl rfl (kd_al_r kd_C129q39 ⟨kd_hold_le (kd_h121n9m3 hg) (by decide), trivial⟩) (by decide) (by decide +kernel) kd_e129q39 (kd_al_r kd_S129q39 trivial)
def kd_T129q40 : kd_Tc := ([(3, 259, 259), (0, 0, 4294967295)], [(260, 1, (0, 2147483648, 2147483648)), (260, 2, (0, 2147483658, 2147483658))], kd_P129)
def kd_C129q40 : List (Nat × kd_Tc) := [(130, kd_T130c), (121, kd_T121n10m0)]
def kd_S129q40 : List kd_St := []
theorem kd_e129q40 : kd_run0 kd_ty kd_x129 3 (kd_call kd_ty kd_xt (kd_ctl kd_C129q40) 600 1) kd_T129q40 600 kd_S129q40 = true := by decide +kernel
theorem kd_h129q40 {g : kc_G} (hg : kc_ok g) : kd_hold g 9 kd_ty 129 kd_T129q40 := kd_mk (d0 := 7) (di := 1) hg kd_xk129 rfl rfl rfl rfl (kd_al_r kd_C129q40 ⟨kd_hold_le (kd_h130c hg) (by decide), kd_hold_le (kd_h121n10m0 hg) (by decide), trivial⟩) (by decide) (by decide +kernel) kd_e129q40 (kd_al_r kd_S129q40 trivial)
def kd_T129q41 : kd_Tc := ([(3, 259, 259), (0, 0, 4294967295)], [(260, 1, (0, 2147483649, 2147483649)), (260, 2, (0, 2147483658, 2147483658))], kd_P129)
def kd_C129q41 : List (Nat × kd_Tc) := [(130, kd_T130a), (121, kd_T121n10m1)]
def kd_S129q41 : List kd_St := []
theorem kd_e129q41 : kd_run0 kd_ty kd_x129 3 (kd_call kd_ty kd_xt (kd_ctl kd_C129q41) 600 1) kd_T129q41 600 kd_S129q41 = true := by decide +kernel
theorem kd_h129q41 {g : kc_G} (hg : kc_ok g) : kd_hold g 9 kd_ty 129 kd_T129q41 := kd_mk (d0 := 7) (di := 1) hg kd_xk129 rfl rfl rfl rfl (kd_al_r kd_C129q41 ⟨kd_hold_le (kd_h130a hg) (by decide), kd_hold_le (kd_h121n10m1 hg) (by decide), trivial⟩) (by decide) (by decide +kernel) kd_e129q41 (kd_al_r kd_S129q41 trivial)
def kd_T129q42 : kd_Tc := ([(3, 259, 259), (0, 0, 4294967295)], [(260, 1, (0, 2147483650, 2147483650)), (260, 2, (0, 2147483658, 2147483658))], kd_P129)
def kd_C129q42 : List (Nat × kd_Tc) := [(121, kd_T121n10m2)]
def kd_S129q42 : List kd_St := []
theorem kd_e129q42 : kd_run0 kd_ty kd_x129 3 (kd_call kd_ty kd_xt (kd_ctl kd_C129q42) 600 1) kd_T129q42 600 kd_S129q42 = true := by decide +kernel
theorem kd_h129q42 {g : kc_G} (hg : kc_ok g) : kd_hold g 3 kd_ty 129 kd_T129q42 := kd_mk (d0 := 1) (di := 1) hg kd_xk129 rfl rfl rfl rfl (kd_al_r kd_C129q42 ⟨kd_hold_le (kd_h121n10m2 hg) (by decide), trivial⟩) (by decide) (by decide +kernel) kd_e129q42 (kd_al_r kd_S129q42 trivial)
def kd_T129q43 : kd_Tc := ([(3, 259, 259), (0, 0, 4294967295)], [(260, 1, (0, 2147483651, 2147483651)), (260, 2, (0, 2147483658, 2147483658))], kd_P129)
def kd_C129q43 : List (Nat × kd_Tc) := [(121, kd_T121n10m3)]
def kd_S129q43 : List kd_St := []
theorem kd_e129q43 : kd_run0 kd_ty kd_x129 3 (kd_call kd_ty kd_xt (kd_ctl kd_C129q43) 600 1) kd_T129q43 600 kd_S129q43 = true := by decide +kernel
theorem kd_h129q43 {g : kc_G} (hg : kc_ok g) : kd_hold g 3 kd_ty 129 kd_T129q43 := kd_mk (d0 := 1) (di := 1) hg kd_xk129 rfl rfl rfl rfl (kd_al_r kd_C129q43 ⟨kd_hold_le (kd_h121n10m3 hg) (by decide), trivial⟩) (by decide) (by decide +kernel) kd_e129q43 (kd_al_r kd_S129q43 trivial)
def kd_T129 : kd_Tc := ([(3, 259, 259), (0, 0, 4294967295)], [], kd_P129)
theorem kd_h129 {g : kc_G} (hg : kc_ok g) : kd_hold g 9 kd_ty 129 kd_T129 := kd_hold_fact (a := 2147483648) (b := 2147483658) 260 2 [(2147483648, 2147483648), (2147483649, 2147483649), (2147483650, 2147483650), (2147483651, 2147483651), (2147483652, 2147483652), (2147483653, 2147483653), (2147483654, 2147483654), (2147483655, 2147483655), (2147483656, 2147483656), (2147483657, 2147483657), (2147483658, 2147483658)] (by decide +kernel) (by decide +kernel) (kd_al_r [(2147483648, 2147483648), (2147483649, 2147483649), (2147483650, 2147483650), (2147483651, 2147483651), (2147483652, 2147483652), (2147483653, 2147483653), (2147483654, 2147483654), (2147483655, 2147483655), (2147483656, 2147483656), (2147483657, 2147483657), (2147483658, 2147483658)] ⟨(kd_hold_fact (a := 2147483648) (b := 2147483651) 260 1 [(2147483648, 2147483648), (2147483649, 2147483649), (2147483650, 2147483650), (2147483651, 2147483651)] (by decide +kernel) (by decide +kernel) (kd_al_r [(2147483648, 2147483648), (2147483649, 2147483649), (2147483650, 2147483650), (2147483651, 2147483651)] ⟨(kd_hold_le (kd_h129q0 hg) (by decide)), (kd_hold_le (kd_h129q1 hg) (by decide)), (kd_hold_le (kd_h129q2 hg) (by decide)), (kd_hold_le (kd_h129q3 hg) (by decide)), trivial⟩)), (kd_hold_fact (a := 2147483648) (b := 2147483651) 260 1 [(2147483648, 2147483648), (2147483649, 2147483649), (2147483650, 2147483650), (2147483651, 2147483651)] (by decide +kernel) (by decide +kernel) (kd_al_r [(2147483648, 2147483648), (2147483649, 2147483649), (2147483650, 2147483650), (2147483651, 2147483651)] ⟨(kd_hold_le (kd_h129q4 hg) (by decide)), (kd_hold_le (kd_h129q5 hg) (by decide)), (kd_hold_le (kd_h129q6 hg) (by decide)), (kd_hold_le (kd_h129q7 hg) (by decide)), trivial⟩)), (kd_hold_fact (a := 2147483648) (b := 2147483651) 260 1 [(2147483648, 2147483648), (2147483649, 2147483649), (2147483650, 2147483650), (2147483651, 2147483651)] (by decide +kernel) (by decide +kernel) (kd_al_r [(2147483648, 2147483648), (2147483649, 2147483649), (2147483650, 2147483650), (2147483651, 2147483651)] ⟨(kd_hold_le (kd_h129q8 hg) (by decide)), (kd_hold_le (kd_h129q9 hg) (by decide)), (kd_hold_le (kd_h129q10 hg) (by decide)), (kd_hold_le (kd_h129q11 hg) (by decide)), trivial⟩)), (kd_hold_fact (a := 2147483648) (b := 2147483651) 260 1 [(2147483648, 2147483648), (2147483649, 2147483649), (2147483650, 2147483650), (2147483651, 2147483651)] (by decide +kernel) (by decide +kernel) (kd_al_r [(2147483648, 2147483648), (2147483649, 2147483649), (2147483650, 2147483650), (2147483651, 2147483651)] ⟨(kd_hold_le (kd_h129q12 hg) (by decide)), (kd_hold_le (kd_h129q13 hg) (by decide)), (kd_hold_le (kd_h129q14 hg) (by decide)), (kd_hold_le (kd_h129q15 hg) (by decide)), trivial⟩)), (kd_hold_fact (a := 2147483648) (b := 2147483651) 260 1 [(2147483648, 2147483648), (2147483649, 2147483649), (2147483650, 2147483650), (2147483651, 2147483651)] (by decide +kernel) (by decide +kernel) (kd_al_r [(2147483648, 2147483648), (2147483649, 2147483649), (2147483650, 2147483650), (2147483651, 2147483651)] ⟨(kd_hold_le (kd_h129q16 hg) (by decide)), (kd_hold_le (kd_h129q17 hg) (by decide)), (kd_hold_le (kd_h129q18 hg) (by decide)), (kd_hold_le (kd_h129q19 hg) (by decide)), trivial⟩)), (kd_hold_fact (a := 2147483648) (b := 2147483651) 260 1 [(2147483648, 2147483648), (2147483649, 2147483649), (2147483650, 2147483650), (2147483651, 2147483651)] (by decide +kernel) (by decide +kernel) (kd_al_r [(2147483648, 2147483648), (2147483649, 2147483649), (2147483650, 2147483650), (2147483651, 2147483651)] ⟨(kd_hold_le (kd_h129q20 hg) (by decide)), (kd_hold_le (kd_h129q21 hg) (by decide)), (kd_hold_le (kd_h129q22 hg) (by decide)), (kd_hold_le (kd_h129q23 hg) (by decide)), trivial⟩)), (kd_hold_fact (a := 2147483648) (b := 2147483651) 260 1 [(2147483648, 2147483648), (2147483649, 2147483649), (2147483650, 2147483650), (2147483651, 2147483651)] (by decide +kernel) (by decide +kernel) (kd_al_r [(2147483648, 2147483648), (2147483649, 2147483649), (2147483650, 2147483650), (2147483651, 2147483651)] ⟨(kd_hold_le (kd_h129q24 hg) (by decide)), (kd_hold_le (kd_h129q25 hg) (by decide)), (kd_hold_le (kd_h129q26 hg) (by decide)), (kd_hold_le (kd_h129q27 hg) (by decide)), trivial⟩)), (kd_hold_fact (a := 2147483648) (b := 2147483651) 260 1 [(2147483648, 2147483648), (2147483649, 2147483649), (2147483650, 2147483650), (2147483651, 2147483651)] (by decide +kernel) (by decide +kernel) (kd_al_r [(2147483648, 2147483648), (2147483649, 2147483649), (2147483650, 2147483650), (2147483651, 2147483651)] ⟨(kd_hold_le (kd_h129q28 hg) (by decide)), (kd_hold_le (kd_h129q29 hg) (by decide)), (kd_hold_le (kd_h129q30 hg) (by decide)), (kd_hold_le (kd_h129q31 hg) (by decide)), trivial⟩)), (kd_hold_fact (a := 2147483648) (b := 2147483651) 260 1 [(2147483648, 2147483648), (2147483649, 2147483649), (2147483650, 2147483650), (2147483651, 2147483651)] (by decide +kernel) (by decide +kernel) (kd_al_r [(2147483648, 2147483648), (2147483649, 2147483649), (2147483650, 2147483650), (2147483651, 2147483651)] ⟨(kd_hold_le (kd_h129q32 hg) (by decide)), (kd_hold_le (kd_h129q33 hg) (by decide)), (kd_hold_le (kd_h129q34 hg) (by decide)), (kd_hold_le (kd_h129q35 hg) (by decide)), trivial⟩)), (kd_hold_fact (a := 2147483648) (b := 2147483651) 260 1 [(2147483648, 2147483648), (2147483649, 2147483649), (2147483650, 2147483650), (2147483651, 2147483651)] (by decide +kernel) (by decide +kernel) (kd_al_r [(2147483648, 2147483648), (2147483649, 2147483649), (2147483650, 2147483650), (2147483651, 2147483651)] ⟨(kd_hold_le (kd_h129q36 hg) (by decide)), (kd_hold_le (kd_h129q37 hg) (by decide)), (kd_hold_le (kd_h129q38 hg) (by decide)), (kd_hold_le (kd_h129q39 hg) (by decide)), trivial⟩)), (kd_hold_fact (a := 2147483648) (b := 2147483651) 260 1 [(2147483648, 2147483648), (2147483649, 2147483649), (2147483650, 2147483650), (2147483651, 2147483651)] (by decide +kernel) (by decide +kernel) (kd_al_r [(2147483648, 2147483648), (2147483649, 2147483649), (2147483650, 2147483650), (2147483651, 2147483651)] ⟨(kd_hold_le (kd_h129q40 hg) (by decide)), (kd_hold_le (kd_h129q41 hg) (by decide)), (kd_hold_le (kd_h129q42 hg) (by decide)), (kd_hold_le (kd_h129q43 hg) (by decide)), trivial⟩)), trivial⟩)
end
section
-- 99.z0
/-! ===== contracts with names: what stands at a place may be told by what stood there ===== -/
def kd_leV (n0 : Nat) (iv : kd_I) (n : Nat) (v w : kd_V) : Bool := bif Nat.beq w.1 1 then (Nat.blt w.2.1 n0 && (Nat.beq v.1 1 && (Nat.beq v.2.1 w.2.1 && Nat.beq v.2.2 w.2.2))) else kd_le iv n v w
theorem kd_leV_r {n0 : Nat} {iv : kd_I} {n : Nat} {v w : kd_V} {ρ σ : Nat → Nat} {x : kc_V} (h : kd_leV n0 iv n v w = true) (ha : kd_ag n0 σ ρ) (hb : kd_bx ρ iv n) (hv : kd_g n ρ v x) : kd_g n0 σ w x := by
  unfold kd_leV at h
  rcases kd_bif h with ⟨c, h⟩ | ⟨-, h⟩
  · obtain ⟨t, a, b⟩ := w
    obtain ⟨t2, a2, b2⟩ := v
    simp only [Bool.and_eq_true] at h
    obtain ⟨k1, k2, k3, k4⟩ := h
    obtain rfl := Nat.eq_of_beq_eq_true c
    obtain rfl := Nat.eq_of_beq_eq_true k2
    obtain rfl := Nat.eq_of_beq_eq_true k3
    obtain rfl := Nat.eq_of_beq_eq_true k4
    have k1 : a2 < n0 := Nat.le_of_ble_eq_true k1
    obtain ⟨-, z, e1, e2⟩ := hv
    refine ⟨k1, z, e1, ?_⟩
    rw [← ha a2 k1]
    exact e2
  · exact kd_le_r h hb hv
def kd_leFv (ty : kd_T) (n0 : Nat) (iv : kd_I) (n : Nat) (F : kd_F) : kd_F → Bool
  | [] => true
  | (c, i, w) :: r => (match kd_ev ty F c i with
    | some v => kd_leV n0 iv n v w
    | none => false) && kd_leFv ty n0 iv n F r
theorem kd_leFv_r {ty : kd_T} {n0 : Nat} {iv : kd_I} {n : Nat} {F : kd_F} {ρ σ : Nat → Nat} {h : kc_H} (ha : kd_ag n0 σ ρ) (hb : kd_bx ρ iv n) (hF : kd_gF n ρ F h) (hw : kd_wt ty h) : ∀ (G : kd_F), kd_leFv ty n0 iv n F G = true → kd_gF n0 σ G h
  | [], _, q, hq => by cases hq
  | (c, i, w) :: r, hk, q, hq => by
    have hk : ((match kd_ev ty F c i with
      | some v => kd_leV n0 iv n v w
      | none => false) && kd_leFv ty n0 iv n F r) = true := hk
    rw [Bool.and_eq_true] at hk
    rcases List.mem_cons.mp hq with rfl | hq
    · cases he : kd_ev ty F c i with
      | none => rw [he] at hk; cases hk.1
      | some v =>
        rw [he] at hk
        exact kd_leV_r hk.1 ha hb (kd_ev_r he hF hw)
    · exact kd_leFv_r ha hb hF hw r hk.2 q hq
def kd_finv (ty : kd_T) (n0 : Nat) (ps : List kd_P) : kd_R := fun iv n rv F W => ps.any fun p => (match rv, p.1 with
  | none, none => true
  | some v, some w => kd_leV n0 iv n v w
  | _, _ => false) && (kd_leFv ty n0 iv n F p.2.1 && kd_cvW p.2.2 W)
theorem kd_finv_r {ty : kd_T} {ps : List kd_P} {h0 : kc_H} {σ ρ0 : Nat → Nat} {n0 n1 : Nat} (ha : kd_ag n0 σ ρ0) (hn : n0 ≤ n1) : kd_rgood (fun xr h' => ∃ p ∈ ps, kd_rv n0 σ p.1 xr ∧ kd_gF n0 σ p.2.1 h' ∧ kd_wt ty h' ∧ kd_fr p.2.2 h0 h') ty h0 ρ0 n1 (kd_finv ty n0 ps) := by
  intro iv n rv F W h hn1 ρ xr hh ha1 hb hr hF hw hfr
  obtain ⟨p, p1, p2⟩ := List.any_eq_true.mp h
  simp only [Bool.and_eq_true] at p2
  obtain ⟨q1, q2, q3⟩ := p2
  have ha2 : kd_ag n0 σ ρ := kd_ag_tr ha ha1 hn
  refine ⟨p, p1, ?_, kd_leFv_r ha2 hb hF hw _ q2, hw, kd_cvW_r W q3 hfr⟩
  obtain ⟨rw, fs, ws⟩ := p
  cases rv with
  | none =>
    cases xr with
    | none =>
      cases rw with
      | none => trivial
      | some _ => cases q1
    | some _ => exact hr.elim
  | some v =>
    cases xr with
    | none => exact hr.elim
    | some x =>
      cases rw with
      | none => cases q1
      | some w => exact kd_leV_r q1 ha2 hb hr
def kd_holdv (g : kc_G) (d : Nat) (ty : kd_T) (id : Nat) (iv0 : kd_I) (n0 : Nat) (T : kd_Tc) : Prop := ∀ (σ : Nat → Nat) (xs : List kc_V) (h : kc_H), kd_bx σ iv0 n0 → kd_wt ty h → wk_f2 (kd_g 0 (fun _ => 0)) T.1 xs → kd_gF n0 σ T.2.1 h → kc_Con g d id xs h (fun xr h' => ∃ p ∈ T.2.2, kd_rv n0 σ p.1 xr ∧ kd_gF n0 σ p.2.1 h' ∧ kd_wt ty h' ∧ kd_fr p.2.2 h h')
noncomputable def kd_runv (ty : kd_T) (X : List (List kd_X)) (nL : Nat) (call : kd_Cl) (iv0 : kd_I) (n0 : Nat) (T : kd_Tc) (fuel : Nat) : Bool := kd_nmL T.1 iv0 n0 fun iv n al => kd_argl al nL (fun AL => kd_go ty X nL (fun _ _ _ _ _ _ _ => false) call (kd_finv ty n0 T.2.2) fuel 0 iv n AL [] T.2.1 [])
theorem kd_newv {g : kc_G} {d : Nat} {ty : kd_T} {call : kd_Cl} {id : Nat} {M : wk_M} {X : List (List kd_X)} {nL : Nat} {iv0 : kd_I} {n0 : Nat} {T : kd_Tc} {fuel : Nat} (hg : kc_ok g) (hX : kd_isA2 M X = true) (hm : wk_mt id = some M) (hk : wk_Mk M = 0) (hs : wk_Ms M = 0) (hl : wk_Ml M = nL) (hcall : ∀ h0, kd_good g d ty h0 call) (h0 : kd_runv ty X nL call iv0 n0 T fuel = true) : kd_holdv g (d + 1) ty id iv0 n0 T := by
  subst hl
  intro σ xs h hb hw hv hF
  unfold kd_runv at h0
  obtain ⟨ρ, iv, n, al, a1, a2, b3, b4, h0⟩ := kd_nmL_r T.1 xs iv0 n0 σ _ h0 hb hv
  obtain ⟨AL, k1, k2, k3⟩ := kd_argl_r (n := n) (ρ := ρ) al xs _ _ h0 b4
  refine kc_Con_new hg hm hk hs k2 (kd_go_r (h0 := h) (ρ0 := ρ) (n0 := n) hX (hcall h) (kd_finv_r a1 a2) (fun pc iv n AL AS F W hc => by cases hc) fuel _ _ _ _ _ _ _ k1 (Nat.le_refl _) ρ _ [] h kd_ag_rf b3 (fun i v hi hk => ?_) trivial (fun q hq => kd_g_ag (hF q hq) a1 a2) hw (fun c i _ => rfl))
  obtain ⟨y, e1, e2⟩ := k3 0 i v hi hk
  rw [Nat.zero_add] at e1
  exact ⟨y, e1, e2⟩
theorem kv_bx0 {σ : Nat → Nat} : kd_bx σ [] 0 := ⟨rfl, fun j l u hat => by unfold kd_at at hat; simp [Nat.blt, Nat.ble] at hat⟩
theorem kv_bx1 {a b s : Nat} (h1 : a ≤ s) (h2 : s ≤ b) : kd_bx (fun _ => s) [(a, b)] 1 := by
  refine ⟨rfl, fun j l u hat => ?_⟩
  cases j with
  | zero =>
    have hat : some (a, b) = some (l, u) := hat
    cases hat
    exact ⟨h1, h2⟩
  | succ j =>
    exfalso
    unfold kd_at at hat
    simp [Nat.blt, Nat.ble] at hat
end
section
-- 99.z1
/-! ===== the verbs of a day, run by the engine 0 ===== -/
def kv_Tcmule : kd_Tc := ([(3, 1, 1), (0, 2147483649, 2147484647), (0, 2147483648, 2147483747), (0, 2147483648, 2147483747)], [(1, 1, (1, 0, 2147483648))], [(some (0, 2147483648, 4294967295), [(1, 1, (1, 0, 2147483649))], [(1, 1, 1, 1), (12, 14, 0, 4)])])
theorem kv_rcmule : kd_runv kd_ty kd_x33 5 (kd_call kd_ty kd_xt (kd_ctl []) 600 1) [(2147483648, 2147483650)] 1 kv_Tcmule 600 = true := by decide +kernel
theorem kv_hcmule {g : kc_G} (hg : kc_ok g) : kd_holdv g 2 kd_ty 33 [(2147483648, 2147483650)] 1 kv_Tcmule := kd_newv hg kd_xk33 rfl rfl rfl rfl (fun h0 => kd_call_r (d0 := 0) hg kd_xt_ok (kd_ctl_r [] (fun q hq => by cases hq)) 1) (kv_rcmule )
def kv_Tcmulef : kd_Tc := ([(3, 1, 1), (0, 2147483649, 2147484647), (0, 2147483648, 2147483747), (0, 2147483648, 2147483747)], [(1, 1, (0, 2147483651, 2147483651))], [(some (0, 0, 2147483647), [], [])])
theorem kv_rcmulef : kd_runv kd_ty kd_x33 5 (kd_call kd_ty kd_xt (kd_ctl []) 600 1) [] 0 kv_Tcmulef 600 = true := by decide +kernel
theorem kv_hcmulef {g : kc_G} (hg : kc_ok g) : kd_holdv g 2 kd_ty 33 [] 0 kv_Tcmulef := kd_newv hg kd_xk33 rfl rfl rfl rfl (fun h0 => kd_call_r (d0 := 0) hg kd_xt_ok (kd_ctl_r [] (fun q hq => by cases hq)) 1) (kv_rcmulef )
def kv_Tcmule0 : kd_Tc := ([(3, 1, 1), (0, 0, 2147483648), (0, 0, 4294967295), (0, 0, 4294967295)], [], [(some (0, 0, 2147483647), [], [])])
theorem kv_rcmule0 : kd_runv kd_ty kd_x33 5 (kd_call kd_ty kd_xt (kd_ctl []) 600 1) [] 0 kv_Tcmule0 600 = true := by decide +kernel
theorem kv_hcmule0 {g : kc_G} (hg : kc_ok g) : kd_holdv g 2 kd_ty 33 [] 0 kv_Tcmule0 := kd_newv hg kd_xk33 rfl rfl rfl rfl (fun h0 => kd_call_r (d0 := 0) hg kd_xt_ok (kd_ctl_r [] (fun q hq => by cases hq)) 1) (kv_rcmule0 )
def kv_Tcmule1 : kd_Tc := ([(3, 1, 1), (0, 2147484648, 4294967295), (0, 0, 4294967295), (0, 0, 4294967295)], [], [(some (0, 0, 2147483647), [], [])])
theorem kv_rcmule1 : kd_runv kd_ty kd_x33 5 (kd_call kd_ty kd_xt (kd_ctl []) 600 1) [] 0 kv_Tcmule1 600 = true := by decide +kernel
theorem kv_hcmule1 {g : kc_G} (hg : kc_ok g) : kd_holdv g 2 kd_ty 33 [] 0 kv_Tcmule1 := kd_newv hg kd_xk33 rfl rfl rfl rfl (fun h0 => kd_call_r (d0 := 0) hg kd_xt_ok (kd_ctl_r [] (fun q hq => by cases hq)) 1) (kv_rcmule1 )
def kv_Tcmule2 : kd_Tc := ([(3, 1, 1), (0, 0, 4294967295), (0, 0, 2147483647), (0, 0, 4294967295)], [], [(some (0, 0, 2147483647), [], [])])
theorem kv_rcmule2 : kd_runv kd_ty kd_x33 5 (kd_call kd_ty kd_xt (kd_ctl []) 600 1) [] 0 kv_Tcmule2 600 = true := by decide +kernel
theorem kv_hcmule2 {g : kc_G} (hg : kc_ok g) : kd_holdv g 2 kd_ty 33 [] 0 kv_Tcmule2 := kd_newv hg kd_xk33 rfl rfl rfl rfl (fun h0 => kd_call_r (d0 := 0) hg kd_xt_ok (kd_ctl_r [] (fun q hq => by cases hq)) 1) (kv_rcmule2 )
def kv_Tcmule3 : kd_Tc := ([(3, 1, 1), (0, 0, 4294967295), (0, 2147483748, 4294967295), (0, 0, 4294967295)], [], [(some (0, 0, 2147483647), [], [])])
theorem kv_rcmule3 : kd_runv kd_ty kd_x33 5 (kd_call kd_ty kd_xt (kd_ctl []) 600 1) [] 0 kv_Tcmule3 600 = true := by decide +kernel
theorem kv_hcmule3 {g : kc_G} (hg : kc_ok g) : kd_holdv g 2 kd_ty 33 [] 0 kv_Tcmule3 := kd_newv hg kd_xk33 rfl rfl rfl rfl (fun h0 => kd_call_r (d0 := 0) hg kd_xt_ok (kd_ctl_r [] (fun q hq => by cases hq)) 1) (kv_rcmule3 )
def kv_Tcmule4 : kd_Tc := ([(3, 1, 1), (0, 0, 4294967295), (0, 0, 4294967295), (0, 0, 2147483647)], [], [(some (0, 0, 2147483647), [], [])])
theorem kv_rcmule4 : kd_runv kd_ty kd_x33 5 (kd_call kd_ty kd_xt (kd_ctl []) 600 1) [] 0 kv_Tcmule4 600 = true := by decide +kernel
theorem kv_hcmule4 {g : kc_G} (hg : kc_ok g) : kd_holdv g 2 kd_ty 33 [] 0 kv_Tcmule4 := kd_newv hg kd_xk33 rfl rfl rfl rfl (fun h0 => kd_call_r (d0 := 0) hg kd_xt_ok (kd_ctl_r [] (fun q hq => by cases hq)) 1) (kv_rcmule4 )
def kv_Tcmule5 : kd_Tc := ([(3, 1, 1), (0, 0, 4294967295), (0, 0, 4294967295), (0, 2147483748, 4294967295)], [], [(some (0, 0, 2147483647), [], [])])
theorem kv_rcmule5 : kd_runv kd_ty kd_x33 5 (kd_call kd_ty kd_xt (kd_ctl []) 600 1) [] 0 kv_Tcmule5 600 = true := by decide +kernel
theorem kv_hcmule5 {g : kc_G} (hg : kc_ok g) : kd_holdv g 2 kd_ty 33 [] 0 kv_Tcmule5 := kd_newv hg kd_xk33 rfl rfl rfl rfl (fun h0 => kd_call_r (d0 := 0) hg kd_xt_ok (kd_ctl_r [] (fun q hq => by cases hq)) 1) (kv_rcmule5 )
def kv_TcloadA (x : Nat) : kd_Tc := ([(3, 1, 1), (0, 2147483649, 2147483747), (0, 2147483648, 2147483649), (0, 2147483648 + x+1, 2147483648 + x+1), (0, 2147483648, 2147483648 + x)], [(1, 0, (0, 2147483648 + x+1, 2147483653)), (1, 2, (1, 0, 2147483648))], [(some (0, 2147483648, 4294967295), [(1, 2, (1, 0, 2147483649))], [(1, 1, 2, 2), (16, 25, 0, 6)])])
theorem kv_rcloadA : ∀ x, x < 5 → kd_runv kd_ty kd_x42 6 (kd_call kd_ty kd_xt (kd_ctl []) 600 2) [(2147483648, 2147483657)] 1 (kv_TcloadA x) 600 = true := by decide +kernel
theorem kv_hcloadA {g : kc_G} (hg : kc_ok g) {x : Nat} (hx : x < 5) : kd_holdv g 3 kd_ty 42 [(2147483648, 2147483657)] 1 (kv_TcloadA x) := kd_newv hg kd_xk42 rfl rfl rfl rfl (fun h0 => kd_call_r (d0 := 0) hg kd_xt_ok (kd_ctl_r [] (fun q hq => by cases hq)) 2) (kv_rcloadA x hx)
def kv_TcloadfA (x : Nat) : kd_Tc := ([(3, 1, 1), (0, 2147483649, 2147483747), (0, 2147483648, 2147483649), (0, 2147483648 + x+1, 2147483648 + x+1), (0, 2147483648, 2147483648 + x)], [(1, 0, (0, 2147483648 + x+1, 2147483653)), (1, 2, (0, 2147483658, 2147483658))], [(some (0, 0, 2147483647), [], [])])
theorem kv_rcloadfA : ∀ x, x < 5 → kd_runv kd_ty kd_x42 6 (kd_call kd_ty kd_xt (kd_ctl []) 600 2) [] 0 (kv_TcloadfA x) 600 = true := by decide +kernel
theorem kv_hcloadfA {g : kc_G} (hg : kc_ok g) {x : Nat} (hx : x < 5) : kd_holdv g 3 kd_ty 42 [] 0 (kv_TcloadfA x) := kd_newv hg kd_xk42 rfl rfl rfl rfl (fun h0 => kd_call_r (d0 := 0) hg kd_xt_ok (kd_ctl_r [] (fun q hq => by cases hq)) 2) (kv_rcloadfA x hx)
def kv_TcloadB (x : Nat) : kd_Tc := ([(3, 1, 1), (0, 2147483649, 2147483747), (0, 2147483648, 2147483649), (0, 2147483648, 2147483648 + x), (0, 2147483648 + x+1, 2147483648 + x+1)], [(1, 0, (0, 2147483648 + x+1, 2147483653)), (1, 2, (1, 0, 2147483648))], [(some (0, 2147483648, 4294967295), [(1, 2, (1, 0, 2147483649))], [(1, 1, 2, 2), (16, 25, 0, 6)])])
theorem kv_rcloadB : ∀ x, x < 5 → kd_runv kd_ty kd_x42 6 (kd_call kd_ty kd_xt (kd_ctl []) 600 2) [(2147483648, 2147483657)] 1 (kv_TcloadB x) 600 = true := by decide +kernel
theorem kv_hcloadB {g : kc_G} (hg : kc_ok g) {x : Nat} (hx : x < 5) : kd_holdv g 3 kd_ty 42 [(2147483648, 2147483657)] 1 (kv_TcloadB x) := kd_newv hg kd_xk42 rfl rfl rfl rfl (fun h0 => kd_call_r (d0 := 0) hg kd_xt_ok (kd_ctl_r [] (fun q hq => by cases hq)) 2) (kv_rcloadB x hx)
def kv_TcloadfB (x : Nat) : kd_Tc := ([(3, 1, 1), (0, 2147483649, 2147483747), (0, 2147483648, 2147483649), (0, 2147483648, 2147483648 + x), (0, 2147483648 + x+1, 2147483648 + x+1)], [(1, 0, (0, 2147483648 + x+1, 2147483653)), (1, 2, (0, 2147483658, 2147483658))], [(some (0, 0, 2147483647), [], [])])
theorem kv_rcloadfB : ∀ x, x < 5 → kd_runv kd_ty kd_x42 6 (kd_call kd_ty kd_xt (kd_ctl []) 600 2) [] 0 (kv_TcloadfB x) 600 = true := by decide +kernel
theorem kv_hcloadfB {g : kc_G} (hg : kc_ok g) {x : Nat} (hx : x < 5) : kd_holdv g 3 kd_ty 42 [] 0 (kv_TcloadfB x) := kd_newv hg kd_xk42 rfl rfl rfl rfl (fun h0 => kd_call_r (d0 := 0) hg kd_xt_ok (kd_ctl_r [] (fun q hq => by cases hq)) 2) (kv_rcloadfB x hx)
def kv_Tcload0 : kd_Tc := ([(3, 1, 1), (0, 0, 2147483648), (0, 0, 4294967295), (0, 0, 4294967295), (0, 0, 4294967295)], [], [(some (0, 0, 2147483647), [], [])])
theorem kv_rcload0 : kd_runv kd_ty kd_x42 6 (kd_call kd_ty kd_xt (kd_ctl []) 600 1) [] 0 kv_Tcload0 600 = true := by decide +kernel
theorem kv_hcload0 {g : kc_G} (hg : kc_ok g) : kd_holdv g 2 kd_ty 42 [] 0 kv_Tcload0 := kd_newv hg kd_xk42 rfl rfl rfl rfl (fun h0 => kd_call_r (d0 := 0) hg kd_xt_ok (kd_ctl_r [] (fun q hq => by cases hq)) 1) (kv_rcload0 )
def kv_Tcload1 : kd_Tc := ([(3, 1, 1), (0, 2147483748, 4294967295), (0, 0, 4294967295), (0, 0, 4294967295), (0, 0, 4294967295)], [], [(some (0, 0, 2147483647), [], [])])
theorem kv_rcload1 : kd_runv kd_ty kd_x42 6 (kd_call kd_ty kd_xt (kd_ctl []) 600 1) [] 0 kv_Tcload1 600 = true := by decide +kernel
theorem kv_hcload1 {g : kc_G} (hg : kc_ok g) : kd_holdv g 2 kd_ty 42 [] 0 kv_Tcload1 := kd_newv hg kd_xk42 rfl rfl rfl rfl (fun h0 => kd_call_r (d0 := 0) hg kd_xt_ok (kd_ctl_r [] (fun q hq => by cases hq)) 1) (kv_rcload1 )
def kv_Tcload2 : kd_Tc := ([(3, 1, 1), (0, 0, 4294967295), (0, 0, 2147483647), (0, 0, 4294967295), (0, 0, 4294967295)], [], [(some (0, 0, 2147483647), [], [])])
theorem kv_rcload2 : kd_runv kd_ty kd_x42 6 (kd_call kd_ty kd_xt (kd_ctl []) 600 1) [] 0 kv_Tcload2 600 = true := by decide +kernel
theorem kv_hcload2 {g : kc_G} (hg : kc_ok g) : kd_holdv g 2 kd_ty 42 [] 0 kv_Tcload2 := kd_newv hg kd_xk42 rfl rfl rfl rfl (fun h0 => kd_call_r (d0 := 0) hg kd_xt_ok (kd_ctl_r [] (fun q hq => by cases hq)) 1) (kv_rcload2 )
def kv_Tcload3 : kd_Tc := ([(3, 1, 1), (0, 0, 4294967295), (0, 2147483650, 4294967295), (0, 0, 4294967295), (0, 0, 4294967295)], [], [(some (0, 0, 2147483647), [], [])])
theorem kv_rcload3 : kd_runv kd_ty kd_x42 6 (kd_call kd_ty kd_xt (kd_ctl []) 600 1) [] 0 kv_Tcload3 600 = true := by decide +kernel
theorem kv_hcload3 {g : kc_G} (hg : kc_ok g) : kd_holdv g 2 kd_ty 42 [] 0 kv_Tcload3 := kd_newv hg kd_xk42 rfl rfl rfl rfl (fun h0 => kd_call_r (d0 := 0) hg kd_xt_ok (kd_ctl_r [] (fun q hq => by cases hq)) 1) (kv_rcload3 )
def kv_Tcload4 : kd_Tc := ([(3, 1, 1), (0, 0, 4294967295), (0, 0, 4294967295), (0, 0, 2147483647), (0, 0, 4294967295)], [], [(some (0, 0, 2147483647), [], [])])
theorem kv_rcload4 : kd_runv kd_ty kd_x42 6 (kd_call kd_ty kd_xt (kd_ctl []) 600 2) [] 0 kv_Tcload4 600 = true := by decide +kernel
theorem kv_hcload4 {g : kc_G} (hg : kc_ok g) : kd_holdv g 3 kd_ty 42 [] 0 kv_Tcload4 := kd_newv hg kd_xk42 rfl rfl rfl rfl (fun h0 => kd_call_r (d0 := 0) hg kd_xt_ok (kd_ctl_r [] (fun q hq => by cases hq)) 2) (kv_rcload4 )
def kv_Tcload5 : kd_Tc := ([(3, 1, 1), (0, 0, 4294967295), (0, 0, 4294967295), (0, 2147483654, 4294967295), (0, 0, 4294967295)], [], [(some (0, 0, 2147483647), [], [])])
theorem kv_rcload5 : kd_runv kd_ty kd_x42 6 (kd_call kd_ty kd_xt (kd_ctl []) 600 2) [] 0 kv_Tcload5 600 = true := by decide +kernel
theorem kv_hcload5 {g : kc_G} (hg : kc_ok g) : kd_holdv g 3 kd_ty 42 [] 0 kv_Tcload5 := kd_newv hg kd_xk42 rfl rfl rfl rfl (fun h0 => kd_call_r (d0 := 0) hg kd_xt_ok (kd_ctl_r [] (fun q hq => by cases hq)) 2) (kv_rcload5 )
def kv_Tcload6 : kd_Tc := ([(3, 1, 1), (0, 0, 4294967295), (0, 0, 4294967295), (0, 0, 4294967295), (0, 0, 2147483647)], [], [(some (0, 0, 2147483647), [], [])])
theorem kv_rcload6 : kd_runv kd_ty kd_x42 6 (kd_call kd_ty kd_xt (kd_ctl []) 600 2) [] 0 kv_Tcload6 600 = true := by decide +kernel
theorem kv_hcload6 {g : kc_G} (hg : kc_ok g) : kd_holdv g 3 kd_ty 42 [] 0 kv_Tcload6 := kd_newv hg kd_xk42 rfl rfl rfl rfl (fun h0 => kd_call_r (d0 := 0) hg kd_xt_ok (kd_ctl_r [] (fun q hq => by cases hq)) 2) (kv_rcload6 )
def kv_Tcload7 : kd_Tc := ([(3, 1, 1), (0, 0, 4294967295), (0, 0, 4294967295), (0, 0, 4294967295), (0, 2147483654, 4294967295)], [], [(some (0, 0, 2147483647), [], [])])
theorem kv_rcload7 : kd_runv kd_ty kd_x42 6 (kd_call kd_ty kd_xt (kd_ctl []) 600 2) [] 0 kv_Tcload7 600 = true := by decide +kernel
theorem kv_hcload7 {g : kc_G} (hg : kc_ok g) : kd_holdv g 3 kd_ty 42 [] 0 kv_Tcload7 := kd_newv hg kd_xk42 rfl rfl rfl rfl (fun h0 => kd_call_r (d0 := 0) hg kd_xt_ok (kd_ctl_r [] (fun q hq => by cases hq)) 2) (kv_rcload7 )
def kv_Tcloadp (x : Nat) : kd_Tc := ([(3, 1, 1), (0, 0, 4294967295), (0, 0, 4294967295), (0, 2147483648 + x+1, 2147483648 + x+1), (0, 0, 4294967295)], [(1, 0, (0, 2147483648, 2147483648 + x))], [(some (0, 0, 2147483647), [], [])])
theorem kv_rcloadp : ∀ x, x < 5 → kd_runv kd_ty kd_x42 6 (kd_call kd_ty kd_xt (kd_ctl []) 600 2) [] 0 (kv_Tcloadp x) 600 = true := by decide +kernel
theorem kv_hcloadp {g : kc_G} (hg : kc_ok g) {x : Nat} (hx : x < 5) : kd_holdv g 3 kd_ty 42 [] 0 (kv_Tcloadp x) := kd_newv hg kd_xk42 rfl rfl rfl rfl (fun h0 => kd_call_r (d0 := 0) hg kd_xt_ok (kd_ctl_r [] (fun q hq => by cases hq)) 2) (kv_rcloadp x hx)
def kv_Tcloadq (x : Nat) : kd_Tc := ([(3, 1, 1), (0, 0, 4294967295), (0, 0, 4294967295), (0, 0, 4294967295), (0, 2147483648 + x+1, 2147483648 + x+1)], [(1, 0, (0, 2147483648, 2147483648 + x))], [(some (0, 0, 2147483647), [], [])])
theorem kv_rcloadq : ∀ x, x < 5 → kd_runv kd_ty kd_x42 6 (kd_call kd_ty kd_xt (kd_ctl []) 600 2) [] 0 (kv_Tcloadq x) 600 = true := by decide +kernel
theorem kv_hcloadq {g : kc_G} (hg : kc_ok g) {x : Nat} (hx : x < 5) : kd_holdv g 3 kd_ty 42 [] 0 (kv_Tcloadq x) := kd_newv hg kd_xk42 rfl rfl rfl rfl (fun h0 => kd_call_r (d0 := 0) hg kd_xt_ok (kd_ctl_r [] (fun q hq => by cases hq)) 2) (kv_rcloadq x hx)
def kv_Tcloade (x : Nat) : kd_Tc := ([(3, 1, 1), (0, 0, 4294967295), (0, 0, 4294967295), (0, 2147483648 + x, 2147483648 + x), (0, 2147483648 + x, 2147483648 + x)], [], [(some (0, 0, 2147483647), [], [])])
theorem kv_rcloade : ∀ x, x < 6 → kd_runv kd_ty kd_x42 6 (kd_call kd_ty kd_xt (kd_ctl []) 600 2) [] 0 (kv_Tcloade x) 600 = true := by decide +kernel
theorem kv_hcloade {g : kc_G} (hg : kc_ok g) {x : Nat} (hx : x < 6) : kd_holdv g 3 kd_ty 42 [] 0 (kv_Tcloade x) := kd_newv hg kd_xk42 rfl rfl rfl rfl (fun h0 => kd_call_r (d0 := 0) hg kd_xt_ok (kd_ctl_r [] (fun q hq => by cases hq)) 2) (kv_rcloade x hx)
def kv_TcwayA (x : Nat) : kd_Tc := ([(3, 1, 1), (0, 2147483648 + x+1, 2147483648 + x+1), (0, 2147483648, 2147483648 + x), (0, 2147483649, 2147483747)], [(1, 0, (0, 2147483648 + x+1, 2147483653))], [(some (0, 2147483648, 4294967295), [], [(3, 8, 0, 5)])])
theorem kv_rcwayA : ∀ x, x < 5 → kd_runv kd_ty kd_x17 5 (kd_call kd_ty kd_xt (kd_ctl []) 600 2) [] 0 (kv_TcwayA x) 600 = true := by decide +kernel
theorem kv_hcwayA {g : kc_G} (hg : kc_ok g) {x : Nat} (hx : x < 5) : kd_holdv g 3 kd_ty 17 [] 0 (kv_TcwayA x) := kd_newv hg kd_xk17 rfl rfl rfl rfl (fun h0 => kd_call_r (d0 := 0) hg kd_xt_ok (kd_ctl_r [] (fun q hq => by cases hq)) 2) (kv_rcwayA x hx)
def kv_TcwayB (x : Nat) : kd_Tc := ([(3, 1, 1), (0, 2147483648, 2147483648 + x), (0, 2147483648 + x+1, 2147483648 + x+1), (0, 2147483649, 2147483747)], [(1, 0, (0, 2147483648 + x+1, 2147483653))], [(some (0, 2147483648, 4294967295), [], [(3, 8, 0, 5)])])
theorem kv_rcwayB : ∀ x, x < 5 → kd_runv kd_ty kd_x17 5 (kd_call kd_ty kd_xt (kd_ctl []) 600 2) [] 0 (kv_TcwayB x) 600 = true := by decide +kernel
theorem kv_hcwayB {g : kc_G} (hg : kc_ok g) {x : Nat} (hx : x < 5) : kd_holdv g 3 kd_ty 17 [] 0 (kv_TcwayB x) := kd_newv hg kd_xk17 rfl rfl rfl rfl (fun h0 => kd_call_r (d0 := 0) hg kd_xt_ok (kd_ctl_r [] (fun q hq => by cases hq)) 2) (kv_rcwayB x hx)
def kv_Tcway0 : kd_Tc := ([(3, 1, 1), (0, 0, 2147483647), (0, 0, 4294967295), (0, 0, 4294967295)], [], [(some (0, 0, 2147483647), [], [])])
theorem kv_rcway0 : kd_runv kd_ty kd_x17 5 (kd_call kd_ty kd_xt (kd_ctl []) 600 2) [] 0 kv_Tcway0 600 = true := by decide +kernel
theorem kv_hcway0 {g : kc_G} (hg : kc_ok g) : kd_holdv g 3 kd_ty 17 [] 0 kv_Tcway0 := kd_newv hg kd_xk17 rfl rfl rfl rfl (fun h0 => kd_call_r (d0 := 0) hg kd_xt_ok (kd_ctl_r [] (fun q hq => by cases hq)) 2) (kv_rcway0 )
def kv_Tcway1 : kd_Tc := ([(3, 1, 1), (0, 2147483654, 4294967295), (0, 0, 4294967295), (0, 0, 4294967295)], [], [(some (0, 0, 2147483647), [], [])])
theorem kv_rcway1 : kd_runv kd_ty kd_x17 5 (kd_call kd_ty kd_xt (kd_ctl []) 600 2) [] 0 kv_Tcway1 600 = true := by decide +kernel
theorem kv_hcway1 {g : kc_G} (hg : kc_ok g) : kd_holdv g 3 kd_ty 17 [] 0 kv_Tcway1 := kd_newv hg kd_xk17 rfl rfl rfl rfl (fun h0 => kd_call_r (d0 := 0) hg kd_xt_ok (kd_ctl_r [] (fun q hq => by cases hq)) 2) (kv_rcway1 )
def kv_Tcway2 : kd_Tc := ([(3, 1, 1), (0, 0, 4294967295), (0, 0, 2147483647), (0, 0, 4294967295)], [], [(some (0, 0, 2147483647), [], [])])
theorem kv_rcway2 : kd_runv kd_ty kd_x17 5 (kd_call kd_ty kd_xt (kd_ctl []) 600 2) [] 0 kv_Tcway2 600 = true := by decide +kernel
theorem kv_hcway2 {g : kc_G} (hg : kc_ok g) : kd_holdv g 3 kd_ty 17 [] 0 kv_Tcway2 := kd_newv hg kd_xk17 rfl rfl rfl rfl (fun h0 => kd_call_r (d0 := 0) hg kd_xt_ok (kd_ctl_r [] (fun q hq => by cases hq)) 2) (kv_rcway2 )
def kv_Tcway3 : kd_Tc := ([(3, 1, 1), (0, 0, 4294967295), (0, 2147483654, 4294967295), (0, 0, 4294967295)], [], [(some (0, 0, 2147483647), [], [])])
theorem kv_rcway3 : kd_runv kd_ty kd_x17 5 (kd_call kd_ty kd_xt (kd_ctl []) 600 2) [] 0 kv_Tcway3 600 = true := by decide +kernel
theorem kv_hcway3 {g : kc_G} (hg : kc_ok g) : kd_holdv g 3 kd_ty 17 [] 0 kv_Tcway3 := kd_newv hg kd_xk17 rfl rfl rfl rfl (fun h0 => kd_call_r (d0 := 0) hg kd_xt_ok (kd_ctl_r [] (fun q hq => by cases hq)) 2) (kv_rcway3 )
def kv_Tcway4 : kd_Tc := ([(3, 1, 1), (0, 0, 4294967295), (0, 0, 4294967295), (0, 0, 2147483648)], [], [(some (0, 0, 2147483647), [], [])])
theorem kv_rcway4 : kd_runv kd_ty kd_x17 5 (kd_call kd_ty kd_xt (kd_ctl []) 600 2) [] 0 kv_Tcway4 600 = true := by decide +kernel
theorem kv_hcway4 {g : kc_G} (hg : kc_ok g) : kd_holdv g 3 kd_ty 17 [] 0 kv_Tcway4 := kd_newv hg kd_xk17 rfl rfl rfl rfl (fun h0 => kd_call_r (d0 := 0) hg kd_xt_ok (kd_ctl_r [] (fun q hq => by cases hq)) 2) (kv_rcway4 )
def kv_Tcway5 : kd_Tc := ([(3, 1, 1), (0, 0, 4294967295), (0, 0, 4294967295), (0, 2147483748, 4294967295)], [], [(some (0, 0, 2147483647), [], [])])
theorem kv_rcway5 : kd_runv kd_ty kd_x17 5 (kd_call kd_ty kd_xt (kd_ctl []) 600 2) [] 0 kv_Tcway5 600 = true := by decide +kernel
theorem kv_hcway5 {g : kc_G} (hg : kc_ok g) : kd_holdv g 3 kd_ty 17 [] 0 kv_Tcway5 := kd_newv hg kd_xk17 rfl rfl rfl rfl (fun h0 => kd_call_r (d0 := 0) hg kd_xt_ok (kd_ctl_r [] (fun q hq => by cases hq)) 2) (kv_rcway5 )
def kv_Tcwayp (x : Nat) : kd_Tc := ([(3, 1, 1), (0, 2147483648 + x+1, 2147483648 + x+1), (0, 0, 4294967295), (0, 0, 4294967295)], [(1, 0, (0, 2147483648, 2147483648 + x))], [(some (0, 0, 2147483647), [], [])])
theorem kv_rcwayp : ∀ x, x < 5 → kd_runv kd_ty kd_x17 5 (kd_call kd_ty kd_xt (kd_ctl []) 600 2) [] 0 (kv_Tcwayp x) 600 = true := by decide +kernel
theorem kv_hcwayp {g : kc_G} (hg : kc_ok g) {x : Nat} (hx : x < 5) : kd_holdv g 3 kd_ty 17 [] 0 (kv_Tcwayp x) := kd_newv hg kd_xk17 rfl rfl rfl rfl (fun h0 => kd_call_r (d0 := 0) hg kd_xt_ok (kd_ctl_r [] (fun q hq => by cases hq)) 2) (kv_rcwayp x hx)
def kv_Tcwayq (x : Nat) : kd_Tc := ([(3, 1, 1), (0, 0, 4294967295), (0, 2147483648 + x+1, 2147483648 + x+1), (0, 0, 4294967295)], [(1, 0, (0, 2147483648, 2147483648 + x))], [(some (0, 0, 2147483647), [], [])])
theorem kv_rcwayq : ∀ x, x < 5 → kd_runv kd_ty kd_x17 5 (kd_call kd_ty kd_xt (kd_ctl []) 600 2) [] 0 (kv_Tcwayq x) 600 = true := by decide +kernel
theorem kv_hcwayq {g : kc_G} (hg : kc_ok g) {x : Nat} (hx : x < 5) : kd_holdv g 3 kd_ty 17 [] 0 (kv_Tcwayq x) := kd_newv hg kd_xk17 rfl rfl rfl rfl (fun h0 => kd_call_r (d0 := 0) hg kd_xt_ok (kd_ctl_r [] (fun q hq => by cases hq)) 2) (kv_rcwayq x hx)
def kv_Tcwaye (x : Nat) : kd_Tc := ([(3, 1, 1), (0, 2147483648 + x, 2147483648 + x), (0, 2147483648 + x, 2147483648 + x), (0, 0, 4294967295)], [], [(some (0, 0, 2147483647), [], [])])
theorem kv_rcwaye : ∀ x, x < 6 → kd_runv kd_ty kd_x17 5 (kd_call kd_ty kd_xt (kd_ctl []) 600 2) [] 0 (kv_Tcwaye x) 600 = true := by decide +kernel
theorem kv_hcwaye {g : kc_G} (hg : kc_ok g) {x : Nat} (hx : x < 6) : kd_holdv g 3 kd_ty 17 [] 0 (kv_Tcwaye x) := kd_newv hg kd_xk17 rfl rfl rfl rfl (fun h0 => kd_call_r (d0 := 0) hg kd_xt_ok (kd_ctl_r [] (fun q hq => by cases hq)) 2) (kv_rcwaye x hx)
end
section
-- 99.z2
/-! ===== the verbs of a day, run by the engine 1 ===== -/
def kv_Tclame (x : Nat) : kd_Tc := ([(3, 1, 1), (0, 2147483648 + x, 2147483648 + x), (0, 2147483648, 2147483649), (0, 2147483648, 2147484647)], [(1, 1, (0, 2147483648 + x+1, 2147483651))], [(some (0, 2147483648, 4294967295), [], [(12, 14, 0, 4)])])
theorem kv_rclame : ∀ x, x < 3 → kd_runv kd_ty kd_x36 5 (kd_call kd_ty kd_xt (kd_ctl []) 600 3) [] 0 (kv_Tclame x) 600 = true := by decide +kernel
theorem kv_hclame {g : kc_G} (hg : kc_ok g) {x : Nat} (hx : x < 3) : kd_holdv g 4 kd_ty 36 [] 0 (kv_Tclame x) := kd_newv hg kd_xk36 rfl rfl rfl rfl (fun h0 => kd_call_r (d0 := 0) hg kd_xt_ok (kd_ctl_r [] (fun q hq => by cases hq)) 3) (kv_rclame x hx)
def kv_Tclame0 : kd_Tc := ([(3, 1, 1), (0, 0, 2147483647), (0, 0, 4294967295), (0, 0, 4294967295)], [], [(some (0, 0, 2147483647), [], [])])
theorem kv_rclame0 : kd_runv kd_ty kd_x36 5 (kd_call kd_ty kd_xt (kd_ctl []) 600 3) [] 0 kv_Tclame0 600 = true := by decide +kernel
theorem kv_hclame0 {g : kc_G} (hg : kc_ok g) : kd_holdv g 4 kd_ty 36 [] 0 kv_Tclame0 := kd_newv hg kd_xk36 rfl rfl rfl rfl (fun h0 => kd_call_r (d0 := 0) hg kd_xt_ok (kd_ctl_r [] (fun q hq => by cases hq)) 3) (kv_rclame0 )
def kv_Tclame1 : kd_Tc := ([(3, 1, 1), (0, 2147483651, 4294967295), (0, 0, 4294967295), (0, 0, 4294967295)], [], [(some (0, 0, 2147483647), [], [])])
theorem kv_rclame1 : kd_runv kd_ty kd_x36 5 (kd_call kd_ty kd_xt (kd_ctl []) 600 3) [] 0 kv_Tclame1 600 = true := by decide +kernel
theorem kv_hclame1 {g : kc_G} (hg : kc_ok g) : kd_holdv g 4 kd_ty 36 [] 0 kv_Tclame1 := kd_newv hg kd_xk36 rfl rfl rfl rfl (fun h0 => kd_call_r (d0 := 0) hg kd_xt_ok (kd_ctl_r [] (fun q hq => by cases hq)) 3) (kv_rclame1 )
def kv_Tclame2 : kd_Tc := ([(3, 1, 1), (0, 0, 4294967295), (0, 0, 2147483647), (0, 0, 4294967295)], [], [(some (0, 0, 2147483647), [], [])])
theorem kv_rclame2 : kd_runv kd_ty kd_x36 5 (kd_call kd_ty kd_xt (kd_ctl []) 600 3) [] 0 kv_Tclame2 600 = true := by decide +kernel
theorem kv_hclame2 {g : kc_G} (hg : kc_ok g) : kd_holdv g 4 kd_ty 36 [] 0 kv_Tclame2 := kd_newv hg kd_xk36 rfl rfl rfl rfl (fun h0 => kd_call_r (d0 := 0) hg kd_xt_ok (kd_ctl_r [] (fun q hq => by cases hq)) 3) (kv_rclame2 )
def kv_Tclame3 : kd_Tc := ([(3, 1, 1), (0, 0, 4294967295), (0, 2147483650, 4294967295), (0, 0, 4294967295)], [], [(some (0, 0, 2147483647), [], [])])
theorem kv_rclame3 : kd_runv kd_ty kd_x36 5 (kd_call kd_ty kd_xt (kd_ctl []) 600 3) [] 0 kv_Tclame3 600 = true := by decide +kernel
theorem kv_hclame3 {g : kc_G} (hg : kc_ok g) : kd_holdv g 4 kd_ty 36 [] 0 kv_Tclame3 := kd_newv hg kd_xk36 rfl rfl rfl rfl (fun h0 => kd_call_r (d0 := 0) hg kd_xt_ok (kd_ctl_r [] (fun q hq => by cases hq)) 3) (kv_rclame3 )
def kv_Tclame4 : kd_Tc := ([(3, 1, 1), (0, 0, 4294967295), (0, 0, 4294967295), (0, 0, 2147483647)], [], [(some (0, 0, 2147483647), [], [])])
theorem kv_rclame4 : kd_runv kd_ty kd_x36 5 (kd_call kd_ty kd_xt (kd_ctl []) 600 3) [] 0 kv_Tclame4 600 = true := by decide +kernel
theorem kv_hclame4 {g : kc_G} (hg : kc_ok g) : kd_holdv g 4 kd_ty 36 [] 0 kv_Tclame4 := kd_newv hg kd_xk36 rfl rfl rfl rfl (fun h0 => kd_call_r (d0 := 0) hg kd_xt_ok (kd_ctl_r [] (fun q hq => by cases hq)) 3) (kv_rclame4 )
def kv_Tclame5 : kd_Tc := ([(3, 1, 1), (0, 0, 4294967295), (0, 0, 4294967295), (0, 2147484648, 4294967295)], [], [(some (0, 0, 2147483647), [], [])])
theorem kv_rclame5 : kd_runv kd_ty kd_x36 5 (kd_call kd_ty kd_xt (kd_ctl []) 600 3) [] 0 kv_Tclame5 600 = true := by decide +kernel
theorem kv_hclame5 {g : kc_G} (hg : kc_ok g) : kd_holdv g 4 kd_ty 36 [] 0 kv_Tclame5 := kd_newv hg kd_xk36 rfl rfl rfl rfl (fun h0 => kd_call_r (d0 := 0) hg kd_xt_ok (kd_ctl_r [] (fun q hq => by cases hq)) 3) (kv_rclame5 )
def kv_Tclamep (x : Nat) : kd_Tc := ([(3, 1, 1), (0, 2147483648 + x, 2147483648 + x), (0, 0, 4294967295), (0, 0, 4294967295)], [(1, 1, (0, 2147483648, 2147483648 + x))], [(some (0, 0, 2147483647), [], [])])
theorem kv_rclamep : ∀ x, x < 3 → kd_runv kd_ty kd_x36 5 (kd_call kd_ty kd_xt (kd_ctl []) 600 3) [] 0 (kv_Tclamep x) 600 = true := by decide +kernel
theorem kv_hclamep {g : kc_G} (hg : kc_ok g) {x : Nat} (hx : x < 3) : kd_holdv g 4 kd_ty 36 [] 0 (kv_Tclamep x) := kd_newv hg kd_xk36 rfl rfl rfl rfl (fun h0 => kd_call_r (d0 := 0) hg kd_xt_ok (kd_ctl_r [] (fun q hq => by cases hq)) 3) (kv_rclamep x hx)
def kv_Tcford (x : Nat) : kd_Tc := ([(3, 1, 1), (0, 2147483648 + x+1, 2147483648 + x+1)], [(1, 0, (0, 2147483648 + x+1, 2147483653)), (9, (x+1), (0, 2147483648, 2147483648))], [(some (0, 2147483648, 4294967295), [(9, (x+1), (0, 2147483649, 2147483649))], [(9, 9, x + 1, x + 1)])])
theorem kv_rcford : ∀ x, x < 5 → kd_runv kd_ty kd_x24 2 (kd_call kd_ty kd_xt (kd_ctl []) 600 2) [] 0 (kv_Tcford x) 600 = true := by decide +kernel
theorem kv_hcford {g : kc_G} (hg : kc_ok g) {x : Nat} (hx : x < 5) : kd_holdv g 3 kd_ty 24 [] 0 (kv_Tcford x) := kd_newv hg kd_xk24 rfl rfl rfl rfl (fun h0 => kd_call_r (d0 := 0) hg kd_xt_ok (kd_ctl_r [] (fun q hq => by cases hq)) 2) (kv_rcford x hx)
def kv_Tcfordn (x : Nat) : kd_Tc := ([(3, 1, 1), (0, 2147483648 + x+1, 2147483648 + x+1)], [(9, (x+1), (0, 2147483649, 2147483649))], [(some (0, 0, 2147483647), [], [])])
theorem kv_rcfordn : ∀ x, x < 5 → kd_runv kd_ty kd_x24 2 (kd_call kd_ty kd_xt (kd_ctl []) 600 2) [] 0 (kv_Tcfordn x) 600 = true := by decide +kernel
theorem kv_hcfordn {g : kc_G} (hg : kc_ok g) {x : Nat} (hx : x < 5) : kd_holdv g 3 kd_ty 24 [] 0 (kv_Tcfordn x) := kd_newv hg kd_xk24 rfl rfl rfl rfl (fun h0 => kd_call_r (d0 := 0) hg kd_xt_ok (kd_ctl_r [] (fun q hq => by cases hq)) 2) (kv_rcfordn x hx)
def kv_Tcford0 : kd_Tc := ([(3, 1, 1), (0, 0, 2147483648)], [], [(some (0, 0, 2147483647), [], [])])
theorem kv_rcford0 : kd_runv kd_ty kd_x24 2 (kd_call kd_ty kd_xt (kd_ctl []) 600 2) [] 0 kv_Tcford0 600 = true := by decide +kernel
theorem kv_hcford0 {g : kc_G} (hg : kc_ok g) : kd_holdv g 3 kd_ty 24 [] 0 kv_Tcford0 := kd_newv hg kd_xk24 rfl rfl rfl rfl (fun h0 => kd_call_r (d0 := 0) hg kd_xt_ok (kd_ctl_r [] (fun q hq => by cases hq)) 2) (kv_rcford0 )
def kv_Tcford1 : kd_Tc := ([(3, 1, 1), (0, 2147483654, 4294967295)], [], [(some (0, 0, 2147483647), [], [])])
theorem kv_rcford1 : kd_runv kd_ty kd_x24 2 (kd_call kd_ty kd_xt (kd_ctl []) 600 2) [] 0 kv_Tcford1 600 = true := by decide +kernel
theorem kv_hcford1 {g : kc_G} (hg : kc_ok g) : kd_holdv g 3 kd_ty 24 [] 0 kv_Tcford1 := kd_newv hg kd_xk24 rfl rfl rfl rfl (fun h0 => kd_call_r (d0 := 0) hg kd_xt_ok (kd_ctl_r [] (fun q hq => by cases hq)) 2) (kv_rcford1 )
def kv_Tcfordp (x : Nat) : kd_Tc := ([(3, 1, 1), (0, 2147483648 + x+1, 2147483648 + x+1)], [(1, 0, (0, 2147483648, 2147483648 + x))], [(some (0, 0, 2147483647), [], [])])
theorem kv_rcfordp : ∀ x, x < 5 → kd_runv kd_ty kd_x24 2 (kd_call kd_ty kd_xt (kd_ctl []) 600 2) [] 0 (kv_Tcfordp x) 600 = true := by decide +kernel
theorem kv_hcfordp {g : kc_G} (hg : kc_ok g) {x : Nat} (hx : x < 5) : kd_holdv g 3 kd_ty 24 [] 0 (kv_Tcfordp x) := kd_newv hg kd_xk24 rfl rfl rfl rfl (fun h0 => kd_call_r (d0 := 0) hg kd_xt_ok (kd_ctl_r [] (fun q hq => by cases hq)) 2) (kv_rcfordp x hx)
def kv_Tcask (x : Nat) : kd_Tc := ([(3, 1, 1), (0, 2147483648 + x, 2147483648 + x), (0, 2147483652, 2147483652), (0, 2147483648, 2147483748), (0, 2147483748, 2147483748)], [(1, 2, (0, 2147483648 + x+1, 2147483658))], [(some (0, 2147483648, 4294967295), [], [(16, 25, 0, 6)])])
theorem kv_rcask : ∀ x, x < 10 → kd_runv kd_ty kd_x45 6 (kd_call kd_ty kd_xt (kd_ctl []) 600 2) [] 0 (kv_Tcask x) 600 = true := by decide +kernel
theorem kv_hcask {g : kc_G} (hg : kc_ok g) {x : Nat} (hx : x < 10) : kd_holdv g 3 kd_ty 45 [] 0 (kv_Tcask x) := kd_newv hg kd_xk45 rfl rfl rfl rfl (fun h0 => kd_call_r (d0 := 0) hg kd_xt_ok (kd_ctl_r [] (fun q hq => by cases hq)) 2) (kv_rcask x hx)
def kv_Tcask0 : kd_Tc := ([(3, 1, 1), (0, 0, 2147483647), (0, 2147483652, 2147483652), (0, 0, 4294967295), (0, 2147483748, 2147483748)], [], [(some (0, 0, 2147483647), [], [])])
theorem kv_rcask0 : kd_runv kd_ty kd_x45 6 (kd_call kd_ty kd_xt (kd_ctl []) 600 2) [] 0 kv_Tcask0 600 = true := by decide +kernel
theorem kv_hcask0 {g : kc_G} (hg : kc_ok g) : kd_holdv g 3 kd_ty 45 [] 0 kv_Tcask0 := kd_newv hg kd_xk45 rfl rfl rfl rfl (fun h0 => kd_call_r (d0 := 0) hg kd_xt_ok (kd_ctl_r [] (fun q hq => by cases hq)) 2) (kv_rcask0 )
def kv_Tcask1 : kd_Tc := ([(3, 1, 1), (0, 2147483658, 4294967295), (0, 2147483652, 2147483652), (0, 0, 4294967295), (0, 2147483748, 2147483748)], [], [(some (0, 0, 2147483647), [], [])])
theorem kv_rcask1 : kd_runv kd_ty kd_x45 6 (kd_call kd_ty kd_xt (kd_ctl []) 600 2) [] 0 kv_Tcask1 600 = true := by decide +kernel
theorem kv_hcask1 {g : kc_G} (hg : kc_ok g) : kd_holdv g 3 kd_ty 45 [] 0 kv_Tcask1 := kd_newv hg kd_xk45 rfl rfl rfl rfl (fun h0 => kd_call_r (d0 := 0) hg kd_xt_ok (kd_ctl_r [] (fun q hq => by cases hq)) 2) (kv_rcask1 )
def kv_Tcask2 : kd_Tc := ([(3, 1, 1), (0, 0, 4294967295), (0, 2147483652, 2147483652), (0, 0, 2147483647), (0, 2147483748, 2147483748)], [], [(some (0, 0, 2147483647), [], [])])
theorem kv_rcask2 : kd_runv kd_ty kd_x45 6 (kd_call kd_ty kd_xt (kd_ctl []) 600 2) [] 0 kv_Tcask2 600 = true := by decide +kernel
theorem kv_hcask2 {g : kc_G} (hg : kc_ok g) : kd_holdv g 3 kd_ty 45 [] 0 kv_Tcask2 := kd_newv hg kd_xk45 rfl rfl rfl rfl (fun h0 => kd_call_r (d0 := 0) hg kd_xt_ok (kd_ctl_r [] (fun q hq => by cases hq)) 2) (kv_rcask2 )
def kv_Tcask3 : kd_Tc := ([(3, 1, 1), (0, 0, 4294967295), (0, 2147483652, 2147483652), (0, 2147483749, 4294967295), (0, 2147483748, 2147483748)], [], [(some (0, 0, 2147483647), [], [])])
theorem kv_rcask3 : kd_runv kd_ty kd_x45 6 (kd_call kd_ty kd_xt (kd_ctl []) 600 2) [] 0 kv_Tcask3 600 = true := by decide +kernel
theorem kv_hcask3 {g : kc_G} (hg : kc_ok g) : kd_holdv g 3 kd_ty 45 [] 0 kv_Tcask3 := kd_newv hg kd_xk45 rfl rfl rfl rfl (fun h0 => kd_call_r (d0 := 0) hg kd_xt_ok (kd_ctl_r [] (fun q hq => by cases hq)) 2) (kv_rcask3 )
def kv_Tcaskp (x : Nat) : kd_Tc := ([(3, 1, 1), (0, 2147483648 + x, 2147483648 + x), (0, 2147483652, 2147483652), (0, 0, 4294967295), (0, 2147483748, 2147483748)], [(1, 2, (0, 2147483648, 2147483648 + x))], [(some (0, 0, 2147483647), [], [])])
theorem kv_rcaskp : ∀ x, x < 10 → kd_runv kd_ty kd_x45 6 (kd_call kd_ty kd_xt (kd_ctl []) 600 2) [] 0 (kv_Tcaskp x) 600 = true := by decide +kernel
theorem kv_hcaskp {g : kc_G} (hg : kc_ok g) {x : Nat} (hx : x < 10) : kd_holdv g 3 kd_ty 45 [] 0 (kv_Tcaskp x) := kd_newv hg kd_xk45 rfl rfl rfl rfl (fun h0 => kd_call_r (d0 := 0) hg kd_xt_ok (kd_ctl_r [] (fun q hq => by cases hq)) 2) (kv_rcaskp x hx)
def kv_Tcdrain (x : Nat) : kd_Tc := ([(3, 1, 1), (0, 2147483648 + x, 2147483648 + x), (0, 2147483653, 2147483653), (0, 2147483648, 2147483657), (0, 2147483657, 2147483657)], [(1, 2, (0, 2147483648 + x+1, 2147483658))], [(some (0, 2147483648, 4294967295), [], [(16, 25, 0, 6)])])
theorem kv_rcdrain : ∀ x, x < 10 → kd_runv kd_ty kd_x45 6 (kd_call kd_ty kd_xt (kd_ctl []) 600 2) [] 0 (kv_Tcdrain x) 600 = true := by decide +kernel
theorem kv_hcdrain {g : kc_G} (hg : kc_ok g) {x : Nat} (hx : x < 10) : kd_holdv g 3 kd_ty 45 [] 0 (kv_Tcdrain x) := kd_newv hg kd_xk45 rfl rfl rfl rfl (fun h0 => kd_call_r (d0 := 0) hg kd_xt_ok (kd_ctl_r [] (fun q hq => by cases hq)) 2) (kv_rcdrain x hx)
def kv_Tcdrain0 : kd_Tc := ([(3, 1, 1), (0, 0, 2147483647), (0, 2147483653, 2147483653), (0, 0, 4294967295), (0, 2147483657, 2147483657)], [], [(some (0, 0, 2147483647), [], [])])
theorem kv_rcdrain0 : kd_runv kd_ty kd_x45 6 (kd_call kd_ty kd_xt (kd_ctl []) 600 2) [] 0 kv_Tcdrain0 600 = true := by decide +kernel
theorem kv_hcdrain0 {g : kc_G} (hg : kc_ok g) : kd_holdv g 3 kd_ty 45 [] 0 kv_Tcdrain0 := kd_newv hg kd_xk45 rfl rfl rfl rfl (fun h0 => kd_call_r (d0 := 0) hg kd_xt_ok (kd_ctl_r [] (fun q hq => by cases hq)) 2) (kv_rcdrain0 )
def kv_Tcdrain1 : kd_Tc := ([(3, 1, 1), (0, 2147483658, 4294967295), (0, 2147483653, 2147483653), (0, 0, 4294967295), (0, 2147483657, 2147483657)], [], [(some (0, 0, 2147483647), [], [])])
theorem kv_rcdrain1 : kd_runv kd_ty kd_x45 6 (kd_call kd_ty kd_xt (kd_ctl []) 600 2) [] 0 kv_Tcdrain1 600 = true := by decide +kernel
theorem kv_hcdrain1 {g : kc_G} (hg : kc_ok g) : kd_holdv g 3 kd_ty 45 [] 0 kv_Tcdrain1 := kd_newv hg kd_xk45 rfl rfl rfl rfl (fun h0 => kd_call_r (d0 := 0) hg kd_xt_ok (kd_ctl_r [] (fun q hq => by cases hq)) 2) (kv_rcdrain1 )
def kv_Tcdrain2 : kd_Tc := ([(3, 1, 1), (0, 0, 4294967295), (0, 2147483653, 2147483653), (0, 0, 2147483647), (0, 2147483657, 2147483657)], [], [(some (0, 0, 2147483647), [], [])])
theorem kv_rcdrain2 : kd_runv kd_ty kd_x45 6 (kd_call kd_ty kd_xt (kd_ctl []) 600 2) [] 0 kv_Tcdrain2 600 = true := by decide +kernel
theorem kv_hcdrain2 {g : kc_G} (hg : kc_ok g) : kd_holdv g 3 kd_ty 45 [] 0 kv_Tcdrain2 := kd_newv hg kd_xk45 rfl rfl rfl rfl (fun h0 => kd_call_r (d0 := 0) hg kd_xt_ok (kd_ctl_r [] (fun q hq => by cases hq)) 2) (kv_rcdrain2 )
def kv_Tcdrain3 : kd_Tc := ([(3, 1, 1), (0, 0, 4294967295), (0, 2147483653, 2147483653), (0, 2147483658, 4294967295), (0, 2147483657, 2147483657)], [], [(some (0, 0, 2147483647), [], [])])
theorem kv_rcdrain3 : kd_runv kd_ty kd_x45 6 (kd_call kd_ty kd_xt (kd_ctl []) 600 2) [] 0 kv_Tcdrain3 600 = true := by decide +kernel
theorem kv_hcdrain3 {g : kc_G} (hg : kc_ok g) : kd_holdv g 3 kd_ty 45 [] 0 kv_Tcdrain3 := kd_newv hg kd_xk45 rfl rfl rfl rfl (fun h0 => kd_call_r (d0 := 0) hg kd_xt_ok (kd_ctl_r [] (fun q hq => by cases hq)) 2) (kv_rcdrain3 )
def kv_Tcdrainp (x : Nat) : kd_Tc := ([(3, 1, 1), (0, 2147483648 + x, 2147483648 + x), (0, 2147483653, 2147483653), (0, 0, 4294967295), (0, 2147483657, 2147483657)], [(1, 2, (0, 2147483648, 2147483648 + x))], [(some (0, 0, 2147483647), [], [])])
theorem kv_rcdrainp : ∀ x, x < 10 → kd_runv kd_ty kd_x45 6 (kd_call kd_ty kd_xt (kd_ctl []) 600 2) [] 0 (kv_Tcdrainp x) 600 = true := by decide +kernel
theorem kv_hcdrainp {g : kc_G} (hg : kc_ok g) {x : Nat} (hx : x < 10) : kd_holdv g 3 kd_ty 45 [] 0 (kv_Tcdrainp x) := kd_newv hg kd_xk45 rfl rfl rfl rfl (fun h0 => kd_call_r (d0 := 0) hg kd_xt_ok (kd_ctl_r [] (fun q hq => by cases hq)) 2) (kv_rcdrainp x hx)
def kv_Tcstones (x : Nat) : kd_Tc := ([(3, 1, 1), (0, 2147483648 + x, 2147483648 + x), (0, 2147483648, 2147483657)], [(1, 0, (0, 2147483648 + x, 2147483653))], [(some (0, 2147483648, 4294967295), [], [(10, 10, 0, 5)])])
theorem kv_rcstones : ∀ x, x < 6 → kd_runv kd_ty kd_x29 4 (kd_call kd_ty kd_xt (kd_ctl []) 600 2) [] 0 (kv_Tcstones x) 600 = true := by decide +kernel
theorem kv_hcstones {g : kc_G} (hg : kc_ok g) {x : Nat} (hx : x < 6) : kd_holdv g 3 kd_ty 29 [] 0 (kv_Tcstones x) := kd_newv hg kd_xk29 rfl rfl rfl rfl (fun h0 => kd_call_r (d0 := 0) hg kd_xt_ok (kd_ctl_r [] (fun q hq => by cases hq)) 2) (kv_rcstones x hx)
def kv_Tcstones0 : kd_Tc := ([(3, 1, 1), (0, 0, 2147483647), (0, 0, 4294967295)], [], [(some (0, 0, 2147483647), [], [])])
theorem kv_rcstones0 : kd_runv kd_ty kd_x29 4 (kd_call kd_ty kd_xt (kd_ctl []) 600 2) [] 0 kv_Tcstones0 600 = true := by decide +kernel
theorem kv_hcstones0 {g : kc_G} (hg : kc_ok g) : kd_holdv g 3 kd_ty 29 [] 0 kv_Tcstones0 := kd_newv hg kd_xk29 rfl rfl rfl rfl (fun h0 => kd_call_r (d0 := 0) hg kd_xt_ok (kd_ctl_r [] (fun q hq => by cases hq)) 2) (kv_rcstones0 )
def kv_Tcstones1 : kd_Tc := ([(3, 1, 1), (0, 2147483654, 4294967295), (0, 0, 4294967295)], [], [(some (0, 0, 2147483647), [], [])])
theorem kv_rcstones1 : kd_runv kd_ty kd_x29 4 (kd_call kd_ty kd_xt (kd_ctl []) 600 2) [] 0 kv_Tcstones1 600 = true := by decide +kernel
theorem kv_hcstones1 {g : kc_G} (hg : kc_ok g) : kd_holdv g 3 kd_ty 29 [] 0 kv_Tcstones1 := kd_newv hg kd_xk29 rfl rfl rfl rfl (fun h0 => kd_call_r (d0 := 0) hg kd_xt_ok (kd_ctl_r [] (fun q hq => by cases hq)) 2) (kv_rcstones1 )
def kv_Tcstones2 : kd_Tc := ([(3, 1, 1), (0, 0, 4294967295), (0, 0, 2147483647)], [], [(some (0, 0, 2147483647), [], [])])
theorem kv_rcstones2 : kd_runv kd_ty kd_x29 4 (kd_call kd_ty kd_xt (kd_ctl []) 600 2) [] 0 kv_Tcstones2 600 = true := by decide +kernel
theorem kv_hcstones2 {g : kc_G} (hg : kc_ok g) : kd_holdv g 3 kd_ty 29 [] 0 kv_Tcstones2 := kd_newv hg kd_xk29 rfl rfl rfl rfl (fun h0 => kd_call_r (d0 := 0) hg kd_xt_ok (kd_ctl_r [] (fun q hq => by cases hq)) 2) (kv_rcstones2 )
def kv_Tcstones3 : kd_Tc := ([(3, 1, 1), (0, 0, 4294967295), (0, 2147483658, 4294967295)], [], [(some (0, 0, 2147483647), [], [])])
theorem kv_rcstones3 : kd_runv kd_ty kd_x29 4 (kd_call kd_ty kd_xt (kd_ctl []) 600 2) [] 0 kv_Tcstones3 600 = true := by decide +kernel
theorem kv_hcstones3 {g : kc_G} (hg : kc_ok g) : kd_holdv g 3 kd_ty 29 [] 0 kv_Tcstones3 := kd_newv hg kd_xk29 rfl rfl rfl rfl (fun h0 => kd_call_r (d0 := 0) hg kd_xt_ok (kd_ctl_r [] (fun q hq => by cases hq)) 2) (kv_rcstones3 )
def kv_Tcstonesp (x : Nat) : kd_Tc := ([(3, 1, 1), (0, 2147483648 + x+1, 2147483648 + x+1), (0, 0, 4294967295)], [(1, 0, (0, 2147483648, 2147483648 + x))], [(some (0, 0, 2147483647), [], [])])
theorem kv_rcstonesp : ∀ x, x < 5 → kd_runv kd_ty kd_x29 4 (kd_call kd_ty kd_xt (kd_ctl []) 600 2) [] 0 (kv_Tcstonesp x) 600 = true := by decide +kernel
theorem kv_hcstonesp {g : kc_G} (hg : kc_ok g) {x : Nat} (hx : x < 5) : kd_holdv g 3 kd_ty 29 [] 0 (kv_Tcstonesp x) := kd_newv hg kd_xk29 rfl rfl rfl rfl (fun h0 => kd_call_r (d0 := 0) hg kd_xt_ok (kd_ctl_r [] (fun q hq => by cases hq)) 2) (kv_rcstonesp x hx)
def kv_Ttmule : kd_Tc := ([(3, 0, 0), (0, 2147483649, 2147484647), (0, 2147483648, 2147483747), (0, 2147483648, 2147483747)], [(1, 1, (1, 0, 2147483648))], [(some (0, 2147483648, 4294967295), [(1, 1, (1, 0, 2147483649))], [(1, 1, 1, 1), (12, 14, 0, 4)])])
theorem kv_rtmule : kd_runv kd_ty kd_x32 4 (kd_call kd_ty kd_xt (kd_ctl []) 600 2) [(2147483648, 2147483650)] 1 kv_Ttmule 600 = true := by decide +kernel
theorem kv_htmule {g : kc_G} (hg : kc_ok g) : kd_holdv g 3 kd_ty 32 [(2147483648, 2147483650)] 1 kv_Ttmule := kd_newv hg kd_xk32 rfl rfl rfl rfl (fun h0 => kd_call_r (d0 := 0) hg kd_xt_ok (kd_ctl_r [] (fun q hq => by cases hq)) 2) (kv_rtmule )
def kv_Ttmulef : kd_Tc := ([(3, 0, 0), (0, 2147483649, 2147484647), (0, 2147483648, 2147483747), (0, 2147483648, 2147483747)], [(1, 1, (0, 2147483651, 2147483651))], [(some (0, 0, 2147483647), [], [])])
theorem kv_rtmulef : kd_runv kd_ty kd_x32 4 (kd_call kd_ty kd_xt (kd_ctl []) 600 2) [] 0 kv_Ttmulef 600 = true := by decide +kernel
theorem kv_htmulef {g : kc_G} (hg : kc_ok g) : kd_holdv g 3 kd_ty 32 [] 0 kv_Ttmulef := kd_newv hg kd_xk32 rfl rfl rfl rfl (fun h0 => kd_call_r (d0 := 0) hg kd_xt_ok (kd_ctl_r [] (fun q hq => by cases hq)) 2) (kv_rtmulef )
def kv_Ttmule0 : kd_Tc := ([(3, 0, 0), (0, 0, 2147483648), (0, 0, 4294967295), (0, 0, 4294967295)], [], [(some (0, 0, 2147483647), [], [])])
theorem kv_rtmule0 : kd_runv kd_ty kd_x32 4 (kd_call kd_ty kd_xt (kd_ctl []) 600 2) [] 0 kv_Ttmule0 600 = true := by decide +kernel
theorem kv_htmule0 {g : kc_G} (hg : kc_ok g) : kd_holdv g 3 kd_ty 32 [] 0 kv_Ttmule0 := kd_newv hg kd_xk32 rfl rfl rfl rfl (fun h0 => kd_call_r (d0 := 0) hg kd_xt_ok (kd_ctl_r [] (fun q hq => by cases hq)) 2) (kv_rtmule0 )
def kv_Ttmule1 : kd_Tc := ([(3, 0, 0), (0, 2147484648, 4294967295), (0, 0, 4294967295), (0, 0, 4294967295)], [], [(some (0, 0, 2147483647), [], [])])
theorem kv_rtmule1 : kd_runv kd_ty kd_x32 4 (kd_call kd_ty kd_xt (kd_ctl []) 600 2) [] 0 kv_Ttmule1 600 = true := by decide +kernel
theorem kv_htmule1 {g : kc_G} (hg : kc_ok g) : kd_holdv g 3 kd_ty 32 [] 0 kv_Ttmule1 := kd_newv hg kd_xk32 rfl rfl rfl rfl (fun h0 => kd_call_r (d0 := 0) hg kd_xt_ok (kd_ctl_r [] (fun q hq => by cases hq)) 2) (kv_rtmule1 )
def kv_Ttmule2 : kd_Tc := ([(3, 0, 0), (0, 0, 4294967295), (0, 0, 2147483647), (0, 0, 4294967295)], [], [(some (0, 0, 2147483647), [], [])])
theorem kv_rtmule2 : kd_runv kd_ty kd_x32 4 (kd_call kd_ty kd_xt (kd_ctl []) 600 2) [] 0 kv_Ttmule2 600 = true := by decide +kernel
theorem kv_htmule2 {g : kc_G} (hg : kc_ok g) : kd_holdv g 3 kd_ty 32 [] 0 kv_Ttmule2 := kd_newv hg kd_xk32 rfl rfl rfl rfl (fun h0 => kd_call_r (d0 := 0) hg kd_xt_ok (kd_ctl_r [] (fun q hq => by cases hq)) 2) (kv_rtmule2 )
def kv_Ttmule3 : kd_Tc := ([(3, 0, 0), (0, 0, 4294967295), (0, 2147483748, 4294967295), (0, 0, 4294967295)], [], [(some (0, 0, 2147483647), [], [])])
theorem kv_rtmule3 : kd_runv kd_ty kd_x32 4 (kd_call kd_ty kd_xt (kd_ctl []) 600 2) [] 0 kv_Ttmule3 600 = true := by decide +kernel
theorem kv_htmule3 {g : kc_G} (hg : kc_ok g) : kd_holdv g 3 kd_ty 32 [] 0 kv_Ttmule3 := kd_newv hg kd_xk32 rfl rfl rfl rfl (fun h0 => kd_call_r (d0 := 0) hg kd_xt_ok (kd_ctl_r [] (fun q hq => by cases hq)) 2) (kv_rtmule3 )
def kv_Ttmule4 : kd_Tc := ([(3, 0, 0), (0, 0, 4294967295), (0, 0, 4294967295), (0, 0, 2147483647)], [], [(some (0, 0, 2147483647), [], [])])
theorem kv_rtmule4 : kd_runv kd_ty kd_x32 4 (kd_call kd_ty kd_xt (kd_ctl []) 600 2) [] 0 kv_Ttmule4 600 = true := by decide +kernel
theorem kv_htmule4 {g : kc_G} (hg : kc_ok g) : kd_holdv g 3 kd_ty 32 [] 0 kv_Ttmule4 := kd_newv hg kd_xk32 rfl rfl rfl rfl (fun h0 => kd_call_r (d0 := 0) hg kd_xt_ok (kd_ctl_r [] (fun q hq => by cases hq)) 2) (kv_rtmule4 )
def kv_Ttmule5 : kd_Tc := ([(3, 0, 0), (0, 0, 4294967295), (0, 0, 4294967295), (0, 2147483748, 4294967295)], [], [(some (0, 0, 2147483647), [], [])])
theorem kv_rtmule5 : kd_runv kd_ty kd_x32 4 (kd_call kd_ty kd_xt (kd_ctl []) 600 2) [] 0 kv_Ttmule5 600 = true := by decide +kernel
theorem kv_htmule5 {g : kc_G} (hg : kc_ok g) : kd_holdv g 3 kd_ty 32 [] 0 kv_Ttmule5 := kd_newv hg kd_xk32 rfl rfl rfl rfl (fun h0 => kd_call_r (d0 := 0) hg kd_xt_ok (kd_ctl_r [] (fun q hq => by cases hq)) 2) (kv_rtmule5 )
def kv_TtloadA (x : Nat) : kd_Tc := ([(3, 0, 0), (0, 2147483649, 2147483747), (0, 2147483648, 2147483649), (0, 2147483648 + x+1, 2147483648 + x+1), (0, 2147483648, 2147483648 + x)], [(1, 0, (0, 2147483648 + x+1, 2147483653)), (1, 2, (1, 0, 2147483648))], [(some (0, 2147483648, 4294967295), [(1, 2, (1, 0, 2147483649))], [(1, 1, 2, 2), (16, 25, 0, 6)])])
theorem kv_rtloadA : ∀ x, x < 5 → kd_runv kd_ty kd_x41 5 (kd_call kd_ty kd_xt (kd_ctl []) 600 3) [(2147483648, 2147483657)] 1 (kv_TtloadA x) 600 = true := by decide +kernel
theorem kv_htloadA {g : kc_G} (hg : kc_ok g) {x : Nat} (hx : x < 5) : kd_holdv g 4 kd_ty 41 [(2147483648, 2147483657)] 1 (kv_TtloadA x) := kd_newv hg kd_xk41 rfl rfl rfl rfl (fun h0 => kd_call_r (d0 := 0) hg kd_xt_ok (kd_ctl_r [] (fun q hq => by cases hq)) 3) (kv_rtloadA x hx)
def kv_TtloadfA (x : Nat) : kd_Tc := ([(3, 0, 0), (0, 2147483649, 2147483747), (0, 2147483648, 2147483649), (0, 2147483648 + x+1, 2147483648 + x+1), (0, 2147483648, 2147483648 + x)], [(1, 0, (0, 2147483648 + x+1, 2147483653)), (1, 2, (0, 2147483658, 2147483658))], [(some (0, 0, 2147483647), [], [])])
theorem kv_rtloadfA : ∀ x, x < 5 → kd_runv kd_ty kd_x41 5 (kd_call kd_ty kd_xt (kd_ctl []) 600 3) [] 0 (kv_TtloadfA x) 600 = true := by decide +kernel
theorem kv_htloadfA {g : kc_G} (hg : kc_ok g) {x : Nat} (hx : x < 5) : kd_holdv g 4 kd_ty 41 [] 0 (kv_TtloadfA x) := kd_newv hg kd_xk41 rfl rfl rfl rfl (fun h0 => kd_call_r (d0 := 0) hg kd_xt_ok (kd_ctl_r [] (fun q hq => by cases hq)) 3) (kv_rtloadfA x hx)
def kv_TtloadB (x : Nat) : kd_Tc := ([(3, 0, 0), (0, 2147483649, 2147483747), (0, 2147483648, 2147483649), (0, 2147483648, 2147483648 + x), (0, 2147483648 + x+1, 2147483648 + x+1)], [(1, 0, (0, 2147483648 + x+1, 2147483653)), (1, 2, (1, 0, 2147483648))], [(some (0, 2147483648, 4294967295), [(1, 2, (1, 0, 2147483649))], [(1, 1, 2, 2), (16, 25, 0, 6)])])
theorem kv_rtloadB : ∀ x, x < 5 → kd_runv kd_ty kd_x41 5 (kd_call kd_ty kd_xt (kd_ctl []) 600 3) [(2147483648, 2147483657)] 1 (kv_TtloadB x) 600 = true := by decide +kernel
theorem kv_htloadB {g : kc_G} (hg : kc_ok g) {x : Nat} (hx : x < 5) : kd_holdv g 4 kd_ty 41 [(2147483648, 2147483657)] 1 (kv_TtloadB x) := kd_newv hg kd_xk41 rfl rfl rfl rfl (fun h0 => kd_call_r (d0 := 0) hg kd_xt_ok (kd_ctl_r [] (fun q hq => by cases hq)) 3) (kv_rtloadB x hx)
def kv_TtloadfB (x : Nat) : kd_Tc := ([(3, 0, 0), (0, 2147483649, 2147483747), (0, 2147483648, 2147483649), (0, 2147483648, 2147483648 + x), (0, 2147483648 + x+1, 2147483648 + x+1)], [(1, 0, (0, 2147483648 + x+1, 2147483653)), (1, 2, (0, 2147483658, 2147483658))], [(some (0, 0, 2147483647), [], [])])
theorem kv_rtloadfB : ∀ x, x < 5 → kd_runv kd_ty kd_x41 5 (kd_call kd_ty kd_xt (kd_ctl []) 600 3) [] 0 (kv_TtloadfB x) 600 = true := by decide +kernel
theorem kv_htloadfB {g : kc_G} (hg : kc_ok g) {x : Nat} (hx : x < 5) : kd_holdv g 4 kd_ty 41 [] 0 (kv_TtloadfB x) := kd_newv hg kd_xk41 rfl rfl rfl rfl (fun h0 => kd_call_r (d0 := 0) hg kd_xt_ok (kd_ctl_r [] (fun q hq => by cases hq)) 3) (kv_rtloadfB x hx)
def kv_Ttload0 : kd_Tc := ([(3, 0, 0), (0, 0, 2147483648), (0, 0, 4294967295), (0, 0, 4294967295), (0, 0, 4294967295)], [], [(some (0, 0, 2147483647), [], [])])
theorem kv_rtload0 : kd_runv kd_ty kd_x41 5 (kd_call kd_ty kd_xt (kd_ctl []) 600 2) [] 0 kv_Ttload0 600 = true := by decide +kernel
theorem kv_htload0 {g : kc_G} (hg : kc_ok g) : kd_holdv g 3 kd_ty 41 [] 0 kv_Ttload0 := kd_newv hg kd_xk41 rfl rfl rfl rfl (fun h0 => kd_call_r (d0 := 0) hg kd_xt_ok (kd_ctl_r [] (fun q hq => by cases hq)) 2) (kv_rtload0 )
def kv_Ttload1 : kd_Tc := ([(3, 0, 0), (0, 2147483748, 4294967295), (0, 0, 4294967295), (0, 0, 4294967295), (0, 0, 4294967295)], [], [(some (0, 0, 2147483647), [], [])])
theorem kv_rtload1 : kd_runv kd_ty kd_x41 5 (kd_call kd_ty kd_xt (kd_ctl []) 600 2) [] 0 kv_Ttload1 600 = true := by decide +kernel
theorem kv_htload1 {g : kc_G} (hg : kc_ok g) : kd_holdv g 3 kd_ty 41 [] 0 kv_Ttload1 := kd_newv hg kd_xk41 rfl rfl rfl rfl (fun h0 => kd_call_r (d0 := 0) hg kd_xt_ok (kd_ctl_r [] (fun q hq => by cases hq)) 2) (kv_rtload1 )
def kv_Ttload2 : kd_Tc := ([(3, 0, 0), (0, 0, 4294967295), (0, 0, 2147483647), (0, 0, 4294967295), (0, 0, 4294967295)], [], [(some (0, 0, 2147483647), [], [])])
theorem kv_rtload2 : kd_runv kd_ty kd_x41 5 (kd_call kd_ty kd_xt (kd_ctl []) 600 2) [] 0 kv_Ttload2 600 = true := by decide +kernel
theorem kv_htload2 {g : kc_G} (hg : kc_ok g) : kd_holdv g 3 kd_ty 41 [] 0 kv_Ttload2 := kd_newv hg kd_xk41 rfl rfl rfl rfl (fun h0 => kd_call_r (d0 := 0) hg kd_xt_ok (kd_ctl_r [] (fun q hq => by cases hq)) 2) (kv_rtload2 )
end
section
-- 99.z3
/-! ===== the verbs of a day, run by the engine 2 ===== -/
def kv_Ttload3 : kd_Tc := ([(3, 0, 0), (0, 0, 4294967295), (0, 2147483650, 4294967295), (0, 0, 4294967295), (0, 0, 4294967295)], [], [(some (0, 0, 2147483647), [], [])])
theorem kv_rtload3 : kd_runv kd_ty kd_x41 5 (kd_call kd_ty kd_xt (kd_ctl []) 600 2) [] 0 kv_Ttload3 600 = true := by decide +kernel
theorem kv_htload3 {g : kc_G} (hg : kc_ok g) : kd_holdv g 3 kd_ty 41 [] 0 kv_Ttload3 := kd_newv hg kd_xk41 rfl rfl rfl rfl (fun h0 => kd_call_r (d0 := 0) hg kd_xt_ok (kd_ctl_r [] (fun q hq => by cases hq)) 2) (kv_rtload3 )
def kv_Ttload4 : kd_Tc := ([(3, 0, 0), (0, 0, 4294967295), (0, 0, 4294967295), (0, 0, 2147483647), (0, 0, 4294967295)], [], [(some (0, 0, 2147483647), [], [])])
theorem kv_rtload4 : kd_runv kd_ty kd_x41 5 (kd_call kd_ty kd_xt (kd_ctl []) 600 3) [] 0 kv_Ttload4 600 = true := by decide +kernel
theorem kv_htload4 {g : kc_G} (hg : kc_ok g) : kd_holdv g 4 kd_ty 41 [] 0 kv_Ttload4 := kd_newv hg kd_xk41 rfl rfl rfl rfl (fun h0 => kd_call_r (d0 := 0) hg kd_xt_ok (kd_ctl_r [] (fun q hq => by cases hq)) 3) (kv_rtload4 )
def kv_Ttload5 : kd_Tc := ([(3, 0, 0), (0, 0, 4294967295), (0, 0, 4294967295), (0, 2147483654, 4294967295), (0, 0, 4294967295)], [], [(some (0, 0, 2147483647), [], [])])
theorem kv_rtload5 : kd_runv kd_ty kd_x41 5 (kd_call kd_ty kd_xt (kd_ctl []) 600 3) [] 0 kv_Ttload5 600 = true := by decide +kernel
theorem kv_htload5 {g : kc_G} (hg : kc_ok g) : kd_holdv g 4 kd_ty 41 [] 0 kv_Ttload5 := kd_newv hg kd_xk41 rfl rfl rfl rfl (fun h0 => kd_call_r (d0 := 0) hg kd_xt_ok (kd_ctl_r [] (fun q hq => by cases hq)) 3) (kv_rtload5 )
def kv_Ttload6 : kd_Tc := ([(3, 0, 0), (0, 0, 4294967295), (0, 0, 4294967295), (0, 0, 4294967295), (0, 0, 2147483647)], [], [(some (0, 0, 2147483647), [], [])])
theorem kv_rtload6 : kd_runv kd_ty kd_x41 5 (kd_call kd_ty kd_xt (kd_ctl []) 600 3) [] 0 kv_Ttload6 600 = true := by decide +kernel
theorem kv_htload6 {g : kc_G} (hg : kc_ok g) : kd_holdv g 4 kd_ty 41 [] 0 kv_Ttload6 := kd_newv hg kd_xk41 rfl rfl rfl rfl (fun h0 => kd_call_r (d0 := 0) hg kd_xt_ok (kd_ctl_r [] (fun q hq => by cases hq)) 3) (kv_rtload6 )
def kv_Ttload7 : kd_Tc := ([(3, 0, 0), (0, 0, 4294967295), (0, 0, 4294967295), (0, 0, 4294967295), (0, 2147483654, 4294967295)], [], [(some (0, 0, 2147483647), [], [])])
theorem kv_rtload7 : kd_runv kd_ty kd_x41 5 (kd_call kd_ty kd_xt (kd_ctl []) 600 3) [] 0 kv_Ttload7 600 = true := by decide +kernel
theorem kv_htload7 {g : kc_G} (hg : kc_ok g) : kd_holdv g 4 kd_ty 41 [] 0 kv_Ttload7 := kd_newv hg kd_xk41 rfl rfl rfl rfl (fun h0 => kd_call_r (d0 := 0) hg kd_xt_ok (kd_ctl_r [] (fun q hq => by cases hq)) 3) (kv_rtload7 )
def kv_Ttloadp (x : Nat) : kd_Tc := ([(3, 0, 0), (0, 0, 4294967295), (0, 0, 4294967295), (0, 2147483648 + x+1, 2147483648 + x+1), (0, 0, 4294967295)], [(1, 0, (0, 2147483648, 2147483648 + x))], [(some (0, 0, 2147483647), [], [])])
theorem kv_rtloadp : ∀ x, x < 5 → kd_runv kd_ty kd_x41 5 (kd_call kd_ty kd_xt (kd_ctl []) 600 3) [] 0 (kv_Ttloadp x) 600 = true := by decide +kernel
theorem kv_htloadp {g : kc_G} (hg : kc_ok g) {x : Nat} (hx : x < 5) : kd_holdv g 4 kd_ty 41 [] 0 (kv_Ttloadp x) := kd_newv hg kd_xk41 rfl rfl rfl rfl (fun h0 => kd_call_r (d0 := 0) hg kd_xt_ok (kd_ctl_r [] (fun q hq => by cases hq)) 3) (kv_rtloadp x hx)
def kv_Ttloadq (x : Nat) : kd_Tc := ([(3, 0, 0), (0, 0, 4294967295), (0, 0, 4294967295), (0, 0, 4294967295), (0, 2147483648 + x+1, 2147483648 + x+1)], [(1, 0, (0, 2147483648, 2147483648 + x))], [(some (0, 0, 2147483647), [], [])])
theorem kv_rtloadq : ∀ x, x < 5 → kd_runv kd_ty kd_x41 5 (kd_call kd_ty kd_xt (kd_ctl []) 600 3) [] 0 (kv_Ttloadq x) 600 = true := by decide +kernel
theorem kv_htloadq {g : kc_G} (hg : kc_ok g) {x : Nat} (hx : x < 5) : kd_holdv g 4 kd_ty 41 [] 0 (kv_Ttloadq x) := kd_newv hg kd_xk41 rfl rfl rfl rfl (fun h0 => kd_call_r (d0 := 0) hg kd_xt_ok (kd_ctl_r [] (fun q hq => by cases hq)) 3) (kv_rtloadq x hx)
def kv_Ttloade (x : Nat) : kd_Tc := ([(3, 0, 0), (0, 0, 4294967295), (0, 0, 4294967295), (0, 2147483648 + x, 2147483648 + x), (0, 2147483648 + x, 2147483648 + x)], [], [(some (0, 0, 2147483647), [], [])])
theorem kv_rtloade : ∀ x, x < 6 → kd_runv kd_ty kd_x41 5 (kd_call kd_ty kd_xt (kd_ctl []) 600 3) [] 0 (kv_Ttloade x) 600 = true := by decide +kernel
theorem kv_htloade {g : kc_G} (hg : kc_ok g) {x : Nat} (hx : x < 6) : kd_holdv g 4 kd_ty 41 [] 0 (kv_Ttloade x) := kd_newv hg kd_xk41 rfl rfl rfl rfl (fun h0 => kd_call_r (d0 := 0) hg kd_xt_ok (kd_ctl_r [] (fun q hq => by cases hq)) 3) (kv_rtloade x hx)
def kv_Trmule : kd_Tc := ([(3, 259, 259), (0, 2147483649, 2147484647), (0, 2147483648, 2147483747), (0, 2147483648, 2147483747)], [(260, 1, (1, 0, 2147483648))], [(some (0, 2147483648, 4294967295), [(260, 1, (1, 0, 2147483649))], [(260, 260, 1, 1), (260, 260, 60, 74)])])
theorem kv_rrmule : kd_runv kd_ty kd_x34 5 (kd_call kd_ty kd_xt (kd_ctl []) 600 1) [(2147483648, 2147483650)] 1 kv_Trmule 600 = true := by decide +kernel
theorem kv_hrmule {g : kc_G} (hg : kc_ok g) : kd_holdv g 2 kd_ty 34 [(2147483648, 2147483650)] 1 kv_Trmule := kd_newv hg kd_xk34 rfl rfl rfl rfl (fun h0 => kd_call_r (d0 := 0) hg kd_xt_ok (kd_ctl_r [] (fun q hq => by cases hq)) 1) (kv_rrmule )
def kv_Trmulef : kd_Tc := ([(3, 259, 259), (0, 2147483649, 2147484647), (0, 2147483648, 2147483747), (0, 2147483648, 2147483747)], [(260, 1, (0, 2147483651, 2147483651))], [(some (0, 0, 2147483647), [], [])])
theorem kv_rrmulef : kd_runv kd_ty kd_x34 5 (kd_call kd_ty kd_xt (kd_ctl []) 600 1) [] 0 kv_Trmulef 600 = true := by decide +kernel
theorem kv_hrmulef {g : kc_G} (hg : kc_ok g) : kd_holdv g 2 kd_ty 34 [] 0 kv_Trmulef := kd_newv hg kd_xk34 rfl rfl rfl rfl (fun h0 => kd_call_r (d0 := 0) hg kd_xt_ok (kd_ctl_r [] (fun q hq => by cases hq)) 1) (kv_rrmulef )
def kv_Trmule0 : kd_Tc := ([(3, 259, 259), (0, 0, 2147483648), (0, 0, 4294967295), (0, 0, 4294967295)], [], [(some (0, 0, 2147483647), [], [])])
theorem kv_rrmule0 : kd_runv kd_ty kd_x34 5 (kd_call kd_ty kd_xt (kd_ctl []) 600 1) [] 0 kv_Trmule0 600 = true := by decide +kernel
theorem kv_hrmule0 {g : kc_G} (hg : kc_ok g) : kd_holdv g 2 kd_ty 34 [] 0 kv_Trmule0 := kd_newv hg kd_xk34 rfl rfl rfl rfl (fun h0 => kd_call_r (d0 := 0) hg kd_xt_ok (kd_ctl_r [] (fun q hq => by cases hq)) 1) (kv_rrmule0 )
def kv_Trmule1 : kd_Tc := ([(3, 259, 259), (0, 2147484648, 4294967295), (0, 0, 4294967295), (0, 0, 4294967295)], [], [(some (0, 0, 2147483647), [], [])])
theorem kv_rrmule1 : kd_runv kd_ty kd_x34 5 (kd_call kd_ty kd_xt (kd_ctl []) 600 1) [] 0 kv_Trmule1 600 = true := by decide +kernel
theorem kv_hrmule1 {g : kc_G} (hg : kc_ok g) : kd_holdv g 2 kd_ty 34 [] 0 kv_Trmule1 := kd_newv hg kd_xk34 rfl rfl rfl rfl (fun h0 => kd_call_r (d0 := 0) hg kd_xt_ok (kd_ctl_r [] (fun q hq => by cases hq)) 1) (kv_rrmule1 )
def kv_Trmule2 : kd_Tc := ([(3, 259, 259), (0, 0, 4294967295), (0, 0, 2147483647), (0, 0, 4294967295)], [], [(some (0, 0, 2147483647), [], [])])
theorem kv_rrmule2 : kd_runv kd_ty kd_x34 5 (kd_call kd_ty kd_xt (kd_ctl []) 600 1) [] 0 kv_Trmule2 600 = true := by decide +kernel
theorem kv_hrmule2 {g : kc_G} (hg : kc_ok g) : kd_holdv g 2 kd_ty 34 [] 0 kv_Trmule2 := kd_newv hg kd_xk34 rfl rfl rfl rfl (fun h0 => kd_call_r (d0 := 0) hg kd_xt_ok (kd_ctl_r [] (fun q hq => by cases hq)) 1) (kv_rrmule2 )
def kv_Trmule3 : kd_Tc := ([(3, 259, 259), (0, 0, 4294967295), (0, 2147483748, 4294967295), (0, 0, 4294967295)], [], [(some (0, 0, 2147483647), [], [])])
theorem kv_rrmule3 : kd_runv kd_ty kd_x34 5 (kd_call kd_ty kd_xt (kd_ctl []) 600 1) [] 0 kv_Trmule3 600 = true := by decide +kernel
theorem kv_hrmule3 {g : kc_G} (hg : kc_ok g) : kd_holdv g 2 kd_ty 34 [] 0 kv_Trmule3 := kd_newv hg kd_xk34 rfl rfl rfl rfl (fun h0 => kd_call_r (d0 := 0) hg kd_xt_ok (kd_ctl_r [] (fun q hq => by cases hq)) 1) (kv_rrmule3 )
def kv_Trmule4 : kd_Tc := ([(3, 259, 259), (0, 0, 4294967295), (0, 0, 4294967295), (0, 0, 2147483647)], [], [(some (0, 0, 2147483647), [], [])])
theorem kv_rrmule4 : kd_runv kd_ty kd_x34 5 (kd_call kd_ty kd_xt (kd_ctl []) 600 1) [] 0 kv_Trmule4 600 = true := by decide +kernel
theorem kv_hrmule4 {g : kc_G} (hg : kc_ok g) : kd_holdv g 2 kd_ty 34 [] 0 kv_Trmule4 := kd_newv hg kd_xk34 rfl rfl rfl rfl (fun h0 => kd_call_r (d0 := 0) hg kd_xt_ok (kd_ctl_r [] (fun q hq => by cases hq)) 1) (kv_rrmule4 )
def kv_Trmule5 : kd_Tc := ([(3, 259, 259), (0, 0, 4294967295), (0, 0, 4294967295), (0, 2147483748, 4294967295)], [], [(some (0, 0, 2147483647), [], [])])
theorem kv_rrmule5 : kd_runv kd_ty kd_x34 5 (kd_call kd_ty kd_xt (kd_ctl []) 600 1) [] 0 kv_Trmule5 600 = true := by decide +kernel
theorem kv_hrmule5 {g : kc_G} (hg : kc_ok g) : kd_holdv g 2 kd_ty 34 [] 0 kv_Trmule5 := kd_newv hg kd_xk34 rfl rfl rfl rfl (fun h0 => kd_call_r (d0 := 0) hg kd_xt_ok (kd_ctl_r [] (fun q hq => by cases hq)) 1) (kv_rrmule5 )
end
section
-- 99.z4
/-! ===== the verbs of a day, run by the engine 3 ===== -/
def kv_TrloadA (x : Nat) : kd_Tc := ([(3, 259, 259), (0, 2147483649, 2147483747), (0, 2147483648, 2147483649), (0, 2147483648 + x+1, 2147483648 + x+1), (0, 2147483648, 2147483648 + x)], [(260, 0, (0, 2147483648 + x+1, 2147483653)), (260, 2, (1, 0, 2147483648))], [(some (0, 2147483648, 4294967295), [(260, 2, (1, 0, 2147483649))], [(260, 260, 2, 2), (260, 260, 80, 149)])])
theorem kv_rrloadA : ∀ x, x < 5 → kd_runv kd_ty kd_x43 6 (kd_call kd_ty kd_xt (kd_ctl []) 600 2) [(2147483648, 2147483657)] 1 (kv_TrloadA x) 600 = true := by decide +kernel
theorem kv_hrloadA {g : kc_G} (hg : kc_ok g) {x : Nat} (hx : x < 5) : kd_holdv g 3 kd_ty 43 [(2147483648, 2147483657)] 1 (kv_TrloadA x) := kd_newv hg kd_xk43 rfl rfl rfl rfl (fun h0 => kd_call_r (d0 := 0) hg kd_xt_ok (kd_ctl_r [] (fun q hq => by cases hq)) 2) (kv_rrloadA x hx)
def kv_TrloadfA (x : Nat) : kd_Tc := ([(3, 259, 259), (0, 2147483649, 2147483747), (0, 2147483648, 2147483649), (0, 2147483648 + x+1, 2147483648 + x+1), (0, 2147483648, 2147483648 + x)], [(260, 0, (0, 2147483648 + x+1, 2147483653)), (260, 2, (0, 2147483658, 2147483658))], [(some (0, 0, 2147483647), [], [])])
theorem kv_rrloadfA : ∀ x, x < 5 → kd_runv kd_ty kd_x43 6 (kd_call kd_ty kd_xt (kd_ctl []) 600 2) [] 0 (kv_TrloadfA x) 600 = true := by decide +kernel
theorem kv_hrloadfA {g : kc_G} (hg : kc_ok g) {x : Nat} (hx : x < 5) : kd_holdv g 3 kd_ty 43 [] 0 (kv_TrloadfA x) := kd_newv hg kd_xk43 rfl rfl rfl rfl (fun h0 => kd_call_r (d0 := 0) hg kd_xt_ok (kd_ctl_r [] (fun q hq => by cases hq)) 2) (kv_rrloadfA x hx)
end
section
-- 99.z5
/-! ===== the verbs of a day, run by the engine 4 ===== -/
def kv_TrloadB (x : Nat) : kd_Tc := ([(3, 259, 259), (0, 2147483649, 2147483747), (0, 2147483648, 2147483649), (0, 2147483648, 2147483648 + x), (0, 2147483648 + x+1, 2147483648 + x+1)], [(260, 0, (0, 2147483648 + x+1, 2147483653)), (260, 2, (1, 0, 2147483648))], [(some (0, 2147483648, 4294967295), [(260, 2, (1, 0, 2147483649))], [(260, 260, 2, 2), (260, 260, 80, 149)])])
theorem kv_rrloadB : ∀ x, x < 5 → kd_runv kd_ty kd_x43 6 (kd_call kd_ty kd_xt (kd_ctl []) 600 2) [(2147483648, 2147483657)] 1 (kv_TrloadB x) 600 = true := by decide +kernel
theorem kv_hrloadB {g : kc_G} (hg : kc_ok g) {x : Nat} (hx : x < 5) : kd_holdv g 3 kd_ty 43 [(2147483648, 2147483657)] 1 (kv_TrloadB x) := kd_newv hg kd_xk43 rfl rfl rfl rfl (fun h0 => kd_call_r (d0 := 0) hg kd_xt_ok (kd_ctl_r [] (fun q hq => by cases hq)) 2) (kv_rrloadB x hx)
def kv_TrloadfB (x : Nat) : kd_Tc := ([(3, 259, 259), (0, 2147483649, 2147483747), (0, 2147483648, 2147483649), (0, 2147483648, 2147483648 + x), (0, 2147483648 + x+1, 2147483648 + x+1)], [(260, 0, (0, 2147483648 + x+1, 2147483653)), (260, 2, (0, 2147483658, 2147483658))], [(some (0, 0, 2147483647), [], [])])
theorem kv_rrloadfB : ∀ x, x < 5 → kd_runv kd_ty kd_x43 6 (kd_call kd_ty kd_xt (kd_ctl []) 600 2) [] 0 (kv_TrloadfB x) 600 = true := by decide +kernel
theorem kv_hrloadfB {g : kc_G} (hg : kc_ok g) {x : Nat} (hx : x < 5) : kd_holdv g 3 kd_ty 43 [] 0 (kv_TrloadfB x) := kd_newv hg kd_xk43 rfl rfl rfl rfl (fun h0 => kd_call_r (d0 := 0) hg kd_xt_ok (kd_ctl_r [] (fun q hq => by cases hq)) 2) (kv_rrloadfB x hx)
def kv_Trload0 : kd_Tc := ([(3, 259, 259), (0, 0, 2147483648), (0, 0, 4294967295), (0, 0, 4294967295), (0, 0, 4294967295)], [], [(some (0, 0, 2147483647), [], [])])
theorem kv_rrload0 : kd_runv kd_ty kd_x43 6 (kd_call kd_ty kd_xt (kd_ctl []) 600 1) [] 0 kv_Trload0 600 = true := by decide +kernel
theorem kv_hrload0 {g : kc_G} (hg : kc_ok g) : kd_holdv g 2 kd_ty 43 [] 0 kv_Trload0 := kd_newv hg kd_xk43 rfl rfl rfl rfl (fun h0 => kd_call_r (d0 := 0) hg kd_xt_ok (kd_ctl_r [] (fun q hq => by cases hq)) 1) (kv_rrload0 )
def kv_Trload1 : kd_Tc := ([(3, 259, 259), (0, 2147483748, 4294967295), (0, 0, 4294967295), (0, 0, 4294967295), (0, 0, 4294967295)], [], [(some (0, 0, 2147483647), [], [])])
theorem kv_rrload1 : kd_runv kd_ty kd_x43 6 (kd_call kd_ty kd_xt (kd_ctl []) 600 1) [] 0 kv_Trload1 600 = true := by decide +kernel
theorem kv_hrload1 {g : kc_G} (hg : kc_ok g) : kd_holdv g 2 kd_ty 43 [] 0 kv_Trload1 := kd_newv hg kd_xk43 rfl rfl rfl rfl (fun h0 => kd_call_r (d0 := 0) hg kd_xt_ok (kd_ctl_r [] (fun q hq => by cases hq)) 1) (kv_rrload1 )
def kv_Trload2 : kd_Tc := ([(3, 259, 259), (0, 0, 4294967295), (0, 0, 2147483647), (0, 0, 4294967295), (0, 0, 4294967295)], [], [(some (0, 0, 2147483647), [], [])])
theorem kv_rrload2 : kd_runv kd_ty kd_x43 6 (kd_call kd_ty kd_xt (kd_ctl []) 600 1) [] 0 kv_Trload2 600 = true := by decide +kernel
theorem kv_hrload2 {g : kc_G} (hg : kc_ok g) : kd_holdv g 2 kd_ty 43 [] 0 kv_Trload2 := kd_newv hg kd_xk43 rfl rfl rfl rfl (fun h0 => kd_call_r (d0 := 0) hg kd_xt_ok (kd_ctl_r [] (fun q hq => by cases hq)) 1) (kv_rrload2 )
def kv_Trload3 : kd_Tc := ([(3, 259, 259), (0, 0, 4294967295), (0, 2147483650, 4294967295), (0, 0, 4294967295), (0, 0, 4294967295)], [], [(some (0, 0, 2147483647), [], [])])
theorem kv_rrload3 : kd_runv kd_ty kd_x43 6 (kd_call kd_ty kd_xt (kd_ctl []) 600 1) [] 0 kv_Trload3 600 = true := by decide +kernel
theorem kv_hrload3 {g : kc_G} (hg : kc_ok g) : kd_holdv g 2 kd_ty 43 [] 0 kv_Trload3 := kd_newv hg kd_xk43 rfl rfl rfl rfl (fun h0 => kd_call_r (d0 := 0) hg kd_xt_ok (kd_ctl_r [] (fun q hq => by cases hq)) 1) (kv_rrload3 )
def kv_Trload4 : kd_Tc := ([(3, 259, 259), (0, 0, 4294967295), (0, 0, 4294967295), (0, 0, 2147483647), (0, 0, 4294967295)], [], [(some (0, 0, 2147483647), [], [])])
theorem kv_rrload4 : kd_runv kd_ty kd_x43 6 (kd_call kd_ty kd_xt (kd_ctl []) 600 2) [] 0 kv_Trload4 600 = true := by decide +kernel
theorem kv_hrload4 {g : kc_G} (hg : kc_ok g) : kd_holdv g 3 kd_ty 43 [] 0 kv_Trload4 := kd_newv hg kd_xk43 rfl rfl rfl rfl (fun h0 => kd_call_r (d0 := 0) hg kd_xt_ok (kd_ctl_r [] (fun q hq => by cases hq)) 2) (kv_rrload4 )
def kv_Trload5 : kd_Tc := ([(3, 259, 259), (0, 0, 4294967295), (0, 0, 4294967295), (0, 2147483654, 4294967295), (0, 0, 4294967295)], [], [(some (0, 0, 2147483647), [], [])])
theorem kv_rrload5 : kd_runv kd_ty kd_x43 6 (kd_call kd_ty kd_xt (kd_ctl []) 600 2) [] 0 kv_Trload5 600 = true := by decide +kernel
theorem kv_hrload5 {g : kc_G} (hg : kc_ok g) : kd_holdv g 3 kd_ty 43 [] 0 kv_Trload5 := kd_newv hg kd_xk43 rfl rfl rfl rfl (fun h0 => kd_call_r (d0 := 0) hg kd_xt_ok (kd_ctl_r [] (fun q hq => by cases hq)) 2) (kv_rrload5 )
def kv_Trload6 : kd_Tc := ([(3, 259, 259), (0, 0, 4294967295), (0, 0, 4294967295), (0, 0, 4294967295), (0, 0, 2147483647)], [], [(some (0, 0, 2147483647), [], [])])
theorem kv_rrload6 : kd_runv kd_ty kd_x43 6 (kd_call kd_ty kd_xt (kd_ctl []) 600 2) [] 0 kv_Trload6 600 = true := by decide +kernel
theorem kv_hrload6 {g : kc_G} (hg : kc_ok g) : kd_holdv g 3 kd_ty 43 [] 0 kv_Trload6 := kd_newv hg kd_xk43 rfl rfl rfl rfl (fun h0 => kd_call_r (d0 := 0) hg kd_xt_ok (kd_ctl_r [] (fun q hq => by cases hq)) 2) (kv_rrload6 )
def kv_Trload7 : kd_Tc := ([(3, 259, 259), (0, 0, 4294967295), (0, 0, 4294967295), (0, 0, 4294967295), (0, 2147483654, 4294967295)], [], [(some (0, 0, 2147483647), [], [])])
theorem kv_rrload7 : kd_runv kd_ty kd_x43 6 (kd_call kd_ty kd_xt (kd_ctl []) 600 2) [] 0 kv_Trload7 600 = true := by decide +kernel
theorem kv_hrload7 {g : kc_G} (hg : kc_ok g) : kd_holdv g 3 kd_ty 43 [] 0 kv_Trload7 := kd_newv hg kd_xk43 rfl rfl rfl rfl (fun h0 => kd_call_r (d0 := 0) hg kd_xt_ok (kd_ctl_r [] (fun q hq => by cases hq)) 2) (kv_rrload7 )
def kv_Trloadp (x : Nat) : kd_Tc := ([(3, 259, 259), (0, 0, 4294967295), (0, 0, 4294967295), (0, 2147483648 + x+1, 2147483648 + x+1), (0, 0, 4294967295)], [(260, 0, (0, 2147483648, 2147483648 + x))], [(some (0, 0, 2147483647), [], [])])
theorem kv_rrloadp : ∀ x, x < 5 → kd_runv kd_ty kd_x43 6 (kd_call kd_ty kd_xt (kd_ctl []) 600 2) [] 0 (kv_Trloadp x) 600 = true := by decide +kernel
theorem kv_hrloadp {g : kc_G} (hg : kc_ok g) {x : Nat} (hx : x < 5) : kd_holdv g 3 kd_ty 43 [] 0 (kv_Trloadp x) := kd_newv hg kd_xk43 rfl rfl rfl rfl (fun h0 => kd_call_r (d0 := 0) hg kd_xt_ok (kd_ctl_r [] (fun q hq => by cases hq)) 2) (kv_rrloadp x hx)
def kv_Trloadq (x : Nat) : kd_Tc := ([(3, 259, 259), (0, 0, 4294967295), (0, 0, 4294967295), (0, 0, 4294967295), (0, 2147483648 + x+1, 2147483648 + x+1)], [(260, 0, (0, 2147483648, 2147483648 + x))], [(some (0, 0, 2147483647), [], [])])
theorem kv_rrloadq : ∀ x, x < 5 → kd_runv kd_ty kd_x43 6 (kd_call kd_ty kd_xt (kd_ctl []) 600 2) [] 0 (kv_Trloadq x) 600 = true := by decide +kernel
theorem kv_hrloadq {g : kc_G} (hg : kc_ok g) {x : Nat} (hx : x < 5) : kd_holdv g 3 kd_ty 43 [] 0 (kv_Trloadq x) := kd_newv hg kd_xk43 rfl rfl rfl rfl (fun h0 => kd_call_r (d0 := 0) hg kd_xt_ok (kd_ctl_r [] (fun q hq => by cases hq)) 2) (kv_rrloadq x hx)
end
