/-! ===== findBest by hand ===== -/
theorem kb_out {n c i : Nat} (h1 : ¬ c = 260 ∨ i < 150 ∨ 150 + n ≤ i) (h2 : (kb_W0.all fun q => !kd_inr c q.1 q.2.1 i q.2.2.1 q.2.2.2) = true) : ∀ q ∈ kb_W n, kd_inr c q.1 q.2.1 i q.2.2.1 q.2.2.2 = false := by
  intro q hq
  rcases List.mem_cons.mp hq with rfl | hq
  · show kd_inr c 260 260 i 150 (149 + n) = false
    cases e : kd_inr c 260 260 i 150 (149 + n) with
    | false => rfl
    | true =>
      exfalso
      unfold kd_inr at e
      simp only [Bool.and_eq_true] at e
      have a1 := Nat.le_of_ble_eq_true e.1
      have a2 := Nat.le_of_ble_eq_true e.2.1
      have a3 := Nat.le_of_ble_eq_true e.2.2.1
      have a4 := Nat.le_of_ble_eq_true e.2.2.2
      omega
  · have := List.all_eq_true.mp h2 q hq
    cases e : kd_inr c q.1 q.2.1 i q.2.2.1 q.2.2.2 with
    | false => rfl
    | true => rw [e] at this; cases this
def kb_WL (n : Nat) : kd_W := (279, 279, 0, 9) :: (259, 259, 35, 35) :: kb_W n
theorem kb_k1 : ∀ j, j < 10 → (kb_W0.all fun q => !kd_inr 279 q.1 q.2.1 j q.2.2.1 q.2.2.2) = true := by decide +kernel
theorem kb_k2 : (kb_W0.all fun q => !kd_inr 259 q.1 q.2.1 35 q.2.2.1 q.2.2.2) = true ∧ (kb_W0.all fun q => !kd_inr 260 q.1 q.2.1 1 q.2.2.1 q.2.2.2) = true ∧ (kb_W0.all fun q => !kd_inr 260 q.1 q.2.1 2 q.2.2.1 q.2.2.2) = true := by decide +kernel
theorem kb_k3 : ∀ j, j < 5 → (kb_W0.all fun q => !kd_inr 282 q.1 q.2.1 j q.2.2.1 q.2.2.2) = true := by decide +kernel
theorem kb_pre_tr {q : Nat} {h h' : kc_H} (e1 : h' 260 1 = h 260 1) (e2 : h' 260 2 = h 260 2) (hF : kd_gF 0 (fun _ => 0) (kb_pre q) h) : kd_gF 0 (fun _ => 0) (kb_pre q) h' := by
  match q, hF with
  | 0, hF =>
    intro x hx
    have hx2 : x = (260, 1, (0, 2147483649, 2147483651)) := List.mem_singleton.mp hx
    subst hx2
    show kd_g 0 _ _ (h' 260 1)
    rw [e1]
    exact hF _ hx
  | 1, hF =>
    intro x hx
    rcases List.mem_cons.mp hx with hx2 | hx2
    · subst hx2
      show kd_g 0 _ _ (h' 260 2)
      rw [e2]
      exact hF _ hx
    · have hx3 := List.mem_singleton.mp hx2
      subst hx3
      show kd_g 0 _ _ (h' 260 1)
      rw [e1]
      exact hF _ hx
  | q + 2, hF =>
    intro x hx
    rcases List.mem_cons.mp hx with hx2 | hx2
    · subst hx2
      show kd_g 0 _ _ (h' 260 2)
      rw [e2]
      exact hF _ hx
    · have hx3 := List.mem_singleton.mp hx2
      subst hx3
      show kd_g 0 _ _ (h' 260 1)
      rw [e1]
      exact hF _ hx
theorem kb_fr {n : Nat} {hB hh hh' : kc_H} {f2 : Nat → Nat} (hfr : kd_fr (kb_WL n) hB hh) (hfr' : kd_fr (kb_W n) hh hh') (e34 : hh' 259 34 = .inr (.inr (.inl (some 279)))) : kd_fr (kb_WL n) hB (kw_H hh' n f2) := by
  intro c i hq
  have q1 := kd_inr_f (hq (279, 279, 0, 9) List.mem_cons_self)
  have q2 := kd_inr_f (hq (259, 259, 35, 35) (List.mem_cons_of_mem _ List.mem_cons_self))
  simp only at q1 q2
  have e : hh' c i = hB c i := (hfr' c i (fun q hm => hq q (List.mem_cons_of_mem _ (List.mem_cons_of_mem _ hm)))).trans (hfr c i hq)
  rw [← e]
  unfold kw_H
  split
  · rename_i e0
    subst e0
    split
    · rename_i e1; subst e1; exact e34.symm
    · rw [if_neg (by omega)]
  · split
    · rename_i e0
      subst e0
      rw [if_neg (by omega)]
    · rfl
set_option maxRecDepth 20000 in
theorem kb_loop {g : kc_G} {d q n : Nat} (hg : kc_ok g) (hd : 3 ≤ d) (hn : n ≤ 5) (hbody : kb_body g d q n) {Q : Option kc_V → kc_H → Prop} {hB : kc_H} (hQ : ∀ (L : kc_L) (hE : kc_H), kd_wt kd_ty hE → kd_fr (kb_WL n) hB hE → kc_get L 0 = some (.inr (.inr (.inl (some 259)))) → kc_get L 2 = some (.inl (Int32.ofNat n)) → kc_Ev g d wk_m130 Q 214 L [] hE) : ∀ (u : Nat) (f : Nat → Nat) (hh : kc_H) (mv : kc_V) (L : kc_L), 11 ^ n - kw_v f n < u → (∀ j, j < 10 → f j ≤ 10) → (∀ j, j < n → f j < n) → kd_wt kd_ty hh → kd_fr (kb_WL n) hB hh → kd_gF 0 (fun _ => 0) (kb_pre q) hh → kd_g 0 (fun _ => 0) (kb_mn q) mv → hh 259 35 = .inl (Int32.ofNat n) → (∀ j, j < 10 → hh 279 j = .inl (Int32.ofNat (f j))) → kc_get L 0 = some (.inr (.inr (.inl (some 259)))) → kc_get L 1 = some mv → kc_get L 2 = some (.inl (Int32.ofNat n)) → kc_get L 3 = some (.inl (Int32.ofNat 1)) → kc_Ev g d wk_m130 Q 54 L [] hh := by
  intro u
  induction u with
  | zero => intro f hh mv L hu; omega
  | succ u ih =>
    intro f hh mv L hu hf hfn hw hfr hpre hmv e35 er l0 l1 l2 l3
    refine hbody Q hh mv L hw hpre hmv (fun j hj => ⟨f j, hfn j hj, er j (by omega)⟩) l0 l1 l2 l3 ?_
    intro L2 h2 hw2 hfr2 m0 m1 m2
    obtain ⟨mv2, m1, gm2⟩ := m1
    have e34 : h2 259 34 = .inr (.inr (.inl (some 279))) := kx_ofr (hw2 _ _ _ kw_k.1)
    have e35b : h2 259 35 = .inl (Int32.ofNat n) := (hfr2 259 35 (kb_out (Or.inl (by decide)) kb_k2.1)).trans e35
    have er2 : ∀ j, j < 10 → h2 279 j = .inl (Int32.ofNat (f j)) := fun j hj => (hfr2 279 j (kb_out (Or.inl (by decide)) (kb_k1 j hj))).trans (er j hj)
    have e1 : h2 260 1 = hh 260 1 := hfr2 260 1 (kb_out (Or.inr (Or.inl (by decide))) kb_k2.2.1)
    have e2 : h2 260 2 = hh 260 2 := hfr2 260 2 (kb_out (Or.inr (Or.inl (by decide))) kb_k2.2.2)
    have hpre2 := kb_pre_tr e1 e2 hpre
    have hid := kw_id e34 e35b er2
    refine kf_lo (L := [(0, .inr (.inr (.inl (some 259)))), (1, mv2), (2, .inl (Int32.ofNat n))]) ?_ ?_
    · intro q hq
      simp only [List.mem_cons, List.not_mem_nil, or_false] at hq
      rcases hq with rfl | rfl | rfl
      · exact m0
      · exact m1
      · exact m2
    rw [← hid]
    refine kx_go 1 (pc' := 207) (L' := [(0, .inr (.inr (.inl (some 259)))), (1, mv2), (2, .inl (Int32.ofNat n))]) (S' := [.inr (.inr (.inl (some 259)))]) (h' := (kw_H h2 n f)) (by with_unfolding_all rfl) ?_
    refine kc_call_rule (M2 := wk_m133) (av := [.inr (.inr (.inl (some 259)))]) (r := []) rfl rfl (kc_Con_le (kw_next (d := 0) hg (by omega) hf hfn) (by omega)) (fun rv h' hq => ?_)
    rcases hq with ⟨k, f2, rfl, b0, b1, b2, b3, b4, b5, rfl⟩ | ⟨f2, rfl, b5, rfl⟩
    · show kc_Ev g d wk_m130 Q 210 [(0, .inr (.inr (.inl (some 259)))), (1, mv2), (2, .inl (Int32.ofNat n))] [.inl (Int32.ofNat 1)] (kw_H h2 n f2)
      refine kx_go 2 (pc' := 54) (L' := [(3, .inl (Int32.ofNat 1)), (0, .inr (.inr (.inl (some 259)))), (1, mv2), (2, .inl (Int32.ofNat n))]) (S' := []) (h' := (kw_H h2 n f2)) (by with_unfolding_all rfl) ?_
      have hlt := kw_v_lt (n := n) (fun j hj => hf j (by omega)) b1 b2 n (by omega) (Nat.le_refl _)
      have hle := kw_v_le (f := f2) n (fun j hj => b5 j (by omega))
      refine ih f2 (kw_H h2 n f2) mv2 _ (by omega) b5 (fun j hj => ?_) (kw_wt hw2 (by omega) b5) (kb_fr hfr hfr2 e34) (kb_pre_tr (h := h2) rfl rfl hpre2) gm2 rfl (fun j hj => kw_r hj) rfl rfl rfl rfl
      by_cases q : j < k
      · rw [b1 j q]; exact hfn j hj
      · by_cases q2 : j = k
        · rw [q2]; exact b3
        · have := b4 j (by omega) hj; omega
    · show kc_Ev g d wk_m130 Q 210 [(0, .inr (.inr (.inl (some 259)))), (1, mv2), (2, .inl (Int32.ofNat n))] [.inl (Int32.ofNat 0)] (kw_H h2 n f2)
      refine kx_go 2 (pc' := 54) (L' := [(3, .inl (Int32.ofNat 0)), (0, .inr (.inr (.inl (some 259)))), (1, mv2), (2, .inl (Int32.ofNat n))]) (S' := []) (h' := (kw_H h2 n f2)) (by with_unfolding_all rfl) ?_
      refine kx_go 2 (pc' := 214) (L' := [(3, .inl (Int32.ofNat 0)), (0, .inr (.inr (.inl (some 259)))), (1, mv2), (2, .inl (Int32.ofNat n))]) (S' := []) (h' := (kw_H h2 n f2)) (by with_unfolding_all rfl) ?_
      exact hQ _ _ (kw_wt hw2 (by omega) b5) (kb_fr hfr hfr2 e34) rfl rfl
theorem kb_k4 : kd_rn (kd_ty 259) 40 = some (3, 282, 282) ∧ (∃ a b, kd_rn (kd_ty 259) 39 = some (0, a, b)) := ⟨by decide +kernel, 0, 4294967295, by decide +kernel⟩
theorem kb_k5 : ∀ j, j < 5 → kd_rn (kd_ty 260) (150 + j) = some (0, 2147483648, 2147483648 + 5) ∧ kd_rn (kd_ty 282) j = some (0, 2147483648, 2147483648 + 5) := by decide +kernel
set_option maxRecDepth 20000 in
theorem kb_endl {g : kc_G} {d n : Nat} {Q : Option kc_V → kc_H → Prop} {h : kc_H} (hn : n ≤ 5) (h0 : h 259 0 = .inr (.inr (.inl (some 260)))) (h40 : h 259 40 = .inr (.inr (.inl (some 282)))) (hz : ∃ z : Int32, h 259 39 = .inl z) (hs : ∀ k, k < n → ∃ z : Int32, h 282 k = .inl z) (hQ : ∀ r : Int32, (r = Int32.ofNat 0 ∨ r = Int32.ofNat 1) → Q (some (.inl r)) (kz_cp h 260 150 282 0 n)) : ∀ (m k : Nat), n - k = m → k ≤ n → kc_Ev g d wk_m130 Q 217 [(4, .inl (Int32.ofNat k)), (0, .inr (.inr (.inl (some 259)))), (2, .inl (Int32.ofNat n))] [] (kz_cp h 260 150 282 0 k) := by
  intro m
  induction m with
  | zero =>
    intro k hm hk
    refine kx_go 3 (pc' := (if kc_cnd .ge (Int32.ofNat k).toInt (Int32.ofNat n).toInt then 247 else 223)) (L' := [(4, .inl (Int32.ofNat k)), (0, .inr (.inr (.inl (some 259)))), (2, .inl (Int32.ofNat n))]) (S' := []) (h' := (kz_cp h 260 150 282 0 k)) (by with_unfolding_all rfl) ?_
    rw [if_pos ((kx_ge (by omega) (by omega)).mpr (by omega))]
    obtain rfl : k = n := by omega
    refine kx_go 1 (pc' := 248) (L' := [(4, .inl (Int32.ofNat k)), (0, .inr (.inr (.inl (some 259)))), (2, .inl (Int32.ofNat k))]) (S' := [.inr (.inr (.inl (some 259)))]) (h' := (kz_cp h 260 150 282 0 k)) (by with_unfolding_all rfl) ?_
    obtain ⟨z, ez⟩ := hz
    refine kx_getf (c := 259) (v := .inl (z)) rfl (by decide) ((kz_n (by decide)).trans ez) ?_
    refine kx_go 2 (pc' := (if kc_cnd .ge (z).toInt (Int32.ofNat 1000000).toInt then 261 else 257)) (L' := [(4, .inl (Int32.ofNat k)), (0, .inr (.inr (.inl (some 259)))), (2, .inl (Int32.ofNat k))]) (S' := []) (h' := (kz_cp h 260 150 282 0 k)) (by with_unfolding_all rfl) ?_
    by_cases e : kc_cnd .ge z.toInt (Int32.ofNat 1000000).toInt = true
    · rw [if_pos e]
      refine kx_go 1 (pc' := 262) (L' := [(4, .inl (Int32.ofNat k)), (0, .inr (.inr (.inl (some 259)))), (2, .inl (Int32.ofNat k))]) (S' := [.inl (Int32.ofNat 0)]) (h' := (kz_cp h 260 150 282 0 k)) (by with_unfolding_all rfl) ?_
      exact kc_ret_ok rfl (rv := some (.inl (Int32.ofNat 0))) rfl (hQ _ (Or.inl rfl))
    · rw [if_neg e]
      refine kx_go 2 (pc' := 262) (L' := [(4, .inl (Int32.ofNat k)), (0, .inr (.inr (.inl (some 259)))), (2, .inl (Int32.ofNat k))]) (S' := [.inl (Int32.ofNat 1)]) (h' := (kz_cp h 260 150 282 0 k)) (by with_unfolding_all rfl) ?_
      exact kc_ret_ok rfl (rv := some (.inl (Int32.ofNat 1))) rfl (hQ _ (Or.inr rfl))
  | succ m ih =>
    intro k hm hk
    refine kx_go 3 (pc' := (if kc_cnd .ge (Int32.ofNat k).toInt (Int32.ofNat n).toInt then 247 else 223)) (L' := [(4, .inl (Int32.ofNat k)), (0, .inr (.inr (.inl (some 259)))), (2, .inl (Int32.ofNat n))]) (S' := []) (h' := (kz_cp h 260 150 282 0 k)) (by with_unfolding_all rfl) ?_
    rw [if_neg (fun q => by have := (kx_ge (by omega) (by omega)).mp q; omega)]
    refine kx_go 1 (pc' := 224) (L' := [(4, .inl (Int32.ofNat k)), (0, .inr (.inr (.inl (some 259)))), (2, .inl (Int32.ofNat n))]) (S' := [.inr (.inr (.inl (some 259)))]) (h' := (kz_cp h 260 150 282 0 k)) (by with_unfolding_all rfl) ?_
    refine kx_getf (c := 259) (v := .inr (.inr (.inl (some 260)))) rfl (by decide) ((kz_n (by decide)).trans h0) ?_
    refine kx_go 4 (pc' := 234) (L' := [(4, .inl (Int32.ofNat k)), (0, .inr (.inr (.inl (some 259)))), (2, .inl (Int32.ofNat n))]) (S' := [.inr (.inr (.inl (some 259))), .inl ((Int32.ofNat 150) + (Int32.ofNat k)), .inr (.inr (.inl (some 260)))]) (h' := (kz_cp h 260 150 282 0 k)) (by with_unfolding_all rfl) ?_
    rw [← Int32.ofNat_add]
    refine kx_getf (c := 259) (v := .inr (.inr (.inl (some 282)))) rfl (by decide) ((kz_n (by decide)).trans h40) ?_
    refine kx_go 1 (pc' := 239) (L' := [(4, .inl (Int32.ofNat k)), (0, .inr (.inr (.inl (some 259)))), (2, .inl (Int32.ofNat n))]) (S' := [.inl (Int32.ofNat k), .inr (.inr (.inl (some 282))), .inl (Int32.ofNat (150 + k)), .inr (.inr (.inl (some 260)))]) (h' := (kz_cp h 260 150 282 0 k)) (by with_unfolding_all rfl) ?_
    obtain ⟨w, ew⟩ := hs k (by omega)
    refine kx_iald rfl (c := 282) (j := k) (m := 5) (v := .inl w) rfl (by decide) (by decide) (by omega) ((kz_n (by decide)).trans ew) ?_
    refine kx_iast rfl (c := 260) (j := 150 + k) (m := 650) rfl (by decide) (by decide) (by omega) ?_
    rw [kz_s (h := h) (c1 := 260) (o1 := 150) (c2 := 282) (o2 := 0) (k := k) (w := .inl w) (by rw [Nat.zero_add]; exact ew)]
    refine kx_go 2 (pc' := 217) (L' := [(4, .inl ((Int32.ofNat k) + Int32.ofInt 1)), (0, .inr (.inr (.inl (some 259)))), (2, .inl (Int32.ofNat n))]) (S' := []) (h' := (kz_cp h 260 150 282 0 (k + 1))) (by with_unfolding_all rfl) ?_
    rw [kx_inc]
    exact ih (k + 1) (by omega) (by omega)
set_option maxRecDepth 20000 in
theorem kb_place {g : kc_G} {d k : Nat} {h : kc_H} {w : Int32} (hg : kc_ok g) (hk : k < 5) (h0 : h 259 0 = .inr (.inr (.inl (some 260)))) (hw : h 260 (150 + k) = .inl w) : kc_Con g (d + 1) 259 [.inr (.inr (.inl (some 259))), .inl (Int32.ofNat k)] h (fun rv h' => rv = some (.inl w) ∧ h' = h) := by
  refine kc_Con_new hg (M := wk_m259) rfl rfl rfl (show 2 ≤ 2 by decide) ?_
  refine kx_go 1 (pc' := 1) (L' := [(0, .inr (.inr (.inl (some 259)))), (1, .inl (Int32.ofNat k))]) (S' := [.inr (.inr (.inl (some 259)))]) (h' := h) (by with_unfolding_all rfl) ?_
  refine kx_getf (c := 259) (v := .inr (.inr (.inl (some 260)))) rfl (by decide) h0 ?_
  refine kx_go 3 (pc' := 9) (L' := [(0, .inr (.inr (.inl (some 259)))), (1, .inl (Int32.ofNat k))]) (S' := [.inl ((Int32.ofNat 150) + (Int32.ofNat k)), .inr (.inr (.inl (some 260)))]) (h' := h) (by with_unfolding_all rfl) ?_
  rw [← Int32.ofNat_add]
  refine kx_iald rfl (c := 260) (j := 150 + k) (m := 650) (v := .inl w) rfl (by decide) (by decide) (by omega) hw ?_
  exact kc_ret_ok rfl (rv := some (.inl w)) rfl ⟨rfl, rfl⟩
set_option maxRecDepth 20000 in
theorem kb_save {g : kc_G} {d n : Nat} {Q : Option kc_V → kc_H → Prop} {h : kc_H} {mz : Int32} (hg : kc_ok g) (hd : 1 ≤ d) (hn : n ≤ 5) (h0 : h 259 0 = .inr (.inr (.inl (some 260)))) (h40 : h 259 40 = .inr (.inr (.inl (some 282)))) (hs : ∀ k, k < n → ∃ z : Int32, h 260 (150 + k) = .inl z) : ∀ (m k : Nat), n - k = m → k ≤ n → kc_Ev g d wk_m130 Q 35 [(3, .inl (Int32.ofNat n)), (2, .inl (Int32.ofNat n)), (0, .inr (.inr (.inl (some 259)))), (1, .inl (mz))] [] (kz_cp h 282 0 260 150 n) → kc_Ev g d wk_m130 Q 13 [(3, .inl (Int32.ofNat k)), (2, .inl (Int32.ofNat n)), (0, .inr (.inr (.inl (some 259)))), (1, .inl (mz))] [] (kz_cp h 282 0 260 150 k) := by
  intro m
  induction m with
  | zero =>
    intro k hm hk hK
    refine kx_go 3 (pc' := (if kc_cnd .ge (Int32.ofNat k).toInt (Int32.ofNat n).toInt then 35 else 18)) (L' := [(3, .inl (Int32.ofNat k)), (2, .inl (Int32.ofNat n)), (0, .inr (.inr (.inl (some 259)))), (1, .inl (mz))]) (S' := []) (h' := (kz_cp h 282 0 260 150 k)) (by with_unfolding_all rfl) ?_
    rw [if_pos ((kx_ge (by omega) (by omega)).mpr (by omega))]
    obtain rfl : k = n := by omega
    exact hK
  | succ m ih =>
    intro k hm hk hK
    refine kx_go 3 (pc' := (if kc_cnd .ge (Int32.ofNat k).toInt (Int32.ofNat n).toInt then 35 else 18)) (L' := [(3, .inl (Int32.ofNat k)), (2, .inl (Int32.ofNat n)), (0, .inr (.inr (.inl (some 259)))), (1, .inl (mz))]) (S' := []) (h' := (kz_cp h 282 0 260 150 k)) (by with_unfolding_all rfl) ?_
    rw [if_neg (fun q => by have := (kx_ge (by omega) (by omega)).mp q; omega)]
    refine kx_go 1 (pc' := 19) (L' := [(3, .inl (Int32.ofNat k)), (2, .inl (Int32.ofNat n)), (0, .inr (.inr (.inl (some 259)))), (1, .inl (mz))]) (S' := [.inr (.inr (.inl (some 259)))]) (h' := (kz_cp h 282 0 260 150 k)) (by with_unfolding_all rfl) ?_
    refine kx_getf (c := 259) (v := .inr (.inr (.inl (some 282)))) rfl (by decide) ((kz_n (by decide)).trans h40) ?_
    refine kx_go 3 (pc' := 25) (L' := [(3, .inl (Int32.ofNat k)), (2, .inl (Int32.ofNat n)), (0, .inr (.inr (.inl (some 259)))), (1, .inl (mz))]) (S' := [.inl (Int32.ofNat k), .inr (.inr (.inl (some 259))), .inl (Int32.ofNat k), .inr (.inr (.inl (some 282)))]) (h' := (kz_cp h 282 0 260 150 k)) (by with_unfolding_all rfl) ?_
    obtain ⟨w, ew⟩ := hs k (by omega)
    refine kc_call_rule (M2 := wk_m259) (av := [.inr (.inr (.inl (some 259))), .inl (Int32.ofNat k)]) (r := [.inl (Int32.ofNat k), .inr (.inr (.inl (some 282)))]) rfl rfl (kc_Con_le (kb_place (d := 0) (w := w) hg (by omega) ((kz_n (by decide)).trans h0) ((kz_n (by decide)).trans ew)) hd) (fun rv h' hq => ?_)
    obtain ⟨rfl, rfl⟩ := hq
    show kc_Ev g d wk_m130 Q 28 [(3, .inl (Int32.ofNat k)), (2, .inl (Int32.ofNat n)), (0, .inr (.inr (.inl (some 259)))), (1, .inl (mz))] [.inl (w), .inl (Int32.ofNat k), .inr (.inr (.inl (some 282)))] (kz_cp h 282 0 260 150 k)
    refine kx_iast rfl (c := 282) (j := k) (m := 5) rfl (by decide) (by decide) (by omega) ?_
    have e9 := kz_s (h := h) (c1 := 282) (o1 := 0) (c2 := 260) (o2 := 150) (k := k) (w := .inl w) ew
    rw [Nat.zero_add] at e9
    rw [e9]
    refine kx_go 2 (pc' := 13) (L' := [(3, .inl ((Int32.ofNat k) + Int32.ofInt 1)), (2, .inl (Int32.ofNat n)), (0, .inr (.inr (.inl (some 259)))), (1, .inl (mz))]) (S' := []) (h' := (kz_cp h 282 0 260 150 (k + 1))) (by with_unfolding_all rfl) ?_
    rw [kx_inc]
    exact ih (k + 1) (by omega) (by omega) hK
def kd_W130 : kd_W := (280, 280, 0, 4) :: (282, 282, 0, 4) :: (279, 279, 0, 9) :: (259, 259, 35, 35) :: kb_W0
def kd_P130 : List kd_P := [(some (0, 2147483648, 2147483649), [], kd_W130)]
theorem kb_k6 : kd_rn (kd_ty 260) 3 = some (0, 2147483648, 2147483648 + 5) := by decide +kernel
theorem kb_k8 : (259, 259, 38, 39) ∈ kb_W0 := by decide
theorem kb_inr {c c1 c2 i i1 i2 : Nat} (h : ¬ (c1 ≤ c ∧ c ≤ c2 ∧ i1 ≤ i ∧ i ≤ i2)) : kd_inr c c1 c2 i i1 i2 = false := by
  cases e : kd_inr c c1 c2 i i1 i2 with
  | false => rfl
  | true =>
    exfalso
    unfold kd_inr at e
    simp only [Bool.and_eq_true] at e
    exact h ⟨Nat.le_of_ble_eq_true e.1, Nat.le_of_ble_eq_true e.2.1, Nat.le_of_ble_eq_true e.2.2.1, Nat.le_of_ble_eq_true e.2.2.2⟩
set_option maxRecDepth 20000 in
theorem kb_whole {g : kc_G} {q : Nat} (hg : kc_ok g) (hmn : ∀ x, kd_g 0 (fun _ => 0) (kb_mn q) x → ∃ z : Int32, x = .inl z) (hbody : ∀ n, n ≤ 5 → kb_body g 6 q n) (hbeg : ∀ n, n ≤ 5 → kb_begin g 6 q n) : kd_hold g 7 kd_ty 130 ([(3, 259, 259), kb_mn q], kb_pre q, kd_P130) := by
  intro xs h hw hv hF
  match xs, hv with
  | [], hv => exact hv.elim
  | [_], hv => exact hv.2.elim
  | _ :: _ :: _ :: _, hv => exact hv.2.2.elim
  | [x0, x1], hv =>
    obtain ⟨a0, a1, -⟩ := hv
    have a0 := kx_ofr a0
    subst a0
    obtain ⟨mz, rfl⟩ := hmn x1 a1
    obtain ⟨n, n5, en⟩ := kx_ofg (by omega) (hw _ _ _ kb_k6)
    have b0 := kx_ofr (hw _ _ _ kz_k.1)
    refine kc_Con_new hg (M := wk_m130) rfl rfl rfl (show 2 ≤ 6 by decide) ?_
    refine kx_go 1 (pc' := 1) (L' := [(0, .inr (.inr (.inl (some 259)))), (1, .inl (mz))]) (S' := [.inr (.inr (.inl (some 259)))]) (h' := h) (by with_unfolding_all rfl) ?_
    refine kx_getf (c := 259) (v := .inr (.inr (.inl (some 260)))) rfl (by decide) b0 ?_
    refine kx_go 1 (pc' := 5) (L' := [(0, .inr (.inr (.inl (some 259)))), (1, .inl (mz))]) (S' := [.inl (Int32.ofNat 3), .inr (.inr (.inl (some 260)))]) (h' := h) (by with_unfolding_all rfl) ?_
    refine kx_iald rfl (c := 260) (j := 3) (m := 650) (v := .inl (Int32.ofNat n)) rfl (by decide) (by decide) (by decide) en ?_
    refine kx_go 2 (pc' := 8) (L' := [(2, .inl (Int32.ofNat n)), (0, .inr (.inr (.inl (some 259)))), (1, .inl (mz))]) (S' := [.inr (.inr (.inl (some 259)))]) (h' := h) (by with_unfolding_all rfl) ?_
    refine kc_call_rule (M2 := wk_m131) (av := [.inr (.inr (.inl (some 259)))]) (r := []) rfl rfl (kc_Con_le (kd_h131 hg _ h hw ⟨⟨259, rfl, by decide, by decide⟩, trivial⟩ (fun q hq => by cases hq)) (by decide)) (fun rv h1 hq => ?_)
    obtain ⟨pp, p1, p2, -, hw1, fr1⟩ := hq
    obtain rfl := List.mem_singleton.mp p1
    cases rv with
    | some y => exact p2.elim
    | none =>
      show kc_Ev g 6 wk_m130 _ 11 [(2, .inl (Int32.ofNat n)), (0, .inr (.inr (.inl (some 259)))), (1, .inl (mz))] [] h1
      refine kx_go 2 (pc' := 13) (L' := [(3, .inl (Int32.ofNat 0)), (2, .inl (Int32.ofNat n)), (0, .inr (.inr (.inl (some 259)))), (1, .inl (mz))]) (S' := []) (h' := h1) (by with_unfolding_all rfl) ?_
      have c0 := kx_ofr (hw1 _ _ _ kz_k.1)
      have c40 := kx_ofr (hw1 _ _ _ kb_k4.1)
      have hs1 : ∀ k, k < n → ∃ z : Int32, h1 260 (150 + k) = .inl z := fun k hk => by
        obtain ⟨z, -, ez⟩ := kx_ofg (by omega) (hw1 _ _ _ (kb_k5 k (by omega)).1)
        exact ⟨_, ez⟩
      have sv := kb_save (g := g) (d := 6) (Q := fun xr h' => ∃ p ∈ kd_P130, kd_rv 0 (fun _ => 0) p.1 xr ∧ kd_gF 0 (fun _ => 0) p.2.1 h' ∧ kd_wt kd_ty h' ∧ kd_fr p.2.2 h h') (mz := mz) hg (by decide) n5 c0 c40 hs1 n 0 (by omega) (by omega) ?_
      · rw [kz_0] at sv
        exact kf_lo (by intro q hq; simp only [List.mem_cons, List.not_mem_nil, or_false] at hq; rcases hq with rfl | rfl | rfl | rfl <;> rfl) sv
      have hw2 : kd_wt kd_ty (kz_cp h1 282 0 260 150 n) := kz_cp_wt hw1 (fun j hj => by rw [Nat.zero_add, (kb_k5 j (by omega)).1, (kb_k5 j (by omega)).2])
      refine hbeg n n5 _ _ (.inl mz) _ hw2 a1 rfl rfl rfl ?_
      intro L3 h3 hw3 fr3 m0 m1 m2 m3 e35 er
      obtain ⟨mv3, m1, gm3⟩ := m1
      have h12 : ∀ i, i < 150 → h3 260 i = h 260 i := fun i hi => by
        rw [fr3 260 i (fun q hq => by simp only [kb_WB, List.mem_cons, List.not_mem_nil, or_false] at hq; rcases hq with rfl | rfl | rfl <;> rfl), kz_n (by decide), fr1 260 i (fun q hq => by obtain rfl := List.mem_singleton.mp hq; rfl)]
      have hpre3 := kb_pre_tr (h12 1 (by decide)) (h12 2 (by decide)) hF
      have hex : ∀ j, ∃ v, j < 10 → v ≤ 10 ∧ h3 279 j = .inl (Int32.ofNat v) ∧ (j < n → v = j) := fun j => by
        by_cases hj : j < 10
        · by_cases h1 : j < n
          · exact ⟨j, fun _ => ⟨by omega, er j h1, fun _ => rfl⟩⟩
          · obtain ⟨v, a1, a2⟩ := kx_ofg (by omega) (hw3 _ _ _ (kw_k279 j hj).1)
            exact ⟨v, fun _ => ⟨a1, a2, fun b1 => absurd b1 h1⟩⟩
        · exact ⟨0, fun q => absurd q hj⟩
      obtain ⟨f, hf⟩ := Classical.axiomOfChoice hex
      refine kb_loop (q := q) hg (by decide) n5 (hbody n n5) (hB := h3) ?_ (11 ^ n - kw_v f n + 1) f h3 mv3 L3 (Nat.lt_succ_self _) (fun j hj => (hf j hj).1) (fun j hj => by have := (hf j (by omega)).2.2 hj; omega) hw3 (fun c i _ => rfl) hpre3 gm3 e35 (fun j hj => (hf j hj).2.1) m0 m1 m2 m3
      intro L4 h4 hw4 fr4 k0 k2
      refine kf_lo (L := [(0, .inr (.inr (.inl (some 259)))), (2, .inl (Int32.ofNat n))]) (fun q hq => ?_) ?_
      · simp only [List.mem_cons, List.not_mem_nil, or_false] at hq
        rcases hq with rfl | rfl
        · exact k0
        · exact k2
      refine kx_go 2 (pc' := 217) (L' := [(4, .inl (Int32.ofNat 0)), (0, .inr (.inr (.inl (some 259)))), (2, .inl (Int32.ofNat n))]) (S' := []) (h' := h4) (by with_unfolding_all rfl) ?_
      have d0 := kx_ofr (hw4 _ _ _ kz_k.1)
      have d40 := kx_ofr (hw4 _ _ _ kb_k4.1)
      have dz : ∃ z : Int32, h4 259 39 = .inl z := by
        obtain ⟨a, b, e⟩ := kb_k4.2
        obtain ⟨z, ez, -, -⟩ := hw4 _ _ _ e
        exact ⟨z, ez⟩
      have hs4 : ∀ k, k < n → ∃ z : Int32, h4 282 k = .inl z := fun k hk => by
        obtain ⟨z, -, ez⟩ := kx_ofg (by omega) (hw4 _ _ _ (kb_k5 k (by omega)).2)
        exact ⟨_, ez⟩
      have hw5 : kd_wt kd_ty (kz_cp h4 260 150 282 0 n) := kz_cp_wt hw4 (fun j hj => by rw [Nat.zero_add, (kb_k5 j (by omega)).1, (kb_k5 j (by omega)).2])
      have hfin : kd_fr kd_W130 h (kz_cp h4 260 150 282 0 n) := by
        intro c i hq
        have q1 := kd_inr_f (hq (280, 280, 0, 4) (by decide))
        have q2 := kd_inr_f (hq (282, 282, 0, 4) (by decide))
        have q3 := kd_inr_f (hq (279, 279, 0, 9) (by decide))
        have q4 := kd_inr_f (hq (259, 259, 35, 35) (by decide))
        have q5 := kd_inr_f (hq (259, 259, 38, 39) (by decide))
        simp only at q1 q2 q3 q4 q5
        have s1 : ∀ c i, ¬ (280 ≤ c ∧ c ≤ 280 ∧ 0 ≤ i ∧ i ≤ 4) → h1 c i = h c i := fun c i hn => fr1 c i (fun q hq => by
          obtain rfl := List.mem_singleton.mp hq
          exact kb_inr hn)
        have s3 : ∀ c i, ¬ (279 ≤ c ∧ c ≤ 279 ∧ 0 ≤ i ∧ i ≤ 9) → ¬ (259 ≤ c ∧ c ≤ 259 ∧ 35 ≤ i ∧ i ≤ 35) → ¬ (259 ≤ c ∧ c ≤ 259 ∧ 38 ≤ i ∧ i ≤ 39) → h3 c i = kz_cp h1 282 0 260 150 n c i := fun c i n1 n2 n3 => fr3 c i (fun q hq => by
          simp only [kb_WB, List.mem_cons, List.not_mem_nil, or_false] at hq
          rcases hq with rfl | rfl | rfl
          · exact kb_inr n1
          · exact kb_inr n2
          · exact kb_inr n3)
        unfold kz_cp
        by_cases e : c = 260 ∧ (150 ≤ i ∧ i < 150 + n)
        · rw [if_pos e, Nat.zero_add, fr4 282 (i - 150) (fun q hm => by
            rcases List.mem_cons.mp hm with rfl | hm
            · rfl
            · rcases List.mem_cons.mp hm with rfl | hm
              · rfl
              · exact kb_out (Or.inl (by decide)) (kb_k3 (i - 150) (by omega)) q hm), s3 282 (i - 150) (by omega) (by omega) (by omega)]
          unfold kz_cp
          rw [if_pos ⟨rfl, by omega, by omega⟩, s1 260 _ (by omega), e.1]
          congr 1
          omega
        · rw [if_neg e, fr4 c i (fun q hm => by
            rcases List.mem_cons.mp hm with rfl | hm
            · exact kb_inr q3
            · rcases List.mem_cons.mp hm with rfl | hm
              · exact kb_inr q4
              · rcases List.mem_cons.mp hm with rfl | hm
                · exact kb_inr (c1 := 260) (c2 := 260) (i1 := 150) (i2 := 149 + n) (by omega)
                · exact hq q (List.mem_cons_of_mem _ (List.mem_cons_of_mem _ (List.mem_cons_of_mem _ (List.mem_cons_of_mem _ hm))))), s3 c i q3 q4 q5]
          unfold kz_cp
          rw [if_neg (by omega), s1 c i q1]
      have en := kb_endl (g := g) (d := 6) (Q := fun xr h' => ∃ p ∈ kd_P130, kd_rv 0 (fun _ => 0) p.1 xr ∧ kd_gF 0 (fun _ => 0) p.2.1 h' ∧ kd_wt kd_ty h' ∧ kd_fr p.2.2 h h') n5 d0 d40 dz hs4 (fun r hr => ⟨_, List.mem_cons_self, ⟨r, rfl, by rcases hr with rfl | rfl <;> decide, by rcases hr with rfl | rfl <;> decide⟩, fun q hq => (by cases hq), hw5, hfin⟩) n 0 (by omega) (by omega)
      rw [kz_0] at en
      exact en
theorem kd_h130a {g : kc_G} (hg : kc_ok g) : kd_hold g 7 kd_ty 130 ([(3, 259, 259), kb_mn 0], kb_pre 0, kd_P130) := kb_whole hg (fun x hx => by obtain ⟨z, rfl, -, -⟩ := hx; exact ⟨z, rfl⟩) (fun n hn => (match n, hn with
  | 0, _ => kb_b0_0 hg
  | 1, _ => kb_b0_1 hg
  | 2, _ => kb_b0_2 hg
  | 3, _ => kb_b0_3 hg
  | 4, _ => kb_b0_4 hg
  | 5, _ => kb_b0_5 hg
  | n + 6, hn => absurd hn (by omega))) (fun n hn => (match n, hn with
  | 0, _ => kb_g0_0 hg
  | 1, _ => kb_g0_1 hg
  | 2, _ => kb_g0_2 hg
  | 3, _ => kb_g0_3 hg
  | 4, _ => kb_g0_4 hg
  | 5, _ => kb_g0_5 hg
  | n + 6, hn => absurd hn (by omega)))
theorem kd_h130b {g : kc_G} (hg : kc_ok g) : kd_hold g 7 kd_ty 130 ([(3, 259, 259), kb_mn 1], kb_pre 1, kd_P130) := kb_whole hg (fun x hx => by obtain ⟨z, rfl, -, -⟩ := hx; exact ⟨z, rfl⟩) (fun n hn => (match n, hn with
  | 0, _ => kb_b1_0 hg
  | 1, _ => kb_b1_1 hg
  | 2, _ => kb_b1_2 hg
  | 3, _ => kb_b1_3 hg
  | 4, _ => kb_b1_4 hg
  | 5, _ => kb_b1_5 hg
  | n + 6, hn => absurd hn (by omega))) (fun n hn => (match n, hn with
  | 0, _ => kb_g1_0 hg
  | 1, _ => kb_g1_1 hg
  | 2, _ => kb_g1_2 hg
  | 3, _ => kb_g1_3 hg
  | 4, _ => kb_g1_4 hg
  | 5, _ => kb_g1_5 hg
  | n + 6, hn => absurd hn (by omega)))
theorem kd_h130c {g : kc_G} (hg : kc_ok g) : kd_hold g 7 kd_ty 130 ([(3, 259, 259), kb_mn 2], kb_pre 2, kd_P130) := kb_whole hg (fun x hx => by obtain ⟨z, rfl, -, -⟩ := hx; exact ⟨z, rfl⟩) (fun n hn => (match n, hn with
  | 0, _ => kb_b2_0 hg
  | 1, _ => kb_b2_1 hg
  | 2, _ => kb_b2_2 hg
  | 3, _ => kb_b2_3 hg
  | 4, _ => kb_b2_4 hg
  | 5, _ => kb_b2_5 hg
  | n + 6, hn => absurd hn (by omega))) (fun n hn => (match n, hn with
  | 0, _ => kb_g2_0 hg
  | 1, _ => kb_g2_1 hg
  | 2, _ => kb_g2_2 hg
  | 3, _ => kb_g2_3 hg
  | 4, _ => kb_g2_4 hg
  | 5, _ => kb_g2_5 hg
  | n + 6, hn => absurd hn (by omega)))
