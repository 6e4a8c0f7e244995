/-! ===== where reading a text stops ===== -/
def kp_af (t : Nat → Nat) (n i : Nat) : Nat → Nat → Nat → Nat
  | 0, _, _ => 0
  | m + 1, j, p => match kp_a1 t n i j (kp_start t n p) with
    | none => kp_start t n p
    | some _ => kp_af t n i m (j + 1) (kp_nx t n (kp_start t n p))
theorem kp_af0 {t : Nat → Nat} {n i m j p : Nat} (h : kp_a1 t n i j (kp_start t n p) = none) : kp_af t n i (m + 1) j p = kp_start t n p := by
  unfold kp_af
  rw [h]
theorem kp_af1 {t : Nat → Nat} {n i m j p x : Nat} (h : kp_a1 t n i j (kp_start t n p) = some x) : kp_af t n i (m + 1) j p = kp_af t n i m (j + 1) (kp_nx t n (kp_start t n p)) := by
  show (match kp_a1 t n i j (kp_start t n p) with
    | none => kp_start t n p
    | some _ => kp_af t n i m (j + 1) (kp_nx t n (kp_start t n p))) = _
  rw [h]
def kp_itf (t : Nat → Nat) (n m f p k s : Nat) : Nat := match kp_vb t p k s m f with
  | none => s
  | some v => match kp_ar t n (kp_sh v) (ks_L (kp_sh v)) 0 p with
    | none => kp_af t n (kp_sh v) (ks_L (kp_sh v)) 0 p
    | some q => kp_start t n q.2
theorem kp_itf0 {t : Nat → Nat} {n m f p k s : Nat} (h : kp_vb t p k s m f = none) : kp_itf t n m f p k s = s := by
  unfold kp_itf
  rw [h]
theorem kp_itf1 {t : Nat → Nat} {n m f p k s v : Nat} (h : kp_vb t p k s m f = some v) (e : kp_ar t n (kp_sh v) (ks_L (kp_sh v)) 0 p = none) : kp_itf t n m f p k s = kp_af t n (kp_sh v) (ks_L (kp_sh v)) 0 p := by
  unfold kp_itf
  rw [h]
  simp only
  rw [e]
theorem kp_itf2 {t : Nat → Nat} {n m f p k s v : Nat} {q : List Nat × Nat} (h : kp_vb t p k s m f = some v) (e : kp_ar t n (kp_sh v) (ks_L (kp_sh v)) 0 p = some q) : kp_itf t n m f p k s = kp_start t n q.2 := by
  unfold kp_itf
  rw [h]
  simp only
  rw [e]
/-- the place of the first word that may not be there -/
def kp_flt (t : Nat → Nat) (n m f : Nat) : Nat → Nat → Nat
  | 0, _ => 0
  | u + 1, p => match kp_item t n m f (kp_nx t n (kp_start t n p)) (kp_kd t n (kp_start t n p)) (kp_start t n p) with
    | none => kp_itf t n m f (kp_nx t n (kp_start t n p)) (kp_kd t n (kp_start t n p)) (kp_start t n p)
    | some q => kp_flt t n m f u q.2
theorem kp_flt0 {t : Nat → Nat} {n m f u p : Nat} (h : kp_item t n m f (kp_nx t n (kp_start t n p)) (kp_kd t n (kp_start t n p)) (kp_start t n p) = none) : kp_flt t n m f (u + 1) p = kp_itf t n m f (kp_nx t n (kp_start t n p)) (kp_kd t n (kp_start t n p)) (kp_start t n p) := by
  show (match kp_item t n m f (kp_nx t n (kp_start t n p)) (kp_kd t n (kp_start t n p)) (kp_start t n p) with
    | none => kp_itf t n m f (kp_nx t n (kp_start t n p)) (kp_kd t n (kp_start t n p)) (kp_start t n p)
    | some q => kp_flt t n m f u q.2) = _
  rw [h]
theorem kp_flt1 {t : Nat → Nat} {n m f u p : Nat} {q : (Nat × List Nat) × Nat} (h : kp_item t n m f (kp_nx t n (kp_start t n p)) (kp_kd t n (kp_start t n p)) (kp_start t n p) = some q) : kp_flt t n m f (u + 1) p = kp_flt t n m f u q.2 := by
  show (match kp_item t n m f (kp_nx t n (kp_start t n p)) (kp_kd t n (kp_start t n p)) (kp_start t n p) with
    | none => kp_itf t n m f (kp_nx t n (kp_start t n p)) (kp_kd t n (kp_start t n p)) (kp_start t n p)
    | some q => kp_flt t n m f u q.2) = _
  rw [h]
set_option maxRecDepth 20000 in
theorem kr_itlx {g : kc_G} {d : Nat} {Q : Option kc_V → kc_H → Prop} {c n : Nat} {t : Nat → Nat} (hg : kc_ok g) (hc1 : kc_shp c = some (0, 0, 240)) (hc2 : c < kc_N) (hc3 : c < 127) (hn : n ≤ 240) (hb : ∀ j, j < 240 → t j < 256) {i it v w : Nat} (hi : i < 24) (hi4 : ks_L i ≤ 4) (hit : it < 60) : ∀ (m j : Nat) (h : kc_H) (p k s : Nat), ks_L i - j = m → j ≤ ks_L i → (∀ j, j < 240 → h c j = .inl (Int32.ofNat (t j))) → h 129 it = .inr (.inr (.inl (some (130 + it)))) → p ≤ n →
    (∀ vs e, kp_ar t n i m j p = some (vs, e) → ∀ k2 s2, kc_Ev g (d + 6) wk_m174 Q 116 [(2, .inl (Int32.ofNat v)), (0, .inr (.inr (.inl (some 127))))] [] (kr_H (kj (kr_w h (130 + it) j vs) it) c n e k2 s2)) →
    (kp_ar t n i m j p = none → ∀ (h2 : kc_H) (p2 k2 s2 : Nat), kr_T h h2 (130 + it) → ((s2 ≤ n ∧ p2 ≤ n ∧ k2 < 5) ∧ s2 = kp_af t n i m j p) → Q (some (.inl (Int32.ofNat s2))) (kr_H (kj h2 it) c n p2 k2 s2)) → kc_Ev g (d + 6) wk_m174 Q 33 [(4, .inl (Int32.ofNat j)), (3, ks_s (i)), (2, .inl (Int32.ofNat v)), (0, .inr (.inr (.inl (some 127)))), (1, .inl (Int32.ofNat w))] [] (kr_H (kj h it) c n p k s) := by
  obtain ⟨hL, hch⟩ := kp_ch_r i hi
  intro m
  induction m with
  | zero =>
    intro j h p k s hm hj ht hrw hp hok hbad
    refine kx_go 2 (pc' := 36) (L' := [(4, .inl (Int32.ofNat j)), (3, ks_s (i)), (2, .inl (Int32.ofNat v)), (0, .inr (.inr (.inl (some 127)))), (1, .inl (Int32.ofNat w))]) (S' := [ks_s (i), .inl (Int32.ofNat j)]) (h' := (kr_H (kj h it) c n p k s)) (by with_unfolding_all rfl) ?_
    refine ks_length (d := d + 4) hg hi rfl (by decide +kernel) (show 1 ≤ 8 by decide) ?_
    refine kx_go 1 (pc' := (if kc_cnd .ge (Int32.ofNat j).toInt (Int32.ofNat (ks_L i)).toInt then 116 else 42)) (L' := [(4, .inl (Int32.ofNat j)), (3, ks_s (i)), (2, .inl (Int32.ofNat v)), (0, .inr (.inr (.inl (some 127)))), (1, .inl (Int32.ofNat w))]) (S' := []) (h' := (kr_H (kj h it) c n p k s)) (by with_unfolding_all rfl) ?_
    rw [if_pos ((kx_ge (by omega) (by omega)).mpr (by omega))]
    refine kf_lo (L := [(2, .inl (Int32.ofNat v)), (0, .inr (.inr (.inl (some 127))))]) ?_ (hok [] p rfl k s)
    intro q hq
    simp only [List.mem_cons, List.not_mem_nil, or_false] at hq
    rcases hq with rfl | rfl <;> rfl
  | succ m ih =>
    intro j h p k s hm hj ht hrw hp hok hbad
    refine kx_go 2 (pc' := 36) (L' := [(4, .inl (Int32.ofNat j)), (3, ks_s (i)), (2, .inl (Int32.ofNat v)), (0, .inr (.inr (.inl (some 127)))), (1, .inl (Int32.ofNat w))]) (S' := [ks_s (i), .inl (Int32.ofNat j)]) (h' := (kr_H (kj h it) c n p k s)) (by with_unfolding_all rfl) ?_
    refine ks_length (d := d + 4) hg hi rfl (by decide +kernel) (show 1 ≤ 8 by decide) ?_
    refine kx_go 1 (pc' := (if kc_cnd .ge (Int32.ofNat j).toInt (Int32.ofNat (ks_L i)).toInt then 116 else 42)) (L' := [(4, .inl (Int32.ofNat j)), (3, ks_s (i)), (2, .inl (Int32.ofNat v)), (0, .inr (.inr (.inl (some 127)))), (1, .inl (Int32.ofNat w))]) (S' := []) (h' := (kr_H (kj h it) c n p k s)) (by with_unfolding_all rfl) ?_
    rw [if_neg (fun w => by have := (kx_ge (by omega) (by omega)).mp w; omega)]
    obtain ⟨hr1, hr2⟩ := kr_rows it hit
    refine kx_go 5 (pc' := 52) (L' := [(4, .inl (Int32.ofNat j)), (3, ks_s (i)), (2, .inl (Int32.ofNat v)), (0, .inr (.inr (.inl (some 127)))), (1, .inl (Int32.ofNat w))]) (S' := [.inl (Int32.ofNat it), .inr (.inr (.inl (some 129))), .inl (Int32.ofNat j)]) (h' := (kr_H (kj h it) c n p k s)) (by with_unfolding_all rfl) ?_
    refine kx_aald rfl (c := 129) (j := it) (m := 60) (t0 := 2) rfl (by decide) (by decide) (by decide) hit ((kr_o (by decide)).trans ((kj_o (by decide)).trans hrw)) ?_
    refine kx_alen rfl hr1 hr2 ?_
    show kc_Ev g (d + 6) wk_m174 Q 54 [(4, .inl (Int32.ofNat j)), (3, ks_s (i)), (2, .inl (Int32.ofNat v)), (0, .inr (.inr (.inl (some 127)))), (1, .inl (Int32.ofNat w))] [.inl (Int32.ofNat 4), .inl (Int32.ofNat j)] (kr_H (kj h it) c n p k s)
    refine kx_go 1 (pc' := (if kc_cnd .ge (Int32.ofNat j).toInt (Int32.ofNat 4).toInt then 116 else 57)) (L' := [(4, .inl (Int32.ofNat j)), (3, ks_s (i)), (2, .inl (Int32.ofNat v)), (0, .inr (.inr (.inl (some 127)))), (1, .inl (Int32.ofNat w))]) (S' := []) (h' := (kr_H (kj h it) c n p k s)) (by with_unfolding_all rfl) ?_
    rw [if_neg (fun w => by have := (kx_ge (by omega) (by omega)).mp w; omega)]
    refine kx_go 1 (pc' := 58) (L' := [(4, .inl (Int32.ofNat j)), (3, ks_s (i)), (2, .inl (Int32.ofNat v)), (0, .inr (.inr (.inl (some 127)))), (1, .inl (Int32.ofNat w))]) (S' := [.inr (.inr (.inl (some 127)))]) (h' := (kr_H (kj h it) c n p k s)) (by with_unfolding_all rfl) ?_
    refine kc_call_rule (M2 := wk_m62) (av := [.inr (.inr (.inl (some 127)))]) (r := []) rfl rfl (kc_Con_le (kr_step hg hc1 hc2 (by omega) hn (fun j hj => (kj_o (by omega)).trans (ht j hj)) hb hp) (by omega)) (fun rv h' hq => ?_)
    obtain ⟨rfl, rfl⟩ := hq
    have hst := kp_start_le (t := t) hp
    have hnx := kp_nx_le (t := t) hst.2
    have hkd := kp_kd_lt (t := t) (n := n) (s := kp_start t n p)
    show kc_Ev g (d + 6) wk_m174 Q 61 [(4, .inl (Int32.ofNat j)), (3, ks_s (i)), (2, .inl (Int32.ofNat v)), (0, .inr (.inr (.inl (some 127)))), (1, .inl (Int32.ofNat w))] [] (kr_H (kj h it) c n (kp_nx t n (kp_start t n p)) (kp_kd t n (kp_start t n p)) (kp_start t n p))
    refine kx_go 2 (pc' := 64) (L' := [(4, .inl (Int32.ofNat j)), (3, ks_s (i)), (2, .inl (Int32.ofNat v)), (0, .inr (.inr (.inl (some 127)))), (1, .inl (Int32.ofNat w))]) (S' := [.inl (Int32.ofNat j), ks_s (i)]) (h' := (kr_H (kj h it) c n (kp_nx t n (kp_start t n p)) (kp_kd t n (kp_start t n p)) (kp_start t n p))) (by with_unfolding_all rfl) ?_
    obtain ⟨hc, hc256⟩ := hch j (by omega)
    refine ks_charAt (d := d + 2) hg hi (by omega) rfl (by decide +kernel) (show 0 ≤ 8 by decide) ?_
    rw [hc]
    refine kx_go 2 (pc' := (if kc_cnd .ne (Int32.ofNat (kp_ch i j)).toInt (Int32.ofNat 104).toInt then 79 else 72)) (L' := [(4, .inl (Int32.ofNat j)), (3, ks_s (i)), (2, .inl (Int32.ofNat v)), (0, .inr (.inr (.inl (some 127)))), (1, .inl (Int32.ofNat w))]) (S' := []) (h' := (kr_H (kj h it) c n (kp_nx t n (kp_start t n p)) (kp_kd t n (kp_start t n p)) (kp_start t n p))) (by with_unfolding_all rfl) ?_
    have ht' : ∀ j, j < 240 → kj h it c j = .inl (Int32.ofNat (t j)) := fun j hj => (kj_o (by omega)).trans (ht j hj)
    have hbad0 : kp_a1 t n i j (kp_start t n p) = none → ∀ (h2 : kc_H) (p2 k2 s2 : Nat), kr_T h h2 (130 + it) → ((s2 ≤ n ∧ p2 ≤ n ∧ k2 < 5) ∧ s2 = kp_start t n p) → Q (some (.inl (Int32.ofNat s2))) (kr_H (kj h2 it) c n p2 k2 s2) := fun e h2 p2 k2 s2 hh hs => hbad (by unfold kp_ar; rw [e]) h2 p2 k2 s2 hh ⟨hs.1, hs.2.trans (kp_af0 e).symm⟩
    have hbad1 : ∀ x, kp_a1 t n i j (kp_start t n p) = some x → kp_ar t n i m (j + 1) (kp_nx t n (kp_start t n p)) = none → ∀ (h2 : kc_H) (p2 k2 s2 : Nat), kr_T h h2 (130 + it) → ((s2 ≤ n ∧ p2 ≤ n ∧ k2 < 5) ∧ s2 = kp_af t n i m (j + 1) (kp_nx t n (kp_start t n p))) → Q (some (.inl (Int32.ofNat s2))) (kr_H (kj h2 it) c n p2 k2 s2) := fun x ex e h2 p2 k2 s2 hh hs => hbad (by unfold kp_ar; rw [ex]; simp only; rw [e]) h2 p2 k2 s2 hh ⟨hs.1, hs.2.trans (kp_af1 ex).symm⟩
    have hok1 : ∀ x, kp_a1 t n i j (kp_start t n p) = some x → ∀ vs e, kp_ar t n i m (j + 1) (kp_nx t n (kp_start t n p)) = some (vs, e) → _ := fun x ex vs e ev => hok (x :: vs) e (by unfold kp_ar; rw [ex]; simp only; rw [ev])
    have fin : ∀ r : Option Nat, kp_a1 t n i j (kp_start t n p) = r → (∀ x, r = some x → x < 1000) → kc_Ev g (d + 6) wk_m174 Q 83 [(4, .inl (Int32.ofNat j)), (3, ks_s (i)), (2, .inl (Int32.ofNat v)), (0, .inr (.inr (.inl (some 127)))), (1, .inl (Int32.ofNat w))] [.inl (kp_o r)] (kr_H (kj h it) c n (kp_nx t n (kp_start t n p)) (kp_kd t n (kp_start t n p)) (kp_start t n p)) := by
      intro r hr hr3
      cases r with
      | none =>
        show kc_Ev g (d + 6) wk_m174 Q 83 [(4, .inl (Int32.ofNat j)), (3, ks_s (i)), (2, .inl (Int32.ofNat v)), (0, .inr (.inr (.inl (some 127)))), (1, .inl (Int32.ofNat w))] [.inl (Int32.ofInt (-1))] (kr_H (kj h it) c n (kp_nx t n (kp_start t n p)) (kp_kd t n (kp_start t n p)) (kp_start t n p))
        refine kx_go 4 (pc' := (if kc_cnd .ne (Int32.ofInt (-1)).toInt (Int32.ofInt (-1)).toInt then 96 else 91)) (L' := [(5, .inl (Int32.ofInt (-1))), (4, .inl (Int32.ofNat j)), (3, ks_s (i)), (2, .inl (Int32.ofNat v)), (0, .inr (.inr (.inl (some 127)))), (1, .inl (Int32.ofNat w))]) (S' := []) (h' := (kr_H (kj h it) c n (kp_nx t n (kp_start t n p)) (kp_kd t n (kp_start t n p)) (kp_start t n p))) (by with_unfolding_all rfl) ?_
        rw [if_neg kx_m2]
        refine kx_go 2 (pc' := 95) (L' := [(5, .inl (Int32.ofInt (-1))), (4, .inl (Int32.ofNat j)), (3, ks_s (i)), (2, .inl (Int32.ofNat v)), (0, .inr (.inr (.inl (some 127)))), (1, .inl (Int32.ofNat w))]) (S' := [.inl (Int32.ofNat (kp_start t n p))]) (h' := (kr_H (kj h it) c n (kp_nx t n (kp_start t n p)) (kp_kd t n (kp_start t n p)) (kp_start t n p))) (by with_unfolding_all rfl) ?_
        exact kc_ret_ok rfl (rv := some (.inl (Int32.ofNat (kp_start t n p)))) rfl (hbad0 hr h _ _ _ kr_T_rf ⟨⟨hst.2, hnx.2, hkd⟩, rfl⟩)
      | some x =>
        have hx := hr3 x rfl
        show kc_Ev g (d + 6) wk_m174 Q 83 [(4, .inl (Int32.ofNat j)), (3, ks_s (i)), (2, .inl (Int32.ofNat v)), (0, .inr (.inr (.inl (some 127)))), (1, .inl (Int32.ofNat w))] [.inl (Int32.ofNat x)] (kr_H (kj h it) c n (kp_nx t n (kp_start t n p)) (kp_kd t n (kp_start t n p)) (kp_start t n p))
        refine kx_go 4 (pc' := (if kc_cnd .ne (Int32.ofNat x).toInt (Int32.ofInt (-1)).toInt then 96 else 91)) (L' := [(5, .inl (Int32.ofNat x)), (4, .inl (Int32.ofNat j)), (3, ks_s (i)), (2, .inl (Int32.ofNat v)), (0, .inr (.inr (.inl (some 127)))), (1, .inl (Int32.ofNat w))]) (S' := []) (h' := (kr_H (kj h it) c n (kp_nx t n (kp_start t n p)) (kp_kd t n (kp_start t n p)) (kp_start t n p))) (by with_unfolding_all rfl) ?_
        rw [if_pos (kx_nm2 (by omega))]
        refine kx_go 4 (pc' := 104) (L' := [(5, .inl (Int32.ofNat x)), (4, .inl (Int32.ofNat j)), (3, ks_s (i)), (2, .inl (Int32.ofNat v)), (0, .inr (.inr (.inl (some 127)))), (1, .inl (Int32.ofNat w))]) (S' := [.inl (Int32.ofNat it), .inr (.inr (.inl (some 129)))]) (h' := (kr_H (kj h it) c n (kp_nx t n (kp_start t n p)) (kp_kd t n (kp_start t n p)) (kp_start t n p))) (by with_unfolding_all rfl) ?_
        refine kx_aald rfl (c := 129) (j := it) (m := 60) (t0 := 2) rfl (by decide) (by decide) (by decide) hit ((kr_o (by decide)).trans ((kj_o (by decide)).trans hrw)) ?_
        refine kx_go 2 (pc' := 109) (L' := [(5, .inl (Int32.ofNat x)), (4, .inl (Int32.ofNat j)), (3, ks_s (i)), (2, .inl (Int32.ofNat v)), (0, .inr (.inr (.inl (some 127)))), (1, .inl (Int32.ofNat w))]) (S' := [.inl (Int32.ofNat x), .inl (Int32.ofNat j), .inr (.inr (.inl (some (130 + it))))]) (h' := (kr_H (kj h it) c n (kp_nx t n (kp_start t n p)) (kp_kd t n (kp_start t n p)) (kp_start t n p))) (by with_unfolding_all rfl) ?_
        refine kx_iast rfl (c := 130 + it) (j := j) (m := 4) hr1 hr2 (by decide) (by omega) ?_
        rw [kj_u (by omega)]
        refine kx_go 2 (pc' := 33) (L' := [(4, .inl ((Int32.ofNat j) + Int32.ofInt 1)), (5, .inl (Int32.ofNat x)), (3, ks_s (i)), (2, .inl (Int32.ofNat v)), (0, .inr (.inr (.inl (some 127)))), (1, .inl (Int32.ofNat w))]) (S' := []) (h' := (kr_H (kj (kc_upd h (130 + it) j (.inl (Int32.ofNat x))) it) c n (kp_nx t n (kp_start t n p)) (kp_kd t n (kp_start t n p)) (kp_start t n p))) (by with_unfolding_all rfl) ?_
        rw [kx_inc]
        refine kf_lo (L := [(4, .inl (Int32.ofNat (j + 1))), (3, ks_s (i)), (2, .inl (Int32.ofNat v)), (0, .inr (.inr (.inl (some 127)))), (1, .inl (Int32.ofNat w))]) ?_ (ih (j + 1) (kc_upd h (130 + it) j (.inl (Int32.ofNat x))) _ _ _ (by omega) (by omega) (fun y hy => (kj_uo (by omega)).trans (ht y hy)) ((kj_uo (by omega)).trans hrw) (by omega) (fun vs e ev k2 s2 => hok1 x hr vs e ev k2 s2) (fun e h2 p2 k2 s2 hh => hbad1 x hr e h2 p2 k2 s2 (kr_T_u (by omega) hx hh)))
        intro q hq
        simp only [List.mem_cons, List.not_mem_nil, or_false] at hq
        rcases hq with rfl | rfl | rfl | rfl | rfl <;> rfl
    by_cases e104 : kp_ch i j = 104
    · rw [if_neg (fun w => (kx_ne (by omega) (by omega)).mp w e104)]
      refine kx_go 1 (pc' := 73) (L' := [(4, .inl (Int32.ofNat j)), (3, ks_s (i)), (2, .inl (Int32.ofNat v)), (0, .inr (.inr (.inl (some 127)))), (1, .inl (Int32.ofNat w))]) (S' := [.inr (.inr (.inl (some 127)))]) (h' := (kr_H (kj h it) c n (kp_nx t n (kp_start t n p)) (kp_kd t n (kp_start t n p)) (kp_start t n p))) (by with_unfolding_all rfl) ?_
      refine kc_call_rule (M2 := wk_m179) (av := [.inr (.inr (.inl (some 127)))]) (r := []) rfl rfl (kr_hd (d := d) hc1 hc2 (by omega) hn ht' hb hg hnx.1 hnx.2 (by omega)) (fun rv h' hq => ?_)
      obtain ⟨rfl, rfl⟩ := hq
      show kc_Ev g (d + 6) wk_m174 Q 76 [(4, .inl (Int32.ofNat j)), (3, ks_s (i)), (2, .inl (Int32.ofNat v)), (0, .inr (.inr (.inl (some 127)))), (1, .inl (Int32.ofNat w))] [.inl (kp_o (kp_hd t (kp_nx t n (kp_start t n p)) (kp_kd t n (kp_start t n p)) (kp_start t n p)))] (kr_H (kj h it) c n (kp_nx t n (kp_start t n p)) (kp_kd t n (kp_start t n p)) (kp_start t n p))
      refine kx_go 1 (pc' := 83) (L' := [(4, .inl (Int32.ofNat j)), (3, ks_s (i)), (2, .inl (Int32.ofNat v)), (0, .inr (.inr (.inl (some 127)))), (1, .inl (Int32.ofNat w))]) (S' := [.inl (kp_o (kp_hd t (kp_nx t n (kp_start t n p)) (kp_kd t n (kp_start t n p)) (kp_start t n p)))]) (h' := (kr_H (kj h it) c n (kp_nx t n (kp_start t n p)) (kp_kd t n (kp_start t n p)) (kp_start t n p))) (by with_unfolding_all rfl) ?_
      refine fin _ (if_pos e104) (fun x hx => ?_)
      unfold kp_hd at hx
      cases e1 : kp_is t (kp_nx t n (kp_start t n p)) (kp_kd t n (kp_start t n p)) (kp_start t n p) 0 with
      | true => rw [e1] at hx; cases hx; decide
      | false =>
        rw [e1] at hx
        cases e2 : kp_is t (kp_nx t n (kp_start t n p)) (kp_kd t n (kp_start t n p)) (kp_start t n p) 1 with
        | true => rw [e2] at hx; cases hx; decide
        | false => rw [e2] at hx; cases hx
    · rw [if_pos ((kx_ne (by omega) (by omega)).mpr e104)]
      refine kx_go 1 (pc' := 80) (L' := [(4, .inl (Int32.ofNat j)), (3, ks_s (i)), (2, .inl (Int32.ofNat v)), (0, .inr (.inr (.inl (some 127)))), (1, .inl (Int32.ofNat w))]) (S' := [.inr (.inr (.inl (some 127)))]) (h' := (kr_H (kj h it) c n (kp_nx t n (kp_start t n p)) (kp_kd t n (kp_start t n p)) (kp_start t n p))) (by with_unfolding_all rfl) ?_
      refine kc_call_rule (M2 := wk_m180) (av := [.inr (.inr (.inl (some 127)))]) (r := []) rfl rfl (kc_Con_le (kr_nh (d := d) hc1 hc2 (by omega) hn ht' hb hg hnx.1 hnx.2 (by omega) (fun e j h1 h2 => (kp_dig e j h1 h2).1)) (by omega)) (fun rv h' hq => ?_)
      obtain ⟨rfl, rfl⟩ := hq
      show kc_Ev g (d + 6) wk_m174 Q 83 [(4, .inl (Int32.ofNat j)), (3, ks_s (i)), (2, .inl (Int32.ofNat v)), (0, .inr (.inr (.inl (some 127)))), (1, .inl (Int32.ofNat w))] [.inl (kp_o (kp_nh t (kp_nx t n (kp_start t n p)) (kp_kd t n (kp_start t n p)) (kp_start t n p)))] (kr_H (kj h it) c n (kp_nx t n (kp_start t n p)) (kp_kd t n (kp_start t n p)) (kp_start t n p))
      refine fin _ (if_neg e104) (fun x hx => ?_)
      exact kp_nh_lt hx
/-- what readItem leaves behind -/
def kr_Qix (t : Nat → Nat) (c n it m f p k s : Nat) (h : kc_H) : Option kc_V → kc_H → Prop := fun rv h' => match kp_item t n m f p k s with
  | none => ∃ (h2 : kc_H) (p2 k2 s2 : Nat), rv = some (.inl (Int32.ofNat s2)) ∧ ((s2 ≤ n ∧ p2 ≤ n ∧ k2 < 5) ∧ s2 = kp_itf t n m f p k s) ∧ h' = kr_H (kj h2 it) c n p2 k2 s2 ∧ kr_T h h2 (130 + it)
  | some q => ∃ k2 s2 : Nat, rv = some (.inl (Int32.ofInt (-1))) ∧ (k2 < 5 ∧ s2 ≤ n) ∧ h' = kr_H (kj (kc_upd (kr_w h (130 + it) 0 q.1.2) 128 it (.inl (Int32.ofNat q.1.1))) (it + 1)) c n q.2 k2 s2
set_option maxRecDepth 20000 in
theorem kr_itemx0 {g : kc_G} {d : Nat} {c n : Nat} {t : Nat → Nat} (hg : kc_ok g) (hc1 : kc_shp c = some (0, 0, 240)) (hc2 : c < kc_N) (hc3 : c < 127) (hn : n ≤ 240) (hb : ∀ j, j < 240 → t j < 256) {h : kc_H} {it p k s : Nat} (hit : it < 60) (ht : ∀ j, j < 240 → h c j = .inl (Int32.ofNat (t j))) (hrw : h 129 it = .inr (.inr (.inl (some (130 + it))))) (hsp : s ≤ p) (hp : p ≤ n) (hk : k < 5) : kc_Con g (d + 7) 174 [.inr (.inr (.inl (some 127))), .inl (Int32.ofNat 0)] (kr_H (kj h it) c n p k s) (kr_Qix t c n it 9 0 p k s h) := by
  have ht' : ∀ j, j < 240 → kj h it c j = .inl (Int32.ofNat (t j)) := fun j hj => (kj_o (by omega)).trans (ht j hj)
  refine kc_Con_new hg (M := wk_m174) rfl rfl rfl (show 2 ≤ 6 by decide) ?_
  refine kx_go 2 (pc' := 2) (L' := [(0, .inr (.inr (.inl (some 127)))), (1, .inl (Int32.ofNat 0))]) (S' := [.inl (Int32.ofNat 0), .inr (.inr (.inl (some 127)))]) (h' := (kr_H (kj h it) c n p k s)) (by with_unfolding_all rfl) ?_
  refine kc_call_rule (M2 := wk_m175) (av := [.inr (.inr (.inl (some 127))), .inl (Int32.ofNat 0)]) (r := []) rfl rfl (kr_vb0 (d := d) hc1 hc2 (by omega) hn ht' hb hg hsp hp (by omega)) (fun rv h' hq => ?_)
  obtain ⟨rfl, rfl⟩ := hq
  generalize hQ : kr_Qix t c n it 9 0 p k s h = Q
  unfold kr_Qix kp_item kp_itf at hQ
  cases hv : kp_vb t p k s 9 0 with
  | none =>
    rw [hv] at hQ
    simp only at hQ
    show kc_Ev g (d + 6) wk_m174 Q 5 [(0, .inr (.inr (.inl (some 127)))), (1, .inl (Int32.ofNat 0))] [.inl (Int32.ofInt (-1))] (kr_H (kj h it) c n p k s)
    refine kx_go 4 (pc' := (if kc_cnd .eq (Int32.ofInt (-1)).toInt (Int32.ofInt (-1)).toInt then 20 else 11)) (L' := [(2, .inl (Int32.ofInt (-1))), (0, .inr (.inr (.inl (some 127)))), (1, .inl (Int32.ofNat 0))]) (S' := []) (h' := (kr_H (kj h it) c n p k s)) (by with_unfolding_all rfl) ?_
    rw [if_pos kx_m1]
    refine kx_go 2 (pc' := 24) (L' := [(2, .inl (Int32.ofInt (-1))), (0, .inr (.inr (.inl (some 127)))), (1, .inl (Int32.ofNat 0))]) (S' := [.inl (Int32.ofNat s)]) (h' := (kr_H (kj h it) c n p k s)) (by with_unfolding_all rfl) ?_
    refine kc_ret_ok rfl (rv := some (.inl (Int32.ofNat s))) rfl ?_
    rw [← hQ]
    exact ⟨h, p, k, s, rfl, ⟨⟨by omega, hp, hk⟩, rfl⟩, rfl, kr_T_rf⟩
  | some v =>
    rw [hv] at hQ
    simp only at hQ
    obtain ⟨v1, v2, v3⟩ := kp_vb_lt _ _ _ hv
    obtain ⟨hi, hi4⟩ := kr_shl v (by omega)
    show kc_Ev g (d + 6) wk_m174 Q 5 [(0, .inr (.inr (.inl (some 127)))), (1, .inl (Int32.ofNat 0))] [.inl (Int32.ofNat v)] (kr_H (kj h it) c n p k s)
    refine kx_go 4 (pc' := (if kc_cnd .eq (Int32.ofNat v).toInt (Int32.ofInt (-1)).toInt then 20 else 11)) (L' := [(2, .inl (Int32.ofNat v)), (0, .inr (.inr (.inl (some 127)))), (1, .inl (Int32.ofNat 0))]) (S' := []) (h' := (kr_H (kj h it) c n p k s)) (by with_unfolding_all rfl) ?_
    rw [if_neg (kx_nm1 (by omega))]
    refine kx_go 4 (pc' := (if kc_cnd .lt (Int32.ofNat it).toInt (Int32.ofNat 60).toInt then 25 else 20)) (L' := [(2, .inl (Int32.ofNat v)), (0, .inr (.inr (.inl (some 127)))), (1, .inl (Int32.ofNat 0))]) (S' := []) (h' := (kr_H (kj h it) c n p k s)) (by with_unfolding_all rfl) ?_
    rw [if_pos ((kx_lt (by omega) (by omega)).mpr hit)]
    refine kx_go 1 (pc' := 26) (L' := [(2, .inl (Int32.ofNat v)), (0, .inr (.inr (.inl (some 127)))), (1, .inl (Int32.ofNat 0))]) (S' := [.inl (Int32.ofNat v)]) (h' := (kr_H (kj h it) c n p k s)) (by with_unfolding_all rfl) ?_
    refine kc_call_rule (M2 := wk_m178) (av := [.inl (Int32.ofNat v)]) (r := []) rfl rfl (kr_sh (d := d + 5) hg v (by omega)) (fun rv h' hq => ?_)
    obtain ⟨rfl, rfl⟩ := hq
    show kc_Ev g (d + 6) wk_m174 Q 29 [(2, .inl (Int32.ofNat v)), (0, .inr (.inr (.inl (some 127)))), (1, .inl (Int32.ofNat 0))] [ks_s (kp_sh v)] (kr_H (kj h it) c n p k s)
    refine kx_go 3 (pc' := 33) (L' := [(4, .inl (Int32.ofNat 0)), (3, ks_s (kp_sh v)), (2, .inl (Int32.ofNat v)), (0, .inr (.inr (.inl (some 127)))), (1, .inl (Int32.ofNat 0))]) (S' := []) (h' := (kr_H (kj h it) c n p k s)) (by with_unfolding_all rfl) ?_
    refine kr_itlx (d := d) hg hc1 hc2 hc3 hn hb hi hi4 hit (ks_L (kp_sh v)) 0 h p k s rfl (Nat.zero_le _) ht hrw hp (fun vs e hev k2 s2 => ?_) (fun hev h2 p2 k2 s2 hh hs2 => ?_)
    · rw [hev] at hQ
      simp only at hQ
      obtain ⟨b1, b2, b3⟩ := kp_ar_le _ _ _ _ _ hp hev
      have ht2 : ∀ j, j < 240 → kr_w h (130 + it) 0 vs c j = .inl (Int32.ofNat (t j)) := fun j hj => (kr_w_o (by omega) vs h 0).trans (ht j hj)
      refine kx_go 1 (pc' := 117) (L' := [(2, .inl (Int32.ofNat v)), (0, .inr (.inr (.inl (some 127))))]) (S' := [.inr (.inr (.inl (some 127)))]) (h' := (kr_H (kj (kr_w h (130 + it) 0 vs) it) c n e k2 s2)) (by with_unfolding_all rfl) ?_
      refine kc_call_rule (M2 := wk_m62) (av := [.inr (.inr (.inl (some 127)))]) (r := []) rfl rfl (kc_Con_le (kr_step hg hc1 hc2 (by omega) hn (fun j hj => (kj_o (by omega)).trans (ht2 j hj)) hb b2) (by omega)) (fun rv h' hq => ?_)
      obtain ⟨rfl, rfl⟩ := hq
      have hst := kp_start_le (t := t) b2
      have hkd := kp_kd_lt (t := t) (n := n) (s := kp_start t n e)
      show kc_Ev g (d + 6) wk_m174 Q 120 [(2, .inl (Int32.ofNat v)), (0, .inr (.inr (.inl (some 127))))] [] (kr_H (kj (kr_w h (130 + it) 0 vs) it) c n (kp_nx t n (kp_start t n e)) (kp_kd t n (kp_start t n e)) (kp_start t n e))
      refine kx_go 4 (pc' := (if kc_cnd .eq (Int32.ofNat (kp_kd t n (kp_start t n e))).toInt (Int32.ofNat 3).toInt then 133 else 128)) (L' := [(2, .inl (Int32.ofNat v)), (0, .inr (.inr (.inl (some 127))))]) (S' := []) (h' := (kr_H (kj (kr_w h (130 + it) 0 vs) it) c n (kp_nx t n (kp_start t n e)) (kp_kd t n (kp_start t n e)) (kp_start t n e))) (by with_unfolding_all rfl) ?_
      by_cases e3 : kp_kd t n (kp_start t n e) = 3
      · rw [if_pos ((kx_eq (by omega) (by omega)).mpr e3)]
        rw [if_pos e3] at hQ
        refine kx_go 5 (pc' := 142) (L' := [(2, .inl (Int32.ofNat v)), (0, .inr (.inr (.inl (some 127))))]) (S' := [.inl (Int32.ofNat v), .inl (Int32.ofNat it), .inr (.inr (.inl (some 128)))]) (h' := (kr_H (kj (kr_w h (130 + it) 0 vs) it) c n (kp_nx t n (kp_start t n e)) (kp_kd t n (kp_start t n e)) (kp_start t n e))) (by with_unfolding_all rfl) ?_
        refine kx_iast rfl (c := 128) (j := it) (m := 60) rfl (by decide) (by decide) hit ?_
        rw [kj_u (by decide)]
        refine kx_go 5 (pc' := 150) (L' := [(2, .inl (Int32.ofNat v)), (0, .inr (.inr (.inl (some 127))))]) (S' := [.inl ((Int32.ofNat it) + (Int32.ofNat 1)), .inr (.inr (.inl (some 127)))]) (h' := (kr_H (kj (kc_upd (kr_w h (130 + it) 0 vs) 128 it (.inl (Int32.ofNat v))) it) c n (kp_nx t n (kp_start t n e)) (kp_kd t n (kp_start t n e)) (kp_start t n e))) (by with_unfolding_all rfl) ?_
        refine kx_go 1 (pc' := 153) (L' := [(2, .inl (Int32.ofNat v)), (0, .inr (.inr (.inl (some 127))))]) (S' := []) (h' := kc_upd (kr_H (kj (kc_upd (kr_w h (130 + it) 0 vs) 128 it (.inl (Int32.ofNat v))) it) c n (kp_nx t n (kp_start t n e)) (kp_kd t n (kp_start t n e)) (kp_start t n e)) 127 1 (.inl (Int32.ofNat it + Int32.ofNat 1))) (by with_unfolding_all rfl) ?_
        rw [kx_inc1, kj_1]
        refine kx_go 1 (pc' := 154) (L' := [(2, .inl (Int32.ofNat v)), (0, .inr (.inr (.inl (some 127))))]) (S' := [.inl (Int32.ofInt (-1))]) (h' := (kr_H (kj (kc_upd (kr_w h (130 + it) 0 vs) 128 it (.inl (Int32.ofNat v))) (it + 1)) c n (kp_nx t n (kp_start t n e)) (kp_kd t n (kp_start t n e)) (kp_start t n e))) (by with_unfolding_all rfl) ?_
        refine kc_ret_ok rfl (rv := some (.inl (Int32.ofInt (-1)))) rfl ?_
        rw [← hQ]
        exact ⟨_, _, rfl, ⟨hkd, hst.2⟩, rfl⟩
      · rw [if_neg (fun w => e3 ((kx_eq (by omega) (by omega)).mp w))]
        rw [if_neg e3] at hQ
        refine kx_go 2 (pc' := 132) (L' := [(2, .inl (Int32.ofNat v)), (0, .inr (.inr (.inl (some 127))))]) (S' := [.inl (Int32.ofNat (kp_start t n e))]) (h' := (kr_H (kj (kr_w h (130 + it) 0 vs) it) c n (kp_nx t n (kp_start t n e)) (kp_kd t n (kp_start t n e)) (kp_start t n e))) (by with_unfolding_all rfl) ?_
        refine kc_ret_ok rfl (rv := some (.inl (Int32.ofNat (kp_start t n e)))) rfl ?_
        rw [← hQ]
        exact ⟨_, _, _, _, rfl, ⟨⟨hst.2, (kp_nx_le (t := t) hst.2).2, hkd⟩, rfl⟩, rfl, kr_T_w vs h 0 (by rw [b3]; omega) (kp_ar_lt _ _ _ _ _ hev)⟩
    · rw [hev] at hQ
      simp only at hQ
      rw [← hQ]
      exact ⟨h2, p2, k2, s2, rfl, hs2, rfl, hh⟩
set_option maxRecDepth 20000 in
theorem kr_itemx1 {g : kc_G} {d : Nat} {c n : Nat} {t : Nat → Nat} (hg : kc_ok g) (hc1 : kc_shp c = some (0, 0, 240)) (hc2 : c < kc_N) (hc3 : c < 127) (hn : n ≤ 240) (hb : ∀ j, j < 240 → t j < 256) {h : kc_H} {it p k s : Nat} (hit : it < 60) (ht : ∀ j, j < 240 → h c j = .inl (Int32.ofNat (t j))) (hrw : h 129 it = .inr (.inr (.inl (some (130 + it))))) (hsp : s ≤ p) (hp : p ≤ n) (hk : k < 5) : kc_Con g (d + 7) 174 [.inr (.inr (.inl (some 127))), .inl (Int32.ofNat 1)] (kr_H (kj h it) c n p k s) (kr_Qix t c n it 7 9 p k s h) := by
  have ht' : ∀ j, j < 240 → kj h it c j = .inl (Int32.ofNat (t j)) := fun j hj => (kj_o (by omega)).trans (ht j hj)
  refine kc_Con_new hg (M := wk_m174) rfl rfl rfl (show 2 ≤ 6 by decide) ?_
  refine kx_go 2 (pc' := 2) (L' := [(0, .inr (.inr (.inl (some 127)))), (1, .inl (Int32.ofNat 1))]) (S' := [.inl (Int32.ofNat 1), .inr (.inr (.inl (some 127)))]) (h' := (kr_H (kj h it) c n p k s)) (by with_unfolding_all rfl) ?_
  refine kc_call_rule (M2 := wk_m175) (av := [.inr (.inr (.inl (some 127))), .inl (Int32.ofNat 1)]) (r := []) rfl rfl (kr_vb1 (d := d) hc1 hc2 (by omega) hn ht' hb hg hsp hp (by omega)) (fun rv h' hq => ?_)
  obtain ⟨rfl, rfl⟩ := hq
  generalize hQ : kr_Qix t c n it 7 9 p k s h = Q
  unfold kr_Qix kp_item kp_itf at hQ
  cases hv : kp_vb t p k s 7 9 with
  | none =>
    rw [hv] at hQ
    simp only at hQ
    show kc_Ev g (d + 6) wk_m174 Q 5 [(0, .inr (.inr (.inl (some 127)))), (1, .inl (Int32.ofNat 1))] [.inl (Int32.ofInt (-1))] (kr_H (kj h it) c n p k s)
    refine kx_go 4 (pc' := (if kc_cnd .eq (Int32.ofInt (-1)).toInt (Int32.ofInt (-1)).toInt then 20 else 11)) (L' := [(2, .inl (Int32.ofInt (-1))), (0, .inr (.inr (.inl (some 127)))), (1, .inl (Int32.ofNat 1))]) (S' := []) (h' := (kr_H (kj h it) c n p k s)) (by with_unfolding_all rfl) ?_
    rw [if_pos kx_m1]
    refine kx_go 2 (pc' := 24) (L' := [(2, .inl (Int32.ofInt (-1))), (0, .inr (.inr (.inl (some 127)))), (1, .inl (Int32.ofNat 1))]) (S' := [.inl (Int32.ofNat s)]) (h' := (kr_H (kj h it) c n p k s)) (by with_unfolding_all rfl) ?_
    refine kc_ret_ok rfl (rv := some (.inl (Int32.ofNat s))) rfl ?_
    rw [← hQ]
    exact ⟨h, p, k, s, rfl, ⟨⟨by omega, hp, hk⟩, rfl⟩, rfl, kr_T_rf⟩
  | some v =>
    rw [hv] at hQ
    simp only at hQ
    obtain ⟨v1, v2, v3⟩ := kp_vb_lt _ _ _ hv
    obtain ⟨hi, hi4⟩ := kr_shl v (by omega)
    show kc_Ev g (d + 6) wk_m174 Q 5 [(0, .inr (.inr (.inl (some 127)))), (1, .inl (Int32.ofNat 1))] [.inl (Int32.ofNat v)] (kr_H (kj h it) c n p k s)
    refine kx_go 4 (pc' := (if kc_cnd .eq (Int32.ofNat v).toInt (Int32.ofInt (-1)).toInt then 20 else 11)) (L' := [(2, .inl (Int32.ofNat v)), (0, .inr (.inr (.inl (some 127)))), (1, .inl (Int32.ofNat 1))]) (S' := []) (h' := (kr_H (kj h it) c n p k s)) (by with_unfolding_all rfl) ?_
    rw [if_neg (kx_nm1 (by omega))]
    refine kx_go 4 (pc' := (if kc_cnd .lt (Int32.ofNat it).toInt (Int32.ofNat 60).toInt then 25 else 20)) (L' := [(2, .inl (Int32.ofNat v)), (0, .inr (.inr (.inl (some 127)))), (1, .inl (Int32.ofNat 1))]) (S' := []) (h' := (kr_H (kj h it) c n p k s)) (by with_unfolding_all rfl) ?_
    rw [if_pos ((kx_lt (by omega) (by omega)).mpr hit)]
    refine kx_go 1 (pc' := 26) (L' := [(2, .inl (Int32.ofNat v)), (0, .inr (.inr (.inl (some 127)))), (1, .inl (Int32.ofNat 1))]) (S' := [.inl (Int32.ofNat v)]) (h' := (kr_H (kj h it) c n p k s)) (by with_unfolding_all rfl) ?_
    refine kc_call_rule (M2 := wk_m178) (av := [.inl (Int32.ofNat v)]) (r := []) rfl rfl (kr_sh (d := d + 5) hg v (by omega)) (fun rv h' hq => ?_)
    obtain ⟨rfl, rfl⟩ := hq
    show kc_Ev g (d + 6) wk_m174 Q 29 [(2, .inl (Int32.ofNat v)), (0, .inr (.inr (.inl (some 127)))), (1, .inl (Int32.ofNat 1))] [ks_s (kp_sh v)] (kr_H (kj h it) c n p k s)
    refine kx_go 3 (pc' := 33) (L' := [(4, .inl (Int32.ofNat 0)), (3, ks_s (kp_sh v)), (2, .inl (Int32.ofNat v)), (0, .inr (.inr (.inl (some 127)))), (1, .inl (Int32.ofNat 1))]) (S' := []) (h' := (kr_H (kj h it) c n p k s)) (by with_unfolding_all rfl) ?_
    refine kr_itlx (d := d) hg hc1 hc2 hc3 hn hb hi hi4 hit (ks_L (kp_sh v)) 0 h p k s rfl (Nat.zero_le _) ht hrw hp (fun vs e hev k2 s2 => ?_) (fun hev h2 p2 k2 s2 hh hs2 => ?_)
    · rw [hev] at hQ
      simp only at hQ
      obtain ⟨b1, b2, b3⟩ := kp_ar_le _ _ _ _ _ hp hev
      have ht2 : ∀ j, j < 240 → kr_w h (130 + it) 0 vs c j = .inl (Int32.ofNat (t j)) := fun j hj => (kr_w_o (by omega) vs h 0).trans (ht j hj)
      refine kx_go 1 (pc' := 117) (L' := [(2, .inl (Int32.ofNat v)), (0, .inr (.inr (.inl (some 127))))]) (S' := [.inr (.inr (.inl (some 127)))]) (h' := (kr_H (kj (kr_w h (130 + it) 0 vs) it) c n e k2 s2)) (by with_unfolding_all rfl) ?_
      refine kc_call_rule (M2 := wk_m62) (av := [.inr (.inr (.inl (some 127)))]) (r := []) rfl rfl (kc_Con_le (kr_step hg hc1 hc2 (by omega) hn (fun j hj => (kj_o (by omega)).trans (ht2 j hj)) hb b2) (by omega)) (fun rv h' hq => ?_)
      obtain ⟨rfl, rfl⟩ := hq
      have hst := kp_start_le (t := t) b2
      have hkd := kp_kd_lt (t := t) (n := n) (s := kp_start t n e)
      show kc_Ev g (d + 6) wk_m174 Q 120 [(2, .inl (Int32.ofNat v)), (0, .inr (.inr (.inl (some 127))))] [] (kr_H (kj (kr_w h (130 + it) 0 vs) it) c n (kp_nx t n (kp_start t n e)) (kp_kd t n (kp_start t n e)) (kp_start t n e))
      refine kx_go 4 (pc' := (if kc_cnd .eq (Int32.ofNat (kp_kd t n (kp_start t n e))).toInt (Int32.ofNat 3).toInt then 133 else 128)) (L' := [(2, .inl (Int32.ofNat v)), (0, .inr (.inr (.inl (some 127))))]) (S' := []) (h' := (kr_H (kj (kr_w h (130 + it) 0 vs) it) c n (kp_nx t n (kp_start t n e)) (kp_kd t n (kp_start t n e)) (kp_start t n e))) (by with_unfolding_all rfl) ?_
      by_cases e3 : kp_kd t n (kp_start t n e) = 3
      · rw [if_pos ((kx_eq (by omega) (by omega)).mpr e3)]
        rw [if_pos e3] at hQ
        refine kx_go 5 (pc' := 142) (L' := [(2, .inl (Int32.ofNat v)), (0, .inr (.inr (.inl (some 127))))]) (S' := [.inl (Int32.ofNat v), .inl (Int32.ofNat it), .inr (.inr (.inl (some 128)))]) (h' := (kr_H (kj (kr_w h (130 + it) 0 vs) it) c n (kp_nx t n (kp_start t n e)) (kp_kd t n (kp_start t n e)) (kp_start t n e))) (by with_unfolding_all rfl) ?_
        refine kx_iast rfl (c := 128) (j := it) (m := 60) rfl (by decide) (by decide) hit ?_
        rw [kj_u (by decide)]
        refine kx_go 5 (pc' := 150) (L' := [(2, .inl (Int32.ofNat v)), (0, .inr (.inr (.inl (some 127))))]) (S' := [.inl ((Int32.ofNat it) + (Int32.ofNat 1)), .inr (.inr (.inl (some 127)))]) (h' := (kr_H (kj (kc_upd (kr_w h (130 + it) 0 vs) 128 it (.inl (Int32.ofNat v))) it) c n (kp_nx t n (kp_start t n e)) (kp_kd t n (kp_start t n e)) (kp_start t n e))) (by with_unfolding_all rfl) ?_
        refine kx_go 1 (pc' := 153) (L' := [(2, .inl (Int32.ofNat v)), (0, .inr (.inr (.inl (some 127))))]) (S' := []) (h' := kc_upd (kr_H (kj (kc_upd (kr_w h (130 + it) 0 vs) 128 it (.inl (Int32.ofNat v))) it) c n (kp_nx t n (kp_start t n e)) (kp_kd t n (kp_start t n e)) (kp_start t n e)) 127 1 (.inl (Int32.ofNat it + Int32.ofNat 1))) (by with_unfolding_all rfl) ?_
        rw [kx_inc1, kj_1]
        refine kx_go 1 (pc' := 154) (L' := [(2, .inl (Int32.ofNat v)), (0, .inr (.inr (.inl (some 127))))]) (S' := [.inl (Int32.ofInt (-1))]) (h' := (kr_H (kj (kc_upd (kr_w h (130 + it) 0 vs) 128 it (.inl (Int32.ofNat v))) (it + 1)) c n (kp_nx t n (kp_start t n e)) (kp_kd t n (kp_start t n e)) (kp_start t n e))) (by with_unfolding_all rfl) ?_
        refine kc_ret_ok rfl (rv := some (.inl (Int32.ofInt (-1)))) rfl ?_
        rw [← hQ]
        exact ⟨_, _, rfl, ⟨hkd, hst.2⟩, rfl⟩
      · rw [if_neg (fun w => e3 ((kx_eq (by omega) (by omega)).mp w))]
        rw [if_neg e3] at hQ
        refine kx_go 2 (pc' := 132) (L' := [(2, .inl (Int32.ofNat v)), (0, .inr (.inr (.inl (some 127))))]) (S' := [.inl (Int32.ofNat (kp_start t n e))]) (h' := (kr_H (kj (kr_w h (130 + it) 0 vs) it) c n (kp_nx t n (kp_start t n e)) (kp_kd t n (kp_start t n e)) (kp_start t n e))) (by with_unfolding_all rfl) ?_
        refine kc_ret_ok rfl (rv := some (.inl (Int32.ofNat (kp_start t n e)))) rfl ?_
        rw [← hQ]
        exact ⟨_, _, _, _, rfl, ⟨⟨hst.2, (kp_nx_le (t := t) hst.2).2, hkd⟩, rfl⟩, rfl, kr_T_w vs h 0 (by rw [b3]; omega) (kp_ar_lt _ _ _ _ _ hev)⟩
    · rw [hev] at hQ
      simp only at hQ
      rw [← hQ]
      exact ⟨h2, p2, k2, s2, rfl, hs2, rfl, hh⟩
set_option maxRecDepth 20000 in
theorem kr_rdlx0 {g : kc_G} {d : Nat} {Q : Option kc_V → kc_H → Prop} {c n : Nat} {t : Nat → Nat} (hg : kc_ok g) (hc1 : kc_shp c = some (0, 0, 240)) (hc2 : c < kc_N) (hc3 : c < 127) (hn : n ≤ 240) (hb : ∀ j, j < 240 → t j < 256) : ∀ (u it : Nat) (h : kc_H) (p k s : Nat), 61 - it = u → 4 * it ≤ p → p ≤ n → (∀ j, j < 240 → h c j = .inl (Int32.ofNat (t j))) → (∀ i, i < 60 → h 129 i = .inr (.inr (.inl (some (130 + i))))) →
    (∀ l, kp_its t n 9 0 u p = some l → ∀ p2 k2 s2, p2 ≤ n → k2 < 5 → s2 ≤ n → Q (some (.inl (Int32.ofInt (-1)))) (kr_H (kj (kr_ws h it l) (it + l.length)) c n p2 k2 s2)) →
    (kp_its t n 9 0 u p = none → ∀ (h2 : kc_H) (it2 p2 k2 s2 : Nat), kr_D h h2 → it2 ≤ 60 → ((s2 ≤ n ∧ p2 ≤ n ∧ k2 < 5) ∧ s2 = kp_flt t n 9 0 u p) → Q (some (.inl (Int32.ofNat s2))) (kr_H (kj h2 it2) c n p2 k2 s2)) → kc_Ev g (d + 7) wk_m61 Q 38 [(2, .inl (Int32.ofNat it)), (0, .inr (.inr (.inl (some 127)))), (1, .inl (Int32.ofNat 0))] [] (kr_H (kj h it) c n p k s) := by
  intro u
  induction u with
  | zero =>
    intro it h p k s hu h4 hp ht hrw hok hbad
    omega
  | succ u ih =>
    intro it h p k s hu h4 hp ht hrw hok hbad
    refine kx_go 3 (pc' := (if kc_cnd .gt (Int32.ofNat it).toInt (Int32.ofNat 60).toInt then 76 else 44)) (L' := [(2, .inl (Int32.ofNat it)), (0, .inr (.inr (.inl (some 127)))), (1, .inl (Int32.ofNat 0))]) (S' := []) (h' := (kr_H (kj h it) c n p k s)) (by with_unfolding_all rfl) ?_
    rw [if_neg (fun w => by have := (kx_gt (by omega) (by omega)).mp w; omega)]
    refine kx_go 1 (pc' := 45) (L' := [(2, .inl (Int32.ofNat it)), (0, .inr (.inr (.inl (some 127)))), (1, .inl (Int32.ofNat 0))]) (S' := [.inr (.inr (.inl (some 127)))]) (h' := (kr_H (kj h it) c n p k s)) (by with_unfolding_all rfl) ?_
    refine kc_call_rule (M2 := wk_m62) (av := [.inr (.inr (.inl (some 127)))]) (r := []) rfl rfl (kc_Con_le (kr_step hg hc1 hc2 (by omega) hn (fun j hj => (kj_o (by omega)).trans (ht j hj)) hb hp) (by omega)) (fun rv h' hq => ?_)
    obtain ⟨rfl, rfl⟩ := hq
    have hst := kp_start_le (t := t) hp
    have hnx := kp_nx_le (t := t) hst.2
    have hkd := kp_kd_lt (t := t) (n := n) (s := kp_start t n p)
    show kc_Ev g (d + 7) wk_m61 Q 48 [(2, .inl (Int32.ofNat it)), (0, .inr (.inr (.inl (some 127)))), (1, .inl (Int32.ofNat 0))] [] (kr_H (kj h it) c n (kp_nx t n (kp_start t n p)) (kp_kd t n (kp_start t n p)) (kp_start t n p))
    refine kx_go 3 (pc' := (if kc_cnd .ne (Int32.ofNat (kp_kd t n (kp_start t n p))).toInt 0 then 57 else 55)) (L' := [(2, .inl (Int32.ofNat it)), (0, .inr (.inr (.inl (some 127)))), (1, .inl (Int32.ofNat 0))]) (S' := []) (h' := (kr_H (kj h it) c n (kp_nx t n (kp_start t n p)) (kp_kd t n (kp_start t n p)) (kp_start t n p))) (by with_unfolding_all rfl) ?_
    by_cases e0 : kp_kd t n (kp_start t n p) = 0
    · rw [if_neg (fun w => by rw [e0] at w; revert w; decide)]
      refine kx_go 1 (pc' := 56) (L' := [(2, .inl (Int32.ofNat it)), (0, .inr (.inr (.inl (some 127)))), (1, .inl (Int32.ofNat 0))]) (S' := [.inl (Int32.ofInt (-1))]) (h' := (kr_H (kj h it) c n (kp_nx t n (kp_start t n p)) (kp_kd t n (kp_start t n p)) (kp_start t n p))) (by with_unfolding_all rfl) ?_
      exact kc_ret_ok rfl (rv := some (.inl (Int32.ofInt (-1)))) rfl (hok [] (by unfold kp_its; rw [if_pos e0]) _ _ _ hnx.2 hkd hst.2)
    · have hit : it < 60 := by
        have : ¬ n ≤ kp_start t n p := fun q => e0 (if_pos q)
        omega
      rw [if_pos (by unfold kc_cnd; rw [kx_ti (by omega)]; simp only [Bool.not_eq_true', decide_eq_false_iff_not]; omega)]
      refine kx_go 2 (pc' := 59) (L' := [(2, .inl (Int32.ofNat it)), (0, .inr (.inr (.inl (some 127)))), (1, .inl (Int32.ofNat 0))]) (S' := [.inl (Int32.ofNat 0), .inr (.inr (.inl (some 127)))]) (h' := (kr_H (kj h it) c n (kp_nx t n (kp_start t n p)) (kp_kd t n (kp_start t n p)) (kp_start t n p))) (by with_unfolding_all rfl) ?_
      refine kc_call_rule (M2 := wk_m174) (av := [.inr (.inr (.inl (some 127))), .inl (Int32.ofNat 0)]) (r := []) rfl rfl (kr_itemx0 (d := d) hg hc1 hc2 hc3 hn hb hit ht (hrw it hit) hnx.1 hnx.2 hkd) (fun rv h' hq => ?_)
      unfold kr_Qix at hq
      cases hi : kp_item t n 9 0 (kp_nx t n (kp_start t n p)) (kp_kd t n (kp_start t n p)) (kp_start t n p) with
      | none =>
        rw [hi] at hq
        obtain ⟨h2, p2, k2, s2, rfl, hb2, rfl, hT⟩ := hq
        show kc_Ev g (d + 7) wk_m61 Q 62 [(2, .inl (Int32.ofNat it)), (0, .inr (.inr (.inl (some 127)))), (1, .inl (Int32.ofNat 0))] [.inl (Int32.ofNat s2)] (kr_H (kj h2 it) c n p2 k2 s2)
        refine kx_go 4 (pc' := (if kc_cnd .eq (Int32.ofNat s2).toInt (Int32.ofInt (-1)).toInt then 70 else 68)) (L' := [(3, .inl (Int32.ofNat s2)), (2, .inl (Int32.ofNat it)), (0, .inr (.inr (.inl (some 127)))), (1, .inl (Int32.ofNat 0))]) (S' := []) (h' := (kr_H (kj h2 it) c n p2 k2 s2)) (by with_unfolding_all rfl) ?_
        rw [if_neg (kx_nm1 (by omega))]
        refine kx_go 1 (pc' := 69) (L' := [(3, .inl (Int32.ofNat s2)), (2, .inl (Int32.ofNat it)), (0, .inr (.inr (.inl (some 127)))), (1, .inl (Int32.ofNat 0))]) (S' := [.inl (Int32.ofNat s2)]) (h' := (kr_H (kj h2 it) c n p2 k2 s2)) (by with_unfolding_all rfl) ?_
        exact kc_ret_ok rfl (rv := some (.inl (Int32.ofNat s2))) rfl (hbad (by unfold kp_its; rw [if_neg e0, hi]) h2 it p2 k2 s2 (kr_D_T hit hT) (by omega) ⟨hb2.1, hb2.2.trans (kp_flt0 hi).symm⟩)
      | some q =>
        rw [hi] at hq
        obtain ⟨k2, s2, rfl, hb2, rfl⟩ := hq
        obtain ⟨c1, c2, c3, c4, c5, c6⟩ := kp_item_le (by omega) hnx.1 hnx.2 hi
        show kc_Ev g (d + 7) wk_m61 Q 62 [(2, .inl (Int32.ofNat it)), (0, .inr (.inr (.inl (some 127)))), (1, .inl (Int32.ofNat 0))] [.inl (Int32.ofInt (-1))] (kr_H (kj (kr_w1 h it q.1) (it + 1)) c n q.2 k2 s2)
        refine kx_go 4 (pc' := (if kc_cnd .eq (Int32.ofInt (-1)).toInt (Int32.ofInt (-1)).toInt then 70 else 68)) (L' := [(3, .inl (Int32.ofInt (-1))), (2, .inl (Int32.ofNat it)), (0, .inr (.inr (.inl (some 127)))), (1, .inl (Int32.ofNat 0))]) (S' := []) (h' := (kr_H (kj (kr_w1 h it q.1) (it + 1)) c n q.2 k2 s2)) (by with_unfolding_all rfl) ?_
        rw [if_pos kx_m1]
        refine kx_go 2 (pc' := 38) (L' := [(2, .inl ((Int32.ofNat it) + Int32.ofInt 1)), (3, .inl (Int32.ofInt (-1))), (0, .inr (.inr (.inl (some 127)))), (1, .inl (Int32.ofNat 0))]) (S' := []) (h' := (kr_H (kj (kr_w1 h it q.1) (it + 1)) c n q.2 k2 s2)) (by with_unfolding_all rfl) ?_
        rw [kx_inc]
        have hD := kr_D_w1 (h := h) (q := q.1) hit (by rw [c5]; exact (kr_shl _ (by omega)).2) (by omega) c6
        refine kf_lo (L := [(2, .inl (Int32.ofNat (it + 1))), (0, .inr (.inr (.inl (some 127)))), (1, .inl (Int32.ofNat 0))]) ?_ (ih (it + 1) (kr_w1 h it q.1) q.2 k2 s2 (by omega) (by omega) c2 (fun j hj => (kr_D_n hD (by omega) (by omega)).trans (ht j hj)) (fun j hj => (kr_D_n hD (by omega) (by omega)).trans (hrw j hj)) (fun l hl p2 k3 s3 a1 a2 a3 => ?_) (fun hl h2 it2 p2 k3 s3 hh a1 a2 => ?_))
        · intro q hq
          simp only [List.mem_cons, List.not_mem_nil, or_false] at hq
          rcases hq with rfl | rfl | rfl <;> rfl
        · have := hok (q.1 :: l) (by unfold kp_its; rw [if_neg e0, hi]; simp only; rw [hl]) p2 k3 s3 a1 a2 a3
          rw [show it + 1 + l.length = it + (q.1 :: l).length from by rw [List.length_cons]; omega]
          exact this
        · exact hbad (by unfold kp_its; rw [if_neg e0, hi]; simp only; rw [hl]) h2 it2 p2 k3 s3 (kr_D_tr hD hh) a1 ⟨a2.1, a2.2.trans (kp_flt1 hi).symm⟩
set_option maxRecDepth 20000 in
theorem kr_rdlx1 {g : kc_G} {d : Nat} {Q : Option kc_V → kc_H → Prop} {c n : Nat} {t : Nat → Nat} (hg : kc_ok g) (hc1 : kc_shp c = some (0, 0, 240)) (hc2 : c < kc_N) (hc3 : c < 127) (hn : n ≤ 240) (hb : ∀ j, j < 240 → t j < 256) : ∀ (u it : Nat) (h : kc_H) (p k s : Nat), 61 - it = u → 4 * it ≤ p → p ≤ n → (∀ j, j < 240 → h c j = .inl (Int32.ofNat (t j))) → (∀ i, i < 60 → h 129 i = .inr (.inr (.inl (some (130 + i))))) →
    (∀ l, kp_its t n 7 9 u p = some l → ∀ p2 k2 s2, p2 ≤ n → k2 < 5 → s2 ≤ n → Q (some (.inl (Int32.ofInt (-1)))) (kr_H (kj (kr_ws h it l) (it + l.length)) c n p2 k2 s2)) →
    (kp_its t n 7 9 u p = none → ∀ (h2 : kc_H) (it2 p2 k2 s2 : Nat), kr_D h h2 → it2 ≤ 60 → ((s2 ≤ n ∧ p2 ≤ n ∧ k2 < 5) ∧ s2 = kp_flt t n 7 9 u p) → Q (some (.inl (Int32.ofNat s2))) (kr_H (kj h2 it2) c n p2 k2 s2)) → kc_Ev g (d + 7) wk_m61 Q 38 [(2, .inl (Int32.ofNat it)), (0, .inr (.inr (.inl (some 127)))), (1, .inl (Int32.ofNat 1))] [] (kr_H (kj h it) c n p k s) := by
  intro u
  induction u with
  | zero =>
    intro it h p k s hu h4 hp ht hrw hok hbad
    omega
  | succ u ih =>
    intro it h p k s hu h4 hp ht hrw hok hbad
    refine kx_go 3 (pc' := (if kc_cnd .gt (Int32.ofNat it).toInt (Int32.ofNat 60).toInt then 76 else 44)) (L' := [(2, .inl (Int32.ofNat it)), (0, .inr (.inr (.inl (some 127)))), (1, .inl (Int32.ofNat 1))]) (S' := []) (h' := (kr_H (kj h it) c n p k s)) (by with_unfolding_all rfl) ?_
    rw [if_neg (fun w => by have := (kx_gt (by omega) (by omega)).mp w; omega)]
    refine kx_go 1 (pc' := 45) (L' := [(2, .inl (Int32.ofNat it)), (0, .inr (.inr (.inl (some 127)))), (1, .inl (Int32.ofNat 1))]) (S' := [.inr (.inr (.inl (some 127)))]) (h' := (kr_H (kj h it) c n p k s)) (by with_unfolding_all rfl) ?_
    refine kc_call_rule (M2 := wk_m62) (av := [.inr (.inr (.inl (some 127)))]) (r := []) rfl rfl (kc_Con_le (kr_step hg hc1 hc2 (by omega) hn (fun j hj => (kj_o (by omega)).trans (ht j hj)) hb hp) (by omega)) (fun rv h' hq => ?_)
    obtain ⟨rfl, rfl⟩ := hq
    have hst := kp_start_le (t := t) hp
    have hnx := kp_nx_le (t := t) hst.2
    have hkd := kp_kd_lt (t := t) (n := n) (s := kp_start t n p)
    show kc_Ev g (d + 7) wk_m61 Q 48 [(2, .inl (Int32.ofNat it)), (0, .inr (.inr (.inl (some 127)))), (1, .inl (Int32.ofNat 1))] [] (kr_H (kj h it) c n (kp_nx t n (kp_start t n p)) (kp_kd t n (kp_start t n p)) (kp_start t n p))
    refine kx_go 3 (pc' := (if kc_cnd .ne (Int32.ofNat (kp_kd t n (kp_start t n p))).toInt 0 then 57 else 55)) (L' := [(2, .inl (Int32.ofNat it)), (0, .inr (.inr (.inl (some 127)))), (1, .inl (Int32.ofNat 1))]) (S' := []) (h' := (kr_H (kj h it) c n (kp_nx t n (kp_start t n p)) (kp_kd t n (kp_start t n p)) (kp_start t n p))) (by with_unfolding_all rfl) ?_
    by_cases e0 : kp_kd t n (kp_start t n p) = 0
    · rw [if_neg (fun w => by rw [e0] at w; revert w; decide)]
      refine kx_go 1 (pc' := 56) (L' := [(2, .inl (Int32.ofNat it)), (0, .inr (.inr (.inl (some 127)))), (1, .inl (Int32.ofNat 1))]) (S' := [.inl (Int32.ofInt (-1))]) (h' := (kr_H (kj h it) c n (kp_nx t n (kp_start t n p)) (kp_kd t n (kp_start t n p)) (kp_start t n p))) (by with_unfolding_all rfl) ?_
      exact kc_ret_ok rfl (rv := some (.inl (Int32.ofInt (-1)))) rfl (hok [] (by unfold kp_its; rw [if_pos e0]) _ _ _ hnx.2 hkd hst.2)
    · have hit : it < 60 := by
        have : ¬ n ≤ kp_start t n p := fun q => e0 (if_pos q)
        omega
      rw [if_pos (by unfold kc_cnd; rw [kx_ti (by omega)]; simp only [Bool.not_eq_true', decide_eq_false_iff_not]; omega)]
      refine kx_go 2 (pc' := 59) (L' := [(2, .inl (Int32.ofNat it)), (0, .inr (.inr (.inl (some 127)))), (1, .inl (Int32.ofNat 1))]) (S' := [.inl (Int32.ofNat 1), .inr (.inr (.inl (some 127)))]) (h' := (kr_H (kj h it) c n (kp_nx t n (kp_start t n p)) (kp_kd t n (kp_start t n p)) (kp_start t n p))) (by with_unfolding_all rfl) ?_
      refine kc_call_rule (M2 := wk_m174) (av := [.inr (.inr (.inl (some 127))), .inl (Int32.ofNat 1)]) (r := []) rfl rfl (kr_itemx1 (d := d) hg hc1 hc2 hc3 hn hb hit ht (hrw it hit) hnx.1 hnx.2 hkd) (fun rv h' hq => ?_)
      unfold kr_Qix at hq
      cases hi : kp_item t n 7 9 (kp_nx t n (kp_start t n p)) (kp_kd t n (kp_start t n p)) (kp_start t n p) with
      | none =>
        rw [hi] at hq
        obtain ⟨h2, p2, k2, s2, rfl, hb2, rfl, hT⟩ := hq
        show kc_Ev g (d + 7) wk_m61 Q 62 [(2, .inl (Int32.ofNat it)), (0, .inr (.inr (.inl (some 127)))), (1, .inl (Int32.ofNat 1))] [.inl (Int32.ofNat s2)] (kr_H (kj h2 it) c n p2 k2 s2)
        refine kx_go 4 (pc' := (if kc_cnd .eq (Int32.ofNat s2).toInt (Int32.ofInt (-1)).toInt then 70 else 68)) (L' := [(3, .inl (Int32.ofNat s2)), (2, .inl (Int32.ofNat it)), (0, .inr (.inr (.inl (some 127)))), (1, .inl (Int32.ofNat 1))]) (S' := []) (h' := (kr_H (kj h2 it) c n p2 k2 s2)) (by with_unfolding_all rfl) ?_
        rw [if_neg (kx_nm1 (by omega))]
        refine kx_go 1 (pc' := 69) (L' := [(3, .inl (Int32.ofNat s2)), (2, .inl (Int32.ofNat it)), (0, .inr (.inr (.inl (some 127)))), (1, .inl (Int32.ofNat 1))]) (S' := [.inl (Int32.ofNat s2)]) (h' := (kr_H (kj h2 it) c n p2 k2 s2)) (by with_unfolding_all rfl) ?_
        exact kc_ret_ok rfl (rv := some (.inl (Int32.ofNat s2))) rfl (hbad (by unfold kp_its; rw [if_neg e0, hi]) h2 it p2 k2 s2 (kr_D_T hit hT) (by omega) ⟨hb2.1, hb2.2.trans (kp_flt0 hi).symm⟩)
      | some q =>
        rw [hi] at hq
        obtain ⟨k2, s2, rfl, hb2, rfl⟩ := hq
        obtain ⟨c1, c2, c3, c4, c5, c6⟩ := kp_item_le (by omega) hnx.1 hnx.2 hi
        show kc_Ev g (d + 7) wk_m61 Q 62 [(2, .inl (Int32.ofNat it)), (0, .inr (.inr (.inl (some 127)))), (1, .inl (Int32.ofNat 1))] [.inl (Int32.ofInt (-1))] (kr_H (kj (kr_w1 h it q.1) (it + 1)) c n q.2 k2 s2)
        refine kx_go 4 (pc' := (if kc_cnd .eq (Int32.ofInt (-1)).toInt (Int32.ofInt (-1)).toInt then 70 else 68)) (L' := [(3, .inl (Int32.ofInt (-1))), (2, .inl (Int32.ofNat it)), (0, .inr (.inr (.inl (some 127)))), (1, .inl (Int32.ofNat 1))]) (S' := []) (h' := (kr_H (kj (kr_w1 h it q.1) (it + 1)) c n q.2 k2 s2)) (by with_unfolding_all rfl) ?_
        rw [if_pos kx_m1]
        refine kx_go 2 (pc' := 38) (L' := [(2, .inl ((Int32.ofNat it) + Int32.ofInt 1)), (3, .inl (Int32.ofInt (-1))), (0, .inr (.inr (.inl (some 127)))), (1, .inl (Int32.ofNat 1))]) (S' := []) (h' := (kr_H (kj (kr_w1 h it q.1) (it + 1)) c n q.2 k2 s2)) (by with_unfolding_all rfl) ?_
        rw [kx_inc]
        have hD := kr_D_w1 (h := h) (q := q.1) hit (by rw [c5]; exact (kr_shl _ (by omega)).2) (by omega) c6
        refine kf_lo (L := [(2, .inl (Int32.ofNat (it + 1))), (0, .inr (.inr (.inl (some 127)))), (1, .inl (Int32.ofNat 1))]) ?_ (ih (it + 1) (kr_w1 h it q.1) q.2 k2 s2 (by omega) (by omega) c2 (fun j hj => (kr_D_n hD (by omega) (by omega)).trans (ht j hj)) (fun j hj => (kr_D_n hD (by omega) (by omega)).trans (hrw j hj)) (fun l hl p2 k3 s3 a1 a2 a3 => ?_) (fun hl h2 it2 p2 k3 s3 hh a1 a2 => ?_))
        · intro q hq
          simp only [List.mem_cons, List.not_mem_nil, or_false] at hq
          rcases hq with rfl | rfl | rfl <;> rfl
        · have := hok (q.1 :: l) (by unfold kp_its; rw [if_neg e0, hi]; simp only; rw [hl]) p2 k3 s3 a1 a2 a3
          rw [show it + 1 + l.length = it + (q.1 :: l).length from by rw [List.length_cons]; omega]
          exact this
        · exact hbad (by unfold kp_its; rw [if_neg e0, hi]; simp only; rw [hl]) h2 it2 p2 k3 s3 (kr_D_tr hD hh) a1 ⟨a2.1, a2.2.trans (kp_flt1 hi).symm⟩
/-- what read leaves behind -/
def kr_Qrx (t : Nat → Nat) (c n m f : Nat) (h : kc_H) : Option kc_V → kc_H → Prop := fun rv h' => match kp_its t n m f 61 0 with
  | some l => ∃ p2 k2 s2 : Nat, rv = some (.inl (Int32.ofInt (-1))) ∧ (p2 ≤ n ∧ k2 < 5 ∧ s2 ≤ n) ∧ h' = kr_H (kj (kr_ws h 0 l) l.length) c n p2 k2 s2
  | none => ∃ (h2 : kc_H) (it2 p2 k2 s2 : Nat), rv = some (.inl (Int32.ofNat s2)) ∧ (kr_D h h2 ∧ it2 ≤ 60 ∧ ((s2 ≤ n ∧ p2 ≤ n ∧ k2 < 5) ∧ s2 = kp_flt t n m f 61 0)) ∧ h' = kr_H (kj h2 it2) c n p2 k2 s2
set_option maxRecDepth 20000 in
theorem kr_readx0 {g : kc_G} {d : Nat} {n k0 s0 : Nat} {t : Nat → Nat} {h : kc_H} (hg : kc_ok g) (hn : n ≤ 240) (hb : ∀ j, j < 240 → t j < 256) (ht : ∀ j, j < 240 → h 29 j = .inl (Int32.ofNat (t j))) (hrw : ∀ i, i < 60 → h 129 i = .inr (.inr (.inl (some (130 + i))))) (a0 : h 127 0 = .inr (.inr (.inl (some 1)))) (a1 : h 1 11 = .inr (.inr (.inl (some 28)))) (a2 : h 28 0 = .inr (.inr (.inl (some 29)))) (a3 : h 1 12 = .inr (.inr (.inl (some 31)))) (a4 : h 31 0 = .inl (Int32.ofNat n)) (a5 : h 127 2 = .inr (.inr (.inl (some 128)))) (a6 : h 127 3 = .inr (.inr (.inl (some 129)))) (a7 : h 127 7 = .inl (Int32.ofNat k0)) (a8 : h 127 8 = .inl (Int32.ofNat s0)) : kc_Con g (d + 8) 61 [.inr (.inr (.inl (some 127))), .inl (Int32.ofNat 0)] h (kr_Qrx t 29 n 9 0 h) := by
  refine kc_Con_new hg (M := wk_m61) rfl rfl rfl (show 2 ≤ 4 by decide) ?_
  refine kx_go 2 (pc' := 2) (L' := [(0, .inr (.inr (.inl (some 127)))), (1, .inl (Int32.ofNat 0))]) (S' := [.inr (.inr (.inl (some 127))), .inr (.inr (.inl (some 127)))]) (h' := h) (by with_unfolding_all rfl) ?_
  refine kx_getf (c := 127) rfl (by decide) a0 ?_
  refine kx_getf (c := 1) rfl (by decide) a1 ?_
  refine kx_go 1 (pc' := 9) (L' := [(0, .inr (.inr (.inl (some 127)))), (1, .inl (Int32.ofNat 0))]) (S' := [.inl (Int32.ofNat 0), .inr (.inr (.inl (some 28))), .inr (.inr (.inl (some 127)))]) (h' := h) (by with_unfolding_all rfl) ?_
  refine kx_aald rfl (c := 28) (j := 0) (m := 2) (t0 := 2) rfl (by decide) (by decide) (by decide) (by decide) a2 ?_
  refine kx_go 3 (pc' := 15) (L' := [(0, .inr (.inr (.inl (some 127)))), (1, .inl (Int32.ofNat 0))]) (S' := [.inr (.inr (.inl (some 127))), .inr (.inr (.inl (some 127)))]) (h' := kc_upd h 127 4 (.inr (.inr (.inl (some 29))))) (by with_unfolding_all rfl) ?_
  refine kx_getf (c := 127) (v := .inr (.inr (.inl (some 1)))) rfl (by decide) ((if_neg (by decide)).trans a0) ?_
  refine kx_getf (c := 1) (v := .inr (.inr (.inl (some 31)))) rfl (by decide) ((if_neg (by decide)).trans a3) ?_
  refine kx_go 1 (pc' := 22) (L' := [(0, .inr (.inr (.inl (some 127)))), (1, .inl (Int32.ofNat 0))]) (S' := [.inl (Int32.ofNat 0), .inr (.inr (.inl (some 31))), .inr (.inr (.inl (some 127)))]) (h' := kc_upd h 127 4 (.inr (.inr (.inl (some 29))))) (by with_unfolding_all rfl) ?_
  refine kx_iald rfl (c := 31) (j := 0) (m := 2) (v := .inl (Int32.ofNat n)) rfl (by decide) (by decide) (by decide) ((if_neg (by decide)).trans a4) ?_
  refine kx_go 1 (pc' := 26) (L' := [(0, .inr (.inr (.inl (some 127)))), (1, .inl (Int32.ofNat 0))]) (S' := []) (h' := kc_upd (kc_upd h 127 4 (.inr (.inr (.inl (some 29))))) 127 5 (.inl (Int32.ofNat n))) (by with_unfolding_all rfl) ?_
  refine kx_go 8 (pc' := 38) (L' := [(2, .inl (Int32.ofNat 0)), (0, .inr (.inr (.inl (some 127)))), (1, .inl (Int32.ofNat 0))]) (S' := []) (h' := kc_upd (kc_upd (kc_upd (kc_upd h 127 4 (.inr (.inr (.inl (some 29))))) 127 5 (.inl (Int32.ofNat n))) 127 6 (.inl (Int32.ofNat 0))) 127 1 (.inl (Int32.ofNat 0))) (by with_unfolding_all rfl) ?_
  rw [kr_beg a5 a6 a7 a8]
  refine kr_rdlx0 (d := d) hg rfl (by decide) (by decide) hn hb 61 0 h 0 k0 s0 rfl (by omega) (by omega) ht hrw (fun l hl p2 k2 s2 b1 b2 b3 => ?_) (fun hl h2 it2 p2 k2 s2 b1 b2 b3 => ?_)
  · unfold kr_Qrx
    rw [hl]
    rw [Nat.zero_add]
    exact ⟨p2, k2, s2, rfl, ⟨b1, b2, b3⟩, rfl⟩
  · unfold kr_Qrx
    rw [hl]
    exact ⟨h2, it2, p2, k2, s2, rfl, ⟨b1, b2, b3⟩, rfl⟩
set_option maxRecDepth 20000 in
theorem kr_readx1 {g : kc_G} {d : Nat} {n k0 s0 : Nat} {t : Nat → Nat} {h : kc_H} (hg : kc_ok g) (hn : n ≤ 240) (hb : ∀ j, j < 240 → t j < 256) (ht : ∀ j, j < 240 → h 30 j = .inl (Int32.ofNat (t j))) (hrw : ∀ i, i < 60 → h 129 i = .inr (.inr (.inl (some (130 + i))))) (a0 : h 127 0 = .inr (.inr (.inl (some 1)))) (a1 : h 1 11 = .inr (.inr (.inl (some 28)))) (a2 : h 28 1 = .inr (.inr (.inl (some 30)))) (a3 : h 1 12 = .inr (.inr (.inl (some 31)))) (a4 : h 31 1 = .inl (Int32.ofNat n)) (a5 : h 127 2 = .inr (.inr (.inl (some 128)))) (a6 : h 127 3 = .inr (.inr (.inl (some 129)))) (a7 : h 127 7 = .inl (Int32.ofNat k0)) (a8 : h 127 8 = .inl (Int32.ofNat s0)) : kc_Con g (d + 8) 61 [.inr (.inr (.inl (some 127))), .inl (Int32.ofNat 1)] h (kr_Qrx t 30 n 7 9 h) := by
  refine kc_Con_new hg (M := wk_m61) rfl rfl rfl (show 2 ≤ 4 by decide) ?_
  refine kx_go 2 (pc' := 2) (L' := [(0, .inr (.inr (.inl (some 127)))), (1, .inl (Int32.ofNat 1))]) (S' := [.inr (.inr (.inl (some 127))), .inr (.inr (.inl (some 127)))]) (h' := h) (by with_unfolding_all rfl) ?_
  refine kx_getf (c := 127) rfl (by decide) a0 ?_
  refine kx_getf (c := 1) rfl (by decide) a1 ?_
  refine kx_go 1 (pc' := 9) (L' := [(0, .inr (.inr (.inl (some 127)))), (1, .inl (Int32.ofNat 1))]) (S' := [.inl (Int32.ofNat 1), .inr (.inr (.inl (some 28))), .inr (.inr (.inl (some 127)))]) (h' := h) (by with_unfolding_all rfl) ?_
  refine kx_aald rfl (c := 28) (j := 1) (m := 2) (t0 := 2) rfl (by decide) (by decide) (by decide) (by decide) a2 ?_
  refine kx_go 3 (pc' := 15) (L' := [(0, .inr (.inr (.inl (some 127)))), (1, .inl (Int32.ofNat 1))]) (S' := [.inr (.inr (.inl (some 127))), .inr (.inr (.inl (some 127)))]) (h' := kc_upd h 127 4 (.inr (.inr (.inl (some 30))))) (by with_unfolding_all rfl) ?_
  refine kx_getf (c := 127) (v := .inr (.inr (.inl (some 1)))) rfl (by decide) ((if_neg (by decide)).trans a0) ?_
  refine kx_getf (c := 1) (v := .inr (.inr (.inl (some 31)))) rfl (by decide) ((if_neg (by decide)).trans a3) ?_
  refine kx_go 1 (pc' := 22) (L' := [(0, .inr (.inr (.inl (some 127)))), (1, .inl (Int32.ofNat 1))]) (S' := [.inl (Int32.ofNat 1), .inr (.inr (.inl (some 31))), .inr (.inr (.inl (some 127)))]) (h' := kc_upd h 127 4 (.inr (.inr (.inl (some 30))))) (by with_unfolding_all rfl) ?_
  refine kx_iald rfl (c := 31) (j := 1) (m := 2) (v := .inl (Int32.ofNat n)) rfl (by decide) (by decide) (by decide) ((if_neg (by decide)).trans a4) ?_
  refine kx_go 1 (pc' := 26) (L' := [(0, .inr (.inr (.inl (some 127)))), (1, .inl (Int32.ofNat 1))]) (S' := []) (h' := kc_upd (kc_upd h 127 4 (.inr (.inr (.inl (some 30))))) 127 5 (.inl (Int32.ofNat n))) (by with_unfolding_all rfl) ?_
  refine kx_go 8 (pc' := 38) (L' := [(2, .inl (Int32.ofNat 0)), (0, .inr (.inr (.inl (some 127)))), (1, .inl (Int32.ofNat 1))]) (S' := []) (h' := kc_upd (kc_upd (kc_upd (kc_upd h 127 4 (.inr (.inr (.inl (some 30))))) 127 5 (.inl (Int32.ofNat n))) 127 6 (.inl (Int32.ofNat 0))) 127 1 (.inl (Int32.ofNat 0))) (by with_unfolding_all rfl) ?_
  rw [kr_beg a5 a6 a7 a8]
  refine kr_rdlx1 (d := d) hg rfl (by decide) (by decide) hn hb 61 0 h 0 k0 s0 rfl (by omega) (by omega) ht hrw (fun l hl p2 k2 s2 b1 b2 b3 => ?_) (fun hl h2 it2 p2 k2 s2 b1 b2 b3 => ?_)
  · unfold kr_Qrx
    rw [hl]
    rw [Nat.zero_add]
    exact ⟨p2, k2, s2, rfl, ⟨b1, b2, b3⟩, rfl⟩
  · unfold kr_Qrx
    rw [hl]
    exact ⟨h2, it2, p2, k2, s2, rfl, ⟨b1, b2, b3⟩, rfl⟩
theorem kr_Qrx_w {t : Nat → Nat} {c n m f : Nat} {h : kc_H} {rv : Option kc_V} {h' : kc_H} (hq : kr_Qrx t c n m f h rv h') : kr_Qr t c n m f h rv h' := by
  unfold kr_Qrx at hq
  unfold kr_Qr
  revert hq
  cases kp_its t n m f 61 0 with
  | some l => exact fun hq => hq
  | none =>
    intro hq
    obtain ⟨h2, it2, p2, k2, s2, e1, ⟨e2, e3, e4, -⟩, e5⟩ := hq
    exact ⟨h2, it2, p2, k2, s2, e1, ⟨e2, e3, e4⟩, e5⟩
