section
-- 99.zpz3
/-! ===== the acts: run ===== -/
def fa_do (B : Nat → Int32) (Z : Nat → Nat) : Nat → Nat
  | 0 => 0
  | l + 1 => fa_do B Z l + (if Z (10 + l) = fa_n B (80 + 7 * l + 3) then 1 else 0)
theorem fa_do_le {B : Nat → Int32} {Z : Nat → Nat} : ∀ l, fa_do B Z l ≤ l
  | 0 => Nat.le_refl 0
  | l + 1 => by
    have := fa_do_le (B := B) (Z := Z) l
    show fa_do B Z l + (if Z (10 + l) = fa_n B (80 + 7 * l + 3) then 1 else 0) ≤ l + 1
    split <;> omega
theorem fa_do1 {B : Nat → Int32} {Z : Nat → Nat} {l : Nat} (h : Z (10 + l) = fa_n B (80 + 7 * l + 3)) : fa_do B Z (l + 1) = fa_do B Z l + 1 := by
  show fa_do B Z l + (if Z (10 + l) = fa_n B (80 + 7 * l + 3) then 1 else 0) = _
  rw [if_pos h]
theorem fa_do0 {B : Nat → Int32} {Z : Nat → Nat} {l : Nat} (h : ¬ Z (10 + l) = fa_n B (80 + 7 * l + 3)) : fa_do B Z (l + 1) = fa_do B Z l := by
  show fa_do B Z l + (if Z (10 + l) = fa_n B (80 + 7 * l + 3) then 1 else 0) = _
  rw [if_neg h, Nat.add_zero]
def fa_rv (B : Nat → Int32) (Z : Nat → Nat) (L k : Nat) : Nat := if k = 0 then Z 0 else if k = 1 then Z 1 else if k = 2 then Z 2 else if k = 3 then Z 3 else if k = 4 then Z 4 else fa_do B Z L
def fa_rn (t : Nat → Nat) (n : Nat) (B : Nat → Int32) (D M L : Nat) (a : Int32) : Int32 := if fu_in a 0 5 = true then (match fa_Z t n B D M L with
  | none => Int32.ofInt (-3)
  | some Z => Int32.ofNat (fa_rv B Z L a.toInt.toNat)) else Int32.ofInt (-2)
set_option maxRecDepth 20000 in
theorem fa_c76l {g : kc_G} {d : Nat} {h : kc_H} {B : Nat → Int32} {Z : Nat → Nat} {D M L : Nat} (hg : kc_ok g) (hBB : fa_BB B D M L) (hw : kd_wt kd_ty h) (hC : fu_C B 1 h) (hI : fa_I B Z L 60) (hA : fa_C Z L h) : ∀ u l : Nat, L - l = u → l ≤ L → kc_Ev g d wk_m76 (fun rv h' => rv = some (.inl (Int32.ofNat (fa_do B Z L))) ∧ h' = h) 4 [(2, .inl (Int32.ofNat l)), (1, .inl (Int32.ofNat (fa_do B Z l))), (0, .inr (.inr (.inl (some 190))))] [] h := by
  have hZ5 := hI.2.2.2.2.2.1
  obtain ⟨hB, ⟨eD, hD⟩, ⟨eM, hM⟩, eL, hL⟩ := id hBB
  intro u
  induction u with
  | zero =>
    intro l hu hl
    have dl := fa_do_le (B := B) (Z := Z) l
    refine kx_go 2 (pc' := 6) (L' := [(2, .inl (Int32.ofNat l)), (1, .inl (Int32.ofNat (fa_do B Z l))), (0, .inr (.inr (.inl (some 190))))]) (S' := [.inr (.inr (.inl (some 190))), .inl (Int32.ofNat l)]) (h' := h) (by with_unfolding_all rfl) ?_
    refine kx_getf (c := 190) (v := .inr (.inr (.inl (some 1)))) rfl (by decide) (kx_ofr (hw _ _ _ fa_k.1)) ?_
    refine kx_getf (c := 1) (v := .inl (Int32.ofNat L)) rfl (by decide) ((fu_C0 hC).2.2.1.trans (by rw [eL])) ?_
    refine kx_go 1 (pc' := (if kc_cnd .ge (Int32.ofNat l).toInt (Int32.ofNat L).toInt then 44 else 15)) (L' := [(2, .inl (Int32.ofNat l)), (1, .inl (Int32.ofNat (fa_do B Z l))), (0, .inr (.inr (.inl (some 190))))]) (S' := []) (h' := h) (by with_unfolding_all rfl) ?_
    have el : l = L := by omega
    rw [if_pos ((kx_ge (by omega) (by omega)).mpr (show L ≤ l by omega)), el]
    refine kx_go 1 (pc' := 45) (L' := [(2, .inl (Int32.ofNat L)), (1, .inl (Int32.ofNat (fa_do B Z L))), (0, .inr (.inr (.inl (some 190))))]) (S' := [.inl (Int32.ofNat (fa_do B Z L))]) (h' := h) (by with_unfolding_all rfl) ?_
    exact kc_ret_ok rfl (rv := some (.inl (Int32.ofNat (fa_do B Z L)))) rfl ⟨rfl, rfl⟩
  | succ u ih =>
    intro l hu hl
    have dl := fa_do_le (B := B) (Z := Z) l
    refine kx_go 2 (pc' := 6) (L' := [(2, .inl (Int32.ofNat l)), (1, .inl (Int32.ofNat (fa_do B Z l))), (0, .inr (.inr (.inl (some 190))))]) (S' := [.inr (.inr (.inl (some 190))), .inl (Int32.ofNat l)]) (h' := h) (by with_unfolding_all rfl) ?_
    refine kx_getf (c := 190) (v := .inr (.inr (.inl (some 1)))) rfl (by decide) (kx_ofr (hw _ _ _ fa_k.1)) ?_
    refine kx_getf (c := 1) (v := .inl (Int32.ofNat L)) rfl (by decide) ((fu_C0 hC).2.2.1.trans (by rw [eL])) ?_
    refine kx_go 1 (pc' := (if kc_cnd .ge (Int32.ofNat l).toInt (Int32.ofNat L).toInt then 44 else 15)) (L' := [(2, .inl (Int32.ofNat l)), (1, .inl (Int32.ofNat (fa_do B Z l))), (0, .inr (.inr (.inl (some 190))))]) (S' := []) (h' := h) (by with_unfolding_all rfl) ?_
    rw [if_neg (mt (kx_ge (by omega) (by omega)).mp (show ¬ L ≤ l by omega))]
    have z10 := hZ5 l (by omega)
    have t10 := (fa_nl (e := 3) hB (show l < 10 by omega) (by decide) (by decide) (fa_tl l (by omega)).2.2.2.1).2
    refine kx_go 1 (pc' := 16) (L' := [(2, .inl (Int32.ofNat l)), (1, .inl (Int32.ofNat (fa_do B Z l))), (0, .inr (.inr (.inl (some 190))))]) (S' := [.inr (.inr (.inl (some 190)))]) (h' := h) (by with_unfolding_all rfl) ?_
    refine kx_getf (c := 190) (v := .inr (.inr (.inl (some 191)))) rfl (by decide) (kx_ofr (hw _ _ _ fa_k.2.2.1)) ?_
    refine kx_go 1 (pc' := 20) (L' := [(2, .inl (Int32.ofNat l)), (1, .inl (Int32.ofNat (fa_do B Z l))), (0, .inr (.inr (.inl (some 190))))]) (S' := [.inl (Int32.ofNat l), .inr (.inr (.inl (some 191)))]) (h' := h) (by with_unfolding_all rfl) ?_
    refine kx_iald (c := 191) (j := l) (m := 10) (v := .inl (Int32.ofNat (Z (10 + l)))) rfl rfl (by decide) (by decide) (by omega) (hA.2.1 l (by omega)) ?_
    refine kx_go 1 (pc' := 22) (L' := [(2, .inl (Int32.ofNat l)), (1, .inl (Int32.ofNat (fa_do B Z l))), (0, .inr (.inr (.inl (some 190))))]) (S' := [.inr (.inr (.inl (some 190))), .inl (Int32.ofNat (Z (10 + l)))]) (h' := h) (by with_unfolding_all rfl) ?_
    refine kx_getf (c := 190) (v := .inr (.inr (.inl (some 1)))) rfl (by decide) (kx_ofr (hw _ _ _ fa_k.1)) ?_
    refine kx_getf (c := 1) (v := .inr (.inr (.inl (some 15)))) rfl (by decide) (kx_ofr (hw _ _ _ fu_kr.2.2.2.2.1)) ?_
    refine kx_go 1 (pc' := 29) (L' := [(2, .inl (Int32.ofNat l)), (1, .inl (Int32.ofNat (fa_do B Z l))), (0, .inr (.inr (.inl (some 190))))]) (S' := [.inl (Int32.ofNat l), .inr (.inr (.inl (some 15))), .inl (Int32.ofNat (Z (10 + l)))]) (h' := h) (by with_unfolding_all rfl) ?_
    refine kx_aald rfl (c := 15) (j := l) (m := 10) (t0 := 2) (v := .inr (.inr (.inl (some (1 + (15 + l)))))) rfl (by decide) (by decide) (by decide) (by omega) (kx_ofr (hw _ _ _ (fu_slo l (by omega)).2)) ?_
    refine kx_go 1 (pc' := 31) (L' := [(2, .inl (Int32.ofNat l)), (1, .inl (Int32.ofNat (fa_do B Z l))), (0, .inr (.inr (.inl (some 190))))]) (S' := [.inl (Int32.ofNat 3), .inr (.inr (.inl (some (1 + (15 + l))))), .inl (Int32.ofNat (Z (10 + l)))]) (h' := h) (by with_unfolding_all rfl) ?_
    refine kx_iald (c := 1 + (15 + l)) (j := 3) (m := 7) (v := .inl (Int32.ofNat (fa_n B (80 + 7 * l + 3)))) rfl (fu_slo l (by omega)).1.1 (fu_slo l (by omega)).1.2 (by decide) (by decide) ((fu_Cj (c := 15 + l) (i := 3) hC (by omega) (((fu_flo l (by omega)).1 3 (by decide)).2.2 (by decide)) ((fu_flo l (by omega)).1 3 (by decide)).1).trans (by rw [(fa_nl (e := 3) hB (show l < 10 by omega) (by decide) (by decide) (fa_tl l (by omega)).2.2.2.1).1])) ?_
    refine kx_go 1 (pc' := (if kc_cnd .ne (Int32.ofNat (Z (10 + l))).toInt (Int32.ofNat (fa_n B (80 + 7 * l + 3))).toInt then 38 else 35)) (L' := [(2, .inl (Int32.ofNat l)), (1, .inl (Int32.ofNat (fa_do B Z l))), (0, .inr (.inr (.inl (some 190))))]) (S' := []) (h' := h) (by with_unfolding_all rfl) ?_
    by_cases e : Z (10 + l) = fa_n B (80 + 7 * l + 3)
    · rw [if_neg (fun q => (kx_ne (by omega) (by omega)).mp q e)]
      refine kx_go 3 (pc' := 4) (L' := [(2, .inl ((Int32.ofNat l) + Int32.ofInt 1)), (1, .inl ((Int32.ofNat (fa_do B Z l)) + Int32.ofInt 1)), (0, .inr (.inr (.inl (some 190))))]) (S' := []) (h' := h) (by with_unfolding_all rfl) ?_
      rw [kx_inc]
      rw [kx_inc]
      have k := ih (l + 1) (by omega) (by omega)
      rw [fa_do1 e] at k
      refine kf_lo (L := [(2, .inl (Int32.ofNat (l + 1))), (1, .inl (Int32.ofNat (fa_do B Z l + 1))), (0, .inr (.inr (.inl (some 190))))]) (by intro q hq; simp only [List.mem_cons, List.not_mem_nil, or_false] at hq; rcases hq with rfl | rfl | rfl <;> rfl) ?_
      exact k
    · rw [if_pos ((kx_ne (by omega) (by omega)).mpr e)]
      refine kx_go 2 (pc' := 4) (L' := [(2, .inl ((Int32.ofNat l) + Int32.ofInt 1)), (1, .inl (Int32.ofNat (fa_do B Z l))), (0, .inr (.inr (.inl (some 190))))]) (S' := []) (h' := h) (by with_unfolding_all rfl) ?_
      rw [kx_inc]
      have k := ih (l + 1) (by omega) (by omega)
      rw [fa_do0 e] at k
      refine kf_lo (L := [(2, .inl (Int32.ofNat (l + 1))), (1, .inl (Int32.ofNat (fa_do B Z l))), (0, .inr (.inr (.inl (some 190))))]) (by intro q hq; simp only [List.mem_cons, List.not_mem_nil, or_false] at hq; rcases hq with rfl | rfl | rfl <;> rfl) ?_
      exact k
set_option maxRecDepth 20000 in
theorem fa_c76 {g : kc_G} {d : Nat} {h : kc_H} {B : Nat → Int32} {Z : Nat → Nat} {D M L : Nat} (hg : kc_ok g) (hBB : fa_BB B D M L) (hw : kd_wt kd_ty h) (hC : fu_C B 1 h) (hI : fa_I B Z L 60) (hA : fa_C Z L h) : kc_Con g (d + 1) 76 [.inr (.inr (.inl (some 190)))] h (fun rv h' => rv = some (.inl (Int32.ofNat (fa_do B Z L))) ∧ h' = h) := by
  refine kc_Con_new hg (M := wk_m76) rfl rfl rfl (show 1 ≤ 3 by decide) ?_
  refine kx_go 4 (pc' := 4) (L' := [(2, .inl (Int32.ofNat 0)), (1, .inl (Int32.ofNat 0)), (0, .inr (.inr (.inl (some 190))))]) (S' := []) (h' := h) (by with_unfolding_all rfl) ?_
  refine kf_lo (L := [(2, .inl (Int32.ofNat 0)), (1, .inl (Int32.ofNat (fa_do B Z 0))), (0, .inr (.inr (.inl (some 190))))]) (by intro q hq; simp only [List.mem_cons, List.not_mem_nil, or_false] at hq; rcases hq with rfl | rfl | rfl <;> rfl) ?_
  exact fa_c76l hg hBB hw hC hI hA L 0 rfl (Nat.zero_le _)
set_option maxRecDepth 20000 in
theorem fa_r79l {g : kc_G} {d : Nat} {h : kc_H} {B : Nat → Int32} {Z : Nat → Nat} {D M L : Nat} (hg : kc_ok g) (hBB : fa_BB B D M L) (hw : kd_wt kd_ty h) (hC : fu_B B h) (hI : fa_I B Z L 60) (hA : fa_R Z L h) : ∀ u l : Nat, L - l = u → l ≤ L → kc_Ev g (d + 2) wk_m79 (fun rv h' => rv = some (.inl (Int32.ofNat (fa_do B Z L))) ∧ h' = h) 4 [(2, .inl (Int32.ofNat l)), (1, .inl (Int32.ofNat (fa_do B Z l))), (0, .inr (.inr (.inl (some 259))))] [] h := by
  have hZ5 := hI.2.2.2.2.2.1
  obtain ⟨hB, ⟨eD, hD⟩, ⟨eM, hM⟩, eL, hL⟩ := id hBB
  intro u
  induction u with
  | zero =>
    intro l hu hl
    have dl := fa_do_le (B := B) (Z := Z) l
    refine kx_go 2 (pc' := 6) (L' := [(2, .inl (Int32.ofNat l)), (1, .inl (Int32.ofNat (fa_do B Z l))), (0, .inr (.inr (.inl (some 259))))]) (S' := [.inr (.inr (.inl (some 259))), .inl (Int32.ofNat l)]) (h' := h) (by with_unfolding_all rfl) ?_
    refine kx_getf (c := 259) (v := .inr (.inr (.inl (some 260)))) rfl (by decide) (kx_ofr (hw _ _ _ kz_k.1)) ?_
    refine kx_go 1 (pc' := 10) (L' := [(2, .inl (Int32.ofNat l)), (1, .inl (Int32.ofNat (fa_do B Z l))), (0, .inr (.inr (.inl (some 259))))]) (S' := [.inl (Int32.ofNat 2), .inr (.inr (.inl (some 260))), .inl (Int32.ofNat l)]) (h' := h) (by with_unfolding_all rfl) ?_
    refine kx_iald (c := 260) (j := 2) (m := 650) (v := .inl (Int32.ofNat L)) rfl rfl (by decide) (by decide) (by decide) ((hC 2 (by decide) (by decide)).trans (by rw [eL])) ?_
    refine kx_go 1 (pc' := (if kc_cnd .ge (Int32.ofNat l).toInt (Int32.ofNat L).toInt then 43 else 14)) (L' := [(2, .inl (Int32.ofNat l)), (1, .inl (Int32.ofNat (fa_do B Z l))), (0, .inr (.inr (.inl (some 259))))]) (S' := []) (h' := h) (by with_unfolding_all rfl) ?_
    have el : l = L := by omega
    rw [if_pos ((kx_ge (by omega) (by omega)).mpr (show L ≤ l by omega)), el]
    refine kx_go 1 (pc' := 44) (L' := [(2, .inl (Int32.ofNat L)), (1, .inl (Int32.ofNat (fa_do B Z L))), (0, .inr (.inr (.inl (some 259))))]) (S' := [.inl (Int32.ofNat (fa_do B Z L))]) (h' := h) (by with_unfolding_all rfl) ?_
    exact kc_ret_ok rfl (rv := some (.inl (Int32.ofNat (fa_do B Z L)))) rfl ⟨rfl, rfl⟩
  | succ u ih =>
    intro l hu hl
    have dl := fa_do_le (B := B) (Z := Z) l
    refine kx_go 2 (pc' := 6) (L' := [(2, .inl (Int32.ofNat l)), (1, .inl (Int32.ofNat (fa_do B Z l))), (0, .inr (.inr (.inl (some 259))))]) (S' := [.inr (.inr (.inl (some 259))), .inl (Int32.ofNat l)]) (h' := h) (by with_unfolding_all rfl) ?_
    refine kx_getf (c := 259) (v := .inr (.inr (.inl (some 260)))) rfl (by decide) (kx_ofr (hw _ _ _ kz_k.1)) ?_
    refine kx_go 1 (pc' := 10) (L' := [(2, .inl (Int32.ofNat l)), (1, .inl (Int32.ofNat (fa_do B Z l))), (0, .inr (.inr (.inl (some 259))))]) (S' := [.inl (Int32.ofNat 2), .inr (.inr (.inl (some 260))), .inl (Int32.ofNat l)]) (h' := h) (by with_unfolding_all rfl) ?_
    refine kx_iald (c := 260) (j := 2) (m := 650) (v := .inl (Int32.ofNat L)) rfl rfl (by decide) (by decide) (by decide) ((hC 2 (by decide) (by decide)).trans (by rw [eL])) ?_
    refine kx_go 1 (pc' := (if kc_cnd .ge (Int32.ofNat l).toInt (Int32.ofNat L).toInt then 43 else 14)) (L' := [(2, .inl (Int32.ofNat l)), (1, .inl (Int32.ofNat (fa_do B Z l))), (0, .inr (.inr (.inl (some 259))))]) (S' := []) (h' := h) (by with_unfolding_all rfl) ?_
    rw [if_neg (mt (kx_ge (by omega) (by omega)).mp (show ¬ L ≤ l by omega))]
    have z10 := hZ5 l (by omega)
    have t10 := (fa_nl (e := 3) hB (show l < 10 by omega) (by decide) (by decide) (fa_tl l (by omega)).2.2.2.1).2
    refine kx_go 2 (pc' := 16) (L' := [(2, .inl (Int32.ofNat l)), (1, .inl (Int32.ofNat (fa_do B Z l))), (0, .inr (.inr (.inl (some 259))))]) (S' := [.inr (.inr (.inl (some 259))), .inl (Int32.ofNat (fa_do B Z l))]) (h' := h) (by with_unfolding_all rfl) ?_
    refine kx_getf (c := 259) (v := .inr (.inr (.inl (some 266)))) rfl (by decide) (kx_ofr (hw _ _ _ fa_kr.1)) ?_
    refine kx_go 1 (pc' := 20) (L' := [(2, .inl (Int32.ofNat l)), (1, .inl (Int32.ofNat (fa_do B Z l))), (0, .inr (.inr (.inl (some 259))))]) (S' := [.inl (Int32.ofNat l), .inr (.inr (.inl (some 266))), .inl (Int32.ofNat (fa_do B Z l))]) (h' := h) (by with_unfolding_all rfl) ?_
    refine kx_iald (c := 266) (j := l) (m := 10) (v := .inl (Int32.ofNat (Z (10 + l)))) rfl rfl (by decide) (by decide) (by omega) (hA.2.1 l (by omega)) ?_
    refine kx_go 3 (pc' := 24) (L' := [(2, .inl (Int32.ofNat l)), (1, .inl (Int32.ofNat (fa_do B Z l))), (0, .inr (.inr (.inl (some 259))))]) (S' := [.inl (Int32.ofNat 3), .inl (Int32.ofNat l), .inr (.inr (.inl (some 259))), .inl (Int32.ofNat (Z (10 + l))), .inl (Int32.ofNat (fa_do B Z l))]) (h' := h) (by with_unfolding_all rfl) ?_
    refine kc_call_rule (M2 := wk_m237) (av := [.inr (.inr (.inl (some 259))), .inl (Int32.ofNat l), .inl (Int32.ofNat 3)]) (r := [.inl (Int32.ofNat (Z (10 + l))), .inl (Int32.ofNat (fa_do B Z l))]) rfl rfl (kc_Con_le (fh_r237 (d := 0) hg hw hC (show l < 10 by omega) (show 3 < 6 by decide)) (by omega)) (fun rv h2 hq => ?_)
    obtain ⟨rfl, e9⟩ := hq
    rw [e9]
    clear e9
    show kc_Ev g (d + 2) wk_m79 _ 27 [(2, .inl (Int32.ofNat l)), (1, .inl (Int32.ofNat (fa_do B Z l))), (0, .inr (.inr (.inl (some 259))))] [.inl (B (80 + 7 * l + 3)), .inl (Int32.ofNat (Z (10 + l))), .inl (Int32.ofNat (fa_do B Z l))] h
    rw [(fa_nl (e := 3) hB (show l < 10 by omega) (by decide) (by decide) (fa_tl l (by omega)).2.2.2.1).1]
    refine kx_go 1 (pc' := (if kc_cnd .ne (Int32.ofNat (Z (10 + l))).toInt (Int32.ofNat (fa_n B (80 + 7 * l + 3))).toInt then 34 else 30)) (L' := [(2, .inl (Int32.ofNat l)), (1, .inl (Int32.ofNat (fa_do B Z l))), (0, .inr (.inr (.inl (some 259))))]) (S' := [.inl (Int32.ofNat (fa_do B Z l))]) (h' := h) (by with_unfolding_all rfl) ?_
    by_cases e : Z (10 + l) = fa_n B (80 + 7 * l + 3)
    · rw [if_neg (fun q => (kx_ne (by omega) (by omega)).mp q e)]
      refine kx_go 6 (pc' := 4) (L' := [(2, .inl ((Int32.ofNat l) + Int32.ofInt 1)), (1, .inl ((Int32.ofNat (fa_do B Z l)) + (Int32.ofNat 1))), (0, .inr (.inr (.inl (some 259))))]) (S' := []) (h' := h) (by with_unfolding_all rfl) ?_
      rw [kx_add]
      rw [kx_inc]
      have k := ih (l + 1) (by omega) (by omega)
      rw [fa_do1 e] at k
      refine kf_lo (L := [(2, .inl (Int32.ofNat (l + 1))), (1, .inl (Int32.ofNat (fa_do B Z l + 1))), (0, .inr (.inr (.inl (some 259))))]) (by intro q hq; simp only [List.mem_cons, List.not_mem_nil, or_false] at hq; rcases hq with rfl | rfl | rfl <;> rfl) ?_
      exact k
    · rw [if_pos ((kx_ne (by omega) (by omega)).mpr e)]
      refine kx_go 5 (pc' := 4) (L' := [(2, .inl ((Int32.ofNat l) + Int32.ofInt 1)), (1, .inl ((Int32.ofNat (fa_do B Z l)) + (Int32.ofNat 0))), (0, .inr (.inr (.inl (some 259))))]) (S' := []) (h' := h) (by with_unfolding_all rfl) ?_
      rw [kx_add, Nat.add_zero, kx_inc]
      have k := ih (l + 1) (by omega) (by omega)
      rw [fa_do0 e] at k
      refine kf_lo (L := [(2, .inl (Int32.ofNat (l + 1))), (1, .inl (Int32.ofNat (fa_do B Z l))), (0, .inr (.inr (.inl (some 259))))]) (by intro q hq; simp only [List.mem_cons, List.not_mem_nil, or_false] at hq; rcases hq with rfl | rfl | rfl <;> rfl) ?_
      exact k
set_option maxRecDepth 20000 in
theorem fa_r79 {g : kc_G} {d : Nat} {h : kc_H} {B : Nat → Int32} {Z : Nat → Nat} {D M L : Nat} (hg : kc_ok g) (hBB : fa_BB B D M L) (hw : kd_wt kd_ty h) (hC : fu_B B h) (hI : fa_I B Z L 60) (hA : fa_R Z L h) : kc_Con g (d + 3) 79 [.inr (.inr (.inl (some 259)))] h (fun rv h' => rv = some (.inl (Int32.ofNat (fa_do B Z L))) ∧ h' = h) := by
  refine kc_Con_new hg (M := wk_m79) rfl rfl rfl (show 1 ≤ 3 by decide) ?_
  refine kx_go 4 (pc' := 4) (L' := [(2, .inl (Int32.ofNat 0)), (1, .inl (Int32.ofNat 0)), (0, .inr (.inr (.inl (some 259))))]) (S' := []) (h' := h) (by with_unfolding_all rfl) ?_
  refine kf_lo (L := [(2, .inl (Int32.ofNat 0)), (1, .inl (Int32.ofNat (fa_do B Z 0))), (0, .inr (.inr (.inl (some 259))))]) (by intro q hq; simp only [List.mem_cons, List.not_mem_nil, or_false] at hq; rcases hq with rfl | rfl | rfl <;> rfl) ?_
  exact fa_r79l hg hBB hw hC hI hA L 0 rfl (Nat.zero_le _)
set_option maxRecDepth 20000 in
theorem fa_c72 {g : kc_G} {d : Nat} {h : kc_H} {t : Nat → Nat} {n : Nat} {B : Nat → Int32} {D M L : Nat} {a : Int32} (hg : kc_ok g) (hBB : fa_BB B D M L) (hw : kd_wt kd_ty h) (hC : fu_C B 1 h) (hn : n ≤ 240) (hb : ∀ j, j < 240 → t j < 256) (ht : ∀ j, j < 240 → h 30 j = .inl (Int32.ofNat (t j))) (hnt : h 31 1 = .inl (Int32.ofNat n)) : kc_Con g (d + 16) 72 [.inr (.inr (.inl (some 0))), .inl a] h (fun rv h' => rv = some (.inl (fa_rn t n B D M L a)) ∧ kd_wt kd_ty h' ∧ (∀ c x, ¬ (127 ≤ c ∧ c ≤ 203) → h' c x = h c x)) := by
  obtain ⟨hB, ⟨eD, hD⟩, ⟨eM, hM⟩, eL, hL⟩ := id hBB
  have z2 : (B 2).toInt - 1 = (L : Int) - 1 := by rw [eL, kx_ti (by omega)]
  unfold fa_rn
  refine kc_Con_new hg (M := wk_m72) rfl rfl rfl (show 2 ≤ 2 by decide) ?_
  refine kx_go 3 (pc' := 3) (L' := [(0, .inr (.inr (.inl (some 0)))), (1, .inl (a))]) (S' := [.inl (Int32.ofNat 5), .inl (Int32.ofNat 0), .inl (a)]) (h' := h) (by with_unfolding_all rfl) ?_
  refine kc_call_rule (M2 := wk_m19) (av := [.inl (a), .inl (Int32.ofNat 0), .inl (Int32.ofNat 5)]) (r := []) rfl rfl (kc_Con_le (fu_bt (d := 0) (lo := 0) (hi := 5) hg rfl rfl) (by omega)) (fun rv h2 hq => ?_)
  obtain ⟨rfl, e9⟩ := hq
  rw [e9]
  clear e9
  show kc_Ev g (d + 15) wk_m72 _ 6 [(0, .inr (.inr (.inl (some 0)))), (1, .inl (a))] [.inl (kp_b (fu_in a 0 5))] h
  refine kx_go 1 (pc' := (if kc_cnd .ne (kp_b (fu_in a 0 5)).toInt 0 then 12 else 9)) (L' := [(0, .inr (.inr (.inl (some 0)))), (1, .inl (a))]) (S' := []) (h' := h) (by with_unfolding_all rfl) ?_
  cases e : fu_in a 0 5 with
  | false =>
    rw [if_neg (show ¬ (kc_cnd .ne (kp_b false).toInt 0 = true) from fun q => by have := kx_b1.mp q; cases this)]
    refine kx_go 1 (pc' := 11) (L' := [(0, .inr (.inr (.inl (some 0)))), (1, .inl (a))]) (S' := [.inl (Int32.ofInt (-2))]) (h' := h) (by with_unfolding_all rfl) ?_
    exact kc_ret_ok rfl (rv := some (.inl (Int32.ofInt (-2)))) rfl ⟨rfl, hw, fun _ _ _ => rfl⟩
  | true =>
    rw [if_pos (kx_b1.mpr rfl)]
    obtain ⟨l, hl9, rfl, -, -⟩ := fu_in_n (u := 5) e (Int.le_refl 0) (by omega)
    have ea : (Int32.ofNat l).toInt.toNat = l := by rw [kx_ti (by omega), Int.toNat_natCast]
    rw [ea]
    refine kx_go 1 (pc' := 13) (L' := [(0, .inr (.inr (.inl (some 0)))), (1, .inl (Int32.ofNat l))]) (S' := [.inr (.inr (.inl (some 0)))]) (h' := h) (by with_unfolding_all rfl) ?_
    refine kx_getf (c := 0) (v := .inr (.inr (.inl (some 190)))) rfl (by decide) (kx_ofr (hw _ _ _ fa_k05)) ?_
    refine kc_call_rule (M2 := wk_m73) (av := [.inr (.inr (.inl (some 190)))]) (r := []) rfl rfl (kc_Con_le (fa_c73 (d := 0) (n := n) (t := t) hg hBB hw hC hn hb ht hnt) (by omega)) (fun rv g2 hq => ?_)
    obtain ⟨w2, f2, hq⟩ := hq
    cases hz : fa_Z t n B D M L with
    | none =>
      rw [hz] at hq
      have hq2 : rv = some (.inl (Int32.ofNat 0)) := hq
      subst hq2
      show kc_Ev g (d + 15) wk_m72 _ 19 [(0, .inr (.inr (.inl (some 0)))), (1, .inl (Int32.ofNat l))] [.inl (Int32.ofNat 0)] g2
      refine kx_go 1 (pc' := 22) (L' := [(0, .inr (.inr (.inl (some 0)))), (1, .inl (Int32.ofNat l))]) (S' := []) (h' := g2) (by with_unfolding_all rfl) ?_
      refine kx_go 1 (pc' := 24) (L' := [(0, .inr (.inr (.inl (some 0)))), (1, .inl (Int32.ofNat l))]) (S' := [.inl (Int32.ofInt (-3))]) (h' := g2) (by with_unfolding_all rfl) ?_
      exact kc_ret_ok rfl (rv := some (.inl (Int32.ofInt (-3)))) rfl ⟨rfl, w2, f2⟩
    | some Z =>
      rw [hz] at hq
      have hq2 : rv = some (.inl (Int32.ofNat 1)) ∧ fa_C Z L g2 ∧ fa_W B Z L g2 := hq
      obtain ⟨rfl, hA, -⟩ := hq2
      have hI := fa_Z_I hn hBB hz
      show kc_Ev g (d + 15) wk_m72 _ 19 [(0, .inr (.inr (.inl (some 0)))), (1, .inl (Int32.ofNat l))] [.inl (Int32.ofNat 1)] g2
      refine kx_go 1 (pc' := 25) (L' := [(0, .inr (.inr (.inl (some 0)))), (1, .inl (Int32.ofNat l))]) (S' := []) (h' := g2) (by with_unfolding_all rfl) ?_
      have hC2 : fu_C B 1 g2 := fun j hj htl => (f2 _ _ (by have := (fu_qp hj (fu_te htl)).2.1; omega)).trans (hC j hj htl)
      rcases (show l = 0 ∨ l = 1 ∨ l = 2 ∨ l = 3 ∨ l = 4 ∨ l = 5 by omega) with rfl | rfl | rfl | rfl | rfl | rfl
      · skip
        refine kx_go 2 (pc' := 60) (L' := [(0, .inr (.inr (.inl (some 0)))), (1, .inl (Int32.ofNat 0))]) (S' := []) (h' := g2) (by with_unfolding_all rfl) ?_
        refine kx_go 1 (pc' := 61) (L' := [(0, .inr (.inr (.inl (some 0)))), (1, .inl (Int32.ofNat 0))]) (S' := [.inr (.inr (.inl (some 0)))]) (h' := g2) (by with_unfolding_all rfl) ?_
        refine kx_getf (c := 0) (v := .inr (.inr (.inl (some 190)))) rfl (by decide) (kx_ofr (w2 _ _ _ fa_k05)) ?_
        refine kx_getf (c := 190) (v := .inl (Int32.ofNat (Z 0))) rfl (by decide) hA.1.1 ?_
        exact kc_ret_ok rfl (rv := some (.inl (Int32.ofNat (Z 0)))) rfl ⟨rfl, w2, f2⟩
      · skip
        refine kx_go 2 (pc' := 68) (L' := [(0, .inr (.inr (.inl (some 0)))), (1, .inl (Int32.ofNat 1))]) (S' := []) (h' := g2) (by with_unfolding_all rfl) ?_
        refine kx_go 1 (pc' := 69) (L' := [(0, .inr (.inr (.inl (some 0)))), (1, .inl (Int32.ofNat 1))]) (S' := [.inr (.inr (.inl (some 0)))]) (h' := g2) (by with_unfolding_all rfl) ?_
        refine kx_getf (c := 0) (v := .inr (.inr (.inl (some 190)))) rfl (by decide) (kx_ofr (w2 _ _ _ fa_k05)) ?_
        refine kx_getf (c := 190) (v := .inl (Int32.ofNat (Z 1))) rfl (by decide) hA.1.2.1 ?_
        exact kc_ret_ok rfl (rv := some (.inl (Int32.ofNat (Z 1)))) rfl ⟨rfl, w2, f2⟩
      · skip
        refine kx_go 2 (pc' := 76) (L' := [(0, .inr (.inr (.inl (some 0)))), (1, .inl (Int32.ofNat 2))]) (S' := []) (h' := g2) (by with_unfolding_all rfl) ?_
        refine kx_go 1 (pc' := 77) (L' := [(0, .inr (.inr (.inl (some 0)))), (1, .inl (Int32.ofNat 2))]) (S' := [.inr (.inr (.inl (some 0)))]) (h' := g2) (by with_unfolding_all rfl) ?_
        refine kx_getf (c := 0) (v := .inr (.inr (.inl (some 190)))) rfl (by decide) (kx_ofr (w2 _ _ _ fa_k05)) ?_
        refine kx_getf (c := 190) (v := .inl (Int32.ofNat (Z 2))) rfl (by decide) hA.1.2.2.1 ?_
        exact kc_ret_ok rfl (rv := some (.inl (Int32.ofNat (Z 2)))) rfl ⟨rfl, w2, f2⟩
      · skip
        refine kx_go 2 (pc' := 84) (L' := [(0, .inr (.inr (.inl (some 0)))), (1, .inl (Int32.ofNat 3))]) (S' := []) (h' := g2) (by with_unfolding_all rfl) ?_
        refine kx_go 1 (pc' := 85) (L' := [(0, .inr (.inr (.inl (some 0)))), (1, .inl (Int32.ofNat 3))]) (S' := [.inr (.inr (.inl (some 0)))]) (h' := g2) (by with_unfolding_all rfl) ?_
        refine kx_getf (c := 0) (v := .inr (.inr (.inl (some 190)))) rfl (by decide) (kx_ofr (w2 _ _ _ fa_k05)) ?_
        refine kx_getf (c := 190) (v := .inl (Int32.ofNat (Z 3))) rfl (by decide) hA.1.2.2.2.1 ?_
        exact kc_ret_ok rfl (rv := some (.inl (Int32.ofNat (Z 3)))) rfl ⟨rfl, w2, f2⟩
      · skip
        refine kx_go 2 (pc' := 92) (L' := [(0, .inr (.inr (.inl (some 0)))), (1, .inl (Int32.ofNat 4))]) (S' := []) (h' := g2) (by with_unfolding_all rfl) ?_
        refine kx_go 1 (pc' := 93) (L' := [(0, .inr (.inr (.inl (some 0)))), (1, .inl (Int32.ofNat 4))]) (S' := [.inr (.inr (.inl (some 0)))]) (h' := g2) (by with_unfolding_all rfl) ?_
        refine kx_getf (c := 0) (v := .inr (.inr (.inl (some 190)))) rfl (by decide) (kx_ofr (w2 _ _ _ fa_k05)) ?_
        refine kx_getf (c := 190) (v := .inl (Int32.ofNat (Z 4))) rfl (by decide) hA.1.2.2.2.2.1 ?_
        exact kc_ret_ok rfl (rv := some (.inl (Int32.ofNat (Z 4)))) rfl ⟨rfl, w2, f2⟩
      · skip
        refine kx_go 2 (pc' := 100) (L' := [(0, .inr (.inr (.inl (some 0)))), (1, .inl (Int32.ofNat 5))]) (S' := []) (h' := g2) (by with_unfolding_all rfl) ?_
        refine kx_go 1 (pc' := 101) (L' := [(0, .inr (.inr (.inl (some 0)))), (1, .inl (Int32.ofNat 5))]) (S' := [.inr (.inr (.inl (some 0)))]) (h' := g2) (by with_unfolding_all rfl) ?_
        refine kx_getf (c := 0) (v := .inr (.inr (.inl (some 190)))) rfl (by decide) (kx_ofr (w2 _ _ _ fa_k05)) ?_
        refine kc_call_rule (M2 := wk_m76) (av := [.inr (.inr (.inl (some 190)))]) (r := []) rfl rfl (kc_Con_le (fa_c76 (d := 0) hg hBB w2 hC2 hI hA) (by omega)) (fun rv h2 hq => ?_)
        obtain ⟨rfl, e9⟩ := hq
        rw [e9]
        clear e9
        show kc_Ev g (d + 15) wk_m72 _ 107 [(0, .inr (.inr (.inl (some 0)))), (1, .inl (Int32.ofNat 5))] [.inl (Int32.ofNat (fa_do B Z L))] g2
        exact kc_ret_ok rfl (rv := some (.inl (Int32.ofNat (fa_do B Z L)))) rfl ⟨rfl, w2, f2⟩
set_option maxRecDepth 20000 in
theorem fa_r77 {g : kc_G} {d : Nat} {h : kc_H} {t : Nat → Nat} {n : Nat} {B : Nat → Int32} {D M L : Nat} {a : Int32} (hg : kc_ok g) (hBB : fa_BB B D M L) (hw : kd_wt kd_ty h) (hC : fu_B B h) (hn : n ≤ 240) (hb : ∀ j, j < 240 → t j < 256) (hnt : h 260 (160 + 1) = .inl (Int32.ofNat n)) (ht : ∀ j, j < 240 → h 260 (170 + 240 * 1 + j) = .inl (Int32.ofNat (t j))) : kc_Con g (d + 16) 77 [.inr (.inr (.inl (some 259))), .inl a] h (fun rv h' => rv = some (.inl (fa_rn t n B D M L a)) ∧ kd_wt kd_ty h' ∧ (∀ c x, ¬ (264 ≤ c ∧ c ≤ 271) → ¬ (c = 259 ∧ 6 ≤ x ∧ x ≤ 25) → h' c x = h c x)) := by
  obtain ⟨hB, ⟨eD, hD⟩, ⟨eM, hM⟩, eL, hL⟩ := id hBB
  have z2 : (B 2).toInt - 1 = (L : Int) - 1 := by rw [eL, kx_ti (by omega)]
  unfold fa_rn
  refine kc_Con_new hg (M := wk_m77) rfl rfl rfl (show 2 ≤ 2 by decide) ?_
  refine kx_go 4 (pc' := 6) (L' := [(0, .inr (.inr (.inl (some 259)))), (1, .inl (a))]) (S' := [.inr (.inl (Int64.ofNat 5)), .inr (.inl (Int64.ofNat 0)), .inr (.inl (a.toInt64))]) (h' := h) (by with_unfolding_all rfl) ?_
  refine kc_call_rule (M2 := wk_m22) (av := [.inr (.inl (a.toInt64)), .inr (.inl (Int64.ofNat 0)), .inr (.inl (Int64.ofNat 5))]) (r := []) rfl rfl (kc_Con_le (fu_li (d := 0) (lo := 0) (hi := 5) hg rfl rfl) (by omega)) (fun rv h2 hq => ?_)
  obtain ⟨rfl, e9⟩ := hq
  rw [e9]
  clear e9
  show kc_Ev g (d + 15) wk_m77 _ 9 [(0, .inr (.inr (.inl (some 259)))), (1, .inl (a))] [.inl (kp_b (fu_in a 0 5))] h
  refine kx_go 1 (pc' := (if kc_cnd .ne (kp_b (fu_in a 0 5)).toInt 0 then 15 else 12)) (L' := [(0, .inr (.inr (.inl (some 259)))), (1, .inl (a))]) (S' := []) (h' := h) (by with_unfolding_all rfl) ?_
  cases e : fu_in a 0 5 with
  | false =>
    rw [if_neg (show ¬ (kc_cnd .ne (kp_b false).toInt 0 = true) from fun q => by have := kx_b1.mp q; cases this)]
    refine kx_go 1 (pc' := 14) (L' := [(0, .inr (.inr (.inl (some 259)))), (1, .inl (a))]) (S' := [.inl (Int32.ofInt (-2))]) (h' := h) (by with_unfolding_all rfl) ?_
    exact kc_ret_ok rfl (rv := some (.inl (Int32.ofInt (-2)))) rfl ⟨rfl, hw, fun _ _ _ _ => rfl⟩
  | true =>
    rw [if_pos (kx_b1.mpr rfl)]
    obtain ⟨l, hl9, rfl, -, -⟩ := fu_in_n (u := 5) e (Int.le_refl 0) (by omega)
    have ea : (Int32.ofNat l).toInt.toNat = l := by rw [kx_ti (by omega), Int.toNat_natCast]
    rw [ea]
    refine kx_go 1 (pc' := 16) (L' := [(0, .inr (.inr (.inl (some 259)))), (1, .inl (Int32.ofNat l))]) (S' := [.inr (.inr (.inl (some 259)))]) (h' := h) (by with_unfolding_all rfl) ?_
    refine kc_call_rule (M2 := wk_m78) (av := [.inr (.inr (.inl (some 259)))]) (r := []) rfl rfl (kc_Con_le (fa_r78 (d := 0) (n := n) (t := t) hg hBB hw hC hn hb hnt ht) (by omega)) (fun rv g2 hq => ?_)
    obtain ⟨w2, f2, hq⟩ := hq
    cases hz : fa_Z t n B D M L with
    | none =>
      rw [hz] at hq
      have hq2 : rv = some (.inl (Int32.ofNat 0)) := hq
      subst hq2
      show kc_Ev g (d + 15) wk_m77 _ 19 [(0, .inr (.inr (.inl (some 259)))), (1, .inl (Int32.ofNat l))] [.inl (Int32.ofNat 0)] g2
      refine kx_go 1 (pc' := 22) (L' := [(0, .inr (.inr (.inl (some 259)))), (1, .inl (Int32.ofNat l))]) (S' := []) (h' := g2) (by with_unfolding_all rfl) ?_
      refine kx_go 1 (pc' := 24) (L' := [(0, .inr (.inr (.inl (some 259)))), (1, .inl (Int32.ofNat l))]) (S' := [.inl (Int32.ofInt (-3))]) (h' := g2) (by with_unfolding_all rfl) ?_
      exact kc_ret_ok rfl (rv := some (.inl (Int32.ofInt (-3)))) rfl ⟨rfl, w2, f2⟩
    | some Z =>
      rw [hz] at hq
      have hq2 : rv = some (.inl (Int32.ofNat 1)) ∧ fa_R Z L g2 := hq
      obtain ⟨rfl, hA⟩ := hq2
      have hI := fa_Z_I hn hBB hz
      show kc_Ev g (d + 15) wk_m77 _ 19 [(0, .inr (.inr (.inl (some 259)))), (1, .inl (Int32.ofNat l))] [.inl (Int32.ofNat 1)] g2
      refine kx_go 1 (pc' := 25) (L' := [(0, .inr (.inr (.inl (some 259)))), (1, .inl (Int32.ofNat l))]) (S' := []) (h' := g2) (by with_unfolding_all rfl) ?_
      have hC2 : fu_B B g2 := fun j hj htl => (f2 _ _ (by omega) (by omega)).trans (hC j hj htl)
      rcases (show l = 0 ∨ l = 1 ∨ l = 2 ∨ l = 3 ∨ l = 4 ∨ l = 5 by omega) with rfl | rfl | rfl | rfl | rfl | rfl
      · skip
        refine kx_go 2 (pc' := 29) (L' := [(0, .inr (.inr (.inl (some 259)))), (1, .inl (Int32.ofNat 0))]) (S' := []) (h' := g2) (by with_unfolding_all rfl) ?_
        refine kx_go 1 (pc' := 30) (L' := [(0, .inr (.inr (.inl (some 259)))), (1, .inl (Int32.ofNat 0))]) (S' := [.inr (.inr (.inl (some 259)))]) (h' := g2) (by with_unfolding_all rfl) ?_
        refine kx_getf (c := 259) (v := .inl (Int32.ofNat (Z 0))) rfl (by decide) hA.1.1 ?_
        refine kx_go 1 (pc' := 88) (L' := [(0, .inr (.inr (.inl (some 259)))), (1, .inl (Int32.ofNat 0))]) (S' := [.inl (Int32.ofNat (Z 0))]) (h' := g2) (by with_unfolding_all rfl) ?_
        exact kc_ret_ok rfl (rv := some (.inl (Int32.ofNat (Z 0)))) rfl ⟨rfl, w2, f2⟩
      · skip
        refine kx_go 5 (pc' := 41) (L' := [(0, .inr (.inr (.inl (some 259)))), (1, .inl (Int32.ofNat 1))]) (S' := []) (h' := g2) (by with_unfolding_all rfl) ?_
        refine kx_go 1 (pc' := 42) (L' := [(0, .inr (.inr (.inl (some 259)))), (1, .inl (Int32.ofNat 1))]) (S' := [.inr (.inr (.inl (some 259)))]) (h' := g2) (by with_unfolding_all rfl) ?_
        refine kx_getf (c := 259) (v := .inl (Int32.ofNat (Z 1))) rfl (by decide) hA.1.2.1 ?_
        refine kx_go 1 (pc' := 88) (L' := [(0, .inr (.inr (.inl (some 259)))), (1, .inl (Int32.ofNat 1))]) (S' := [.inl (Int32.ofNat (Z 1))]) (h' := g2) (by with_unfolding_all rfl) ?_
        exact kc_ret_ok rfl (rv := some (.inl (Int32.ofNat (Z 1)))) rfl ⟨rfl, w2, f2⟩
      · skip
        refine kx_go 8 (pc' := 53) (L' := [(0, .inr (.inr (.inl (some 259)))), (1, .inl (Int32.ofNat 2))]) (S' := []) (h' := g2) (by with_unfolding_all rfl) ?_
        refine kx_go 1 (pc' := 54) (L' := [(0, .inr (.inr (.inl (some 259)))), (1, .inl (Int32.ofNat 2))]) (S' := [.inr (.inr (.inl (some 259)))]) (h' := g2) (by with_unfolding_all rfl) ?_
        refine kx_getf (c := 259) (v := .inl (Int32.ofNat (Z 2))) rfl (by decide) hA.1.2.2.1 ?_
        refine kx_go 1 (pc' := 88) (L' := [(0, .inr (.inr (.inl (some 259)))), (1, .inl (Int32.ofNat 2))]) (S' := [.inl (Int32.ofNat (Z 2))]) (h' := g2) (by with_unfolding_all rfl) ?_
        exact kc_ret_ok rfl (rv := some (.inl (Int32.ofNat (Z 2)))) rfl ⟨rfl, w2, f2⟩
      · skip
        refine kx_go 11 (pc' := 65) (L' := [(0, .inr (.inr (.inl (some 259)))), (1, .inl (Int32.ofNat 3))]) (S' := []) (h' := g2) (by with_unfolding_all rfl) ?_
        refine kx_go 1 (pc' := 66) (L' := [(0, .inr (.inr (.inl (some 259)))), (1, .inl (Int32.ofNat 3))]) (S' := [.inr (.inr (.inl (some 259)))]) (h' := g2) (by with_unfolding_all rfl) ?_
        refine kx_getf (c := 259) (v := .inl (Int32.ofNat (Z 3))) rfl (by decide) hA.1.2.2.2.1 ?_
        refine kx_go 1 (pc' := 88) (L' := [(0, .inr (.inr (.inl (some 259)))), (1, .inl (Int32.ofNat 3))]) (S' := [.inl (Int32.ofNat (Z 3))]) (h' := g2) (by with_unfolding_all rfl) ?_
        exact kc_ret_ok rfl (rv := some (.inl (Int32.ofNat (Z 3)))) rfl ⟨rfl, w2, f2⟩
      · skip
        refine kx_go 14 (pc' := 77) (L' := [(0, .inr (.inr (.inl (some 259)))), (1, .inl (Int32.ofNat 4))]) (S' := []) (h' := g2) (by with_unfolding_all rfl) ?_
        refine kx_go 1 (pc' := 78) (L' := [(0, .inr (.inr (.inl (some 259)))), (1, .inl (Int32.ofNat 4))]) (S' := [.inr (.inr (.inl (some 259)))]) (h' := g2) (by with_unfolding_all rfl) ?_
        refine kx_getf (c := 259) (v := .inl (Int32.ofNat (Z 4))) rfl (by decide) hA.1.2.2.2.2.1 ?_
        refine kx_go 1 (pc' := 88) (L' := [(0, .inr (.inr (.inl (some 259)))), (1, .inl (Int32.ofNat 4))]) (S' := [.inl (Int32.ofNat (Z 4))]) (h' := g2) (by with_unfolding_all rfl) ?_
        exact kc_ret_ok rfl (rv := some (.inl (Int32.ofNat (Z 4)))) rfl ⟨rfl, w2, f2⟩
      · skip
        refine kx_go 14 (pc' := 84) (L' := [(0, .inr (.inr (.inl (some 259)))), (1, .inl (Int32.ofNat 5))]) (S' := []) (h' := g2) (by with_unfolding_all rfl) ?_
        refine kx_go 1 (pc' := 85) (L' := [(0, .inr (.inr (.inl (some 259)))), (1, .inl (Int32.ofNat 5))]) (S' := [.inr (.inr (.inl (some 259)))]) (h' := g2) (by with_unfolding_all rfl) ?_
        refine kc_call_rule (M2 := wk_m79) (av := [.inr (.inr (.inl (some 259)))]) (r := []) rfl rfl (kc_Con_le (fa_r79 (d := 0) hg hBB w2 hC2 hI hA) (by omega)) (fun rv h2 hq => ?_)
        obtain ⟨rfl, e9⟩ := hq
        rw [e9]
        clear e9
        show kc_Ev g (d + 15) wk_m77 _ 88 [(0, .inr (.inr (.inl (some 259)))), (1, .inl (Int32.ofNat 5))] [.inl (Int32.ofNat (fa_do B Z L))] g2
        exact kc_ret_ok rfl (rv := some (.inl (Int32.ofNat (fa_do B Z L)))) rfl ⟨rfl, w2, f2⟩
theorem fU_Xrun {g : kc_G} {h : kc_H} {a : Int32} (hg : kc_ok g) (hI : fu_I h) : kc_Con g 30 72 [.inr (.inr (.inl (some 0))), .inl a] h (fun rv h1 => ∃ z : Int32, rv = some (.inl z) ∧ kc_Con g 30 77 [.inr (.inr (.inl (some 259))), .inl a] h1 (fun rv2 h2 => rv2 = some (.inl z) ∧ fu_I h2)) := by
  obtain ⟨B, hC, hR⟩ := hI.2.1
  have hB := fu_C_T hI.1 hC
  obtain ⟨D, M, L, hBB⟩ := fa_BBx hB
  obtain ⟨n, t, n1, tb, h30, h31, en, et⟩ := fa_tx hB hC
  refine kc_Con_mono (kc_Con_le (fa_c72 (d := 0) (n := n) (t := t) hg hBB hI.1 hC n1 tb h30 h31) (by decide)) (fun rv h1 hq => ?_)
  obtain ⟨rfl, w1, f1⟩ := hq
  have R1 : fu_B B h1 := fun j hj ht => (f1 260 j (by omega)).trans (hR j hj ht)
  refine ⟨_, rfl, kc_Con_mono (kc_Con_le (fa_r77 (d := 0) (n := n) (t := t) hg hBB w1 R1 n1 tb ((R1 (160 + 1) (by decide) (by decide)).trans (by rw [en])) (fun j hj => (R1 (170 + 240 * 1 + j) (by omega) (fu_ftx 1 (by decide) j hj).2.1).trans (by rw [et j hj]))) (by decide)) (fun rv2 h2 hq => ?_)⟩
  obtain ⟨rfl, w2, f2⟩ := hq
  exact ⟨rfl, fa_keep hI w2 (fun c x q1 q2 q3 => (f2 c x q2 (fun q => q3 q.1)).trans (f1 c x q1))⟩
end
section
-- 99.zpz4
/-! ===== the acts: side ===== -/
def fa_sv (B : Nat → Int32) (Z : Nat → Nat) (s k : Nat) : Int32 := if k = 0 then Int32.ofNat (fa_bw B Z s) else if k = 1 then Int32.ofNat (Z (20 + s)) else if k = 2 then fa_tp Z s else Int32.ofNat (Z (30 + s))
def fa_sd (t : Nat → Nat) (n : Nat) (B : Nat → Int32) (D M L : Nat) (a b c : Int32) : Int32 := if (fu_in a 0 ((B 1).toInt - 1) && fu_in b 0 1) = true then (if fu_in c 0 3 = true then (match fa_Z t n B D M L with
  | none => Int32.ofInt (-20)
  | some Z => fa_sv B Z (2 * a.toInt.toNat + b.toInt.toNat) c.toInt.toNat) else Int32.ofInt (-10)) else Int32.ofInt (-10)
set_option maxRecDepth 20000 in
theorem fa_r82g {g : kc_G} {d : Nat} {h : kc_H} {B : Nat → Int32} {a b : Int32} (hg : kc_ok g) (hw : kd_wt kd_ty h) (hC : fu_B B h) (hB : fu_BT B) : kc_Con g (d + 3) 82 [.inr (.inr (.inl (some 259))), .inl a, .inl b] h (fun rv h' => rv = some (.inl (kp_b (fu_in a 0 ((B 1).toInt - 1) && fu_in b 0 1))) ∧ h' = h) := by
  refine kc_Con_new hg (M := wk_m82) rfl rfl rfl (show 3 ≤ 3 by decide) ?_
  refine kx_go 2 (pc' := 2) (L' := [(0, .inr (.inr (.inl (some 259)))), (1, .inl (a)), (2, .inl (b))]) (S' := [.inl (a), .inr (.inr (.inl (some 259)))]) (h' := h) (by with_unfolding_all rfl) ?_
  refine kc_call_rule (M2 := wk_m40) (av := [.inr (.inr (.inl (some 259))), .inl (a)]) (r := []) rfl rfl (kc_Con_le (fu_r40 (d := 0) hg hw hC hB) (by omega)) (fun rv h2 hq => ?_)
  obtain ⟨rfl, e9⟩ := hq
  rw [e9]
  clear e9
  show kc_Ev g (d + 2) wk_m82 _ 5 [(0, .inr (.inr (.inl (some 259)))), (1, .inl (a)), (2, .inl (b))] [.inl (kp_b (fu_in a 0 ((B 1).toInt - 1)))] h
  refine kx_go 1 (pc' := (if kc_cnd .eq (kp_b (fu_in a 0 ((B 1).toInt - 1))).toInt 0 then 19 else 8)) (L' := [(0, .inr (.inr (.inl (some 259)))), (1, .inl (a)), (2, .inl (b))]) (S' := []) (h' := h) (by with_unfolding_all rfl) ?_
  cases e : fu_in a 0 ((B 1).toInt - 1) with
  | false =>
    rw [if_pos (kx_b0.mpr rfl)]
    refine kx_go 1 (pc' := 20) (L' := [(0, .inr (.inr (.inl (some 259)))), (1, .inl (a)), (2, .inl (b))]) (S' := [.inl (Int32.ofNat 0)]) (h' := h) (by with_unfolding_all rfl) ?_
    exact kc_ret_ok rfl (rv := some (.inl (Int32.ofNat 0))) rfl ⟨rfl, rfl⟩
  | true =>
    rw [if_neg (show ¬ (kc_cnd .eq (kp_b true).toInt 0 = true) from fun q => by have := kx_b0.mp q; cases this)]
    refine kx_go 1 (pc' := 9) (L' := [(0, .inr (.inr (.inl (some 259)))), (1, .inl (a)), (2, .inl (b))]) (S' := [.inl (b)]) (h' := h) (by with_unfolding_all rfl) ?_
    refine kc_call_rule (M2 := wk_m231) (av := [.inl (b)]) (r := []) rfl rfl (kc_Con_le (fu_r231 (d := 0) hg) (by omega)) (fun rv h2 hq => ?_)
    obtain ⟨rfl, e9⟩ := hq
    rw [e9]
    clear e9
    show kc_Ev g (d + 2) wk_m82 _ 12 [(0, .inr (.inr (.inl (some 259)))), (1, .inl (a)), (2, .inl (b))] [.inl (kp_b (fu_in b 0 1))] h
    refine kx_go 1 (pc' := (if kc_cnd .eq (kp_b (fu_in b 0 1)).toInt 0 then 19 else 15)) (L' := [(0, .inr (.inr (.inl (some 259)))), (1, .inl (a)), (2, .inl (b))]) (S' := []) (h' := h) (by with_unfolding_all rfl) ?_
    cases e2 : fu_in b 0 1 with
    | false =>
      rw [if_pos (kx_b0.mpr rfl)]
      refine kx_go 1 (pc' := 20) (L' := [(0, .inr (.inr (.inl (some 259)))), (1, .inl (a)), (2, .inl (b))]) (S' := [.inl (Int32.ofNat 0)]) (h' := h) (by with_unfolding_all rfl) ?_
      exact kc_ret_ok rfl (rv := some (.inl (Int32.ofNat 0))) rfl ⟨rfl, rfl⟩
    | true =>
      rw [if_neg (show ¬ (kc_cnd .eq (kp_b true).toInt 0 = true) from fun q => by have := kx_b0.mp q; cases this)]
      refine kx_go 2 (pc' := 20) (L' := [(0, .inr (.inr (.inl (some 259)))), (1, .inl (a)), (2, .inl (b))]) (S' := [.inl (Int32.ofNat 1)]) (h' := h) (by with_unfolding_all rfl) ?_
      exact kc_ret_ok rfl (rv := some (.inl (Int32.ofNat 1))) rfl ⟨rfl, rfl⟩
set_option maxRecDepth 20000 in
theorem fa_c80 {g : kc_G} {d : Nat} {h : kc_H} {t : Nat → Nat} {n : Nat} {B : Nat → Int32} {D M L : Nat} {a b c : Int32} (hg : kc_ok g) (hBB : fa_BB B D M L) (hw : kd_wt kd_ty h) (hC : fu_C B 1 h) (hn : n ≤ 240) (hb : ∀ j, j < 240 → t j < 256) (ht : ∀ j, j < 240 → h 30 j = .inl (Int32.ofNat (t j))) (hnt : h 31 1 = .inl (Int32.ofNat n)) : kc_Con g (d + 16) 80 [.inr (.inr (.inl (some 0))), .inl a, .inl b, .inl c] h (fun rv h' => rv = some (.inl (fa_sd t n B D M L a b c)) ∧ kd_wt kd_ty h' ∧ (∀ c x, ¬ (127 ≤ c ∧ c ≤ 203) → h' c x = h c x)) := by
  obtain ⟨hB, ⟨eD, hD⟩, ⟨eM, hM⟩, eL, hL⟩ := id hBB
  have z2 : (B 2).toInt - 1 = (L : Int) - 1 := by rw [eL, kx_ti (by omega)]
  unfold fa_sd
  have z1 : (B 1).toInt - 1 = (M : Int) - 1 := by rw [eM, kx_ti (by omega)]
  refine kc_Con_new hg (M := wk_m80) rfl rfl rfl (show 4 ≤ 5 by decide) ?_
  refine kx_go 1 (pc' := 1) (L' := [(0, .inr (.inr (.inl (some 0)))), (1, .inl (a)), (2, .inl (b)), (3, .inl (c))]) (S' := [.inr (.inr (.inl (some 0)))]) (h' := h) (by with_unfolding_all rfl) ?_
  refine kx_getf (c := 0) (v := .inr (.inr (.inl (some 1)))) rfl (by decide) (kx_ofr (hw _ _ _ kv_k0.1)) ?_
  refine kx_go 2 (pc' := 6) (L' := [(0, .inr (.inr (.inl (some 0)))), (1, .inl (a)), (2, .inl (b)), (3, .inl (c))]) (S' := [.inl (b), .inl (a), .inr (.inr (.inl (some 1)))]) (h' := h) (by with_unfolding_all rfl) ?_
  refine kc_call_rule (M2 := wk_m37) (av := [.inr (.inr (.inl (some 1))), .inl (a), .inl (b)]) (r := []) rfl rfl (kc_Con_le (fu_c37 (d := 0) hg hC hB) (by omega)) (fun rv h2 hq => ?_)
  obtain ⟨rfl, e9⟩ := hq
  rw [e9]
  clear e9
  show kc_Ev g (d + 15) wk_m80 _ 9 [(0, .inr (.inr (.inl (some 0)))), (1, .inl (a)), (2, .inl (b)), (3, .inl (c))] [.inl (kp_b (fu_in a 0 ((B 1).toInt - 1) && fu_in b 0 1))] h
  refine kx_go 1 (pc' := (if kc_cnd .eq (kp_b (fu_in a 0 ((B 1).toInt - 1) && fu_in b 0 1)).toInt 0 then 21 else 12)) (L' := [(0, .inr (.inr (.inl (some 0)))), (1, .inl (a)), (2, .inl (b)), (3, .inl (c))]) (S' := []) (h' := h) (by with_unfolding_all rfl) ?_
  cases e : (fu_in a 0 ((B 1).toInt - 1) && fu_in b 0 1) with
  | false =>
    rw [if_pos (kx_b0.mpr rfl)]
    refine kx_go 1 (pc' := 23) (L' := [(0, .inr (.inr (.inl (some 0)))), (1, .inl (a)), (2, .inl (b)), (3, .inl (c))]) (S' := [.inl (Int32.ofInt (-10))]) (h' := h) (by with_unfolding_all rfl) ?_
    exact kc_ret_ok rfl (rv := some (.inl (Int32.ofInt (-10)))) rfl ⟨rfl, hw, fun _ _ _ => rfl⟩
  | true =>
    rw [if_neg (show ¬ (kc_cnd .eq (kp_b true).toInt 0 = true) from fun q => by have := kx_b0.mp q; cases this)]
    refine kx_go 3 (pc' := 15) (L' := [(0, .inr (.inr (.inl (some 0)))), (1, .inl (a)), (2, .inl (b)), (3, .inl (c))]) (S' := [.inl (Int32.ofNat 3), .inl (Int32.ofNat 0), .inl (c)]) (h' := h) (by with_unfolding_all rfl) ?_
    refine kc_call_rule (M2 := wk_m19) (av := [.inl (c), .inl (Int32.ofNat 0), .inl (Int32.ofNat 3)]) (r := []) rfl rfl (kc_Con_le (fu_bt (d := 0) (lo := 0) (hi := 3) hg rfl rfl) (by omega)) (fun rv h2 hq => ?_)
    obtain ⟨rfl, e9⟩ := hq
    rw [e9]
    clear e9
    show kc_Ev g (d + 15) wk_m80 _ 18 [(0, .inr (.inr (.inl (some 0)))), (1, .inl (a)), (2, .inl (b)), (3, .inl (c))] [.inl (kp_b (fu_in c 0 3))] h
    refine kx_go 1 (pc' := (if kc_cnd .ne (kp_b (fu_in c 0 3)).toInt 0 then 24 else 21)) (L' := [(0, .inr (.inr (.inl (some 0)))), (1, .inl (a)), (2, .inl (b)), (3, .inl (c))]) (S' := []) (h' := h) (by with_unfolding_all rfl) ?_
    cases e2 : fu_in c 0 3 with
    | false =>
      rw [if_neg (show ¬ (kc_cnd .ne (kp_b false).toInt 0 = true) from fun q => by have := kx_b1.mp q; cases this)]
      refine kx_go 1 (pc' := 23) (L' := [(0, .inr (.inr (.inl (some 0)))), (1, .inl (a)), (2, .inl (b)), (3, .inl (c))]) (S' := [.inl (Int32.ofInt (-10))]) (h' := h) (by with_unfolding_all rfl) ?_
      exact kc_ret_ok rfl (rv := some (.inl (Int32.ofInt (-10)))) rfl ⟨rfl, hw, fun _ _ _ => rfl⟩
    | true =>
      rw [if_pos (kx_b1.mpr rfl)]
      obtain ⟨k, hk9, rfl, -, -⟩ := fu_in_n (u := 3) e2 (Int.le_refl 0) (by omega)
      rw [Bool.and_eq_true] at e
      obtain ⟨x, hx9, rfl, -, hx⟩ := fu_in_n (u := 2) e.1 (Int.le_refl 0) (by omega)
      obtain ⟨y, hy9, rfl, -, -⟩ := fu_in_n (u := 1) e.2 (Int.le_refl 0) (by omega)
      have ek : (Int32.ofNat k).toInt.toNat = k := by rw [kx_ti (by omega), Int.toNat_natCast]
      have ex : (Int32.ofNat x).toInt.toNat = x := by rw [kx_ti (by omega), Int.toNat_natCast]
      have ey : (Int32.ofNat y).toInt.toNat = y := by rw [kx_ti (by omega), Int.toNat_natCast]
      rw [ek, ex, ey]
      refine kx_go 1 (pc' := 25) (L' := [(0, .inr (.inr (.inl (some 0)))), (1, .inl (Int32.ofNat x)), (2, .inl (Int32.ofNat y)), (3, .inl (Int32.ofNat k))]) (S' := [.inr (.inr (.inl (some 0)))]) (h' := h) (by with_unfolding_all rfl) ?_
      refine kx_getf (c := 0) (v := .inr (.inr (.inl (some 190)))) rfl (by decide) (kx_ofr (hw _ _ _ fa_k05)) ?_
      refine kc_call_rule (M2 := wk_m73) (av := [.inr (.inr (.inl (some 190)))]) (r := []) rfl rfl (kc_Con_le (fa_c73 (d := 0) (n := n) (t := t) hg hBB hw hC hn hb ht hnt) (by omega)) (fun rv g2 hq => ?_)
      obtain ⟨w2, f2, hq⟩ := hq
      cases hz : fa_Z t n B D M L with
      | none =>
        rw [hz] at hq
        have hq2 : rv = some (.inl (Int32.ofNat 0)) := hq
        subst hq2
        show kc_Ev g (d + 15) wk_m80 _ 31 [(0, .inr (.inr (.inl (some 0)))), (1, .inl (Int32.ofNat x)), (2, .inl (Int32.ofNat y)), (3, .inl (Int32.ofNat k))] [.inl (Int32.ofNat 0)] g2
        refine kx_go 1 (pc' := 34) (L' := [(0, .inr (.inr (.inl (some 0)))), (1, .inl (Int32.ofNat x)), (2, .inl (Int32.ofNat y)), (3, .inl (Int32.ofNat k))]) (S' := []) (h' := g2) (by with_unfolding_all rfl) ?_
        refine kx_go 1 (pc' := 36) (L' := [(0, .inr (.inr (.inl (some 0)))), (1, .inl (Int32.ofNat x)), (2, .inl (Int32.ofNat y)), (3, .inl (Int32.ofNat k))]) (S' := [.inl (Int32.ofInt (-20))]) (h' := g2) (by with_unfolding_all rfl) ?_
        exact kc_ret_ok rfl (rv := some (.inl (Int32.ofInt (-20)))) rfl ⟨rfl, w2, f2⟩
      | some Z =>
        rw [hz] at hq
        have hq2 : rv = some (.inl (Int32.ofNat 1)) ∧ fa_C Z L g2 ∧ fa_W B Z L g2 := hq
        obtain ⟨rfl, hA, hW⟩ := hq2
        have hI := fa_Z_I hn hBB hz
        have s6 : 2 * x + y < 6 := by omega
        show kc_Ev g (d + 15) wk_m80 _ 31 [(0, .inr (.inr (.inl (some 0)))), (1, .inl (Int32.ofNat x)), (2, .inl (Int32.ofNat y)), (3, .inl (Int32.ofNat k))] [.inl (Int32.ofNat 1)] g2
        refine kx_go 1 (pc' := 37) (L' := [(0, .inr (.inr (.inl (some 0)))), (1, .inl (Int32.ofNat x)), (2, .inl (Int32.ofNat y)), (3, .inl (Int32.ofNat k))]) (S' := []) (h' := g2) (by with_unfolding_all rfl) ?_
        have hC2 : fu_C B 1 g2 := fun j hj htl => (f2 _ _ (by have := (fu_qp hj (fu_te htl)).2.1; omega)).trans (hC j hj htl)
        refine kx_go 6 (pc' := 44) (L' := [(4, .inl (((Int32.ofNat 2) * (Int32.ofNat x)) + (Int32.ofNat y))), (0, .inr (.inr (.inl (some 0)))), (1, .inl (Int32.ofNat x)), (2, .inl (Int32.ofNat y)), (3, .inl (Int32.ofNat k))]) (S' := []) (h' := g2) (by with_unfolding_all rfl) ?_
        rw [kx_mul, kx_add]
        refine kf_lo (L := [(4, .inl (Int32.ofNat (2 * x + y))), (0, .inr (.inr (.inl (some 0)))), (1, .inl (Int32.ofNat x)), (2, .inl (Int32.ofNat y)), (3, .inl (Int32.ofNat k))]) (by intro q hq; simp only [List.mem_cons, List.not_mem_nil, or_false] at hq; rcases hq with rfl | rfl | rfl | rfl | rfl <;> rfl) ?_
        rcases (show k = 0 ∨ k = 1 ∨ k = 2 ∨ k = 3 by omega) with rfl | rfl | rfl | rfl
        · skip
          refine kx_go 2 (pc' := 72) (L' := [(4, .inl (Int32.ofNat (2 * x + y))), (0, .inr (.inr (.inl (some 0)))), (1, .inl (Int32.ofNat x)), (2, .inl (Int32.ofNat y)), (3, .inl (Int32.ofNat 0))]) (S' := []) (h' := g2) (by with_unfolding_all rfl) ?_
          refine kx_go 1 (pc' := 73) (L' := [(4, .inl (Int32.ofNat (2 * x + y))), (0, .inr (.inr (.inl (some 0)))), (1, .inl (Int32.ofNat x)), (2, .inl (Int32.ofNat y)), (3, .inl (Int32.ofNat 0))]) (S' := [.inr (.inr (.inl (some 0)))]) (h' := g2) (by with_unfolding_all rfl) ?_
          refine kx_getf (c := 0) (v := .inr (.inr (.inl (some 190)))) rfl (by decide) (kx_ofr (w2 _ _ _ fa_k05)) ?_
          refine kx_go 1 (pc' := 78) (L' := [(4, .inl (Int32.ofNat (2 * x + y))), (0, .inr (.inr (.inl (some 0)))), (1, .inl (Int32.ofNat x)), (2, .inl (Int32.ofNat y)), (3, .inl (Int32.ofNat 0))]) (S' := [.inl (Int32.ofNat (2 * x + y)), .inr (.inr (.inl (some 190)))]) (h' := g2) (by with_unfolding_all rfl) ?_
          refine kc_call_rule (M2 := wk_m189) (av := [.inr (.inr (.inl (some 190))), .inl (Int32.ofNat (2 * x + y))]) (r := []) rfl rfl (kc_Con_le (fa_c189 (d := 0) hg w2 hC2 hB hL (Nat.le_refl 60) hI hA hW s6) (by omega)) (fun rv h2 hq => ?_)
          obtain ⟨rfl, e9⟩ := hq
          rw [e9]
          clear e9
          show kc_Ev g (d + 15) wk_m80 _ 81 [(4, .inl (Int32.ofNat (2 * x + y))), (0, .inr (.inr (.inl (some 0)))), (1, .inl (Int32.ofNat x)), (2, .inl (Int32.ofNat y)), (3, .inl (Int32.ofNat 0))] [.inl (Int32.ofNat (fa_bw B Z (2 * x + y)))] g2
          exact kc_ret_ok rfl (rv := some (.inl (Int32.ofNat (fa_bw B Z (2 * x + y))))) rfl ⟨rfl, w2, f2⟩
        · skip
          refine kx_go 2 (pc' := 82) (L' := [(4, .inl (Int32.ofNat (2 * x + y))), (0, .inr (.inr (.inl (some 0)))), (1, .inl (Int32.ofNat x)), (2, .inl (Int32.ofNat y)), (3, .inl (Int32.ofNat 1))]) (S' := []) (h' := g2) (by with_unfolding_all rfl) ?_
          refine kx_go 1 (pc' := 83) (L' := [(4, .inl (Int32.ofNat (2 * x + y))), (0, .inr (.inr (.inl (some 0)))), (1, .inl (Int32.ofNat x)), (2, .inl (Int32.ofNat y)), (3, .inl (Int32.ofNat 1))]) (S' := [.inr (.inr (.inl (some 0)))]) (h' := g2) (by with_unfolding_all rfl) ?_
          refine kx_getf (c := 0) (v := .inr (.inr (.inl (some 190)))) rfl (by decide) (kx_ofr (w2 _ _ _ fa_k05)) ?_
          refine kx_getf (c := 190) (v := .inr (.inr (.inl (some 192)))) rfl (by decide) (kx_ofr (w2 _ _ _ fa_k.2.2.2.1)) ?_
          refine kx_go 1 (pc' := 91) (L' := [(4, .inl (Int32.ofNat (2 * x + y))), (0, .inr (.inr (.inl (some 0)))), (1, .inl (Int32.ofNat x)), (2, .inl (Int32.ofNat y)), (3, .inl (Int32.ofNat 1))]) (S' := [.inl (Int32.ofNat (2 * x + y)), .inr (.inr (.inl (some 192)))]) (h' := g2) (by with_unfolding_all rfl) ?_
          refine kx_iald (c := 192) (j := 2 * x + y) (m := 6) (v := .inl (Int32.ofNat (Z (20 + (2 * x + y))))) rfl rfl (by decide) (by decide) (by omega) (hA.2.2.1 _ s6) ?_
          exact kc_ret_ok rfl (rv := some (.inl (Int32.ofNat (Z (20 + (2 * x + y)))))) rfl ⟨rfl, w2, f2⟩
        · skip
          refine kx_go 2 (pc' := 93) (L' := [(4, .inl (Int32.ofNat (2 * x + y))), (0, .inr (.inr (.inl (some 0)))), (1, .inl (Int32.ofNat x)), (2, .inl (Int32.ofNat y)), (3, .inl (Int32.ofNat 2))]) (S' := []) (h' := g2) (by with_unfolding_all rfl) ?_
          refine kx_go 1 (pc' := 94) (L' := [(4, .inl (Int32.ofNat (2 * x + y))), (0, .inr (.inr (.inl (some 0)))), (1, .inl (Int32.ofNat x)), (2, .inl (Int32.ofNat y)), (3, .inl (Int32.ofNat 2))]) (S' := [.inr (.inr (.inl (some 0)))]) (h' := g2) (by with_unfolding_all rfl) ?_
          refine kx_getf (c := 0) (v := .inr (.inr (.inl (some 190)))) rfl (by decide) (kx_ofr (w2 _ _ _ fa_k05)) ?_
          refine kx_go 1 (pc' := 99) (L' := [(4, .inl (Int32.ofNat (2 * x + y))), (0, .inr (.inr (.inl (some 0)))), (1, .inl (Int32.ofNat x)), (2, .inl (Int32.ofNat y)), (3, .inl (Int32.ofNat 2))]) (S' := [.inl (Int32.ofNat (2 * x + y)), .inr (.inr (.inl (some 190)))]) (h' := g2) (by with_unfolding_all rfl) ?_
          refine kc_call_rule (M2 := wk_m187) (av := [.inr (.inr (.inl (some 190))), .inl (Int32.ofNat (2 * x + y))]) (r := []) rfl rfl (kc_Con_le (fa_c187 (d := 0) hg w2 hC2 hB hL (Nat.le_refl 60) hI hA s6) (by omega)) (fun rv h2 hq => ?_)
          obtain ⟨rfl, e9⟩ := hq
          rw [e9]
          clear e9
          show kc_Ev g (d + 15) wk_m80 _ 102 [(4, .inl (Int32.ofNat (2 * x + y))), (0, .inr (.inr (.inl (some 0)))), (1, .inl (Int32.ofNat x)), (2, .inl (Int32.ofNat y)), (3, .inl (Int32.ofNat 2))] [.inl (fa_tp Z (2 * x + y))] g2
          exact kc_ret_ok rfl (rv := some (.inl (fa_tp Z (2 * x + y)))) rfl ⟨rfl, w2, f2⟩
        · skip
          refine kx_go 2 (pc' := 103) (L' := [(4, .inl (Int32.ofNat (2 * x + y))), (0, .inr (.inr (.inl (some 0)))), (1, .inl (Int32.ofNat x)), (2, .inl (Int32.ofNat y)), (3, .inl (Int32.ofNat 3))]) (S' := []) (h' := g2) (by with_unfolding_all rfl) ?_
          refine kx_go 1 (pc' := 104) (L' := [(4, .inl (Int32.ofNat (2 * x + y))), (0, .inr (.inr (.inl (some 0)))), (1, .inl (Int32.ofNat x)), (2, .inl (Int32.ofNat y)), (3, .inl (Int32.ofNat 3))]) (S' := [.inr (.inr (.inl (some 0)))]) (h' := g2) (by with_unfolding_all rfl) ?_
          refine kx_getf (c := 0) (v := .inr (.inr (.inl (some 190)))) rfl (by decide) (kx_ofr (w2 _ _ _ fa_k05)) ?_
          refine kx_getf (c := 190) (v := .inr (.inr (.inl (some 193)))) rfl (by decide) (kx_ofr (w2 _ _ _ fa_k.2.2.2.2.1)) ?_
          refine kx_go 1 (pc' := 112) (L' := [(4, .inl (Int32.ofNat (2 * x + y))), (0, .inr (.inr (.inl (some 0)))), (1, .inl (Int32.ofNat x)), (2, .inl (Int32.ofNat y)), (3, .inl (Int32.ofNat 3))]) (S' := [.inl (Int32.ofNat (2 * x + y)), .inr (.inr (.inl (some 193)))]) (h' := g2) (by with_unfolding_all rfl) ?_
          refine kx_iald (c := 193) (j := 2 * x + y) (m := 6) (v := .inl (Int32.ofNat (Z (30 + (2 * x + y))))) rfl rfl (by decide) (by decide) (by omega) (hA.2.2.2.1 _ s6) ?_
          exact kc_ret_ok rfl (rv := some (.inl (Int32.ofNat (Z (30 + (2 * x + y)))))) rfl ⟨rfl, w2, f2⟩
set_option maxRecDepth 20000 in
theorem fa_r81 {g : kc_G} {d : Nat} {h : kc_H} {t : Nat → Nat} {n : Nat} {B : Nat → Int32} {D M L : Nat} {a b c : Int32} (hg : kc_ok g) (hBB : fa_BB B D M L) (hw : kd_wt kd_ty h) (hC : fu_B B h) (hn : n ≤ 240) (hb : ∀ j, j < 240 → t j < 256) (hnt : h 260 (160 + 1) = .inl (Int32.ofNat n)) (ht : ∀ j, j < 240 → h 260 (170 + 240 * 1 + j) = .inl (Int32.ofNat (t j))) : kc_Con g (d + 16) 81 [.inr (.inr (.inl (some 259))), .inl a, .inl b, .inl c] h (fun rv h' => rv = some (.inl (fa_sd t n B D M L a b c)) ∧ kd_wt kd_ty h' ∧ (∀ c x, ¬ (264 ≤ c ∧ c ≤ 271) → ¬ (c = 259 ∧ 6 ≤ x ∧ x ≤ 25) → h' c x = h c x)) := by
  obtain ⟨hB, ⟨eD, hD⟩, ⟨eM, hM⟩, eL, hL⟩ := id hBB
  have z2 : (B 2).toInt - 1 = (L : Int) - 1 := by rw [eL, kx_ti (by omega)]
  unfold fa_sd
  have z1 : (B 1).toInt - 1 = (M : Int) - 1 := by rw [eM, kx_ti (by omega)]
  refine kc_Con_new hg (M := wk_m81) rfl rfl rfl (show 4 ≤ 5 by decide) ?_
  refine kx_go 3 (pc' := 3) (L' := [(0, .inr (.inr (.inl (some 259)))), (1, .inl (a)), (2, .inl (b)), (3, .inl (c))]) (S' := [.inl (b), .inl (a), .inr (.inr (.inl (some 259)))]) (h' := h) (by with_unfolding_all rfl) ?_
  refine kc_call_rule (M2 := wk_m82) (av := [.inr (.inr (.inl (some 259))), .inl (a), .inl (b)]) (r := []) rfl rfl (kc_Con_le (fa_r82g (d := 0) hg hw hC hB) (by omega)) (fun rv h2 hq => ?_)
  obtain ⟨rfl, e9⟩ := hq
  rw [e9]
  clear e9
  show kc_Ev g (d + 15) wk_m81 _ 6 [(0, .inr (.inr (.inl (some 259)))), (1, .inl (a)), (2, .inl (b)), (3, .inl (c))] [.inl (kp_b (fu_in a 0 ((B 1).toInt - 1) && fu_in b 0 1))] h
  refine kx_go 1 (pc' := (if kc_cnd .eq (kp_b (fu_in a 0 ((B 1).toInt - 1) && fu_in b 0 1)).toInt 0 then 21 else 9)) (L' := [(0, .inr (.inr (.inl (some 259)))), (1, .inl (a)), (2, .inl (b)), (3, .inl (c))]) (S' := []) (h' := h) (by with_unfolding_all rfl) ?_
  cases e : (fu_in a 0 ((B 1).toInt - 1) && fu_in b 0 1) with
  | false =>
    rw [if_pos (kx_b0.mpr rfl)]
    refine kx_go 1 (pc' := 23) (L' := [(0, .inr (.inr (.inl (some 259)))), (1, .inl (a)), (2, .inl (b)), (3, .inl (c))]) (S' := [.inl (Int32.ofInt (-10))]) (h' := h) (by with_unfolding_all rfl) ?_
    exact kc_ret_ok rfl (rv := some (.inl (Int32.ofInt (-10)))) rfl ⟨rfl, hw, fun _ _ _ _ => rfl⟩
  | true =>
    rw [if_neg (show ¬ (kc_cnd .eq (kp_b true).toInt 0 = true) from fun q => by have := kx_b0.mp q; cases this)]
    refine kx_go 4 (pc' := 15) (L' := [(0, .inr (.inr (.inl (some 259)))), (1, .inl (a)), (2, .inl (b)), (3, .inl (c))]) (S' := [.inr (.inl (Int64.ofNat 3)), .inr (.inl (Int64.ofNat 0)), .inr (.inl (c.toInt64))]) (h' := h) (by with_unfolding_all rfl) ?_
    refine kc_call_rule (M2 := wk_m22) (av := [.inr (.inl (c.toInt64)), .inr (.inl (Int64.ofNat 0)), .inr (.inl (Int64.ofNat 3))]) (r := []) rfl rfl (kc_Con_le (fu_li (d := 0) (lo := 0) (hi := 3) hg rfl rfl) (by omega)) (fun rv h2 hq => ?_)
    obtain ⟨rfl, e9⟩ := hq
    rw [e9]
    clear e9
    show kc_Ev g (d + 15) wk_m81 _ 18 [(0, .inr (.inr (.inl (some 259)))), (1, .inl (a)), (2, .inl (b)), (3, .inl (c))] [.inl (kp_b (fu_in c 0 3))] h
    refine kx_go 1 (pc' := (if kc_cnd .ne (kp_b (fu_in c 0 3)).toInt 0 then 24 else 21)) (L' := [(0, .inr (.inr (.inl (some 259)))), (1, .inl (a)), (2, .inl (b)), (3, .inl (c))]) (S' := []) (h' := h) (by with_unfolding_all rfl) ?_
    cases e2 : fu_in c 0 3 with
    | false =>
      rw [if_neg (show ¬ (kc_cnd .ne (kp_b false).toInt 0 = true) from fun q => by have := kx_b1.mp q; cases this)]
      refine kx_go 1 (pc' := 23) (L' := [(0, .inr (.inr (.inl (some 259)))), (1, .inl (a)), (2, .inl (b)), (3, .inl (c))]) (S' := [.inl (Int32.ofInt (-10))]) (h' := h) (by with_unfolding_all rfl) ?_
      exact kc_ret_ok rfl (rv := some (.inl (Int32.ofInt (-10)))) rfl ⟨rfl, hw, fun _ _ _ _ => rfl⟩
    | true =>
      rw [if_pos (kx_b1.mpr rfl)]
      obtain ⟨k, hk9, rfl, -, -⟩ := fu_in_n (u := 3) e2 (Int.le_refl 0) (by omega)
      rw [Bool.and_eq_true] at e
      obtain ⟨x, hx9, rfl, -, hx⟩ := fu_in_n (u := 2) e.1 (Int.le_refl 0) (by omega)
      obtain ⟨y, hy9, rfl, -, -⟩ := fu_in_n (u := 1) e.2 (Int.le_refl 0) (by omega)
      have ek : (Int32.ofNat k).toInt.toNat = k := by rw [kx_ti (by omega), Int.toNat_natCast]
      have ex : (Int32.ofNat x).toInt.toNat = x := by rw [kx_ti (by omega), Int.toNat_natCast]
      have ey : (Int32.ofNat y).toInt.toNat = y := by rw [kx_ti (by omega), Int.toNat_natCast]
      rw [ek, ex, ey]
      refine kx_go 1 (pc' := 25) (L' := [(0, .inr (.inr (.inl (some 259)))), (1, .inl (Int32.ofNat x)), (2, .inl (Int32.ofNat y)), (3, .inl (Int32.ofNat k))]) (S' := [.inr (.inr (.inl (some 259)))]) (h' := h) (by with_unfolding_all rfl) ?_
      refine kc_call_rule (M2 := wk_m78) (av := [.inr (.inr (.inl (some 259)))]) (r := []) rfl rfl (kc_Con_le (fa_r78 (d := 0) (n := n) (t := t) hg hBB hw hC hn hb hnt ht) (by omega)) (fun rv g2 hq => ?_)
      obtain ⟨w2, f2, hq⟩ := hq
      cases hz : fa_Z t n B D M L with
      | none =>
        rw [hz] at hq
        have hq2 : rv = some (.inl (Int32.ofNat 0)) := hq
        subst hq2
        show kc_Ev g (d + 15) wk_m81 _ 28 [(0, .inr (.inr (.inl (some 259)))), (1, .inl (Int32.ofNat x)), (2, .inl (Int32.ofNat y)), (3, .inl (Int32.ofNat k))] [.inl (Int32.ofNat 0)] g2
        refine kx_go 1 (pc' := 31) (L' := [(0, .inr (.inr (.inl (some 259)))), (1, .inl (Int32.ofNat x)), (2, .inl (Int32.ofNat y)), (3, .inl (Int32.ofNat k))]) (S' := []) (h' := g2) (by with_unfolding_all rfl) ?_
        refine kx_go 1 (pc' := 33) (L' := [(0, .inr (.inr (.inl (some 259)))), (1, .inl (Int32.ofNat x)), (2, .inl (Int32.ofNat y)), (3, .inl (Int32.ofNat k))]) (S' := [.inl (Int32.ofInt (-20))]) (h' := g2) (by with_unfolding_all rfl) ?_
        exact kc_ret_ok rfl (rv := some (.inl (Int32.ofInt (-20)))) rfl ⟨rfl, w2, f2⟩
      | some Z =>
        rw [hz] at hq
        have hq2 : rv = some (.inl (Int32.ofNat 1)) ∧ fa_R Z L g2 := hq
        obtain ⟨rfl, hA⟩ := hq2
        have hI := fa_Z_I hn hBB hz
        have s6 : 2 * x + y < 6 := by omega
        show kc_Ev g (d + 15) wk_m81 _ 28 [(0, .inr (.inr (.inl (some 259)))), (1, .inl (Int32.ofNat x)), (2, .inl (Int32.ofNat y)), (3, .inl (Int32.ofNat k))] [.inl (Int32.ofNat 1)] g2
        refine kx_go 1 (pc' := 34) (L' := [(0, .inr (.inr (.inl (some 259)))), (1, .inl (Int32.ofNat x)), (2, .inl (Int32.ofNat y)), (3, .inl (Int32.ofNat k))]) (S' := []) (h' := g2) (by with_unfolding_all rfl) ?_
        have hC2 : fu_B B g2 := fun j hj htl => (f2 _ _ (by omega) (by omega)).trans (hC j hj htl)
        refine kx_go 6 (pc' := 41) (L' := [(4, .inl (((Int32.ofNat 2) * (Int32.ofNat x)) + (Int32.ofNat y))), (0, .inr (.inr (.inl (some 259)))), (1, .inl (Int32.ofNat x)), (2, .inl (Int32.ofNat y)), (3, .inl (Int32.ofNat k))]) (S' := []) (h' := g2) (by with_unfolding_all rfl) ?_
        rw [kx_mul, kx_add]
        refine kf_lo (L := [(4, .inl (Int32.ofNat (2 * x + y))), (0, .inr (.inr (.inl (some 259)))), (1, .inl (Int32.ofNat x)), (2, .inl (Int32.ofNat y)), (3, .inl (Int32.ofNat k))]) (by intro q hq; simp only [List.mem_cons, List.not_mem_nil, or_false] at hq; rcases hq with rfl | rfl | rfl | rfl | rfl <;> rfl) ?_
        rcases (show k = 0 ∨ k = 1 ∨ k = 2 ∨ k = 3 by omega) with rfl | rfl | rfl | rfl
        · skip
          refine kx_go 2 (pc' := 45) (L' := [(4, .inl (Int32.ofNat (2 * x + y))), (0, .inr (.inr (.inl (some 259)))), (1, .inl (Int32.ofNat x)), (2, .inl (Int32.ofNat y)), (3, .inl (Int32.ofNat 0))]) (S' := []) (h' := g2) (by with_unfolding_all rfl) ?_
          refine kx_go 2 (pc' := 48) (L' := [(4, .inl (Int32.ofNat (2 * x + y))), (0, .inr (.inr (.inl (some 259)))), (1, .inl (Int32.ofNat x)), (2, .inl (Int32.ofNat y)), (3, .inl (Int32.ofNat 0))]) (S' := [.inl (Int32.ofNat (2 * x + y)), .inr (.inr (.inl (some 259)))]) (h' := g2) (by with_unfolding_all rfl) ?_
          refine kc_call_rule (M2 := wk_m245) (av := [.inr (.inr (.inl (some 259))), .inl (Int32.ofNat (2 * x + y))]) (r := []) rfl rfl (kc_Con_le (fa_r245 (d := 0) hg w2 hC2 hB hL (Nat.le_refl 60) hI hA s6) (by omega)) (fun rv h2 hq => ?_)
          obtain ⟨rfl, e9⟩ := hq
          rw [e9]
          clear e9
          show kc_Ev g (d + 15) wk_m81 _ 51 [(4, .inl (Int32.ofNat (2 * x + y))), (0, .inr (.inr (.inl (some 259)))), (1, .inl (Int32.ofNat x)), (2, .inl (Int32.ofNat y)), (3, .inl (Int32.ofNat 0))] [.inl (Int32.ofNat (fa_bw B Z (2 * x + y)))] g2
          refine kx_go 1 (pc' := 90) (L' := [(4, .inl (Int32.ofNat (2 * x + y))), (0, .inr (.inr (.inl (some 259)))), (1, .inl (Int32.ofNat x)), (2, .inl (Int32.ofNat y)), (3, .inl (Int32.ofNat 0))]) (S' := [.inl (Int32.ofNat (fa_bw B Z (2 * x + y)))]) (h' := g2) (by with_unfolding_all rfl) ?_
          exact kc_ret_ok rfl (rv := some (.inl (Int32.ofNat (fa_bw B Z (2 * x + y))))) rfl ⟨rfl, w2, f2⟩
        · skip
          refine kx_go 5 (pc' := 59) (L' := [(4, .inl (Int32.ofNat (2 * x + y))), (0, .inr (.inr (.inl (some 259)))), (1, .inl (Int32.ofNat x)), (2, .inl (Int32.ofNat y)), (3, .inl (Int32.ofNat 1))]) (S' := []) (h' := g2) (by with_unfolding_all rfl) ?_
          refine kx_go 1 (pc' := 60) (L' := [(4, .inl (Int32.ofNat (2 * x + y))), (0, .inr (.inr (.inl (some 259)))), (1, .inl (Int32.ofNat x)), (2, .inl (Int32.ofNat y)), (3, .inl (Int32.ofNat 1))]) (S' := [.inr (.inr (.inl (some 259)))]) (h' := g2) (by with_unfolding_all rfl) ?_
          refine kx_getf (c := 259) (v := .inr (.inr (.inl (some 268)))) rfl (by decide) (kx_ofr (w2 _ _ _ fa_kr.2.2.1)) ?_
          refine kx_go 1 (pc' := 65) (L' := [(4, .inl (Int32.ofNat (2 * x + y))), (0, .inr (.inr (.inl (some 259)))), (1, .inl (Int32.ofNat x)), (2, .inl (Int32.ofNat y)), (3, .inl (Int32.ofNat 1))]) (S' := [.inl (Int32.ofNat (2 * x + y)), .inr (.inr (.inl (some 268)))]) (h' := g2) (by with_unfolding_all rfl) ?_
          refine kx_iald (c := 268) (j := 2 * x + y) (m := 6) (v := .inl (Int32.ofNat (Z (20 + (2 * x + y))))) rfl rfl (by decide) (by decide) (by omega) (hA.2.2.1 _ s6) ?_
          refine kx_go 1 (pc' := 90) (L' := [(4, .inl (Int32.ofNat (2 * x + y))), (0, .inr (.inr (.inl (some 259)))), (1, .inl (Int32.ofNat x)), (2, .inl (Int32.ofNat y)), (3, .inl (Int32.ofNat 1))]) (S' := [.inl (Int32.ofNat (Z (20 + (2 * x + y))))]) (h' := g2) (by with_unfolding_all rfl) ?_
          exact kc_ret_ok rfl (rv := some (.inl (Int32.ofNat (Z (20 + (2 * x + y)))))) rfl ⟨rfl, w2, f2⟩
        · skip
          refine kx_go 8 (pc' := 74) (L' := [(4, .inl (Int32.ofNat (2 * x + y))), (0, .inr (.inr (.inl (some 259)))), (1, .inl (Int32.ofNat x)), (2, .inl (Int32.ofNat y)), (3, .inl (Int32.ofNat 2))]) (S' := []) (h' := g2) (by with_unfolding_all rfl) ?_
          refine kx_go 2 (pc' := 77) (L' := [(4, .inl (Int32.ofNat (2 * x + y))), (0, .inr (.inr (.inl (some 259)))), (1, .inl (Int32.ofNat x)), (2, .inl (Int32.ofNat y)), (3, .inl (Int32.ofNat 2))]) (S' := [.inl (Int32.ofNat (2 * x + y)), .inr (.inr (.inl (some 259)))]) (h' := g2) (by with_unfolding_all rfl) ?_
          refine kc_call_rule (M2 := wk_m242) (av := [.inr (.inr (.inl (some 259))), .inl (Int32.ofNat (2 * x + y))]) (r := []) rfl rfl (kc_Con_le (fa_r242 (d := 0) hg w2 hC2 hB hL (Nat.le_refl 60) hI hA s6) (by omega)) (fun rv h2 hq => ?_)
          obtain ⟨rfl, e9⟩ := hq
          rw [e9]
          clear e9
          show kc_Ev g (d + 15) wk_m81 _ 80 [(4, .inl (Int32.ofNat (2 * x + y))), (0, .inr (.inr (.inl (some 259)))), (1, .inl (Int32.ofNat x)), (2, .inl (Int32.ofNat y)), (3, .inl (Int32.ofNat 2))] [.inl (fa_tp Z (2 * x + y))] g2
          refine kx_go 1 (pc' := 90) (L' := [(4, .inl (Int32.ofNat (2 * x + y))), (0, .inr (.inr (.inl (some 259)))), (1, .inl (Int32.ofNat x)), (2, .inl (Int32.ofNat y)), (3, .inl (Int32.ofNat 2))]) (S' := [.inl (fa_tp Z (2 * x + y))]) (h' := g2) (by with_unfolding_all rfl) ?_
          exact kc_ret_ok rfl (rv := some (.inl (fa_tp Z (2 * x + y)))) rfl ⟨rfl, w2, f2⟩
        · skip
          refine kx_go 8 (pc' := 83) (L' := [(4, .inl (Int32.ofNat (2 * x + y))), (0, .inr (.inr (.inl (some 259)))), (1, .inl (Int32.ofNat x)), (2, .inl (Int32.ofNat y)), (3, .inl (Int32.ofNat 3))]) (S' := []) (h' := g2) (by with_unfolding_all rfl) ?_
          refine kx_go 1 (pc' := 84) (L' := [(4, .inl (Int32.ofNat (2 * x + y))), (0, .inr (.inr (.inl (some 259)))), (1, .inl (Int32.ofNat x)), (2, .inl (Int32.ofNat y)), (3, .inl (Int32.ofNat 3))]) (S' := [.inr (.inr (.inl (some 259)))]) (h' := g2) (by with_unfolding_all rfl) ?_
          refine kx_getf (c := 259) (v := .inr (.inr (.inl (some 269)))) rfl (by decide) (kx_ofr (w2 _ _ _ fa_kr.2.2.2.1)) ?_
          refine kx_go 1 (pc' := 89) (L' := [(4, .inl (Int32.ofNat (2 * x + y))), (0, .inr (.inr (.inl (some 259)))), (1, .inl (Int32.ofNat x)), (2, .inl (Int32.ofNat y)), (3, .inl (Int32.ofNat 3))]) (S' := [.inl (Int32.ofNat (2 * x + y)), .inr (.inr (.inl (some 269)))]) (h' := g2) (by with_unfolding_all rfl) ?_
          refine kx_iald (c := 269) (j := 2 * x + y) (m := 6) (v := .inl (Int32.ofNat (Z (30 + (2 * x + y))))) rfl rfl (by decide) (by decide) (by omega) (hA.2.2.2.1 _ s6) ?_
          exact kc_ret_ok rfl (rv := some (.inl (Int32.ofNat (Z (30 + (2 * x + y)))))) rfl ⟨rfl, w2, f2⟩
theorem fU_Xside {g : kc_G} {h : kc_H} {a b c : Int32} (hg : kc_ok g) (hI : fu_I h) : kc_Con g 30 80 [.inr (.inr (.inl (some 0))), .inl a, .inl b, .inl c] h (fun rv h1 => ∃ z : Int32, rv = some (.inl z) ∧ kc_Con g 30 81 [.inr (.inr (.inl (some 259))), .inl a, .inl b, .inl c] h1 (fun rv2 h2 => rv2 = some (.inl z) ∧ fu_I h2)) := by
  obtain ⟨B, hC, hR⟩ := hI.2.1
  have hB := fu_C_T hI.1 hC
  obtain ⟨D, M, L, hBB⟩ := fa_BBx hB
  obtain ⟨n, t, n1, tb, h30, h31, en, et⟩ := fa_tx hB hC
  refine kc_Con_mono (kc_Con_le (fa_c80 (d := 0) (n := n) (t := t) hg hBB hI.1 hC n1 tb h30 h31) (by decide)) (fun rv h1 hq => ?_)
  obtain ⟨rfl, w1, f1⟩ := hq
  have R1 : fu_B B h1 := fun j hj ht => (f1 260 j (by omega)).trans (hR j hj ht)
  refine ⟨_, rfl, kc_Con_mono (kc_Con_le (fa_r81 (d := 0) (n := n) (t := t) hg hBB w1 R1 n1 tb ((R1 (160 + 1) (by decide) (by decide)).trans (by rw [en])) (fun j hj => (R1 (170 + 240 * 1 + j) (by omega) (fu_ftx 1 (by decide) j hj).2.1).trans (by rw [et j hj]))) (by decide)) (fun rv2 h2 hq => ?_)⟩
  obtain ⟨rfl, w2, f2⟩ := hq
  exact ⟨rfl, fa_keep hI w2 (fun c x q1 q2 q3 => (f2 c x q2 (fun q => q3 q.1)).trans (f1 c x q1))⟩
end
section
-- 99.zq
/-! ===== the law's rows ===== -/
def wk_mL : wk_M := (99, ⟨"EvenSidesLaw", "law", "([I)Z"⟩, code, 4, (some FieldType.boolean), 289, 10466, 1, [
  [(0, .new 7, 3, (8, 0, 0), [130, 131, 113], 40, 0), (3, .dup, 1, (0, 0, 0), [], 26, 0), (4, .invokespecial 9, 3, (2, 0, 0), [132], 40, 0), (7, .astore_n 1, 1, (0, 0, 0), [], 6, 1), (8, .new 10, 3, (9, 0, 0), [1256, 1257, 123], 40, 0), (11, .dup, 1, (0, 0, 0), [], 26, 0), (12, .invokespecial 12, 3, (2, 11, 0), [1258], 40, 0), (15, .astore_n 2, 1, (0, 0, 0), [], 6, 2)],
  [(16, .iconst 0, 1, (0, 0, 0), [], 1, 0), (17, .istore_n 3, 1, (0, 0, 0), [], 5, 3), (18, .iload_n 3, 1, (0, 0, 0), [], 2, 3), (19, .aload_n 0, 1, (0, 0, 0), [], 3, 0), (20, .arraylength, 1, (0, 0, 0), [], 33, 0), (21, .iconst 5, 1, (0, 0, 0), [], 1, 5), (22, .isub, 1, (0, 0, 0), [], 22, 0), (23, .if_icmp .gt 1190, 3, (0, 0, 0), [], 19, 1213), (26, .aload_n 0, 1, (0, 0, 0), [], 3, 0), (27, .iload_n 3, 1, (0, 0, 0), [], 2, 3), (28, .iaload, 1, (0, 0, 0), [], 35, 0), (29, .bipush 63, 2, (0, 0, 0), [], 1, 63), (31, .iand, 1, (0, 0, 0), [], 40, 0)],
  [(32, .tableswitch 1175 0 36 #[164, 177, 220, 243, 276, 319, 362, 415, 448, 481, 514, 587, 610, 633, 646, 669, 712, 735, 768, 801, 844, 867, 880, 893, 906, 919, 942, 965, 978, 991, 1004, 1027, 1070, 1093, 1116, 1139, 1162], 164, (0, 0, 0), [], 40, 0)],
  [],
  [],
  [],
  [],
  [],
  [],
  [],
  [],
  [],
  [(196, .aload_n 1, 1, (0, 0, 0), [], 3, 1), (197, .invokevirtual 13, 3, (0, 13, 0), [541], 40, 0), (200, .pop, 1, (0, 0, 0), [], 40, 0), (201, .aload_n 2, 1, (0, 0, 0), [], 3, 2), (202, .invokevirtual 17, 3, (0, 15, 0), [1414], 40, 0), (205, .pop, 1, (0, 0, 0), [], 40, 0), (206, .goto 1001, 3, (0, 0, 0), [], 8, 1207)],
  [(209, .aload_n 1, 1, (0, 0, 0), [], 3, 1), (210, .aload_n 0, 1, (0, 0, 0), [], 3, 0), (211, .iload_n 3, 1, (0, 0, 0), [], 2, 3), (212, .iconst 1, 1, (0, 0, 0), [], 1, 1), (213, .iadd, 1, (0, 0, 0), [], 21, 0), (214, .iaload, 1, (0, 0, 0), [], 35, 0), (215, .aload_n 0, 1, (0, 0, 0), [], 3, 0), (216, .iload_n 3, 1, (0, 0, 0), [], 2, 3), (217, .iconst 2, 1, (0, 0, 0), [], 1, 2), (218, .iadd, 1, (0, 0, 0), [], 21, 0), (219, .iaload, 1, (0, 0, 0), [], 35, 0), (220, .aload_n 0, 1, (0, 0, 0), [], 3, 0), (221, .iload_n 3, 1, (0, 0, 0), [], 2, 3), (222, .iconst 3, 1, (0, 0, 0), [], 1, 3), (223, .iadd, 1, (0, 0, 0), [], 21, 0)],
  [(224, .iaload, 1, (0, 0, 0), [], 35, 0), (225, .invokevirtual 18, 3, (0, 16, 0), [549], 40, 0), (228, .pop, 1, (0, 0, 0), [], 40, 0), (229, .aload_n 2, 1, (0, 0, 0), [], 3, 2), (230, .aload_n 0, 1, (0, 0, 0), [], 3, 0), (231, .iload_n 3, 1, (0, 0, 0), [], 2, 3), (232, .iconst 1, 1, (0, 0, 0), [], 1, 1), (233, .iadd, 1, (0, 0, 0), [], 21, 0), (234, .iaload, 1, (0, 0, 0), [], 35, 0), (235, .aload_n 0, 1, (0, 0, 0), [], 3, 0), (236, .iload_n 3, 1, (0, 0, 0), [], 2, 3), (237, .iconst 2, 1, (0, 0, 0), [], 1, 2), (238, .iadd, 1, (0, 0, 0), [], 21, 0), (239, .iaload, 1, (0, 0, 0), [], 35, 0)],
  [(240, .aload_n 0, 1, (0, 0, 0), [], 3, 0), (241, .iload_n 3, 1, (0, 0, 0), [], 2, 3), (242, .iconst 3, 1, (0, 0, 0), [], 1, 3), (243, .iadd, 1, (0, 0, 0), [], 21, 0), (244, .iaload, 1, (0, 0, 0), [], 35, 0), (245, .invokevirtual 22, 3, (0, 20, 0), [1418], 40, 0), (248, .pop, 1, (0, 0, 0), [], 40, 0), (249, .goto 958, 3, (0, 0, 0), [], 8, 1207), (252, .aload_n 1, 1, (0, 0, 0), [], 3, 1), (253, .aload_n 0, 1, (0, 0, 0), [], 3, 0), (254, .iload_n 3, 1, (0, 0, 0), [], 2, 3), (255, .iconst 1, 1, (0, 0, 0), [], 1, 1)],
  [(256, .iadd, 1, (0, 0, 0), [], 21, 0), (257, .iaload, 1, (0, 0, 0), [], 35, 0), (258, .invokevirtual 23, 3, (0, 23, 0), [564], 40, 0), (261, .pop, 1, (0, 0, 0), [], 40, 0), (262, .aload_n 2, 1, (0, 0, 0), [], 3, 2), (263, .aload_n 0, 1, (0, 0, 0), [], 3, 0), (264, .iload_n 3, 1, (0, 0, 0), [], 2, 3), (265, .iconst 1, 1, (0, 0, 0), [], 1, 1), (266, .iadd, 1, (0, 0, 0), [], 21, 0), (267, .iaload, 1, (0, 0, 0), [], 35, 0), (268, .invokevirtual 27, 3, (0, 26, 0), [1434], 40, 0), (271, .pop, 1, (0, 0, 0), [], 40, 0)],
  [(272, .goto 935, 3, (0, 0, 0), [], 8, 1207), (275, .aload_n 1, 1, (0, 0, 0), [], 3, 1), (276, .aload_n 0, 1, (0, 0, 0), [], 3, 0), (277, .iload_n 3, 1, (0, 0, 0), [], 2, 3), (278, .iconst 1, 1, (0, 0, 0), [], 1, 1), (279, .iadd, 1, (0, 0, 0), [], 21, 0), (280, .iaload, 1, (0, 0, 0), [], 35, 0), (281, .aload_n 0, 1, (0, 0, 0), [], 3, 0), (282, .iload_n 3, 1, (0, 0, 0), [], 2, 3), (283, .iconst 2, 1, (0, 0, 0), [], 1, 2), (284, .iadd, 1, (0, 0, 0), [], 21, 0), (285, .iaload, 1, (0, 0, 0), [], 35, 0), (286, .invokevirtual 28, 3, (0, 28, 0), [576], 40, 0)],
  [(289, .pop, 1, (0, 0, 0), [], 40, 0), (290, .aload_n 2, 1, (0, 0, 0), [], 3, 2), (291, .aload_n 0, 1, (0, 0, 0), [], 3, 0), (292, .iload_n 3, 1, (0, 0, 0), [], 2, 3), (293, .iconst 1, 1, (0, 0, 0), [], 1, 1), (294, .iadd, 1, (0, 0, 0), [], 21, 0), (295, .iaload, 1, (0, 0, 0), [], 35, 0), (296, .aload_n 0, 1, (0, 0, 0), [], 3, 0), (297, .iload_n 3, 1, (0, 0, 0), [], 2, 3), (298, .iconst 2, 1, (0, 0, 0), [], 1, 2), (299, .iadd, 1, (0, 0, 0), [], 21, 0), (300, .iaload, 1, (0, 0, 0), [], 35, 0), (301, .invokevirtual 32, 3, (0, 30, 0), [1442], 40, 0)],
  [(304, .pop, 1, (0, 0, 0), [], 40, 0), (305, .goto 902, 3, (0, 0, 0), [], 8, 1207), (308, .aload_n 1, 1, (0, 0, 0), [], 3, 1), (309, .aload_n 0, 1, (0, 0, 0), [], 3, 0), (310, .iload_n 3, 1, (0, 0, 0), [], 2, 3), (311, .iconst 1, 1, (0, 0, 0), [], 1, 1), (312, .iadd, 1, (0, 0, 0), [], 21, 0), (313, .iaload, 1, (0, 0, 0), [], 35, 0), (314, .aload_n 0, 1, (0, 0, 0), [], 3, 0), (315, .iload_n 3, 1, (0, 0, 0), [], 2, 3), (316, .iconst 2, 1, (0, 0, 0), [], 1, 2), (317, .iadd, 1, (0, 0, 0), [], 21, 0), (318, .iaload, 1, (0, 0, 0), [], 35, 0), (319, .aload_n 0, 1, (0, 0, 0), [], 3, 0)],
  [(320, .iload_n 3, 1, (0, 0, 0), [], 2, 3), (321, .iconst 3, 1, (0, 0, 0), [], 1, 3), (322, .iadd, 1, (0, 0, 0), [], 21, 0), (323, .iaload, 1, (0, 0, 0), [], 35, 0), (324, .invokevirtual 33, 3, (0, 32, 0), [584], 40, 0), (327, .pop, 1, (0, 0, 0), [], 40, 0), (328, .aload_n 2, 1, (0, 0, 0), [], 3, 2), (329, .aload_n 0, 1, (0, 0, 0), [], 3, 0), (330, .iload_n 3, 1, (0, 0, 0), [], 2, 3), (331, .iconst 1, 1, (0, 0, 0), [], 1, 1), (332, .iadd, 1, (0, 0, 0), [], 21, 0), (333, .iaload, 1, (0, 0, 0), [], 35, 0), (334, .aload_n 0, 1, (0, 0, 0), [], 3, 0), (335, .iload_n 3, 1, (0, 0, 0), [], 2, 3)],
  [(336, .iconst 2, 1, (0, 0, 0), [], 1, 2), (337, .iadd, 1, (0, 0, 0), [], 21, 0), (338, .iaload, 1, (0, 0, 0), [], 35, 0), (339, .aload_n 0, 1, (0, 0, 0), [], 3, 0), (340, .iload_n 3, 1, (0, 0, 0), [], 2, 3), (341, .iconst 3, 1, (0, 0, 0), [], 1, 3), (342, .iadd, 1, (0, 0, 0), [], 21, 0), (343, .iaload, 1, (0, 0, 0), [], 35, 0), (344, .invokevirtual 36, 3, (0, 34, 0), [1447], 40, 0), (347, .pop, 1, (0, 0, 0), [], 40, 0), (348, .goto 859, 3, (0, 0, 0), [], 8, 1207), (351, .aload_n 1, 1, (0, 0, 0), [], 3, 1)],
  [(352, .aload_n 0, 1, (0, 0, 0), [], 3, 0), (353, .iload_n 3, 1, (0, 0, 0), [], 2, 3), (354, .iconst 1, 1, (0, 0, 0), [], 1, 1), (355, .iadd, 1, (0, 0, 0), [], 21, 0), (356, .iaload, 1, (0, 0, 0), [], 35, 0), (357, .aload_n 0, 1, (0, 0, 0), [], 3, 0), (358, .iload_n 3, 1, (0, 0, 0), [], 2, 3), (359, .iconst 2, 1, (0, 0, 0), [], 1, 2), (360, .iadd, 1, (0, 0, 0), [], 21, 0), (361, .iaload, 1, (0, 0, 0), [], 35, 0), (362, .aload_n 0, 1, (0, 0, 0), [], 3, 0), (363, .iload_n 3, 1, (0, 0, 0), [], 2, 3), (364, .iconst 3, 1, (0, 0, 0), [], 1, 3), (365, .iadd, 1, (0, 0, 0), [], 21, 0), (366, .iaload, 1, (0, 0, 0), [], 35, 0), (367, .invokevirtual 37, 3, (0, 35, 0), [592], 40, 0)],
  [(370, .pop, 1, (0, 0, 0), [], 40, 0), (371, .aload_n 2, 1, (0, 0, 0), [], 3, 2), (372, .aload_n 0, 1, (0, 0, 0), [], 3, 0), (373, .iload_n 3, 1, (0, 0, 0), [], 2, 3), (374, .iconst 1, 1, (0, 0, 0), [], 1, 1), (375, .iadd, 1, (0, 0, 0), [], 21, 0), (376, .iaload, 1, (0, 0, 0), [], 35, 0), (377, .aload_n 0, 1, (0, 0, 0), [], 3, 0), (378, .iload_n 3, 1, (0, 0, 0), [], 2, 3), (379, .iconst 2, 1, (0, 0, 0), [], 1, 2), (380, .iadd, 1, (0, 0, 0), [], 21, 0), (381, .iaload, 1, (0, 0, 0), [], 35, 0), (382, .aload_n 0, 1, (0, 0, 0), [], 3, 0), (383, .iload_n 3, 1, (0, 0, 0), [], 2, 3)],
  [(384, .iconst 3, 1, (0, 0, 0), [], 1, 3), (385, .iadd, 1, (0, 0, 0), [], 21, 0), (386, .iaload, 1, (0, 0, 0), [], 35, 0), (387, .invokevirtual 40, 3, (0, 39, 0), [1452], 40, 0), (390, .pop, 1, (0, 0, 0), [], 40, 0), (391, .goto 816, 3, (0, 0, 0), [], 8, 1207), (394, .aload_n 1, 1, (0, 0, 0), [], 3, 1), (395, .aload_n 0, 1, (0, 0, 0), [], 3, 0), (396, .iload_n 3, 1, (0, 0, 0), [], 2, 3), (397, .iconst 1, 1, (0, 0, 0), [], 1, 1), (398, .iadd, 1, (0, 0, 0), [], 21, 0), (399, .iaload, 1, (0, 0, 0), [], 35, 0)],
  [(400, .aload_n 0, 1, (0, 0, 0), [], 3, 0), (401, .iload_n 3, 1, (0, 0, 0), [], 2, 3), (402, .iconst 2, 1, (0, 0, 0), [], 1, 2), (403, .iadd, 1, (0, 0, 0), [], 21, 0), (404, .iaload, 1, (0, 0, 0), [], 35, 0), (405, .aload_n 0, 1, (0, 0, 0), [], 3, 0), (406, .iload_n 3, 1, (0, 0, 0), [], 2, 3), (407, .iconst 3, 1, (0, 0, 0), [], 1, 3), (408, .iadd, 1, (0, 0, 0), [], 21, 0), (409, .iaload, 1, (0, 0, 0), [], 35, 0), (410, .aload_n 0, 1, (0, 0, 0), [], 3, 0), (411, .iload_n 3, 1, (0, 0, 0), [], 2, 3), (412, .iconst 4, 1, (0, 0, 0), [], 1, 4), (413, .iadd, 1, (0, 0, 0), [], 21, 0), (414, .iaload, 1, (0, 0, 0), [], 35, 0), (415, .invokevirtual 41, 3, (0, 41, 0), [608], 40, 0)],
  [(418, .pop, 1, (0, 0, 0), [], 40, 0), (419, .aload_n 2, 1, (0, 0, 0), [], 3, 2), (420, .aload_n 0, 1, (0, 0, 0), [], 3, 0), (421, .iload_n 3, 1, (0, 0, 0), [], 2, 3), (422, .iconst 1, 1, (0, 0, 0), [], 1, 1), (423, .iadd, 1, (0, 0, 0), [], 21, 0), (424, .iaload, 1, (0, 0, 0), [], 35, 0), (425, .aload_n 0, 1, (0, 0, 0), [], 3, 0), (426, .iload_n 3, 1, (0, 0, 0), [], 2, 3), (427, .iconst 2, 1, (0, 0, 0), [], 1, 2), (428, .iadd, 1, (0, 0, 0), [], 21, 0), (429, .iaload, 1, (0, 0, 0), [], 35, 0), (430, .aload_n 0, 1, (0, 0, 0), [], 3, 0), (431, .iload_n 3, 1, (0, 0, 0), [], 2, 3)],
  [(432, .iconst 3, 1, (0, 0, 0), [], 1, 3), (433, .iadd, 1, (0, 0, 0), [], 21, 0), (434, .iaload, 1, (0, 0, 0), [], 35, 0), (435, .aload_n 0, 1, (0, 0, 0), [], 3, 0), (436, .iload_n 3, 1, (0, 0, 0), [], 2, 3), (437, .iconst 4, 1, (0, 0, 0), [], 1, 4), (438, .iadd, 1, (0, 0, 0), [], 21, 0), (439, .iaload, 1, (0, 0, 0), [], 35, 0), (440, .invokevirtual 45, 3, (0, 43, 0), [1463], 40, 0), (443, .pop, 1, (0, 0, 0), [], 40, 0), (444, .goto 763, 3, (0, 0, 0), [], 8, 1207), (447, .aload_n 1, 1, (0, 0, 0), [], 3, 1)],
  [(448, .aload_n 0, 1, (0, 0, 0), [], 3, 0), (449, .iload_n 3, 1, (0, 0, 0), [], 2, 3), (450, .iconst 1, 1, (0, 0, 0), [], 1, 1), (451, .iadd, 1, (0, 0, 0), [], 21, 0), (452, .iaload, 1, (0, 0, 0), [], 35, 0), (453, .aload_n 0, 1, (0, 0, 0), [], 3, 0), (454, .iload_n 3, 1, (0, 0, 0), [], 2, 3), (455, .iconst 2, 1, (0, 0, 0), [], 1, 2), (456, .iadd, 1, (0, 0, 0), [], 21, 0), (457, .iaload, 1, (0, 0, 0), [], 35, 0), (458, .invokevirtual 46, 3, (0, 44, 0), [616], 40, 0), (461, .pop, 1, (0, 0, 0), [], 40, 0), (462, .aload_n 2, 1, (0, 0, 0), [], 3, 2), (463, .aload_n 0, 1, (0, 0, 0), [], 3, 0)],
  [(464, .iload_n 3, 1, (0, 0, 0), [], 2, 3), (465, .iconst 1, 1, (0, 0, 0), [], 1, 1), (466, .iadd, 1, (0, 0, 0), [], 21, 0), (467, .iaload, 1, (0, 0, 0), [], 35, 0), (468, .aload_n 0, 1, (0, 0, 0), [], 3, 0), (469, .iload_n 3, 1, (0, 0, 0), [], 2, 3), (470, .iconst 2, 1, (0, 0, 0), [], 1, 2), (471, .iadd, 1, (0, 0, 0), [], 21, 0), (472, .iaload, 1, (0, 0, 0), [], 35, 0), (473, .invokevirtual 49, 3, (0, 47, 0), [1467], 40, 0), (476, .pop, 1, (0, 0, 0), [], 40, 0), (477, .goto 730, 3, (0, 0, 0), [], 8, 1207)],
  [(480, .aload_n 1, 1, (0, 0, 0), [], 3, 1), (481, .aload_n 0, 1, (0, 0, 0), [], 3, 0), (482, .iload_n 3, 1, (0, 0, 0), [], 2, 3), (483, .iconst 1, 1, (0, 0, 0), [], 1, 1), (484, .iadd, 1, (0, 0, 0), [], 21, 0), (485, .iaload, 1, (0, 0, 0), [], 35, 0), (486, .aload_n 0, 1, (0, 0, 0), [], 3, 0), (487, .iload_n 3, 1, (0, 0, 0), [], 2, 3), (488, .iconst 2, 1, (0, 0, 0), [], 1, 2), (489, .iadd, 1, (0, 0, 0), [], 21, 0), (490, .iaload, 1, (0, 0, 0), [], 35, 0), (491, .invokevirtual 50, 3, (0, 49, 0), [628], 40, 0), (494, .pop, 1, (0, 0, 0), [], 40, 0), (495, .aload_n 2, 1, (0, 0, 0), [], 3, 2)],
  [(496, .aload_n 0, 1, (0, 0, 0), [], 3, 0), (497, .iload_n 3, 1, (0, 0, 0), [], 2, 3), (498, .iconst 1, 1, (0, 0, 0), [], 1, 1), (499, .iadd, 1, (0, 0, 0), [], 21, 0), (500, .iaload, 1, (0, 0, 0), [], 35, 0), (501, .aload_n 0, 1, (0, 0, 0), [], 3, 0), (502, .iload_n 3, 1, (0, 0, 0), [], 2, 3), (503, .iconst 2, 1, (0, 0, 0), [], 1, 2), (504, .iadd, 1, (0, 0, 0), [], 21, 0), (505, .iaload, 1, (0, 0, 0), [], 35, 0), (506, .invokevirtual 53, 3, (0, 50, 0), [1476], 40, 0), (509, .pop, 1, (0, 0, 0), [], 40, 0), (510, .goto 697, 3, (0, 0, 0), [], 8, 1207)],
  [(513, .aload_n 1, 1, (0, 0, 0), [], 3, 1), (514, .aload_n 0, 1, (0, 0, 0), [], 3, 0), (515, .iload_n 3, 1, (0, 0, 0), [], 2, 3), (516, .iconst 1, 1, (0, 0, 0), [], 1, 1), (517, .iadd, 1, (0, 0, 0), [], 21, 0), (518, .iaload, 1, (0, 0, 0), [], 35, 0), (519, .aload_n 0, 1, (0, 0, 0), [], 3, 0), (520, .iload_n 3, 1, (0, 0, 0), [], 2, 3), (521, .iconst 2, 1, (0, 0, 0), [], 1, 2), (522, .iadd, 1, (0, 0, 0), [], 21, 0), (523, .iaload, 1, (0, 0, 0), [], 35, 0), (524, .invokevirtual 54, 3, (0, 51, 0), [632], 40, 0), (527, .pop, 1, (0, 0, 0), [], 40, 0)],
  [(528, .aload_n 2, 1, (0, 0, 0), [], 3, 2), (529, .aload_n 0, 1, (0, 0, 0), [], 3, 0), (530, .iload_n 3, 1, (0, 0, 0), [], 2, 3), (531, .iconst 1, 1, (0, 0, 0), [], 1, 1), (532, .iadd, 1, (0, 0, 0), [], 21, 0), (533, .iaload, 1, (0, 0, 0), [], 35, 0), (534, .aload_n 0, 1, (0, 0, 0), [], 3, 0), (535, .iload_n 3, 1, (0, 0, 0), [], 2, 3), (536, .iconst 2, 1, (0, 0, 0), [], 1, 2), (537, .iadd, 1, (0, 0, 0), [], 21, 0), (538, .iaload, 1, (0, 0, 0), [], 35, 0), (539, .invokevirtual 57, 3, (0, 53, 0), [1480], 40, 0), (542, .pop, 1, (0, 0, 0), [], 40, 0), (543, .goto 664, 3, (0, 0, 0), [], 8, 1207)],
  [(546, .aload_n 1, 1, (0, 0, 0), [], 3, 1), (547, .aload_n 0, 1, (0, 0, 0), [], 3, 0), (548, .iload_n 3, 1, (0, 0, 0), [], 2, 3), (549, .iconst 1, 1, (0, 0, 0), [], 1, 1), (550, .iadd, 1, (0, 0, 0), [], 21, 0), (551, .iaload, 1, (0, 0, 0), [], 35, 0), (552, .aload_n 0, 1, (0, 0, 0), [], 3, 0), (553, .iload_n 3, 1, (0, 0, 0), [], 2, 3), (554, .iconst 2, 1, (0, 0, 0), [], 1, 2), (555, .iadd, 1, (0, 0, 0), [], 21, 0), (556, .iaload, 1, (0, 0, 0), [], 35, 0), (557, .i2l, 1, (0, 0, 0), [], 24, 0), (558, .bipush 32, 2, (0, 0, 0), [], 1, 32)],
  [(560, .lshl, 1, (0, 0, 0), [], 40, 0), (561, .aload_n 0, 1, (0, 0, 0), [], 3, 0), (562, .iload_n 3, 1, (0, 0, 0), [], 2, 3), (563, .iconst 3, 1, (0, 0, 0), [], 1, 3), (564, .iadd, 1, (0, 0, 0), [], 21, 0), (565, .iaload, 1, (0, 0, 0), [], 35, 0), (566, .i2l, 1, (0, 0, 0), [], 24, 0), (567, .ldc2_w 58, 3, (0, 0, 4294967295), [1910], 28, 4294967295), (570, .land, 1, (0, 0, 0), [], 40, 0), (571, .lor, 1, (0, 0, 0), [], 40, 0), (572, .aload_n 0, 1, (0, 0, 0), [], 3, 0), (573, .iload_n 3, 1, (0, 0, 0), [], 2, 3), (574, .iconst 4, 1, (0, 0, 0), [], 1, 4), (575, .iadd, 1, (0, 0, 0), [], 21, 0)],
  [(576, .iaload, 1, (0, 0, 0), [], 35, 0), (577, .invokevirtual 60, 3, (0, 54, 0), [640], 40, 0), (580, .pop, 1, (0, 0, 0), [], 40, 0), (581, .aload_n 2, 1, (0, 0, 0), [], 3, 2), (582, .aload_n 0, 1, (0, 0, 0), [], 3, 0), (583, .iload_n 3, 1, (0, 0, 0), [], 2, 3), (584, .iconst 1, 1, (0, 0, 0), [], 1, 1), (585, .iadd, 1, (0, 0, 0), [], 21, 0), (586, .iaload, 1, (0, 0, 0), [], 35, 0), (587, .aload_n 0, 1, (0, 0, 0), [], 3, 0), (588, .iload_n 3, 1, (0, 0, 0), [], 2, 3), (589, .iconst 2, 1, (0, 0, 0), [], 1, 2), (590, .iadd, 1, (0, 0, 0), [], 21, 0), (591, .iaload, 1, (0, 0, 0), [], 35, 0)],
  [(592, .i2l, 1, (0, 0, 0), [], 24, 0), (593, .bipush 32, 2, (0, 0, 0), [], 1, 32), (595, .lshl, 1, (0, 0, 0), [], 40, 0), (596, .aload_n 0, 1, (0, 0, 0), [], 3, 0), (597, .iload_n 3, 1, (0, 0, 0), [], 2, 3), (598, .iconst 3, 1, (0, 0, 0), [], 1, 3), (599, .iadd, 1, (0, 0, 0), [], 21, 0), (600, .iaload, 1, (0, 0, 0), [], 35, 0), (601, .i2l, 1, (0, 0, 0), [], 24, 0), (602, .ldc2_w 58, 3, (0, 0, 4294967295), [1910], 28, 4294967295), (605, .land, 1, (0, 0, 0), [], 40, 0), (606, .lor, 1, (0, 0, 0), [], 40, 0), (607, .aload_n 0, 1, (0, 0, 0), [], 3, 0)],
  [(608, .iload_n 3, 1, (0, 0, 0), [], 2, 3), (609, .iconst 4, 1, (0, 0, 0), [], 1, 4), (610, .iadd, 1, (0, 0, 0), [], 21, 0), (611, .iaload, 1, (0, 0, 0), [], 35, 0), (612, .invokevirtual 64, 3, (0, 56, 0), [1485], 40, 0), (615, .pop, 1, (0, 0, 0), [], 40, 0), (616, .goto 591, 3, (0, 0, 0), [], 8, 1207), (619, .aload_n 1, 1, (0, 0, 0), [], 3, 1), (620, .aload_n 0, 1, (0, 0, 0), [], 3, 0), (621, .iload_n 3, 1, (0, 0, 0), [], 2, 3), (622, .iconst 1, 1, (0, 0, 0), [], 1, 1), (623, .iadd, 1, (0, 0, 0), [], 21, 0)],
  [(624, .iaload, 1, (0, 0, 0), [], 35, 0), (625, .invokevirtual 65, 3, (0, 58, 0), [648], 40, 0), (628, .pop, 1, (0, 0, 0), [], 40, 0), (629, .aload_n 2, 1, (0, 0, 0), [], 3, 2), (630, .aload_n 0, 1, (0, 0, 0), [], 3, 0), (631, .iload_n 3, 1, (0, 0, 0), [], 2, 3), (632, .iconst 1, 1, (0, 0, 0), [], 1, 1), (633, .iadd, 1, (0, 0, 0), [], 21, 0), (634, .iaload, 1, (0, 0, 0), [], 35, 0), (635, .invokevirtual 68, 3, (0, 59, 0), [1494], 40, 0), (638, .pop, 1, (0, 0, 0), [], 40, 0), (639, .goto 568, 3, (0, 0, 0), [], 8, 1207)],
  [(642, .aload_n 1, 1, (0, 0, 0), [], 3, 1), (643, .aload_n 0, 1, (0, 0, 0), [], 3, 0), (644, .iload_n 3, 1, (0, 0, 0), [], 2, 3), (645, .iconst 1, 1, (0, 0, 0), [], 1, 1), (646, .iadd, 1, (0, 0, 0), [], 21, 0), (647, .iaload, 1, (0, 0, 0), [], 35, 0), (648, .invokevirtual 69, 3, (0, 60, 0), [653], 40, 0), (651, .pop, 1, (0, 0, 0), [], 40, 0), (652, .aload_n 2, 1, (0, 0, 0), [], 3, 2), (653, .aload_n 0, 1, (0, 0, 0), [], 3, 0), (654, .iload_n 3, 1, (0, 0, 0), [], 2, 3), (655, .iconst 1, 1, (0, 0, 0), [], 1, 1)],
  [(656, .iadd, 1, (0, 0, 0), [], 21, 0), (657, .iaload, 1, (0, 0, 0), [], 35, 0), (658, .invokevirtual 72, 3, (0, 63, 0), [1498], 40, 0), (661, .pop, 1, (0, 0, 0), [], 40, 0), (662, .goto 545, 3, (0, 0, 0), [], 8, 1207), (665, .aload_n 1, 1, (0, 0, 0), [], 3, 1), (666, .invokevirtual 73, 3, (0, 67, 0), [771], 40, 0), (669, .pop, 1, (0, 0, 0), [], 40, 0), (670, .aload_n 2, 1, (0, 0, 0), [], 3, 2), (671, .invokevirtual 76, 3, (0, 71, 0), [1547], 40, 0)],
  [(674, .pop, 1, (0, 0, 0), [], 40, 0), (675, .goto 532, 3, (0, 0, 0), [], 8, 1207), (678, .aload_n 1, 1, (0, 0, 0), [], 3, 1), (679, .aload_n 0, 1, (0, 0, 0), [], 3, 0), (680, .iload_n 3, 1, (0, 0, 0), [], 2, 3), (681, .iconst 1, 1, (0, 0, 0), [], 1, 1), (682, .iadd, 1, (0, 0, 0), [], 21, 0), (683, .iaload, 1, (0, 0, 0), [], 35, 0), (684, .invokevirtual 77, 3, (0, 72, 0), [804], 40, 0), (687, .pop, 1, (0, 0, 0), [], 40, 0)],
  [(688, .aload_n 2, 1, (0, 0, 0), [], 3, 2), (689, .aload_n 0, 1, (0, 0, 0), [], 3, 0), (690, .iload_n 3, 1, (0, 0, 0), [], 2, 3), (691, .iconst 1, 1, (0, 0, 0), [], 1, 1), (692, .iadd, 1, (0, 0, 0), [], 21, 0), (693, .iaload, 1, (0, 0, 0), [], 35, 0), (694, .invokevirtual 80, 3, (0, 77, 0), [1568], 40, 0), (697, .pop, 1, (0, 0, 0), [], 40, 0), (698, .goto 509, 3, (0, 0, 0), [], 8, 1207), (701, .aload_n 1, 1, (0, 0, 0), [], 3, 1), (702, .aload_n 0, 1, (0, 0, 0), [], 3, 0), (703, .iload_n 3, 1, (0, 0, 0), [], 2, 3)],
  [(704, .iconst 1, 1, (0, 0, 0), [], 1, 1), (705, .iadd, 1, (0, 0, 0), [], 21, 0), (706, .iaload, 1, (0, 0, 0), [], 35, 0), (707, .aload_n 0, 1, (0, 0, 0), [], 3, 0), (708, .iload_n 3, 1, (0, 0, 0), [], 2, 3), (709, .iconst 2, 1, (0, 0, 0), [], 1, 2), (710, .iadd, 1, (0, 0, 0), [], 21, 0), (711, .iaload, 1, (0, 0, 0), [], 35, 0), (712, .aload_n 0, 1, (0, 0, 0), [], 3, 0), (713, .iload_n 3, 1, (0, 0, 0), [], 2, 3), (714, .iconst 3, 1, (0, 0, 0), [], 1, 3), (715, .iadd, 1, (0, 0, 0), [], 21, 0), (716, .iaload, 1, (0, 0, 0), [], 35, 0), (717, .invokevirtual 81, 3, (0, 80, 0), [900], 40, 0)],
  [(720, .aload_n 2, 1, (0, 0, 0), [], 3, 2), (721, .aload_n 0, 1, (0, 0, 0), [], 3, 0), (722, .iload_n 3, 1, (0, 0, 0), [], 2, 3), (723, .iconst 1, 1, (0, 0, 0), [], 1, 1), (724, .iadd, 1, (0, 0, 0), [], 21, 0), (725, .iaload, 1, (0, 0, 0), [], 35, 0), (726, .aload_n 0, 1, (0, 0, 0), [], 3, 0), (727, .iload_n 3, 1, (0, 0, 0), [], 2, 3), (728, .iconst 2, 1, (0, 0, 0), [], 1, 2), (729, .iadd, 1, (0, 0, 0), [], 21, 0), (730, .iaload, 1, (0, 0, 0), [], 35, 0), (731, .aload_n 0, 1, (0, 0, 0), [], 3, 0), (732, .iload_n 3, 1, (0, 0, 0), [], 2, 3), (733, .iconst 3, 1, (0, 0, 0), [], 1, 3), (734, .iadd, 1, (0, 0, 0), [], 21, 0), (735, .iaload, 1, (0, 0, 0), [], 35, 0)],
  [(736, .invokevirtual 84, 3, (0, 81, 0), [1665], 40, 0), (739, .if_icmp .eq 468, 3, (0, 0, 0), [], 15, 1207), (742, .iconst 0, 1, (0, 0, 0), [], 1, 0), (743, .ireturn, 1, (0, 0, 0), [], 40, 0), (744, .aload_n 1, 1, (0, 0, 0), [], 3, 1), (745, .aload_n 0, 1, (0, 0, 0), [], 3, 0), (746, .iload_n 3, 1, (0, 0, 0), [], 2, 3), (747, .iconst 1, 1, (0, 0, 0), [], 1, 1), (748, .iadd, 1, (0, 0, 0), [], 21, 0), (749, .iaload, 1, (0, 0, 0), [], 35, 0), (750, .invokevirtual 85, 3, (0, 83, 0), [907], 40, 0)],
  [(753, .pop, 1, (0, 0, 0), [], 40, 0), (754, .aload_n 2, 1, (0, 0, 0), [], 3, 2), (755, .aload_n 0, 1, (0, 0, 0), [], 3, 0), (756, .iload_n 3, 1, (0, 0, 0), [], 2, 3), (757, .iconst 1, 1, (0, 0, 0), [], 1, 1), (758, .iadd, 1, (0, 0, 0), [], 21, 0), (759, .iaload, 1, (0, 0, 0), [], 35, 0), (760, .invokevirtual 88, 3, (0, 84, 0), [1670], 40, 0), (763, .pop, 1, (0, 0, 0), [], 40, 0), (764, .goto 443, 3, (0, 0, 0), [], 8, 1207), (767, .aload_n 1, 1, (0, 0, 0), [], 3, 1)],
  [(768, .aload_n 0, 1, (0, 0, 0), [], 3, 0), (769, .iload_n 3, 1, (0, 0, 0), [], 2, 3), (770, .iconst 1, 1, (0, 0, 0), [], 1, 1), (771, .iadd, 1, (0, 0, 0), [], 21, 0), (772, .iaload, 1, (0, 0, 0), [], 35, 0), (773, .aload_n 0, 1, (0, 0, 0), [], 3, 0), (774, .iload_n 3, 1, (0, 0, 0), [], 2, 3), (775, .iconst 2, 1, (0, 0, 0), [], 1, 2), (776, .iadd, 1, (0, 0, 0), [], 21, 0), (777, .iaload, 1, (0, 0, 0), [], 35, 0), (778, .invokevirtual 89, 3, (0, 85, 0), [912], 40, 0), (781, .pop, 1, (0, 0, 0), [], 40, 0), (782, .aload_n 2, 1, (0, 0, 0), [], 3, 2), (783, .aload_n 0, 1, (0, 0, 0), [], 3, 0)],
  [(784, .iload_n 3, 1, (0, 0, 0), [], 2, 3), (785, .iconst 1, 1, (0, 0, 0), [], 1, 1), (786, .iadd, 1, (0, 0, 0), [], 21, 0), (787, .iaload, 1, (0, 0, 0), [], 35, 0), (788, .aload_n 0, 1, (0, 0, 0), [], 3, 0), (789, .iload_n 3, 1, (0, 0, 0), [], 2, 3), (790, .iconst 2, 1, (0, 0, 0), [], 1, 2), (791, .iadd, 1, (0, 0, 0), [], 21, 0), (792, .iaload, 1, (0, 0, 0), [], 35, 0), (793, .invokevirtual 92, 3, (0, 87, 0), [1674], 40, 0), (796, .pop, 1, (0, 0, 0), [], 40, 0), (797, .goto 410, 3, (0, 0, 0), [], 8, 1207)],
  [(800, .aload_n 1, 1, (0, 0, 0), [], 3, 1), (801, .aload_n 0, 1, (0, 0, 0), [], 3, 0), (802, .iload_n 3, 1, (0, 0, 0), [], 2, 3), (803, .iconst 1, 1, (0, 0, 0), [], 1, 1), (804, .iadd, 1, (0, 0, 0), [], 21, 0), (805, .iaload, 1, (0, 0, 0), [], 35, 0), (806, .aload_n 0, 1, (0, 0, 0), [], 3, 0), (807, .iload_n 3, 1, (0, 0, 0), [], 2, 3), (808, .iconst 2, 1, (0, 0, 0), [], 1, 2), (809, .iadd, 1, (0, 0, 0), [], 21, 0), (810, .iaload, 1, (0, 0, 0), [], 35, 0), (811, .invokevirtual 93, 3, (0, 89, 0), [929], 40, 0), (814, .pop, 1, (0, 0, 0), [], 40, 0), (815, .aload_n 2, 1, (0, 0, 0), [], 3, 2)],
  [(816, .aload_n 0, 1, (0, 0, 0), [], 3, 0), (817, .iload_n 3, 1, (0, 0, 0), [], 2, 3), (818, .iconst 1, 1, (0, 0, 0), [], 1, 1), (819, .iadd, 1, (0, 0, 0), [], 21, 0), (820, .iaload, 1, (0, 0, 0), [], 35, 0), (821, .aload_n 0, 1, (0, 0, 0), [], 3, 0), (822, .iload_n 3, 1, (0, 0, 0), [], 2, 3), (823, .iconst 2, 1, (0, 0, 0), [], 1, 2), (824, .iadd, 1, (0, 0, 0), [], 21, 0), (825, .iaload, 1, (0, 0, 0), [], 35, 0), (826, .invokevirtual 96, 3, (0, 90, 0), [1688], 40, 0), (829, .pop, 1, (0, 0, 0), [], 40, 0), (830, .goto 377, 3, (0, 0, 0), [], 8, 1207)],
  [(833, .aload_n 1, 1, (0, 0, 0), [], 3, 1), (834, .aload_n 0, 1, (0, 0, 0), [], 3, 0), (835, .iload_n 3, 1, (0, 0, 0), [], 2, 3), (836, .iconst 1, 1, (0, 0, 0), [], 1, 1), (837, .iadd, 1, (0, 0, 0), [], 21, 0), (838, .iaload, 1, (0, 0, 0), [], 35, 0), (839, .aload_n 0, 1, (0, 0, 0), [], 3, 0), (840, .iload_n 3, 1, (0, 0, 0), [], 2, 3), (841, .iconst 2, 1, (0, 0, 0), [], 1, 2), (842, .iadd, 1, (0, 0, 0), [], 21, 0), (843, .iaload, 1, (0, 0, 0), [], 35, 0), (844, .aload_n 0, 1, (0, 0, 0), [], 3, 0), (845, .iload_n 3, 1, (0, 0, 0), [], 2, 3), (846, .iconst 3, 1, (0, 0, 0), [], 1, 3), (847, .iadd, 1, (0, 0, 0), [], 21, 0)],
  [(848, .iaload, 1, (0, 0, 0), [], 35, 0), (849, .invokevirtual 97, 3, (0, 91, 0), [937], 40, 0), (852, .pop, 1, (0, 0, 0), [], 40, 0), (853, .aload_n 2, 1, (0, 0, 0), [], 3, 2), (854, .aload_n 0, 1, (0, 0, 0), [], 3, 0), (855, .iload_n 3, 1, (0, 0, 0), [], 2, 3), (856, .iconst 1, 1, (0, 0, 0), [], 1, 1), (857, .iadd, 1, (0, 0, 0), [], 21, 0), (858, .iaload, 1, (0, 0, 0), [], 35, 0), (859, .aload_n 0, 1, (0, 0, 0), [], 3, 0), (860, .iload_n 3, 1, (0, 0, 0), [], 2, 3), (861, .iconst 2, 1, (0, 0, 0), [], 1, 2), (862, .iadd, 1, (0, 0, 0), [], 21, 0), (863, .iaload, 1, (0, 0, 0), [], 35, 0)],
  [(864, .aload_n 0, 1, (0, 0, 0), [], 3, 0), (865, .iload_n 3, 1, (0, 0, 0), [], 2, 3), (866, .iconst 3, 1, (0, 0, 0), [], 1, 3), (867, .iadd, 1, (0, 0, 0), [], 21, 0), (868, .iaload, 1, (0, 0, 0), [], 35, 0), (869, .invokevirtual 100, 3, (0, 92, 0), [1692], 40, 0), (872, .pop, 1, (0, 0, 0), [], 40, 0), (873, .goto 334, 3, (0, 0, 0), [], 8, 1207), (876, .aload_n 1, 1, (0, 0, 0), [], 3, 1), (877, .aload_n 0, 1, (0, 0, 0), [], 3, 0), (878, .iload_n 3, 1, (0, 0, 0), [], 2, 3), (879, .iconst 1, 1, (0, 0, 0), [], 1, 1)],
  [(880, .iadd, 1, (0, 0, 0), [], 21, 0), (881, .iaload, 1, (0, 0, 0), [], 35, 0), (882, .invokevirtual 101, 3, (0, 93, 0), [942], 40, 0), (885, .pop, 1, (0, 0, 0), [], 40, 0), (886, .aload_n 2, 1, (0, 0, 0), [], 3, 2), (887, .aload_n 0, 1, (0, 0, 0), [], 3, 0), (888, .iload_n 3, 1, (0, 0, 0), [], 2, 3), (889, .iconst 1, 1, (0, 0, 0), [], 1, 1), (890, .iadd, 1, (0, 0, 0), [], 21, 0), (891, .iaload, 1, (0, 0, 0), [], 35, 0), (892, .invokevirtual 104, 3, (0, 94, 0), [1697], 40, 0), (895, .pop, 1, (0, 0, 0), [], 40, 0)],
  [(896, .goto 311, 3, (0, 0, 0), [], 8, 1207), (899, .aload_n 1, 1, (0, 0, 0), [], 3, 1), (900, .invokevirtual 105, 3, (0, 95, 0), [951], 40, 0), (903, .pop, 1, (0, 0, 0), [], 40, 0), (904, .aload_n 2, 1, (0, 0, 0), [], 3, 2), (905, .invokevirtual 108, 3, (0, 96, 0), [1709], 40, 0), (908, .pop, 1, (0, 0, 0), [], 40, 0), (909, .goto 298, 3, (0, 0, 0), [], 8, 1207)],
  [(912, .aload_n 1, 1, (0, 0, 0), [], 3, 1), (913, .invokevirtual 109, 3, (0, 97, 0), [955], 40, 0), (916, .pop, 1, (0, 0, 0), [], 40, 0), (917, .aload_n 2, 1, (0, 0, 0), [], 3, 2), (918, .invokevirtual 112, 3, (0, 103, 0), [1713], 40, 0), (921, .pop, 1, (0, 0, 0), [], 40, 0), (922, .goto 285, 3, (0, 0, 0), [], 8, 1207), (925, .aload_n 1, 1, (0, 0, 0), [], 3, 1), (926, .invokevirtual 113, 3, (0, 107, 0), [1003], 40, 0)],
  [(929, .pop, 1, (0, 0, 0), [], 40, 0), (930, .aload_n 2, 1, (0, 0, 0), [], 3, 2), (931, .invokevirtual 116, 3, (0, 109, 0), [1733], 40, 0), (934, .pop, 1, (0, 0, 0), [], 40, 0), (935, .goto 272, 3, (0, 0, 0), [], 8, 1207), (938, .aload_n 1, 1, (0, 0, 0), [], 3, 1), (939, .invokevirtual 117, 3, (0, 111, 0), [1017], 40, 0), (942, .pop, 1, (0, 0, 0), [], 40, 0), (943, .aload_n 2, 1, (0, 0, 0), [], 3, 2)],
  [(944, .invokevirtual 120, 3, (0, 113, 0), [1745], 40, 0), (947, .pop, 1, (0, 0, 0), [], 40, 0), (948, .goto 259, 3, (0, 0, 0), [], 8, 1207), (951, .aload_n 1, 1, (0, 0, 0), [], 3, 1), (952, .aload_n 0, 1, (0, 0, 0), [], 3, 0), (953, .iload_n 3, 1, (0, 0, 0), [], 2, 3), (954, .iconst 1, 1, (0, 0, 0), [], 1, 1), (955, .iadd, 1, (0, 0, 0), [], 21, 0), (956, .iaload, 1, (0, 0, 0), [], 35, 0), (957, .invokevirtual 121, 3, (0, 114, 0), [1025], 40, 0)],
  [(960, .pop, 1, (0, 0, 0), [], 40, 0), (961, .aload_n 2, 1, (0, 0, 0), [], 3, 2), (962, .aload_n 0, 1, (0, 0, 0), [], 3, 0), (963, .iload_n 3, 1, (0, 0, 0), [], 2, 3), (964, .iconst 1, 1, (0, 0, 0), [], 1, 1), (965, .iadd, 1, (0, 0, 0), [], 21, 0), (966, .iaload, 1, (0, 0, 0), [], 35, 0), (967, .invokevirtual 124, 3, (0, 120, 0), [1757], 40, 0), (970, .pop, 1, (0, 0, 0), [], 40, 0), (971, .goto 236, 3, (0, 0, 0), [], 8, 1207), (974, .aload_n 1, 1, (0, 0, 0), [], 3, 1), (975, .aload_n 0, 1, (0, 0, 0), [], 3, 0)],
  [(976, .iload_n 3, 1, (0, 0, 0), [], 2, 3), (977, .iconst 1, 1, (0, 0, 0), [], 1, 1), (978, .iadd, 1, (0, 0, 0), [], 21, 0), (979, .iaload, 1, (0, 0, 0), [], 35, 0), (980, .invokevirtual 125, 3, (0, 125, 0), [1072], 40, 0), (983, .pop, 1, (0, 0, 0), [], 40, 0), (984, .aload_n 2, 1, (0, 0, 0), [], 3, 2), (985, .aload_n 0, 1, (0, 0, 0), [], 3, 0), (986, .iload_n 3, 1, (0, 0, 0), [], 2, 3), (987, .iconst 1, 1, (0, 0, 0), [], 1, 1), (988, .iadd, 1, (0, 0, 0), [], 21, 0), (989, .iaload, 1, (0, 0, 0), [], 35, 0), (990, .invokevirtual 128, 3, (0, 129, 0), [1777], 40, 0)],
  [(993, .pop, 1, (0, 0, 0), [], 40, 0), (994, .goto 213, 3, (0, 0, 0), [], 8, 1207), (997, .aload_n 1, 1, (0, 0, 0), [], 3, 1), (998, .invokevirtual 129, 3, (0, 134, 0), [1097], 40, 0), (1001, .pop, 1, (0, 0, 0), [], 40, 0), (1002, .aload_n 2, 1, (0, 0, 0), [], 3, 2), (1003, .invokevirtual 132, 3, (0, 136, 0), [1805], 40, 0), (1006, .pop, 1, (0, 0, 0), [], 40, 0), (1007, .goto 200, 3, (0, 0, 0), [], 8, 1207)],
  [(1010, .aload_n 1, 1, (0, 0, 0), [], 3, 1), (1011, .invokevirtual 133, 3, (0, 137, 0), [1135], 40, 0), (1014, .pop, 1, (0, 0, 0), [], 40, 0), (1015, .aload_n 2, 1, (0, 0, 0), [], 3, 2), (1016, .invokevirtual 136, 3, (0, 138, 0), [1837], 40, 0), (1019, .pop, 1, (0, 0, 0), [], 40, 0), (1020, .goto 187, 3, (0, 0, 0), [], 8, 1207), (1023, .aload_n 1, 1, (0, 0, 0), [], 3, 1)],
  [(1024, .invokevirtual 137, 3, (0, 139, 0), [1149], 40, 0), (1027, .pop, 1, (0, 0, 0), [], 40, 0), (1028, .aload_n 2, 1, (0, 0, 0), [], 3, 2), (1029, .invokevirtual 140, 3, (0, 145, 0), [1845], 40, 0), (1032, .pop, 1, (0, 0, 0), [], 40, 0), (1033, .goto 174, 3, (0, 0, 0), [], 8, 1207), (1036, .aload_n 1, 1, (0, 0, 0), [], 3, 1), (1037, .aload_n 0, 1, (0, 0, 0), [], 3, 0), (1038, .iload_n 3, 1, (0, 0, 0), [], 2, 3), (1039, .iconst 1, 1, (0, 0, 0), [], 1, 1)],
  [(1040, .iadd, 1, (0, 0, 0), [], 21, 0), (1041, .iaload, 1, (0, 0, 0), [], 35, 0), (1042, .invokevirtual 141, 3, (0, 151, 0), [1176], 40, 0), (1045, .pop, 1, (0, 0, 0), [], 40, 0), (1046, .aload_n 2, 1, (0, 0, 0), [], 3, 2), (1047, .aload_n 0, 1, (0, 0, 0), [], 3, 0), (1048, .iload_n 3, 1, (0, 0, 0), [], 2, 3), (1049, .iconst 1, 1, (0, 0, 0), [], 1, 1), (1050, .iadd, 1, (0, 0, 0), [], 21, 0), (1051, .iaload, 1, (0, 0, 0), [], 35, 0), (1052, .invokevirtual 144, 3, (0, 152, 0), [1868], 40, 0), (1055, .pop, 1, (0, 0, 0), [], 40, 0)],
  [(1056, .goto 151, 3, (0, 0, 0), [], 8, 1207), (1059, .aload_n 1, 1, (0, 0, 0), [], 3, 1), (1060, .aload_n 0, 1, (0, 0, 0), [], 3, 0), (1061, .iload_n 3, 1, (0, 0, 0), [], 2, 3), (1062, .iconst 1, 1, (0, 0, 0), [], 1, 1), (1063, .iadd, 1, (0, 0, 0), [], 21, 0), (1064, .iaload, 1, (0, 0, 0), [], 35, 0), (1065, .aload_n 0, 1, (0, 0, 0), [], 3, 0), (1066, .iload_n 3, 1, (0, 0, 0), [], 2, 3), (1067, .iconst 2, 1, (0, 0, 0), [], 1, 2), (1068, .iadd, 1, (0, 0, 0), [], 21, 0), (1069, .iaload, 1, (0, 0, 0), [], 35, 0), (1070, .aload_n 0, 1, (0, 0, 0), [], 3, 0), (1071, .iload_n 3, 1, (0, 0, 0), [], 2, 3)],
  [(1072, .iconst 3, 1, (0, 0, 0), [], 1, 3), (1073, .iadd, 1, (0, 0, 0), [], 21, 0), (1074, .iaload, 1, (0, 0, 0), [], 35, 0), (1075, .invokevirtual 145, 3, (0, 153, 0), [1186], 40, 0), (1078, .pop, 1, (0, 0, 0), [], 40, 0), (1079, .aload_n 2, 1, (0, 0, 0), [], 3, 2), (1080, .aload_n 0, 1, (0, 0, 0), [], 3, 0), (1081, .iload_n 3, 1, (0, 0, 0), [], 2, 3), (1082, .iconst 1, 1, (0, 0, 0), [], 1, 1), (1083, .iadd, 1, (0, 0, 0), [], 21, 0), (1084, .iaload, 1, (0, 0, 0), [], 35, 0), (1085, .aload_n 0, 1, (0, 0, 0), [], 3, 0), (1086, .iload_n 3, 1, (0, 0, 0), [], 2, 3), (1087, .iconst 2, 1, (0, 0, 0), [], 1, 2)],
  [(1088, .iadd, 1, (0, 0, 0), [], 21, 0), (1089, .iaload, 1, (0, 0, 0), [], 35, 0), (1090, .aload_n 0, 1, (0, 0, 0), [], 3, 0), (1091, .iload_n 3, 1, (0, 0, 0), [], 2, 3), (1092, .iconst 3, 1, (0, 0, 0), [], 1, 3), (1093, .iadd, 1, (0, 0, 0), [], 21, 0), (1094, .iaload, 1, (0, 0, 0), [], 35, 0), (1095, .invokevirtual 148, 3, (0, 154, 0), [1872], 40, 0), (1098, .pop, 1, (0, 0, 0), [], 40, 0), (1099, .goto 108, 3, (0, 0, 0), [], 8, 1207), (1102, .aload_n 1, 1, (0, 0, 0), [], 3, 1), (1103, .aload_n 0, 1, (0, 0, 0), [], 3, 0)],
  [(1104, .iload_n 3, 1, (0, 0, 0), [], 2, 3), (1105, .iconst 1, 1, (0, 0, 0), [], 1, 1), (1106, .iadd, 1, (0, 0, 0), [], 21, 0), (1107, .iaload, 1, (0, 0, 0), [], 35, 0), (1108, .invokevirtual 149, 3, (0, 155, 0), [1212], 40, 0), (1111, .pop2, 1, (0, 0, 0), [], 40, 0), (1112, .aload_n 2, 1, (0, 0, 0), [], 3, 2), (1113, .aload_n 0, 1, (0, 0, 0), [], 3, 0), (1114, .iload_n 3, 1, (0, 0, 0), [], 2, 3), (1115, .iconst 1, 1, (0, 0, 0), [], 1, 1), (1116, .iadd, 1, (0, 0, 0), [], 21, 0), (1117, .iaload, 1, (0, 0, 0), [], 35, 0), (1118, .invokevirtual 153, 3, (0, 156, 0), [1880], 40, 0)],
  [(1121, .pop2, 1, (0, 0, 0), [], 40, 0), (1122, .goto 85, 3, (0, 0, 0), [], 8, 1207), (1125, .aload_n 1, 1, (0, 0, 0), [], 3, 1), (1126, .aload_n 0, 1, (0, 0, 0), [], 3, 0), (1127, .iload_n 3, 1, (0, 0, 0), [], 2, 3), (1128, .iconst 1, 1, (0, 0, 0), [], 1, 1), (1129, .iadd, 1, (0, 0, 0), [], 21, 0), (1130, .iaload, 1, (0, 0, 0), [], 35, 0), (1131, .invokevirtual 154, 3, (0, 157, 0), [1217], 40, 0), (1134, .pop, 1, (0, 0, 0), [], 40, 0), (1135, .aload_n 2, 1, (0, 0, 0), [], 3, 2)],
  [(1136, .aload_n 0, 1, (0, 0, 0), [], 3, 0), (1137, .iload_n 3, 1, (0, 0, 0), [], 2, 3), (1138, .iconst 1, 1, (0, 0, 0), [], 1, 1), (1139, .iadd, 1, (0, 0, 0), [], 21, 0), (1140, .iaload, 1, (0, 0, 0), [], 35, 0), (1141, .invokevirtual 157, 3, (0, 158, 0), [1884], 40, 0), (1144, .pop, 1, (0, 0, 0), [], 40, 0), (1145, .goto 62, 3, (0, 0, 0), [], 8, 1207), (1148, .aload_n 1, 1, (0, 0, 0), [], 3, 1), (1149, .aload_n 0, 1, (0, 0, 0), [], 3, 0), (1150, .iload_n 3, 1, (0, 0, 0), [], 2, 3), (1151, .iconst 1, 1, (0, 0, 0), [], 1, 1)],
  [(1152, .iadd, 1, (0, 0, 0), [], 21, 0), (1153, .iaload, 1, (0, 0, 0), [], 35, 0), (1154, .invokevirtual 158, 3, (0, 159, 0), [1221], 40, 0), (1157, .pop, 1, (0, 0, 0), [], 40, 0), (1158, .aload_n 2, 1, (0, 0, 0), [], 3, 2), (1159, .aload_n 0, 1, (0, 0, 0), [], 3, 0), (1160, .iload_n 3, 1, (0, 0, 0), [], 2, 3), (1161, .iconst 1, 1, (0, 0, 0), [], 1, 1), (1162, .iadd, 1, (0, 0, 0), [], 21, 0), (1163, .iaload, 1, (0, 0, 0), [], 35, 0), (1164, .invokevirtual 161, 3, (0, 160, 0), [1888], 40, 0), (1167, .pop, 1, (0, 0, 0), [], 40, 0)],
  [(1168, .goto 39, 3, (0, 0, 0), [], 8, 1207), (1171, .aload_n 1, 1, (0, 0, 0), [], 3, 1), (1172, .aload_n 0, 1, (0, 0, 0), [], 3, 0), (1173, .iload_n 3, 1, (0, 0, 0), [], 2, 3), (1174, .iconst 1, 1, (0, 0, 0), [], 1, 1), (1175, .iadd, 1, (0, 0, 0), [], 21, 0), (1176, .iaload, 1, (0, 0, 0), [], 35, 0), (1177, .invokevirtual 162, 3, (0, 161, 0), [1225], 40, 0), (1180, .pop, 1, (0, 0, 0), [], 40, 0), (1181, .aload_n 2, 1, (0, 0, 0), [], 3, 2), (1182, .aload_n 0, 1, (0, 0, 0), [], 3, 0), (1183, .iload_n 3, 1, (0, 0, 0), [], 2, 3)],
  [(1184, .iconst 1, 1, (0, 0, 0), [], 1, 1), (1185, .iadd, 1, (0, 0, 0), [], 21, 0), (1186, .iaload, 1, (0, 0, 0), [], 35, 0), (1187, .invokevirtual 165, 3, (0, 163, 0), [1892], 40, 0), (1190, .pop, 1, (0, 0, 0), [], 40, 0), (1191, .goto 16, 3, (0, 0, 0), [], 8, 1207), (1194, .aload_n 1, 1, (0, 0, 0), [], 3, 1), (1195, .invokevirtual 166, 3, (0, 165, 0), [1233], 40, 0), (1198, .pop2, 1, (0, 0, 0), [], 40, 0), (1199, .aload_n 2, 1, (0, 0, 0), [], 3, 2)],
  [(1200, .invokevirtual 170, 3, (0, 170, 0), [1900], 40, 0), (1203, .pop2, 1, (0, 0, 0), [], 40, 0), (1204, .goto 3, 3, (0, 0, 0), [], 8, 1207), (1207, .iinc 3 5, 3, (3, 0, 5), [], 7, 5), (1210, .goto (-1192), 3, (0, 0, 0), [], 8, 18), (1213, .iconst 1, 1, (0, 0, 0), [], 1, 1), (1214, .ireturn, 1, (0, 0, 0), [], 40, 0)]])
theorem wk_L_len : (wk_Mx wk_mL).length = 76 := by decide +kernel
set_option maxRecDepth 100000 in
theorem wk_okLF : wq_sqs (wk_Mb wk_mL) (wq_f (wk_My wk_mL) 10 wk_mw) (wk_Mx wk_mL) 0 (wk_Mb wk_mL).data.toList = true := by decide +kernel
theorem wk_okLc : wq_cn 10 = (wk_My wk_mL).cls := by decide +kernel
theorem wk_L_ok : ∀ r ∈ wk_Mx wk_mL, ∀ row ∈ r, wk_okx wk_mt wk_mw (wk_My wk_mL) (wk_Mb wk_mL) row = true := by
  intro r hr row hrow
  obtain ⟨h7, h8⟩ := wq_sqs_ok (pc := 0) wk_okLF r hr row hrow
  obtain ⟨pc, i, n, x, wd, t, a⟩ := row
  unfold wq_f at h7
  simp only [Bool.and_eq_true] at h7
  unfold wk_okx
  simp only [Bool.and_eq_true, decide_eq_true_eq]
  exact ⟨h8, h7.1, wq_w_ok wk_okLc h7.2.1, h7.2.2⟩
end
section
-- 99.zr
/-! ===== the law's body: cells have been made ===== -/
def kL_Ev (g : kc_G) (M : wk_M) (p : Program) (e : Env) (R : Room) (s : State) (m : MethodId) (args : Array Value) (below : List Frame) (meth : Method) (c : Code) (as : List Nat) (nc ns : Nat) (Z : State → Prop) (pc : Nat) (AL : kc_L) (AS : List kc_V) (h : kc_H) : Prop :=
  ∀ (H : Heap) (locs : List Loc) (ws : va_W) (ls : Array Slot) (lv : List (Nat × Value)) (st : List Value), va_S (kc_gA g) s.heap H locs → wk_hr (kc_gD g) (kc_gA g) s as (kc_gz g) (kc_gs g) (kc_A h) ws H → lv_has ls (wk_Ml M) lv → wk_f2 (wk_rl as (kc_gz g) (kc_gs g)) (kc_el AL) lv → wk_f2 (wk_r as (kc_gz g) (kc_gs g)) (AS.map kc_e) st → W p g.1 e R s m args below meth c H locs nc ns Z (F0 m pc ls st)
section KLE
variable {g : kc_G} {d : Nat} {M : wk_M} {p : Program} {e : Env} {R : Room} {s : State} {m : MethodId} {args : Array Value} {below : List Frame} {meth : Method} {c : Code} {as : List Nat} {nc ns : Nat} {Z : State → Prop} {pc : Nat} {AL : kc_L} {AS : List kc_V} {h : kc_H} {i : Instr} {n : Nat} {x : Nat × Nat × Int} {wd : List Nat} {t : Nat} {a : Int}
set_option maxHeartbeats 1000000 in
theorem kL_pure (hF : kc_fix g d M p R s m args meth c) (hf : wk_fetch M pc = some (pc, i, n, x, wd, t, a)) {P : kc_P} (hp : kc_pure (wk_Ml M) i x.2.2 pc AL AS = some P) (k : kL_Ev g M p e R s m args below meth c as nc ns Z P.1 P.2.1 P.2.2 h) : kL_Ev g M p e R s m args below meth c as nc ns Z pc AL AS h := by
  intro H locs ws ls lv st hS hr hl ha hs
  obtain ⟨hd, hlk, hw, hot, hoc⟩ := kc_row hF hf
  have C := hF.1
  obtain ⟨hx, hb, hml, hown, hts, hK, hA, hname, hX, hz, hzA, hLz⟩ := id C
  have hc1 : ∀ idx, i = .ldc idx ∨ i = .ldc_w idx → (Jvm.Cond.constant (wk_My M).cls idx (Int32.ofInt x.2.2)).before args s = true := by
    intro idx hi
    rcases hi with rfl | rfl
    · match wd, hw with
      | [q1], hw => exact hts _ (wk_has_in hw)
      | [], hw => cases hw
      | _ :: _ :: _, hw => cases hw
    · match wd, hw with
      | [q1], hw => exact hts _ (wk_has_in hw)
      | [], hw => cases hw
      | _ :: _ :: _, hw => cases hw
  have hc2 : ∀ idx, i = .ldc2_w idx → (Jvm.Cond.constantLong (wk_My M).cls idx (Int64.ofInt x.2.2)).before args s = true := by
    rintro idx rfl
    match wd, hw with
    | [q1], hw => exact hts _ (wk_has_in hw)
    | [], hw => cases hw
    | _ :: _ :: _, hw => cases hw
  have hbx : wk_bx (fun _ => 0) ([] : wk_I) := fun j q hj => by simp at hj
  exact wk_pure_ok (ρ := fun _ => 0) (iv := []) hx hb hown hd hlk hc1 hc2 hbx (by decide) (kc_pure_e hp) hl (kc_rhoL ha) (kc_rhoS hs) (fun ls' lv' st' hl' ha' hs' => k H locs ws ls' lv' st' hS hr hl' (kc_rhoL ha') (kc_rhoS hs'))
theorem kL_hp (hF : kc_fix g d M p R s m args meth c) (hnc : nc ≤ R.cells) (hns : ns ≤ R.slots) (hf : wk_fetch M pc = some (pc, i, n, x, wd, t, a)) {dd : Nat} {AS2 : List wk_V} (hp : wk_hp (kc_gL g) [] i x (AS.map kc_e) (kc_A h) = some (dd, AS2, none, [], 0, 0)) {AS' : List kc_V}
    (hA2 : ∀ st : List Value, wk_f2 (wk_r as (kc_gz g) (kc_gs g)) AS2 st → wk_f2 (wk_r as (kc_gz g) (kc_gs g)) (AS'.map kc_e) st) (k : kL_Ev g M p e R s m args below meth c as nc ns Z (pc + dd) AL AS' h) : kL_Ev g M p e R s m args below meth c as nc ns Z pc AL AS h := by
  intro H locs ws ls lv st hS hr hl ha hs
  obtain ⟨hd, hlk, hw, hot, hoc⟩ := kc_row hF hf
  have hbx : wk_bx (kc_gs g) ([] : wk_I) := fun j q hj => by simp at hj
  refine wk_hp_ok hF.1 hbx hd hlk hw hp hl (Nat.le_trans (by omega) hF.2.2.2.1) (Nat.le_trans (by omega) hF.2.2.2.2.1) rfl (by omega) (by omega) hr hS hs (fun H' locs' more ws' st' hS' hr' hs' hsame => ?_)
  have hmore : more = [] := kc_same hr hr' rfl
  subst hmore
  rw [List.append_nil] at hr' hs'
  exact k H' locs' ws' ls lv st' hS' hr' hl ha (hA2 st' hs')
theorem kL_call (hF : kc_fix g d M p R s m args meth c) (hnc : nc ≤ R.cells) (hns : ns ≤ R.slots) (hf : wk_fetch M pc = some (pc, i, n, x, wd, t, a)) {M2 : wk_M} {av r : List kc_V} {Q2 : Option kc_V → kc_H → Prop} (hc : kc_cl i x AS = some (M2, av, r)) (hCon : kc_Con g d x.2.1 av h Q2) (k : ∀ rv h', Q2 rv h' → kL_Ev g M p e R s m args below meth c as nc ns Z (pc + 3) AL (rv.toList ++ r) h') : kL_Ev g M p e R s m args below meth c as nc ns Z pc AL AS h := by
  intro H locs ws ls lv st hS hr hl ha hs
  obtain ⟨hd, hlk, hw, hot, hoc⟩ := kc_row hF hf
  obtain ⟨M3, m1, m2, m3, d2, hd2, hMet⟩ := hCon
  cases (kc_cl_m hc).symm.trans m1
  have key := kc_call_ok (l := g.1) (e := e) (R := R) (below := below) (cells := nc) (slots := ns) (Q := Z) (d := d2) (B := kc_Bq g Q2 as) (AH := kc_A h) hF.1 wk_mt_ok hd hlk hw hoc (kc_cl_e hc) hl (fun vals hv => by rw [m2, m3]; exact hMet as ws vals hv) (by have := hF.2.2.2.1; omega) (by have := hF.2.2.2.2.1; omega) (by rw [m2]; exact hnc) (by rw [m3]; exact hns) hr hS hs
  rw [m2, m3] at key
  refine key (fun rx t locs1 rest hrest hB hal hS1 => ?_)
  obtain ⟨rv, h1, ws1, q1, q2, q3⟩ := hB
  refine k rv h1 q1 t.heap locs1 ws1 ls lv _ hS1 (wk_hr_moved hal q3) hl ha ?_
  cases rv with
  | none =>
    cases rx with
    | none => exact hrest
    | some _ => exact q2.elim
  | some v =>
    cases rx with
    | none => exact q2.elim
    | some xv => exact ⟨q2, hrest⟩
theorem kL_pop2 (hF : kc_fix g d M p R s m args meth c) {y : Int64} (hd : decode (wk_Mb M) pc = .ok (.pop2, 1)) (k : kL_Ev g M p e R s m args below meth c as nc ns Z (pc + 1) AL AS h) : kL_Ev g M p e R s m args below meth c as nc ns Z pc AL (.inr (.inl y) :: AS) h := by
  intro H locs ws ls lv st hS hr hl ha hs
  obtain ⟨hx, hb, hml, hown, hts, hK, hA, hname, hX, hz, hzA, hLz⟩ := hF.1
  obtain ⟨y1, st0, rfl, hj1, hs0⟩ := wk_f2_cons hs
  obtain ⟨j1, rfl, a1, a2⟩ := hj1
  exact lv_pop2_2 hx hb hd rfl (k H locs ws ls lv _ hS hr hl ha hs0)
theorem kL_sc (hF : kc_fix g d M p R s m args meth c) (hnc : nc ≤ R.cells) (hns : ns ≤ R.slots) {j : Nat} (hf : wk_fetch M pc = some (pc, .iaload, n, x, wd, t, a)) (hj : j < kc_gL g) (hL : kc_gL g < 2147483648) (k : kL_Ev g M p e R s m args below meth c as nc ns Z (pc + 1) AL (.inl (kc_gs g j) :: AS) h) : kL_Ev g M p e R s m args below meth c as nc ns Z pc AL (.inl (Int32.ofNat j) :: .inr (.inr (.inr 0)) :: AS) h := by
  obtain ⟨h1, h2⟩ := kc_ix_e (kx_ix hL hj)
  refine kL_hp hF hnc hns hf (dd := 1) (AS2 := .inr (.inr (.inr (0, j))) :: AS.map kc_e) ?_ (AS' := .inl (kc_gs g j) :: AS) (fun st hst => ?_) k
  · show wk_ild (kc_gL g) [] (kc_e (.inl (Int32.ofNat j))) (.inr (.inr (.inr (2, 0)))) (AS.map kc_e) (kc_A h) = _
    unfold wk_ild
    rw [h1]
    simp only [wk_scr, cond_true, kc_blt h2]
    rfl
  · obtain ⟨y0, st1, rfl, hv, hs1⟩ := wk_f2_cons hst
    have hv : y0 = .int (kc_gs g j) := hv
    subst hv
    exact ⟨⟨_, rfl, Int.le_refl _, Int.le_refl _⟩, hs1⟩
theorem kL_len (hF : kc_fix g d M p R s m args meth c) (hnc : nc ≤ R.cells) (hns : ns ≤ R.slots) (hf : wk_fetch M pc = some (pc, .arraylength, n, x, wd, t, a)) (k : kL_Ev g M p e R s m args below meth c as nc ns Z (pc + 1) AL (.inl (Int32.ofNat (kc_gL g)) :: AS) h) : kL_Ev g M p e R s m args below meth c as nc ns Z pc AL (.inr (.inr (.inr 0)) :: AS) h := by
  refine kL_hp hF hnc hns hf (dd := 1) (AS2 := wk_sI (Int32.ofNat (kc_gL g)) :: AS.map kc_e) ?_ (AS' := .inl (Int32.ofNat (kc_gL g)) :: AS) (fun st hst => hst) k
  show wk_aln (kc_gL g) (.inr (.inr (.inr (2, 0)))) (AS.map kc_e) (kc_A h) = _
  rfl
theorem kL_lo {L : kc_L} (hs : ∀ q ∈ L, kc_get AL q.1 = some q.2) (k : kL_Ev g M p e R s m args below meth c as nc ns Z pc L AS h) : kL_Ev g M p e R s m args below meth c as nc ns Z pc AL AS h := by
  intro H locs ws ls lv st hS hr hl ha hst
  obtain ⟨lv2, h1, h2⟩ := kf_sub_f2 ha L hs
  exact k H locs ws ls lv2 st hS hr ⟨hl.1, hl.2.1, fun q hq => hl.2.2 q (h2 q hq)⟩ h1 hst
def kL_one (M : wk_M) (pc : Nat) (L : kc_L) (S : List kc_V) : Option kc_P := match wk_fetch M pc with
  | some (pc0, i, _, x, _, _, _) => if pc0 = pc then kc_pure (wk_Ml M) i x.2.2 pc L S else none
  | none => none
def kL_run (M : wk_M) : Nat → Nat → kc_L → List kc_V → Option kc_P
  | 0, pc, L, S => some (pc, L, S)
  | n + 1, pc, L, S => match kL_one M pc L S with
    | some (pc', L', S') => kL_run M n pc' L' S'
    | none => none
theorem kL_one_r (hF : kc_fix g d M p R s m args meth c) {P : kc_P} (e0 : kL_one M pc AL AS = some P) (k : kL_Ev g M p e R s m args below meth c as nc ns Z P.1 P.2.1 P.2.2 h) : kL_Ev g M p e R s m args below meth c as nc ns Z pc AL AS h := by
  unfold kL_one at e0
  split at e0
  · rename_i pc0 i n x wd t a hf
    split at e0
    · rename_i hpc
      subst hpc
      exact kL_pure hF hf e0 k
    · cases e0
  · cases e0
end KLE
theorem kL_go {g : kc_G} {d : Nat} {M : wk_M} {p : Program} {e : Env} {R : Room} {s : State} {m : MethodId} {args : Array Value} {below : List Frame} {meth : Method} {c : Code} {as : List Nat} {nc ns : Nat} {Z : State → Prop} {h : kc_H} (hF : kc_fix g d M p R s m args meth c) : ∀ (n : Nat) {pc pc' : Nat} {L L' : kc_L} {S S' : List kc_V}, kL_run M n pc L S = some (pc', L', S') → kL_Ev g M p e R s m args below meth c as nc ns Z pc' L' S' h → kL_Ev g M p e R s m args below meth c as nc ns Z pc L S h
  | 0, _, _, _, _, _, _, e0, k => by cases e0; exact k
  | n + 1, pc, pc', L, L', S, S', e0, k => by
    have e0 : (match kL_one M pc L S with
      | some (pc', L', S') => kL_run M n pc' L' S'
      | none => none) = some (pc', L', S') := e0
    cases h1 : kL_one M pc L S with
    | none => rw [h1] at e0; cases e0
    | some q =>
      obtain ⟨p1, L1, S1⟩ := q
      rw [h1] at e0
      exact kL_one_r hF h1 (kL_go hF n e0 k)
theorem kL_ret {g : kc_G} {d : Nat} {M : wk_M} {p : Program} {e : Env} {R : Room} {s : State} {m : MethodId} {args : Array Value} {below : List Frame} {meth : Method} {c : Code} {as : List Nat} {nc ns : Nat} {h : kc_H} {pc : Nat} {AL : kc_L} {n : Nat} {x : Nat × Nat × Int} {wd : List Nat} {t : Nat} {a : Int} (hF : kc_fix g d M p R s m args meth c) (hf : wk_fetch M pc = some (pc, .ireturn, n, x, wd, t, a)) (hm : wk_Mr M = some .boolean) : kL_Ev g M p e R s m args below meth c as nc ns (MQ below (kc_B (fun rx _ => rx = some (.int 1)) (kc_gA g)) args s nc ns (kc_gA g)) pc AL [.inl (Int32.ofNat 1)] h := by
  intro H locs ws ls lv st hS hr hl ha hs
  obtain ⟨hd, hlk, hw, hot, hoc⟩ := kc_row hF hf
  obtain ⟨⟨hx, hb, -⟩, hret, hlocks, -⟩ := hF
  obtain ⟨y0, st1, rfl, hv, hs1⟩ := wk_f2_cons hs
  have := wk_f2_nil hs1
  subst this
  obtain ⟨i0, rfl, a1, a2⟩ := hv
  have e1 : i0 = 1 := Int32.toInt_inj.mp (by
    have : (Int32.ofNat 1).toInt = (1 : Int32).toInt := by decide
    simp only at a1 a2
    omega)
  subst e1
  obtain rfl := Nat.eq_of_beq_eq_true hlk
  exact W.zret hx hb (hret.trans hm) rfl (fun t ht hW => ⟨⟨_, rfl, rfl⟩, hS.F ht⟩) hS.2.2 hd hlocks
end
