section
-- 99.zpx
/-! ===== the acts: how a run begins ===== -/
def fa_zz (B : Nat → Int32) : Nat → Nat := fun j => if 10 ≤ j ∧ j < 20 then fa_n B (80 + 7 * (j - 10) + 2) else if 60 ≤ j ∧ j < 66 then fa_n B (52 + (j - 60)) else 0
theorem fa_zz0 {B : Nat → Int32} {j : Nat} (h1 : ¬ (10 ≤ j ∧ j < 20)) (h2 : ¬ (60 ≤ j ∧ j < 66)) : fa_zz B j = 0 := by
  unfold fa_zz
  rw [if_neg h1, if_neg h2]
theorem fa_zz1 {B : Nat → Int32} {l : Nat} (hl : l < 10) : fa_zz B (10 + l) = fa_n B (80 + 7 * l + 2) := by
  unfold fa_zz
  rw [if_pos (by omega), show 10 + l - 10 = l by omega]
theorem fa_zz2 {B : Nat → Int32} {p : Nat} (hp : p < 6) : fa_zz B (60 + p) = fa_n B (52 + p) := by
  unfold fa_zz
  rw [if_neg (by omega), if_pos (by omega), show 60 + p - 60 = p by omega]
theorem fa_nst {B : Nat → Int32} (hB : fu_BT B) {x : Nat} (hx : x < 6) : B (52 + x) = Int32.ofNat (fa_n B (52 + x)) ∧ fa_n B (52 + x) ≤ 9 := by
  obtain ⟨k, k1, k2⟩ := fu_nat (by decide) (fu_fst x hx).2.2 (hB (52 + x) (by omega) (fu_fst x hx).2.1)
  unfold fa_n
  rw [k2, kx_ti (by omega), Int.toNat_natCast]
  exact ⟨rfl, k1⟩
theorem fa_I_zz {B : Nat → Int32} {L : Nat} (hB : fu_BT B) (hL : L ≤ 10) : fa_I B (fa_zz B) L 0 := by
  refine ⟨by rw [fa_zz0 (by omega) (by omega)]; omega, by rw [fa_zz0 (by omega) (by omega)]; omega, by rw [fa_zz0 (by omega) (by omega)]; omega, by rw [fa_zz0 (by omega) (by omega)]; omega, by rw [fa_zz0 (by omega) (by omega)]; omega, fun l hl => ?_, fun s hs => by rw [fa_zz0 (by omega) (by omega)]; omega, fun s hs => by rw [fa_zz0 (by omega) (by omega)]; omega, fun s hs k hk => ?_, fun p hp => ?_, fun m hm => by rw [fa_zz0 (by omega) (by omega)]; omega⟩
  · rw [fa_zz1 (by omega)]
    have := (fa_nl (e := 2) hB (show l < 10 by omega) (by decide) (by decide) (fa_tl l (by omega)).2.2.1).2
    omega
  · rw [fa_zz0 (by omega) (by omega)] at hk
    omega
  · rw [fa_zz2 hp]
    have := (fa_nst hB hp).2
    omega
theorem fa_M_zz {B : Nat → Int32} {M : Nat} (hM : M ≤ 3) : fa_M B (fa_zz B) M := fun m hm => by
  have z : ∀ s, s < 6 → fa_bw B (fa_zz B) s = 0 := fun s hs => by
    unfold fa_bw
    rw [fa_zz0 (j := 20 + s) (by omega) (by omega)]
    unfold fa_b
    rw [fa_zz0 (by omega) (by omega), Nat.zero_mul]
  rw [z _ (by omega), z _ (by omega)]
  exact Nat.zero_le _
/-- any ints are told by some numbers -/
theorem fa_any (x : Int32) : ∃ k : Nat, x = Int32.ofNat k := ⟨x.toInt.toNat + (if x.toInt < 0 then 0 else 0) + (if x.toInt < 0 then (x.toInt + 4294967296).toNat else 0), by
  by_cases c : x.toInt < 0
  · rw [if_pos c, if_pos c, show x.toInt.toNat = 0 by omega, Nat.zero_add]
    apply Int32.toInt_inj.mp
    rw [Int32.toInt_ofNat', Int.toNat_of_nonneg (by have := x.le_toInt; omega)]
    have h1 := x.le_toInt
    have h2 := x.toInt_lt
    rw [Int.bmod_def, show (Int32.size : Int) = 4294967296 from rfl]
    omega
  · rw [if_neg c, if_neg c, Nat.add_zero]
    apply Int32.toInt_inj.mp
    have h2 := x.toInt_lt
    rw [kx_ti (by omega)]
    omega⟩
/-- the first m places of a cell, emptied -/
def fa_fl (h : kc_H) (c m : Nat) : kc_H := fun a b => if a = c ∧ b < m then .inl (Int32.ofNat 0) else h a b
theorem fa_fl_0 {h : kc_H} {c : Nat} : fa_fl h c 0 = h := by
  funext a b
  exact if_neg (fun q => by omega)
theorem fa_fl_s {h : kc_H} {c i : Nat} : kc_upd (fa_fl h c i) c i (.inl (Int32.ofNat 0)) = fa_fl h c (i + 1) := by
  funext a b
  by_cases e : a = c ∧ b = i
  · rw [e.1, e.2, fu_eq]
    exact (if_pos ⟨rfl, Nat.lt_succ_self i⟩).symm
  · rw [fu_ne e]
    unfold fa_fl
    by_cases e2 : a = c ∧ b < i
    · rw [if_pos e2, if_pos ⟨e2.1, by omega⟩]
    · rw [if_neg e2, if_neg (fun q => by omega)]
theorem fa_fl_i {h : kc_H} {c m b : Nat} (hb : b < m) : fa_fl h c m c b = .inl (Int32.ofNat 0) := if_pos ⟨rfl, hb⟩
theorem fa_fl_o {h : kc_H} {c m a b : Nat} (ha : ¬ a = c) : fa_fl h c m a b = h a b := if_neg (fun q => ha q.1)
set_option maxRecDepth 20000 in
theorem fa_f192l {g : kc_G} {d : Nat} {h : kc_H} (hg : kc_ok g) : ∀ u i : Nat, 6 - i = u → i ≤ 6 → kc_Ev g d wk_m3 (fun rv h' => rv = none ∧ h' = fa_fl h 192 6) 5 [(3, .inl (Int32.ofNat 6)), (2, .inl (Int32.ofNat i)), (0, .inr (.inr (.inl (some 192)))), (1, .inl (Int32.ofNat 0))] [] (fa_fl h 192 i) := by
  intro u
  induction u with
  | zero =>
    intro i hu hi
    refine kx_go 3 (pc' := (if kc_cnd .ge (Int32.ofNat i).toInt (Int32.ofNat 6).toInt then 20 else 10)) (L' := [(3, .inl (Int32.ofNat 6)), (2, .inl (Int32.ofNat i)), (0, .inr (.inr (.inl (some 192)))), (1, .inl (Int32.ofNat 0))]) (S' := []) (h' := (fa_fl h 192 i)) (by with_unfolding_all rfl) ?_
    rw [if_pos ((kx_ge (by omega) (by omega)).mpr (show 6 ≤ i by omega))]
    have ei : i = 6 := by omega
    subst ei
    exact kc_ret_ok rfl (rv := none) rfl ⟨rfl, rfl⟩
  | succ u ih =>
    intro i hu hi
    refine kx_go 3 (pc' := (if kc_cnd .ge (Int32.ofNat i).toInt (Int32.ofNat 6).toInt then 20 else 10)) (L' := [(3, .inl (Int32.ofNat 6)), (2, .inl (Int32.ofNat i)), (0, .inr (.inr (.inl (some 192)))), (1, .inl (Int32.ofNat 0))]) (S' := []) (h' := (fa_fl h 192 i)) (by with_unfolding_all rfl) ?_
    rw [if_neg (mt (kx_ge (by omega) (by omega)).mp (show ¬ 6 ≤ i by omega))]
    refine kx_go 3 (pc' := 13) (L' := [(3, .inl (Int32.ofNat 6)), (2, .inl (Int32.ofNat i)), (0, .inr (.inr (.inl (some 192)))), (1, .inl (Int32.ofNat 0))]) (S' := [.inl (Int32.ofNat 0), .inl (Int32.ofNat i), .inr (.inr (.inl (some 192)))]) (h' := (fa_fl h 192 i)) (by with_unfolding_all rfl) ?_
    refine kx_iast (c := 192) (j := i) (m := 6) rfl rfl (by decide) (by decide) (by omega) ?_
    rw [fa_fl_s]
    refine kx_go 2 (pc' := 5) (L' := [(2, .inl ((Int32.ofNat i) + Int32.ofInt 1)), (3, .inl (Int32.ofNat 6)), (0, .inr (.inr (.inl (some 192)))), (1, .inl (Int32.ofNat 0))]) (S' := []) (h' := (fa_fl h 192 (i + 1))) (by with_unfolding_all rfl) ?_
    rw [kx_inc]
    refine kf_lo (L := [(3, .inl (Int32.ofNat 6)), (2, .inl (Int32.ofNat (i + 1))), (0, .inr (.inr (.inl (some 192)))), (1, .inl (Int32.ofNat 0))]) (by intro q hq; simp only [List.mem_cons, List.not_mem_nil, or_false] at hq; rcases hq with rfl | rfl | rfl | rfl <;> rfl) ?_
    exact ih (i + 1) (by omega) (by omega)
set_option maxRecDepth 20000 in
theorem fa_f192 {g : kc_G} {d : Nat} {h : kc_H} (hg : kc_ok g) : kc_Con g (d + 1) 3 [.inr (.inr (.inl (some 192))), .inl (Int32.ofNat 0)] h (fun rv h' => rv = none ∧ h' = fa_fl h 192 6) := by
  refine kc_Con_new hg (M := wk_m3) rfl rfl rfl (show 2 ≤ 4 by decide) ?_
  refine kx_go 3 (pc' := 3) (L' := [(2, .inl (Int32.ofNat 0)), (0, .inr (.inr (.inl (some 192)))), (1, .inl (Int32.ofNat 0))]) (S' := [.inr (.inr (.inl (some 192)))]) (h' := h) (by with_unfolding_all rfl) ?_
  refine kx_go 1 (pc' := 4) (L' := [(2, .inl (Int32.ofNat 0)), (0, .inr (.inr (.inl (some 192)))), (1, .inl (Int32.ofNat 0))]) (S' := [.inl (Int32.ofNat 6)]) (h' := h) (by with_unfolding_all rfl) ?_
  refine kx_go 1 (pc' := 5) (L' := [(3, .inl (Int32.ofNat 6)), (2, .inl (Int32.ofNat 0)), (0, .inr (.inr (.inl (some 192)))), (1, .inl (Int32.ofNat 0))]) (S' := []) (h' := h) (by with_unfolding_all rfl) ?_
  refine kf_lo (L := [(3, .inl (Int32.ofNat 6)), (2, .inl (Int32.ofNat 0)), (0, .inr (.inr (.inl (some 192)))), (1, .inl (Int32.ofNat 0))]) (by intro q hq; simp only [List.mem_cons, List.not_mem_nil, or_false] at hq; rcases hq with rfl | rfl | rfl | rfl <;> rfl) ?_
  have k := fa_f192l (d := d) (h := h) hg 6 0 rfl (Nat.zero_le _)
  rw [fa_fl_0] at k
  exact k
set_option maxRecDepth 20000 in
theorem fa_f193l {g : kc_G} {d : Nat} {h : kc_H} (hg : kc_ok g) : ∀ u i : Nat, 6 - i = u → i ≤ 6 → kc_Ev g d wk_m3 (fun rv h' => rv = none ∧ h' = fa_fl h 193 6) 5 [(3, .inl (Int32.ofNat 6)), (2, .inl (Int32.ofNat i)), (0, .inr (.inr (.inl (some 193)))), (1, .inl (Int32.ofNat 0))] [] (fa_fl h 193 i) := by
  intro u
  induction u with
  | zero =>
    intro i hu hi
    refine kx_go 3 (pc' := (if kc_cnd .ge (Int32.ofNat i).toInt (Int32.ofNat 6).toInt then 20 else 10)) (L' := [(3, .inl (Int32.ofNat 6)), (2, .inl (Int32.ofNat i)), (0, .inr (.inr (.inl (some 193)))), (1, .inl (Int32.ofNat 0))]) (S' := []) (h' := (fa_fl h 193 i)) (by with_unfolding_all rfl) ?_
    rw [if_pos ((kx_ge (by omega) (by omega)).mpr (show 6 ≤ i by omega))]
    have ei : i = 6 := by omega
    subst ei
    exact kc_ret_ok rfl (rv := none) rfl ⟨rfl, rfl⟩
  | succ u ih =>
    intro i hu hi
    refine kx_go 3 (pc' := (if kc_cnd .ge (Int32.ofNat i).toInt (Int32.ofNat 6).toInt then 20 else 10)) (L' := [(3, .inl (Int32.ofNat 6)), (2, .inl (Int32.ofNat i)), (0, .inr (.inr (.inl (some 193)))), (1, .inl (Int32.ofNat 0))]) (S' := []) (h' := (fa_fl h 193 i)) (by with_unfolding_all rfl) ?_
    rw [if_neg (mt (kx_ge (by omega) (by omega)).mp (show ¬ 6 ≤ i by omega))]
    refine kx_go 3 (pc' := 13) (L' := [(3, .inl (Int32.ofNat 6)), (2, .inl (Int32.ofNat i)), (0, .inr (.inr (.inl (some 193)))), (1, .inl (Int32.ofNat 0))]) (S' := [.inl (Int32.ofNat 0), .inl (Int32.ofNat i), .inr (.inr (.inl (some 193)))]) (h' := (fa_fl h 193 i)) (by with_unfolding_all rfl) ?_
    refine kx_iast (c := 193) (j := i) (m := 6) rfl rfl (by decide) (by decide) (by omega) ?_
    rw [fa_fl_s]
    refine kx_go 2 (pc' := 5) (L' := [(2, .inl ((Int32.ofNat i) + Int32.ofInt 1)), (3, .inl (Int32.ofNat 6)), (0, .inr (.inr (.inl (some 193)))), (1, .inl (Int32.ofNat 0))]) (S' := []) (h' := (fa_fl h 193 (i + 1))) (by with_unfolding_all rfl) ?_
    rw [kx_inc]
    refine kf_lo (L := [(3, .inl (Int32.ofNat 6)), (2, .inl (Int32.ofNat (i + 1))), (0, .inr (.inr (.inl (some 193)))), (1, .inl (Int32.ofNat 0))]) (by intro q hq; simp only [List.mem_cons, List.not_mem_nil, or_false] at hq; rcases hq with rfl | rfl | rfl | rfl <;> rfl) ?_
    exact ih (i + 1) (by omega) (by omega)
set_option maxRecDepth 20000 in
theorem fa_f193 {g : kc_G} {d : Nat} {h : kc_H} (hg : kc_ok g) : kc_Con g (d + 1) 3 [.inr (.inr (.inl (some 193))), .inl (Int32.ofNat 0)] h (fun rv h' => rv = none ∧ h' = fa_fl h 193 6) := by
  refine kc_Con_new hg (M := wk_m3) rfl rfl rfl (show 2 ≤ 4 by decide) ?_
  refine kx_go 3 (pc' := 3) (L' := [(2, .inl (Int32.ofNat 0)), (0, .inr (.inr (.inl (some 193)))), (1, .inl (Int32.ofNat 0))]) (S' := [.inr (.inr (.inl (some 193)))]) (h' := h) (by with_unfolding_all rfl) ?_
  refine kx_go 1 (pc' := 4) (L' := [(2, .inl (Int32.ofNat 0)), (0, .inr (.inr (.inl (some 193)))), (1, .inl (Int32.ofNat 0))]) (S' := [.inl (Int32.ofNat 6)]) (h' := h) (by with_unfolding_all rfl) ?_
  refine kx_go 1 (pc' := 5) (L' := [(3, .inl (Int32.ofNat 6)), (2, .inl (Int32.ofNat 0)), (0, .inr (.inr (.inl (some 193)))), (1, .inl (Int32.ofNat 0))]) (S' := []) (h' := h) (by with_unfolding_all rfl) ?_
  refine kf_lo (L := [(3, .inl (Int32.ofNat 6)), (2, .inl (Int32.ofNat 0)), (0, .inr (.inr (.inl (some 193)))), (1, .inl (Int32.ofNat 0))]) (by intro q hq; simp only [List.mem_cons, List.not_mem_nil, or_false] at hq; rcases hq with rfl | rfl | rfl | rfl <;> rfl) ?_
  have k := fa_f193l (d := d) (h := h) hg 6 0 rfl (Nat.zero_le _)
  rw [fa_fl_0] at k
  exact k
set_option maxRecDepth 20000 in
theorem fa_f202l {g : kc_G} {d : Nat} {h : kc_H} (hg : kc_ok g) : ∀ u i : Nat, 3 - i = u → i ≤ 3 → kc_Ev g d wk_m3 (fun rv h' => rv = none ∧ h' = fa_fl h 202 3) 5 [(3, .inl (Int32.ofNat 3)), (2, .inl (Int32.ofNat i)), (0, .inr (.inr (.inl (some 202)))), (1, .inl (Int32.ofNat 0))] [] (fa_fl h 202 i) := by
  intro u
  induction u with
  | zero =>
    intro i hu hi
    refine kx_go 3 (pc' := (if kc_cnd .ge (Int32.ofNat i).toInt (Int32.ofNat 3).toInt then 20 else 10)) (L' := [(3, .inl (Int32.ofNat 3)), (2, .inl (Int32.ofNat i)), (0, .inr (.inr (.inl (some 202)))), (1, .inl (Int32.ofNat 0))]) (S' := []) (h' := (fa_fl h 202 i)) (by with_unfolding_all rfl) ?_
    rw [if_pos ((kx_ge (by omega) (by omega)).mpr (show 3 ≤ i by omega))]
    have ei : i = 3 := by omega
    subst ei
    exact kc_ret_ok rfl (rv := none) rfl ⟨rfl, rfl⟩
  | succ u ih =>
    intro i hu hi
    refine kx_go 3 (pc' := (if kc_cnd .ge (Int32.ofNat i).toInt (Int32.ofNat 3).toInt then 20 else 10)) (L' := [(3, .inl (Int32.ofNat 3)), (2, .inl (Int32.ofNat i)), (0, .inr (.inr (.inl (some 202)))), (1, .inl (Int32.ofNat 0))]) (S' := []) (h' := (fa_fl h 202 i)) (by with_unfolding_all rfl) ?_
    rw [if_neg (mt (kx_ge (by omega) (by omega)).mp (show ¬ 3 ≤ i by omega))]
    refine kx_go 3 (pc' := 13) (L' := [(3, .inl (Int32.ofNat 3)), (2, .inl (Int32.ofNat i)), (0, .inr (.inr (.inl (some 202)))), (1, .inl (Int32.ofNat 0))]) (S' := [.inl (Int32.ofNat 0), .inl (Int32.ofNat i), .inr (.inr (.inl (some 202)))]) (h' := (fa_fl h 202 i)) (by with_unfolding_all rfl) ?_
    refine kx_iast (c := 202) (j := i) (m := 3) rfl rfl (by decide) (by decide) (by omega) ?_
    rw [fa_fl_s]
    refine kx_go 2 (pc' := 5) (L' := [(2, .inl ((Int32.ofNat i) + Int32.ofInt 1)), (3, .inl (Int32.ofNat 3)), (0, .inr (.inr (.inl (some 202)))), (1, .inl (Int32.ofNat 0))]) (S' := []) (h' := (fa_fl h 202 (i + 1))) (by with_unfolding_all rfl) ?_
    rw [kx_inc]
    refine kf_lo (L := [(3, .inl (Int32.ofNat 3)), (2, .inl (Int32.ofNat (i + 1))), (0, .inr (.inr (.inl (some 202)))), (1, .inl (Int32.ofNat 0))]) (by intro q hq; simp only [List.mem_cons, List.not_mem_nil, or_false] at hq; rcases hq with rfl | rfl | rfl | rfl <;> rfl) ?_
    exact ih (i + 1) (by omega) (by omega)
set_option maxRecDepth 20000 in
theorem fa_f202 {g : kc_G} {d : Nat} {h : kc_H} (hg : kc_ok g) : kc_Con g (d + 1) 3 [.inr (.inr (.inl (some 202))), .inl (Int32.ofNat 0)] h (fun rv h' => rv = none ∧ h' = fa_fl h 202 3) := by
  refine kc_Con_new hg (M := wk_m3) rfl rfl rfl (show 2 ≤ 4 by decide) ?_
  refine kx_go 3 (pc' := 3) (L' := [(2, .inl (Int32.ofNat 0)), (0, .inr (.inr (.inl (some 202)))), (1, .inl (Int32.ofNat 0))]) (S' := [.inr (.inr (.inl (some 202)))]) (h' := h) (by with_unfolding_all rfl) ?_
  refine kx_go 1 (pc' := 4) (L' := [(2, .inl (Int32.ofNat 0)), (0, .inr (.inr (.inl (some 202)))), (1, .inl (Int32.ofNat 0))]) (S' := [.inl (Int32.ofNat 3)]) (h' := h) (by with_unfolding_all rfl) ?_
  refine kx_go 1 (pc' := 5) (L' := [(3, .inl (Int32.ofNat 3)), (2, .inl (Int32.ofNat 0)), (0, .inr (.inr (.inl (some 202)))), (1, .inl (Int32.ofNat 0))]) (S' := []) (h' := h) (by with_unfolding_all rfl) ?_
  refine kf_lo (L := [(3, .inl (Int32.ofNat 3)), (2, .inl (Int32.ofNat 0)), (0, .inr (.inr (.inl (some 202)))), (1, .inl (Int32.ofNat 0))]) (by intro q hq; simp only [List.mem_cons, List.not_mem_nil, or_false] at hq; rcases hq with rfl | rfl | rfl | rfl <;> rfl) ?_
  have k := fa_f202l (d := d) (h := h) hg 3 0 rfl (Nat.zero_le _)
  rw [fa_fl_0] at k
  exact k
theorem fa_fl_wt {h : kc_H} {c lo hi : Nat} (hw : kd_wt kd_ty h) (h1 : lo ≤ 2147483648) (h2 : 2147483648 ≤ hi) : ∀ m, (∀ b, b < m → kd_rn (kd_ty c) b = some (0, lo, hi)) → kd_wt kd_ty (fa_fl h c m)
  | 0, _ => by rw [fa_fl_0]; exact hw
  | m + 1, hk => by
    rw [← fa_fl_s]
    refine fu_wtu (hk m (Nat.lt_succ_self m)) ?_ (fa_fl_wt hw h1 h2 m (fun b hb => hk b (by omega)))
    rw [fa_nbn (by decide)]
    omega
def fa_cp (h : kc_H) (m : Nat) : kc_H := fun a b => if a = 201 ∧ b < m then h 10 b else h a b
theorem fa_cp_wt {B : Nat → Int32} {h : kc_H} (hw : kd_wt kd_ty h) (h10 : ∀ b, b < 6 → h 10 b = .inl (B (52 + b))) : ∀ m, m ≤ 6 → kd_wt kd_ty (fa_cp h m)
  | 0, _ => by
    have e : fa_cp h 0 = h := by
      funext a b
      exact if_neg (fun q => by omega)
    rw [e]; exact hw
  | m + 1, hm => by
    have e : fa_cp h (m + 1) = kc_upd (fa_cp h m) 201 m (.inl (B (52 + m))) := by
      funext a b
      by_cases c : a = 201 ∧ b = m
      · rw [c.1, c.2, fu_eq]
        exact (if_pos ⟨rfl, Nat.lt_succ_self m⟩).trans (h10 m (by omega))
      · rw [fu_ne c]
        unfold fa_cp
        by_cases e2 : a = 201 ∧ b < m
        · rw [if_pos e2, if_pos ⟨e2.1, by omega⟩]
        · rw [if_neg e2, if_neg (fun q => by omega)]
    rw [e]
    exact fa_wa (fa_k2.2.2.2.2.1 m (by omega)) (fa_cp_wt hw h10 m (by omega))
theorem fa_int {h : kc_H} {c i a b : Nat} (hw : kd_wt kd_ty h) (ht : kd_rn (kd_ty c) i = some (0, a, b)) : ∃ z : Int32, h c i = .inl z ∧ a ≤ kd_nb z ∧ kd_nb z ≤ b := hw c i _ ht
theorem fa_nt {h : kc_H} {c i a b : Nat} (hw : kd_wt kd_ty h) (ht : kd_rn (kd_ty c) i = some (0, a, b)) : ∃ k : Nat, h c i = .inl (Int32.ofNat k) := by
  obtain ⟨z, e, -⟩ := fa_int hw ht
  obtain ⟨k, rfl⟩ := fa_any z
  exact ⟨k, e⟩
theorem fa_nt3 {h : kc_H} {c i u : Nat} (hw : kd_wt kd_ty h) (hu : u < 2147483648) (ht : kd_rn (kd_ty c) i = some (0, 2147483648, 2147483648 + u)) : ∃ k : Nat, h c i = .inl (Int32.ofNat k) ∧ k ≤ u := by
  obtain ⟨z, e, h1, h2⟩ := fa_int hw ht
  have hz := kd_nb_i z
  refine ⟨z.toInt.toNat, ?_, by omega⟩
  rw [e]
  congr 1
  apply Int32.toInt_inj.mp
  rw [kx_ti (by omega)]
  omega
/-- what stands in the acts' cells is told by some numbers -/
theorem fa_C_any {h : kc_H} {L : Nat} (hw : kd_wt kd_ty h) (hL : L ≤ 10) : ∃ A, fa_C A L h ∧ ∀ s, s < 6 → A (20 + s) ≤ 3 := by
  have hn : ∃ N : Nat → Nat, h 190 2 = .inl (Int32.ofNat (N 0)) ∧ h 190 3 = .inl (Int32.ofNat (N 1)) ∧ h 190 4 = .inl (Int32.ofNat (N 2)) ∧ h 190 5 = .inl (Int32.ofNat (N 3)) ∧ h 190 6 = .inl (Int32.ofNat (N 4)) ∧ h 190 14 = .inl (Int32.ofNat (N 5)) := by
    obtain ⟨a, ea⟩ := fa_nt hw fa_k3.1
    obtain ⟨b, eb⟩ := fa_nt hw fa_k3.2.1
    obtain ⟨c, ec⟩ := fa_nt hw fa_k3.2.2.1
    obtain ⟨e, ee⟩ := fa_nt hw fa_k3.2.2.2.1
    obtain ⟨f, ef⟩ := fa_nt hw fa_k3.2.2.2.2.1
    obtain ⟨k, ek⟩ := fa_nt hw fa_k3.2.2.2.2.2
    exact ⟨fun j => if j = 0 then a else if j = 1 then b else if j = 2 then c else if j = 3 then e else if j = 4 then f else k, ea, eb, ec, ee, ef, ek⟩
  obtain ⟨N, hN⟩ := hn
  have t1 : ∀ l, ∃ k, l < 10 → h 191 l = .inl (Int32.ofNat k) := fun l => by
    by_cases c : l < 10
    · obtain ⟨k, e⟩ := fa_nt hw (fa_k2.1 l c); exact ⟨k, fun _ => e⟩
    · exact ⟨0, fun q => absurd q c⟩
  have t2 : ∀ s, ∃ k, k ≤ 3 ∧ (s < 6 → h 192 s = .inl (Int32.ofNat k)) := fun s => by
    by_cases c : s < 6
    · obtain ⟨k, e, e2⟩ := fa_nt3 hw (by decide) (fa_k2.2.1 s c); exact ⟨k, e2, fun _ => e⟩
    · exact ⟨0, by decide, fun q => absurd q c⟩
  have t3 : ∀ s, ∃ k, s < 6 → h 193 s = .inl (Int32.ofNat k) := fun s => by
    by_cases c : s < 6
    · obtain ⟨k, e⟩ := fa_nt hw (fa_k2.2.2.1 s c); exact ⟨k, fun _ => e⟩
    · exact ⟨0, fun q => absurd q c⟩
  have t4 : ∀ s, ∀ j, ∃ k, s < 6 → j < 3 → h (195 + s) j = .inl (Int32.ofNat k) := fun s j => by
    by_cases c : s < 6 ∧ j < 3
    · obtain ⟨k, e⟩ := fa_nt hw (fa_k2.2.2.2.1 s c.1 j c.2); exact ⟨k, fun _ _ => e⟩
    · exact ⟨0, fun q1 q2 => absurd ⟨q1, q2⟩ c⟩
  have t5 : ∀ s, ∃ k, s < 6 → h 201 s = .inl (Int32.ofNat k) := fun s => by
    by_cases c : s < 6
    · obtain ⟨k, e⟩ := fa_nt hw (fa_k2.2.2.2.2.1 s c); exact ⟨k, fun _ => e⟩
    · exact ⟨0, fun q => absurd q c⟩
  have t6 : ∀ s, ∃ k, s < 3 → h 202 s = .inl (Int32.ofNat k) := fun s => by
    by_cases c : s < 3
    · obtain ⟨k, e⟩ := fa_nt hw (fa_k2.2.2.2.2.2.1 s c); exact ⟨k, fun _ => e⟩
    · exact ⟨0, fun q => absurd q c⟩
  let f1 := fun l => Classical.choose (t1 l)
  let f2 := fun l => Classical.choose (t2 l)
  let f3 := fun l => Classical.choose (t3 l)
  let f4 := fun s j => Classical.choose (t4 s j)
  let f5 := fun l => Classical.choose (t5 l)
  let f6 := fun l => Classical.choose (t6 l)
  have g1 := fun l => Classical.choose_spec (t1 l)
  have g2 := fun l => Classical.choose_spec (t2 l)
  have g3 := fun l => Classical.choose_spec (t3 l)
  have g4 := fun s j => Classical.choose_spec (t4 s j)
  have g5 := fun l => Classical.choose_spec (t5 l)
  have g6 := fun l => Classical.choose_spec (t6 l)
  refine ⟨fun j => if j < 10 then N j else if j < 20 then f1 (j - 10) else if j < 30 then f2 (j - 20) else if j < 40 then f3 (j - 30) else if j < 60 then f4 ((j - 40) / 3) ((j - 40) % 3) else if j < 70 then f5 (j - 60) else f6 (j - 70), ⟨hN, fun l hl => ?_, fun s hs => ?_, fun s hs => ?_, fun s hs k hk => ?_, fun p hp => ?_, fun m hm => ?_⟩, fun s hs => ?_⟩
  · show h 191 l = .inl (Int32.ofNat (if 10 + l < 10 then _ else if 10 + l < 20 then f1 (10 + l - 10) else _))
    rw [if_neg (by omega), if_pos (by omega), show 10 + l - 10 = l by omega]
    exact g1 l (by omega)
  · show h 192 s = .inl (Int32.ofNat (if 20 + s < 10 then _ else if 20 + s < 20 then _ else if 20 + s < 30 then f2 (20 + s - 20) else _))
    rw [if_neg (by omega), if_neg (by omega), if_pos (by omega), show 20 + s - 20 = s by omega]
    exact (g2 s).2 hs
  · show h 193 s = .inl (Int32.ofNat (if 30 + s < 10 then _ else if 30 + s < 20 then _ else if 30 + s < 30 then _ else if 30 + s < 40 then f3 (30 + s - 30) else _))
    rw [if_neg (by omega), if_neg (by omega), if_neg (by omega), if_pos (by omega), show 30 + s - 30 = s by omega]
    exact g3 s hs
  · have k3 : k < 3 := by
      have hk2 : k < (if 20 + s < 10 then N (20 + s) else if 20 + s < 20 then f1 (20 + s - 10) else if 20 + s < 30 then f2 (20 + s - 20) else if 20 + s < 40 then f3 (20 + s - 30) else if 20 + s < 60 then f4 ((20 + s - 40) / 3) ((20 + s - 40) % 3) else if 20 + s < 70 then f5 (20 + s - 60) else f6 (20 + s - 70)) := hk
      rw [if_neg (by omega), if_neg (by omega), if_pos (by omega)] at hk2
      exact Nat.lt_of_lt_of_le hk2 (g2 _).1
    show h (195 + s) k = .inl (Int32.ofNat (if 40 + 3 * s + k < 10 then _ else if 40 + 3 * s + k < 20 then _ else if 40 + 3 * s + k < 30 then _ else if 40 + 3 * s + k < 40 then _ else if 40 + 3 * s + k < 60 then f4 ((40 + 3 * s + k - 40) / 3) ((40 + 3 * s + k - 40) % 3) else _))
    rw [if_neg (by omega), if_neg (by omega), if_neg (by omega), if_neg (by omega), if_pos (by omega), show (40 + 3 * s + k - 40) / 3 = s by omega, show (40 + 3 * s + k - 40) % 3 = k by omega]
    exact g4 s k hs k3
  · show h 201 p = .inl (Int32.ofNat (if 60 + p < 10 then _ else if 60 + p < 20 then _ else if 60 + p < 30 then _ else if 60 + p < 40 then _ else if 60 + p < 60 then _ else if 60 + p < 70 then f5 (60 + p - 60) else _))
    rw [if_neg (by omega), if_neg (by omega), if_neg (by omega), if_neg (by omega), if_neg (by omega), if_pos (by omega), show 60 + p - 60 = p by omega]
    exact g5 p hp
  · show h 202 m = .inl (Int32.ofNat (if 70 + m < 10 then _ else if 70 + m < 20 then _ else if 70 + m < 30 then _ else if 70 + m < 40 then _ else if 70 + m < 60 then _ else if 70 + m < 70 then _ else f6 (70 + m - 70)))
    rw [if_neg (by omega), if_neg (by omega), if_neg (by omega), if_neg (by omega), if_neg (by omega), if_neg (by omega), show 70 + m - 70 = m by omega]
    exact g6 m hm
  · show (if 20 + s < 10 then N (20 + s) else if 20 + s < 20 then f1 (20 + s - 10) else if 20 + s < 30 then f2 (20 + s - 20) else if 20 + s < 40 then f3 (20 + s - 30) else if 20 + s < 60 then f4 ((20 + s - 40) / 3) ((20 + s - 40) % 3) else if 20 + s < 70 then f5 (20 + s - 60) else f6 (20 + s - 70)) ≤ 3
    rw [if_neg (by omega), if_neg (by omega), if_pos (by omega)]
    exact (g2 _).1
set_option maxRecDepth 20000 in
theorem fa_c74l {g : kc_G} {d : Nat} {h0 : kc_H} {B : Nat → Int32} {D M L : Nat} (hg : kc_ok g) (hBB : fa_BB B D M L) (hC0 : fu_C B 1 h0) : ∀ (u l : Nat) (A : Nat → Nat) (h : kc_H), L - l = u → l ≤ L → fa_Hc h0 A L h → (∀ s, s < 6 → A (20 + s) ≤ 3) → (∀ j, j < 6 → A j = 0) → (∀ l2, l2 < l → A (10 + l2) = fa_n B (80 + 7 * l2 + 2)) → kc_Ev g (d + 3) wk_m74 (fun rv h' => rv = none ∧ fa_Hc h0 (fa_zz B) L h' ∧ fa_W B (fa_zz B) L h') 32 [(1, .inl (Int32.ofNat l)), (0, .inr (.inr (.inl (some 190))))] [] h := by
  obtain ⟨hB, ⟨eD, hD⟩, ⟨eM, hM⟩, eL, hL⟩ := id hBB
  intro u
  induction u with
  | zero =>
    intro l A h hu hl hH h3 hz hp
    have hH1 := hH
    obtain ⟨hw, hA, hF⟩ := hH
    have hC := fa_hc hF hC0
    refine kx_go 2 (pc' := 34) (L' := [(1, .inl (Int32.ofNat l)), (0, .inr (.inr (.inl (some 190))))]) (S' := [.inr (.inr (.inl (some 190))), .inl (Int32.ofNat l)]) (h' := h) (by with_unfolding_all rfl) ?_
    refine kx_getf (c := 190) (v := .inr (.inr (.inl (some 1)))) rfl (by decide) (kx_ofr (hw _ _ _ fa_k.1)) ?_
    refine kx_getf (c := 1) (v := .inl (Int32.ofNat L)) rfl (by decide) ((fu_C0 hC).2.2.1.trans (by rw [eL])) ?_
    refine kx_go 1 (pc' := (if kc_cnd .ge (Int32.ofNat l).toInt (Int32.ofNat L).toInt then 66 else 43)) (L' := [(1, .inl (Int32.ofNat l)), (0, .inr (.inr (.inl (some 190))))]) (S' := []) (h' := h) (by with_unfolding_all rfl) ?_
    rw [if_pos ((kx_ge (by omega) (by omega)).mpr (show L ≤ l by omega))]
    refine kx_go 1 (pc' := 67) (L' := [(1, .inl (Int32.ofNat l)), (0, .inr (.inr (.inl (some 190))))]) (S' := [.inr (.inr (.inl (some 190)))]) (h' := h) (by with_unfolding_all rfl) ?_
    refine kc_call_rule (M2 := wk_m75) (av := [.inr (.inr (.inl (some 190)))]) (r := []) rfl rfl (kc_Con_le (fa_c75 (d := 0) hg hBB hC0 (by rw [hz 5 (by decide)]; decide) hH1) (by omega)) (fun rv h2 hq => ?_)
    obtain ⟨rfl, H2, W2⟩ := hq
    show kc_Ev g (d + 3) wk_m74 _ 70 [(1, .inl (Int32.ofNat l)), (0, .inr (.inr (.inl (some 190))))] [] h2
    have hw2 := H2.1
    have hC2 := fa_hc H2.2.2 hC0
    have h10 : ∀ b, b < 6 → h2 10 b = .inl (B (52 + b)) := fun b hb => fu_Cj (c := 9) (i := b) hC2 (by omega) (fu_fst b hb).2.1 (fu_fst b hb).1
    refine kx_go 1 (pc' := 71) (L' := [(1, .inl (Int32.ofNat l)), (0, .inr (.inr (.inl (some 190))))]) (S' := [.inr (.inr (.inl (some 190)))]) (h' := h2) (by with_unfolding_all rfl) ?_
    refine kx_getf (c := 190) (v := .inr (.inr (.inl (some 1)))) rfl (by decide) (kx_ofr (hw2 _ _ _ fa_k.1)) ?_
    refine kx_getf (c := 1) (v := .inr (.inr (.inl (some 10)))) rfl (by decide) (kx_ofr (hw2 _ _ _ fu_kr.2.2.1)) ?_
    refine kx_go 2 (pc' := 79) (L' := [(1, .inl (Int32.ofNat l)), (0, .inr (.inr (.inl (some 190))))]) (S' := [.inr (.inr (.inl (some 190))), .inl (Int32.ofNat 0), .inr (.inr (.inl (some 10)))]) (h' := h2) (by with_unfolding_all rfl) ?_
    refine kx_getf (c := 190) (v := .inr (.inr (.inl (some 201)))) rfl (by decide) (kx_ofr (hw2 _ _ _ fa_k.2.2.2.2.2.2.1)) ?_
    refine kx_go 2 (pc' := 85) (L' := [(1, .inl (Int32.ofNat l)), (0, .inr (.inr (.inl (some 190))))]) (S' := [.inl (Int32.ofNat 6), .inl (Int32.ofNat 0), .inr (.inr (.inl (some 201))), .inl (Int32.ofNat 0), .inr (.inr (.inl (some 10)))]) (h' := h2) (by with_unfolding_all rfl) ?_
    refine kc_heap_ok rfl (dd := 3) (AS' := []) (h' := kc_cpy h2 201 10 6) (by with_unfolding_all rfl) ?_
    have hw3 : kd_wt kd_ty (kc_cpy h2 201 10 6) := fa_cp_wt hw2 h10 6 (Nat.le_refl _)
    have k1 : ∀ b, b < 6 → kc_cpy h2 201 10 6 201 b = .inl (B (52 + b)) := fun b hb => (if_pos ⟨rfl, hb⟩).trans (h10 b hb)
    have k2 : ∀ a b, ¬ a = 201 → kc_cpy h2 201 10 6 a b = h2 a b := fun a b q => if_neg (fun r => q r.1)
    generalize kc_cpy h2 201 10 6 = h3c at hw3 k1 k2 ⊢
    show kc_Ev g (d + 3) wk_m74 _ 88 [(1, .inl (Int32.ofNat l)), (0, .inr (.inr (.inl (some 190))))] [] h3c
    refine kx_go 1 (pc' := 89) (L' := [(1, .inl (Int32.ofNat l)), (0, .inr (.inr (.inl (some 190))))]) (S' := [.inr (.inr (.inl (some 190)))]) (h' := h3c) (by with_unfolding_all rfl) ?_
    refine kx_getf (c := 190) (v := .inr (.inr (.inl (some 192)))) rfl (by decide) (kx_ofr (hw3 _ _ _ fa_k.2.2.2.1)) ?_
    refine kx_go 1 (pc' := 93) (L' := [(1, .inl (Int32.ofNat l)), (0, .inr (.inr (.inl (some 190))))]) (S' := [.inl (Int32.ofNat 0), .inr (.inr (.inl (some 192)))]) (h' := h3c) (by with_unfolding_all rfl) ?_
    refine kc_call_rule (M2 := wk_m3) (av := [.inr (.inr (.inl (some 192))), .inl (Int32.ofNat 0)]) (r := []) rfl rfl (kc_Con_le (fa_f192 (d := 0) hg) (by omega)) (fun rv h192 hq => ?_)
    obtain ⟨rfl, e192⟩ := hq
    have hw192 : kd_wt kd_ty h192 := by rw [e192]; exact fa_fl_wt (lo := 2147483648) (hi := 2147483648 + 3) hw3 (by decide) (by decide) 6 (fun b hb => fa_k2.2.1 b hb)
    have i192 : ∀ b, b < 6 → h192 192 b = .inl (Int32.ofNat 0) := fun b hb => by rw [e192]; exact fa_fl_i hb
    have o192 : ∀ a b, ¬ a = 192 → h192 a b = h3c a b := fun a b q => by rw [e192]; exact fa_fl_o q
    clear e192
    show kc_Ev g (d + 3) wk_m74 _ 96 [(1, .inl (Int32.ofNat l)), (0, .inr (.inr (.inl (some 190))))] [] h192
    refine kx_go 1 (pc' := 97) (L' := [(1, .inl (Int32.ofNat l)), (0, .inr (.inr (.inl (some 190))))]) (S' := [.inr (.inr (.inl (some 190)))]) (h' := h192) (by with_unfolding_all rfl) ?_
    refine kx_getf (c := 190) (v := .inr (.inr (.inl (some 193)))) rfl (by decide) (kx_ofr (hw192 _ _ _ fa_k.2.2.2.2.1)) ?_
    refine kx_go 1 (pc' := 101) (L' := [(1, .inl (Int32.ofNat l)), (0, .inr (.inr (.inl (some 190))))]) (S' := [.inl (Int32.ofNat 0), .inr (.inr (.inl (some 193)))]) (h' := h192) (by with_unfolding_all rfl) ?_
    refine kc_call_rule (M2 := wk_m3) (av := [.inr (.inr (.inl (some 193))), .inl (Int32.ofNat 0)]) (r := []) rfl rfl (kc_Con_le (fa_f193 (d := 0) hg) (by omega)) (fun rv h193 hq => ?_)
    obtain ⟨rfl, e193⟩ := hq
    have hw193 : kd_wt kd_ty h193 := by rw [e193]; exact fa_fl_wt (lo := 0) (hi := 4294967295) hw192 (by decide) (by decide) 6 (fun b hb => fa_k2.2.2.1 b hb)
    have i193 : ∀ b, b < 6 → h193 193 b = .inl (Int32.ofNat 0) := fun b hb => by rw [e193]; exact fa_fl_i hb
    have o193 : ∀ a b, ¬ a = 193 → h193 a b = h192 a b := fun a b q => by rw [e193]; exact fa_fl_o q
    clear e193
    show kc_Ev g (d + 3) wk_m74 _ 104 [(1, .inl (Int32.ofNat l)), (0, .inr (.inr (.inl (some 190))))] [] h193
    refine kx_go 1 (pc' := 105) (L' := [(1, .inl (Int32.ofNat l)), (0, .inr (.inr (.inl (some 190))))]) (S' := [.inr (.inr (.inl (some 190)))]) (h' := h193) (by with_unfolding_all rfl) ?_
    refine kx_getf (c := 190) (v := .inr (.inr (.inl (some 202)))) rfl (by decide) (kx_ofr (hw193 _ _ _ fa_k.2.2.2.2.2.2.2.1)) ?_
    refine kx_go 1 (pc' := 109) (L' := [(1, .inl (Int32.ofNat l)), (0, .inr (.inr (.inl (some 190))))]) (S' := [.inl (Int32.ofNat 0), .inr (.inr (.inl (some 202)))]) (h' := h193) (by with_unfolding_all rfl) ?_
    refine kc_call_rule (M2 := wk_m3) (av := [.inr (.inr (.inl (some 202))), .inl (Int32.ofNat 0)]) (r := []) rfl rfl (kc_Con_le (fa_f202 (d := 0) hg) (by omega)) (fun rv h202 hq => ?_)
    obtain ⟨rfl, e202⟩ := hq
    have hw202 : kd_wt kd_ty h202 := by rw [e202]; exact fa_fl_wt (lo := 0) (hi := 4294967295) hw193 (by decide) (by decide) 3 (fun b hb => fa_k2.2.2.2.2.2.1 b hb)
    have i202 : ∀ b, b < 3 → h202 202 b = .inl (Int32.ofNat 0) := fun b hb => by rw [e202]; exact fa_fl_i hb
    have o202 : ∀ a b, ¬ a = 202 → h202 a b = h193 a b := fun a b q => by rw [e202]; exact fa_fl_o q
    clear e202
    show kc_Ev g (d + 3) wk_m74 _ 112 [(1, .inl (Int32.ofNat l)), (0, .inr (.inr (.inl (some 190))))] [] h202
    have e : ∀ a b, ¬ a = 201 → ¬ a = 192 → ¬ a = 193 → ¬ a = 202 → h202 a b = h2 a b := fun a b q1 q2 q3 q4 => by rw [o202 a b q4, o193 a b q3, o192 a b q2, k2 a b q1]
    have n0 : ∀ j, j < 6 → Int32.ofNat (A j) = Int32.ofNat (fa_zz B j) := fun j hj => by rw [hz j hj, fa_zz0 (by omega) (by omega)]
    obtain ⟨-, hA2, hF2⟩ := H2
    refine kc_ret_ok rfl (rv := none) rfl ⟨rfl, ⟨hw202, ⟨⟨?x0, ?x1, ?x2, ?x3, ?x4, ?x5⟩, ?cat, ?hi, ?st, ?pi, ?li, ?so⟩, ?fr⟩, ?W⟩
    case x0 => rw [e 190 2 (by decide) (by decide) (by decide) (by decide), hA2.1.1, n0 0 (by decide)]
    case x1 => rw [e 190 3 (by decide) (by decide) (by decide) (by decide), hA2.1.2.1, n0 1 (by decide)]
    case x2 => rw [e 190 4 (by decide) (by decide) (by decide) (by decide), hA2.1.2.2.1, n0 2 (by decide)]
    case x3 => rw [e 190 5 (by decide) (by decide) (by decide) (by decide), hA2.1.2.2.2.1, n0 3 (by decide)]
    case x4 => rw [e 190 6 (by decide) (by decide) (by decide) (by decide), hA2.1.2.2.2.2.1, n0 4 (by decide)]
    case x5 => rw [e 190 14 (by decide) (by decide) (by decide) (by decide), hA2.1.2.2.2.2.2, n0 5 (by decide)]
    case cat => exact fun l2 hl2 => by rw [e 191 l2 (by decide) (by decide) (by decide) (by decide), hA2.2.1 l2 hl2, hp l2 (by omega), fa_zz1 (by omega)]
    case hi => exact fun s hs => by rw [o202 192 s (by decide), o193 192 s (by decide), i192 s hs, fa_zz0 (by omega) (by omega)]
    case st => exact fun s hs => by rw [o202 193 s (by decide), i193 s hs, fa_zz0 (by omega) (by omega)]
    case pi => exact fun s hs k hk => by rw [fa_zz0 (by omega) (by omega)] at hk; omega
    case li => exact fun p hp => by rw [o202 201 p (by decide), o193 201 p (by decide), o192 201 p (by decide), k1 p hp, fa_zz2 hp, ← (fa_nst hB hp).1]
    case so => exact fun m hm => by rw [i202 m hm, fa_zz0 (by omega) (by omega)]
    case fr => exact fun c x hn => by rw [e c x (by omega) (by omega) (by omega) (by omega)]; exact hF2 c x hn
    case W => exact fun l2 hl2 => by rw [e 203 l2 (by decide) (by decide) (by decide) (by decide), W2 l2 hl2, hz 5 (by decide), fa_zz0 (by omega) (by omega)]
  | succ u ih =>
    intro l A h hu hl hH h3 hz hp
    have hH1 := hH
    obtain ⟨hw, hA, hF⟩ := hH
    have hC := fa_hc hF hC0
    refine kx_go 2 (pc' := 34) (L' := [(1, .inl (Int32.ofNat l)), (0, .inr (.inr (.inl (some 190))))]) (S' := [.inr (.inr (.inl (some 190))), .inl (Int32.ofNat l)]) (h' := h) (by with_unfolding_all rfl) ?_
    refine kx_getf (c := 190) (v := .inr (.inr (.inl (some 1)))) rfl (by decide) (kx_ofr (hw _ _ _ fa_k.1)) ?_
    refine kx_getf (c := 1) (v := .inl (Int32.ofNat L)) rfl (by decide) ((fu_C0 hC).2.2.1.trans (by rw [eL])) ?_
    refine kx_go 1 (pc' := (if kc_cnd .ge (Int32.ofNat l).toInt (Int32.ofNat L).toInt then 66 else 43)) (L' := [(1, .inl (Int32.ofNat l)), (0, .inr (.inr (.inl (some 190))))]) (S' := []) (h' := h) (by with_unfolding_all rfl) ?_
    rw [if_neg (mt (kx_ge (by omega) (by omega)).mp (show ¬ L ≤ l by omega))]
    refine kx_go 1 (pc' := 44) (L' := [(1, .inl (Int32.ofNat l)), (0, .inr (.inr (.inl (some 190))))]) (S' := [.inr (.inr (.inl (some 190)))]) (h' := h) (by with_unfolding_all rfl) ?_
    refine kx_getf (c := 190) (v := .inr (.inr (.inl (some 191)))) rfl (by decide) (kx_ofr (hw _ _ _ fa_k.2.2.1)) ?_
    refine kx_go 2 (pc' := 49) (L' := [(1, .inl (Int32.ofNat l)), (0, .inr (.inr (.inl (some 190))))]) (S' := [.inr (.inr (.inl (some 190))), .inl (Int32.ofNat l), .inr (.inr (.inl (some 191)))]) (h' := h) (by with_unfolding_all rfl) ?_
    refine kx_getf (c := 190) (v := .inr (.inr (.inl (some 1)))) rfl (by decide) (kx_ofr (hw _ _ _ fa_k.1)) ?_
    refine kx_getf (c := 1) (v := .inr (.inr (.inl (some 15)))) rfl (by decide) (kx_ofr (hw _ _ _ fu_kr.2.2.2.2.1)) ?_
    refine kx_go 1 (pc' := 56) (L' := [(1, .inl (Int32.ofNat l)), (0, .inr (.inr (.inl (some 190))))]) (S' := [.inl (Int32.ofNat l), .inr (.inr (.inl (some 15))), .inl (Int32.ofNat l), .inr (.inr (.inl (some 191)))]) (h' := h) (by with_unfolding_all rfl) ?_
    refine kx_aald rfl (c := 15) (j := l) (m := 10) (t0 := 2) (v := .inr (.inr (.inl (some (1 + (15 + l)))))) rfl (by decide) (by decide) (by decide) (by omega) (kx_ofr (hw _ _ _ (fu_slo l (by omega)).2)) ?_
    refine kx_go 1 (pc' := 58) (L' := [(1, .inl (Int32.ofNat l)), (0, .inr (.inr (.inl (some 190))))]) (S' := [.inl (Int32.ofNat 2), .inr (.inr (.inl (some (1 + (15 + l))))), .inl (Int32.ofNat l), .inr (.inr (.inl (some 191)))]) (h' := h) (by with_unfolding_all rfl) ?_
    refine kx_iald (c := 1 + (15 + l)) (j := 2) (m := 7) (v := .inl (Int32.ofNat (fa_n B (80 + 7 * l + 2)))) rfl (fu_slo l (by omega)).1.1 (fu_slo l (by omega)).1.2 (by decide) (by decide) ((fu_Cj (c := 15 + l) (i := 2) hC (by omega) (((fu_flo l (by omega)).1 2 (by decide)).2.2 (by decide)) ((fu_flo l (by omega)).1 2 (by decide)).1).trans (by rw [(fa_nl (e := 2) hB (show l < 10 by omega) (by decide) (by decide) (fa_tl l (by omega)).2.2.1).1])) ?_
    refine kx_iast (c := 191) (j := l) (m := 10) rfl rfl (by decide) (by decide) (by omega) ?_
    have H2 := fa_at_c (l := l) (v := fa_n B (80 + 7 * l + 2)) (show l < L by omega) hL h3 hH1
    generalize (kc_upd h 191 l (.inl (Int32.ofNat (fa_n B (80 + 7 * l + 2))))) = h2 at H2 ⊢
    refine kx_go 2 (pc' := 32) (L' := [(1, .inl ((Int32.ofNat l) + Int32.ofInt 1)), (0, .inr (.inr (.inl (some 190))))]) (S' := []) (h' := h2) (by with_unfolding_all rfl) ?_
    rw [kx_inc]
    refine kf_lo (L := [(1, .inl (Int32.ofNat (l + 1))), (0, .inr (.inr (.inl (some 190))))]) (by intro q hq; simp only [List.mem_cons, List.not_mem_nil, or_false] at hq; rcases hq with rfl | rfl <;> rfl) ?_
    exact ih (l + 1) _ h2 (by omega) (by omega) H2 (fun s hs => by rw [fa_sn (by omega)]; exact h3 s hs) (fun j hj => by rw [fa_sn (by omega)]; exact hz j hj) (fun l2 hl2 => by
      by_cases e : l2 = l
      · subst e; exact fa_se
      · rw [fa_sn (by omega)]; exact hp l2 (by omega))
set_option maxRecDepth 20000 in
theorem fa_c74 {g : kc_G} {d : Nat} {h0 : kc_H} {B : Nat → Int32} {D M L : Nat} (hg : kc_ok g) (hBB : fa_BB B D M L) (hC0 : fu_C B 1 h0) (hw : kd_wt kd_ty h0) : kc_Con g (d + 4) 74 [.inr (.inr (.inl (some 190)))] h0 (fun rv h' => rv = none ∧ fa_Hc h0 (fa_zz B) L h' ∧ fa_W B (fa_zz B) L h') := by
  obtain ⟨hB, ⟨eD, hD⟩, ⟨eM, hM⟩, eL, hL⟩ := id hBB
  obtain ⟨A, hA, h3⟩ := fa_C_any (L := L) hw hL
  have H0 : fa_Hc h0 A L h0 := ⟨hw, hA, fun _ _ _ => rfl⟩
  refine kc_Con_new hg (M := wk_m74) rfl rfl rfl (show 1 ≤ 2 by decide) ?_
  refine kx_go 2 (pc' := 2) (L' := [(0, .inr (.inr (.inl (some 190))))]) (S' := [.inl (Int32.ofNat 0), .inr (.inr (.inl (some 190)))]) (h' := h0) (by with_unfolding_all rfl) ?_
  refine kx_go 1 (pc' := 5) (L' := [(0, .inr (.inr (.inl (some 190))))]) (S' := []) (h' := (kc_upd h0 190 2 (.inl (Int32.ofNat 0)))) (by with_unfolding_all rfl) ?_
  have H1 := fa_n0_c (v := 0) hL h3 H0
  generalize (kc_upd h0 190 2 (.inl (Int32.ofNat 0))) = g0 at H1 ⊢
  refine kx_go 2 (pc' := 7) (L' := [(0, .inr (.inr (.inl (some 190))))]) (S' := [.inl (Int32.ofNat 0), .inr (.inr (.inl (some 190)))]) (h' := g0) (by with_unfolding_all rfl) ?_
  refine kx_go 1 (pc' := 10) (L' := [(0, .inr (.inr (.inl (some 190))))]) (S' := []) (h' := (kc_upd g0 190 3 (.inl (Int32.ofNat 0)))) (by with_unfolding_all rfl) ?_
  have H2 := fa_n1_c (v := 0) hL (fun s hs => by simp only [fa_s]; rw [if_neg (by omega)]; exact h3 s hs) H1
  generalize (kc_upd g0 190 3 (.inl (Int32.ofNat 0))) = g1 at H2 ⊢
  refine kx_go 2 (pc' := 12) (L' := [(0, .inr (.inr (.inl (some 190))))]) (S' := [.inl (Int32.ofNat 0), .inr (.inr (.inl (some 190)))]) (h' := g1) (by with_unfolding_all rfl) ?_
  refine kx_go 1 (pc' := 15) (L' := [(0, .inr (.inr (.inl (some 190))))]) (S' := []) (h' := (kc_upd g1 190 4 (.inl (Int32.ofNat 0)))) (by with_unfolding_all rfl) ?_
  have H3 := fa_n2_c (v := 0) hL (fun s hs => by simp only [fa_s]; rw [if_neg (by omega), if_neg (by omega)]; exact h3 s hs) H2
  generalize (kc_upd g1 190 4 (.inl (Int32.ofNat 0))) = g2 at H3 ⊢
  refine kx_go 2 (pc' := 17) (L' := [(0, .inr (.inr (.inl (some 190))))]) (S' := [.inl (Int32.ofNat 0), .inr (.inr (.inl (some 190)))]) (h' := g2) (by with_unfolding_all rfl) ?_
  refine kx_go 1 (pc' := 20) (L' := [(0, .inr (.inr (.inl (some 190))))]) (S' := []) (h' := (kc_upd g2 190 5 (.inl (Int32.ofNat 0)))) (by with_unfolding_all rfl) ?_
  have H4 := fa_n3_c (v := 0) hL (fun s hs => by simp only [fa_s]; rw [if_neg (by omega), if_neg (by omega), if_neg (by omega)]; exact h3 s hs) H3
  generalize (kc_upd g2 190 5 (.inl (Int32.ofNat 0))) = g3 at H4 ⊢
  refine kx_go 2 (pc' := 22) (L' := [(0, .inr (.inr (.inl (some 190))))]) (S' := [.inl (Int32.ofNat 0), .inr (.inr (.inl (some 190)))]) (h' := g3) (by with_unfolding_all rfl) ?_
  refine kx_go 1 (pc' := 25) (L' := [(0, .inr (.inr (.inl (some 190))))]) (S' := []) (h' := (kc_upd g3 190 6 (.inl (Int32.ofNat 0)))) (by with_unfolding_all rfl) ?_
  have H5 := fa_n4_c (v := 0) (by decide) hL (fun s hs => by simp only [fa_s]; rw [if_neg (by omega), if_neg (by omega), if_neg (by omega), if_neg (by omega)]; exact h3 s hs) H4
  generalize (kc_upd g3 190 6 (.inl (Int32.ofNat 0))) = g4 at H5 ⊢
  refine kx_go 2 (pc' := 27) (L' := [(0, .inr (.inr (.inl (some 190))))]) (S' := [.inl (Int32.ofNat 0), .inr (.inr (.inl (some 190)))]) (h' := g4) (by with_unfolding_all rfl) ?_
  refine kx_go 1 (pc' := 30) (L' := [(0, .inr (.inr (.inl (some 190))))]) (S' := []) (h' := (kc_upd g4 190 14 (.inl (Int32.ofNat 0)))) (by with_unfolding_all rfl) ?_
  have H6 := fa_n5_c (v := 0) hL (fun s hs => by simp only [fa_s]; rw [if_neg (by omega), if_neg (by omega), if_neg (by omega), if_neg (by omega), if_neg (by omega)]; exact h3 s hs) H5
  generalize (kc_upd g4 190 14 (.inl (Int32.ofNat 0))) = g5 at H6 ⊢
  refine kx_go 2 (pc' := 32) (L' := [(1, .inl (Int32.ofNat 0)), (0, .inr (.inr (.inl (some 190))))]) (S' := []) (h' := g5) (by with_unfolding_all rfl) ?_
  refine kf_lo (L := [(1, .inl (Int32.ofNat 0)), (0, .inr (.inr (.inl (some 190))))]) (by intro q hq; simp only [List.mem_cons, List.not_mem_nil, or_false] at hq; rcases hq with rfl | rfl <;> rfl) ?_
  exact fa_c74l hg hBB hC0 L 0 _ _ rfl (Nat.zero_le _) H6 (fun s hs => by simp only [fa_s]; rw [if_neg (by omega), if_neg (by omega), if_neg (by omega), if_neg (by omega), if_neg (by omega), if_neg (by omega)]; exact h3 s hs) (fun j hj => by
    rcases (show j = 0 ∨ j = 1 ∨ j = 2 ∨ j = 3 ∨ j = 4 ∨ j = 5 by omega) with rfl | rfl | rfl | rfl | rfl | rfl <;> rfl) (fun l2 hl2 => by omega)
end
section
-- 99.zpy
/-! ===== the acts: a run, act by act ===== -/
def fa_lift (B : Nat → Int32) (v : Nat) : Nat := if v = 15 then 0 else fa_n B 5
def fa_nx (B : Nat → Int32) (v : Nat) (X : Nat × (Nat → Nat)) : Nat → Nat := fa_s (fa_s (fa_s X.2 1 X.1) 0 (X.2 0 + 1)) 3 (X.2 3 + fa_lift B v)
def fa_xs (q : Nat × List Nat) : Nat → Nat := fun k => q.2.getD k 0
def fa_run (B : Nat → Int32) (D M L : Nat) : List (Nat × List Nat) → (Nat → Nat) → Nat → Nat
  | [], A => A
  | q :: r, A => if (fa_act B A D M L q.1 (fa_xs q)).1 = 0 then fa_run B D M L r (fa_nx B q.1 (fa_act B A D M L q.1 (fa_xs q))) else fa_s (fa_act B A D M L q.1 (fa_xs q)).2 1 (fa_act B A D M L q.1 (fa_xs q)).1
theorem fa_sid {A : Nat → Nat} {p v : Nat} (h : A p = v) : fa_s A p v = A := by
  funext j
  by_cases e : j = p
  · subst e; rw [fa_se, h]
  · rw [fa_sn e]
/-- an act reads no more numbers than its verb has -/
theorem fa_act_cg {B : Nat → Int32} {A : Nat → Nat} {D M L v : Nat} {x y : Nat → Nat} (hv : 9 ≤ v) (hv2 : v < 16) (h : ∀ k, k < ks_L (kp_sh v) → x k = y k) : fa_act B A D M L v x = fa_act B A D M L v y := by
  rcases (show v = 9 ∨ v = 10 ∨ v = 11 ∨ v = 12 ∨ v = 13 ∨ v = 14 ∨ v = 15 by omega) with rfl | rfl | rfl | rfl | rfl | rfl | rfl
  · have h0 := h 0 (by decide)
    have h1 := h 1 (by decide)
    have h2 := h 2 (by decide)
    show fa_hang B A L M (x 0) (x 1) (x 2) = fa_hang B A L M (y 0) (y 1) (y 2)
    rw [h0, h1, h2]
  · have h0 := h 0 (by decide)
    have h1 := h 1 (by decide)
    show fa_take A M (x 0) (x 1) = fa_take A M (y 0) (y 1)
    rw [h0, h1]
  · have h0 := h 0 (by decide)
    have h1 := h 1 (by decide)
    show fa_move B A M (x 0) (x 1) (x 0) (1 - x 1) = fa_move B A M (y 0) (y 1) (y 0) (1 - y 1)
    rw [h0, h1]
  · have h0 := h 0 (by decide)
    have h1 := h 1 (by decide)
    have h2 := h 2 (by decide)
    have h3 := h 3 (by decide)
    show fa_move B A M (x 0) (x 1) (x 2) (x 3) = fa_move B A M (y 0) (y 1) (y 2) (y 3)
    rw [h0, h1, h2, h3]
  · have h0 := h 0 (by decide)
    have h1 := h 1 (by decide)
    show fa_add B A M (x 0) (x 1) = fa_add B A M (y 0) (y 1)
    rw [h0, h1]
  · have h0 := h 0 (by decide)
    have h1 := h 1 (by decide)
    show fa_drop A M (x 0) (x 1) = fa_drop A M (y 0) (y 1)
    rw [h0, h1]
  · have h0 := h 0 (by decide)
    show fa_go B A D M (x 0) = fa_go B A D M (y 0)
    rw [h0]
theorem fa_sp {α : Type} {c : Prop} [Decidable c] {a b : α} (P : α → Prop) (h1 : P a) (h2 : P b) : P (if c then a else b) := by
  split
  · exact h1
  · exact h2
/-- an act's reason is small -/
theorem fa_act_7 {B : Nat → Int32} {A : Nat → Nat} {D M L v : Nat} {x : Nat → Nat} : (fa_act B A D M L v x).1 ≤ 7 := by
  have mi : ∀ r (A : Nat → Nat), (fa_mi B M r A).1 ≤ 7 := fun r => by
    induction r with
    | zero => exact fun _ => Nat.le_of_ble_eq_true rfl
    | succ r ih =>
      intro A
      show (if fa_fr B (fa_s A 2 (A 2 + 1)) M = true then (6, fa_sr B (fa_s A 2 (A 2 + 1)) M) else fa_mi B M r (fa_sr B (fa_s A 2 (A 2 + 1)) M)).1 ≤ 7
      split
      · exact Nat.le_of_ble_eq_true rfl
      · exact ih _
  have cm : ∀ l s m t nw, fa_cm B A l s m t nw ≤ 7 := fun l s m t nw => Nat.le_trans fa_cml (by decide)
  unfold fa_act
  exact fa_sp (fun X : Nat × (Nat → Nat) => X.1 ≤ 7) (by unfold fa_hang; refine fa_sp (fun X : Nat × (Nat → Nat) => X.1 ≤ 7) (fa_sp (fun X : Nat × (Nat → Nat) => X.1 ≤ 7) (fa_sp (fun X : Nat × (Nat → Nat) => X.1 ≤ 7) (fa_sp (fun X : Nat × (Nat → Nat) => X.1 ≤ 7) ?_ ?_) ?_) ?_) ?_ <;> (first | exact Nat.le_of_ble_eq_true rfl | exact cm _ _ _ _ _ | exact mi _ _)) (fa_sp (fun X : Nat × (Nat → Nat) => X.1 ≤ 7) (by unfold fa_take; refine fa_sp (fun X : Nat × (Nat → Nat) => X.1 ≤ 7) (fa_sp (fun X : Nat × (Nat → Nat) => X.1 ≤ 7) ?_ ?_) ?_ <;> (first | exact Nat.le_of_ble_eq_true rfl | exact cm _ _ _ _ _ | exact mi _ _)) (fa_sp (fun X : Nat × (Nat → Nat) => X.1 ≤ 7) (by unfold fa_move; refine fa_sp (fun X : Nat × (Nat → Nat) => X.1 ≤ 7) (fa_sp (fun X : Nat × (Nat → Nat) => X.1 ≤ 7) (fa_sp (fun X : Nat × (Nat → Nat) => X.1 ≤ 7) ?_ (fa_sp (fun X : Nat × (Nat → Nat) => X.1 ≤ 7) ?_ (fa_sp (fun X : Nat × (Nat → Nat) => X.1 ≤ 7) ?_ ?_))) ?_) ?_ <;> (first | exact Nat.le_of_ble_eq_true rfl | exact cm _ _ _ _ _ | exact mi _ _)) (fa_sp (fun X : Nat × (Nat → Nat) => X.1 ≤ 7) (by unfold fa_move; refine fa_sp (fun X : Nat × (Nat → Nat) => X.1 ≤ 7) (fa_sp (fun X : Nat × (Nat → Nat) => X.1 ≤ 7) (fa_sp (fun X : Nat × (Nat → Nat) => X.1 ≤ 7) ?_ (fa_sp (fun X : Nat × (Nat → Nat) => X.1 ≤ 7) ?_ (fa_sp (fun X : Nat × (Nat → Nat) => X.1 ≤ 7) ?_ ?_))) ?_) ?_ <;> (first | exact Nat.le_of_ble_eq_true rfl | exact cm _ _ _ _ _ | exact mi _ _)) (fa_sp (fun X : Nat × (Nat → Nat) => X.1 ≤ 7) (by unfold fa_add; refine fa_sp (fun X : Nat × (Nat → Nat) => X.1 ≤ 7) (fa_sp (fun X : Nat × (Nat → Nat) => X.1 ≤ 7) ?_ (fa_sp (fun X : Nat × (Nat → Nat) => X.1 ≤ 7) ?_ ?_)) ?_ <;> (first | exact Nat.le_of_ble_eq_true rfl | exact cm _ _ _ _ _ | exact mi _ _)) (fa_sp (fun X : Nat × (Nat → Nat) => X.1 ≤ 7) (by unfold fa_drop; refine fa_sp (fun X : Nat × (Nat → Nat) => X.1 ≤ 7) (fa_sp (fun X : Nat × (Nat → Nat) => X.1 ≤ 7) ?_ ?_) ?_ <;> (first | exact Nat.le_of_ble_eq_true rfl | exact cm _ _ _ _ _ | exact mi _ _)) (by unfold fa_go fa_fin; refine fa_sp (fun X : Nat × (Nat → Nat) => X.1 ≤ 7) (fa_sp (fun X : Nat × (Nat → Nat) => X.1 ≤ 7) ?_ (fa_sp (fun X : Nat × (Nat → Nat) => X.1 ≤ 7) ?_ (fa_sp (fun X : Nat × (Nat → Nat) => X.1 ≤ 7) ?_ ?_))) ?_ <;> (first | exact Nat.le_of_ble_eq_true rfl | exact cm _ _ _ _ _ | exact mi _ _)))))))
theorem fa_l5 {B : Nat → Int32} (hB : fu_BT B) : B 5 = Int32.ofNat (fa_n B 5) ∧ fa_n B 5 ≤ 9 := by
  have hok := hB 5 (by decide) (by decide)
  have ht := fu_f0.1.2.2.2.2.2
  unfold fu_ok at hok
  rw [ht] at hok
  have hz := kd_nb_i (B 5)
  unfold fa_n
  refine ⟨?_, by omega⟩
  apply Int32.toInt_inj.mp
  rw [kx_ti (by omega)]
  omega
/-- kept by the step to the next act -/
theorem fa_K_nx {B : Nat → Int32} {M L i v : Nat} {X : Nat × (Nat → Nat)} (hB : fu_BT B) (hM : M ≤ 3) (hL : L ≤ 10) (h0 : X.2 0 + 1 ≤ i) (h3 : X.2 3 + 9 ≤ 9 * i) (hK : fa_K B M L i X.2) : fa_K B M L i (fa_nx B v X) := by
  have a3 := hK.1.2.2.2.2.2.2.1
  have l5 := (fa_l5 hB).2
  have lf : fa_lift B v ≤ 9 := by unfold fa_lift; split <;> omega
  unfold fa_nx
  have I1 : fa_I B (fa_s X.2 1 X.1) L i := fa_I_w hL hK.1 ⟨fun _ => by omega, fun _ => by omega, fun _ => by omega, fun _ => by omega, fun _ => by omega, fun _ _ => by omega, fun _ _ => by omega, fun _ _ => by omega, fun _ _ => by omega⟩ (by omega) (by omega)
  have I2 : fa_I B (fa_s (fa_s X.2 1 X.1) 0 (X.2 0 + 1)) L i := fa_I_w hL I1 ⟨fun _ => by omega, fun _ => by omega, fun _ => by omega, fun _ => by omega, fun _ => by omega, fun _ _ => by omega, fun _ _ => by omega, fun _ _ => by omega, fun _ _ => by omega⟩ (by omega) (by omega)
  refine ⟨fa_I_w hL I2 ⟨fun _ => by omega, fun _ => by omega, fun _ => by omega, fun _ => by omega, fun _ => by omega, fun _ _ => by omega, fun _ _ => by omega, fun _ _ => by omega, fun _ _ => by omega⟩ (by omega) (by omega), ?_⟩
  exact fa_M_w hM (fa_M_w hM (fa_M_w hM hK.2 a3 (by omega)) (fun s hs => I1.2.2.2.2.2.2.1 s hs) (by omega)) (fun s hs => I2.2.2.2.2.2.2.1 s hs) (by omega)
theorem fa_sr_z {B : Nat → Int32} {A : Nat → Nat} {j : Nat} (hj : j < 70) : ∀ m, fa_sr B A m j = A j := fa_sr_o hj
theorem fa_act_o {B : Nat → Int32} {A : Nat → Nat} {D M L v : Nat} {x : Nat → Nat} {j : Nat} (h4 : A 4 < 6) (hj : j = 0 ∨ j = 1 ∨ j = 3) : (fa_act B A D M L v x).2 j = A j := by
  have mi : ∀ r (A : Nat → Nat), (fa_mi B M r A).2 j = A j := fun r => by
    induction r with
    | zero => exact fun _ => rfl
    | succ r ih =>
      intro A
      show (if fa_fr B (fa_s A 2 (A 2 + 1)) M = true then (6, fa_sr B (fa_s A 2 (A 2 + 1)) M) else fa_mi B M r (fa_sr B (fa_s A 2 (A 2 + 1)) M)).2 j = A j
      split
      · show fa_sr B (fa_s A 2 (A 2 + 1)) M j = A j
        rw [fa_sr_o (by omega), fa_sn (by omega)]
      · rw [ih, fa_sr_o (by omega), fa_sn (by omega)]
  unfold fa_act
  exact fa_sp (fun X : Nat × (Nat → Nat) => X.2 j = A j) (by unfold fa_hang; refine fa_sp (fun X : Nat × (Nat → Nat) => X.2 j = A j) (fa_sp (fun X : Nat × (Nat → Nat) => X.2 j = A j) (fa_sp (fun X : Nat × (Nat → Nat) => X.2 j = A j) (fa_sp (fun X : Nat × (Nat → Nat) => X.2 j = A j) ?_ ?_) ?_) ?_) ?_ <;> (first | rfl | exact mi _ _ | (show fa_push _ _ _ j = A j; unfold fa_push; rw [fa_sn (by omega), fa_sn (by omega), fa_sn (by omega), fa_sn (by omega)]) | (simp only [fa_push, fa_s]; (repeat rw [if_neg (by omega)]); first | done | rfl | exact mi _ _))) (fa_sp (fun X : Nat × (Nat → Nat) => X.2 j = A j) (by unfold fa_take; refine fa_sp (fun X : Nat × (Nat → Nat) => X.2 j = A j) (fa_sp (fun X : Nat × (Nat → Nat) => X.2 j = A j) ?_ ?_) ?_ <;> (first | rfl | exact mi _ _ | (show fa_push _ _ _ j = A j; unfold fa_push; rw [fa_sn (by omega), fa_sn (by omega), fa_sn (by omega), fa_sn (by omega)]) | (simp only [fa_push, fa_s]; (repeat rw [if_neg (by omega)]); first | done | rfl | exact mi _ _))) (fa_sp (fun X : Nat × (Nat → Nat) => X.2 j = A j) (by unfold fa_move; refine fa_sp (fun X : Nat × (Nat → Nat) => X.2 j = A j) (fa_sp (fun X : Nat × (Nat → Nat) => X.2 j = A j) (fa_sp (fun X : Nat × (Nat → Nat) => X.2 j = A j) ?_ (fa_sp (fun X : Nat × (Nat → Nat) => X.2 j = A j) ?_ (fa_sp (fun X : Nat × (Nat → Nat) => X.2 j = A j) ?_ ?_))) ?_) ?_ <;> (first | rfl | exact mi _ _ | (show fa_push _ _ _ j = A j; unfold fa_push; rw [fa_sn (by omega), fa_sn (by omega), fa_sn (by omega), fa_sn (by omega)]) | (simp only [fa_push, fa_s]; (repeat rw [if_neg (by omega)]); first | done | rfl | exact mi _ _))) (fa_sp (fun X : Nat × (Nat → Nat) => X.2 j = A j) (by unfold fa_move; refine fa_sp (fun X : Nat × (Nat → Nat) => X.2 j = A j) (fa_sp (fun X : Nat × (Nat → Nat) => X.2 j = A j) (fa_sp (fun X : Nat × (Nat → Nat) => X.2 j = A j) ?_ (fa_sp (fun X : Nat × (Nat → Nat) => X.2 j = A j) ?_ (fa_sp (fun X : Nat × (Nat → Nat) => X.2 j = A j) ?_ ?_))) ?_) ?_ <;> (first | rfl | exact mi _ _ | (show fa_push _ _ _ j = A j; unfold fa_push; rw [fa_sn (by omega), fa_sn (by omega), fa_sn (by omega), fa_sn (by omega)]) | (simp only [fa_push, fa_s]; (repeat rw [if_neg (by omega)]); first | done | rfl | exact mi _ _))) (fa_sp (fun X : Nat × (Nat → Nat) => X.2 j = A j) (by unfold fa_add; refine fa_sp (fun X : Nat × (Nat → Nat) => X.2 j = A j) (fa_sp (fun X : Nat × (Nat → Nat) => X.2 j = A j) ?_ (fa_sp (fun X : Nat × (Nat → Nat) => X.2 j = A j) ?_ ?_)) ?_ <;> (first | rfl | exact mi _ _ | (show fa_push _ _ _ j = A j; unfold fa_push; rw [fa_sn (by omega), fa_sn (by omega), fa_sn (by omega), fa_sn (by omega)]) | (simp only [fa_push, fa_s]; (repeat rw [if_neg (by omega)]); first | done | rfl | exact mi _ _))) (fa_sp (fun X : Nat × (Nat → Nat) => X.2 j = A j) (by unfold fa_drop; refine fa_sp (fun X : Nat × (Nat → Nat) => X.2 j = A j) (fa_sp (fun X : Nat × (Nat → Nat) => X.2 j = A j) ?_ ?_) ?_ <;> (first | rfl | exact mi _ _ | (show fa_push _ _ _ j = A j; unfold fa_push; rw [fa_sn (by omega), fa_sn (by omega), fa_sn (by omega), fa_sn (by omega)]) | (simp only [fa_push, fa_s]; (repeat rw [if_neg (by omega)]); first | done | rfl | exact mi _ _))) (by unfold fa_go fa_fin; refine fa_sp (fun X : Nat × (Nat → Nat) => X.2 j = A j) (fa_sp (fun X : Nat × (Nat → Nat) => X.2 j = A j) ?_ (fa_sp (fun X : Nat × (Nat → Nat) => X.2 j = A j) ?_ (fa_sp (fun X : Nat × (Nat → Nat) => X.2 j = A j) ?_ ?_))) ?_ <;> (first | rfl | exact mi _ _ | (show fa_push _ _ _ j = A j; unfold fa_push; rw [fa_sn (by omega), fa_sn (by omega), fa_sn (by omega), fa_sn (by omega)]) | (simp only [fa_push, fa_s]; (repeat rw [if_neg (by omega)]); first | done | rfl | exact mi _ _))))))))
/-- what the class's reader holds: the items from the i-th on -/
def fa_it (h0 : kc_H) (r : List (Nat × List Nat)) (i : Nat) : Prop := ∀ (j : Nat) (q : Nat × List Nat), r[j]? = some q → h0 128 (i + j) = .inl (Int32.ofNat q.1) ∧ (∀ k x, q.2[k]? = some x → h0 (130 + (i + j)) k = .inl (Int32.ofNat x)) ∧ (9 ≤ q.1 ∧ q.1 < 16) ∧ q.2.length = ks_L (kp_sh q.1) ∧ ∀ v ∈ q.2, v < 1000
theorem fa_it_n {h0 : kc_H} {q : Nat × List Nat} {r : List (Nat × List Nat)} {i : Nat} (h : fa_it h0 (q :: r) i) : fa_it h0 r (i + 1) := fun j p hp => by
  have := h (j + 1) p hp
  rw [show i + (j + 1) = i + 1 + j by omega] at this
  exact this
theorem fa_kn : (∀ j, j < 60 → ∀ k, k < 4 → kd_rn (kd_ty (130 + j)) k = some (0, 2147483648, 2147483648 + 999)) ∧ kd_rn (kd_ty 127) 2 = some (3, 128, 128) ∧ kd_rn (kd_ty 127) 3 = some (3, 129, 129) := ⟨by decide +kernel, by decide +kernel, by decide +kernel⟩
/-- the numbers of an item, those that its verb has not as they stand -/
theorem fa_nums {h : kc_H} {j : Nat} {q : Nat × List Nat} (hw : kd_wt kd_ty h) (hj : j < 60) (h1 : ∀ k x, q.2[k]? = some x → h (130 + j) k = .inl (Int32.ofNat x)) (h2 : ∀ v ∈ q.2, v < 1000) : ∃ x : Nat → Nat, (∀ k, k < 4 → h (130 + j) k = .inl (Int32.ofNat (x k)) ∧ x k < 1000) ∧ ∀ k, k < q.2.length → x k = fa_xs q k := by
  have t : ∀ k, ∃ y, (k < 4 → h (130 + j) k = .inl (Int32.ofNat y) ∧ y < 1000) ∧ (k < q.2.length → y = fa_xs q k) := fun k => by
    by_cases c : k < q.2.length
    · refine ⟨fa_xs q k, fun _ => ?_, fun _ => rfl⟩
      have e : q.2[k]? = some q.2[k] := List.getElem?_eq_getElem c
      have e2 : fa_xs q k = q.2[k] := by unfold fa_xs; rw [List.getD_eq_getElem?_getD, e]; rfl
      rw [e2]
      exact ⟨h1 k _ e, h2 _ (List.getElem_mem c)⟩
    · by_cases c4 : k < 4
      · obtain ⟨y, e, hy⟩ := fa_nt3 hw (by decide) (fa_kn.1 j hj k c4)
        exact ⟨y, fun _ => ⟨e, by omega⟩, fun q => absurd q c⟩
      · exact ⟨0, fun q => absurd q c4, fun q => absurd q c⟩
  exact ⟨fun k => Classical.choose (t k), fun k => (Classical.choose_spec (t k)).1, fun k => (Classical.choose_spec (t k)).2⟩
set_option maxRecDepth 20000 in
theorem fa_c73l {g : kc_G} {d : Nat} {h0 : kc_H} {B : Nat → Int32} {D M L n : Nat} {Q : Option kc_V → kc_H → Prop} {Z : Nat → Nat} (hg : kc_ok g) (hBB : fa_BB B D M L) (hC0 : fu_C B 1 h0) (hn : n ≤ 60) (hit : h0 127 1 = .inl (Int32.ofNat n)) (hQ : ∀ g1, fa_Hc h0 Z L g1 → fa_W B Z L g1 → Q (some (.inl (Int32.ofNat 1))) g1) : ∀ (r : List (Nat × List Nat)) (i : Nat) (A : Nat → Nat) (h : kc_H), i + r.length = n → fa_it h0 r i → fa_I B A L i → fa_M B A M → A 0 = i → A 1 = 0 → fa_run B D M L r A = Z → fa_Hc h0 A L h → fa_W B A L h → kc_Ev g (d + 12) wk_m73 Q 20 [(1, .inl (Int32.ofNat i)), (0, .inr (.inr (.inl (some 190))))] [] h := by
  obtain ⟨hB, ⟨eD, hD⟩, ⟨eM, hM⟩, eL, hL⟩ := id hBB
  intro r
  induction r with
  | nil =>
    intro i A h hlen hr hI hMx h0i h1i hz hH hW
    have h3 := hI.2.2.2.2.2.2.1
    have hH1 := hH
    obtain ⟨hw, hA, hF⟩ := hH
    have hC := fa_hc hF hC0
    refine kx_go 2 (pc' := 22) (L' := [(1, .inl (Int32.ofNat i)), (0, .inr (.inr (.inl (some 190))))]) (S' := [.inr (.inr (.inl (some 190))), .inl (Int32.ofNat i)]) (h' := h) (by with_unfolding_all rfl) ?_
    refine kx_getf (c := 190) (v := .inr (.inr (.inl (some 127)))) rfl (by decide) (kx_ofr (hw _ _ _ fa_k.2.1)) ?_
    refine kx_getf (c := 127) (v := .inl (Int32.ofNat n)) rfl (by decide) ((hF 127 1 (by omega)).trans hit) ?_
    refine kx_go 1 (pc' := (if kc_cnd .ge (Int32.ofNat i).toInt (Int32.ofNat n).toInt then 119 else 31)) (L' := [(1, .inl (Int32.ofNat i)), (0, .inr (.inr (.inl (some 190))))]) (S' := []) (h' := h) (by with_unfolding_all rfl) ?_
    have hlen2 : i = n := by simpa using hlen
    rw [if_pos ((kx_ge (by omega) (by omega)).mpr (show n ≤ i by omega))]
    have hz2 : A = Z := hz
    rw [hz2] at hH1 hW
    refine kx_go 1 (pc' := 120) (L' := [(1, .inl (Int32.ofNat i)), (0, .inr (.inr (.inl (some 190))))]) (S' := [.inl (Int32.ofNat 1)]) (h' := h) (by with_unfolding_all rfl) ?_
    exact kc_ret_ok rfl (rv := some (.inl (Int32.ofNat 1))) rfl (hQ _ hH1 hW)
  | cons it r ih =>
    intro i A h hlen hr hI hMx h0i h1i hz hH hW
    have h3 := hI.2.2.2.2.2.2.1
    have hH1 := hH
    obtain ⟨hw, hA, hF⟩ := hH
    have hC := fa_hc hF hC0
    refine kx_go 2 (pc' := 22) (L' := [(1, .inl (Int32.ofNat i)), (0, .inr (.inr (.inl (some 190))))]) (S' := [.inr (.inr (.inl (some 190))), .inl (Int32.ofNat i)]) (h' := h) (by with_unfolding_all rfl) ?_
    refine kx_getf (c := 190) (v := .inr (.inr (.inl (some 127)))) rfl (by decide) (kx_ofr (hw _ _ _ fa_k.2.1)) ?_
    refine kx_getf (c := 127) (v := .inl (Int32.ofNat n)) rfl (by decide) ((hF 127 1 (by omega)).trans hit) ?_
    refine kx_go 1 (pc' := (if kc_cnd .ge (Int32.ofNat i).toInt (Int32.ofNat n).toInt then 119 else 31)) (L' := [(1, .inl (Int32.ofNat i)), (0, .inr (.inr (.inl (some 190))))]) (S' := []) (h' := h) (by with_unfolding_all rfl) ?_
    have hlen2 : i + (r.length + 1) = n := by simpa using hlen
    rw [if_neg (mt (kx_ge (by omega) (by omega)).mp (show ¬ n ≤ i by omega))]
    refine kx_go 1 (pc' := 32) (L' := [(1, .inl (Int32.ofNat i)), (0, .inr (.inr (.inl (some 190))))]) (S' := [.inr (.inr (.inl (some 190)))]) (h' := h) (by with_unfolding_all rfl) ?_
    refine kx_getf (c := 190) (v := .inl (Int32.ofNat (A 1))) rfl (by decide) hA.1.2.1 ?_
    refine kx_go 1 (pc' := (if kc_cnd .ne (Int32.ofNat (A 1)).toInt 0 then 119 else 38)) (L' := [(1, .inl (Int32.ofNat i)), (0, .inr (.inr (.inl (some 190))))]) (S' := []) (h' := h) (by with_unfolding_all rfl) ?_
    rw [if_neg (fa_z (by omega) h1i)]
    obtain ⟨t1, t2, ⟨t3, t3b⟩, t4, t5⟩ := hr 0 it rfl
    rw [Nat.add_zero] at t1 t2
    have i60 : i < 60 := by omega
    obtain ⟨x, en, ex⟩ := fa_nums (h := h) hw i60 (fun k y e => (hF _ _ (by omega)).trans (t2 k y e)) t5
    have ecg : fa_act B A D M L it.1 x = fa_act B A D M L it.1 (fa_xs it) := fa_act_cg t3 t3b (fun k hk => ex k (by omega))
    refine kx_go 3 (pc' := 41) (L' := [(1, .inl (Int32.ofNat i)), (0, .inr (.inr (.inl (some 190))))]) (S' := [.inr (.inr (.inl (some 190))), .inr (.inr (.inl (some 190))), .inr (.inr (.inl (some 190)))]) (h' := h) (by with_unfolding_all rfl) ?_
    refine kx_getf (c := 190) (v := .inr (.inr (.inl (some 127)))) rfl (by decide) (kx_ofr (hw _ _ _ fa_k.2.1)) ?_
    refine kx_getf (c := 127) (v := .inr (.inr (.inl (some 128)))) rfl (by decide) (kx_ofr (hw _ _ _ fa_kn.2.1)) ?_
    refine kx_go 1 (pc' := 48) (L' := [(1, .inl (Int32.ofNat i)), (0, .inr (.inr (.inl (some 190))))]) (S' := [.inl (Int32.ofNat i), .inr (.inr (.inl (some 128))), .inr (.inr (.inl (some 190))), .inr (.inr (.inl (some 190)))]) (h' := h) (by with_unfolding_all rfl) ?_
    refine kx_iald (c := 128) (j := i) (m := 60) (v := .inl (Int32.ofNat it.1)) rfl rfl (by decide) (by decide) (by omega) ((hF 128 i (by omega)).trans t1) ?_
    refine kx_go 1 (pc' := 50) (L' := [(1, .inl (Int32.ofNat i)), (0, .inr (.inr (.inl (some 190))))]) (S' := [.inr (.inr (.inl (some 190))), .inl (Int32.ofNat it.1), .inr (.inr (.inl (some 190))), .inr (.inr (.inl (some 190)))]) (h' := h) (by with_unfolding_all rfl) ?_
    refine kx_getf (c := 190) (v := .inr (.inr (.inl (some 127)))) rfl (by decide) (kx_ofr (hw _ _ _ fa_k.2.1)) ?_
    refine kx_getf (c := 127) (v := .inr (.inr (.inl (some 129)))) rfl (by decide) (kx_ofr (hw _ _ _ fa_kn.2.2)) ?_
    refine kx_go 1 (pc' := 57) (L' := [(1, .inl (Int32.ofNat i)), (0, .inr (.inr (.inl (some 190))))]) (S' := [.inl (Int32.ofNat i), .inr (.inr (.inl (some 129))), .inl (Int32.ofNat it.1), .inr (.inr (.inl (some 190))), .inr (.inr (.inl (some 190)))]) (h' := h) (by with_unfolding_all rfl) ?_
    refine kx_aald rfl (c := 129) (j := i) (m := 60) (t0 := 2) (v := .inr (.inr (.inl (some (130 + i))))) (by decide) (by decide) (by decide) (by decide) (by omega) (kx_ofr (hw _ _ _ (kr_k129 i i60))) ?_
    have K1 := fa_K_act (D := D) (v := it.1) (x := fa_xs it) hB hD hM hL hI hMx
    have o0 := fa_act_o (B := B) (D := D) (M := M) (L := L) (v := it.1) (x := fa_xs it) (j := 0) hI.2.2.2.1 (Or.inl rfl)
    have o1 := fa_act_o (B := B) (D := D) (M := M) (L := L) (v := it.1) (x := fa_xs it) (j := 1) hI.2.2.2.1 (Or.inr (Or.inl rfl))
    have o3 := fa_act_o (B := B) (D := D) (M := M) (L := L) (v := it.1) (x := fa_xs it) (j := 3) hI.2.2.2.1 (Or.inr (Or.inr rfl))
    have a7 := fa_act_7 (B := B) (A := A) (D := D) (M := M) (L := L) (v := it.1) (x := fa_xs it)
    have aJ := hI.2.1
    have aS := hI.2.2.2.2.2.2.2.2.2.2
    have a5 := hI.2.2.2.2.1
    have a03 := hI.2.2.1
    refine kc_call_rule (M2 := wk_m183) (av := [.inr (.inr (.inl (some 190))), .inl (Int32.ofNat it.1), .inr (.inr (.inl (some (130 + i))))]) (r := [.inr (.inr (.inl (some 190)))]) rfl rfl (kc_Con_le (fa_c183 (d := 0) (i := i + 1) hg hBB hC0 (by omega) (fa_I_mono hI (by omega)) (by omega) (fun m hm => by have := aS m hm; omega) (by omega) hMx hH1 hW i60 en t3 t3b) (by omega)) (fun rv h2 hq => ?_)
    obtain ⟨rfl, H2, W2⟩ := hq
    rw [ecg] at H2 W2
    rw [ecg]
    show kc_Ev g (d + 12) wk_m73 _ 61 [(1, .inl (Int32.ofNat i)), (0, .inr (.inr (.inl (some 190))))] [.inl (Int32.ofNat (fa_act B A D M L it.1 (fa_xs it)).1), .inr (.inr (.inl (some 190)))] h2
    have ur : fa_run B D M L (it :: r) A = if (fa_act B A D M L it.1 (fa_xs it)).1 = 0 then fa_run B D M L r (fa_nx B it.1 (fa_act B A D M L it.1 (fa_xs it))) else fa_s (fa_act B A D M L it.1 (fa_xs it)).2 1 (fa_act B A D M L it.1 (fa_xs it)).1 := rfl
    rw [ur] at hz
    clear ur
    generalize fa_act B A D M L it.1 (fa_xs it) = X at *
    refine kx_go 1 (pc' := 64) (L' := [(1, .inl (Int32.ofNat i)), (0, .inr (.inr (.inl (some 190))))]) (S' := []) (h' := (kc_upd h2 190 3 (.inl (Int32.ofNat X.1)))) (by with_unfolding_all rfl) ?_
    have h32 := K1.1.2.2.2.2.2.2.1
    have H3 := fa_n1_c (v := X.1) hL h32 H2
    have W3 : fa_W B (fa_s X.2 1 X.1) L (kc_upd h2 190 3 (.inl (Int32.ofNat X.1))) := fa_W_s (by decide) (by decide) W2
    generalize (kc_upd h2 190 3 (.inl (Int32.ofNat X.1))) = g3 at H3 W3 ⊢
    have H3k := H3
    obtain ⟨hw3, hA3, hF3⟩ := H3
    have e13 : g3 190 3 = .inl (Int32.ofNat X.1) := hA3.1.2.1.trans (by rw [fa_se])
    refine kx_go 1 (pc' := 65) (L' := [(1, .inl (Int32.ofNat i)), (0, .inr (.inr (.inl (some 190))))]) (S' := [.inr (.inr (.inl (some 190)))]) (h' := g3) (by with_unfolding_all rfl) ?_
    refine kx_getf (c := 190) (v := .inl (Int32.ofNat X.1)) rfl (by decide) e13 ?_
    refine kx_go 1 (pc' := (if kc_cnd .ne (Int32.ofNat X.1).toInt 0 then 113 else 71)) (L' := [(1, .inl (Int32.ofNat i)), (0, .inr (.inr (.inl (some 190))))]) (S' := []) (h' := g3) (by with_unfolding_all rfl) ?_
    by_cases c0 : X.1 = 0
    · rw [if_neg (fa_z (by omega) c0)]
      rw [if_pos c0] at hz
      have e23 : g3 190 2 = .inl (Int32.ofNat (X.2 0)) := hA3.1.1.trans (by rw [fa_sn (by omega)])
      refine kx_go 2 (pc' := 73) (L' := [(1, .inl (Int32.ofNat i)), (0, .inr (.inr (.inl (some 190))))]) (S' := [.inr (.inr (.inl (some 190))), .inr (.inr (.inl (some 190)))]) (h' := g3) (by with_unfolding_all rfl) ?_
      refine kx_getf (c := 190) (v := .inl (Int32.ofNat (X.2 0))) rfl (by decide) e23 ?_
      refine kx_go 2 (pc' := 78) (L' := [(1, .inl (Int32.ofNat i)), (0, .inr (.inr (.inl (some 190))))]) (S' := [.inl ((Int32.ofNat (X.2 0)) + (Int32.ofNat 1)), .inr (.inr (.inl (some 190)))]) (h' := g3) (by with_unfolding_all rfl) ?_
      rw [kx_add]
      refine kx_go 1 (pc' := 81) (L' := [(1, .inl (Int32.ofNat i)), (0, .inr (.inr (.inl (some 190))))]) (S' := []) (h' := (kc_upd g3 190 2 (.inl (Int32.ofNat (X.2 0 + 1))))) (by with_unfolding_all rfl) ?_
      have h33 : ∀ s, s < 6 → fa_s X.2 1 X.1 (20 + s) ≤ 3 := fun s hs => by rw [fa_sn (by omega)]; exact h32 s hs
      have H4 := fa_n0_c (v := X.2 0 + 1) hL h33 H3k
      have W4 : fa_W B (fa_s (fa_s X.2 1 X.1) 0 (X.2 0 + 1)) L (kc_upd g3 190 2 (.inl (Int32.ofNat (X.2 0 + 1)))) := fa_W_s (by decide) (by decide) W3
      generalize (kc_upd g3 190 2 (.inl (Int32.ofNat (X.2 0 + 1)))) = g4 at H4 W4 ⊢
      have H4k := H4
      obtain ⟨hw4, hA4, hF4⟩ := H4
      have hC4 := fa_hc hF4 hC0
      have K2 := fa_K_nx (v := it.1) (X := X) hB hM hL (by omega) (by omega) K1
      have n0 : fa_nx B it.1 X 0 = i + 1 := by unfold fa_nx; rw [fa_sn (by omega), fa_se]; omega
      have n1 : fa_nx B it.1 X 1 = 0 := by unfold fa_nx; rw [fa_sn (by omega), fa_sn (by omega), fa_se]; exact c0
      have next : ∀ g5, fa_Hc h0 (fa_nx B it.1 X) L g5 → fa_W B (fa_nx B it.1 X) L g5 → kc_Ev g (d + 12) wk_m73 Q 113 [(1, .inl (Int32.ofNat i)), (0, .inr (.inr (.inl (some 190))))] [] g5 := by
        intro g5 H5 W5
        refine kx_go 2 (pc' := 20) (L' := [(1, .inl ((Int32.ofNat i) + Int32.ofInt 1)), (0, .inr (.inr (.inl (some 190))))]) (S' := []) (h' := g5) (by with_unfolding_all rfl) ?_
        rw [kx_inc]
        refine kf_lo (L := [(1, .inl (Int32.ofNat (i + 1))), (0, .inr (.inr (.inl (some 190))))]) (by intro q hq; simp only [List.mem_cons, List.not_mem_nil, or_false] at hq; rcases hq with rfl | rfl <;> rfl) ?_
        exact ih (i + 1) _ g5 (by omega) (fa_it_n hr) K2.1 K2.2 n0 n1 hz H5 W5
      refine kx_go 1 (pc' := 82) (L' := [(1, .inl (Int32.ofNat i)), (0, .inr (.inr (.inl (some 190))))]) (S' := [.inr (.inr (.inl (some 190)))]) (h' := g4) (by with_unfolding_all rfl) ?_
      refine kx_getf (c := 190) (v := .inr (.inr (.inl (some 127)))) rfl (by decide) (kx_ofr (hw4 _ _ _ fa_k.2.1)) ?_
      refine kx_getf (c := 127) (v := .inr (.inr (.inl (some 128)))) rfl (by decide) (kx_ofr (hw4 _ _ _ fa_kn.2.1)) ?_
      refine kx_go 1 (pc' := 89) (L' := [(1, .inl (Int32.ofNat i)), (0, .inr (.inr (.inl (some 190))))]) (S' := [.inl (Int32.ofNat i), .inr (.inr (.inl (some 128)))]) (h' := g4) (by with_unfolding_all rfl) ?_
      refine kx_iald (c := 128) (j := i) (m := 60) (v := .inl (Int32.ofNat it.1)) rfl rfl (by decide) (by decide) (by omega) ((hF4 128 i (by omega)).trans t1) ?_
      refine kx_go 2 (pc' := (if kc_cnd .eq (Int32.ofNat it.1).toInt (Int32.ofNat 15).toInt then 113 else 95)) (L' := [(1, .inl (Int32.ofNat i)), (0, .inr (.inr (.inl (some 190))))]) (S' := []) (h' := g4) (by with_unfolding_all rfl) ?_
      by_cases c15 : it.1 = 15
      · rw [if_pos ((kx_eq (by omega) (by omega)).mpr c15)]
        have el : fa_nx B it.1 X = fa_s (fa_s X.2 1 X.1) 0 (X.2 0 + 1) := by unfold fa_nx fa_lift; rw [if_pos c15, Nat.add_zero]; exact fa_sid (by rw [fa_sn (by omega), fa_sn (by omega), Nat.add_zero])
        exact next g4 (by rw [el]; exact H4k) (by rw [el]; exact W4)
      · rw [if_neg (mt (kx_eq (by omega) (by omega)).mp c15)]
        have el : fa_lift B it.1 = fa_n B 5 := if_neg c15
        have l5 := fa_l5 hB
        have e54 : g4 190 5 = .inl (Int32.ofNat (X.2 3)) := hA4.1.2.2.2.1.trans (by rw [fa_sn (by omega), fa_sn (by omega)])
        refine kx_go 2 (pc' := 97) (L' := [(1, .inl (Int32.ofNat i)), (0, .inr (.inr (.inl (some 190))))]) (S' := [.inr (.inr (.inl (some 190))), .inr (.inr (.inl (some 190)))]) (h' := g4) (by with_unfolding_all rfl) ?_
        refine kx_getf (c := 190) (v := .inl (Int32.ofNat (X.2 3))) rfl (by decide) e54 ?_
        refine kx_go 1 (pc' := 101) (L' := [(1, .inl (Int32.ofNat i)), (0, .inr (.inr (.inl (some 190))))]) (S' := [.inr (.inr (.inl (some 190))), .inl (Int32.ofNat (X.2 3)), .inr (.inr (.inl (some 190)))]) (h' := g4) (by with_unfolding_all rfl) ?_
        refine kx_getf (c := 190) (v := .inr (.inr (.inl (some 1)))) rfl (by decide) (kx_ofr (hw4 _ _ _ fa_k.1)) ?_
        refine kx_getf (c := 1) (v := .inr (.inr (.inl (some 26)))) rfl (by decide) (kx_ofr (hw4 _ _ _ fu_kr.2.2.2.2.2.1)) ?_
        refine kx_go 1 (pc' := 108) (L' := [(1, .inl (Int32.ofNat i)), (0, .inr (.inr (.inl (some 190))))]) (S' := [.inl (Int32.ofNat 1), .inr (.inr (.inl (some 26))), .inl (Int32.ofNat (X.2 3)), .inr (.inr (.inl (some 190)))]) (h' := g4) (by with_unfolding_all rfl) ?_
        refine kx_iald (c := 26) (j := 1) (m := 2) (v := .inl (Int32.ofNat (fa_n B 5))) rfl rfl (by decide) (by decide) (by decide) ((fu_Cj (c := 25) (i := 1) hC4 (by decide) (by decide) fu_f0.2.2.2.2.2.2).trans (by rw [← l5.1])) ?_
        refine kx_go 1 (pc' := 110) (L' := [(1, .inl (Int32.ofNat i)), (0, .inr (.inr (.inl (some 190))))]) (S' := [.inl ((Int32.ofNat (X.2 3)) + (Int32.ofNat (fa_n B 5))), .inr (.inr (.inl (some 190)))]) (h' := g4) (by with_unfolding_all rfl) ?_
        rw [kx_add]
        refine kx_go 1 (pc' := 113) (L' := [(1, .inl (Int32.ofNat i)), (0, .inr (.inr (.inl (some 190))))]) (S' := []) (h' := (kc_upd g4 190 5 (.inl (Int32.ofNat (X.2 3 + fa_n B 5))))) (by with_unfolding_all rfl) ?_
        have h34 : ∀ s, s < 6 → fa_s (fa_s X.2 1 X.1) 0 (X.2 0 + 1) (20 + s) ≤ 3 := fun s hs => by rw [fa_sn (by omega)]; exact h33 s hs
        have H5 := fa_n3_c (v := X.2 3 + fa_n B 5) hL h34 H4k
        have W5 : fa_W B (fa_s (fa_s (fa_s X.2 1 X.1) 0 (X.2 0 + 1)) 3 (X.2 3 + fa_n B 5)) L (kc_upd g4 190 5 (.inl (Int32.ofNat (X.2 3 + fa_n B 5)))) := fa_W_s (by decide) (by decide) W4
        rw [← el] at H5 W5
        rw [← el]
        exact next _ H5 W5
    · rw [if_pos (fa_nz (by omega) c0)]
      rw [if_neg c0] at hz
      have H3z := H3k
      rw [hz] at H3z W3
      refine kx_go 2 (pc' := 20) (L' := [(1, .inl ((Int32.ofNat i) + Int32.ofInt 1)), (0, .inr (.inr (.inl (some 190))))]) (S' := []) (h' := g3) (by with_unfolding_all rfl) ?_
      rw [kx_inc]
      have it3 : g3 127 1 = .inl (Int32.ofNat n) := (hF3 127 1 (by omega)).trans hit
      refine kx_go 2 (pc' := 22) (L' := [(1, .inl (Int32.ofNat (i + 1))), (0, .inr (.inr (.inl (some 190))))]) (S' := [.inr (.inr (.inl (some 190))), .inl (Int32.ofNat (i + 1))]) (h' := g3) (by with_unfolding_all rfl) ?_
      refine kx_getf (c := 190) (v := .inr (.inr (.inl (some 127)))) rfl (by decide) (kx_ofr (hw3 _ _ _ fa_k.2.1)) ?_
      refine kx_getf (c := 127) (v := .inl (Int32.ofNat n)) rfl (by decide) it3 ?_
      refine kx_go 1 (pc' := (if kc_cnd .ge (Int32.ofNat (i + 1)).toInt (Int32.ofNat n).toInt then 119 else 31)) (L' := [(1, .inl (Int32.ofNat (i + 1))), (0, .inr (.inr (.inl (some 190))))]) (S' := []) (h' := g3) (by with_unfolding_all rfl) ?_
      by_cases c9 : n ≤ i + 1
      · rw [if_pos ((kx_ge (by omega) (by omega)).mpr c9)]
        refine kx_go 1 (pc' := 120) (L' := [(1, .inl (Int32.ofNat (i + 1))), (0, .inr (.inr (.inl (some 190))))]) (S' := [.inl (Int32.ofNat 1)]) (h' := g3) (by with_unfolding_all rfl) ?_
        exact kc_ret_ok rfl (rv := some (.inl (Int32.ofNat 1))) rfl (hQ _ H3z W3)
      · rw [if_neg (mt (kx_ge (by omega) (by omega)).mp c9)]
        refine kx_go 1 (pc' := 32) (L' := [(1, .inl (Int32.ofNat (i + 1))), (0, .inr (.inr (.inl (some 190))))]) (S' := [.inr (.inr (.inl (some 190)))]) (h' := g3) (by with_unfolding_all rfl) ?_
        refine kx_getf (c := 190) (v := .inl (Int32.ofNat X.1)) rfl (by decide) e13 ?_
        refine kx_go 1 (pc' := (if kc_cnd .ne (Int32.ofNat X.1).toInt 0 then 119 else 38)) (L' := [(1, .inl (Int32.ofNat (i + 1))), (0, .inr (.inr (.inl (some 190))))]) (S' := []) (h' := g3) (by with_unfolding_all rfl) ?_
        rw [if_pos (fa_nz (by omega) c0)]
        refine kx_go 1 (pc' := 120) (L' := [(1, .inl (Int32.ofNat (i + 1))), (0, .inr (.inr (.inl (some 190))))]) (S' := [.inl (Int32.ofNat 1)]) (h' := g3) (by with_unfolding_all rfl) ?_
        exact kc_ret_ok rfl (rv := some (.inl (Int32.ofNat 1))) rfl (hQ _ H3z W3)
end
section
-- 99.zpz
/-! ===== the acts: a run, the reference ===== -/
/-- what stands in the acts' cells, the reference is told by some numbers -/
theorem fa_R_any {h : kc_H} {L : Nat} (hw : kd_wt kd_ty h) (hL : L ≤ 10) : ∃ A, fa_R A L h ∧ ∀ s, s < 6 → A (20 + s) ≤ 3 := by
  have hn : ∃ N : Nat → Nat, h 259 24 = .inl (Int32.ofNat (N 0)) ∧ h 259 25 = .inl (Int32.ofNat (N 1)) ∧ h 259 22 = .inl (Int32.ofNat (N 2)) ∧ h 259 23 = .inl (Int32.ofNat (N 3)) ∧ h 259 20 = .inl (Int32.ofNat (N 4)) ∧ h 259 21 = .inl (Int32.ofNat (N 5)) := by
    obtain ⟨a, ea⟩ := fa_nt hw fa_k5.1
    obtain ⟨b, eb⟩ := fa_nt hw fa_k5.2.1
    obtain ⟨c, ec⟩ := fa_nt hw fa_k5.2.2.1
    obtain ⟨e, ee⟩ := fa_nt hw fa_k5.2.2.2.1
    obtain ⟨f, ef⟩ := fa_nt hw fa_k5.2.2.2.2.1
    obtain ⟨k, ek⟩ := fa_nt hw fa_k5.2.2.2.2.2
    exact ⟨fun j => if j = 0 then a else if j = 1 then b else if j = 2 then c else if j = 3 then e else if j = 4 then f else k, ea, eb, ec, ee, ef, ek⟩
  obtain ⟨N, hN⟩ := hn
  have t1 : ∀ l, ∃ k, l < 10 → h 266 l = .inl (Int32.ofNat k) := fun l => by
    by_cases c : l < 10
    · obtain ⟨k, e⟩ := fa_nt hw (fa_k4.1 l c); exact ⟨k, fun _ => e⟩
    · exact ⟨0, fun q => absurd q c⟩
  have t2 : ∀ s, ∃ k, k ≤ 3 ∧ (s < 6 → h 268 s = .inl (Int32.ofNat k)) := fun s => by
    by_cases c : s < 6
    · obtain ⟨k, e, e2⟩ := fa_nt3 hw (by decide) (fa_k4.2.1 s c); exact ⟨k, e2, fun _ => e⟩
    · exact ⟨0, by decide, fun q => absurd q c⟩
  have t3 : ∀ s, ∃ k, s < 6 → h 269 s = .inl (Int32.ofNat k) := fun s => by
    by_cases c : s < 6
    · obtain ⟨k, e⟩ := fa_nt hw (fa_k4.2.2.1 s c); exact ⟨k, fun _ => e⟩
    · exact ⟨0, fun q => absurd q c⟩
  have t4 : ∀ s, ∀ j, ∃ k, s < 6 → j < 3 → h 267 (3 * s + j) = .inl (Int32.ofNat k) := fun s j => by
    by_cases c : s < 6 ∧ j < 3
    · obtain ⟨k, e⟩ := fa_nt hw (fa_k4.2.2.2.1 s c.1 j c.2); exact ⟨k, fun _ _ => e⟩
    · exact ⟨0, fun q1 q2 => absurd ⟨q1, q2⟩ c⟩
  have t5 : ∀ s, ∃ k, s < 6 → h 270 s = .inl (Int32.ofNat k) := fun s => by
    by_cases c : s < 6
    · obtain ⟨k, e⟩ := fa_nt hw (fa_k4.2.2.2.2.1 s c); exact ⟨k, fun _ => e⟩
    · exact ⟨0, fun q => absurd q c⟩
  have t6 : ∀ s, ∃ k, s < 3 → h 271 s = .inl (Int32.ofNat k) := fun s => by
    by_cases c : s < 3
    · obtain ⟨k, e⟩ := fa_nt hw (fa_k4.2.2.2.2.2 s c); exact ⟨k, fun _ => e⟩
    · exact ⟨0, fun q => absurd q c⟩
  let f1 := fun l => Classical.choose (t1 l)
  let f2 := fun l => Classical.choose (t2 l)
  let f3 := fun l => Classical.choose (t3 l)
  let f4 := fun s j => Classical.choose (t4 s j)
  let f5 := fun l => Classical.choose (t5 l)
  let f6 := fun l => Classical.choose (t6 l)
  have g1 := fun l => Classical.choose_spec (t1 l)
  have g2 := fun l => Classical.choose_spec (t2 l)
  have g3 := fun l => Classical.choose_spec (t3 l)
  have g4 := fun s j => Classical.choose_spec (t4 s j)
  have g5 := fun l => Classical.choose_spec (t5 l)
  have g6 := fun l => Classical.choose_spec (t6 l)
  refine ⟨fun j => if j < 10 then N j else if j < 20 then f1 (j - 10) else if j < 30 then f2 (j - 20) else if j < 40 then f3 (j - 30) else if j < 60 then f4 ((j - 40) / 3) ((j - 40) % 3) else if j < 70 then f5 (j - 60) else f6 (j - 70), ⟨hN, fun l hl => ?_, fun s hs => ?_, fun s hs => ?_, fun s hs k hk => ?_, fun p hp => ?_, fun m hm => ?_⟩, fun s hs => ?_⟩
  · show h 266 l = .inl (Int32.ofNat (if 10 + l < 10 then _ else if 10 + l < 20 then f1 (10 + l - 10) else _))
    rw [if_neg (by omega), if_pos (by omega), show 10 + l - 10 = l by omega]
    exact g1 l (by omega)
  · show h 268 s = .inl (Int32.ofNat (if 20 + s < 10 then _ else if 20 + s < 20 then _ else if 20 + s < 30 then f2 (20 + s - 20) else _))
    rw [if_neg (by omega), if_neg (by omega), if_pos (by omega), show 20 + s - 20 = s by omega]
    exact (g2 s).2 hs
  · show h 269 s = .inl (Int32.ofNat (if 30 + s < 10 then _ else if 30 + s < 20 then _ else if 30 + s < 30 then _ else if 30 + s < 40 then f3 (30 + s - 30) else _))
    rw [if_neg (by omega), if_neg (by omega), if_neg (by omega), if_pos (by omega), show 30 + s - 30 = s by omega]
    exact g3 s hs
  · have k3 : k < 3 := by
      have hk2 : k < (if 20 + s < 10 then N (20 + s) else if 20 + s < 20 then f1 (20 + s - 10) else if 20 + s < 30 then f2 (20 + s - 20) else if 20 + s < 40 then f3 (20 + s - 30) else if 20 + s < 60 then f4 ((20 + s - 40) / 3) ((20 + s - 40) % 3) else if 20 + s < 70 then f5 (20 + s - 60) else f6 (20 + s - 70)) := hk
      rw [if_neg (by omega), if_neg (by omega), if_pos (by omega)] at hk2
      exact Nat.lt_of_lt_of_le hk2 (g2 _).1
    show h 267 (3 * s + k) = .inl (Int32.ofNat (if 40 + 3 * s + k < 10 then _ else if 40 + 3 * s + k < 20 then _ else if 40 + 3 * s + k < 30 then _ else if 40 + 3 * s + k < 40 then _ else if 40 + 3 * s + k < 60 then f4 ((40 + 3 * s + k - 40) / 3) ((40 + 3 * s + k - 40) % 3) else _))
    rw [if_neg (by omega), if_neg (by omega), if_neg (by omega), if_neg (by omega), if_pos (by omega), show (40 + 3 * s + k - 40) / 3 = s by omega, show (40 + 3 * s + k - 40) % 3 = k by omega]
    exact g4 s k hs k3
  · show h 270 p = .inl (Int32.ofNat (if 60 + p < 10 then _ else if 60 + p < 20 then _ else if 60 + p < 30 then _ else if 60 + p < 40 then _ else if 60 + p < 60 then _ else if 60 + p < 70 then f5 (60 + p - 60) else _))
    rw [if_neg (by omega), if_neg (by omega), if_neg (by omega), if_neg (by omega), if_neg (by omega), if_pos (by omega), show 60 + p - 60 = p by omega]
    exact g5 p hp
  · show h 271 m = .inl (Int32.ofNat (if 70 + m < 10 then _ else if 70 + m < 20 then _ else if 70 + m < 30 then _ else if 70 + m < 40 then _ else if 70 + m < 60 then _ else if 70 + m < 70 then _ else f6 (70 + m - 70)))
    rw [if_neg (by omega), if_neg (by omega), if_neg (by omega), if_neg (by omega), if_neg (by omega), if_neg (by omega), show 70 + m - 70 = m by omega]
    exact g6 m hm
  · show (if 20 + s < 10 then N (20 + s) else if 20 + s < 20 then f1 (20 + s - 10) else if 20 + s < 30 then f2 (20 + s - 20) else if 20 + s < 40 then f3 (20 + s - 30) else if 20 + s < 60 then f4 ((20 + s - 40) / 3) ((20 + s - 40) % 3) else if 20 + s < 70 then f5 (20 + s - 60) else f6 (20 + s - 70)) ≤ 3
    rw [if_neg (by omega), if_neg (by omega), if_pos (by omega)]
    exact (g2 _).1
theorem fa_R_cg {A A' : Nat → Nat} {L : Nat} {h : kc_H} (hL : L ≤ 10) (h3 : ∀ s, s < 6 → A' (20 + s) ≤ 3) (e : ∀ j, (j < 6 ∨ (10 ≤ j ∧ j < 10 + L) ∨ (20 ≤ j ∧ j < 26) ∨ (30 ≤ j ∧ j < 36) ∨ (60 ≤ j ∧ j < 66) ∨ (70 ≤ j ∧ j < 73)) → A j = A' j) (e4 : ∀ s, s < 6 → ∀ k, k < A' (20 + s) → A (40 + 3 * s + k) = A' (40 + 3 * s + k)) (hA : fa_R A L h) : fa_R A' L h := by
  refine ⟨⟨by rw [← e 0 (by omega)]; exact hA.1.1, by rw [← e 1 (by omega)]; exact hA.1.2.1, by rw [← e 2 (by omega)]; exact hA.1.2.2.1, by rw [← e 3 (by omega)]; exact hA.1.2.2.2.1, by rw [← e 4 (by omega)]; exact hA.1.2.2.2.2.1, by rw [← e 5 (by omega)]; exact hA.1.2.2.2.2.2⟩, fun l hl => by rw [← e (10 + l) (by omega)]; exact hA.2.1 l hl, fun s hs => by rw [← e (20 + s) (by omega)]; exact hA.2.2.1 s hs, fun s hs => by rw [← e (30 + s) (by omega)]; exact hA.2.2.2.1 s hs, fun s hs k hk => by rw [← e4 s hs k hk]; exact hA.2.2.2.2.1 s hs k (by rw [e (20 + s) (by omega)]; exact hk), fun p hp => by rw [← e (60 + p) (by omega)]; exact hA.2.2.2.2.2.1 p hp, fun m hm => by rw [← e (70 + m) (by omega)]; exact hA.2.2.2.2.2.2 m hm⟩
/-- what the reference holds: the items from the i-th on -/
def fa_ir (h0 : kc_H) (r : List (Nat × List Nat)) (i : Nat) : Prop := ∀ (j : Nat) (q : Nat × List Nat), r[j]? = some q → h0 264 (i + j) = .inl (Int32.ofNat (q.1 + 11)) ∧ (∀ k x, q.2[k]? = some x → h0 265 (5 * (i + j) + k) = .inl (Int32.ofNat x)) ∧ (9 ≤ q.1 ∧ q.1 < 16) ∧ q.2.length = ks_L (kp_sh q.1) ∧ ∀ v ∈ q.2, v < 1000
theorem fa_ir_n {h0 : kc_H} {q : Nat × List Nat} {r : List (Nat × List Nat)} {i : Nat} (h : fa_ir h0 (q :: r) i) : fa_ir h0 r (i + 1) := fun j p hp => by
  have := h (j + 1) p hp
  rw [show i + (j + 1) = i + 1 + j by omega] at this
  exact this
theorem fa_km : ∀ j, j < 60 → ∀ k, k < 4 → kd_rn (kd_ty 265) (5 * j + k) = some (0, 2147483648, 2147483648 + 999) := by decide +kernel
theorem fa_numr {h : kc_H} {j : Nat} {q : Nat × List Nat} (hw : kd_wt kd_ty h) (hj : j < 60) (h1 : ∀ k x, q.2[k]? = some x → h 265 (5 * j + k) = .inl (Int32.ofNat x)) (h2 : ∀ v ∈ q.2, v < 1000) : ∃ x : Nat → Nat, (∀ k, k < 4 → h 265 (5 * j + k) = .inl (Int32.ofNat (x k)) ∧ x k < 1000) ∧ ∀ k, k < q.2.length → x k = fa_xs q k := by
  have t : ∀ k, ∃ y, (k < 4 → h 265 (5 * j + k) = .inl (Int32.ofNat y) ∧ y < 1000) ∧ (k < q.2.length → y = fa_xs q k) := fun k => by
    by_cases c : k < q.2.length
    · refine ⟨fa_xs q k, fun _ => ?_, fun _ => rfl⟩
      have e : q.2[k]? = some q.2[k] := List.getElem?_eq_getElem c
      have e2 : fa_xs q k = q.2[k] := by unfold fa_xs; rw [List.getD_eq_getElem?_getD, e]; rfl
      rw [e2]
      exact ⟨h1 k _ e, h2 _ (List.getElem_mem c)⟩
    · by_cases c4 : k < 4
      · obtain ⟨y, e, hy⟩ := fa_nt3 hw (by decide) (fa_km j hj k c4)
        exact ⟨y, fun _ => ⟨e, by omega⟩, fun q => absurd q c⟩
      · exact ⟨0, fun q => absurd q c4, fun q => absurd q c⟩
  exact ⟨fun k => Classical.choose (t k), fun k => (Classical.choose_spec (t k)).1, fun k => (Classical.choose_spec (t k)).2⟩
set_option maxRecDepth 20000 in
theorem fa_r78l {g : kc_G} {d : Nat} {h0 : kc_H} {B : Nat → Int32} {D M L n : Nat} {Q : Option kc_V → kc_H → Prop} {Z : Nat → Nat} (hg : kc_ok g) (hBB : fa_BB B D M L) (hC0 : fu_B B h0) (hn : n ≤ 60) (hit : h0 259 13 = .inl (Int32.ofNat n)) (hQ : ∀ g1, fa_Hr h0 Z L g1 → Q (some (.inl (Int32.ofNat 1))) g1) : ∀ (r : List (Nat × List Nat)) (A : Nat → Nat) (h : kc_H), A 0 + r.length = n → fa_ir h0 r (A 0) → fa_I B A L (A 0) → fa_M B A M → A 1 = 0 → fa_run B D M L r A = Z → fa_Hr h0 A L h → kc_Ev g (d + 13) wk_m78 Q 122 [(0, .inr (.inr (.inl (some 259))))] [] h := by
  obtain ⟨hB, ⟨eD, hD⟩, ⟨eM, hM⟩, eL, hL⟩ := id hBB
  intro r
  induction r with
  | nil =>
    intro A h hlen hr hI hMx h1i hz hH
    have h3 := hI.2.2.2.2.2.2.1
    have hH1 := hH
    obtain ⟨hw, hA, hF⟩ := hH
    have hC := fa_hr hF hC0
    refine kx_go 1 (pc' := 123) (L' := [(0, .inr (.inr (.inl (some 259))))]) (S' := [.inr (.inr (.inl (some 259)))]) (h' := h) (by with_unfolding_all rfl) ?_
    refine kx_getf (c := 259) (v := .inl (Int32.ofNat (A 0))) rfl (by decide) hA.1.1 ?_
    refine kx_go 1 (pc' := 127) (L' := [(0, .inr (.inr (.inl (some 259))))]) (S' := [.inr (.inr (.inl (some 259))), .inl (Int32.ofNat (A 0))]) (h' := h) (by with_unfolding_all rfl) ?_
    refine kx_getf (c := 259) (v := .inl (Int32.ofNat n)) rfl (by decide) ((hF 259 13 (by omega) (by omega)).trans hit) ?_
    refine kx_go 1 (pc' := (if kc_cnd .ge (Int32.ofNat (A 0)).toInt (Int32.ofNat n).toInt then 216 else 133)) (L' := [(0, .inr (.inr (.inl (some 259))))]) (S' := []) (h' := h) (by with_unfolding_all rfl) ?_
    have hlen2 : A 0 = n := by simpa using hlen
    rw [if_pos ((kx_ge (by omega) (by omega)).mpr (show n ≤ A 0 by omega))]
    have hz2 : A = Z := hz
    rw [hz2] at hH1
    refine kx_go 1 (pc' := 217) (L' := [(0, .inr (.inr (.inl (some 259))))]) (S' := [.inl (Int32.ofNat 1)]) (h' := h) (by with_unfolding_all rfl) ?_
    exact kc_ret_ok rfl (rv := some (.inl (Int32.ofNat 1))) rfl (hQ _ hH1)
  | cons it r ih =>
    intro A h hlen hr hI hMx h1i hz hH
    have h3 := hI.2.2.2.2.2.2.1
    have hH1 := hH
    obtain ⟨hw, hA, hF⟩ := hH
    have hC := fa_hr hF hC0
    refine kx_go 1 (pc' := 123) (L' := [(0, .inr (.inr (.inl (some 259))))]) (S' := [.inr (.inr (.inl (some 259)))]) (h' := h) (by with_unfolding_all rfl) ?_
    refine kx_getf (c := 259) (v := .inl (Int32.ofNat (A 0))) rfl (by decide) hA.1.1 ?_
    refine kx_go 1 (pc' := 127) (L' := [(0, .inr (.inr (.inl (some 259))))]) (S' := [.inr (.inr (.inl (some 259))), .inl (Int32.ofNat (A 0))]) (h' := h) (by with_unfolding_all rfl) ?_
    refine kx_getf (c := 259) (v := .inl (Int32.ofNat n)) rfl (by decide) ((hF 259 13 (by omega) (by omega)).trans hit) ?_
    refine kx_go 1 (pc' := (if kc_cnd .ge (Int32.ofNat (A 0)).toInt (Int32.ofNat n).toInt then 216 else 133)) (L' := [(0, .inr (.inr (.inl (some 259))))]) (S' := []) (h' := h) (by with_unfolding_all rfl) ?_
    have hlen2 : A 0 + (r.length + 1) = n := by simpa using hlen
    rw [if_neg (mt (kx_ge (by omega) (by omega)).mp (show ¬ n ≤ A 0 by omega))]
    refine kx_go 1 (pc' := 134) (L' := [(0, .inr (.inr (.inl (some 259))))]) (S' := [.inr (.inr (.inl (some 259)))]) (h' := h) (by with_unfolding_all rfl) ?_
    refine kx_getf (c := 259) (v := .inl (Int32.ofNat (A 1))) rfl (by decide) hA.1.2.1 ?_
    refine kx_go 1 (pc' := (if kc_cnd .ne (Int32.ofNat (A 1)).toInt 0 then 216 else 140)) (L' := [(0, .inr (.inr (.inl (some 259))))]) (S' := []) (h' := h) (by with_unfolding_all rfl) ?_
    rw [if_neg (fa_z (by omega) h1i)]
    obtain ⟨t1, t2, ⟨t3, t3b⟩, t4, t5⟩ := hr 0 it rfl
    rw [Nat.add_zero] at t1 t2
    have i60 : A 0 < 60 := by omega
    obtain ⟨x, en, ex⟩ := fa_numr (h := h) hw i60 (fun k y e => (hF _ _ (by omega) (by omega)).trans (t2 k y e)) t5
    have ecg : fa_act B A D M L it.1 x = fa_act B A D M L it.1 (fa_xs it) := fa_act_cg t3 t3b (fun k hk => ex k (by omega))
    refine kx_go 3 (pc' := 143) (L' := [(0, .inr (.inr (.inl (some 259))))]) (S' := [.inr (.inr (.inl (some 259))), .inr (.inr (.inl (some 259))), .inr (.inr (.inl (some 259)))]) (h' := h) (by with_unfolding_all rfl) ?_
    refine kx_getf (c := 259) (v := .inl (Int32.ofNat (A 0))) rfl (by decide) hA.1.1 ?_
    have K1 := fa_K_act (D := D) (v := it.1) (x := fa_xs it) hB hD hM hL (i := A 0) hI hMx
    have o0 := fa_act_o (B := B) (D := D) (M := M) (L := L) (v := it.1) (x := fa_xs it) (j := 0) hI.2.2.2.1 (Or.inl rfl)
    have o1 := fa_act_o (B := B) (D := D) (M := M) (L := L) (v := it.1) (x := fa_xs it) (j := 1) hI.2.2.2.1 (Or.inr (Or.inl rfl))
    have o3 := fa_act_o (B := B) (D := D) (M := M) (L := L) (v := it.1) (x := fa_xs it) (j := 3) hI.2.2.2.1 (Or.inr (Or.inr rfl))
    have a7 := fa_act_7 (B := B) (A := A) (D := D) (M := M) (L := L) (v := it.1) (x := fa_xs it)
    have aJ := hI.2.1
    have aS := hI.2.2.2.2.2.2.2.2.2.2
    have a5 := hI.2.2.2.2.1
    have a03 := hI.2.2.1
    refine kc_call_rule (M2 := wk_m238) (av := [.inr (.inr (.inl (some 259))), .inl (Int32.ofNat (A 0))]) (r := [.inr (.inr (.inl (some 259)))]) rfl rfl (kc_Con_le (fa_r238 (d := 0) (i := A 0 + 1) hg hBB hC0 (by omega) (fa_I_mono hI (by omega)) (by omega) (fun m hm => by have := aS m hm; omega) (by omega) hH1 i60 en ((hF 264 (A 0) (by omega) (by omega)).trans t1) t3 t3b) (by omega)) (fun rv h2 hq => ?_)
    obtain ⟨rfl, H2⟩ := hq
    rw [ecg] at H2
    rw [ecg]
    show kc_Ev g (d + 13) wk_m78 _ 149 [(0, .inr (.inr (.inl (some 259))))] [.inl (Int32.ofNat (fa_act B A D M L it.1 (fa_xs it)).1), .inr (.inr (.inl (some 259)))] h2
    have ur : fa_run B D M L (it :: r) A = if (fa_act B A D M L it.1 (fa_xs it)).1 = 0 then fa_run B D M L r (fa_nx B it.1 (fa_act B A D M L it.1 (fa_xs it))) else fa_s (fa_act B A D M L it.1 (fa_xs it)).2 1 (fa_act B A D M L it.1 (fa_xs it)).1 := rfl
    rw [ur] at hz
    clear ur
    generalize fa_act B A D M L it.1 (fa_xs it) = X at *
    refine kx_go 1 (pc' := 152) (L' := [(0, .inr (.inr (.inl (some 259))))]) (S' := []) (h' := (kc_upd h2 259 25 (.inl (Int32.ofNat X.1)))) (by with_unfolding_all rfl) ?_
    have h32 := K1.1.2.2.2.2.2.2.1
    have H3 := fa_n1_r (v := X.1) hL h32 H2
    generalize (kc_upd h2 259 25 (.inl (Int32.ofNat X.1))) = g3 at H3 ⊢
    have H3k := H3
    obtain ⟨hw3, hA3, hF3⟩ := H3
    have hC3 := fa_hr hF3 hC0
    have e25 : g3 259 25 = .inl (Int32.ofNat X.1) := hA3.1.2.1.trans (by rw [fa_se])
    have e24 : g3 259 24 = .inl (Int32.ofNat (A 0)) := hA3.1.1.trans (by rw [fa_sn (by omega), o0])
    have e23 : g3 259 23 = .inl (Int32.ofNat (X.2 3)) := hA3.1.2.2.2.1.trans (by rw [fa_sn (by omega)])
    have l5 := fa_l5 hB
    have lf : fa_lift B it.1 ≤ 9 := by unfold fa_lift; split <;> omega
    refine kx_go 2 (pc' := 154) (L' := [(0, .inr (.inr (.inl (some 259))))]) (S' := [.inr (.inr (.inl (some 259))), .inr (.inr (.inl (some 259)))]) (h' := g3) (by with_unfolding_all rfl) ?_
    refine kx_getf (c := 259) (v := .inl (Int32.ofNat (X.2 3))) rfl (by decide) e23 ?_
    refine kx_go 1 (pc' := 158) (L' := [(0, .inr (.inr (.inl (some 259))))]) (S' := [.inr (.inr (.inl (some 259))), .inl (Int32.ofNat (X.2 3)), .inr (.inr (.inl (some 259)))]) (h' := g3) (by with_unfolding_all rfl) ?_
    refine kx_getf (c := 259) (v := .inl (Int32.ofNat X.1)) rfl (by decide) e25 ?_
    refine kx_go 1 (pc' := (if kc_cnd .ne (Int32.ofNat X.1).toInt 0 then 187 else 164)) (L' := [(0, .inr (.inr (.inl (some 259))))]) (S' := [.inl (Int32.ofNat (X.2 3)), .inr (.inr (.inl (some 259)))]) (h' := g3) (by with_unfolding_all rfl) ?_
    have tail : ∀ z, z = (if X.1 = 0 then fa_lift B it.1 else 0) → kc_Ev g (d + 13) wk_m78 Q 188 [(0, .inr (.inr (.inl (some 259))))] [.inl (Int32.ofNat z), .inl (Int32.ofNat (X.2 3)), .inr (.inr (.inl (some 259)))] g3 := by
      intro z ez
      have z9 : z ≤ 9 := by rw [ez]; split <;> omega
      refine kx_go 1 (pc' := 189) (L' := [(0, .inr (.inr (.inl (some 259))))]) (S' := [.inl ((Int32.ofNat (X.2 3)) + (Int32.ofNat z)), .inr (.inr (.inl (some 259)))]) (h' := g3) (by with_unfolding_all rfl) ?_
      rw [kx_add]
      refine kx_go 1 (pc' := 192) (L' := [(0, .inr (.inr (.inl (some 259))))]) (S' := []) (h' := (kc_upd g3 259 23 (.inl (Int32.ofNat (X.2 3 + z))))) (by with_unfolding_all rfl) ?_
      have h33 : ∀ s, s < 6 → fa_s X.2 1 X.1 (20 + s) ≤ 3 := fun s hs => by rw [fa_sn (by omega)]; exact h32 s hs
      have H4 := fa_n3_r (v := X.2 3 + z) hL h33 H3k
      generalize (kc_upd g3 259 23 (.inl (Int32.ofNat (X.2 3 + z)))) = g4 at H4 ⊢
      have H4k := H4
      obtain ⟨hw4, hA4, hF4⟩ := H4
      have f25 : g4 259 25 = .inl (Int32.ofNat X.1) := hA4.1.2.1.trans (by rw [fa_sn (by omega), fa_se])
      have f24 : g4 259 24 = .inl (Int32.ofNat (A 0)) := hA4.1.1.trans (by rw [fa_sn (by omega), fa_sn (by omega), o0])
      refine kx_go 2 (pc' := 194) (L' := [(0, .inr (.inr (.inl (some 259))))]) (S' := [.inr (.inr (.inl (some 259))), .inr (.inr (.inl (some 259)))]) (h' := g4) (by with_unfolding_all rfl) ?_
      refine kx_getf (c := 259) (v := .inl (Int32.ofNat (A 0))) rfl (by decide) f24 ?_
      refine kx_go 1 (pc' := 198) (L' := [(0, .inr (.inr (.inl (some 259))))]) (S' := [.inr (.inr (.inl (some 259))), .inl (Int32.ofNat (A 0)), .inr (.inr (.inl (some 259)))]) (h' := g4) (by with_unfolding_all rfl) ?_
      refine kx_getf (c := 259) (v := .inl (Int32.ofNat X.1)) rfl (by decide) f25 ?_
      refine kx_go 1 (pc' := (if kc_cnd .ne (Int32.ofNat X.1).toInt 0 then 208 else 204)) (L' := [(0, .inr (.inr (.inl (some 259))))]) (S' := [.inl (Int32.ofNat (A 0)), .inr (.inr (.inl (some 259)))]) (h' := g4) (by with_unfolding_all rfl) ?_
      have h34 : ∀ s, s < 6 → fa_s (fa_s X.2 1 X.1) 3 (X.2 3 + z) (20 + s) ≤ 3 := fun s hs => by rw [fa_sn (by omega)]; exact h33 s hs
      by_cases c0 : X.1 = 0
      · rw [if_neg (fa_z (by omega) c0)]
        rw [if_pos c0] at hz
        rw [if_pos c0] at ez
        refine kx_go 3 (pc' := 210) (L' := [(0, .inr (.inr (.inl (some 259))))]) (S' := [.inl ((Int32.ofNat (A 0)) + (Int32.ofNat 1)), .inr (.inr (.inl (some 259)))]) (h' := g4) (by with_unfolding_all rfl) ?_
        rw [kx_add]
        refine kx_go 1 (pc' := 213) (L' := [(0, .inr (.inr (.inl (some 259))))]) (S' := []) (h' := (kc_upd g4 259 24 (.inl (Int32.ofNat (A 0 + 1))))) (by with_unfolding_all rfl) ?_
        have H5 := fa_n0_r (v := A 0 + 1) (by omega) hL h34 H4k
        generalize (kc_upd g4 259 24 (.inl (Int32.ofNat (A 0 + 1)))) = g5 at H5 ⊢
        have en2 : fa_nx B it.1 X = fa_s (fa_s (fa_s X.2 1 X.1) 3 (X.2 3 + z)) 0 (A 0 + 1) := by unfold fa_nx; rw [fa_sc (by omega), ez, o0]
        rw [← en2] at H5
        have K2 := fa_K_nx (v := it.1) (X := X) hB hM hL (by omega) (by omega) K1
        have n0 : fa_nx B it.1 X 0 = A 0 + 1 := by rw [en2, fa_se]
        have n1 : fa_nx B it.1 X 1 = 0 := by rw [en2, fa_sn (by omega), fa_sn (by omega), fa_se]; exact c0
        refine kx_go 1 (pc' := 122) (L' := [(0, .inr (.inr (.inl (some 259))))]) (S' := []) (h' := g5) (by with_unfolding_all rfl) ?_
        exact ih _ g5 (by rw [n0]; omega) (by rw [n0]; exact fa_ir_n hr) (by rw [n0]; exact K2.1) K2.2 n1 hz H5
      · rw [if_pos (fa_nz (by omega) c0)]
        rw [if_neg c0] at hz
        rw [if_neg c0] at ez
        refine kx_go 2 (pc' := 210) (L' := [(0, .inr (.inr (.inl (some 259))))]) (S' := [.inl ((Int32.ofNat (A 0)) + (Int32.ofNat 0)), .inr (.inr (.inl (some 259)))]) (h' := g4) (by with_unfolding_all rfl) ?_
        rw [kx_add]
        refine kx_go 1 (pc' := 213) (L' := [(0, .inr (.inr (.inl (some 259))))]) (S' := []) (h' := (kc_upd g4 259 24 (.inl (Int32.ofNat (A 0 + 0))))) (by with_unfolding_all rfl) ?_
        have H5 := fa_n0_r (v := A 0 + 0) (by omega) hL h34 H4k
        generalize (kc_upd g4 259 24 (.inl (Int32.ofNat (A 0 + 0)))) = g5 at H5 ⊢
        rw [fa_sid (p := 0) (by rw [fa_sn (by omega), fa_sn (by omega), o0]; omega), fa_sid (p := 3) (by rw [fa_sn (by omega), ez]; omega)] at H5
        have H5k := H5
        obtain ⟨hw5, hA5, hF5⟩ := H5
        have k25 : g5 259 25 = .inl (Int32.ofNat X.1) := hA5.1.2.1.trans (by rw [fa_se])
        have k24 : g5 259 24 = .inl (Int32.ofNat (A 0)) := hA5.1.1.trans (by rw [fa_sn (by omega), o0])
        have k13 : g5 259 13 = .inl (Int32.ofNat n) := (hF5 259 13 (by omega) (by omega)).trans hit
        refine kx_go 1 (pc' := 122) (L' := [(0, .inr (.inr (.inl (some 259))))]) (S' := []) (h' := g5) (by with_unfolding_all rfl) ?_
        refine kx_go 1 (pc' := 123) (L' := [(0, .inr (.inr (.inl (some 259))))]) (S' := [.inr (.inr (.inl (some 259)))]) (h' := g5) (by with_unfolding_all rfl) ?_
        refine kx_getf (c := 259) (v := .inl (Int32.ofNat (A 0))) rfl (by decide) k24 ?_
        refine kx_go 1 (pc' := 127) (L' := [(0, .inr (.inr (.inl (some 259))))]) (S' := [.inr (.inr (.inl (some 259))), .inl (Int32.ofNat (A 0))]) (h' := g5) (by with_unfolding_all rfl) ?_
        refine kx_getf (c := 259) (v := .inl (Int32.ofNat n)) rfl (by decide) k13 ?_
        refine kx_go 1 (pc' := (if kc_cnd .ge (Int32.ofNat (A 0)).toInt (Int32.ofNat n).toInt then 216 else 133)) (L' := [(0, .inr (.inr (.inl (some 259))))]) (S' := []) (h' := g5) (by with_unfolding_all rfl) ?_
        rw [if_neg (mt (kx_ge (by omega) (by omega)).mp (show ¬ n ≤ A 0 by omega))]
        refine kx_go 1 (pc' := 134) (L' := [(0, .inr (.inr (.inl (some 259))))]) (S' := [.inr (.inr (.inl (some 259)))]) (h' := g5) (by with_unfolding_all rfl) ?_
        refine kx_getf (c := 259) (v := .inl (Int32.ofNat X.1)) rfl (by decide) k25 ?_
        refine kx_go 1 (pc' := (if kc_cnd .ne (Int32.ofNat X.1).toInt 0 then 216 else 140)) (L' := [(0, .inr (.inr (.inl (some 259))))]) (S' := []) (h' := g5) (by with_unfolding_all rfl) ?_
        rw [if_pos (fa_nz (by omega) c0)]
        rw [hz] at H5k
        refine kx_go 1 (pc' := 217) (L' := [(0, .inr (.inr (.inl (some 259))))]) (S' := [.inl (Int32.ofNat 1)]) (h' := g5) (by with_unfolding_all rfl) ?_
        exact kc_ret_ok rfl (rv := some (.inl (Int32.ofNat 1))) rfl (hQ _ H5k)
    by_cases c0 : X.1 = 0
    · rw [if_neg (show ¬ (kc_cnd .ne (Int32.ofNat X.1).toInt 0 = true) from fa_z (by omega) c0)]
      refine kx_go 1 (pc' := 165) (L' := [(0, .inr (.inr (.inl (some 259))))]) (S' := [.inr (.inr (.inl (some 259))), .inl (Int32.ofNat (X.2 3)), .inr (.inr (.inl (some 259)))]) (h' := g3) (by with_unfolding_all rfl) ?_
      refine kx_getf (c := 259) (v := .inr (.inr (.inl (some 264)))) rfl (by decide) (kx_ofr (hw3 _ _ _ fa_kv.1)) ?_
      refine kx_go 1 (pc' := 169) (L' := [(0, .inr (.inr (.inl (some 259))))]) (S' := [.inr (.inr (.inl (some 259))), .inr (.inr (.inl (some 264))), .inl (Int32.ofNat (X.2 3)), .inr (.inr (.inl (some 259)))]) (h' := g3) (by with_unfolding_all rfl) ?_
      refine kx_getf (c := 259) (v := .inl (Int32.ofNat (A 0))) rfl (by decide) e24 ?_
      refine kx_iald (c := 264) (j := A 0) (m := 240) (v := .inl (Int32.ofNat (it.1 + 11))) rfl rfl (by decide) (by decide) (by omega) ((hF3 264 (A 0) (by omega) (by omega)).trans t1) ?_
      refine kx_go 2 (pc' := (if kc_cnd .eq (Int32.ofNat (it.1 + 11)).toInt (Int32.ofNat 26).toInt then 187 else 178)) (L' := [(0, .inr (.inr (.inl (some 259))))]) (S' := [.inl (Int32.ofNat (X.2 3)), .inr (.inr (.inl (some 259)))]) (h' := g3) (by with_unfolding_all rfl) ?_
      by_cases c15 : it.1 = 15
      · rw [if_pos ((kx_eq (by omega) (by omega)).mpr (show it.1 + 11 = 26 by omega))]
        refine kx_go 1 (pc' := 188) (L' := [(0, .inr (.inr (.inl (some 259))))]) (S' := [.inl (Int32.ofNat 0), .inl (Int32.ofNat (X.2 3)), .inr (.inr (.inl (some 259)))]) (h' := g3) (by with_unfolding_all rfl) ?_
        exact tail 0 (by rw [if_pos c0]; exact (if_pos c15).symm)
      · rw [if_neg (mt (kx_eq (by omega) (by omega)).mp (show ¬ it.1 + 11 = 26 by omega))]
        refine kx_go 1 (pc' := 179) (L' := [(0, .inr (.inr (.inl (some 259))))]) (S' := [.inr (.inr (.inl (some 259))), .inl (Int32.ofNat (X.2 3)), .inr (.inr (.inl (some 259)))]) (h' := g3) (by with_unfolding_all rfl) ?_
        refine kx_getf (c := 259) (v := .inr (.inr (.inl (some 260)))) rfl (by decide) (kx_ofr (hw3 _ _ _ kz_k.1)) ?_
        refine kx_go 1 (pc' := 183) (L' := [(0, .inr (.inr (.inl (some 259))))]) (S' := [.inl (Int32.ofNat 5), .inr (.inr (.inl (some 260))), .inl (Int32.ofNat (X.2 3)), .inr (.inr (.inl (some 259)))]) (h' := g3) (by with_unfolding_all rfl) ?_
        refine kx_iald (c := 260) (j := 5) (m := 650) (v := .inl (Int32.ofNat (fa_n B 5))) rfl rfl (by decide) (by decide) (by decide) ((hC3 5 (by decide) (by decide)).trans (by rw [← l5.1])) ?_
        refine kx_go 1 (pc' := 188) (L' := [(0, .inr (.inr (.inl (some 259))))]) (S' := [.inl (Int32.ofNat (fa_n B 5)), .inl (Int32.ofNat (X.2 3)), .inr (.inr (.inl (some 259)))]) (h' := g3) (by with_unfolding_all rfl) ?_
        exact tail (fa_n B 5) (by rw [if_pos c0]; exact (if_neg c15).symm)
    · rw [if_pos (show kc_cnd .ne (Int32.ofNat X.1).toInt 0 = true from fa_nz (by omega) c0)]
      refine kx_go 1 (pc' := 188) (L' := [(0, .inr (.inr (.inl (some 259))))]) (S' := [.inl (Int32.ofNat 0), .inl (Int32.ofNat (X.2 3)), .inr (.inr (.inl (some 259)))]) (h' := g3) (by with_unfolding_all rfl) ?_
      exact tail 0 (by rw [if_neg c0])
end
section
-- 99.zpz0
/-! ===== the acts: a text's run, whole ===== -/
/-- bounds behind a run -/
theorem fa_run_I {B : Nat → Int32} {D M L : Nat} (hB : fu_BT B) (hD : D ≤ 5) (hM : M ≤ 3) (hL : L ≤ 10) : ∀ (r : List (Nat × List Nat)) (i : Nat) (A : Nat → Nat), i + r.length ≤ 60 → fa_I B A L i → fa_M B A M → fa_I B (fa_run B D M L r A) L 60
  | [], i, A, h, hI, _ => fa_I_mono hI (by simpa using h)
  | q :: r, i, A, h, hI, hMx => by
    have h2 : i + (r.length + 1) ≤ 60 := by simpa using h
    have K1 := fa_K_act (D := D) (v := q.1) (x := fa_xs q) hB hD hM hL hI hMx
    have o0 := fa_act_o (B := B) (D := D) (M := M) (L := L) (v := q.1) (x := fa_xs q) (j := 0) hI.2.2.2.1 (Or.inl rfl)
    have o3 := fa_act_o (B := B) (D := D) (M := M) (L := L) (v := q.1) (x := fa_xs q) (j := 3) hI.2.2.2.1 (Or.inr (Or.inr rfl))
    have a0 := hI.1
    have a3 := hI.2.2.1
    show fa_I B (if (fa_act B A D M L q.1 (fa_xs q)).1 = 0 then fa_run B D M L r (fa_nx B q.1 (fa_act B A D M L q.1 (fa_xs q))) else fa_s (fa_act B A D M L q.1 (fa_xs q)).2 1 (fa_act B A D M L q.1 (fa_xs q)).1) L 60
    split
    · have K2 := fa_K_nx (v := q.1) (X := fa_act B A D M L q.1 (fa_xs q)) hB hM hL (by omega) (by omega) K1
      exact fa_run_I hB hD hM hL r (i + 1) _ (by omega) K2.1 K2.2
    · exact fa_I_mono (fa_I_w hL K1.1 ⟨fun _ => by omega, fun _ => by omega, fun _ => by omega, fun _ => by omega, fun _ => by omega, fun _ _ => by omega, fun _ _ => by omega, fun _ _ => by omega, fun _ _ => by omega⟩ (by omega) (by omega)) (by omega)
def fa_Z (t : Nat → Nat) (n : Nat) (B : Nat → Int32) (D M L : Nat) : Option (Nat → Nat) := match kp_its t n 7 9 61 0 with
  | none => none
  | some l => some (fa_run B D M L l (fa_zz B))
theorem fa_Z_I {t : Nat → Nat} {n : Nat} {B : Nat → Int32} {D M L : Nat} {Z : Nat → Nat} (hn : n ≤ 240) (hBB : fa_BB B D M L) (h : fa_Z t n B D M L = some Z) : fa_I B Z L 60 := by
  obtain ⟨hB, ⟨eD, hD⟩, ⟨eM, hM⟩, eL, hL⟩ := hBB
  unfold fa_Z at h
  cases hk : kp_its t n 7 9 61 0 with
  | none => rw [hk] at h; cases h
  | some l =>
    rw [hk] at h
    cases h
    obtain ⟨-, hlen⟩ := kp_its_ok hn (by decide) 61 0 0 l (by omega) (by omega) hk
    exact fa_run_I hB hD hM hL l 0 _ hlen (fa_I_zz hB hL) (fa_M_zz hM)
/-- what perform and runs leave -/
def fa_Pc (B : Nat → Int32) (L : Nat) (h : kc_H) (z : Option (Nat → Nat)) (rv : Option kc_V) (h' : kc_H) : Prop := kd_wt kd_ty h' ∧ (∀ c x, ¬ (127 ≤ c ∧ c ≤ 203) → h' c x = h c x) ∧ match z with
  | none => rv = some (.inl (Int32.ofNat 0))
  | some Z => rv = some (.inl (Int32.ofNat 1)) ∧ fa_C Z L h' ∧ fa_W B Z L h'
def fa_Pr (L : Nat) (h : kc_H) (z : Option (Nat → Nat)) (rv : Option kc_V) (h' : kc_H) : Prop := kd_wt kd_ty h' ∧ (∀ c x, ¬ (264 ≤ c ∧ c ≤ 271) → ¬ (c = 259 ∧ 6 ≤ x ∧ x ≤ 25) → h' c x = h c x) ∧ match z with
  | none => rv = some (.inl (Int32.ofNat 0))
  | some Z => rv = some (.inl (Int32.ofNat 1)) ∧ fa_R Z L h'
set_option maxRecDepth 20000 in
theorem fa_c73 {g : kc_G} {d : Nat} {h : kc_H} {t : Nat → Nat} {n : Nat} {B : Nat → Int32} {D M L : Nat} (hg : kc_ok g) (hBB : fa_BB B D M L) (hw : kd_wt kd_ty h) (hC : fu_C B 1 h) (hn : n ≤ 240) (hb : ∀ j, j < 240 → t j < 256) (ht : ∀ j, j < 240 → h 30 j = .inl (Int32.ofNat (t j))) (hnt : h 31 1 = .inl (Int32.ofNat n)) : kc_Con g (d + 14) 73 [.inr (.inr (.inl (some 190)))] h (fa_Pc B L h (fa_Z t n B D M L)) := by
  obtain ⟨q0, -, eq0⟩ := kx_ofg (by omega) (hw _ _ _ kv_k127.1)
  obtain ⟨s0, -, es0⟩ := kx_ofg (by omega) (hw _ _ _ kv_k127.2)
  obtain ⟨hB, ⟨eD, hD⟩, ⟨eM, hM⟩, eL, hL⟩ := id hBB
  refine kc_Con_new hg (M := wk_m73) rfl rfl rfl (show 1 ≤ 2 by decide) ?_
  refine kx_go 1 (pc' := 1) (L' := [(0, .inr (.inr (.inl (some 190))))]) (S' := [.inr (.inr (.inl (some 190)))]) (h' := h) (by with_unfolding_all rfl) ?_
  refine kx_getf (c := 190) (v := .inr (.inr (.inl (some 127)))) rfl (by decide) (kx_ofr (hw _ _ _ fa_k.2.1)) ?_
  refine kx_go 1 (pc' := 5) (L' := [(0, .inr (.inr (.inl (some 190))))]) (S' := [.inl (Int32.ofNat 1), .inr (.inr (.inl (some 127)))]) (h' := h) (by with_unfolding_all rfl) ?_
  refine kc_call_rule (M2 := wk_m61) (av := [.inr (.inr (.inl (some 127))), .inl (Int32.ofNat 1)]) (r := []) rfl rfl (kc_Con_le (kr_read1 (d := 0) (n := n) (t := t) hg hn hb ht (fun i hi => kx_ofr (hw _ _ _ (kr_k129 i hi))) (kx_ofr (hw _ _ _ kv_k127b)) (kx_ofr (hw _ _ _ kr_k1.1)) (kx_ofr (hw _ _ _ kr_k1.2.2.2.1)) (kx_ofr (hw _ _ _ kr_k1.2.1)) hnt (kx_ofr (hw _ _ _ fa_kn.2.1)) (kx_ofr (hw _ _ _ fa_kn.2.2)) eq0 es0) (by omega)) (fun rv h1 hq => ?_)
  have hpost := kr_post (g := g) hw (Or.inr rfl) hn (by decide) hq
  obtain ⟨pp, pp1, -, -, hw1, hfr1⟩ := hpost
  obtain rfl := List.mem_singleton.mp pp1
  simp only at hfr1
  have near : ∀ c i, ¬ (127 ≤ c ∧ c ≤ 189) → h1 c i = h c i := fun c i hc => hfr1 c i (fun q hq => by
    simp only [kr_W, List.mem_cons, List.not_mem_nil, or_false] at hq
    rcases hq with rfl | rfl | rfl | rfl <;> exact kb_inr (by (try dsimp only); omega))
  have hC1 : fu_C B 1 h1 := fun j hj htl => (near _ _ (by have := (fu_qp hj (fu_te htl)).2.1; omega)).trans (hC j hj htl)
  unfold fa_Z
  unfold kr_Qr at hq
  cases hk : kp_its t n 7 9 61 0 with
  | none =>
    rw [hk] at hq
    obtain ⟨hx, it2, p2, k2, s2, rfl, ⟨-, -, hs2, -, -⟩, -⟩ := hq
    show kc_Ev g (d + 13) wk_m73 _ 8 [(0, .inr (.inr (.inl (some 190))))] [.inl (Int32.ofNat s2)] h1
    refine kx_go 2 (pc' := (if kc_cnd .eq (Int32.ofNat s2).toInt (Int32.ofInt (-1)).toInt then 14 else 12)) (L' := [(0, .inr (.inr (.inl (some 190))))]) (S' := []) (h' := h1) (by with_unfolding_all rfl) ?_
    rw [if_neg (kx_nm1 (by omega))]
    refine kx_go 1 (pc' := 13) (L' := [(0, .inr (.inr (.inl (some 190))))]) (S' := [.inl (Int32.ofNat 0)]) (h' := h1) (by with_unfolding_all rfl) ?_
    exact kc_ret_ok rfl (rv := some (.inl (Int32.ofNat 0))) rfl ⟨hw1, fun c i hc => near c i (by omega), rfl⟩
  | some l =>
    rw [hk] at hq
    obtain ⟨p2, k2, s2, rfl, ⟨hp2, hk2, hs2⟩, hh1⟩ := hq
    obtain ⟨hall, hlen⟩ := kp_its_ok hn (by decide) 61 0 0 l (by omega) (by omega) hk
    have e1 : ∀ c b, ¬ c = 127 → h1 c b = kr_ws h 0 l c b := fun c b hc => by
      rw [hh1]
      unfold kr_H kj
      rw [if_neg hc, if_neg hc]
    have hit : h1 127 1 = .inl (Int32.ofNat l.length) := by rw [hh1]; rfl
    have his : fa_it h1 l 0 := fun j q hq => by
      obtain ⟨a1, a2⟩ := kr_ws_at l h 0 j q hq
      obtain ⟨b1, b2, b3, b4⟩ := hall q (List.mem_of_getElem? hq)
      exact ⟨(e1 128 _ (by decide)).trans a1, fun k x hx => (e1 _ _ (by omega)).trans (a2 k x hx), ⟨b2, b3⟩, b4, b1.2.2⟩
    clear hh1 e1
    show kc_Ev g (d + 13) wk_m73 _ 8 [(0, .inr (.inr (.inl (some 190))))] [.inl (Int32.ofInt (-1))] h1
    refine kx_go 2 (pc' := (if kc_cnd .eq (Int32.ofInt (-1)).toInt (Int32.ofInt (-1)).toInt then 14 else 12)) (L' := [(0, .inr (.inr (.inl (some 190))))]) (S' := []) (h' := h1) (by with_unfolding_all rfl) ?_
    rw [if_pos kx_m1]
    refine kx_go 1 (pc' := 15) (L' := [(0, .inr (.inr (.inl (some 190))))]) (S' := [.inr (.inr (.inl (some 190)))]) (h' := h1) (by with_unfolding_all rfl) ?_
    refine kc_call_rule (M2 := wk_m74) (av := [.inr (.inr (.inl (some 190)))]) (r := []) rfl rfl (kc_Con_le (fa_c74 (d := 0) hg hBB hC1 hw1) (by omega)) (fun rv h2 hq => ?_)
    obtain ⟨rfl, H2, W2⟩ := hq
    show kc_Ev g (d + 13) wk_m73 _ 18 [(0, .inr (.inr (.inl (some 190))))] [] h2
    refine kx_go 2 (pc' := 20) (L' := [(1, .inl (Int32.ofNat 0)), (0, .inr (.inr (.inl (some 190))))]) (S' := []) (h' := h2) (by with_unfolding_all rfl) ?_
    refine kf_lo (L := [(1, .inl (Int32.ofNat 0)), (0, .inr (.inr (.inl (some 190))))]) (by intro q hq; simp only [List.mem_cons, List.not_mem_nil, or_false] at hq; rcases hq with rfl | rfl <;> rfl) ?_
    refine fa_c73l (d := d + 1) (n := l.length) (Z := fa_run B D M L l (fa_zz B)) hg hBB hC1 (by omega) hit (fun g1 G1 V1 => ?_) l 0 (fa_zz B) h2 (Nat.zero_add _) his (fa_I_zz hB hL) (fa_M_zz hM) (fa_zz0 (by omega) (by omega)) (fa_zz0 (by omega) (by omega)) rfl H2 W2
    exact ⟨G1.1, fun c i hc => (G1.2.2 c i (by omega)).trans (near c i (by omega)), rfl, G1.2.1, V1⟩
end
section
-- 99.zpz1
/-! ===== the acts: a text's run, the reference, whole ===== -/
theorem fa_zzc {B : Nat → Int32} {A : Nat → Nat} {L : Nat} {h : kc_H} (hL : L ≤ 10) (z6 : ∀ j, j < 6 → A j = 0) (hat : ∀ l, l < L → A (10 + l) = fa_n B (80 + 7 * l + 2)) (hlo : ∀ s, s < 6 → A (20 + s) = 0) (hst : ∀ s, s < 6 → A (30 + s) = 0) (hli : ∀ p, p < 6 → A (60 + p) = fa_n B (52 + p)) (hso : ∀ m, m < 3 → A (70 + m) = 0) (hA : fa_R A L h) : fa_R (fa_zz B) L h := by
  refine fa_R_cg hL (fun s hs => by rw [fa_zz0 (by omega) (by omega)]; omega) (fun j hj => ?_) (fun s hs k hk => ?_) hA
  · rcases hj with q | q | q | q | q | q
    · rw [z6 j q, fa_zz0 (by omega) (by omega)]
    · obtain ⟨l, rfl⟩ : ∃ l, j = 10 + l := ⟨j - 10, by omega⟩
      rw [hat l (by omega), fa_zz1 (by omega)]
    · obtain ⟨s, rfl⟩ : ∃ s, j = 20 + s := ⟨j - 20, by omega⟩
      rw [hlo s (by omega), fa_zz0 (by omega) (by omega)]
    · obtain ⟨s, rfl⟩ : ∃ s, j = 30 + s := ⟨j - 30, by omega⟩
      rw [hst s (by omega), fa_zz0 (by omega) (by omega)]
    · obtain ⟨p, rfl⟩ : ∃ p, j = 60 + p := ⟨j - 60, by omega⟩
      rw [hli p (by omega), fa_zz2 (by omega)]
    · obtain ⟨m, rfl⟩ : ∃ m, j = 70 + m := ⟨j - 70, by omega⟩
      rw [hso m (by omega), fa_zz0 (by omega) (by omega)]
  · rw [fa_zz0 (by omega) (by omega)] at hk
    omega
set_option maxRecDepth 20000 in
theorem fa_r78a {g : kc_G} {d : Nat} {h0 : kc_H} {B : Nat → Int32} {D M L : Nat} {Q : Option kc_V → kc_H → Prop} (hg : kc_ok g) (hBB : fa_BB B D M L) (hC0 : fu_B B h0) (hQ : ∀ (A : Nat → Nat) (h : kc_H), fa_Hr h0 A L h → (∀ s, s < 6 → A (20 + s) ≤ 3) → (∀ l2, l2 < L → A (10 + l2) = fa_n B (80 + 7 * l2 + 2)) → kc_Ev g (d + 13) wk_m78 Q 40 [(1, .inl (Int32.ofNat L)), (0, .inr (.inr (.inl (some 259))))] [] h) : ∀ (u l : Nat) (A : Nat → Nat) (h : kc_H), L - l = u → l ≤ L → fa_Hr h0 A L h → (∀ s, s < 6 → A (20 + s) ≤ 3) → (∀ l2, l2 < l → A (10 + l2) = fa_n B (80 + 7 * l2 + 2)) → kc_Ev g (d + 13) wk_m78 Q 12 [(1, .inl (Int32.ofNat l)), (0, .inr (.inr (.inl (some 259))))] [] h := by
  obtain ⟨hB, ⟨eD, hD⟩, ⟨eM, hM⟩, eL, hL⟩ := id hBB
  intro u
  induction u with
  | zero =>
    intro l A h hu hl hH h3 hp
    have hH1 := hH
    obtain ⟨hw, hA, hF⟩ := hH
    have hC := fa_hr hF hC0
    refine kx_go 2 (pc' := 14) (L' := [(1, .inl (Int32.ofNat l)), (0, .inr (.inr (.inl (some 259))))]) (S' := [.inr (.inr (.inl (some 259))), .inl (Int32.ofNat l)]) (h' := h) (by with_unfolding_all rfl) ?_
    refine kx_getf (c := 259) (v := .inr (.inr (.inl (some 260)))) rfl (by decide) (kx_ofr (hw _ _ _ kz_k.1)) ?_
    refine kx_go 1 (pc' := 18) (L' := [(1, .inl (Int32.ofNat l)), (0, .inr (.inr (.inl (some 259))))]) (S' := [.inl (Int32.ofNat 2), .inr (.inr (.inl (some 260))), .inl (Int32.ofNat l)]) (h' := h) (by with_unfolding_all rfl) ?_
    refine kx_iald (c := 260) (j := 2) (m := 650) (v := .inl (Int32.ofNat L)) rfl rfl (by decide) (by decide) (by decide) ((hC 2 (by decide) (by decide)).trans (by rw [eL])) ?_
    refine kx_go 1 (pc' := (if kc_cnd .ge (Int32.ofNat l).toInt (Int32.ofNat L).toInt then 40 else 22)) (L' := [(1, .inl (Int32.ofNat l)), (0, .inr (.inr (.inl (some 259))))]) (S' := []) (h' := h) (by with_unfolding_all rfl) ?_
    have el : l = L := by omega
    rw [if_pos ((kx_ge (by omega) (by omega)).mpr (show L ≤ l by omega)), el]
    exact hQ A h hH1 h3 (fun l2 hl2 => hp l2 (by omega))
  | succ u ih =>
    intro l A h hu hl hH h3 hp
    have hH1 := hH
    obtain ⟨hw, hA, hF⟩ := hH
    have hC := fa_hr hF hC0
    refine kx_go 2 (pc' := 14) (L' := [(1, .inl (Int32.ofNat l)), (0, .inr (.inr (.inl (some 259))))]) (S' := [.inr (.inr (.inl (some 259))), .inl (Int32.ofNat l)]) (h' := h) (by with_unfolding_all rfl) ?_
    refine kx_getf (c := 259) (v := .inr (.inr (.inl (some 260)))) rfl (by decide) (kx_ofr (hw _ _ _ kz_k.1)) ?_
    refine kx_go 1 (pc' := 18) (L' := [(1, .inl (Int32.ofNat l)), (0, .inr (.inr (.inl (some 259))))]) (S' := [.inl (Int32.ofNat 2), .inr (.inr (.inl (some 260))), .inl (Int32.ofNat l)]) (h' := h) (by with_unfolding_all rfl) ?_
    refine kx_iald (c := 260) (j := 2) (m := 650) (v := .inl (Int32.ofNat L)) rfl rfl (by decide) (by decide) (by decide) ((hC 2 (by decide) (by decide)).trans (by rw [eL])) ?_
    refine kx_go 1 (pc' := (if kc_cnd .ge (Int32.ofNat l).toInt (Int32.ofNat L).toInt then 40 else 22)) (L' := [(1, .inl (Int32.ofNat l)), (0, .inr (.inr (.inl (some 259))))]) (S' := []) (h' := h) (by with_unfolding_all rfl) ?_
    rw [if_neg (mt (kx_ge (by omega) (by omega)).mp (show ¬ L ≤ l by omega))]
    refine kx_go 1 (pc' := 23) (L' := [(1, .inl (Int32.ofNat l)), (0, .inr (.inr (.inl (some 259))))]) (S' := [.inr (.inr (.inl (some 259)))]) (h' := h) (by with_unfolding_all rfl) ?_
    refine kx_getf (c := 259) (v := .inr (.inr (.inl (some 266)))) rfl (by decide) (kx_ofr (hw _ _ _ fa_kr.1)) ?_
    refine kx_go 4 (pc' := 30) (L' := [(1, .inl (Int32.ofNat l)), (0, .inr (.inr (.inl (some 259))))]) (S' := [.inl (Int32.ofNat 2), .inl (Int32.ofNat l), .inr (.inr (.inl (some 259))), .inl (Int32.ofNat l), .inr (.inr (.inl (some 266)))]) (h' := h) (by with_unfolding_all rfl) ?_
    refine kc_call_rule (M2 := wk_m237) (av := [.inr (.inr (.inl (some 259))), .inl (Int32.ofNat l), .inl (Int32.ofNat 2)]) (r := [.inl (Int32.ofNat l), .inr (.inr (.inl (some 266)))]) rfl rfl (kc_Con_le (fh_r237 (d := 0) hg hw hC (show l < 10 by omega) (show 2 < 6 by decide)) (by omega)) (fun rv h2 hq => ?_)
    obtain ⟨rfl, e9⟩ := hq
    rw [e9]
    clear e9
    show kc_Ev g (d + 13) wk_m78 _ 33 [(1, .inl (Int32.ofNat l)), (0, .inr (.inr (.inl (some 259))))] [.inl (B (80 + 7 * l + 2)), .inl (Int32.ofNat l), .inr (.inr (.inl (some 266)))] h
    rw [(fa_nl (e := 2) hB (show l < 10 by omega) (by decide) (by decide) (fa_tl l (by omega)).2.2.1).1]
    refine kx_iast (c := 266) (j := l) (m := 10) rfl rfl (by decide) (by decide) (by omega) ?_
    have H2 := fa_at_r (l := l) (v := fa_n B (80 + 7 * l + 2)) (show l < L by omega) hL h3 hH1
    generalize (kc_upd h 266 l (.inl (Int32.ofNat (fa_n B (80 + 7 * l + 2))))) = h2 at H2 ⊢
    refine kx_go 2 (pc' := 12) (L' := [(1, .inl ((Int32.ofNat l) + Int32.ofInt 1)), (0, .inr (.inr (.inl (some 259))))]) (S' := []) (h' := h2) (by with_unfolding_all rfl) ?_
    rw [kx_inc]
    refine kf_lo (L := [(1, .inl (Int32.ofNat (l + 1))), (0, .inr (.inr (.inl (some 259))))]) (by intro q hq; simp only [List.mem_cons, List.not_mem_nil, or_false] at hq; rcases hq with rfl | rfl <;> rfl) ?_
    exact ih (l + 1) _ h2 (by omega) (by omega) H2 (fun s hs => by rw [fa_sn (by omega)]; exact h3 s hs) (fun l2 hl2 => by
      by_cases e : l2 = l
      · subst e; exact fa_se
      · rw [fa_sn (by omega)]; exact hp l2 (by omega))
set_option maxRecDepth 20000 in
theorem fa_r78b {g : kc_G} {d : Nat} {h0 : kc_H} {B : Nat → Int32} {D M L : Nat} {Q : Option kc_V → kc_H → Prop} (hg : kc_ok g) (hBB : fa_BB B D M L) (hC0 : fu_B B h0) (hQ : ∀ (A : Nat → Nat) (h : kc_H), fa_Hr h0 A L h → (∀ s, s < 6 → A (20 + s) ≤ 3) → (∀ l2, l2 < L → A (10 + l2) = fa_n B (80 + 7 * l2 + 2)) → (∀ s, s < 6 → A (20 + s) = 0) → (∀ s, s < 6 → A (30 + s) = 0) → (∀ p, p < 6 → A (60 + p) = fa_n B (52 + p)) → (∀ m, 2 * m < 6 → A (70 + m) = 0) → kc_Ev g (d + 13) wk_m78 Q 92 [(1, .inl (Int32.ofNat 6)), (0, .inr (.inr (.inl (some 259))))] [] h) : ∀ (u i : Nat) (A : Nat → Nat) (h : kc_H), 6 - i = u → i ≤ 6 → fa_Hr h0 A L h → (∀ s, s < 6 → A (20 + s) ≤ 3) → (∀ l2, l2 < L → A (10 + l2) = fa_n B (80 + 7 * l2 + 2)) → (∀ s, s < i → A (20 + s) = 0) → (∀ s, s < i → A (30 + s) = 0) → (∀ p, p < i → A (60 + p) = fa_n B (52 + p)) → (∀ m, 2 * m < i → A (70 + m) = 0) → kc_Ev g (d + 13) wk_m78 Q 42 [(1, .inl (Int32.ofNat i)), (0, .inr (.inr (.inl (some 259))))] [] h := by
  obtain ⟨hB, ⟨eD, hD⟩, ⟨eM, hM⟩, eL, hL⟩ := id hBB
  intro u
  induction u with
  | zero =>
    intro i A h hu hi hH h3 hp q1 q2 q3 q4
    have hH1 := hH
    obtain ⟨hw, hA, hF⟩ := hH
    refine kx_go 3 (pc' := (if kc_cnd .ge (Int32.ofNat i).toInt (Int32.ofNat 6).toInt then 92 else 48)) (L' := [(1, .inl (Int32.ofNat i)), (0, .inr (.inr (.inl (some 259))))]) (S' := []) (h' := h) (by with_unfolding_all rfl) ?_
    have ei : i = 6 := by omega
    subst ei
    rw [if_pos ((kx_ge (by omega) (by omega)).mpr (show 6 ≤ 6 by omega))]
    exact hQ A h hH1 h3 hp q1 q2 q3 q4
  | succ u ih =>
    intro i A h hu hi hH h3 hp q1 q2 q3 q4
    have hH1 := hH
    obtain ⟨hw, hA, hF⟩ := hH
    refine kx_go 3 (pc' := (if kc_cnd .ge (Int32.ofNat i).toInt (Int32.ofNat 6).toInt then 92 else 48)) (L' := [(1, .inl (Int32.ofNat i)), (0, .inr (.inr (.inl (some 259))))]) (S' := []) (h' := h) (by with_unfolding_all rfl) ?_
    rw [if_neg (mt (kx_ge (by omega) (by omega)).mp (show ¬ 6 ≤ i by omega))]
    refine kx_go 1 (pc' := 49) (L' := [(1, .inl (Int32.ofNat i)), (0, .inr (.inr (.inl (some 259))))]) (S' := [.inr (.inr (.inl (some 259)))]) (h' := h) (by with_unfolding_all rfl) ?_
    refine kx_getf (c := 259) (v := .inr (.inr (.inl (some 268)))) rfl (by decide) (kx_ofr (hw _ _ _ fa_kr.2.2.1)) ?_
    refine kx_go 2 (pc' := 54) (L' := [(1, .inl (Int32.ofNat i)), (0, .inr (.inr (.inl (some 259))))]) (S' := [.inl (Int32.ofNat 0), .inl (Int32.ofNat i), .inr (.inr (.inl (some 268)))]) (h' := h) (by with_unfolding_all rfl) ?_
    refine kx_iast (c := 268) (j := i) (m := 6) rfl rfl (by decide) (by decide) (by omega) ?_
    have H2 := fa_lo_r (s := i) (v := 0) (show i < 6 by omega) (Nat.zero_le _) hL h3 hH1
    generalize (kc_upd h 268 i (.inl (Int32.ofNat 0))) = h2 at H2 ⊢
    have hw2 := H2.1
    have h32 : ∀ s, s < 6 → fa_s A (20 + i) 0 (20 + s) ≤ 3 := fun s hs => by
      unfold fa_s
      split
      · exact Nat.zero_le _
      · exact h3 s hs
    refine kx_go 1 (pc' := 56) (L' := [(1, .inl (Int32.ofNat i)), (0, .inr (.inr (.inl (some 259))))]) (S' := [.inr (.inr (.inl (some 259)))]) (h' := h2) (by with_unfolding_all rfl) ?_
    refine kx_getf (c := 259) (v := .inr (.inr (.inl (some 269)))) rfl (by decide) (kx_ofr (hw2 _ _ _ fa_kr.2.2.2.1)) ?_
    refine kx_go 2 (pc' := 61) (L' := [(1, .inl (Int32.ofNat i)), (0, .inr (.inr (.inl (some 259))))]) (S' := [.inl (Int32.ofNat 0), .inl (Int32.ofNat i), .inr (.inr (.inl (some 269)))]) (h' := h2) (by with_unfolding_all rfl) ?_
    refine kx_iast (c := 269) (j := i) (m := 6) rfl rfl (by decide) (by decide) (by omega) ?_
    have H3 := fa_st_r (s := i) (v := 0) (show i < 6 by omega) hL h32 H2
    generalize (kc_upd h2 269 i (.inl (Int32.ofNat 0))) = h3c at H3 ⊢
    have hw3 := H3.1
    have h33 : ∀ s, s < 6 → fa_s (fa_s A (20 + i) 0) (30 + i) 0 (20 + s) ≤ 3 := fun s hs => by rw [fa_sn (by omega)]; exact h32 s hs
    have hC3 := fa_hr H3.2.2 hC0
    refine kx_go 1 (pc' := 63) (L' := [(1, .inl (Int32.ofNat i)), (0, .inr (.inr (.inl (some 259))))]) (S' := [.inr (.inr (.inl (some 259)))]) (h' := h3c) (by with_unfolding_all rfl) ?_
    refine kx_getf (c := 259) (v := .inr (.inr (.inl (some 270)))) rfl (by decide) (kx_ofr (hw3 _ _ _ fa_kr.2.2.2.2.1)) ?_
    refine kx_go 2 (pc' := 68) (L' := [(1, .inl (Int32.ofNat i)), (0, .inr (.inr (.inl (some 259))))]) (S' := [.inr (.inr (.inl (some 259))), .inl (Int32.ofNat i), .inr (.inr (.inl (some 270)))]) (h' := h3c) (by with_unfolding_all rfl) ?_
    refine kx_getf (c := 259) (v := .inr (.inr (.inl (some 260)))) rfl (by decide) (kx_ofr (hw3 _ _ _ kz_k.1)) ?_
    refine kx_go 3 (pc' := 75) (L' := [(1, .inl (Int32.ofNat i)), (0, .inr (.inr (.inl (some 259))))]) (S' := [.inl ((Int32.ofNat 52) + (Int32.ofNat i)), .inr (.inr (.inl (some 260))), .inl (Int32.ofNat i), .inr (.inr (.inl (some 270)))]) (h' := h3c) (by with_unfolding_all rfl) ?_
    rw [kx_add]
    refine kx_iald (c := 260) (j := 52 + i) (m := 650) (v := .inl (Int32.ofNat (fa_n B (52 + i)))) rfl rfl (by decide) (by decide) (by omega) ((hC3 (52 + i) (by omega) (fu_fst i (by omega)).2.1).trans (by rw [← (fa_nst hB (show i < 6 by omega)).1])) ?_
    refine kx_iast (c := 270) (j := i) (m := 6) rfl rfl (by decide) (by decide) (by omega) ?_
    have H4 := fa_li_r (p := i) (v := fa_n B (52 + i)) (show i < 6 by omega) hL h33 H3
    generalize (kc_upd h3c 270 i (.inl (Int32.ofNat (fa_n B (52 + i))))) = h4 at H4 ⊢
    have hw4 := H4.1
    have h34 : ∀ s, s < 6 → fa_s (fa_s (fa_s A (20 + i) 0) (30 + i) 0) (60 + i) (fa_n B (52 + i)) (20 + s) ≤ 3 := fun s hs => by rw [fa_sn (by omega)]; exact h33 s hs
    refine kx_go 1 (pc' := 78) (L' := [(1, .inl (Int32.ofNat i)), (0, .inr (.inr (.inl (some 259))))]) (S' := [.inr (.inr (.inl (some 259)))]) (h' := h4) (by with_unfolding_all rfl) ?_
    refine kx_getf (c := 259) (v := .inr (.inr (.inl (some 271)))) rfl (by decide) (kx_ofr (hw4 _ _ _ fa_kr.2.2.2.2.2)) ?_
    refine kx_go 2 (pc' := 83) (L' := [(1, .inl (Int32.ofNat i)), (0, .inr (.inr (.inl (some 259))))]) (S' := [.inl (Int32.ofNat 2), .inl (Int32.ofNat i), .inr (.inr (.inl (some 271)))]) (h' := h4) (by with_unfolding_all rfl) ?_
    refine ks_st 84 (L' := [(1, .inl (Int32.ofNat i)), (0, .inr (.inr (.inl (some 259))))]) (S' := [.inl (Int32.ofNat i / Int32.ofNat 2), .inr (.inr (.inl (some 271)))]) rfl rfl ?_
    rw [fh_dv (by omega) (by decide) (by decide)]
    refine kx_go 1 (pc' := 85) (L' := [(1, .inl (Int32.ofNat i)), (0, .inr (.inr (.inl (some 259))))]) (S' := [.inl (Int32.ofNat 0), .inl (Int32.ofNat (i / 2)), .inr (.inr (.inl (some 271)))]) (h' := h4) (by with_unfolding_all rfl) ?_
    refine kx_iast (c := 271) (j := i / 2) (m := 3) rfl rfl (by decide) (by decide) (by omega) ?_
    have H5 := fa_so_r (m := i / 2) (v := 0) (show i / 2 < 3 by omega) hL h34 H4
    generalize (kc_upd h4 271 (i / 2) (.inl (Int32.ofNat 0))) = h5 at H5 ⊢
    refine kx_go 2 (pc' := 42) (L' := [(1, .inl ((Int32.ofNat i) + Int32.ofInt 1)), (0, .inr (.inr (.inl (some 259))))]) (S' := []) (h' := h5) (by with_unfolding_all rfl) ?_
    rw [kx_inc]
    refine kf_lo (L := [(1, .inl (Int32.ofNat (i + 1))), (0, .inr (.inr (.inl (some 259))))]) (by intro q hq; simp only [List.mem_cons, List.not_mem_nil, or_false] at hq; rcases hq with rfl | rfl <;> rfl) ?_
    refine ih (i + 1) _ h5 (by omega) (by omega) H5 (fun s hs => by rw [fa_sn (by omega)]; exact h34 s hs) (fun l hl => by rw [fa_sn (by omega), fa_sn (by omega), fa_sn (by omega), fa_sn (by omega)]; exact hp l hl) (fun s hs => ?_) (fun s hs => ?_) (fun p hp2 => ?_) (fun m hm => ?_)
    · rw [fa_sn (by omega), fa_sn (by omega), fa_sn (by omega)]
      by_cases e : s = i
      · subst e; exact fa_se
      · rw [fa_sn (by omega)]; exact q1 s (by omega)
    · rw [fa_sn (by omega), fa_sn (by omega)]
      by_cases e : s = i
      · subst e; exact fa_se
      · rw [fa_sn (by omega), fa_sn (by omega)]; exact q2 s (by omega)
    · rw [fa_sn (by omega)]
      by_cases e : p = i
      · subst e; exact fa_se
      · rw [fa_sn (by omega), fa_sn (by omega), fa_sn (by omega)]; exact q3 p (by omega)
    · by_cases e : m = i / 2
      · rw [e]; exact fa_se
      · rw [fa_sn (by omega), fa_sn (by omega), fa_sn (by omega), fa_sn (by omega)]; exact q4 m (by omega)
set_option maxRecDepth 20000 in
theorem fa_r78 {g : kc_G} {d : Nat} {h : kc_H} {t : Nat → Nat} {n : Nat} {B : Nat → Int32} {D M L : Nat} (hg : kc_ok g) (hBB : fa_BB B D M L) (hw : kd_wt kd_ty h) (hC : fu_B B h) (hn : n ≤ 240) (hb : ∀ j, j < 240 → t j < 256) (hnt : h 260 (160 + 1) = .inl (Int32.ofNat n)) (ht : ∀ j, j < 240 → h 260 (170 + 240 * 1 + j) = .inl (Int32.ofNat (t j))) : kc_Con g (d + 14) 78 [.inr (.inr (.inl (some 259)))] h (fa_Pr L h (fa_Z t n B D M L)) := by
  obtain ⟨s0, -, es0⟩ := kx_ofg (by omega) (hw _ _ _ kv_k259.1)
  obtain ⟨q0, -, eq0⟩ := kx_ofg (by omega) (hw _ _ _ kv_k259.2.1)
  obtain ⟨v0, hv0, ev0⟩ := kx_ofg (by omega) (hw _ _ _ kv_k259.2.2)
  obtain ⟨hB, ⟨eD, hD⟩, ⟨eM, hM⟩, eL, hL⟩ := id hBB
  refine kc_Con_new hg (M := wk_m78) rfl rfl rfl (show 1 ≤ 2 by decide) ?_
  refine kx_go 2 (pc' := 2) (L' := [(0, .inr (.inr (.inl (some 259))))]) (S' := [.inl (Int32.ofNat 1), .inr (.inr (.inl (some 259)))]) (h' := h) (by with_unfolding_all rfl) ?_
  refine kc_call_rule (M2 := wk_m64) (av := [.inr (.inr (.inl (some 259))), .inl (Int32.ofNat 1)]) (r := []) rfl rfl (kc_Con_le (km_reads1 (d := 0) (n := n) (t := t) hg hn hb hnt ht (by omega) (kx_ofr (hw _ _ _ kz_k.1)) es0 eq0 ev0 (kx_ofr (hw _ _ _ kv_kr.1)) (kx_ofr (hw _ _ _ kv_kr.2))) (by omega)) (fun rv h1 hq => ?_)
  have hpost := km_post hw (by decide) hn (by decide) hq
  obtain ⟨pp, pp1, -, -, hw1, hfr1⟩ := hpost
  obtain rfl := List.mem_singleton.mp pp1
  simp only at hfr1
  unfold km_Qr at hq
  have near : ∀ c i, ¬ (264 ≤ c ∧ c ≤ 265) → ¬ (c = 259 ∧ 6 ≤ i ∧ i ≤ 13) → h1 c i = h c i := fun c i hc hc2 => hfr1 c i (fun q hq => by
    simp only [km_W, List.mem_cons, List.not_mem_nil, or_false] at hq
    rcases hq with rfl | rfl | rfl | rfl <;> exact kb_inr (by (try dsimp only); omega))
  have hC1 : fu_B B h1 := fun j hj htl => (near 260 j (by omega) (by omega)).trans (hC j hj htl)
  unfold fa_Z
  cases hk : kp_its t n 7 9 61 0 with
  | none =>
    rw [hk] at hq
    obtain ⟨hx, it2, a2, s2, k2, u2, rfl, -, -⟩ := hq
    show kc_Ev g (d + 13) wk_m78 _ 5 [(0, .inr (.inr (.inl (some 259))))] [.inl (Int32.ofNat 0)] h1
    refine kx_go 1 (pc' := 8) (L' := [(0, .inr (.inr (.inl (some 259))))]) (S' := []) (h' := h1) (by with_unfolding_all rfl) ?_
    refine kx_go 1 (pc' := 9) (L' := [(0, .inr (.inr (.inl (some 259))))]) (S' := [.inl (Int32.ofNat 0)]) (h' := h1) (by with_unfolding_all rfl) ?_
    exact kc_ret_ok rfl (rv := some (.inl (Int32.ofNat 0))) rfl ⟨hw1, fun c i q1 q2 => near c i (by omega) (by omega), rfl⟩
  | some l =>
    rw [hk] at hq
    obtain ⟨a2, s2, k2, u2, rfl, -, hh1⟩ := hq
    obtain ⟨hall, hlen⟩ := kp_its_ok hn (by decide) 61 0 0 l (by omega) (by omega) hk
    have e1 : ∀ c b, ¬ c = 259 → h1 c b = km_ns h 0 l c b := fun c b hc => by
      rw [hh1]
      unfold km_H
      rw [if_neg hc]
      exact kmj_o hc
    have hit : h1 259 13 = .inl (Int32.ofNat l.length) := by rw [hh1]; rfl
    have his : fa_ir h1 l 0 := fun j q hq => by
      obtain ⟨b1, b2, b3, b4⟩ := hall q (List.mem_of_getElem? hq)
      obtain ⟨a1, a3⟩ := km_ns_at l h 0 j q hq (fun q2 hq2 => by
        obtain ⟨c1, c2, c3, c4⟩ := hall q2 hq2
        rw [c4]
        exact (kr_shl _ (by omega)).2)
      refine ⟨(e1 264 _ (by decide)).trans (a1.trans ?_), fun k x hx => (e1 265 _ (by decide)).trans (a3 k x hx), ⟨b2, b3⟩, b4, b1.2.2⟩
      unfold kp_tv
      rw [if_neg (by omega)]
    clear hh1 e1
    obtain ⟨A, hA, h3⟩ := fa_R_any (L := L) hw1 hL
    have H0 : fa_Hr h1 A L h1 := ⟨hw1, hA, fun _ _ _ _ => rfl⟩
    show kc_Ev g (d + 13) wk_m78 _ 5 [(0, .inr (.inr (.inl (some 259))))] [.inl (Int32.ofNat 1)] h1
    refine kx_go 1 (pc' := 10) (L' := [(0, .inr (.inr (.inl (some 259))))]) (S' := []) (h' := h1) (by with_unfolding_all rfl) ?_
    refine kx_go 2 (pc' := 12) (L' := [(1, .inl (Int32.ofNat 0)), (0, .inr (.inr (.inl (some 259))))]) (S' := []) (h' := h1) (by with_unfolding_all rfl) ?_
    refine kf_lo (L := [(1, .inl (Int32.ofNat 0)), (0, .inr (.inr (.inl (some 259))))]) (by intro q hq; simp only [List.mem_cons, List.not_mem_nil, or_false] at hq; rcases hq with rfl | rfl <;> rfl) ?_
    refine fa_r78a hg hBB hC1 (fun A2 h2 H2 c3 c1 => ?_) L 0 A h1 rfl (Nat.zero_le _) H0 h3 (fun l2 hl2 => by omega)
    refine kx_go 2 (pc' := 42) (L' := [(1, .inl (Int32.ofNat 0)), (0, .inr (.inr (.inl (some 259))))]) (S' := []) (h' := h2) (by with_unfolding_all rfl) ?_
    refine kf_lo (L := [(1, .inl (Int32.ofNat 0)), (0, .inr (.inr (.inl (some 259))))]) (by intro q hq; simp only [List.mem_cons, List.not_mem_nil, or_false] at hq; rcases hq with rfl | rfl <;> rfl) ?_
    refine fa_r78b hg hBB hC1 (fun A3 h3 H3 r3 r1 r2 r4 r5 r6 => ?_) 6 0 A2 h2 rfl (Nat.zero_le _) H2 c3 c1 (fun s hs => by omega) (fun s hs => by omega) (fun p hp => by omega) (fun m hm => by omega)
    refine kx_go 2 (pc' := 94) (L' := [(1, .inl (Int32.ofNat 6)), (0, .inr (.inr (.inl (some 259))))]) (S' := [.inl (Int32.ofNat 0), .inr (.inr (.inl (some 259)))]) (h' := h3) (by with_unfolding_all rfl) ?_
    refine kx_go 1 (pc' := 97) (L' := [(1, .inl (Int32.ofNat 6)), (0, .inr (.inr (.inl (some 259))))]) (S' := []) (h' := (kc_upd h3 259 20 (.inl (Int32.ofNat 0)))) (by with_unfolding_all rfl) ?_
    have k0 : ∀ s, s < 6 → A3 (20 + s) ≤ 3 := fun s hs => by exact r3 s hs
    have G0 := fa_n4_r (v := 0) (by decide) hL k0 H3
    generalize (kc_upd h3 259 20 (.inl (Int32.ofNat 0))) = g0 at G0 ⊢
    refine kx_go 2 (pc' := 99) (L' := [(1, .inl (Int32.ofNat 6)), (0, .inr (.inr (.inl (some 259))))]) (S' := [.inl (Int32.ofNat 0), .inr (.inr (.inl (some 259)))]) (h' := g0) (by with_unfolding_all rfl) ?_
    refine kx_go 1 (pc' := 102) (L' := [(1, .inl (Int32.ofNat 6)), (0, .inr (.inr (.inl (some 259))))]) (S' := []) (h' := (kc_upd g0 259 21 (.inl (Int32.ofNat 0)))) (by with_unfolding_all rfl) ?_
    have k1 : ∀ s, s < 6 → fa_s A3 4 0 (20 + s) ≤ 3 := fun s hs => by rw [fa_sn (by omega)]; exact k0 s hs
    have G1 := fa_n5_r (v := 0) hL k1 G0
    generalize (kc_upd g0 259 21 (.inl (Int32.ofNat 0))) = g1 at G1 ⊢
    refine kx_go 2 (pc' := 104) (L' := [(1, .inl (Int32.ofNat 6)), (0, .inr (.inr (.inl (some 259))))]) (S' := [.inl (Int32.ofNat 0), .inr (.inr (.inl (some 259)))]) (h' := g1) (by with_unfolding_all rfl) ?_
    refine kx_go 1 (pc' := 107) (L' := [(1, .inl (Int32.ofNat 6)), (0, .inr (.inr (.inl (some 259))))]) (S' := []) (h' := (kc_upd g1 259 22 (.inl (Int32.ofNat 0)))) (by with_unfolding_all rfl) ?_
    have k2 : ∀ s, s < 6 → fa_s (fa_s A3 4 0) 5 0 (20 + s) ≤ 3 := fun s hs => by rw [fa_sn (by omega)]; exact k1 s hs
    have G2 := fa_n2_r (v := 0) hL k2 G1
    generalize (kc_upd g1 259 22 (.inl (Int32.ofNat 0))) = g2 at G2 ⊢
    refine kx_go 2 (pc' := 109) (L' := [(1, .inl (Int32.ofNat 6)), (0, .inr (.inr (.inl (some 259))))]) (S' := [.inl (Int32.ofNat 0), .inr (.inr (.inl (some 259)))]) (h' := g2) (by with_unfolding_all rfl) ?_
    refine kx_go 1 (pc' := 112) (L' := [(1, .inl (Int32.ofNat 6)), (0, .inr (.inr (.inl (some 259))))]) (S' := []) (h' := (kc_upd g2 259 23 (.inl (Int32.ofNat 0)))) (by with_unfolding_all rfl) ?_
    have k3 : ∀ s, s < 6 → fa_s (fa_s (fa_s A3 4 0) 5 0) 2 0 (20 + s) ≤ 3 := fun s hs => by rw [fa_sn (by omega)]; exact k2 s hs
    have G3 := fa_n3_r (v := 0) hL k3 G2
    generalize (kc_upd g2 259 23 (.inl (Int32.ofNat 0))) = g3 at G3 ⊢
    refine kx_go 2 (pc' := 114) (L' := [(1, .inl (Int32.ofNat 6)), (0, .inr (.inr (.inl (some 259))))]) (S' := [.inl (Int32.ofNat 0), .inr (.inr (.inl (some 259)))]) (h' := g3) (by with_unfolding_all rfl) ?_
    refine kx_go 1 (pc' := 117) (L' := [(1, .inl (Int32.ofNat 6)), (0, .inr (.inr (.inl (some 259))))]) (S' := []) (h' := (kc_upd g3 259 24 (.inl (Int32.ofNat 0)))) (by with_unfolding_all rfl) ?_
    have k4 : ∀ s, s < 6 → fa_s (fa_s (fa_s (fa_s A3 4 0) 5 0) 2 0) 3 0 (20 + s) ≤ 3 := fun s hs => by rw [fa_sn (by omega)]; exact k3 s hs
    have G4 := fa_n0_r (v := 0) (by decide) hL k4 G3
    generalize (kc_upd g3 259 24 (.inl (Int32.ofNat 0))) = g4 at G4 ⊢
    refine kx_go 2 (pc' := 119) (L' := [(1, .inl (Int32.ofNat 6)), (0, .inr (.inr (.inl (some 259))))]) (S' := [.inl (Int32.ofNat 0), .inr (.inr (.inl (some 259)))]) (h' := g4) (by with_unfolding_all rfl) ?_
    refine kx_go 1 (pc' := 122) (L' := [(1, .inl (Int32.ofNat 6)), (0, .inr (.inr (.inl (some 259))))]) (S' := []) (h' := (kc_upd g4 259 25 (.inl (Int32.ofNat 0)))) (by with_unfolding_all rfl) ?_
    have k5 : ∀ s, s < 6 → fa_s (fa_s (fa_s (fa_s (fa_s A3 4 0) 5 0) 2 0) 3 0) 0 0 (20 + s) ≤ 3 := fun s hs => by rw [fa_sn (by omega)]; exact k4 s hs
    have G5 := fa_n1_r (v := 0) hL k5 G4
    generalize (kc_upd g4 259 25 (.inl (Int32.ofNat 0))) = g5 at G5 ⊢
    have HZ : fa_Hr h1 (fa_zz B) L g5 := ⟨G5.1, fa_zzc hL (fun j hj => by
      rcases (show j = 0 ∨ j = 1 ∨ j = 2 ∨ j = 3 ∨ j = 4 ∨ j = 5 by omega) with rfl | rfl | rfl | rfl | rfl | rfl <;> rfl) (fun l hl => by rw [fa_sn (by omega), fa_sn (by omega), fa_sn (by omega), fa_sn (by omega), fa_sn (by omega), fa_sn (by omega)]; exact r1 l hl) (fun s hs => by rw [fa_sn (by omega), fa_sn (by omega), fa_sn (by omega), fa_sn (by omega), fa_sn (by omega), fa_sn (by omega)]; exact r2 s hs) (fun s hs => by rw [fa_sn (by omega), fa_sn (by omega), fa_sn (by omega), fa_sn (by omega), fa_sn (by omega), fa_sn (by omega)]; exact r4 s hs) (fun p hp => by rw [fa_sn (by omega), fa_sn (by omega), fa_sn (by omega), fa_sn (by omega), fa_sn (by omega), fa_sn (by omega)]; exact r5 p hp) (fun m hm => by rw [fa_sn (by omega), fa_sn (by omega), fa_sn (by omega), fa_sn (by omega), fa_sn (by omega), fa_sn (by omega)]; exact r6 m (by omega)) G5.2.1, G5.2.2⟩
    refine kf_lo (L := [(0, .inr (.inr (.inl (some 259))))]) (by intro q hq; simp only [List.mem_cons, List.not_mem_nil, or_false] at hq; rcases hq with rfl <;> rfl) ?_
    refine fa_r78l (n := l.length) (Z := fa_run B D M L l (fa_zz B)) hg hBB hC1 (by omega) hit (fun g1 G1 => ?_) l (fa_zz B) g5 (by rw [fa_zz0 (by omega) (by omega)]; exact Nat.zero_add _) (by rw [fa_zz0 (by omega) (by omega)]; exact his) (by rw [fa_zz0 (j := 0) (by omega) (by omega)]; exact fa_I_zz hB hL) (fa_M_zz hM) (fa_zz0 (by omega) (by omega)) rfl HZ
    exact ⟨G1.1, fun c i q1 q2 => (G1.2.2 c i (by omega) (by omega)).trans (near c i (by omega) (by omega)), rfl, G1.2.1⟩
end
section
-- 99.zpz2
/-! ===== the acts: where ===== -/
theorem fa_k05 : kd_rn (kd_ty 0) 5 = some (3, 190, 190) := by decide +kernel
theorem fa_BBx {B : Nat → Int32} (hB : fu_BT B) : ∃ D M L, fa_BB B D M L := by
  obtain ⟨D, hD, eD⟩ := fu_nat (by decide) fu_f0.1.1 (hB 0 (by decide) (by decide +kernel))
  obtain ⟨M, hM, eM⟩ := fu_nat (by decide) fu_f0.1.2.1 (hB 1 (by decide) (by decide +kernel))
  obtain ⟨L, hL, eL⟩ := fu_n2 hB
  exact ⟨D, M, L, hB, ⟨eD, hD⟩, ⟨eM, hM⟩, eL, hL⟩
theorem fa_keep {h h' : kc_H} (hI : fu_I h) (hw : kd_wt kd_ty h') (e : ∀ c x, ¬ (127 ≤ c ∧ c ≤ 203) → ¬ (264 ≤ c ∧ c ≤ 271) → ¬ c = 259 → h' c x = h c x) : fu_I h' := by
  obtain ⟨B, hC, hR⟩ := hI.2.1
  exact fu_now hI hw ⟨B, fun j hj ht => (e _ _ (by have := (fu_qp hj (fu_te ht)).2.1; omega) (by have := (fu_qp hj (fu_te ht)).2.1; omega) (by have := (fu_qp hj (fu_te ht)).2.1; omega)).trans (hC j hj ht), fun j hj ht => (e 260 _ (by decide) (by decide) (by decide)).trans (hR j hj ht)⟩ (fun c i c1 c2 => e c i (by omega) (by omega) (by omega)) (fun c i q => e c i (by omega) (by omega) (by omega)) (kI_eq (e 260 _ (by decide) (by decide) (by decide)) (fun i _ => e 260 _ (by decide) (by decide) (by decide)) hI.2.2.2.2.2.1)
/-- what both sides read of the second text -/
theorem fa_tx {h : kc_H} {B : Nat → Int32} (hB : fu_BT B) (hC : fu_C B 1 h) : ∃ (n : Nat) (t : Nat → Nat), n ≤ 240 ∧ (∀ j, j < 240 → t j < 256) ∧ (∀ j, j < 240 → h 30 j = .inl (Int32.ofNat (t j))) ∧ h 31 1 = .inl (Int32.ofNat n) ∧ B (160 + 1) = Int32.ofNat n ∧ ∀ j, j < 240 → B (170 + 240 * 1 + j) = Int32.ofNat (t j) := by
  obtain ⟨n, n1, en⟩ := fu_nat (by decide) (fu_fby 1 (by decide)).2.2 (hB (160 + 1) (by decide) (by decide))
  have ht0 : ∀ j, ∃ v : Nat, j < 240 → v < 256 ∧ B (170 + 240 * 1 + j) = Int32.ofNat v := fun j => by
    by_cases hj : j < 240
    · obtain ⟨v, v1, v2⟩ := fu_nat (by decide) (fu_ftx 1 (by decide) j hj).2.2 (hB (170 + 240 * 1 + j) (by omega) (fu_ftx 1 (by decide) j hj).2.1)
      exact ⟨v, fun _ => ⟨by omega, v2⟩⟩
    · exact ⟨0, fun q => absurd q hj⟩
  obtain ⟨t, ht⟩ := Classical.axiomOfChoice ht0
  have h29 : ∀ j, j < 240 → h (1 + (28 + 1)) j = .inl (Int32.ofNat (t j)) := fun j hj => by
    have e := fu_Cj (c := 28 + 1) (i := j) hC (by omega) (fu_ftx 1 (by decide) j hj).2.1 (fu_ftx 1 (by decide) j hj).1
    rw [(ht j hj).2] at e
    exact e
  have h31 : h 31 1 = .inl (Int32.ofNat n) := (fu_Cj (c := 30) (i := 1) (j := 160 + 1) hC (by decide) (by decide) (by decide)).trans (by rw [en])
  exact ⟨n, t, n1, fun j hj => (ht j hj).1, h29, h31, en, fun j hj => (ht j hj).2⟩
def fa_wh (t : Nat → Nat) (n : Nat) (B : Nat → Int32) (D M L : Nat) (a : Int32) : Int32 := if fu_in a 0 ((B 2).toInt - 1) = true then (match fa_Z t n B D M L with
  | none => Int32.ofInt (-3)
  | some Z => Int32.ofNat (Z (10 + a.toInt.toNat))) else Int32.ofInt (-2)
set_option maxRecDepth 20000 in
theorem fa_c83 {g : kc_G} {d : Nat} {h : kc_H} {t : Nat → Nat} {n : Nat} {B : Nat → Int32} {D M L : Nat} {a : Int32} (hg : kc_ok g) (hBB : fa_BB B D M L) (hw : kd_wt kd_ty h) (hC : fu_C B 1 h) (hn : n ≤ 240) (hb : ∀ j, j < 240 → t j < 256) (ht : ∀ j, j < 240 → h 30 j = .inl (Int32.ofNat (t j))) (hnt : h 31 1 = .inl (Int32.ofNat n)) : kc_Con g (d + 16) 83 [.inr (.inr (.inl (some 0))), .inl a] h (fun rv h' => rv = some (.inl (fa_wh t n B D M L a)) ∧ kd_wt kd_ty h' ∧ (∀ c x, ¬ (127 ≤ c ∧ c ≤ 203) → h' c x = h c x)) := by
  obtain ⟨hB, ⟨eD, hD⟩, ⟨eM, hM⟩, eL, hL⟩ := id hBB
  have z2 : (B 2).toInt - 1 = (L : Int) - 1 := by rw [eL, kx_ti (by omega)]
  unfold fa_wh
  refine kc_Con_new hg (M := wk_m83) rfl rfl rfl (show 2 ≤ 2 by decide) ?_
  refine kx_go 1 (pc' := 1) (L' := [(0, .inr (.inr (.inl (some 0)))), (1, .inl (a))]) (S' := [.inr (.inr (.inl (some 0)))]) (h' := h) (by with_unfolding_all rfl) ?_
  refine kx_getf (c := 0) (v := .inr (.inr (.inl (some 1)))) rfl (by decide) (kx_ofr (hw _ _ _ kv_k0.1)) ?_
  refine kx_go 1 (pc' := 5) (L' := [(0, .inr (.inr (.inl (some 0)))), (1, .inl (a))]) (S' := [.inl (a), .inr (.inr (.inl (some 1)))]) (h' := h) (by with_unfolding_all rfl) ?_
  refine kc_call_rule (M2 := wk_m46) (av := [.inr (.inr (.inl (some 1))), .inl (a)]) (r := []) rfl rfl (kc_Con_le (fu_c46 (d := 0) hg hC hB) (by omega)) (fun rv h2 hq => ?_)
  obtain ⟨rfl, e9⟩ := hq
  rw [e9]
  clear e9
  show kc_Ev g (d + 15) wk_m83 _ 8 [(0, .inr (.inr (.inl (some 0)))), (1, .inl (a))] [.inl (kp_b (fu_in a 0 ((B 2).toInt - 1)))] h
  refine kx_go 1 (pc' := (if kc_cnd .ne (kp_b (fu_in a 0 ((B 2).toInt - 1))).toInt 0 then 14 else 11)) (L' := [(0, .inr (.inr (.inl (some 0)))), (1, .inl (a))]) (S' := []) (h' := h) (by with_unfolding_all rfl) ?_
  cases e : fu_in a 0 ((B 2).toInt - 1) with
  | false =>
    rw [if_neg (show ¬ (kc_cnd .ne (kp_b false).toInt 0 = true) from fun q => by have := kx_b1.mp q; cases this)]
    refine kx_go 1 (pc' := 13) (L' := [(0, .inr (.inr (.inl (some 0)))), (1, .inl (a))]) (S' := [.inl (Int32.ofInt (-2))]) (h' := h) (by with_unfolding_all rfl) ?_
    exact kc_ret_ok rfl (rv := some (.inl (Int32.ofInt (-2)))) rfl ⟨rfl, hw, fun _ _ _ => rfl⟩
  | true =>
    rw [if_pos (kx_b1.mpr rfl)]
    obtain ⟨l, hl9, rfl, -, hl⟩ := fu_in_n (u := 9) e (Int.le_refl 0) (by omega)
    have ea : (Int32.ofNat l).toInt.toNat = l := by rw [kx_ti (by omega), Int.toNat_natCast]
    rw [ea]
    refine kx_go 1 (pc' := 15) (L' := [(0, .inr (.inr (.inl (some 0)))), (1, .inl (Int32.ofNat l))]) (S' := [.inr (.inr (.inl (some 0)))]) (h' := h) (by with_unfolding_all rfl) ?_
    refine kx_getf (c := 0) (v := .inr (.inr (.inl (some 190)))) rfl (by decide) (kx_ofr (hw _ _ _ fa_k05)) ?_
    refine kc_call_rule (M2 := wk_m73) (av := [.inr (.inr (.inl (some 190)))]) (r := []) rfl rfl (kc_Con_le (fa_c73 (d := 0) (n := n) (t := t) hg hBB hw hC hn hb ht hnt) (by omega)) (fun rv h2 hq => ?_)
    obtain ⟨w2, f2, hq⟩ := hq
    cases hz : fa_Z t n B D M L with
    | none =>
      rw [hz] at hq
      have hq2 : rv = some (.inl (Int32.ofNat 0)) := hq
      subst hq2
      show kc_Ev g (d + 15) wk_m83 _ 21 [(0, .inr (.inr (.inl (some 0)))), (1, .inl (Int32.ofNat l))] [.inl (Int32.ofNat 0)] h2
      refine kx_go 1 (pc' := 24) (L' := [(0, .inr (.inr (.inl (some 0)))), (1, .inl (Int32.ofNat l))]) (S' := []) (h' := h2) (by with_unfolding_all rfl) ?_
      refine kx_go 1 (pc' := 26) (L' := [(0, .inr (.inr (.inl (some 0)))), (1, .inl (Int32.ofNat l))]) (S' := [.inl (Int32.ofInt (-3))]) (h' := h2) (by with_unfolding_all rfl) ?_
      exact kc_ret_ok rfl (rv := some (.inl (Int32.ofInt (-3)))) rfl ⟨rfl, w2, f2⟩
    | some Z =>
      rw [hz] at hq
      have hq2 : rv = some (.inl (Int32.ofNat 1)) ∧ fa_C Z L h2 ∧ fa_W B Z L h2 := hq
      obtain ⟨rfl, cZ, -⟩ := hq2
      show kc_Ev g (d + 15) wk_m83 _ 21 [(0, .inr (.inr (.inl (some 0)))), (1, .inl (Int32.ofNat l))] [.inl (Int32.ofNat 1)] h2
      refine kx_go 1 (pc' := 27) (L' := [(0, .inr (.inr (.inl (some 0)))), (1, .inl (Int32.ofNat l))]) (S' := []) (h' := h2) (by with_unfolding_all rfl) ?_
      refine kx_go 1 (pc' := 28) (L' := [(0, .inr (.inr (.inl (some 0)))), (1, .inl (Int32.ofNat l))]) (S' := [.inr (.inr (.inl (some 0)))]) (h' := h2) (by with_unfolding_all rfl) ?_
      refine kx_getf (c := 0) (v := .inr (.inr (.inl (some 190)))) rfl (by decide) (kx_ofr (w2 _ _ _ fa_k05)) ?_
      refine kx_getf (c := 190) (v := .inr (.inr (.inl (some 191)))) rfl (by decide) (kx_ofr (w2 _ _ _ fa_k.2.2.1)) ?_
      refine kx_go 1 (pc' := 35) (L' := [(0, .inr (.inr (.inl (some 0)))), (1, .inl (Int32.ofNat l))]) (S' := [.inl (Int32.ofNat l), .inr (.inr (.inl (some 191)))]) (h' := h2) (by with_unfolding_all rfl) ?_
      refine kx_iald (c := 191) (j := l) (m := 10) (v := .inl (Int32.ofNat (Z (10 + l)))) rfl rfl (by decide) (by decide) (by omega) (cZ.2.1 l (by omega)) ?_
      exact kc_ret_ok rfl (rv := some (.inl (Int32.ofNat (Z (10 + l))))) rfl ⟨rfl, w2, f2⟩
set_option maxRecDepth 20000 in
theorem fa_r84 {g : kc_G} {d : Nat} {h : kc_H} {t : Nat → Nat} {n : Nat} {B : Nat → Int32} {D M L : Nat} {a : Int32} (hg : kc_ok g) (hBB : fa_BB B D M L) (hw : kd_wt kd_ty h) (hC : fu_B B h) (hn : n ≤ 240) (hb : ∀ j, j < 240 → t j < 256) (hnt : h 260 (160 + 1) = .inl (Int32.ofNat n)) (ht : ∀ j, j < 240 → h 260 (170 + 240 * 1 + j) = .inl (Int32.ofNat (t j))) : kc_Con g (d + 16) 84 [.inr (.inr (.inl (some 259))), .inl a] h (fun rv h' => rv = some (.inl (fa_wh t n B D M L a)) ∧ kd_wt kd_ty h' ∧ (∀ c x, ¬ (264 ≤ c ∧ c ≤ 271) → ¬ (c = 259 ∧ 6 ≤ x ∧ x ≤ 25) → h' c x = h c x)) := by
  obtain ⟨hB, ⟨eD, hD⟩, ⟨eM, hM⟩, eL, hL⟩ := id hBB
  have z2 : (B 2).toInt - 1 = (L : Int) - 1 := by rw [eL, kx_ti (by omega)]
  unfold fa_wh
  refine kc_Con_new hg (M := wk_m84) rfl rfl rfl (show 2 ≤ 2 by decide) ?_
  refine kx_go 2 (pc' := 2) (L' := [(0, .inr (.inr (.inl (some 259)))), (1, .inl (a))]) (S' := [.inl (a), .inr (.inr (.inl (some 259)))]) (h' := h) (by with_unfolding_all rfl) ?_
  refine kc_call_rule (M2 := wk_m48) (av := [.inr (.inr (.inl (some 259))), .inl (a)]) (r := []) rfl rfl (kc_Con_le (fu_r48 (d := 0) hg hw hC hB) (by omega)) (fun rv h2 hq => ?_)
  obtain ⟨rfl, e9⟩ := hq
  rw [e9]
  clear e9
  show kc_Ev g (d + 15) wk_m84 _ 5 [(0, .inr (.inr (.inl (some 259)))), (1, .inl (a))] [.inl (kp_b (fu_in a 0 ((B 2).toInt - 1)))] h
  refine kx_go 1 (pc' := (if kc_cnd .ne (kp_b (fu_in a 0 ((B 2).toInt - 1))).toInt 0 then 13 else 8)) (L' := [(0, .inr (.inr (.inl (some 259)))), (1, .inl (a))]) (S' := []) (h' := h) (by with_unfolding_all rfl) ?_
  cases e : fu_in a 0 ((B 2).toInt - 1) with
  | false =>
    rw [if_neg (show ¬ (kc_cnd .ne (kp_b false).toInt 0 = true) from fun q => by have := kx_b1.mp q; cases this)]
    refine kx_go 2 (pc' := 31) (L' := [(0, .inr (.inr (.inl (some 259)))), (1, .inl (a))]) (S' := [.inl (Int32.ofInt (-2))]) (h' := h) (by with_unfolding_all rfl) ?_
    exact kc_ret_ok rfl (rv := some (.inl (Int32.ofInt (-2)))) rfl ⟨rfl, hw, fun _ _ _ _ => rfl⟩
  | true =>
    rw [if_pos (kx_b1.mpr rfl)]
    obtain ⟨l, hl9, rfl, -, hl⟩ := fu_in_n (u := 9) e (Int.le_refl 0) (by omega)
    have ea : (Int32.ofNat l).toInt.toNat = l := by rw [kx_ti (by omega), Int.toNat_natCast]
    rw [ea]
    refine kx_go 1 (pc' := 14) (L' := [(0, .inr (.inr (.inl (some 259)))), (1, .inl (Int32.ofNat l))]) (S' := [.inr (.inr (.inl (some 259)))]) (h' := h) (by with_unfolding_all rfl) ?_
    refine kc_call_rule (M2 := wk_m78) (av := [.inr (.inr (.inl (some 259)))]) (r := []) rfl rfl (kc_Con_le (fa_r78 (d := 0) (n := n) (t := t) hg hBB hw hC hn hb hnt ht) (by omega)) (fun rv h2 hq => ?_)
    obtain ⟨w2, f2, hq⟩ := hq
    cases hz : fa_Z t n B D M L with
    | none =>
      rw [hz] at hq
      have hq2 : rv = some (.inl (Int32.ofNat 0)) := hq
      subst hq2
      show kc_Ev g (d + 15) wk_m84 _ 17 [(0, .inr (.inr (.inl (some 259)))), (1, .inl (Int32.ofNat l))] [.inl (Int32.ofNat 0)] h2
      refine kx_go 1 (pc' := 29) (L' := [(0, .inr (.inr (.inl (some 259)))), (1, .inl (Int32.ofNat l))]) (S' := []) (h' := h2) (by with_unfolding_all rfl) ?_
      refine kx_go 1 (pc' := 31) (L' := [(0, .inr (.inr (.inl (some 259)))), (1, .inl (Int32.ofNat l))]) (S' := [.inl (Int32.ofInt (-3))]) (h' := h2) (by with_unfolding_all rfl) ?_
      exact kc_ret_ok rfl (rv := some (.inl (Int32.ofInt (-3)))) rfl ⟨rfl, w2, f2⟩
    | some Z =>
      rw [hz] at hq
      have hq2 : rv = some (.inl (Int32.ofNat 1)) ∧ fa_R Z L h2 := hq
      obtain ⟨rfl, rZ⟩ := hq2
      show kc_Ev g (d + 15) wk_m84 _ 17 [(0, .inr (.inr (.inl (some 259)))), (1, .inl (Int32.ofNat l))] [.inl (Int32.ofNat 1)] h2
      refine kx_go 1 (pc' := 20) (L' := [(0, .inr (.inr (.inl (some 259)))), (1, .inl (Int32.ofNat l))]) (S' := []) (h' := h2) (by with_unfolding_all rfl) ?_
      refine kx_go 1 (pc' := 21) (L' := [(0, .inr (.inr (.inl (some 259)))), (1, .inl (Int32.ofNat l))]) (S' := [.inr (.inr (.inl (some 259)))]) (h' := h2) (by with_unfolding_all rfl) ?_
      refine kx_getf (c := 259) (v := .inr (.inr (.inl (some 266)))) rfl (by decide) (kx_ofr (w2 _ _ _ fa_kr.1)) ?_
      refine kx_go 1 (pc' := 25) (L' := [(0, .inr (.inr (.inl (some 259)))), (1, .inl (Int32.ofNat l))]) (S' := [.inl (Int32.ofNat l), .inr (.inr (.inl (some 266)))]) (h' := h2) (by with_unfolding_all rfl) ?_
      refine kx_iald (c := 266) (j := l) (m := 10) (v := .inl (Int32.ofNat (Z (10 + l)))) rfl rfl (by decide) (by decide) (by omega) (rZ.2.1 l (by omega)) ?_
      refine kx_go 1 (pc' := 31) (L' := [(0, .inr (.inr (.inl (some 259)))), (1, .inl (Int32.ofNat l))]) (S' := [.inl (Int32.ofNat (Z (10 + l)))]) (h' := h2) (by with_unfolding_all rfl) ?_
      exact kc_ret_ok rfl (rv := some (.inl (Int32.ofNat (Z (10 + l))))) rfl ⟨rfl, w2, f2⟩
theorem fU_Xwhere {g : kc_G} {h : kc_H} {a : Int32} (hg : kc_ok g) (hI : fu_I h) : kc_Con g 30 83 [.inr (.inr (.inl (some 0))), .inl a] h (fun rv h1 => ∃ z : Int32, rv = some (.inl z) ∧ kc_Con g 30 84 [.inr (.inr (.inl (some 259))), .inl a] h1 (fun rv2 h2 => rv2 = some (.inl z) ∧ fu_I h2)) := by
  obtain ⟨B, hC, hR⟩ := hI.2.1
  have hB := fu_C_T hI.1 hC
  obtain ⟨D, M, L, hBB⟩ := fa_BBx hB
  obtain ⟨n, t, n1, tb, h30, h31, en, et⟩ := fa_tx hB hC
  refine kc_Con_mono (kc_Con_le (fa_c83 (d := 0) (n := n) (t := t) hg hBB hI.1 hC n1 tb h30 h31) (by decide)) (fun rv h1 hq => ?_)
  obtain ⟨rfl, w1, f1⟩ := hq
  have R1 : fu_B B h1 := fun j hj ht => (f1 260 j (by omega)).trans (hR j hj ht)
  refine ⟨_, rfl, kc_Con_mono (kc_Con_le (fa_r84 (d := 0) (n := n) (t := t) hg hBB w1 R1 n1 tb ((R1 (160 + 1) (by decide) (by decide)).trans (by rw [en])) (fun j hj => (R1 (170 + 240 * 1 + j) (by omega) (fu_ftx 1 (by decide) j hj).2.1).trans (by rw [et j hj]))) (by decide)) (fun rv2 h2 hq => ?_)⟩
  obtain ⟨rfl, w2, f2⟩ := hq
  exact ⟨rfl, fa_keep hI w2 (fun c x q1 q2 q3 => (f2 c x q2 (fun q => q3 q.1)).trans (f1 c x q1))⟩
end
