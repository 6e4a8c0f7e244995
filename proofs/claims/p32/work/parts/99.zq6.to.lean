section
-- 99.zq6
/-! ===== the search, class: the LEGS ===== -/
def fs_st (D : Nat → Nat) (p : Nat) : Nat → Option Nat
  | 0 => if p = 0 then some 0 else none
  | i + 1 => if D i = p then some (i + 1) else fs_st D p i
def fs_oi : Option Nat → Int32
  | some k => Int32.ofNat k
  | none => Int32.ofInt (-1)
def fs_on (n : Nat) : Option Nat → Nat
  | some k => k
  | none => n
def fs_gt (v : Nat) : Option Nat → Bool
  | some k => decide (v < k)
  | none => false
theorem fs_gt_n {v : Nat} : fs_gt v none = false := rfl
theorem fs_gt_s {v k : Nat} : fs_gt v (some k) = decide (v < k) := rfl
def fs_F (B : Nat → Int32) (D : Nat → Nat) (n l : Nat) : Nat := fs_on n (fs_st D (fa_n B (80 + 7 * l + 2)) n)
def fs_co (B : Nat → Int32) (D : Nat → Nat) (n l : Nat) : Bool := decide (fs_F B D n l < n) && fs_gt (fs_F B D n l) (fs_st D (fa_n B (80 + 7 * l + 3)) n)
def fs_E (B : Nat → Int32) (D : Nat → Nat) (n l : Nat) : Nat := if fs_co B D n l = true then fs_on n (fs_st D (fa_n B (80 + 7 * l + 3)) n) else n
def fs_la (D : Nat → Nat) : Nat → Nat
  | 0 => 0
  | i + 1 => D i
def fs_mi (B : Nat → Int32) (D : Nat → Nat) (i : Nat) : Nat := fa_n B (10 + 6 * fs_la D i + D i)
def fs_far (B : Nat → Int32) (D : Nat → Nat) : Nat → Nat
  | 0 => 0
  | i + 1 => fs_far B D i + fs_mi B D i
theorem fs_st_le {D : Nat → Nat} {p k : Nat} : ∀ n, fs_st D p n = some k → k ≤ n
  | 0, h => by
    unfold fs_st at h
    by_cases e : p = 0
    · rw [if_pos e] at h; cases h; exact Nat.le_refl _
    · rw [if_neg e] at h; cases h
  | n + 1, h => by
    unfold fs_st at h
    by_cases e : D n = p
    · rw [if_pos e] at h; cases h; exact Nat.le_refl _
    · rw [if_neg e] at h
      have := fs_st_le n h
      omega
theorem fs_on_le {D : Nat → Nat} {p n : Nat} : fs_on n (fs_st D p n) ≤ n := by
  cases e : fs_st D p n with
  | none => exact Nat.le_refl _
  | some k => exact fs_st_le n e
theorem fs_gb {B : Nat → Int32} {D : Nat → Nat} {n L : Nat} (hB : fu_BT B) (hn : n ≤ 5) (hL : L ≤ 10) : fs_Gb (fs_F B D n) (fs_E B D n) (fs_co B D n) (fun l i => fa_w B l i) L n := by
  refine ⟨hn, hL, fun l hl => ?_, fun l hl i hi => fa_wl hB (by omega)⟩
  have h1 : fs_F B D n l ≤ n := fs_on_le
  have h2 : fs_E B D n l ≤ n := by
    unfold fs_E
    by_cases e : fs_co B D n l = true
    · rw [if_pos e]; exact fs_on_le
    · rw [if_neg e]; exact Nat.le_refl _
  refine ⟨h1, h2, ?_, fun e => by unfold fs_E; rw [if_neg (by rw [e]; decide)]⟩
  unfold fs_E
  by_cases e : fs_co B D n l = true
  · rw [if_pos e]
    unfold fs_co at e
    rw [Bool.and_eq_true] at e
    have e2 := e.2
    cases q : fs_st D (fa_n B (80 + 7 * l + 3)) n with
    | none => rw [q] at e2; cases e2
    | some k =>
      rw [q] at e2
      have := of_decide_eq_true e2
      show fs_F B D n l ≤ k
      omega
  · rw [if_neg e]; exact h1
theorem fs_w1 {h : kc_H} {c x u : Nat} {v : Option Nat} (ht : kd_rn (kd_ty c) x = some (0, 2147483647, 2147483648 + u)) (hv : ∀ k, v = some k → k ≤ u) (hu : u < 2147483648) (hw : kd_wt kd_ty h) : kd_wt kd_ty (kc_upd h c x (.inl (fs_oi v))) := by
  refine fu_wtu ht ?_ hw
  cases v with
  | none =>
    have e : kd_nb (fs_oi none) = 2147483647 := by decide
    rw [e]
    exact ⟨Nat.le_refl _, by omega⟩
  | some k =>
    have e : kd_nb (fs_oi (some k)) = k + 2147483648 := fa_nbn (by have := hv k rfl; omega)
    rw [e]
    have := hv k rfl
    omega
theorem fs_k206 : (∀ l, l < 10 → kd_rn (kd_ty 206) l = some (0, 2147483647, 2147483648 + 4)) ∧ (∀ l, l < 10 → kd_rn (kd_ty 207) l = some (0, 2147483647, 2147483648 + 5)) ∧ (∀ l, l < 6 → kd_rn (kd_ty 219) l = some (0, 2147483647, 2147483648 + 5)) ∧ (∀ l, l < 5 → kd_rn (kd_ty 205) l = some (0, 0, 4294967295)) ∧ (∀ l, l < 10 → ∀ i, i < 5 → kd_rn (kd_ty (209 + l)) i = some (0, 0, 4294967295)) ∧ kd_rn (kd_ty 204) 1 = some (0, 2147483648, 2147483648 + 5) ∧ kd_rn (kd_ty 204) 2 = some (0, 0, 4294967295) := ⟨by decide +kernel, by decide +kernel, by decide +kernel, by decide +kernel, by decide +kernel, by decide +kernel, by decide +kernel⟩
theorem fs_lo {B : Nat → Int32} {h : kc_H} {l : Nat} (hC : fu_C B 1 h) (hB : fu_BT B) (hl : l < 10) : (h (1 + (15 + l)) 2 = .inl (Int32.ofNat (fa_n B (80 + 7 * l + 2))) ∧ fa_n B (80 + 7 * l + 2) ≤ 5) ∧ h (1 + (15 + l)) 3 = .inl (Int32.ofNat (fa_n B (80 + 7 * l + 3))) ∧ fa_n B (80 + 7 * l + 3) ≤ 5 := by
  have t := fa_tl l hl
  have q2 := fa_nl (e := 2) hB hl (by decide) (by decide) t.2.2.1
  have q3 := fa_nl (e := 3) hB hl (by decide) (by decide) t.2.2.2.1
  exact ⟨⟨(fu_Cj (c := 15 + l) (i := 2) hC (by omega) (((fu_flo l hl).1 2 (by decide)).2.2 (by decide)) ((fu_flo l hl).1 2 (by decide)).1).trans (by rw [← q2.1]), q2.2⟩, (fu_Cj (c := 15 + l) (i := 3) hC (by omega) (((fu_flo l hl).1 3 (by decide)).2.2 (by decide)) ((fu_flo l hl).1 3 (by decide)).1).trans (by rw [← q3.1]), q3.2⟩
theorem fs_ml {B : Nat → Int32} {h : kc_H} {x y : Nat} (hC : fu_C B 1 h) (hB : fu_BT B) (hx : x < 6) (hy : y < 6) : h (1 + (2 + x)) y = .inl (Int32.ofNat (fa_n B (10 + 6 * x + y))) := (fu_Cj (c := 2 + x) (i := y) hC (by omega) (fu_fmi x hx y hy).2.1 (fu_fmi x hx y hy).1).trans (by rw [← (fa_ng hB hx hy).1])
theorem fs_min {n : Nat} (hn : n ≤ 5) : (if Int32.ofNat 5 < Int32.ofNat n then Int32.ofNat 5 else Int32.ofNat n) = Int32.ofNat n := if_neg (fun q => by
  have := Int32.lt_iff_toInt_lt.mp q
  rw [kx_ti (by decide), kx_ti (by omega)] at this
  omega)
theorem fs_iltm {n : Nat} (hn : n < 2147483648) : kc_cnd .lt (Int32.ofInt (-1)).toInt (Int32.ofNat n).toInt = true := fu_ilt.mpr (by rw [kx_ti hn, show (Int32.ofInt (-1)).toInt = -1 by decide]; omega)
theorem fs_ilem {n : Nat} (hn : n < 2147483648) : kc_cnd .le (Int32.ofInt (-1)).toInt (Int32.ofNat n).toInt = true := fu_ile.mpr (by rw [kx_ti hn, show (Int32.ofInt (-1)).toInt = -1 by decide]; omega)
def fs_w6 (B : Nat → Int32) (D : Nat → Nat) (n l : Nat) : Option Nat := if fs_F B D n l < n then some (fs_F B D n l) else none
def fs_w7 (B : Nat → Int32) (D : Nat → Nat) (n l : Nat) : Option Nat := if fs_co B D n l = true then some (fs_E B D n l) else none
set_option maxRecDepth 20000 in
theorem fs_c202 {g : kc_G} {d : Nat} {h : kc_H} {B : Nat → Int32} {D : Nat → Nat} {n l : Nat} (hg : kc_ok g) (hw : kd_wt kd_ty h) (hC : fu_C B 1 h) (hB : fu_BT B) (hn : n ≤ 5) (hl : l < 10) (hn1 : h 204 1 = .inl (Int32.ofNat n)) (hst : ∀ p, p < 6 → h 219 p = .inl (fs_oi (fs_st D p n))) : kc_Con g (d + 1) 202 [.inr (.inr (.inl (some 204))), .inl (Int32.ofNat l)] h (fun rv h' => rv = none ∧ h' = kc_upd (kc_upd h 206 l (.inl (fs_oi (fs_w6 B D n l)))) 207 l (.inl (fs_oi (fs_w7 B D n l)))) := by
  obtain ⟨⟨f1, f2⟩, t1, t2⟩ := fs_lo hC hB hl
  refine kc_Con_new hg (M := wk_m202) rfl rfl rfl (show 2 ≤ 4 by decide) ?_
  refine kx_go 1 (pc' := 1) (L' := [(0, .inr (.inr (.inl (some 204)))), (1, .inl (Int32.ofNat l))]) (S' := [.inr (.inr (.inl (some 204)))]) (h' := h) (by with_unfolding_all rfl) ?_
  refine kx_getf (c := 204) (v := .inr (.inr (.inl (some 219)))) rfl (by decide) (kx_ofr (hw _ _ _ fs_k204_7)) ?_
  refine kx_go 1 (pc' := 5) (L' := [(0, .inr (.inr (.inl (some 204)))), (1, .inl (Int32.ofNat l))]) (S' := [.inr (.inr (.inl (some 204))), .inr (.inr (.inl (some 219)))]) (h' := h) (by with_unfolding_all rfl) ?_
  refine kx_getf (c := 204) (v := .inr (.inr (.inl (some 1)))) rfl (by decide) (kx_ofr (hw _ _ _ fs_k204_0)) ?_
  refine kx_getf (c := 1) (v := .inr (.inr (.inl (some 15)))) rfl (by decide) (kx_ofr (hw _ _ _ fs_k1_8)) ?_
  refine kx_go 1 (pc' := 12) (L' := [(0, .inr (.inr (.inl (some 204)))), (1, .inl (Int32.ofNat l))]) (S' := [.inl (Int32.ofNat l), .inr (.inr (.inl (some 15))), .inr (.inr (.inl (some 219)))]) (h' := h) (by with_unfolding_all rfl) ?_
  refine kx_aald rfl (c := 15) (j := l) (m := 10) (t0 := 2) (v := .inr (.inr (.inl (some (1 + (15 + l)))))) rfl (by decide) (by decide) (by decide) (by omega) (kx_ofr (hw _ _ _ (fu_slo l (by omega)).2)) ?_
  refine kx_go 1 (pc' := 14) (L' := [(0, .inr (.inr (.inl (some 204)))), (1, .inl (Int32.ofNat l))]) (S' := [.inl (Int32.ofNat 2), .inr (.inr (.inl (some (1 + (15 + l))))), .inr (.inr (.inl (some 219)))]) (h' := h) (by with_unfolding_all rfl) ?_
  refine kx_iald (c := 1 + (15 + l)) (j := 2) (m := 7) (v := .inl (Int32.ofNat (fa_n B (80 + 7 * l + 2)))) rfl (fu_slo l (by omega)).1.1 (fu_slo l (by omega)).1.2 (by decide) (by omega) f1 ?_
  refine kx_iald (c := 219) (j := fa_n B (80 + 7 * l + 2)) (m := 6) (v := .inl (fs_oi (fs_st D (fa_n B (80 + 7 * l + 2)) n))) rfl rfl (by decide) (by decide) (by omega) (hst _ (by omega)) ?_
  refine kx_go 2 (pc' := 18) (L' := [(2, .inl (fs_oi (fs_st D (fa_n B (80 + 7 * l + 2)) n))), (0, .inr (.inr (.inl (some 204)))), (1, .inl (Int32.ofNat l))]) (S' := [.inr (.inr (.inl (some 204)))]) (h' := h) (by with_unfolding_all rfl) ?_
  refine kx_getf (c := 204) (v := .inr (.inr (.inl (some 219)))) rfl (by decide) (kx_ofr (hw _ _ _ fs_k204_7)) ?_
  refine kx_go 1 (pc' := 22) (L' := [(2, .inl (fs_oi (fs_st D (fa_n B (80 + 7 * l + 2)) n))), (0, .inr (.inr (.inl (some 204)))), (1, .inl (Int32.ofNat l))]) (S' := [.inr (.inr (.inl (some 204))), .inr (.inr (.inl (some 219)))]) (h' := h) (by with_unfolding_all rfl) ?_
  refine kx_getf (c := 204) (v := .inr (.inr (.inl (some 1)))) rfl (by decide) (kx_ofr (hw _ _ _ fs_k204_0)) ?_
  refine kx_getf (c := 1) (v := .inr (.inr (.inl (some 15)))) rfl (by decide) (kx_ofr (hw _ _ _ fs_k1_8)) ?_
  refine kx_go 1 (pc' := 29) (L' := [(2, .inl (fs_oi (fs_st D (fa_n B (80 + 7 * l + 2)) n))), (0, .inr (.inr (.inl (some 204)))), (1, .inl (Int32.ofNat l))]) (S' := [.inl (Int32.ofNat l), .inr (.inr (.inl (some 15))), .inr (.inr (.inl (some 219)))]) (h' := h) (by with_unfolding_all rfl) ?_
  refine kx_aald rfl (c := 15) (j := l) (m := 10) (t0 := 2) (v := .inr (.inr (.inl (some (1 + (15 + l)))))) rfl (by decide) (by decide) (by decide) (by omega) (kx_ofr (hw _ _ _ (fu_slo l (by omega)).2)) ?_
  refine kx_go 1 (pc' := 31) (L' := [(2, .inl (fs_oi (fs_st D (fa_n B (80 + 7 * l + 2)) n))), (0, .inr (.inr (.inl (some 204)))), (1, .inl (Int32.ofNat l))]) (S' := [.inl (Int32.ofNat 3), .inr (.inr (.inl (some (1 + (15 + l))))), .inr (.inr (.inl (some 219)))]) (h' := h) (by with_unfolding_all rfl) ?_
  refine kx_iald (c := 1 + (15 + l)) (j := 3) (m := 7) (v := .inl (Int32.ofNat (fa_n B (80 + 7 * l + 3)))) rfl (fu_slo l (by omega)).1.1 (fu_slo l (by omega)).1.2 (by decide) (by omega) t1 ?_
  refine kx_iald (c := 219) (j := fa_n B (80 + 7 * l + 3)) (m := 6) (v := .inl (fs_oi (fs_st D (fa_n B (80 + 7 * l + 3)) n))) rfl rfl (by decide) (by decide) (by omega) (hst _ (by omega)) ?_
  refine kx_go 3 (pc' := 36) (L' := [(3, .inl (fs_oi (fs_st D (fa_n B (80 + 7 * l + 3)) n))), (2, .inl (fs_oi (fs_st D (fa_n B (80 + 7 * l + 2)) n))), (0, .inr (.inr (.inl (some 204)))), (1, .inl (Int32.ofNat l))]) (S' := [.inr (.inr (.inl (some 204))), .inl (fs_oi (fs_st D (fa_n B (80 + 7 * l + 2)) n))]) (h' := h) (by with_unfolding_all rfl) ?_
  refine kx_getf (c := 204) (v := .inl (Int32.ofNat n)) rfl (by decide) hn1 ?_
  refine kx_go 1 (pc' := (if kc_cnd .lt (fs_oi (fs_st D (fa_n B (80 + 7 * l + 2)) n)).toInt (Int32.ofNat n).toInt then 44 else 42)) (L' := [(3, .inl (fs_oi (fs_st D (fa_n B (80 + 7 * l + 3)) n))), (2, .inl (fs_oi (fs_st D (fa_n B (80 + 7 * l + 2)) n))), (0, .inr (.inr (.inl (some 204)))), (1, .inl (Int32.ofNat l))]) (S' := []) (h' := h) (by with_unfolding_all rfl) ?_
  cases eo : fs_st D (fa_n B (80 + 7 * l + 2)) n with
  | none =>
    have eF : ¬ fs_F B D n l < n := by unfold fs_F; rw [eo]; exact Nat.lt_irrefl n
    have eC : ¬ fs_co B D n l = true := by unfold fs_co; rw [decide_eq_false eF, Bool.false_and]; exact Bool.false_ne_true
    rw [if_pos (show kc_cnd .lt (fs_oi none).toInt (Int32.ofNat n).toInt = true from fs_iltm (by omega))]
    show kc_Ev g d wk_m202 _ 44 [(3, .inl (fs_oi (fs_st D (fa_n B (80 + 7 * l + 3)) n))), (2, .inl (Int32.ofInt (-1))), (0, .inr (.inr (.inl (some 204)))), (1, .inl (Int32.ofNat l))] [] h
    refine kx_go 1 (pc' := 45) (L' := [(3, .inl (fs_oi (fs_st D (fa_n B (80 + 7 * l + 3)) n))), (2, .inl (Int32.ofInt (-1))), (0, .inr (.inr (.inl (some 204)))), (1, .inl (Int32.ofNat l))]) (S' := [.inr (.inr (.inl (some 204)))]) (h' := h) (by with_unfolding_all rfl) ?_
    refine kx_getf (c := 204) (v := .inr (.inr (.inl (some 206)))) rfl (by decide) (kx_ofr (hw _ _ _ fs_k204_4)) ?_
    refine kx_go 2 (pc' := 50) (L' := [(3, .inl (fs_oi (fs_st D (fa_n B (80 + 7 * l + 3)) n))), (2, .inl (Int32.ofInt (-1))), (0, .inr (.inr (.inl (some 204)))), (1, .inl (Int32.ofNat l))]) (S' := [.inl (Int32.ofInt (-1)), .inl (Int32.ofNat l), .inr (.inr (.inl (some 206)))]) (h' := h) (by with_unfolding_all rfl) ?_
    refine kx_iast (c := 206) (j := l) (m := 10) rfl rfl (by decide) (by decide) (by omega) ?_
    have hw1 : kd_wt kd_ty (kc_upd h 206 l (.inl (Int32.ofInt (-1)))) := fs_w1 (v := none) (fs_k206.1 l hl) (fun k q => by cases q) (by decide) hw
    refine kx_go 1 (pc' := 52) (L' := [(3, .inl (fs_oi (fs_st D (fa_n B (80 + 7 * l + 3)) n))), (2, .inl (Int32.ofInt (-1))), (0, .inr (.inr (.inl (some 204)))), (1, .inl (Int32.ofNat l))]) (S' := [.inr (.inr (.inl (some 204)))]) (h' := (kc_upd h 206 l (.inl (Int32.ofInt (-1))))) (by with_unfolding_all rfl) ?_
    refine kx_getf (c := 204) (v := .inr (.inr (.inl (some 207)))) rfl (by decide) (kx_ofr (hw1 _ _ _ fs_k204_5)) ?_
    refine kx_go 4 (pc' := (if kc_cnd .eq (Int32.ofInt (-1)).toInt (Int32.ofInt (-1)).toInt then 70 else 61)) (L' := [(3, .inl (fs_oi (fs_st D (fa_n B (80 + 7 * l + 3)) n))), (2, .inl (Int32.ofInt (-1))), (0, .inr (.inr (.inl (some 204)))), (1, .inl (Int32.ofNat l))]) (S' := [.inl (Int32.ofNat l), .inr (.inr (.inl (some 207)))]) (h' := (kc_upd h 206 l (.inl (Int32.ofInt (-1))))) (by with_unfolding_all rfl) ?_
    rw [if_pos kx_m1]
    refine kx_go 1 (pc' := 71) (L' := [(3, .inl (fs_oi (fs_st D (fa_n B (80 + 7 * l + 3)) n))), (2, .inl (Int32.ofInt (-1))), (0, .inr (.inr (.inl (some 204)))), (1, .inl (Int32.ofNat l))]) (S' := [.inl (Int32.ofInt (-1)), .inl (Int32.ofNat l), .inr (.inr (.inl (some 207)))]) (h' := (kc_upd h 206 l (.inl (Int32.ofInt (-1))))) (by with_unfolding_all rfl) ?_
    refine kx_iast (c := 207) (j := l) (m := 10) rfl rfl (by decide) (by decide) (by omega) ?_
    exact kc_ret_ok rfl (rv := none) rfl ⟨rfl, by rw [show fs_w6 B D n l = none from if_neg eF, show fs_w7 B D n l = none from if_neg eC]; rfl⟩
  | some k =>
    have hk := fs_st_le n eo
    have eF0 : fs_F B D n l = k := by unfold fs_F; rw [eo]; rfl
    by_cases ck : k < n
    · rw [if_pos (show kc_cnd .lt (fs_oi (some k)).toInt (Int32.ofNat n).toInt = true from (kx_lt (a := k) (b := n) (by omega) (by omega)).mpr ck)]
      have eF : fs_F B D n l < n := by omega
      show kc_Ev g d wk_m202 _ 44 [(3, .inl (fs_oi (fs_st D (fa_n B (80 + 7 * l + 3)) n))), (2, .inl (Int32.ofNat k)), (0, .inr (.inr (.inl (some 204)))), (1, .inl (Int32.ofNat l))] [] h
      refine kx_go 1 (pc' := 45) (L' := [(3, .inl (fs_oi (fs_st D (fa_n B (80 + 7 * l + 3)) n))), (2, .inl (Int32.ofNat k)), (0, .inr (.inr (.inl (some 204)))), (1, .inl (Int32.ofNat l))]) (S' := [.inr (.inr (.inl (some 204)))]) (h' := h) (by with_unfolding_all rfl) ?_
      refine kx_getf (c := 204) (v := .inr (.inr (.inl (some 206)))) rfl (by decide) (kx_ofr (hw _ _ _ fs_k204_4)) ?_
      refine kx_go 2 (pc' := 50) (L' := [(3, .inl (fs_oi (fs_st D (fa_n B (80 + 7 * l + 3)) n))), (2, .inl (Int32.ofNat k)), (0, .inr (.inr (.inl (some 204)))), (1, .inl (Int32.ofNat l))]) (S' := [.inl (Int32.ofNat k), .inl (Int32.ofNat l), .inr (.inr (.inl (some 206)))]) (h' := h) (by with_unfolding_all rfl) ?_
      refine kx_iast (c := 206) (j := l) (m := 10) rfl rfl (by decide) (by decide) (by omega) ?_
      have hw1 : kd_wt kd_ty (kc_upd h 206 l (.inl (Int32.ofNat k))) := fs_w1 (v := some k) (fs_k206.1 l hl) (fun j q => by cases q; omega) (by decide) hw
      refine kx_go 1 (pc' := 52) (L' := [(3, .inl (fs_oi (fs_st D (fa_n B (80 + 7 * l + 3)) n))), (2, .inl (Int32.ofNat k)), (0, .inr (.inr (.inl (some 204)))), (1, .inl (Int32.ofNat l))]) (S' := [.inr (.inr (.inl (some 204)))]) (h' := (kc_upd h 206 l (.inl (Int32.ofNat k)))) (by with_unfolding_all rfl) ?_
      refine kx_getf (c := 204) (v := .inr (.inr (.inl (some 207)))) rfl (by decide) (kx_ofr (hw1 _ _ _ fs_k204_5)) ?_
      refine kx_go 4 (pc' := (if kc_cnd .eq (Int32.ofNat k).toInt (Int32.ofInt (-1)).toInt then 70 else 61)) (L' := [(3, .inl (fs_oi (fs_st D (fa_n B (80 + 7 * l + 3)) n))), (2, .inl (Int32.ofNat k)), (0, .inr (.inr (.inl (some 204)))), (1, .inl (Int32.ofNat l))]) (S' := [.inl (Int32.ofNat l), .inr (.inr (.inl (some 207)))]) (h' := (kc_upd h 206 l (.inl (Int32.ofNat k)))) (by with_unfolding_all rfl) ?_
      rw [if_neg (kx_nm1 (by omega))]
      cases et : fs_st D (fa_n B (80 + 7 * l + 3)) n with
      | none =>
        have eC : ¬ fs_co B D n l = true := by unfold fs_co; rw [et, fs_gt_n, Bool.and_false]; exact Bool.false_ne_true
        show kc_Ev g d wk_m202 _ 61 [(3, .inl (Int32.ofInt (-1))), (2, .inl (Int32.ofNat k)), (0, .inr (.inr (.inl (some 204)))), (1, .inl (Int32.ofNat l))] [.inl (Int32.ofNat l), .inr (.inr (.inl (some 207)))] (kc_upd h 206 l (.inl (Int32.ofNat k)))
        refine kx_go 3 (pc' := (if kc_cnd .le (Int32.ofInt (-1)).toInt (Int32.ofNat k).toInt then 70 else 66)) (L' := [(3, .inl (Int32.ofInt (-1))), (2, .inl (Int32.ofNat k)), (0, .inr (.inr (.inl (some 204)))), (1, .inl (Int32.ofNat l))]) (S' := [.inl (Int32.ofNat l), .inr (.inr (.inl (some 207)))]) (h' := (kc_upd h 206 l (.inl (Int32.ofNat k)))) (by with_unfolding_all rfl) ?_
        rw [if_pos (fs_ilem (by omega))]
        refine kx_go 1 (pc' := 71) (L' := [(3, .inl (Int32.ofInt (-1))), (2, .inl (Int32.ofNat k)), (0, .inr (.inr (.inl (some 204)))), (1, .inl (Int32.ofNat l))]) (S' := [.inl (Int32.ofInt (-1)), .inl (Int32.ofNat l), .inr (.inr (.inl (some 207)))]) (h' := (kc_upd h 206 l (.inl (Int32.ofNat k)))) (by with_unfolding_all rfl) ?_
        refine kx_iast (c := 207) (j := l) (m := 10) rfl rfl (by decide) (by decide) (by omega) ?_
        exact kc_ret_ok rfl (rv := none) rfl ⟨rfl, by rw [show fs_w6 B D n l = some k from (if_pos eF).trans (by rw [eF0]), show fs_w7 B D n l = none from if_neg eC]; rfl⟩
      | some j =>
        have hj := fs_st_le n et
        show kc_Ev g d wk_m202 _ 61 [(3, .inl (Int32.ofNat j)), (2, .inl (Int32.ofNat k)), (0, .inr (.inr (.inl (some 204)))), (1, .inl (Int32.ofNat l))] [.inl (Int32.ofNat l), .inr (.inr (.inl (some 207)))] (kc_upd h 206 l (.inl (Int32.ofNat k)))
        refine kx_go 3 (pc' := (if kc_cnd .le (Int32.ofNat j).toInt (Int32.ofNat k).toInt then 70 else 66)) (L' := [(3, .inl (Int32.ofNat j)), (2, .inl (Int32.ofNat k)), (0, .inr (.inr (.inl (some 204)))), (1, .inl (Int32.ofNat l))]) (S' := [.inl (Int32.ofNat l), .inr (.inr (.inl (some 207)))]) (h' := (kc_upd h 206 l (.inl (Int32.ofNat k)))) (by with_unfolding_all rfl) ?_
        by_cases cj : k < j
        · rw [if_neg (fun q => by have := (kx_le (by omega) (by omega)).mp q; omega)]
          have eC : fs_co B D n l = true := by unfold fs_co; rw [decide_eq_true eF, et, eF0]; exact decide_eq_true cj
          have eE : fs_E B D n l = j := by unfold fs_E; rw [if_pos eC, et]; rfl
          refine kx_go 2 (pc' := 71) (L' := [(3, .inl (Int32.ofNat j)), (2, .inl (Int32.ofNat k)), (0, .inr (.inr (.inl (some 204)))), (1, .inl (Int32.ofNat l))]) (S' := [.inl (Int32.ofNat j), .inl (Int32.ofNat l), .inr (.inr (.inl (some 207)))]) (h' := (kc_upd h 206 l (.inl (Int32.ofNat k)))) (by with_unfolding_all rfl) ?_
          refine kx_iast (c := 207) (j := l) (m := 10) rfl rfl (by decide) (by decide) (by omega) ?_
          exact kc_ret_ok rfl (rv := none) rfl ⟨rfl, by rw [show fs_w6 B D n l = some k from (if_pos eF).trans (by rw [eF0]), show fs_w7 B D n l = some j from (if_pos eC).trans (by rw [eE])]; rfl⟩
        · rw [if_pos ((kx_le (by omega) (by omega)).mpr (by omega))]
          have eC : ¬ fs_co B D n l = true := by unfold fs_co; rw [et, eF0, fs_gt_s, decide_eq_false cj, Bool.and_false]; exact Bool.false_ne_true
          refine kx_go 1 (pc' := 71) (L' := [(3, .inl (Int32.ofNat j)), (2, .inl (Int32.ofNat k)), (0, .inr (.inr (.inl (some 204)))), (1, .inl (Int32.ofNat l))]) (S' := [.inl (Int32.ofInt (-1)), .inl (Int32.ofNat l), .inr (.inr (.inl (some 207)))]) (h' := (kc_upd h 206 l (.inl (Int32.ofNat k)))) (by with_unfolding_all rfl) ?_
          refine kx_iast (c := 207) (j := l) (m := 10) rfl rfl (by decide) (by decide) (by omega) ?_
          exact kc_ret_ok rfl (rv := none) rfl ⟨rfl, by rw [show fs_w6 B D n l = some k from (if_pos eF).trans (by rw [eF0]), show fs_w7 B D n l = none from if_neg eC]; rfl⟩
    · rw [if_neg (show ¬ kc_cnd .lt (fs_oi (some k)).toInt (Int32.ofNat n).toInt = true from fun q => ck ((kx_lt (a := k) (b := n) (by omega) (by omega)).mp q))]
      have eF : ¬ fs_F B D n l < n := by omega
      have eC : ¬ fs_co B D n l = true := by unfold fs_co; rw [decide_eq_false eF, Bool.false_and]; exact Bool.false_ne_true
      show kc_Ev g d wk_m202 _ 42 [(3, .inl (fs_oi (fs_st D (fa_n B (80 + 7 * l + 3)) n))), (2, .inl (Int32.ofNat k)), (0, .inr (.inr (.inl (some 204)))), (1, .inl (Int32.ofNat l))] [] h
      refine kx_go 2 (pc' := 44) (L' := [(2, .inl (Int32.ofInt (-1))), (3, .inl (fs_oi (fs_st D (fa_n B (80 + 7 * l + 3)) n))), (0, .inr (.inr (.inl (some 204)))), (1, .inl (Int32.ofNat l))]) (S' := []) (h' := h) (by with_unfolding_all rfl) ?_
      refine kx_go 1 (pc' := 45) (L' := [(2, .inl (Int32.ofInt (-1))), (3, .inl (fs_oi (fs_st D (fa_n B (80 + 7 * l + 3)) n))), (0, .inr (.inr (.inl (some 204)))), (1, .inl (Int32.ofNat l))]) (S' := [.inr (.inr (.inl (some 204)))]) (h' := h) (by with_unfolding_all rfl) ?_
      refine kx_getf (c := 204) (v := .inr (.inr (.inl (some 206)))) rfl (by decide) (kx_ofr (hw _ _ _ fs_k204_4)) ?_
      refine kx_go 2 (pc' := 50) (L' := [(2, .inl (Int32.ofInt (-1))), (3, .inl (fs_oi (fs_st D (fa_n B (80 + 7 * l + 3)) n))), (0, .inr (.inr (.inl (some 204)))), (1, .inl (Int32.ofNat l))]) (S' := [.inl (Int32.ofInt (-1)), .inl (Int32.ofNat l), .inr (.inr (.inl (some 206)))]) (h' := h) (by with_unfolding_all rfl) ?_
      refine kx_iast (c := 206) (j := l) (m := 10) rfl rfl (by decide) (by decide) (by omega) ?_
      have hw1 : kd_wt kd_ty (kc_upd h 206 l (.inl (Int32.ofInt (-1)))) := fs_w1 (v := none) (fs_k206.1 l hl) (fun k q => by cases q) (by decide) hw
      refine kx_go 1 (pc' := 52) (L' := [(2, .inl (Int32.ofInt (-1))), (3, .inl (fs_oi (fs_st D (fa_n B (80 + 7 * l + 3)) n))), (0, .inr (.inr (.inl (some 204)))), (1, .inl (Int32.ofNat l))]) (S' := [.inr (.inr (.inl (some 204)))]) (h' := (kc_upd h 206 l (.inl (Int32.ofInt (-1))))) (by with_unfolding_all rfl) ?_
      refine kx_getf (c := 204) (v := .inr (.inr (.inl (some 207)))) rfl (by decide) (kx_ofr (hw1 _ _ _ fs_k204_5)) ?_
      refine kx_go 4 (pc' := (if kc_cnd .eq (Int32.ofInt (-1)).toInt (Int32.ofInt (-1)).toInt then 70 else 61)) (L' := [(2, .inl (Int32.ofInt (-1))), (3, .inl (fs_oi (fs_st D (fa_n B (80 + 7 * l + 3)) n))), (0, .inr (.inr (.inl (some 204)))), (1, .inl (Int32.ofNat l))]) (S' := [.inl (Int32.ofNat l), .inr (.inr (.inl (some 207)))]) (h' := (kc_upd h 206 l (.inl (Int32.ofInt (-1))))) (by with_unfolding_all rfl) ?_
      rw [if_pos kx_m1]
      refine kx_go 1 (pc' := 71) (L' := [(2, .inl (Int32.ofInt (-1))), (3, .inl (fs_oi (fs_st D (fa_n B (80 + 7 * l + 3)) n))), (0, .inr (.inr (.inl (some 204)))), (1, .inl (Int32.ofNat l))]) (S' := [.inl (Int32.ofInt (-1)), .inl (Int32.ofNat l), .inr (.inr (.inl (some 207)))]) (h' := (kc_upd h 206 l (.inl (Int32.ofInt (-1))))) (by with_unfolding_all rfl) ?_
      refine kx_iast (c := 207) (j := l) (m := 10) rfl rfl (by decide) (by decide) (by omega) ?_
      exact kc_ret_ok rfl (rv := none) rfl ⟨rfl, by rw [show fs_w6 B D n l = none from if_neg eF, show fs_w7 B D n l = none from if_neg eC]; rfl⟩
def fs_P (h0 : kc_H) (B : Nat → Int32) (D : Nat → Nat) (n i : Nat) (h : kc_H) : Prop := kd_wt kd_ty h ∧ h 204 1 = .inl (Int32.ofNat n) ∧ h 204 2 = .inl (Int32.ofNat (fs_far B D i)) ∧ (∀ p, p < 6 → h 219 p = .inl (fs_oi (fs_st D p i))) ∧ ∀ a x, ¬ (204 ≤ a ∧ a ≤ 219) → h a x = h0 a x
def fs_Q (B : Nat → Int32) (D : Nat → Nat) (n l : Nat) (h : kc_H) : Prop := (∀ j, j < l → h 206 j = .inl (fs_oi (if fs_F B D n j < n then some (fs_F B D n j) else none))) ∧ (∀ j, j < l → h 207 j = .inl (fs_oi (if fs_co B D n j = true then some (fs_E B D n j) else none))) ∧ ∀ j, j < l → ∀ i, i < n → h (209 + j) i = .inl (Int32.ofNat (fa_w B j i))
theorem fs_if {c : Prop} [Decidable c] {k : Nat} : fs_oi (if c then some k else none) = if c then Int32.ofNat k else Int32.ofInt (-1) := by
  by_cases e : c
  · rw [if_pos e, if_pos e]; rfl
  · rw [if_neg e, if_neg e]; rfl
theorem fs_Q_G {B : Nat → Int32} {D : Nat → Nat} {n L : Nat} {h : kc_H} (hn : h 204 1 = .inl (Int32.ofNat n)) (hQ : fs_Q B D n L h) : fs_G (fs_F B D n) (fs_E B D n) (fs_co B D n) (fun l i => fa_w B l i) L n h := ⟨hn, fun l hl => (hQ.1 l hl).trans (by rw [fs_if]), fun l hl => (hQ.2.1 l hl).trans (by rw [fs_if]), hQ.2.2⟩
theorem fs_farl {B : Nat → Int32} {D : Nat → Nat} (hB : fu_BT B) (hD : ∀ j, D j < 6) : ∀ i, fs_far B D i ≤ 99 * i
  | 0 => Nat.le_refl _
  | i + 1 => by
    have h1 := fs_farl hB hD i
    have la : fs_la D i < 6 := by
      cases i with
      | zero => exact Nat.zero_lt_succ _
      | succ i => exact hD i
    have h2 := (fa_ng hB la (hD i)).2
    show fs_far B D i + fs_mi B D i ≤ 99 * (i + 1)
    unfold fs_mi
    rw [Nat.mul_add]
    omega
theorem fs_lal {D : Nat → Nat} (hD : ∀ j, D j < 6) (i : Nat) : fs_la D i < 6 := by
  cases i with
  | zero => exact Nat.zero_lt_succ _
  | succ i => exact hD i
set_option maxRecDepth 20000 in
theorem fs_c100b {g : kc_G} {d : Nat} {h0 : kc_H} {B : Nat → Int32} {D : Nat → Nat} {n L : Nat} (hg : kc_ok g) (hB : fu_BT B) (hC0 : fu_C B 1 h0) (hn : n ≤ 5) (hL : L ≤ 10) (eL : B 2 = Int32.ofNat L) : ∀ (u l : Nat) (h : kc_H), L - l = u → l ≤ L → fs_P h0 B D n n h → fs_Q B D n l h → kc_Ev g (d + 2) wk_m100 (fun rv h' => rv = none ∧ fs_P h0 B D n n h' ∧ fs_Q B D n L h') 105 [(4, .inl (Int32.ofNat l)), (0, .inr (.inr (.inl (some 204))))] [] h := by
  intro u
  induction u with
  | zero =>
    intro l h hu hl hP hQ
    have hw := hP.1
    have hC := fs_C_f (h' := h) (fun a y q => hP.2.2.2.2 a y (by omega)) hC0
    refine kx_go 2 (pc' := 108) (L' := [(4, .inl (Int32.ofNat l)), (0, .inr (.inr (.inl (some 204))))]) (S' := [.inr (.inr (.inl (some 204))), .inl (Int32.ofNat l)]) (h' := h) (by with_unfolding_all rfl) ?_
    refine kx_getf (c := 204) (v := .inr (.inr (.inl (some 1)))) rfl (by decide) (kx_ofr (hw _ _ _ fs_k204_0)) ?_
    refine kx_getf (c := 1) (v := .inl (Int32.ofNat L)) rfl (by decide) ((fu_C0 hC).2.2.1.trans (by rw [eL])) ?_
    refine kx_go 1 (pc' := (if kc_cnd .ge (Int32.ofNat l).toInt (Int32.ofNat L).toInt then 168 else 117)) (L' := [(4, .inl (Int32.ofNat l)), (0, .inr (.inr (.inl (some 204))))]) (S' := []) (h' := h) (by with_unfolding_all rfl) ?_
    rw [if_pos ((kx_ge (by omega) (by omega)).mpr (by omega))]
    obtain rfl : l = L := by omega
    exact kc_ret_ok rfl (rv := none) rfl ⟨rfl, hP, hQ⟩
  | succ u ih =>
    intro l h hu hl hP hQ
    have hw := hP.1
    have hC := fs_C_f (h' := h) (fun a y q => hP.2.2.2.2 a y (by omega)) hC0
    refine kx_go 2 (pc' := 108) (L' := [(4, .inl (Int32.ofNat l)), (0, .inr (.inr (.inl (some 204))))]) (S' := [.inr (.inr (.inl (some 204))), .inl (Int32.ofNat l)]) (h' := h) (by with_unfolding_all rfl) ?_
    refine kx_getf (c := 204) (v := .inr (.inr (.inl (some 1)))) rfl (by decide) (kx_ofr (hw _ _ _ fs_k204_0)) ?_
    refine kx_getf (c := 1) (v := .inl (Int32.ofNat L)) rfl (by decide) ((fu_C0 hC).2.2.1.trans (by rw [eL])) ?_
    refine kx_go 1 (pc' := (if kc_cnd .ge (Int32.ofNat l).toInt (Int32.ofNat L).toInt then 168 else 117)) (L' := [(4, .inl (Int32.ofNat l)), (0, .inr (.inr (.inl (some 204))))]) (S' := []) (h' := h) (by with_unfolding_all rfl) ?_
    rw [if_neg (fun q => by have := (kx_ge (by omega) (by omega)).mp q; omega)]
    have hl10 : l < 10 := by omega
    have inner : ∀ (v i : Nat) (h : kc_H), n - i = v → i ≤ n → fs_P h0 B D n n h → (fs_Q B D n l h ∧ (h 206 l = .inl (fs_oi (if fs_F B D n l < n then some (fs_F B D n l) else none))) ∧ (h 207 l = .inl (fs_oi (if fs_co B D n l = true then some (fs_E B D n l) else none))) ∧ ∀ j, j < i → h (209 + l) j = .inl (Int32.ofNat (fa_w B l j))) → kc_Ev g (d + 2) wk_m100 (fun rv h' => rv = none ∧ fs_P h0 B D n n h' ∧ fs_Q B D n L h') 126 [(5, .inl (Int32.ofNat i)), (4, .inl (Int32.ofNat l)), (0, .inr (.inr (.inl (some 204))))] [] h := by
      intro v
      induction v with
      | zero =>
        intro i h hv hi hP hq
        have hw := hP.1
        have hC := fs_C_f (h' := h) (fun a y q => hP.2.2.2.2 a y (by omega)) hC0
        refine kx_go 2 (pc' := 129) (L' := [(5, .inl (Int32.ofNat i)), (4, .inl (Int32.ofNat l)), (0, .inr (.inr (.inl (some 204))))]) (S' := [.inr (.inr (.inl (some 204))), .inl (Int32.ofNat i)]) (h' := h) (by with_unfolding_all rfl) ?_
        refine kx_getf (c := 204) (v := .inl (Int32.ofNat n)) rfl (by decide) hP.2.1 ?_
        refine kx_go 1 (pc' := (if kc_cnd .ge (Int32.ofNat i).toInt (Int32.ofNat n).toInt then 162 else 135)) (L' := [(5, .inl (Int32.ofNat i)), (4, .inl (Int32.ofNat l)), (0, .inr (.inr (.inl (some 204))))]) (S' := []) (h' := h) (by with_unfolding_all rfl) ?_
        rw [if_pos ((kx_ge (by omega) (by omega)).mpr (by omega))]
        refine kx_go 2 (pc' := 105) (L' := [(4, .inl ((Int32.ofNat l) + Int32.ofInt 1)), (5, .inl (Int32.ofNat i)), (0, .inr (.inr (.inl (some 204))))]) (S' := []) (h' := h) (by with_unfolding_all rfl) ?_
        rw [kx_inc]
        refine kf_lo (L := [(4, .inl (Int32.ofNat (l + 1))), (0, .inr (.inr (.inl (some 204))))]) (by intro q hq; simp only [List.mem_cons, List.not_mem_nil, or_false] at hq; rcases hq with rfl | rfl <;> rfl) ?_
        obtain ⟨hQ, q1, q2, q3⟩ := hq
        refine ih (l + 1) h (by omega) (by omega) hP ⟨fun j hj => ?_, fun j hj => ?_, fun j hj i' hi' => ?_⟩
        · by_cases e : j = l
          · rw [e]; exact q1
          · exact hQ.1 j (by omega)
        · by_cases e : j = l
          · rw [e]; exact q2
          · exact hQ.2.1 j (by omega)
        · by_cases e : j = l
          · rw [e]; exact q3 i' (by omega)
          · exact hQ.2.2 j (by omega) i' hi'
      | succ v ihv =>
        intro i h hv hi hP hq
        have hw := hP.1
        have hC := fs_C_f (h' := h) (fun a y q => hP.2.2.2.2 a y (by omega)) hC0
        refine kx_go 2 (pc' := 129) (L' := [(5, .inl (Int32.ofNat i)), (4, .inl (Int32.ofNat l)), (0, .inr (.inr (.inl (some 204))))]) (S' := [.inr (.inr (.inl (some 204))), .inl (Int32.ofNat i)]) (h' := h) (by with_unfolding_all rfl) ?_
        refine kx_getf (c := 204) (v := .inl (Int32.ofNat n)) rfl (by decide) hP.2.1 ?_
        refine kx_go 1 (pc' := (if kc_cnd .ge (Int32.ofNat i).toInt (Int32.ofNat n).toInt then 162 else 135)) (L' := [(5, .inl (Int32.ofNat i)), (4, .inl (Int32.ofNat l)), (0, .inr (.inr (.inl (some 204))))]) (S' := []) (h' := h) (by with_unfolding_all rfl) ?_
        rw [if_neg (fun q => by have := (kx_ge (by omega) (by omega)).mp q; omega)]
        refine kx_go 1 (pc' := 136) (L' := [(5, .inl (Int32.ofNat i)), (4, .inl (Int32.ofNat l)), (0, .inr (.inr (.inl (some 204))))]) (S' := [.inr (.inr (.inl (some 204)))]) (h' := h) (by with_unfolding_all rfl) ?_
        refine kx_getf (c := 204) (v := .inr (.inr (.inl (some 208)))) rfl (by decide) (kx_ofr (hw _ _ _ fs_k204_6)) ?_
        refine kx_go 1 (pc' := 141) (L' := [(5, .inl (Int32.ofNat i)), (4, .inl (Int32.ofNat l)), (0, .inr (.inr (.inl (some 204))))]) (S' := [.inl (Int32.ofNat l), .inr (.inr (.inl (some 208)))]) (h' := h) (by with_unfolding_all rfl) ?_
        refine kx_aald rfl (c := 208) (j := l) (m := 10) (t0 := 2) (v := .inr (.inr (.inl (some (209 + l))))) rfl (by decide) (by decide) (by decide) (by omega) (kx_ofr (hw _ _ _ (fs_k208 l (by omega)).2)) ?_
        refine kx_go 2 (pc' := 145) (L' := [(5, .inl (Int32.ofNat i)), (4, .inl (Int32.ofNat l)), (0, .inr (.inr (.inl (some 204))))]) (S' := [.inr (.inr (.inl (some 204))), .inl (Int32.ofNat i), .inr (.inr (.inl (some (209 + l))))]) (h' := h) (by with_unfolding_all rfl) ?_
        refine kx_getf (c := 204) (v := .inr (.inr (.inl (some 1)))) rfl (by decide) (kx_ofr (hw _ _ _ fs_k204_0)) ?_
        refine kx_go 2 (pc' := 152) (L' := [(5, .inl (Int32.ofNat i)), (4, .inl (Int32.ofNat l)), (0, .inr (.inr (.inl (some 204))))]) (S' := [.inl (Int32.ofNat i), .inl (Int32.ofNat l), .inr (.inr (.inl (some 1))), .inl (Int32.ofNat i), .inr (.inr (.inl (some (209 + l))))]) (h' := h) (by with_unfolding_all rfl) ?_
        refine kc_call_rule (M2 := wk_m182) (av := [.inr (.inr (.inl (some 1))), .inl (Int32.ofNat l), .inl (Int32.ofNat i)]) (r := [.inl (Int32.ofNat i), .inr (.inr (.inl (some (209 + l))))]) rfl rfl (kc_Con_le (fa_c182 (d := 0) hg hw hC hB hl10 (show i ≤ 60 by omega)) (by omega)) (fun rv hcc hq => ?_)
        obtain ⟨rfl, e9⟩ := hq
        rw [e9]
        clear e9
        show kc_Ev g (d + 2) wk_m100 _ 155 [(5, .inl (Int32.ofNat i)), (4, .inl (Int32.ofNat l)), (0, .inr (.inr (.inl (some 204))))] [.inl (Int32.ofNat (fa_w B l i)), .inl (Int32.ofNat i), .inr (.inr (.inl (some (209 + l))))] h
        refine kx_iast (c := 209 + l) (j := i) (m := 5) rfl (fs_k208 l (by omega)).1.1 (fs_k208 l (by omega)).1.2 (by decide) (by omega) ?_
        refine kx_go 2 (pc' := 126) (L' := [(5, .inl ((Int32.ofNat i) + Int32.ofInt 1)), (4, .inl (Int32.ofNat l)), (0, .inr (.inr (.inl (some 204))))]) (S' := []) (h' := (kc_upd h (209 + l) i (.inl (Int32.ofNat (fa_w B l i))))) (by with_unfolding_all rfl) ?_
        rw [kx_inc]
        refine kf_lo (L := [(5, .inl (Int32.ofNat (i + 1))), (4, .inl (Int32.ofNat l)), (0, .inr (.inr (.inl (some 204))))]) (by intro q hq; simp only [List.mem_cons, List.not_mem_nil, or_false] at hq; rcases hq with rfl | rfl | rfl <;> rfl) ?_
        obtain ⟨hQ, q1, q2, q3⟩ := hq
        refine ihv (i + 1) _ (by omega) (by omega) ⟨fa_wa (fs_k206.2.2.2.2.1 l hl10 i (by omega)) hw, (fu_ne (by omega)).trans hP.2.1, (fu_ne (by omega)).trans hP.2.2.1, fun p hp => (fu_ne (by omega)).trans (hP.2.2.2.1 p hp), fun a y ha => (fu_ne (by omega)).trans (hP.2.2.2.2 a y ha)⟩ ⟨⟨fun j hj => (fu_ne (by omega)).trans (hQ.1 j hj), fun j hj => (fu_ne (by omega)).trans (hQ.2.1 j hj), fun j hj i' hi' => (fu_ne (by omega)).trans (hQ.2.2 j hj i' hi')⟩, (fu_ne (by omega)).trans q1, (fu_ne (by omega)).trans q2, fun j hj => ?_⟩
        by_cases e : j = i
        · rw [e]; exact fu_eq
        · exact (fu_ne (fun q => e q.2)).trans (q3 j (by omega))
    refine kx_go 2 (pc' := 120) (L' := [(4, .inl (Int32.ofNat l)), (0, .inr (.inr (.inl (some 204))))]) (S' := [.inl (Int32.ofNat l), .inr (.inr (.inl (some 204)))]) (h' := h) (by with_unfolding_all rfl) ?_
    refine kc_call_rule (M2 := wk_m202) (av := [.inr (.inr (.inl (some 204))), .inl (Int32.ofNat l)]) (r := []) rfl rfl (kc_Con_le (fs_c202 (d := 0) (D := D) hg hw hC hB hn hl10 hP.2.1 hP.2.2.2.1) (by omega)) (fun rv h2 hq => ?_)
    obtain ⟨rfl, eh⟩ := hq
    show kc_Ev g (d + 2) wk_m100 _ 123 [(4, .inl (Int32.ofNat l)), (0, .inr (.inr (.inl (some 204))))] [] h2
    have f1 : fs_F B D n l ≤ n := fs_on_le
    have f2 : fs_E B D n l ≤ n := ((fs_gb (D := D) (L := L) hB hn hL).2.2.1 l (by omega)).2.1
    have hw2 : kd_wt kd_ty h2 := by
      rw [eh]
      refine fs_w1 (fs_k206.2.1 l hl10) (fun k q => ?_) (by decide) (fs_w1 (fs_k206.1 l hl10) (fun k q => ?_) (by decide) hw)
      · unfold fs_w7 at q
        by_cases e : fs_co B D n l = true
        · rw [if_pos e] at q; cases q; omega
        · rw [if_neg e] at q; cases q
      · unfold fs_w6 at q
        by_cases e : fs_F B D n l < n
        · rw [if_pos e] at q; cases q; omega
        · rw [if_neg e] at q; cases q
    have e6 : h2 206 l = .inl (fs_oi (if fs_F B D n l < n then some (fs_F B D n l) else none)) := by rw [eh, fu_ne (by omega), fu_eq]; rfl
    have e7 : h2 207 l = .inl (fs_oi (if fs_co B D n l = true then some (fs_E B D n l) else none)) := by rw [eh, fu_eq]; rfl
    have eo : ∀ a x, ¬ ((a = 206 ∨ a = 207) ∧ x = l) → h2 a x = h a x := fun a x q => by rw [eh, fu_ne (by omega), fu_ne (by omega)]
    have hP2 : fs_P h0 B D n n h2 := ⟨hw2, (eo _ _ (by omega)).trans hP.2.1, (eo _ _ (by omega)).trans hP.2.2.1, fun p hp => (eo _ _ (by omega)).trans (hP.2.2.2.1 p hp), fun a y ha => (eo _ _ (by omega)).trans (hP.2.2.2.2 a y ha)⟩
    have hQ2 : fs_Q B D n l h2 := ⟨fun j hj => (eo _ _ (by omega)).trans (hQ.1 j hj), fun j hj => (eo _ _ (by omega)).trans (hQ.2.1 j hj), fun j hj i' hi' => (eo _ _ (by omega)).trans (hQ.2.2 j hj i' hi')⟩
    refine kx_go 2 (pc' := 126) (L' := [(5, .inl (Int32.ofNat 0)), (4, .inl (Int32.ofNat l)), (0, .inr (.inr (.inl (some 204))))]) (S' := []) (h' := h2) (by with_unfolding_all rfl) ?_
    refine kf_lo (L := [(5, .inl (Int32.ofNat 0)), (4, .inl (Int32.ofNat l)), (0, .inr (.inr (.inl (some 204))))]) (by intro q hq; simp only [List.mem_cons, List.not_mem_nil, or_false] at hq; rcases hq with rfl | rfl | rfl <;> rfl) ?_
    exact inner n 0 h2 (by omega) (by omega) hP2 ⟨hQ2, e6, e7, fun j hj => by omega⟩
set_option maxRecDepth 20000 in
theorem fs_c100a27 {g : kc_G} {d : Nat} {h0 : kc_H} {B : Nat → Int32} {D : Nat → Nat} {n L : Nat} (hg : kc_ok g) (hB : fu_BT B) (hC0 : fu_C B 1 h0) (hn : n ≤ 5) (hL : L ≤ 10) (eL : B 2 = Int32.ofNat L) (ha : ∀ k, k < n → h0 27 k = .inl (Int32.ofNat (D k))) (hD : ∀ j, D j < 6) : ∀ (u i : Nat) (h : kc_H), n - i = u → i ≤ n → fs_P h0 B D n i h → kc_Ev g (d + 2) wk_m100 (fun rv h' => rv = none ∧ fs_P h0 B D n n h' ∧ fs_Q B D n L h') 35 [(4, .inl (Int32.ofNat i)), (3, .inl (Int32.ofNat (fs_la D i))), (0, .inr (.inr (.inl (some 204)))), (1, .inr (.inr (.inl (some 27)))), (2, .inl (Int32.ofNat n))] [] h := by
  intro u
  induction u with
  | zero =>
    intro i h hu hi hP
    have hw := hP.1
    have hC := fs_C_f (h' := h) (fun a y q => hP.2.2.2.2 a y (by omega)) hC0
    refine kx_go 2 (pc' := 38) (L' := [(4, .inl (Int32.ofNat i)), (3, .inl (Int32.ofNat (fs_la D i))), (0, .inr (.inr (.inl (some 204)))), (1, .inr (.inr (.inl (some 27)))), (2, .inl (Int32.ofNat n))]) (S' := [.inr (.inr (.inl (some 204))), .inl (Int32.ofNat i)]) (h' := h) (by with_unfolding_all rfl) ?_
    refine kx_getf (c := 204) (v := .inl (Int32.ofNat n)) rfl (by decide) hP.2.1 ?_
    refine kx_go 1 (pc' := (if kc_cnd .ge (Int32.ofNat i).toInt (Int32.ofNat n).toInt then 102 else 44)) (L' := [(4, .inl (Int32.ofNat i)), (3, .inl (Int32.ofNat (fs_la D i))), (0, .inr (.inr (.inl (some 204)))), (1, .inr (.inr (.inl (some 27)))), (2, .inl (Int32.ofNat n))]) (S' := []) (h' := h) (by with_unfolding_all rfl) ?_
    rw [if_pos ((kx_ge (by omega) (by omega)).mpr (by omega))]
    have ei : i = n := by omega
    rw [ei] at hP
    refine kx_go 2 (pc' := 105) (L' := [(4, .inl (Int32.ofNat 0)), (3, .inl (Int32.ofNat (fs_la D i))), (0, .inr (.inr (.inl (some 204)))), (1, .inr (.inr (.inl (some 27)))), (2, .inl (Int32.ofNat n))]) (S' := []) (h' := h) (by with_unfolding_all rfl) ?_
    refine kf_lo (L := [(4, .inl (Int32.ofNat 0)), (0, .inr (.inr (.inl (some 204))))]) (by intro q hq; simp only [List.mem_cons, List.not_mem_nil, or_false] at hq; rcases hq with rfl | rfl <;> rfl) ?_
    exact fs_c100b hg hB hC0 hn hL eL L 0 h (by omega) (by omega) hP ⟨fun j hj => by omega, fun j hj => by omega, fun j hj => by omega⟩
  | succ u ih =>
    intro i h hu hi hP
    have hw := hP.1
    have hC := fs_C_f (h' := h) (fun a y q => hP.2.2.2.2 a y (by omega)) hC0
    refine kx_go 2 (pc' := 38) (L' := [(4, .inl (Int32.ofNat i)), (3, .inl (Int32.ofNat (fs_la D i))), (0, .inr (.inr (.inl (some 204)))), (1, .inr (.inr (.inl (some 27)))), (2, .inl (Int32.ofNat n))]) (S' := [.inr (.inr (.inl (some 204))), .inl (Int32.ofNat i)]) (h' := h) (by with_unfolding_all rfl) ?_
    refine kx_getf (c := 204) (v := .inl (Int32.ofNat n)) rfl (by decide) hP.2.1 ?_
    refine kx_go 1 (pc' := (if kc_cnd .ge (Int32.ofNat i).toInt (Int32.ofNat n).toInt then 102 else 44)) (L' := [(4, .inl (Int32.ofNat i)), (3, .inl (Int32.ofNat (fs_la D i))), (0, .inr (.inr (.inl (some 204)))), (1, .inr (.inr (.inl (some 27)))), (2, .inl (Int32.ofNat n))]) (S' := []) (h' := h) (by with_unfolding_all rfl) ?_
    rw [if_neg (fun q => by have := (kx_ge (by omega) (by omega)).mp q; omega)]
    have hDi := hD i
    have hla := fs_lal hD i
    have hai : h 27 i = .inl (Int32.ofNat (D i)) := (hP.2.2.2.2 _ _ (by decide)).trans (ha i (by omega))
    have hml := fs_ml hC hB hla hDi
    refine kx_go 1 (pc' := 45) (L' := [(4, .inl (Int32.ofNat i)), (3, .inl (Int32.ofNat (fs_la D i))), (0, .inr (.inr (.inl (some 204)))), (1, .inr (.inr (.inl (some 27)))), (2, .inl (Int32.ofNat n))]) (S' := [.inr (.inr (.inl (some 204)))]) (h' := h) (by with_unfolding_all rfl) ?_
    refine kx_getf (c := 204) (v := .inr (.inr (.inl (some 205)))) rfl (by decide) (kx_ofr (hw _ _ _ fs_k204_3)) ?_
    refine kx_go 2 (pc' := 51) (L' := [(4, .inl (Int32.ofNat i)), (3, .inl (Int32.ofNat (fs_la D i))), (0, .inr (.inr (.inl (some 204)))), (1, .inr (.inr (.inl (some 27)))), (2, .inl (Int32.ofNat n))]) (S' := [.inr (.inr (.inl (some 204))), .inl (Int32.ofNat i), .inr (.inr (.inl (some 205)))]) (h' := h) (by with_unfolding_all rfl) ?_
    refine kx_getf (c := 204) (v := .inr (.inr (.inl (some 1)))) rfl (by decide) (kx_ofr (hw _ _ _ fs_k204_0)) ?_
    refine kx_getf (c := 1) (v := .inr (.inr (.inl (some 2)))) rfl (by decide) (kx_ofr (hw _ _ _ fs_k1_4)) ?_
    refine kx_go 1 (pc' := 58) (L' := [(4, .inl (Int32.ofNat i)), (3, .inl (Int32.ofNat (fs_la D i))), (0, .inr (.inr (.inl (some 204)))), (1, .inr (.inr (.inl (some 27)))), (2, .inl (Int32.ofNat n))]) (S' := [.inl (Int32.ofNat (fs_la D i)), .inr (.inr (.inl (some 2))), .inl (Int32.ofNat i), .inr (.inr (.inl (some 205)))]) (h' := h) (by with_unfolding_all rfl) ?_
    refine kx_aald rfl (c := 2) (j := fs_la D i) (m := 6) (t0 := 2) (v := .inr (.inr (.inl (some (1 + (2 + (fs_la D i))))))) rfl (by decide) (by decide) (by decide) (by omega) (kx_ofr (hw _ _ _ (fu_smi (fs_la D i) (by omega)).2)) ?_
    refine kx_go 2 (pc' := 62) (L' := [(4, .inl (Int32.ofNat i)), (3, .inl (Int32.ofNat (fs_la D i))), (0, .inr (.inr (.inl (some 204)))), (1, .inr (.inr (.inl (some 27)))), (2, .inl (Int32.ofNat n))]) (S' := [.inl (Int32.ofNat i), .inr (.inr (.inl (some 27))), .inr (.inr (.inl (some (1 + (2 + (fs_la D i)))))), .inl (Int32.ofNat i), .inr (.inr (.inl (some 205)))]) (h' := h) (by with_unfolding_all rfl) ?_
    refine kx_iald (c := 27) (j := i) (m := 5) (v := .inl (Int32.ofNat (D i))) rfl rfl (by decide) (by decide) (by omega) hai ?_
    refine kx_iald (c := 1 + (2 + (fs_la D i))) (j := D i) (m := 6) (v := .inl (Int32.ofNat (fa_n B (10 + 6 * fs_la D i + D i)))) rfl (fu_smi (fs_la D i) (by omega)).1.1 (fu_smi (fs_la D i) (by omega)).1.2 (by decide) (by omega) hml ?_
    refine kx_iast (c := 205) (j := i) (m := 5) rfl rfl (by decide) (by decide) (by omega) ?_
    have hw1 : kd_wt kd_ty (kc_upd h 205 i (.inl (Int32.ofNat (fa_n B (10 + 6 * fs_la D i + D i))))) := fa_wa (fs_k206.2.2.2.1 i (by omega)) hw
    refine kx_go 2 (pc' := 67) (L' := [(4, .inl (Int32.ofNat i)), (3, .inl (Int32.ofNat (fs_la D i))), (0, .inr (.inr (.inl (some 204)))), (1, .inr (.inr (.inl (some 27)))), (2, .inl (Int32.ofNat n))]) (S' := [.inr (.inr (.inl (some 204))), .inr (.inr (.inl (some 204)))]) (h' := (kc_upd h 205 i (.inl (Int32.ofNat (fa_n B (10 + 6 * fs_la D i + D i)))))) (by with_unfolding_all rfl) ?_
    refine kx_getf (c := 204) (v := .inl (Int32.ofNat (fs_far B D i))) rfl (by decide) ((fu_ne (by omega)).trans hP.2.2.1) ?_
    refine kx_go 1 (pc' := 71) (L' := [(4, .inl (Int32.ofNat i)), (3, .inl (Int32.ofNat (fs_la D i))), (0, .inr (.inr (.inl (some 204)))), (1, .inr (.inr (.inl (some 27)))), (2, .inl (Int32.ofNat n))]) (S' := [.inr (.inr (.inl (some 204))), .inl (Int32.ofNat (fs_far B D i)), .inr (.inr (.inl (some 204)))]) (h' := (kc_upd h 205 i (.inl (Int32.ofNat (fa_n B (10 + 6 * fs_la D i + D i)))))) (by with_unfolding_all rfl) ?_
    refine kx_getf (c := 204) (v := .inr (.inr (.inl (some 205)))) rfl (by decide) (kx_ofr (hw1 _ _ _ fs_k204_3)) ?_
    refine kx_go 1 (pc' := 76) (L' := [(4, .inl (Int32.ofNat i)), (3, .inl (Int32.ofNat (fs_la D i))), (0, .inr (.inr (.inl (some 204)))), (1, .inr (.inr (.inl (some 27)))), (2, .inl (Int32.ofNat n))]) (S' := [.inl (Int32.ofNat i), .inr (.inr (.inl (some 205))), .inl (Int32.ofNat (fs_far B D i)), .inr (.inr (.inl (some 204)))]) (h' := (kc_upd h 205 i (.inl (Int32.ofNat (fa_n B (10 + 6 * fs_la D i + D i)))))) (by with_unfolding_all rfl) ?_
    refine kx_iald (c := 205) (j := i) (m := 5) (v := .inl (Int32.ofNat (fa_n B (10 + 6 * fs_la D i + D i)))) rfl rfl (by decide) (by decide) (by omega) fu_eq ?_
    refine kx_go 1 (pc' := 78) (L' := [(4, .inl (Int32.ofNat i)), (3, .inl (Int32.ofNat (fs_la D i))), (0, .inr (.inr (.inl (some 204)))), (1, .inr (.inr (.inl (some 27)))), (2, .inl (Int32.ofNat n))]) (S' := [.inl ((Int32.ofNat (fs_far B D i)) + (Int32.ofNat (fa_n B (10 + 6 * fs_la D i + D i)))), .inr (.inr (.inl (some 204)))]) (h' := (kc_upd h 205 i (.inl (Int32.ofNat (fa_n B (10 + 6 * fs_la D i + D i)))))) (by with_unfolding_all rfl) ?_
    rw [kx_add]
    have hw2 : kd_wt kd_ty (kc_upd (kc_upd h 205 i (.inl (Int32.ofNat (fa_n B (10 + 6 * fs_la D i + D i))))) 204 2 (.inl (Int32.ofNat (fs_far B D i + fa_n B (10 + 6 * fs_la D i + D i))))) := fa_wa fs_k206.2.2.2.2.2.2 hw1
    refine kx_go 1 (pc' := 81) (L' := [(4, .inl (Int32.ofNat i)), (3, .inl (Int32.ofNat (fs_la D i))), (0, .inr (.inr (.inl (some 204)))), (1, .inr (.inr (.inl (some 27)))), (2, .inl (Int32.ofNat n))]) (S' := []) (h' := (kc_upd (kc_upd h 205 i (.inl (Int32.ofNat (fa_n B (10 + 6 * fs_la D i + D i))))) 204 2 (.inl (Int32.ofNat (fs_far B D i + fa_n B (10 + 6 * fs_la D i + D i)))))) (by with_unfolding_all rfl) ?_
    refine kx_go 2 (pc' := 84) (L' := [(4, .inl (Int32.ofNat i)), (3, .inl (Int32.ofNat (fs_la D i))), (0, .inr (.inr (.inl (some 204)))), (1, .inr (.inr (.inl (some 27)))), (2, .inl (Int32.ofNat n))]) (S' := [.inl (Int32.ofNat i), .inr (.inr (.inl (some 27)))]) (h' := (kc_upd (kc_upd h 205 i (.inl (Int32.ofNat (fa_n B (10 + 6 * fs_la D i + D i))))) 204 2 (.inl (Int32.ofNat (fs_far B D i + fa_n B (10 + 6 * fs_la D i + D i)))))) (by with_unfolding_all rfl) ?_
    refine kx_iald (c := 27) (j := i) (m := 5) (v := .inl (Int32.ofNat (D i))) rfl rfl (by decide) (by decide) (by omega) ((fu_ne (by omega)).trans ((fu_ne (by omega)).trans hai)) ?_
    refine kx_go 2 (pc' := 87) (L' := [(3, .inl (Int32.ofNat (D i))), (4, .inl (Int32.ofNat i)), (0, .inr (.inr (.inl (some 204)))), (1, .inr (.inr (.inl (some 27)))), (2, .inl (Int32.ofNat n))]) (S' := [.inr (.inr (.inl (some 204)))]) (h' := (kc_upd (kc_upd h 205 i (.inl (Int32.ofNat (fa_n B (10 + 6 * fs_la D i + D i))))) 204 2 (.inl (Int32.ofNat (fs_far B D i + fa_n B (10 + 6 * fs_la D i + D i)))))) (by with_unfolding_all rfl) ?_
    refine kx_getf (c := 204) (v := .inr (.inr (.inl (some 219)))) rfl (by decide) (kx_ofr (hw2 _ _ _ fs_k204_7)) ?_
    refine kx_go 4 (pc' := 95) (L' := [(3, .inl (Int32.ofNat (D i))), (4, .inl (Int32.ofNat i)), (0, .inr (.inr (.inl (some 204)))), (1, .inr (.inr (.inl (some 27)))), (2, .inl (Int32.ofNat n))]) (S' := [.inl ((Int32.ofNat i) + (Int32.ofNat 1)), .inl (Int32.ofNat (D i)), .inr (.inr (.inl (some 219)))]) (h' := (kc_upd (kc_upd h 205 i (.inl (Int32.ofNat (fa_n B (10 + 6 * fs_la D i + D i))))) 204 2 (.inl (Int32.ofNat (fs_far B D i + fa_n B (10 + 6 * fs_la D i + D i)))))) (by with_unfolding_all rfl) ?_
    rw [kx_add]
    refine kx_iast (c := 219) (j := D i) (m := 6) rfl rfl (by decide) (by decide) (by omega) ?_
    refine kx_go 2 (pc' := 35) (L' := [(4, .inl ((Int32.ofNat i) + Int32.ofInt 1)), (3, .inl (Int32.ofNat (D i))), (0, .inr (.inr (.inl (some 204)))), (1, .inr (.inr (.inl (some 27)))), (2, .inl (Int32.ofNat n))]) (S' := []) (h' := (kc_upd (kc_upd (kc_upd h 205 i (.inl (Int32.ofNat (fa_n B (10 + 6 * fs_la D i + D i))))) 204 2 (.inl (Int32.ofNat (fs_far B D i + fa_n B (10 + 6 * fs_la D i + D i))))) 219 (D i) (.inl (Int32.ofNat (i + 1))))) (by with_unfolding_all rfl) ?_
    rw [kx_inc]
    refine kf_lo (L := [(4, .inl (Int32.ofNat (i + 1))), (3, .inl (Int32.ofNat (fs_la D (i + 1)))), (0, .inr (.inr (.inl (some 204)))), (1, .inr (.inr (.inl (some 27)))), (2, .inl (Int32.ofNat n))]) (by intro q hq; simp only [List.mem_cons, List.not_mem_nil, or_false] at hq; rcases hq with rfl | rfl | rfl | rfl | rfl <;> rfl) ?_
    refine ih (i + 1) _ (by omega) (by omega) ⟨fs_w1 (v := some (i + 1)) (fs_k206.2.2.1 (D i) hDi) (fun k q => by cases q; omega) (by decide) hw2, (fu_ne (by omega)).trans ((fu_ne (by omega)).trans ((fu_ne (by omega)).trans hP.2.1)), (fu_ne (by omega)).trans fu_eq, fun p hp => ?_, fun a y ha => (fu_ne (by omega)).trans ((fu_ne (by omega)).trans ((fu_ne (by omega)).trans (hP.2.2.2.2 a y ha)))⟩
    by_cases e : D i = p
    · rw [e, fu_eq]
      unfold fs_st
      rw [if_pos e]
      rfl
    · rw [fu_ne (fun q => e q.2.symm), fu_ne (by omega), fu_ne (by omega), hP.2.2.2.1 p hp]
      show _ = Sum.inl (fs_oi (if D i = p then some (i + 1) else fs_st D p i))
      rw [if_neg e]
set_option maxRecDepth 20000 in
theorem fs_c100x27 {g : kc_G} {d : Nat} {h0 : kc_H} {B : Nat → Int32} {D : Nat → Nat} {n L : Nat} (hw0 : kd_wt kd_ty h0) (hg : kc_ok g) (hB : fu_BT B) (hC0 : fu_C B 1 h0) (hn : n ≤ 5) (hL : L ≤ 10) (eL : B 2 = Int32.ofNat L) (ha : ∀ k, k < n → h0 27 k = .inl (Int32.ofNat (D k))) (hD : ∀ j, D j < 6) : kc_Con g (d + 3) 100 [.inr (.inr (.inl (some 204))), .inr (.inr (.inl (some 27))), .inl (Int32.ofNat n)] h0 (fun rv h' => rv = none ∧ fs_P h0 B D n n h' ∧ fs_Q B D n L h') := by
  refine kc_Con_new hg (M := wk_m100) rfl rfl rfl (show 3 ≤ 6 by decide) ?_
  have hC0h := hC0
  refine kx_go 3 (pc' := 3) (L' := [(0, .inr (.inr (.inl (some 204)))), (1, .inr (.inr (.inl (some 27)))), (2, .inl (Int32.ofNat n))]) (S' := [.inr (.inr (.inl (some 27))), .inl (Int32.ofNat n), .inr (.inr (.inl (some 204)))]) (h' := h0) (by with_unfolding_all rfl) ?_
  refine kx_alen (c := 27) (m := 5) (t0 := 0) rfl rfl (by decide) ?_
  refine kc_math_ok (AS' := [.inl (if Int32.ofNat 5 < Int32.ofNat n then Int32.ofNat 5 else Int32.ofNat n), .inr (.inr (.inl (some 204)))]) rfl (by with_unfolding_all rfl) ?_
  rw [fs_min hn]
  have hw1 : kd_wt kd_ty (kc_upd h0 204 1 (.inl (Int32.ofNat n))) := fa_wn fs_k206.2.2.2.2.2.1 hn (by decide) hw0
  refine kx_go 1 (pc' := 10) (L' := [(0, .inr (.inr (.inl (some 204)))), (1, .inr (.inr (.inl (some 27)))), (2, .inl (Int32.ofNat n))]) (S' := []) (h' := (kc_upd h0 204 1 (.inl (Int32.ofNat n)))) (by with_unfolding_all rfl) ?_
  refine kx_go 2 (pc' := 12) (L' := [(0, .inr (.inr (.inl (some 204)))), (1, .inr (.inr (.inl (some 27)))), (2, .inl (Int32.ofNat n))]) (S' := [.inl (Int32.ofNat 0), .inr (.inr (.inl (some 204)))]) (h' := (kc_upd h0 204 1 (.inl (Int32.ofNat n)))) (by with_unfolding_all rfl) ?_
  have hw2 : kd_wt kd_ty (kc_upd (kc_upd h0 204 1 (.inl (Int32.ofNat n))) 204 2 (.inl (Int32.ofNat 0))) := fa_wa fs_k206.2.2.2.2.2.2 hw1
  refine kx_go 1 (pc' := 15) (L' := [(0, .inr (.inr (.inl (some 204)))), (1, .inr (.inr (.inl (some 27)))), (2, .inl (Int32.ofNat n))]) (S' := []) (h' := (kc_upd (kc_upd h0 204 1 (.inl (Int32.ofNat n))) 204 2 (.inl (Int32.ofNat 0)))) (by with_unfolding_all rfl) ?_
  refine kx_go 1 (pc' := 16) (L' := [(0, .inr (.inr (.inl (some 204)))), (1, .inr (.inr (.inl (some 27)))), (2, .inl (Int32.ofNat n))]) (S' := [.inr (.inr (.inl (some 204)))]) (h' := (kc_upd (kc_upd h0 204 1 (.inl (Int32.ofNat n))) 204 2 (.inl (Int32.ofNat 0)))) (by with_unfolding_all rfl) ?_
  refine kx_getf (c := 204) (v := .inr (.inr (.inl (some 219)))) rfl (by decide) (kx_ofr (hw2 _ _ _ fs_k204_7)) ?_
  refine kx_go 1 (pc' := 20) (L' := [(0, .inr (.inr (.inl (some 204)))), (1, .inr (.inr (.inl (some 27)))), (2, .inl (Int32.ofNat n))]) (S' := [.inl (Int32.ofInt (-1)), .inr (.inr (.inl (some 219)))]) (h' := (kc_upd (kc_upd h0 204 1 (.inl (Int32.ofNat n))) 204 2 (.inl (Int32.ofNat 0)))) (by with_unfolding_all rfl) ?_
  refine kc_call_rule (M2 := wk_m3) (av := [.inr (.inr (.inl (some 219))), .inl (Int32.ofInt (-1))]) (r := []) rfl rfl (kc_Con_le (fs_fill (d := 0) (c := 219) (m := 6) (v := Int32.ofInt (-1)) hg rfl (by decide) (by decide)) (by omega)) (fun rv h2 hq => ?_)
  obtain ⟨rfl, eh⟩ := hq
  show kc_Ev g (d + 2) wk_m100 _ 23 [(0, .inr (.inr (.inl (some 204)))), (1, .inr (.inr (.inl (some 27)))), (2, .inl (Int32.ofNat n))] [] h2
  have nb : kd_nb (Int32.ofInt (-1)) = 2147483647 := by decide
  have hw3 : kd_wt kd_ty h2 := by rw [eh]; exact fs_fl_wt hw2 (fun j hj => ⟨_, _, fs_k206.2.2.1 j hj, by rw [nb]; exact Nat.le_refl _, by rw [nb]; decide⟩)
  have e1 : h2 204 1 = .inl (Int32.ofNat n) := by rw [eh, fs_fl_o (by decide), fu_ne (by decide), fu_eq]
  have e2 : h2 204 2 = .inl (Int32.ofNat 0) := by rw [eh, fs_fl_o (by decide), fu_eq]
  have e3 : ∀ p, p < 6 → h2 219 p = .inl (Int32.ofInt (-1)) := fun p hp => by rw [eh, fs_fl_i hp]
  have e4 : ∀ a x, ¬ (204 ≤ a ∧ a ≤ 219) → h2 a x = h0 a x := fun a y q => by rw [eh, fs_fl_o (by omega), fu_ne (by omega), fu_ne (by omega)]
  refine kx_go 1 (pc' := 24) (L' := [(0, .inr (.inr (.inl (some 204)))), (1, .inr (.inr (.inl (some 27)))), (2, .inl (Int32.ofNat n))]) (S' := [.inr (.inr (.inl (some 204)))]) (h' := h2) (by with_unfolding_all rfl) ?_
  refine kx_getf (c := 204) (v := .inr (.inr (.inl (some 219)))) rfl (by decide) (kx_ofr (hw3 _ _ _ fs_k204_7)) ?_
  refine kx_go 2 (pc' := 29) (L' := [(0, .inr (.inr (.inl (some 204)))), (1, .inr (.inr (.inl (some 27)))), (2, .inl (Int32.ofNat n))]) (S' := [.inl (Int32.ofNat 0), .inl (Int32.ofNat 0), .inr (.inr (.inl (some 219)))]) (h' := h2) (by with_unfolding_all rfl) ?_
  refine kx_iast (c := 219) (j := 0) (m := 6) rfl rfl (by decide) (by decide) (by omega) ?_
  refine kx_go 4 (pc' := 35) (L' := [(4, .inl (Int32.ofNat 0)), (3, .inl (Int32.ofNat 0)), (0, .inr (.inr (.inl (some 204)))), (1, .inr (.inr (.inl (some 27)))), (2, .inl (Int32.ofNat n))]) (S' := []) (h' := (kc_upd h2 219 0 (.inl (Int32.ofNat 0)))) (by with_unfolding_all rfl) ?_
  refine kf_lo (L := [(4, .inl (Int32.ofNat 0)), (3, .inl (Int32.ofNat (fs_la D 0))), (0, .inr (.inr (.inl (some 204)))), (1, .inr (.inr (.inl (some 27)))), (2, .inl (Int32.ofNat n))]) (by intro q hq; simp only [List.mem_cons, List.not_mem_nil, or_false] at hq; rcases hq with rfl | rfl | rfl | rfl | rfl <;> rfl) ?_
  refine fs_c100a27 hg hB hC0 hn hL eL ha hD n 0 _ (by omega) (by omega) ⟨fs_w1 (v := some 0) (fs_k206.2.2.1 0 (by decide)) (fun k q => by cases q; omega) (by decide) hw3, (fu_ne (by omega)).trans e1, (fu_ne (by omega)).trans e2, fun p hp => ?_, fun a y q => (fu_ne (by omega)).trans (e4 a y q)⟩
  unfold fs_st
  by_cases e : p = 0
  · rw [e, fu_eq, if_pos rfl]
    rfl
  · rw [fu_ne (fun q => e q.2), e3 p hp, if_neg e]
    rfl
set_option maxRecDepth 20000 in
theorem fs_c100a252 {g : kc_G} {d : Nat} {h0 : kc_H} {B : Nat → Int32} {D : Nat → Nat} {n L : Nat} (hg : kc_ok g) (hB : fu_BT B) (hC0 : fu_C B 1 h0) (hn : n ≤ 5) (hL : L ≤ 10) (eL : B 2 = Int32.ofNat L) (ha : ∀ k, k < n → h0 252 k = .inl (Int32.ofNat (D k))) (hD : ∀ j, D j < 6) : ∀ (u i : Nat) (h : kc_H), n - i = u → i ≤ n → fs_P h0 B D n i h → kc_Ev g (d + 2) wk_m100 (fun rv h' => rv = none ∧ fs_P h0 B D n n h' ∧ fs_Q B D n L h') 35 [(4, .inl (Int32.ofNat i)), (3, .inl (Int32.ofNat (fs_la D i))), (0, .inr (.inr (.inl (some 204)))), (1, .inr (.inr (.inl (some 252)))), (2, .inl (Int32.ofNat n))] [] h := by
  intro u
  induction u with
  | zero =>
    intro i h hu hi hP
    have hw := hP.1
    have hC := fs_C_f (h' := h) (fun a y q => hP.2.2.2.2 a y (by omega)) hC0
    refine kx_go 2 (pc' := 38) (L' := [(4, .inl (Int32.ofNat i)), (3, .inl (Int32.ofNat (fs_la D i))), (0, .inr (.inr (.inl (some 204)))), (1, .inr (.inr (.inl (some 252)))), (2, .inl (Int32.ofNat n))]) (S' := [.inr (.inr (.inl (some 204))), .inl (Int32.ofNat i)]) (h' := h) (by with_unfolding_all rfl) ?_
    refine kx_getf (c := 204) (v := .inl (Int32.ofNat n)) rfl (by decide) hP.2.1 ?_
    refine kx_go 1 (pc' := (if kc_cnd .ge (Int32.ofNat i).toInt (Int32.ofNat n).toInt then 102 else 44)) (L' := [(4, .inl (Int32.ofNat i)), (3, .inl (Int32.ofNat (fs_la D i))), (0, .inr (.inr (.inl (some 204)))), (1, .inr (.inr (.inl (some 252)))), (2, .inl (Int32.ofNat n))]) (S' := []) (h' := h) (by with_unfolding_all rfl) ?_
    rw [if_pos ((kx_ge (by omega) (by omega)).mpr (by omega))]
    have ei : i = n := by omega
    rw [ei] at hP
    refine kx_go 2 (pc' := 105) (L' := [(4, .inl (Int32.ofNat 0)), (3, .inl (Int32.ofNat (fs_la D i))), (0, .inr (.inr (.inl (some 204)))), (1, .inr (.inr (.inl (some 252)))), (2, .inl (Int32.ofNat n))]) (S' := []) (h' := h) (by with_unfolding_all rfl) ?_
    refine kf_lo (L := [(4, .inl (Int32.ofNat 0)), (0, .inr (.inr (.inl (some 204))))]) (by intro q hq; simp only [List.mem_cons, List.not_mem_nil, or_false] at hq; rcases hq with rfl | rfl <;> rfl) ?_
    exact fs_c100b hg hB hC0 hn hL eL L 0 h (by omega) (by omega) hP ⟨fun j hj => by omega, fun j hj => by omega, fun j hj => by omega⟩
  | succ u ih =>
    intro i h hu hi hP
    have hw := hP.1
    have hC := fs_C_f (h' := h) (fun a y q => hP.2.2.2.2 a y (by omega)) hC0
    refine kx_go 2 (pc' := 38) (L' := [(4, .inl (Int32.ofNat i)), (3, .inl (Int32.ofNat (fs_la D i))), (0, .inr (.inr (.inl (some 204)))), (1, .inr (.inr (.inl (some 252)))), (2, .inl (Int32.ofNat n))]) (S' := [.inr (.inr (.inl (some 204))), .inl (Int32.ofNat i)]) (h' := h) (by with_unfolding_all rfl) ?_
    refine kx_getf (c := 204) (v := .inl (Int32.ofNat n)) rfl (by decide) hP.2.1 ?_
    refine kx_go 1 (pc' := (if kc_cnd .ge (Int32.ofNat i).toInt (Int32.ofNat n).toInt then 102 else 44)) (L' := [(4, .inl (Int32.ofNat i)), (3, .inl (Int32.ofNat (fs_la D i))), (0, .inr (.inr (.inl (some 204)))), (1, .inr (.inr (.inl (some 252)))), (2, .inl (Int32.ofNat n))]) (S' := []) (h' := h) (by with_unfolding_all rfl) ?_
    rw [if_neg (fun q => by have := (kx_ge (by omega) (by omega)).mp q; omega)]
    have hDi := hD i
    have hla := fs_lal hD i
    have hai : h 252 i = .inl (Int32.ofNat (D i)) := (hP.2.2.2.2 _ _ (by decide)).trans (ha i (by omega))
    have hml := fs_ml hC hB hla hDi
    refine kx_go 1 (pc' := 45) (L' := [(4, .inl (Int32.ofNat i)), (3, .inl (Int32.ofNat (fs_la D i))), (0, .inr (.inr (.inl (some 204)))), (1, .inr (.inr (.inl (some 252)))), (2, .inl (Int32.ofNat n))]) (S' := [.inr (.inr (.inl (some 204)))]) (h' := h) (by with_unfolding_all rfl) ?_
    refine kx_getf (c := 204) (v := .inr (.inr (.inl (some 205)))) rfl (by decide) (kx_ofr (hw _ _ _ fs_k204_3)) ?_
    refine kx_go 2 (pc' := 51) (L' := [(4, .inl (Int32.ofNat i)), (3, .inl (Int32.ofNat (fs_la D i))), (0, .inr (.inr (.inl (some 204)))), (1, .inr (.inr (.inl (some 252)))), (2, .inl (Int32.ofNat n))]) (S' := [.inr (.inr (.inl (some 204))), .inl (Int32.ofNat i), .inr (.inr (.inl (some 205)))]) (h' := h) (by with_unfolding_all rfl) ?_
    refine kx_getf (c := 204) (v := .inr (.inr (.inl (some 1)))) rfl (by decide) (kx_ofr (hw _ _ _ fs_k204_0)) ?_
    refine kx_getf (c := 1) (v := .inr (.inr (.inl (some 2)))) rfl (by decide) (kx_ofr (hw _ _ _ fs_k1_4)) ?_
    refine kx_go 1 (pc' := 58) (L' := [(4, .inl (Int32.ofNat i)), (3, .inl (Int32.ofNat (fs_la D i))), (0, .inr (.inr (.inl (some 204)))), (1, .inr (.inr (.inl (some 252)))), (2, .inl (Int32.ofNat n))]) (S' := [.inl (Int32.ofNat (fs_la D i)), .inr (.inr (.inl (some 2))), .inl (Int32.ofNat i), .inr (.inr (.inl (some 205)))]) (h' := h) (by with_unfolding_all rfl) ?_
    refine kx_aald rfl (c := 2) (j := fs_la D i) (m := 6) (t0 := 2) (v := .inr (.inr (.inl (some (1 + (2 + (fs_la D i))))))) rfl (by decide) (by decide) (by decide) (by omega) (kx_ofr (hw _ _ _ (fu_smi (fs_la D i) (by omega)).2)) ?_
    refine kx_go 2 (pc' := 62) (L' := [(4, .inl (Int32.ofNat i)), (3, .inl (Int32.ofNat (fs_la D i))), (0, .inr (.inr (.inl (some 204)))), (1, .inr (.inr (.inl (some 252)))), (2, .inl (Int32.ofNat n))]) (S' := [.inl (Int32.ofNat i), .inr (.inr (.inl (some 252))), .inr (.inr (.inl (some (1 + (2 + (fs_la D i)))))), .inl (Int32.ofNat i), .inr (.inr (.inl (some 205)))]) (h' := h) (by with_unfolding_all rfl) ?_
    refine kx_iald (c := 252) (j := i) (m := 5) (v := .inl (Int32.ofNat (D i))) rfl rfl (by decide) (by decide) (by omega) hai ?_
    refine kx_iald (c := 1 + (2 + (fs_la D i))) (j := D i) (m := 6) (v := .inl (Int32.ofNat (fa_n B (10 + 6 * fs_la D i + D i)))) rfl (fu_smi (fs_la D i) (by omega)).1.1 (fu_smi (fs_la D i) (by omega)).1.2 (by decide) (by omega) hml ?_
    refine kx_iast (c := 205) (j := i) (m := 5) rfl rfl (by decide) (by decide) (by omega) ?_
    have hw1 : kd_wt kd_ty (kc_upd h 205 i (.inl (Int32.ofNat (fa_n B (10 + 6 * fs_la D i + D i))))) := fa_wa (fs_k206.2.2.2.1 i (by omega)) hw
    refine kx_go 2 (pc' := 67) (L' := [(4, .inl (Int32.ofNat i)), (3, .inl (Int32.ofNat (fs_la D i))), (0, .inr (.inr (.inl (some 204)))), (1, .inr (.inr (.inl (some 252)))), (2, .inl (Int32.ofNat n))]) (S' := [.inr (.inr (.inl (some 204))), .inr (.inr (.inl (some 204)))]) (h' := (kc_upd h 205 i (.inl (Int32.ofNat (fa_n B (10 + 6 * fs_la D i + D i)))))) (by with_unfolding_all rfl) ?_
    refine kx_getf (c := 204) (v := .inl (Int32.ofNat (fs_far B D i))) rfl (by decide) ((fu_ne (by omega)).trans hP.2.2.1) ?_
    refine kx_go 1 (pc' := 71) (L' := [(4, .inl (Int32.ofNat i)), (3, .inl (Int32.ofNat (fs_la D i))), (0, .inr (.inr (.inl (some 204)))), (1, .inr (.inr (.inl (some 252)))), (2, .inl (Int32.ofNat n))]) (S' := [.inr (.inr (.inl (some 204))), .inl (Int32.ofNat (fs_far B D i)), .inr (.inr (.inl (some 204)))]) (h' := (kc_upd h 205 i (.inl (Int32.ofNat (fa_n B (10 + 6 * fs_la D i + D i)))))) (by with_unfolding_all rfl) ?_
    refine kx_getf (c := 204) (v := .inr (.inr (.inl (some 205)))) rfl (by decide) (kx_ofr (hw1 _ _ _ fs_k204_3)) ?_
    refine kx_go 1 (pc' := 76) (L' := [(4, .inl (Int32.ofNat i)), (3, .inl (Int32.ofNat (fs_la D i))), (0, .inr (.inr (.inl (some 204)))), (1, .inr (.inr (.inl (some 252)))), (2, .inl (Int32.ofNat n))]) (S' := [.inl (Int32.ofNat i), .inr (.inr (.inl (some 205))), .inl (Int32.ofNat (fs_far B D i)), .inr (.inr (.inl (some 204)))]) (h' := (kc_upd h 205 i (.inl (Int32.ofNat (fa_n B (10 + 6 * fs_la D i + D i)))))) (by with_unfolding_all rfl) ?_
    refine kx_iald (c := 205) (j := i) (m := 5) (v := .inl (Int32.ofNat (fa_n B (10 + 6 * fs_la D i + D i)))) rfl rfl (by decide) (by decide) (by omega) fu_eq ?_
    refine kx_go 1 (pc' := 78) (L' := [(4, .inl (Int32.ofNat i)), (3, .inl (Int32.ofNat (fs_la D i))), (0, .inr (.inr (.inl (some 204)))), (1, .inr (.inr (.inl (some 252)))), (2, .inl (Int32.ofNat n))]) (S' := [.inl ((Int32.ofNat (fs_far B D i)) + (Int32.ofNat (fa_n B (10 + 6 * fs_la D i + D i)))), .inr (.inr (.inl (some 204)))]) (h' := (kc_upd h 205 i (.inl (Int32.ofNat (fa_n B (10 + 6 * fs_la D i + D i)))))) (by with_unfolding_all rfl) ?_
    rw [kx_add]
    have hw2 : kd_wt kd_ty (kc_upd (kc_upd h 205 i (.inl (Int32.ofNat (fa_n B (10 + 6 * fs_la D i + D i))))) 204 2 (.inl (Int32.ofNat (fs_far B D i + fa_n B (10 + 6 * fs_la D i + D i))))) := fa_wa fs_k206.2.2.2.2.2.2 hw1
    refine kx_go 1 (pc' := 81) (L' := [(4, .inl (Int32.ofNat i)), (3, .inl (Int32.ofNat (fs_la D i))), (0, .inr (.inr (.inl (some 204)))), (1, .inr (.inr (.inl (some 252)))), (2, .inl (Int32.ofNat n))]) (S' := []) (h' := (kc_upd (kc_upd h 205 i (.inl (Int32.ofNat (fa_n B (10 + 6 * fs_la D i + D i))))) 204 2 (.inl (Int32.ofNat (fs_far B D i + fa_n B (10 + 6 * fs_la D i + D i)))))) (by with_unfolding_all rfl) ?_
    refine kx_go 2 (pc' := 84) (L' := [(4, .inl (Int32.ofNat i)), (3, .inl (Int32.ofNat (fs_la D i))), (0, .inr (.inr (.inl (some 204)))), (1, .inr (.inr (.inl (some 252)))), (2, .inl (Int32.ofNat n))]) (S' := [.inl (Int32.ofNat i), .inr (.inr (.inl (some 252)))]) (h' := (kc_upd (kc_upd h 205 i (.inl (Int32.ofNat (fa_n B (10 + 6 * fs_la D i + D i))))) 204 2 (.inl (Int32.ofNat (fs_far B D i + fa_n B (10 + 6 * fs_la D i + D i)))))) (by with_unfolding_all rfl) ?_
    refine kx_iald (c := 252) (j := i) (m := 5) (v := .inl (Int32.ofNat (D i))) rfl rfl (by decide) (by decide) (by omega) ((fu_ne (by omega)).trans ((fu_ne (by omega)).trans hai)) ?_
    refine kx_go 2 (pc' := 87) (L' := [(3, .inl (Int32.ofNat (D i))), (4, .inl (Int32.ofNat i)), (0, .inr (.inr (.inl (some 204)))), (1, .inr (.inr (.inl (some 252)))), (2, .inl (Int32.ofNat n))]) (S' := [.inr (.inr (.inl (some 204)))]) (h' := (kc_upd (kc_upd h 205 i (.inl (Int32.ofNat (fa_n B (10 + 6 * fs_la D i + D i))))) 204 2 (.inl (Int32.ofNat (fs_far B D i + fa_n B (10 + 6 * fs_la D i + D i)))))) (by with_unfolding_all rfl) ?_
    refine kx_getf (c := 204) (v := .inr (.inr (.inl (some 219)))) rfl (by decide) (kx_ofr (hw2 _ _ _ fs_k204_7)) ?_
    refine kx_go 4 (pc' := 95) (L' := [(3, .inl (Int32.ofNat (D i))), (4, .inl (Int32.ofNat i)), (0, .inr (.inr (.inl (some 204)))), (1, .inr (.inr (.inl (some 252)))), (2, .inl (Int32.ofNat n))]) (S' := [.inl ((Int32.ofNat i) + (Int32.ofNat 1)), .inl (Int32.ofNat (D i)), .inr (.inr (.inl (some 219)))]) (h' := (kc_upd (kc_upd h 205 i (.inl (Int32.ofNat (fa_n B (10 + 6 * fs_la D i + D i))))) 204 2 (.inl (Int32.ofNat (fs_far B D i + fa_n B (10 + 6 * fs_la D i + D i)))))) (by with_unfolding_all rfl) ?_
    rw [kx_add]
    refine kx_iast (c := 219) (j := D i) (m := 6) rfl rfl (by decide) (by decide) (by omega) ?_
    refine kx_go 2 (pc' := 35) (L' := [(4, .inl ((Int32.ofNat i) + Int32.ofInt 1)), (3, .inl (Int32.ofNat (D i))), (0, .inr (.inr (.inl (some 204)))), (1, .inr (.inr (.inl (some 252)))), (2, .inl (Int32.ofNat n))]) (S' := []) (h' := (kc_upd (kc_upd (kc_upd h 205 i (.inl (Int32.ofNat (fa_n B (10 + 6 * fs_la D i + D i))))) 204 2 (.inl (Int32.ofNat (fs_far B D i + fa_n B (10 + 6 * fs_la D i + D i))))) 219 (D i) (.inl (Int32.ofNat (i + 1))))) (by with_unfolding_all rfl) ?_
    rw [kx_inc]
    refine kf_lo (L := [(4, .inl (Int32.ofNat (i + 1))), (3, .inl (Int32.ofNat (fs_la D (i + 1)))), (0, .inr (.inr (.inl (some 204)))), (1, .inr (.inr (.inl (some 252)))), (2, .inl (Int32.ofNat n))]) (by intro q hq; simp only [List.mem_cons, List.not_mem_nil, or_false] at hq; rcases hq with rfl | rfl | rfl | rfl | rfl <;> rfl) ?_
    refine ih (i + 1) _ (by omega) (by omega) ⟨fs_w1 (v := some (i + 1)) (fs_k206.2.2.1 (D i) hDi) (fun k q => by cases q; omega) (by decide) hw2, (fu_ne (by omega)).trans ((fu_ne (by omega)).trans ((fu_ne (by omega)).trans hP.2.1)), (fu_ne (by omega)).trans fu_eq, fun p hp => ?_, fun a y ha => (fu_ne (by omega)).trans ((fu_ne (by omega)).trans ((fu_ne (by omega)).trans (hP.2.2.2.2 a y ha)))⟩
    by_cases e : D i = p
    · rw [e, fu_eq]
      unfold fs_st
      rw [if_pos e]
      rfl
    · rw [fu_ne (fun q => e q.2.symm), fu_ne (by omega), fu_ne (by omega), hP.2.2.2.1 p hp]
      show _ = Sum.inl (fs_oi (if D i = p then some (i + 1) else fs_st D p i))
      rw [if_neg e]
set_option maxRecDepth 20000 in
theorem fs_c100x252 {g : kc_G} {d : Nat} {h0 : kc_H} {B : Nat → Int32} {D : Nat → Nat} {n L : Nat} (hw0 : kd_wt kd_ty h0) (hg : kc_ok g) (hB : fu_BT B) (hC0 : fu_C B 1 h0) (hn : n ≤ 5) (hL : L ≤ 10) (eL : B 2 = Int32.ofNat L) (ha : ∀ k, k < n → h0 252 k = .inl (Int32.ofNat (D k))) (hD : ∀ j, D j < 6) : kc_Con g (d + 3) 100 [.inr (.inr (.inl (some 204))), .inr (.inr (.inl (some 252))), .inl (Int32.ofNat n)] h0 (fun rv h' => rv = none ∧ fs_P h0 B D n n h' ∧ fs_Q B D n L h') := by
  refine kc_Con_new hg (M := wk_m100) rfl rfl rfl (show 3 ≤ 6 by decide) ?_
  have hC0h := hC0
  refine kx_go 3 (pc' := 3) (L' := [(0, .inr (.inr (.inl (some 204)))), (1, .inr (.inr (.inl (some 252)))), (2, .inl (Int32.ofNat n))]) (S' := [.inr (.inr (.inl (some 252))), .inl (Int32.ofNat n), .inr (.inr (.inl (some 204)))]) (h' := h0) (by with_unfolding_all rfl) ?_
  refine kx_alen (c := 252) (m := 5) (t0 := 0) rfl rfl (by decide) ?_
  refine kc_math_ok (AS' := [.inl (if Int32.ofNat 5 < Int32.ofNat n then Int32.ofNat 5 else Int32.ofNat n), .inr (.inr (.inl (some 204)))]) rfl (by with_unfolding_all rfl) ?_
  rw [fs_min hn]
  have hw1 : kd_wt kd_ty (kc_upd h0 204 1 (.inl (Int32.ofNat n))) := fa_wn fs_k206.2.2.2.2.2.1 hn (by decide) hw0
  refine kx_go 1 (pc' := 10) (L' := [(0, .inr (.inr (.inl (some 204)))), (1, .inr (.inr (.inl (some 252)))), (2, .inl (Int32.ofNat n))]) (S' := []) (h' := (kc_upd h0 204 1 (.inl (Int32.ofNat n)))) (by with_unfolding_all rfl) ?_
  refine kx_go 2 (pc' := 12) (L' := [(0, .inr (.inr (.inl (some 204)))), (1, .inr (.inr (.inl (some 252)))), (2, .inl (Int32.ofNat n))]) (S' := [.inl (Int32.ofNat 0), .inr (.inr (.inl (some 204)))]) (h' := (kc_upd h0 204 1 (.inl (Int32.ofNat n)))) (by with_unfolding_all rfl) ?_
  have hw2 : kd_wt kd_ty (kc_upd (kc_upd h0 204 1 (.inl (Int32.ofNat n))) 204 2 (.inl (Int32.ofNat 0))) := fa_wa fs_k206.2.2.2.2.2.2 hw1
  refine kx_go 1 (pc' := 15) (L' := [(0, .inr (.inr (.inl (some 204)))), (1, .inr (.inr (.inl (some 252)))), (2, .inl (Int32.ofNat n))]) (S' := []) (h' := (kc_upd (kc_upd h0 204 1 (.inl (Int32.ofNat n))) 204 2 (.inl (Int32.ofNat 0)))) (by with_unfolding_all rfl) ?_
  refine kx_go 1 (pc' := 16) (L' := [(0, .inr (.inr (.inl (some 204)))), (1, .inr (.inr (.inl (some 252)))), (2, .inl (Int32.ofNat n))]) (S' := [.inr (.inr (.inl (some 204)))]) (h' := (kc_upd (kc_upd h0 204 1 (.inl (Int32.ofNat n))) 204 2 (.inl (Int32.ofNat 0)))) (by with_unfolding_all rfl) ?_
  refine kx_getf (c := 204) (v := .inr (.inr (.inl (some 219)))) rfl (by decide) (kx_ofr (hw2 _ _ _ fs_k204_7)) ?_
  refine kx_go 1 (pc' := 20) (L' := [(0, .inr (.inr (.inl (some 204)))), (1, .inr (.inr (.inl (some 252)))), (2, .inl (Int32.ofNat n))]) (S' := [.inl (Int32.ofInt (-1)), .inr (.inr (.inl (some 219)))]) (h' := (kc_upd (kc_upd h0 204 1 (.inl (Int32.ofNat n))) 204 2 (.inl (Int32.ofNat 0)))) (by with_unfolding_all rfl) ?_
  refine kc_call_rule (M2 := wk_m3) (av := [.inr (.inr (.inl (some 219))), .inl (Int32.ofInt (-1))]) (r := []) rfl rfl (kc_Con_le (fs_fill (d := 0) (c := 219) (m := 6) (v := Int32.ofInt (-1)) hg rfl (by decide) (by decide)) (by omega)) (fun rv h2 hq => ?_)
  obtain ⟨rfl, eh⟩ := hq
  show kc_Ev g (d + 2) wk_m100 _ 23 [(0, .inr (.inr (.inl (some 204)))), (1, .inr (.inr (.inl (some 252)))), (2, .inl (Int32.ofNat n))] [] h2
  have nb : kd_nb (Int32.ofInt (-1)) = 2147483647 := by decide
  have hw3 : kd_wt kd_ty h2 := by rw [eh]; exact fs_fl_wt hw2 (fun j hj => ⟨_, _, fs_k206.2.2.1 j hj, by rw [nb]; exact Nat.le_refl _, by rw [nb]; decide⟩)
  have e1 : h2 204 1 = .inl (Int32.ofNat n) := by rw [eh, fs_fl_o (by decide), fu_ne (by decide), fu_eq]
  have e2 : h2 204 2 = .inl (Int32.ofNat 0) := by rw [eh, fs_fl_o (by decide), fu_eq]
  have e3 : ∀ p, p < 6 → h2 219 p = .inl (Int32.ofInt (-1)) := fun p hp => by rw [eh, fs_fl_i hp]
  have e4 : ∀ a x, ¬ (204 ≤ a ∧ a ≤ 219) → h2 a x = h0 a x := fun a y q => by rw [eh, fs_fl_o (by omega), fu_ne (by omega), fu_ne (by omega)]
  refine kx_go 1 (pc' := 24) (L' := [(0, .inr (.inr (.inl (some 204)))), (1, .inr (.inr (.inl (some 252)))), (2, .inl (Int32.ofNat n))]) (S' := [.inr (.inr (.inl (some 204)))]) (h' := h2) (by with_unfolding_all rfl) ?_
  refine kx_getf (c := 204) (v := .inr (.inr (.inl (some 219)))) rfl (by decide) (kx_ofr (hw3 _ _ _ fs_k204_7)) ?_
  refine kx_go 2 (pc' := 29) (L' := [(0, .inr (.inr (.inl (some 204)))), (1, .inr (.inr (.inl (some 252)))), (2, .inl (Int32.ofNat n))]) (S' := [.inl (Int32.ofNat 0), .inl (Int32.ofNat 0), .inr (.inr (.inl (some 219)))]) (h' := h2) (by with_unfolding_all rfl) ?_
  refine kx_iast (c := 219) (j := 0) (m := 6) rfl rfl (by decide) (by decide) (by omega) ?_
  refine kx_go 4 (pc' := 35) (L' := [(4, .inl (Int32.ofNat 0)), (3, .inl (Int32.ofNat 0)), (0, .inr (.inr (.inl (some 204)))), (1, .inr (.inr (.inl (some 252)))), (2, .inl (Int32.ofNat n))]) (S' := []) (h' := (kc_upd h2 219 0 (.inl (Int32.ofNat 0)))) (by with_unfolding_all rfl) ?_
  refine kf_lo (L := [(4, .inl (Int32.ofNat 0)), (3, .inl (Int32.ofNat (fs_la D 0))), (0, .inr (.inr (.inl (some 204)))), (1, .inr (.inr (.inl (some 252)))), (2, .inl (Int32.ofNat n))]) (by intro q hq; simp only [List.mem_cons, List.not_mem_nil, or_false] at hq; rcases hq with rfl | rfl | rfl | rfl | rfl <;> rfl) ?_
  refine fs_c100a252 hg hB hC0 hn hL eL ha hD n 0 _ (by omega) (by omega) ⟨fs_w1 (v := some 0) (fs_k206.2.2.1 0 (by decide)) (fun k q => by cases q; omega) (by decide) hw3, (fu_ne (by omega)).trans e1, (fu_ne (by omega)).trans e2, fun p hp => ?_, fun a y q => (fu_ne (by omega)).trans (e4 a y q)⟩
  unfold fs_st
  by_cases e : p = 0
  · rw [e, fu_eq, if_pos rfl]
    rfl
  · rw [fu_ne (fun q => e q.2), e3 p hp, if_neg e]
    rfl
end
section
-- 99.zq7
/-! ===== the search, class: STAYS ===== -/
def fs_hn (M : Nat) : Nat → Nat
  | 0 => 1
  | k + 1 => if 5000 < fs_hn M k then fs_hn M k else fs_hn M k * (2 * M)
theorem fs_hn_b {M : Nat} (hM : M ≤ 3) : ∀ k, fs_hn M k ≤ 30000
  | 0 => (by decide : 1 ≤ 30000)
  | k + 1 => by
    show (if 5000 < fs_hn M k then fs_hn M k else fs_hn M k * (2 * M)) ≤ 30000
    by_cases e : 5000 < fs_hn M k
    · rw [if_pos e]; exact fs_hn_b hM k
    · rw [if_neg e]
      have := Nat.mul_le_mul (show fs_hn M k ≤ 5000 by omega) (show 2 * M ≤ 6 by omega)
      omega
theorem fs_hn_st {M k : Nat} (h : 5000 < fs_hn M k) : ∀ j, fs_hn M (k + j) = fs_hn M k
  | 0 => rfl
  | j + 1 => by
    show (if 5000 < fs_hn M (k + j) then fs_hn M (k + j) else fs_hn M (k + j) * (2 * M)) = _
    rw [fs_hn_st h j, if_pos h]
theorem fs_hn_pow {M : Nat} : ∀ k, fs_hn M k ≤ 5000 → fs_hn M k = (2 * M) ^ k
  | 0, _ => rfl
  | k + 1, h => by
    have e : fs_hn M (k + 1) = if 5000 < fs_hn M k then fs_hn M k else fs_hn M k * (2 * M) := rfl
    rw [e] at h ⊢
    by_cases c : 5000 < fs_hn M k
    · rw [if_pos c] at h; omega
    · rw [if_neg c, fs_hn_pow k (by omega), Nat.pow_succ]
def fs_D (B : Nat → Int32) (n : Nat) (k : Nat) : Nat := if k < n then fa_n B (150 + k) else 0
theorem fs_Dl {B : Nat → Int32} (hB : fu_BT B) {n : Nat} (hn : n ≤ 5) (k : Nat) : fs_D B n k < 6 := by
  unfold fs_D
  by_cases e : k < n
  · rw [if_pos e]
    obtain ⟨v, v1, v2⟩ := fu_nat (by decide) (fu_fli k (by omega)).2.2 (hB (150 + k) (by omega) (fu_fli k (by omega)).2.1)
    unfold fa_n
    rw [v2, kx_ti (by omega), Int.toNat_natCast]
    omega
  · rw [if_neg e]; exact Nat.zero_lt_succ _
theorem fs_Dv {B : Nat → Int32} (hB : fu_BT B) {n : Nat} (hn : n ≤ 5) {k : Nat} (hk : k < n) : B (150 + k) = Int32.ofNat (fs_D B n k) := by
  unfold fs_D
  rw [if_pos hk]
  obtain ⟨v, v1, v2⟩ := fu_nat (by decide) (fu_fli k (by omega)).2.2 (hB (150 + k) (by omega) (fu_fli k (by omega)).2.1)
  unfold fa_n
  rw [v2, kx_ti (by omega), Int.toNat_natCast]
def fs_bor (B : Nat → Int32) (D : Nat → Nat) (n L M : Nat) : (Nat → Nat) → Bool := ms_bor (ms_v (fun l i => fa_w B l i) (fs_O (fs_F B D n) (fs_E B D n))) (ms_v (fun _ _ => 1) (fs_O (fs_F B D n) (fs_E B D n))) (fs_cap B) (fs_most B) L M n
def fs_wo (B : Nat → Int32) (D : Nat → Nat) (n L M : Nat) : (Nat → Nat) → Nat := ms_wo (ms_v (fun l i => fa_w B l i) (fs_O (fs_F B D n) (fs_E B D n))) L M n
/-- STAYS below a limit: the least WORST, and the first row -/
def fs_T (B : Nat → Int32) (D : Nat → Nat) (n L M v : Nat) (f : Nat → Nat) : ms_S := ms_tree (2 * M) (ms_J (fs_bor B D n L M) (fs_wo B D n L M)) L 0 (fun _ => 0) (v, f)
theorem fs_T_c {B : Nat → Int32} {D : Nat → Nat} {n L M v : Nat} {f : Nat → Nat} : fs_sk B (fs_F B D n) (fs_E B D n) (fun l i => fa_w B l i) L M n L 0 (fun _ => 0) (v, f) = fs_T B D n L M v f := ms_stays (fun k m _ _ h => fs_al_ok h) (fun c s => rfl) (v, f) (fun _ => 0)
/-- what was found at first is of no account -/
theorem ms_tree_2 {Q : Nat} {J : (Nat → Nat) → ms_S → ms_S} {s t : ms_S} (hJ : ∀ c, J c s = J c t ∨ (J c s = s ∧ J c t = t)) : ∀ (k l : Nat) (c : Nat → Nat) (a b : ms_S), (a = b ∨ (a = s ∧ b = t)) → (ms_tree Q J k l c a = ms_tree Q J k l c b ∨ (ms_tree Q J k l c a = s ∧ ms_tree Q J k l c b = t))
  | 0, l, c, a, b, h => by
    rcases h with rfl | ⟨rfl, rfl⟩
    · exact Or.inl rfl
    · exact hJ c
  | k + 1, l, c, a, b, h => by
    show ms_for (fun x s => ms_tree Q J k (l + 1) (ms_u c l x) s) Q a = ms_for (fun x s => ms_tree Q J k (l + 1) (ms_u c l x) s) Q b ∨ _
    have key : ∀ q, ms_for (fun x s => ms_tree Q J k (l + 1) (ms_u c l x) s) q a = ms_for (fun x s => ms_tree Q J k (l + 1) (ms_u c l x) s) q b ∨ (ms_for (fun x s => ms_tree Q J k (l + 1) (ms_u c l x) s) q a = s ∧ ms_for (fun x s => ms_tree Q J k (l + 1) (ms_u c l x) s) q b = t) := by
      intro q
      induction q with
      | zero => exact h
      | succ q ih => exact ms_tree_2 hJ k (l + 1) (ms_u c l q) _ _ ih
    exact key Q
theorem ms_J_2 {bor : (Nat → Nat) → Bool} {val : (Nat → Nat) → Nat} {v : Nat} {f g : Nat → Nat} (c : Nat → Nat) : ms_J bor val c (v, f) = ms_J bor val c (v, g) ∨ (ms_J bor val c (v, f) = (v, f) ∧ ms_J bor val c (v, g) = (v, g)) := by
  unfold ms_J ms_j
  by_cases e : bor c = true ∧ val c < v
  · rw [if_pos e, if_pos e]; exact Or.inl rfl
  · rw [if_neg e, if_neg e]; exact Or.inr ⟨rfl, rfl⟩
theorem fs_T_2 {B : Nat → Int32} {D : Nat → Nat} {n L M v : Nat} {f g : Nat → Nat} : (fs_T B D n L M v f).1 = (fs_T B D n L M v g).1 ∧ ((fs_T B D n L M v f).1 < v → (fs_T B D n L M v f).2 = (fs_T B D n L M v g).2) := by
  have h := ms_tree_2 (Q := 2 * M) (J := ms_J (fs_bor B D n L M) (fs_wo B D n L M)) (s := (v, f)) (t := (v, g)) (fun c => ms_J_2 c) L 0 (fun _ => 0) (v, f) (v, g) (Or.inr ⟨rfl, rfl⟩)
  unfold fs_T
  rcases h with h | ⟨h1, h2⟩
  · rw [h]; exact ⟨rfl, fun _ => rfl⟩
  · rw [h1, h2]; exact ⟨rfl, fun q => absurd q (Nat.lt_irrefl v)⟩
def fs_stv (B : Nat → Int32) (D : Nat → Nat) (n L M : Nat) (a : Int32) : Int32 := if 5000 < fs_hn M L then Int32.ofInt (-20) else if (fs_T B D n L M 1000000 (fun _ => 0)).1 < 1000000 then (if a = Int32.ofInt (-1) then Int32.ofNat (fs_T B D n L M 1000000 (fun _ => 0)).1 else Int32.ofNat ((fs_T B D n L M 1000000 (fun _ => 0)).2 a.toInt.toNat)) else Int32.ofInt (-5)
def fs_stays (B : Nat → Int32) (D : Nat → Nat) (n L M : Nat) (a : Int32) : Int32 := if a = Int32.ofInt (-1) ∨ fu_in a 0 ((L : Int) - 1) = true then fs_stv B D n L M a else Int32.ofInt (-10)
theorem fs_fnd {h : kc_H} (hw : kd_wt kd_ty h) {c L : Nat} (hL : L ≤ 10) (hk : ∀ i, i < 10 → kd_rn (kd_ty c) i = some (0, 2147483648, 2147483648 + 5)) : ∃ f : Nat → Nat, ∀ j, j < L → h c j = .inl (Int32.ofNat (f j)) := by
  have hf : ∀ j, ∃ v : Nat, j < L → h c j = .inl (Int32.ofNat v) := fun j => by
    by_cases hj : j < L
    · obtain ⟨v, _, v2⟩ := kx_ofg (by decide) (hw c j _ (hk j (by omega)))
      exact ⟨v, fun _ => v2⟩
    · exact ⟨0, fun q => absurd q hj⟩
  obtain ⟨f, hf⟩ := Classical.axiomOfChoice hf
  exact ⟨f, hf⟩
theorem fs_m1n {a : Int32} (e : ¬ a = Int32.ofInt (-1)) : ¬ (a.toInt = (Int32.ofInt (-1)).toInt) := fun q => e (Int32.toInt_inj.mp q)
set_option maxRecDepth 20000 in
theorem fs_c115l {g : kc_G} {d : Nat} {h : kc_H} {B : Nat → Int32} {L M : Nat} (hC : fu_C B 1 h) (hM : M ≤ 3) (eM : B 1 = Int32.ofNat M) (hL : L ≤ 10) (eL : B 2 = Int32.ofNat L) : ∀ u l : Nat, L - l = u → l ≤ L → kc_Ev g d wk_m115 (fun rv h' => rv = some (.inl (kp_b (decide (5000 < fs_hn M L)))) ∧ h' = h) 4 [(2, .inl (Int32.ofNat l)), (1, .inl (Int32.ofNat (fs_hn M l))), (0, .inr (.inr (.inl (some 1))))] [] h := by
  have out : ∀ (l : Nat), l ≤ L → (l = L ∨ 5000 < fs_hn M l) → kc_Ev g d wk_m115 (fun rv h' => rv = some (.inl (kp_b (decide (5000 < fs_hn M L)))) ∧ h' = h) 34 [(2, .inl (Int32.ofNat l)), (1, .inl (Int32.ofNat (fs_hn M l))), (0, .inr (.inr (.inl (some 1))))] [] h := by
    intro l hl h1
    have b := fs_hn_b hM l
    have e : fs_hn M L = fs_hn M l := by
      rcases h1 with rfl | h1
      · rfl
      · have := fs_hn_st h1 (L - l)
        rw [show l + (L - l) = L by omega] at this
        exact this
    rw [e]
    refine kx_go 3 (pc' := (if kc_cnd .le (Int32.ofNat (fs_hn M l)).toInt (Int32.ofNat 5000).toInt then 45 else 41)) (L' := [(2, .inl (Int32.ofNat l)), (1, .inl (Int32.ofNat (fs_hn M l))), (0, .inr (.inr (.inl (some 1))))]) (S' := []) (h' := h) (by with_unfolding_all rfl) ?_
    by_cases c : 5000 < fs_hn M l
    · rw [if_neg (fun q => by have := (kx_le (by omega) (by omega)).mp q; omega), decide_eq_true c]
      refine kx_go 2 (pc' := 46) (L' := [(2, .inl (Int32.ofNat l)), (1, .inl (Int32.ofNat (fs_hn M l))), (0, .inr (.inr (.inl (some 1))))]) (S' := [.inl (Int32.ofNat 1)]) (h' := h) (by with_unfolding_all rfl) ?_
      exact kc_ret_ok rfl (rv := some (.inl (Int32.ofNat 1))) rfl ⟨rfl, rfl⟩
    · rw [if_pos ((kx_le (by omega) (by omega)).mpr (by omega)), decide_eq_false c]
      refine kx_go 1 (pc' := 46) (L' := [(2, .inl (Int32.ofNat l)), (1, .inl (Int32.ofNat (fs_hn M l))), (0, .inr (.inr (.inl (some 1))))]) (S' := [.inl (Int32.ofNat 0)]) (h' := h) (by with_unfolding_all rfl) ?_
      exact kc_ret_ok rfl (rv := some (.inl (Int32.ofNat 0))) rfl ⟨rfl, rfl⟩
  intro u
  induction u with
  | zero =>
    intro l hu hl
    have b := fs_hn_b hM l
    refine kx_go 2 (pc' := 6) (L' := [(2, .inl (Int32.ofNat l)), (1, .inl (Int32.ofNat (fs_hn M l))), (0, .inr (.inr (.inl (some 1))))]) (S' := [.inr (.inr (.inl (some 1))), .inl (Int32.ofNat l)]) (h' := h) (by with_unfolding_all rfl) ?_
    refine kx_getf (c := 1) (v := .inl (Int32.ofNat L)) rfl (by decide) ((fu_C0 hC).2.2.1.trans (by rw [eL])) ?_
    refine kx_go 1 (pc' := (if kc_cnd .ge (Int32.ofNat l).toInt (Int32.ofNat L).toInt then 34 else 12)) (L' := [(2, .inl (Int32.ofNat l)), (1, .inl (Int32.ofNat (fs_hn M l))), (0, .inr (.inr (.inl (some 1))))]) (S' := []) (h' := h) (by with_unfolding_all rfl) ?_
    rw [if_pos ((kx_ge (by omega) (by omega)).mpr (by omega))]
    exact out l hl (Or.inl (by omega))
  | succ u ih =>
    intro l hu hl
    have b := fs_hn_b hM l
    refine kx_go 2 (pc' := 6) (L' := [(2, .inl (Int32.ofNat l)), (1, .inl (Int32.ofNat (fs_hn M l))), (0, .inr (.inr (.inl (some 1))))]) (S' := [.inr (.inr (.inl (some 1))), .inl (Int32.ofNat l)]) (h' := h) (by with_unfolding_all rfl) ?_
    refine kx_getf (c := 1) (v := .inl (Int32.ofNat L)) rfl (by decide) ((fu_C0 hC).2.2.1.trans (by rw [eL])) ?_
    refine kx_go 1 (pc' := (if kc_cnd .ge (Int32.ofNat l).toInt (Int32.ofNat L).toInt then 34 else 12)) (L' := [(2, .inl (Int32.ofNat l)), (1, .inl (Int32.ofNat (fs_hn M l))), (0, .inr (.inr (.inl (some 1))))]) (S' := []) (h' := h) (by with_unfolding_all rfl) ?_
    rw [if_neg (fun q => by have := (kx_ge (by omega) (by omega)).mp q; omega)]
    refine kx_go 3 (pc' := (if kc_cnd .gt (Int32.ofNat (fs_hn M l)).toInt (Int32.ofNat 5000).toInt then 34 else 19)) (L' := [(2, .inl (Int32.ofNat l)), (1, .inl (Int32.ofNat (fs_hn M l))), (0, .inr (.inr (.inl (some 1))))]) (S' := []) (h' := h) (by with_unfolding_all rfl) ?_
    by_cases c : 5000 < fs_hn M l
    · rw [if_pos ((kx_gt (by omega) (by omega)).mpr c)]
      exact out l hl (Or.inr c)
    · rw [if_neg (fun q => c ((kx_gt (by omega) (by omega)).mp q))]
      refine kx_go 3 (pc' := 22) (L' := [(2, .inl (Int32.ofNat l)), (1, .inl (Int32.ofNat (fs_hn M l))), (0, .inr (.inr (.inl (some 1))))]) (S' := [.inr (.inr (.inl (some 1))), .inl (Int32.ofNat 2), .inl (Int32.ofNat (fs_hn M l))]) (h' := h) (by with_unfolding_all rfl) ?_
      refine kx_getf (c := 1) (v := .inl (Int32.ofNat M)) rfl (by decide) ((fu_C0 hC).2.1.trans (by rw [eM])) ?_
      refine kx_go 5 (pc' := 4) (L' := [(2, .inl ((Int32.ofNat l) + Int32.ofInt 1)), (1, .inl ((Int32.ofNat (fs_hn M l)) * ((Int32.ofNat 2) * (Int32.ofNat M)))), (0, .inr (.inr (.inl (some 1))))]) (S' := []) (h' := h) (by with_unfolding_all rfl) ?_
      rw [kx_inc, kx_mul, kx_mul, show fs_hn M l * (2 * M) = fs_hn M (l + 1) from (if_neg c).symm]
      refine kf_lo (L := [(2, .inl (Int32.ofNat (l + 1))), (1, .inl (Int32.ofNat (fs_hn M (l + 1)))), (0, .inr (.inr (.inl (some 1))))]) (by intro q hq; simp only [List.mem_cons, List.not_mem_nil, or_false] at hq; rcases hq with rfl | rfl | rfl <;> rfl) ?_
      exact ih (l + 1) (by omega) (by omega)
set_option maxRecDepth 20000 in
theorem fs_c115 {g : kc_G} {d : Nat} {h : kc_H} {B : Nat → Int32} {L M : Nat} (hg : kc_ok g) (hC : fu_C B 1 h) (hM : M ≤ 3) (eM : B 1 = Int32.ofNat M) (hL : L ≤ 10) (eL : B 2 = Int32.ofNat L) : kc_Con g (d + 1) 115 [.inr (.inr (.inl (some 1)))] h (fun rv h' => rv = some (.inl (kp_b (decide (5000 < fs_hn M L)))) ∧ h' = h) := by
  refine kc_Con_new hg (M := wk_m115) rfl rfl rfl (show 1 ≤ 3 by decide) ?_
  refine kx_go 4 (pc' := 4) (L' := [(2, .inl (Int32.ofNat 0)), (1, .inl (Int32.ofNat 1)), (0, .inr (.inr (.inl (some 1))))]) (S' := []) (h' := h) (by with_unfolding_all rfl) ?_
  exact fs_c115l hC hM eM hL eL L 0 (by omega) (by omega)
set_option maxRecDepth 20000 in
theorem fs_c114t {g : kc_G} {d : Nat} {h : kc_H} {B : Nat → Int32} {n L M : Nat} {a : Int32} (hg : kc_ok g) (hw : kd_wt kd_ty h) (hC : fu_C B 1 h) (hB : fu_BT B) (hn : n ≤ 5) (en : B 3 = Int32.ofNat n) (hM : M ≤ 3) (eM : B 1 = Int32.ofNat M) (hL : L ≤ 10) (eL : B 2 = Int32.ofNat L) (ha : a = Int32.ofInt (-1) ∨ ∃ l, l < L ∧ a = Int32.ofNat l) : kc_Ev g (d + 17) wk_m114 (fun rv h' => rv = some (.inl (fs_stv B (fs_D B n) n L M a)) ∧ kd_wt kd_ty h' ∧ (∀ c x, ¬ (204 ≤ c ∧ c ≤ 247) → h' c x = h c x)) 19 [(0, .inr (.inr (.inl (some 0)))), (1, .inl (a))] [] h := by
  have hfl : ∀ k, k < n → h 27 k = .inl (Int32.ofNat (fs_D B n k)) := fun k hk => (fu_Cj (c := 26) (i := k) hC (by omega) (fu_fli k (by omega)).2.1 (fu_fli k (by omega)).1).trans (by rw [fs_Dv hB hn hk])
  unfold fs_stv
  refine kx_go 1 (pc' := 20) (L' := [(0, .inr (.inr (.inl (some 0)))), (1, .inl (a))]) (S' := [.inr (.inr (.inl (some 0)))]) (h' := h) (by with_unfolding_all rfl) ?_
  refine kx_getf (c := 0) (v := .inr (.inr (.inl (some 1)))) rfl (by decide) (kx_ofr (hw _ _ _ fs_k0_0)) ?_
  refine kc_call_rule (M2 := wk_m115) (av := [.inr (.inr (.inl (some 1)))]) (r := []) rfl rfl (kc_Con_le (fs_c115 (d := d) hg hC hM eM hL eL) (by omega)) (fun rv hcc hq => ?_)
  obtain ⟨rfl, e9⟩ := hq
  rw [e9]
  clear e9
  show kc_Ev g (d + 17) wk_m114 _ 26 [(0, .inr (.inr (.inl (some 0)))), (1, .inl (a))] [.inl (kp_b (decide (5000 < fs_hn M L)))] h
  refine kx_go 1 (pc' := (if kc_cnd .eq (kp_b (decide (5000 < fs_hn M L))).toInt 0 then 32 else 29)) (L' := [(0, .inr (.inr (.inl (some 0)))), (1, .inl (a))]) (S' := []) (h' := h) (by with_unfolding_all rfl) ?_
  by_cases c : 5000 < fs_hn M L
  · rw [decide_eq_true c, if_neg fa_b0t, if_pos c]
    refine kx_go 1 (pc' := 31) (L' := [(0, .inr (.inr (.inl (some 0)))), (1, .inl (a))]) (S' := [.inl (Int32.ofInt (-20))]) (h' := h) (by with_unfolding_all rfl) ?_
    exact kc_ret_ok rfl (rv := some (.inl (Int32.ofInt (-20)))) rfl ⟨rfl, hw, fun _ _ _ => rfl⟩
  · rw [decide_eq_false c, if_pos (kx_b0.mpr rfl), if_neg c]
    refine kx_go 1 (pc' := 33) (L' := [(0, .inr (.inr (.inl (some 0)))), (1, .inl (a))]) (S' := [.inr (.inr (.inl (some 0)))]) (h' := h) (by with_unfolding_all rfl) ?_
    refine kx_getf (c := 0) (v := .inr (.inr (.inl (some 204)))) rfl (by decide) (kx_ofr (hw _ _ _ fs_k0_6)) ?_
    refine kx_go 1 (pc' := 37) (L' := [(0, .inr (.inr (.inl (some 0)))), (1, .inl (a))]) (S' := [.inr (.inr (.inl (some 0))), .inr (.inr (.inl (some 204)))]) (h' := h) (by with_unfolding_all rfl) ?_
    refine kx_getf (c := 0) (v := .inr (.inr (.inl (some 1)))) rfl (by decide) (kx_ofr (hw _ _ _ fs_k0_0)) ?_
    refine kx_getf (c := 1) (v := .inr (.inr (.inl (some 27)))) rfl (by decide) (kx_ofr (hw _ _ _ fs_k1_10)) ?_
    refine kx_go 1 (pc' := 44) (L' := [(0, .inr (.inr (.inl (some 0)))), (1, .inl (a))]) (S' := [.inr (.inr (.inl (some 0))), .inr (.inr (.inl (some 27))), .inr (.inr (.inl (some 204)))]) (h' := h) (by with_unfolding_all rfl) ?_
    refine kx_getf (c := 0) (v := .inr (.inr (.inl (some 1)))) rfl (by decide) (kx_ofr (hw _ _ _ fs_k0_0)) ?_
    refine kx_getf (c := 1) (v := .inl (Int32.ofNat n)) rfl (by decide) ((fu_C0 hC).2.2.2.trans (by rw [en])) ?_
    refine kc_call_rule (M2 := wk_m100) (av := [.inr (.inr (.inl (some 204))), .inr (.inr (.inl (some 27))), .inl (Int32.ofNat n)]) (r := []) rfl rfl (kc_Con_le (fs_c100x27 (d := d) hw hg hB hC hn hL eL hfl (fun j => fs_Dl hB hn j)) (by omega)) (fun rv h2 hq => ?_)
    obtain ⟨rfl, hP, hQ⟩ := hq
    show kc_Ev g (d + 17) wk_m114 _ 53 [(0, .inr (.inr (.inl (some 0)))), (1, .inl (a))] [] h2
    have hw2 := hP.1
    have hF2 := hP.2.2.2.2
    have hC2 := fs_C_f (h' := h2) (fun a y q => hF2 a y (by omega)) hC
    have hG2 := fs_Q_G hP.2.1 hQ
    obtain ⟨f, hf⟩ := fs_fnd (c := 221) hw2 hL fs_k2x.1
    have hT := fs_T_c (B := B) (D := fs_D B n) (n := n) (L := L) (M := M) (v := 1000000) (f := f)
    have h22 := fs_T_2 (B := B) (D := fs_D B n) (n := n) (L := L) (M := M) (v := 1000000) (f := f) (g := fun _ => 0)
    have hle : (fs_T B (fs_D B n) n L M 1000000 f).1 ≤ 1000000 := by rw [← hT]; exact ms_sk_le (fun _ _ => ms_j_le) L 0 _ _
    refine kx_go 1 (pc' := 54) (L' := [(0, .inr (.inr (.inl (some 0)))), (1, .inl (a))]) (S' := [.inr (.inr (.inl (some 0)))]) (h' := h2) (by with_unfolding_all rfl) ?_
    refine kx_getf (c := 0) (v := .inr (.inr (.inl (some 220)))) rfl (by decide) (kx_ofr (hw2 _ _ _ fs_k0_7)) ?_
    refine kx_go 1 (pc' := 59) (L' := [(0, .inr (.inr (.inl (some 0)))), (1, .inl (a))]) (S' := [.inl (Int32.ofNat 1000000), .inr (.inr (.inl (some 220)))]) (h' := h2) (by with_unfolding_all rfl) ?_
    have H116 := fs_c116 (g := g) (d := d) (f := f) (b := 1000000) hg hw2 hB hC2 (fs_gb (D := fs_D B n) (L := L) hB hn hL) hG2 hM eM eL (by decide) hf
    rw [hT] at H116
    refine kc_call_rule (M2 := wk_m116) (av := [.inr (.inr (.inl (some 220))), .inl (Int32.ofNat 1000000)]) (r := []) rfl rfl (kc_Con_le (H116) (by omega)) (fun rv h3 hq => ?_)
    obtain ⟨rfl, hw3, hF3, e3, hfo⟩ := hq
    show kc_Ev g (d + 17) wk_m114 _ 62 [(0, .inr (.inr (.inl (some 0)))), (1, .inl (a))] [.inl (kp_b (decide ((fs_T B (fs_D B n) n L M 1000000 f).1 < 1000000)))] h3
    have hFF : ∀ c x, ¬ (204 ≤ c ∧ c ≤ 247) → h3 c x = h c x := fun c y q => (hF3 c y (by omega)).trans (hF2 c y (by omega))
    refine kx_go 1 (pc' := (if kc_cnd .ne (kp_b (decide ((fs_T B (fs_D B n) n L M 1000000 f).1 < 1000000))).toInt 0 then 68 else 65)) (L' := [(0, .inr (.inr (.inl (some 0)))), (1, .inl (a))]) (S' := []) (h' := h3) (by with_unfolding_all rfl) ?_
    rw [← h22.1]
    by_cases c2 : (fs_T B (fs_D B n) n L M 1000000 f).1 < 1000000
    · rw [decide_eq_true c2, if_pos (kx_b1.mpr rfl), if_pos c2, ← h22.2 c2]
      refine kx_go 3 (pc' := (if kc_cnd .ne (a).toInt (Int32.ofInt (-1)).toInt then 83 else 73)) (L' := [(0, .inr (.inr (.inl (some 0)))), (1, .inl (a))]) (S' := []) (h' := h3) (by with_unfolding_all rfl) ?_
      rcases ha with ha | ⟨l, hl, ha⟩
      · subst ha
        rw [if_neg kx_m2, if_pos rfl]
        refine kx_go 1 (pc' := 74) (L' := [(0, .inr (.inr (.inl (some 0)))), (1, .inl (Int32.ofInt (-1)))]) (S' := [.inr (.inr (.inl (some 0)))]) (h' := h3) (by with_unfolding_all rfl) ?_
        refine kx_getf (c := 0) (v := .inr (.inr (.inl (some 220)))) rfl (by decide) (kx_ofr (hw3 _ _ _ fs_k0_7)) ?_
        refine kx_getf (c := 220) (v := .inl (Int32.ofNat (fs_T B (fs_D B n) n L M 1000000 f).1)) rfl (by decide) e3 ?_
        refine kx_go 1 (pc' := 92) (L' := [(0, .inr (.inr (.inl (some 0)))), (1, .inl (Int32.ofInt (-1)))]) (S' := [.inl (Int32.ofNat (fs_T B (fs_D B n) n L M 1000000 f).1)]) (h' := h3) (by with_unfolding_all rfl) ?_
        exact kc_ret_ok rfl (rv := some (.inl (Int32.ofNat (fs_T B (fs_D B n) n L M 1000000 f).1))) rfl ⟨rfl, hw3, hFF⟩
      · subst ha
        rw [if_pos (kx_nm2 (by omega)), if_neg (fun q => by have := congrArg Int32.toInt q; rw [kx_ti (by omega), show (Int32.ofInt (-1)).toInt = -1 by decide] at this; omega), kx_ti (show l < 2147483648 by omega), Int.toNat_natCast]
        refine kx_go 1 (pc' := 84) (L' := [(0, .inr (.inr (.inl (some 0)))), (1, .inl (Int32.ofNat l))]) (S' := [.inr (.inr (.inl (some 0)))]) (h' := h3) (by with_unfolding_all rfl) ?_
        refine kx_getf (c := 0) (v := .inr (.inr (.inl (some 220)))) rfl (by decide) (kx_ofr (hw3 _ _ _ fs_k0_7)) ?_
        refine kx_getf (c := 220) (v := .inr (.inr (.inl (some 221)))) rfl (by decide) (kx_ofr (hw3 _ _ _ fs_k220_4)) ?_
        refine kx_go 1 (pc' := 91) (L' := [(0, .inr (.inr (.inl (some 0)))), (1, .inl (Int32.ofNat l))]) (S' := [.inl (Int32.ofNat l), .inr (.inr (.inl (some 221)))]) (h' := h3) (by with_unfolding_all rfl) ?_
        refine kx_iald (c := 221) (j := l) (m := 10) (v := .inl (Int32.ofNat ((fs_T B (fs_D B n) n L M 1000000 f).2 l))) rfl rfl (by decide) (by decide) (by omega) (hfo l hl) ?_
        exact kc_ret_ok rfl (rv := some (.inl (Int32.ofNat ((fs_T B (fs_D B n) n L M 1000000 f).2 l)))) rfl ⟨rfl, hw3, hFF⟩
    · rw [decide_eq_false c2, if_neg (show ¬ (kc_cnd .ne (kp_b false).toInt 0 = true) from fun q => by have := kx_b1.mp q; cases this), if_neg c2]
      refine kx_go 1 (pc' := 67) (L' := [(0, .inr (.inr (.inl (some 0)))), (1, .inl (a))]) (S' := [.inl (Int32.ofInt (-5))]) (h' := h3) (by with_unfolding_all rfl) ?_
      exact kc_ret_ok rfl (rv := some (.inl (Int32.ofInt (-5)))) rfl ⟨rfl, hw3, hFF⟩
set_option maxRecDepth 20000 in
theorem fs_c114 {g : kc_G} {d : Nat} {h : kc_H} {B : Nat → Int32} {n L M : Nat} {a : Int32} (hg : kc_ok g) (hw : kd_wt kd_ty h) (hC : fu_C B 1 h) (hB : fu_BT B) (hn : n ≤ 5) (en : B 3 = Int32.ofNat n) (hM : M ≤ 3) (eM : B 1 = Int32.ofNat M) (hL : L ≤ 10) (eL : B 2 = Int32.ofNat L) : kc_Con g (d + 18) 114 [.inr (.inr (.inl (some 0))), .inl a] h (fun rv h' => rv = some (.inl (fs_stays B (fs_D B n) n L M a)) ∧ kd_wt kd_ty h' ∧ (∀ c x, ¬ (204 ≤ c ∧ c ≤ 247) → h' c x = h c x)) := by
  have z2 : (B 2).toInt - 1 = (L : Int) - 1 := by rw [eL, kx_ti (by omega)]
  unfold fs_stays
  refine kc_Con_new hg (M := wk_m114) rfl rfl rfl (show 2 ≤ 2 by decide) ?_
  refine kx_go 3 (pc' := (if kc_cnd .eq (a).toInt (Int32.ofInt (-1)).toInt then 19 else 5)) (L' := [(0, .inr (.inr (.inl (some 0)))), (1, .inl (a))]) (S' := []) (h' := h) (by with_unfolding_all rfl) ?_
  by_cases e : a = Int32.ofInt (-1)
  · rw [if_pos (fu_ieq.mpr (by rw [e])), if_pos (Or.inl e)]
    exact fs_c114t hg hw hC hB hn en hM eM hL eL (Or.inl e)
  · rw [if_neg (fun q => fs_m1n e (fu_ieq.mp q))]
    refine kx_go 1 (pc' := 6) (L' := [(0, .inr (.inr (.inl (some 0)))), (1, .inl (a))]) (S' := [.inr (.inr (.inl (some 0)))]) (h' := h) (by with_unfolding_all rfl) ?_
    refine kx_getf (c := 0) (v := .inr (.inr (.inl (some 1)))) rfl (by decide) (kx_ofr (hw _ _ _ fs_k0_0)) ?_
    refine kx_go 1 (pc' := 10) (L' := [(0, .inr (.inr (.inl (some 0)))), (1, .inl (a))]) (S' := [.inl (a), .inr (.inr (.inl (some 1)))]) (h' := h) (by with_unfolding_all rfl) ?_
    refine kc_call_rule (M2 := wk_m46) (av := [.inr (.inr (.inl (some 1))), .inl (a)]) (r := []) rfl rfl (kc_Con_le (fu_c46 (d := 0) hg hC hB) (by omega)) (fun rv hcc hq => ?_)
    obtain ⟨rfl, e9⟩ := hq
    rw [e9]
    clear e9
    show kc_Ev g (d + 17) wk_m114 _ 13 [(0, .inr (.inr (.inl (some 0)))), (1, .inl (a))] [.inl (kp_b (fu_in a 0 ((B 2).toInt - 1)))] h
    refine kx_go 1 (pc' := (if kc_cnd .ne (kp_b (fu_in a 0 ((B 2).toInt - 1))).toInt 0 then 19 else 16)) (L' := [(0, .inr (.inr (.inl (some 0)))), (1, .inl (a))]) (S' := []) (h' := h) (by with_unfolding_all rfl) ?_
    rw [z2]
    cases e2 : fu_in a 0 ((L : Int) - 1) with
    | false =>
      rw [if_neg (show ¬ (kc_cnd .ne (kp_b false).toInt 0 = true) from fun q => by have := kx_b1.mp q; cases this), if_neg (fun q => q.elim e (fun q => by cases q))]
      refine kx_go 1 (pc' := 18) (L' := [(0, .inr (.inr (.inl (some 0)))), (1, .inl (a))]) (S' := [.inl (Int32.ofInt (-10))]) (h' := h) (by with_unfolding_all rfl) ?_
      exact kc_ret_ok rfl (rv := some (.inl (Int32.ofInt (-10)))) rfl ⟨rfl, hw, fun _ _ _ => rfl⟩
    | true =>
      rw [if_pos (kx_b1.mpr rfl), if_pos (Or.inr rfl)]
      obtain ⟨l, hl9, el, -, hl⟩ := fu_in_n (u := 9) e2 (Int.le_refl 0) (by omega)
      exact fs_c114t hg hw hC hB hn en hM eM hL eL (Or.inr ⟨l, by omega, el⟩)
end
section
-- 99.zq8
/-! ===== the search, reference: spans, leg, isBorne, worstNow ===== -/
def fs_dl (D : Nat → Nat) (n : Nat) : Prop := (∀ i j, i < n → j < n → D i = D j → i = j) ∧ ∀ i, i < n → ¬ D i = 0
def fs_iv : Option Nat → Int32
  | some k => Int32.ofInt ((k : Int) - 1)
  | none => Int32.ofInt (-2)
theorem fs_st_miss {D : Nat → Nat} {p : Nat} : ∀ n, (∀ j, j < n → ¬ D j = p) → fs_st D p n = if p = 0 then some 0 else none
  | 0, _ => rfl
  | n + 1, h => by
    show (if D n = p then some (n + 1) else fs_st D p n) = _
    rw [if_neg (h n (by omega))]
    exact fs_st_miss n (fun j hj => h j (by omega))
theorem fs_st_hit {D : Nat → Nat} {p k : Nat} : ∀ n, k < n → D k = p → (∀ i j, i < n → j < n → D i = D j → i = j) → fs_st D p n = some (k + 1)
  | 0, hk, _, _ => by omega
  | n + 1, hk, hp, hd => by
    show (if D n = p then some (n + 1) else fs_st D p n) = _
    by_cases e : n = k
    · rw [e, if_pos hp]
    · rw [if_neg (fun q => e (hd n k (by omega) hk (q.trans hp.symm)))]
      exact fs_st_hit n (by omega) hp (fun i j hi hj => hd i j (by omega) (by omega))
theorem fs_k273 : (∀ l, l < 10 → kd_rn (kd_ty 273) l = some (0, 2147483648, 2147483648 + 5)) ∧ (∀ l, l < 10 → kd_rn (kd_ty 274) l = some (0, 0, 4294967295)) ∧ (∀ l, l < 10 → kd_rn (kd_ty 275) l = some (0, 2147483648, 2147483648 + 1)) ∧ (∀ l, l < 6 → kd_rn (kd_ty 276) l = some (0, 0, 4294967295)) ∧ (∀ l, l < 6 → kd_rn (kd_ty 277) l = some (0, 0, 4294967295)) ∧ (∀ l, l < 10 → kd_rn (kd_ty 272) l = some (0, 2147483647, 2147483648 + 5)) ∧ (∀ l, l < 10 → kd_rn (kd_ty 278) l = some (0, 2147483647, 2147483648 + 5)) ∧ kd_rn (kd_ty 259) 33 = some (0, 0, 4294967295) := ⟨by decide +kernel, by decide +kernel, by decide +kernel, by decide +kernel, by decide +kernel, by decide +kernel, by decide +kernel, by decide +kernel⟩
theorem fs_ti {z : Int} (h1 : -2147483648 ≤ z) (h2 : z < 2147483648) : (Int32.ofInt z).toInt = z := Int32.toInt_ofInt_of_le (by omega) (by omega)
theorem fs_wb {h : kc_H} {c x : Nat} {b : Bool} (ht : kd_rn (kd_ty c) x = some (0, 2147483648, 2147483648 + 1)) (hw : kd_wt kd_ty h) : kd_wt kd_ty (kc_upd h c x (.inl (kp_b b))) := by
  cases b with
  | true => exact fa_wn ht (v := 1) (Nat.le_refl _) (by decide) hw
  | false => exact fa_wn ht (v := 0) (Nat.zero_le _) (by decide) hw
theorem fs_im4 {k : Nat} : Int32.ofInt ((k : Int) - 1) + Int32.ofNat 1 = Int32.ofNat k := by
  rw [← Int32.ofInt_eq_ofNat, ← Int32.ofInt_eq_ofNat, ← Int32.ofInt_add, show (k : Int) - 1 + ((1 : Nat) : Int) = (k : Int) by omega]
theorem fs_im5 {k : Nat} : Int32.ofInt (((k + 1 : Nat) : Int) - 1) = Int32.ofNat k := fs_im1
set_option maxRecDepth 20000 in
theorem fs_r259 {g : kc_G} {d : Nat} {h : kc_H} {B : Nat → Int32} {D : Nat → Nat} {n k : Nat} (hg : kc_ok g) (hw : kd_wt kd_ty h) (hC : fu_B B h) (hn : n ≤ 5) (hD : ∀ k, k < n → B (150 + k) = Int32.ofNat (D k)) (hk : k < n) : kc_Con g (d + 1) 259 [.inr (.inr (.inl (some 259))), .inl (Int32.ofNat k)] h (fun rv h' => rv = some (.inl (Int32.ofNat (D k))) ∧ h' = h) := by
  refine kc_Con_new hg (M := wk_m259) rfl rfl rfl (show 2 ≤ 2 by decide) ?_
  refine kx_go 1 (pc' := 1) (L' := [(0, .inr (.inr (.inl (some 259)))), (1, .inl (Int32.ofNat k))]) (S' := [.inr (.inr (.inl (some 259)))]) (h' := h) (by with_unfolding_all rfl) ?_
  refine kx_getf (c := 259) (v := .inr (.inr (.inl (some 260)))) rfl (by decide) (kx_ofr (hw _ _ _ fs_k259_0)) ?_
  refine kx_go 3 (pc' := 9) (L' := [(0, .inr (.inr (.inl (some 259)))), (1, .inl (Int32.ofNat k))]) (S' := [.inl ((Int32.ofNat 150) + (Int32.ofNat k)), .inr (.inr (.inl (some 260)))]) (h' := h) (by with_unfolding_all rfl) ?_
  rw [kx_add]
  have f := fu_fli k (by omega)
  refine kx_iald (c := 260) (j := 150 + k) (m := 650) (v := .inl (Int32.ofNat (D k))) rfl rfl (by decide) (by decide) (by omega) ((hC (150 + k) (by omega) f.2.1).trans (by rw [hD k hk])) ?_
  exact kc_ret_ok rfl (rv := some (.inl (Int32.ofNat (D k)))) rfl ⟨rfl, rfl⟩
set_option maxRecDepth 20000 in
theorem fs_r258l {g : kc_G} {d : Nat} {h : kc_H} {B : Nat → Int32} {D : Nat → Nat} {n p : Nat} (hg : kc_ok g) (hw : kd_wt kd_ty h) (hC : fu_B B h) (en : B 3 = Int32.ofNat n) (hn : n ≤ 5) (hD : ∀ k, k < n → B (150 + k) = Int32.ofNat (D k)) (hl : ∀ k, D k < 6) (hdl : ∀ i j, i < n → j < n → D i = D j → i = j) (hp : p < 6) : ∀ (u k : Nat), n - k = u → k ≤ n → (∀ j, j < k → ¬ D j = p) → kc_Ev g (d + 1) wk_m258 (fun rv h' => rv = some (.inl (fs_iv (fs_st D p n))) ∧ h' = h) 2 [(2, .inl (Int32.ofNat k)), (0, .inr (.inr (.inl (some 259)))), (1, .inl (Int32.ofNat p))] [] h := by
  intro u
  induction u with
  | zero =>
    intro k hu hk hno
    refine kx_go 2 (pc' := 4) (L' := [(2, .inl (Int32.ofNat k)), (0, .inr (.inr (.inl (some 259)))), (1, .inl (Int32.ofNat p))]) (S' := [.inr (.inr (.inl (some 259))), .inl (Int32.ofNat k)]) (h' := h) (by with_unfolding_all rfl) ?_
    refine kx_getf (c := 259) (v := .inr (.inr (.inl (some 260)))) rfl (by decide) (kx_ofr (hw _ _ _ fs_k259_0)) ?_
    refine kx_go 1 (pc' := 8) (L' := [(2, .inl (Int32.ofNat k)), (0, .inr (.inr (.inl (some 259)))), (1, .inl (Int32.ofNat p))]) (S' := [.inl (Int32.ofNat 3), .inr (.inr (.inl (some 260))), .inl (Int32.ofNat k)]) (h' := h) (by with_unfolding_all rfl) ?_
    refine kx_iald (c := 260) (j := 3) (m := 650) (v := .inl (Int32.ofNat n)) rfl rfl (by decide) (by decide) (by omega) ((hC 3 (by decide) (by decide)).trans (by rw [en])) ?_
    refine kx_go 1 (pc' := (if kc_cnd .ge (Int32.ofNat k).toInt (Int32.ofNat n).toInt then 29 else 12)) (L' := [(2, .inl (Int32.ofNat k)), (0, .inr (.inr (.inl (some 259)))), (1, .inl (Int32.ofNat p))]) (S' := []) (h' := h) (by with_unfolding_all rfl) ?_
    rw [if_pos ((kx_ge (by omega) (by omega)).mpr (by omega)), fs_st_miss n (fun j hj => hno j (by omega))]
    refine kx_go 2 (pc' := (if kc_cnd .ne (Int32.ofNat p).toInt 0 then 37 else 33)) (L' := [(2, .inl (Int32.ofNat k)), (0, .inr (.inr (.inl (some 259)))), (1, .inl (Int32.ofNat p))]) (S' := []) (h' := h) (by with_unfolding_all rfl) ?_
    by_cases e : p = 0
    · rw [if_neg (fa_z (by omega) e), if_pos e]
      refine kx_go 2 (pc' := 39) (L' := [(2, .inl (Int32.ofNat k)), (0, .inr (.inr (.inl (some 259)))), (1, .inl (Int32.ofNat p))]) (S' := [.inl (Int32.ofInt (-1))]) (h' := h) (by with_unfolding_all rfl) ?_
      exact kc_ret_ok rfl (rv := some (.inl (Int32.ofInt (-1)))) rfl ⟨rfl, rfl⟩
    · rw [if_pos (fa_nz (by omega) e), if_neg e]
      refine kx_go 1 (pc' := 39) (L' := [(2, .inl (Int32.ofNat k)), (0, .inr (.inr (.inl (some 259)))), (1, .inl (Int32.ofNat p))]) (S' := [.inl (Int32.ofInt (-2))]) (h' := h) (by with_unfolding_all rfl) ?_
      exact kc_ret_ok rfl (rv := some (.inl (Int32.ofInt (-2)))) rfl ⟨rfl, rfl⟩
  | succ u ih =>
    intro k hu hk hno
    refine kx_go 2 (pc' := 4) (L' := [(2, .inl (Int32.ofNat k)), (0, .inr (.inr (.inl (some 259)))), (1, .inl (Int32.ofNat p))]) (S' := [.inr (.inr (.inl (some 259))), .inl (Int32.ofNat k)]) (h' := h) (by with_unfolding_all rfl) ?_
    refine kx_getf (c := 259) (v := .inr (.inr (.inl (some 260)))) rfl (by decide) (kx_ofr (hw _ _ _ fs_k259_0)) ?_
    refine kx_go 1 (pc' := 8) (L' := [(2, .inl (Int32.ofNat k)), (0, .inr (.inr (.inl (some 259)))), (1, .inl (Int32.ofNat p))]) (S' := [.inl (Int32.ofNat 3), .inr (.inr (.inl (some 260))), .inl (Int32.ofNat k)]) (h' := h) (by with_unfolding_all rfl) ?_
    refine kx_iald (c := 260) (j := 3) (m := 650) (v := .inl (Int32.ofNat n)) rfl rfl (by decide) (by decide) (by omega) ((hC 3 (by decide) (by decide)).trans (by rw [en])) ?_
    refine kx_go 1 (pc' := (if kc_cnd .ge (Int32.ofNat k).toInt (Int32.ofNat n).toInt then 29 else 12)) (L' := [(2, .inl (Int32.ofNat k)), (0, .inr (.inr (.inl (some 259)))), (1, .inl (Int32.ofNat p))]) (S' := []) (h' := h) (by with_unfolding_all rfl) ?_
    rw [if_neg (fun q => by have := (kx_ge (by omega) (by omega)).mp q; omega)]
    have hkn : k < n := by omega
    have hD6 := hl k
    refine kx_go 2 (pc' := 14) (L' := [(2, .inl (Int32.ofNat k)), (0, .inr (.inr (.inl (some 259)))), (1, .inl (Int32.ofNat p))]) (S' := [.inl (Int32.ofNat k), .inr (.inr (.inl (some 259)))]) (h' := h) (by with_unfolding_all rfl) ?_
    refine kc_call_rule (M2 := wk_m259) (av := [.inr (.inr (.inl (some 259))), .inl (Int32.ofNat k)]) (r := []) rfl rfl (kc_Con_le (fs_r259 (d := 0) hg hw hC hn hD hkn) (by omega)) (fun rv hcc hq => ?_)
    obtain ⟨rfl, e9⟩ := hq
    rw [e9]
    clear e9
    show kc_Ev g (d + 1) wk_m258 _ 17 [(2, .inl (Int32.ofNat k)), (0, .inr (.inr (.inl (some 259)))), (1, .inl (Int32.ofNat p))] [.inl (Int32.ofNat (D k))] h
    refine kx_go 2 (pc' := (if kc_cnd .ne (Int32.ofNat (D k)).toInt (Int32.ofNat p).toInt then 23 else 21)) (L' := [(2, .inl (Int32.ofNat k)), (0, .inr (.inr (.inl (some 259)))), (1, .inl (Int32.ofNat p))]) (S' := []) (h' := h) (by with_unfolding_all rfl) ?_
    by_cases e : D k = p
    · rw [if_neg (fun q => (kx_ne (by omega) (by omega)).mp q e), fs_st_hit n hkn e hdl]
      refine kx_go 1 (pc' := 22) (L' := [(2, .inl (Int32.ofNat k)), (0, .inr (.inr (.inl (some 259)))), (1, .inl (Int32.ofNat p))]) (S' := [.inl (Int32.ofNat k)]) (h' := h) (by with_unfolding_all rfl) ?_
      exact kc_ret_ok rfl (rv := some (.inl (Int32.ofNat k))) rfl ⟨by show _ = some (Sum.inl (Int32.ofInt (((k + 1 : Nat) : Int) - 1))); rw [fs_im1], rfl⟩
    · rw [if_pos ((kx_ne (by omega) (by omega)).mpr e)]
      refine kx_go 2 (pc' := 2) (L' := [(2, .inl ((Int32.ofNat k) + Int32.ofInt 1)), (0, .inr (.inr (.inl (some 259)))), (1, .inl (Int32.ofNat p))]) (S' := []) (h' := h) (by with_unfolding_all rfl) ?_
      rw [kx_inc]
      refine kf_lo (L := [(2, .inl (Int32.ofNat (k + 1))), (0, .inr (.inr (.inl (some 259)))), (1, .inl (Int32.ofNat p))]) (by intro q hq; simp only [List.mem_cons, List.not_mem_nil, or_false] at hq; rcases hq with rfl | rfl | rfl <;> rfl) ?_
      exact ih (k + 1) (by omega) (by omega) (fun j hj => by
        by_cases c : j = k
        · rw [c]; exact e
        · exact hno j (by omega))
set_option maxRecDepth 20000 in
theorem fs_r258 {g : kc_G} {d : Nat} {h : kc_H} {B : Nat → Int32} {D : Nat → Nat} {n p : Nat} (hg : kc_ok g) (hw : kd_wt kd_ty h) (hC : fu_B B h) (en : B 3 = Int32.ofNat n) (hn : n ≤ 5) (hD : ∀ k, k < n → B (150 + k) = Int32.ofNat (D k)) (hl : ∀ k, D k < 6) (hdl : ∀ i j, i < n → j < n → D i = D j → i = j) (hp : p < 6) : kc_Con g (d + 2) 258 [.inr (.inr (.inl (some 259))), .inl (Int32.ofNat p)] h (fun rv h' => rv = some (.inl (fs_iv (fs_st D p n))) ∧ h' = h) := by
  refine kc_Con_new hg (M := wk_m258) rfl rfl rfl (show 2 ≤ 3 by decide) ?_
  refine kx_go 2 (pc' := 2) (L' := [(2, .inl (Int32.ofNat 0)), (0, .inr (.inr (.inl (some 259)))), (1, .inl (Int32.ofNat p))]) (S' := []) (h' := h) (by with_unfolding_all rfl) ?_
  exact fs_r258l hg hw hC en hn hD hl hdl hp n 0 (by omega) (by omega) (fun j hj => by omega)
def fs_sp (F E : Nat → Nat) (co : Nat → Bool) (L : Nat) (h : kc_H) : Prop := (∀ l, l < L → h 273 l = .inl (Int32.ofNat (F l))) ∧ (∀ l, l < L → h 274 l = .inl (Int32.ofInt ((E l : Int) - 1))) ∧ ∀ l, l < L → h 275 l = .inl (kp_b (co l))
theorem fs_ivn {o : Option Nat} {n : Nat} (ho : ∀ k, o = some k → k ≤ n) (hn : n ≤ 5) : (fs_iv o = Int32.ofInt (-2) ∧ fs_on n o = n ∧ o = none) ∨ ∃ k, o = some k ∧ k ≤ 5 ∧ fs_iv o = Int32.ofInt ((k : Int) - 1) ∧ fs_on n o = k := by
  cases o with
  | none => exact Or.inl ⟨rfl, rfl, rfl⟩
  | some k => exact Or.inr ⟨k, rfl, by have := ho k rfl; omega, rfl, rfl⟩
set_option maxRecDepth 20000 in
theorem fs_r105l {g : kc_G} {d : Nat} {h0 : kc_H} {B : Nat → Int32} {D : Nat → Nat} {n L : Nat} (hg : kc_ok g) (hB : fu_BT B) (hC0 : fu_B B h0) (en : B 3 = Int32.ofNat n) (eL : B 2 = Int32.ofNat L) (hL : L ≤ 10) (hn : n ≤ 5) (hD : ∀ k, k < n → B (150 + k) = Int32.ofNat (D k)) (hl : ∀ k, D k < 6) (hdl : ∀ i j, i < n → j < n → D i = D j → i = j) : ∀ (u l : Nat) (h : kc_H), L - l = u → l ≤ L → kd_wt kd_ty h → fs_sp (fs_F B D n) (fs_E B D n) (fs_co B D n) l h → (∀ a x, ¬ (273 ≤ a ∧ a ≤ 275) → h a x = h0 a x) → kc_Ev g (d + 2) wk_m105 (fun rv h' => rv = none ∧ kd_wt kd_ty h' ∧ fs_sp (fs_F B D n) (fs_E B D n) (fs_co B D n) L h' ∧ ∀ a x, ¬ (273 ≤ a ∧ a ≤ 275) → h' a x = h0 a x) 9 [(2, .inl (Int32.ofNat l)), (1, .inl (Int32.ofNat n)), (0, .inr (.inr (.inl (some 259))))] [] h := by
  intro u
  induction u with
  | zero =>
    intro l h hu hl' hw hsp hF
    have hC : fu_B B h := fun j hj ht => (hF 260 j (by decide)).trans (hC0 j hj ht)
    refine kx_go 2 (pc' := 11) (L' := [(2, .inl (Int32.ofNat l)), (1, .inl (Int32.ofNat n)), (0, .inr (.inr (.inl (some 259))))]) (S' := [.inr (.inr (.inl (some 259))), .inl (Int32.ofNat l)]) (h' := h) (by with_unfolding_all rfl) ?_
    refine kx_getf (c := 259) (v := .inr (.inr (.inl (some 260)))) rfl (by decide) (kx_ofr (hw _ _ _ fs_k259_0)) ?_
    refine kx_go 1 (pc' := 15) (L' := [(2, .inl (Int32.ofNat l)), (1, .inl (Int32.ofNat n)), (0, .inr (.inr (.inl (some 259))))]) (S' := [.inl (Int32.ofNat 2), .inr (.inr (.inl (some 260))), .inl (Int32.ofNat l)]) (h' := h) (by with_unfolding_all rfl) ?_
    refine kx_iald (c := 260) (j := 2) (m := 650) (v := .inl (Int32.ofNat L)) rfl rfl (by decide) (by decide) (by omega) ((hC 2 (by decide) (by decide)).trans (by rw [eL])) ?_
    refine kx_go 1 (pc' := (if kc_cnd .ge (Int32.ofNat l).toInt (Int32.ofNat L).toInt then 122 else 19)) (L' := [(2, .inl (Int32.ofNat l)), (1, .inl (Int32.ofNat n)), (0, .inr (.inr (.inl (some 259))))]) (S' := []) (h' := h) (by with_unfolding_all rfl) ?_
    rw [if_pos ((kx_ge (by omega) (by omega)).mpr (by omega))]
    obtain rfl : l = L := by omega
    exact kc_ret_ok rfl (rv := none) rfl ⟨rfl, hw, hsp, hF⟩
  | succ u ih =>
    intro l h hu hl' hw hsp hF
    have hC : fu_B B h := fun j hj ht => (hF 260 j (by decide)).trans (hC0 j hj ht)
    refine kx_go 2 (pc' := 11) (L' := [(2, .inl (Int32.ofNat l)), (1, .inl (Int32.ofNat n)), (0, .inr (.inr (.inl (some 259))))]) (S' := [.inr (.inr (.inl (some 259))), .inl (Int32.ofNat l)]) (h' := h) (by with_unfolding_all rfl) ?_
    refine kx_getf (c := 259) (v := .inr (.inr (.inl (some 260)))) rfl (by decide) (kx_ofr (hw _ _ _ fs_k259_0)) ?_
    refine kx_go 1 (pc' := 15) (L' := [(2, .inl (Int32.ofNat l)), (1, .inl (Int32.ofNat n)), (0, .inr (.inr (.inl (some 259))))]) (S' := [.inl (Int32.ofNat 2), .inr (.inr (.inl (some 260))), .inl (Int32.ofNat l)]) (h' := h) (by with_unfolding_all rfl) ?_
    refine kx_iald (c := 260) (j := 2) (m := 650) (v := .inl (Int32.ofNat L)) rfl rfl (by decide) (by decide) (by omega) ((hC 2 (by decide) (by decide)).trans (by rw [eL])) ?_
    refine kx_go 1 (pc' := (if kc_cnd .ge (Int32.ofNat l).toInt (Int32.ofNat L).toInt then 122 else 19)) (L' := [(2, .inl (Int32.ofNat l)), (1, .inl (Int32.ofNat n)), (0, .inr (.inr (.inl (some 259))))]) (S' := []) (h' := h) (by with_unfolding_all rfl) ?_
    rw [if_neg (fun q => by have := (kx_ge (by omega) (by omega)).mp q; omega)]
    have hl10 : l < 10 := by omega
    have t := fa_tl l hl10
    have q2 := fa_nl (e := 2) hB hl10 (by decide) (by decide) t.2.2.1
    have q3 := fa_nl (e := 3) hB hl10 (by decide) (by decide) t.2.2.2.1
    have hgb := (fs_gb (D := D) (L := L) hB hn hL).2.2.1 l (by omega)
    refine kx_go 4 (pc' := 23) (L' := [(2, .inl (Int32.ofNat l)), (1, .inl (Int32.ofNat n)), (0, .inr (.inr (.inl (some 259))))]) (S' := [.inl (Int32.ofNat 2), .inl (Int32.ofNat l), .inr (.inr (.inl (some 259))), .inr (.inr (.inl (some 259)))]) (h' := h) (by with_unfolding_all rfl) ?_
    refine kc_call_rule (M2 := wk_m237) (av := [.inr (.inr (.inl (some 259))), .inl (Int32.ofNat l), .inl (Int32.ofNat 2)]) (r := [.inr (.inr (.inl (some 259)))]) rfl rfl (kc_Con_le (fh_r237 (d := 0) (e := 2) hg hw hC hl10 (by decide)) (by omega)) (fun rv hcc hq => ?_)
    obtain ⟨rfl, e9⟩ := hq
    rw [e9]
    clear e9
    rw [q2.1]
    show kc_Ev g (d + 2) wk_m105 _ 26 [(2, .inl (Int32.ofNat l)), (1, .inl (Int32.ofNat n)), (0, .inr (.inr (.inl (some 259))))] [.inl (Int32.ofNat (fa_n B (80 + 7 * l + 2))), .inr (.inr (.inl (some 259)))] h
    refine kc_call_rule (M2 := wk_m258) (av := [.inr (.inr (.inl (some 259))), .inl (Int32.ofNat (fa_n B (80 + 7 * l + 2)))]) (r := []) rfl rfl (kc_Con_le (fs_r258 (d := 0) (D := D) (n := n) hg hw hC en hn hD hl hdl (show fa_n B (80 + 7 * l + 2) < 6 by omega)) (by omega)) (fun rv hcc hq => ?_)
    obtain ⟨rfl, e9⟩ := hq
    rw [e9]
    clear e9
    show kc_Ev g (d + 2) wk_m105 _ 29 [(2, .inl (Int32.ofNat l)), (1, .inl (Int32.ofNat n)), (0, .inr (.inr (.inl (some 259))))] [.inl (fs_iv (fs_st D (fa_n B (80 + 7 * l + 2)) n))] h
    refine kx_go 5 (pc' := 34) (L' := [(3, .inl (fs_iv (fs_st D (fa_n B (80 + 7 * l + 2)) n))), (2, .inl (Int32.ofNat l)), (1, .inl (Int32.ofNat n)), (0, .inr (.inr (.inl (some 259))))]) (S' := [.inl (Int32.ofNat 3), .inl (Int32.ofNat l), .inr (.inr (.inl (some 259))), .inr (.inr (.inl (some 259)))]) (h' := h) (by with_unfolding_all rfl) ?_
    refine kc_call_rule (M2 := wk_m237) (av := [.inr (.inr (.inl (some 259))), .inl (Int32.ofNat l), .inl (Int32.ofNat 3)]) (r := [.inr (.inr (.inl (some 259)))]) rfl rfl (kc_Con_le (fh_r237 (d := 0) (e := 3) hg hw hC hl10 (by decide)) (by omega)) (fun rv hcc hq => ?_)
    obtain ⟨rfl, e9⟩ := hq
    rw [e9]
    clear e9
    rw [q3.1]
    show kc_Ev g (d + 2) wk_m105 _ 37 [(3, .inl (fs_iv (fs_st D (fa_n B (80 + 7 * l + 2)) n))), (2, .inl (Int32.ofNat l)), (1, .inl (Int32.ofNat n)), (0, .inr (.inr (.inl (some 259))))] [.inl (Int32.ofNat (fa_n B (80 + 7 * l + 3))), .inr (.inr (.inl (some 259)))] h
    refine kc_call_rule (M2 := wk_m258) (av := [.inr (.inr (.inl (some 259))), .inl (Int32.ofNat (fa_n B (80 + 7 * l + 3)))]) (r := []) rfl rfl (kc_Con_le (fs_r258 (d := 0) (D := D) (n := n) hg hw hC en hn hD hl hdl (show fa_n B (80 + 7 * l + 3) < 6 by omega)) (by omega)) (fun rv hcc hq => ?_)
    obtain ⟨rfl, e9⟩ := hq
    rw [e9]
    clear e9
    show kc_Ev g (d + 2) wk_m105 _ 40 [(3, .inl (fs_iv (fs_st D (fa_n B (80 + 7 * l + 2)) n))), (2, .inl (Int32.ofNat l)), (1, .inl (Int32.ofNat n)), (0, .inr (.inr (.inl (some 259))))] [.inl (fs_iv (fs_st D (fa_n B (80 + 7 * l + 3)) n))] h
    refine kx_go 2 (pc' := 43) (L' := [(4, .inl (fs_iv (fs_st D (fa_n B (80 + 7 * l + 3)) n))), (3, .inl (fs_iv (fs_st D (fa_n B (80 + 7 * l + 2)) n))), (2, .inl (Int32.ofNat l)), (1, .inl (Int32.ofNat n)), (0, .inr (.inr (.inl (some 259))))]) (S' := [.inr (.inr (.inl (some 259)))]) (h' := h) (by with_unfolding_all rfl) ?_
    refine kx_getf (c := 259) (v := .inr (.inr (.inl (some 273)))) rfl (by decide) (kx_ofr (hw _ _ _ fs_k259_27)) ?_
    refine kx_go 4 (pc' := (if kc_cnd .ne (fs_iv (fs_st D (fa_n B (80 + 7 * l + 2)) n)).toInt (Int32.ofInt (-2)).toInt then 57 else 53)) (L' := [(4, .inl (fs_iv (fs_st D (fa_n B (80 + 7 * l + 3)) n))), (3, .inl (fs_iv (fs_st D (fa_n B (80 + 7 * l + 2)) n))), (2, .inl (Int32.ofNat l)), (1, .inl (Int32.ofNat n)), (0, .inr (.inr (.inl (some 259))))]) (S' := [.inl (Int32.ofNat l), .inr (.inr (.inl (some 273)))]) (h' := h) (by with_unfolding_all rfl) ?_
    have s2 := fun (_ : Unit) => fs_ivn (o := fs_st D (fa_n B (80 + 7 * l + 2)) n) (n := n) (fun k => fs_st_le n) hn
    have s3 := fun (_ : Unit) => fs_ivn (o := fs_st D (fa_n B (80 + 7 * l + 3)) n) (n := n) (fun k => fs_st_le n) hn
    have put : kc_Ev g (d + 2) wk_m105 (fun rv h' => rv = none ∧ kd_wt kd_ty h' ∧ fs_sp (fs_F B D n) (fs_E B D n) (fs_co B D n) L h' ∧ ∀ a x, ¬ (273 ≤ a ∧ a ≤ 275) → h' a x = h0 a x) 60 [(4, .inl (fs_iv (fs_st D (fa_n B (80 + 7 * l + 3)) n))), (3, .inl (fs_iv (fs_st D (fa_n B (80 + 7 * l + 2)) n))), (2, .inl (Int32.ofNat l)), (1, .inl (Int32.ofNat n)), (0, .inr (.inr (.inl (some 259))))] ([.inl (Int32.ofNat (fs_F B D n l)), .inl (Int32.ofNat l), .inr (.inr (.inl (some 273)))]) h := by
      refine kx_iast (c := 273) (j := l) (m := 10) rfl rfl (by decide) (by decide) (by omega) ?_
      have hw1 : kd_wt kd_ty (kc_upd h 273 l (.inl (Int32.ofNat (fs_F B D n l)))) := fa_wn (fs_k273.1 l hl10) (show fs_F B D n l ≤ 5 by omega) (by decide) hw
      refine kx_go 1 (pc' := 62) (L' := [(4, .inl (fs_iv (fs_st D (fa_n B (80 + 7 * l + 3)) n))), (3, .inl (fs_iv (fs_st D (fa_n B (80 + 7 * l + 2)) n))), (2, .inl (Int32.ofNat l)), (1, .inl (Int32.ofNat n)), (0, .inr (.inr (.inl (some 259))))]) (S' := [.inr (.inr (.inl (some 259)))]) (h' := (kc_upd h 273 l (.inl (Int32.ofNat (fs_F B D n l))))) (by with_unfolding_all rfl) ?_
      refine kx_getf (c := 259) (v := .inr (.inr (.inl (some 275)))) rfl (by decide) (kx_ofr (hw1 _ _ _ fs_k259_29)) ?_
      refine kx_go 2 (pc' := 67) (L' := [(4, .inl (fs_iv (fs_st D (fa_n B (80 + 7 * l + 3)) n))), (3, .inl (fs_iv (fs_st D (fa_n B (80 + 7 * l + 2)) n))), (2, .inl (Int32.ofNat l)), (1, .inl (Int32.ofNat n)), (0, .inr (.inr (.inl (some 259))))]) (S' := [.inr (.inr (.inl (some 259))), .inl (Int32.ofNat l), .inr (.inr (.inl (some 275)))]) (h' := (kc_upd h 273 l (.inl (Int32.ofNat (fs_F B D n l))))) (by with_unfolding_all rfl) ?_
      refine kx_getf (c := 259) (v := .inr (.inr (.inl (some 273)))) rfl (by decide) (kx_ofr (hw1 _ _ _ fs_k259_27)) ?_
      refine kx_go 1 (pc' := 71) (L' := [(4, .inl (fs_iv (fs_st D (fa_n B (80 + 7 * l + 3)) n))), (3, .inl (fs_iv (fs_st D (fa_n B (80 + 7 * l + 2)) n))), (2, .inl (Int32.ofNat l)), (1, .inl (Int32.ofNat n)), (0, .inr (.inr (.inl (some 259))))]) (S' := [.inl (Int32.ofNat l), .inr (.inr (.inl (some 273))), .inl (Int32.ofNat l), .inr (.inr (.inl (some 275)))]) (h' := (kc_upd h 273 l (.inl (Int32.ofNat (fs_F B D n l))))) (by with_unfolding_all rfl) ?_
      refine kx_iald (c := 273) (j := l) (m := 10) (v := .inl (Int32.ofNat (fs_F B D n l))) rfl rfl (by decide) (by decide) (by omega) fu_eq ?_
      refine kx_go 2 (pc' := (if kc_cnd .ge (Int32.ofNat (fs_F B D n l)).toInt (Int32.ofNat n).toInt then 91 else 76)) (L' := [(4, .inl (fs_iv (fs_st D (fa_n B (80 + 7 * l + 3)) n))), (3, .inl (fs_iv (fs_st D (fa_n B (80 + 7 * l + 2)) n))), (2, .inl (Int32.ofNat l)), (1, .inl (Int32.ofNat n)), (0, .inr (.inr (.inl (some 259))))]) (S' := [.inl (Int32.ofNat l), .inr (.inr (.inl (some 275)))]) (h' := (kc_upd h 273 l (.inl (Int32.ofNat (fs_F B D n l))))) (by with_unfolding_all rfl) ?_
      have third : ∀ (b : Bool), b = fs_co B D n l → kc_Ev g (d + 2) wk_m105 (fun rv h' => rv = none ∧ kd_wt kd_ty h' ∧ fs_sp (fs_F B D n) (fs_E B D n) (fs_co B D n) L h' ∧ ∀ a x, ¬ (273 ≤ a ∧ a ≤ 275) → h' a x = h0 a x) 92 [(4, .inl (fs_iv (fs_st D (fa_n B (80 + 7 * l + 3)) n))), (3, .inl (fs_iv (fs_st D (fa_n B (80 + 7 * l + 2)) n))), (2, .inl (Int32.ofNat l)), (1, .inl (Int32.ofNat n)), (0, .inr (.inr (.inl (some 259))))] [.inl (kp_b b), .inl (Int32.ofNat l), .inr (.inr (.inl (some 275)))] (kc_upd h 273 l (.inl (Int32.ofNat (fs_F B D n l)))) := by
        intro b eb
        refine kx_bast (c := 275) (j := l) (m := 10) rfl rfl (by decide) (by decide) hl10 ?_
        have hw2 : kd_wt kd_ty (kc_upd (kc_upd h 273 l (.inl (Int32.ofNat (fs_F B D n l)))) 275 l (.inl (kp_b b))) := fs_wb (fs_k273.2.2.1 l hl10) hw1
        refine kx_go 1 (pc' := 94) (L' := [(4, .inl (fs_iv (fs_st D (fa_n B (80 + 7 * l + 3)) n))), (3, .inl (fs_iv (fs_st D (fa_n B (80 + 7 * l + 2)) n))), (2, .inl (Int32.ofNat l)), (1, .inl (Int32.ofNat n)), (0, .inr (.inr (.inl (some 259))))]) (S' := [.inr (.inr (.inl (some 259)))]) (h' := (kc_upd (kc_upd h 273 l (.inl (Int32.ofNat (fs_F B D n l)))) 275 l (.inl (kp_b b)))) (by with_unfolding_all rfl) ?_
        refine kx_getf (c := 259) (v := .inr (.inr (.inl (some 274)))) rfl (by decide) (kx_ofr (hw2 _ _ _ fs_k259_28)) ?_
        refine kx_go 2 (pc' := 99) (L' := [(4, .inl (fs_iv (fs_st D (fa_n B (80 + 7 * l + 3)) n))), (3, .inl (fs_iv (fs_st D (fa_n B (80 + 7 * l + 2)) n))), (2, .inl (Int32.ofNat l)), (1, .inl (Int32.ofNat n)), (0, .inr (.inr (.inl (some 259))))]) (S' := [.inr (.inr (.inl (some 259))), .inl (Int32.ofNat l), .inr (.inr (.inl (some 274)))]) (h' := (kc_upd (kc_upd h 273 l (.inl (Int32.ofNat (fs_F B D n l)))) 275 l (.inl (kp_b b)))) (by with_unfolding_all rfl) ?_
        refine kx_getf (c := 259) (v := .inr (.inr (.inl (some 275)))) rfl (by decide) (kx_ofr (hw2 _ _ _ fs_k259_29)) ?_
        refine kx_go 1 (pc' := 103) (L' := [(4, .inl (fs_iv (fs_st D (fa_n B (80 + 7 * l + 3)) n))), (3, .inl (fs_iv (fs_st D (fa_n B (80 + 7 * l + 2)) n))), (2, .inl (Int32.ofNat l)), (1, .inl (Int32.ofNat n)), (0, .inr (.inr (.inl (some 259))))]) (S' := [.inl (Int32.ofNat l), .inr (.inr (.inl (some 275))), .inl (Int32.ofNat l), .inr (.inr (.inl (some 274)))]) (h' := (kc_upd (kc_upd h 273 l (.inl (Int32.ofNat (fs_F B D n l)))) 275 l (.inl (kp_b b)))) (by with_unfolding_all rfl) ?_
        refine kx_bald (c := 275) (j := l) (m := 10) (v := .inl (kp_b b)) rfl rfl (by decide) (by decide) (by omega) fu_eq ?_
        refine kx_go 1 (pc' := (if kc_cnd .eq (kp_b b).toInt 0 then 112 else 107)) (L' := [(4, .inl (fs_iv (fs_st D (fa_n B (80 + 7 * l + 3)) n))), (3, .inl (fs_iv (fs_st D (fa_n B (80 + 7 * l + 2)) n))), (2, .inl (Int32.ofNat l)), (1, .inl (Int32.ofNat n)), (0, .inr (.inr (.inl (some 259))))]) (S' := [.inl (Int32.ofNat l), .inr (.inr (.inl (some 274)))]) (h' := (kc_upd (kc_upd h 273 l (.inl (Int32.ofNat (fs_F B D n l)))) 275 l (.inl (kp_b b)))) (by with_unfolding_all rfl) ?_
        have fin : kc_Ev g (d + 2) wk_m105 (fun rv h' => rv = none ∧ kd_wt kd_ty h' ∧ fs_sp (fs_F B D n) (fs_E B D n) (fs_co B D n) L h' ∧ ∀ a x, ¬ (273 ≤ a ∧ a ≤ 275) → h' a x = h0 a x) 115 [(4, .inl (fs_iv (fs_st D (fa_n B (80 + 7 * l + 3)) n))), (3, .inl (fs_iv (fs_st D (fa_n B (80 + 7 * l + 2)) n))), (2, .inl (Int32.ofNat l)), (1, .inl (Int32.ofNat n)), (0, .inr (.inr (.inl (some 259))))] [.inl (Int32.ofInt (((fs_E B D n l : Nat) : Int) - 1)), .inl (Int32.ofNat l), .inr (.inr (.inl (some 274)))] (kc_upd (kc_upd h 273 l (.inl (Int32.ofNat (fs_F B D n l)))) 275 l (.inl (kp_b b))) := by
          refine kx_iast (c := 274) (j := l) (m := 10) rfl rfl (by decide) (by decide) hl10 ?_
          refine kx_go 2 (pc' := 9) (L' := [(2, .inl ((Int32.ofNat l) + Int32.ofInt 1)), (4, .inl (fs_iv (fs_st D (fa_n B (80 + 7 * l + 3)) n))), (3, .inl (fs_iv (fs_st D (fa_n B (80 + 7 * l + 2)) n))), (1, .inl (Int32.ofNat n)), (0, .inr (.inr (.inl (some 259))))]) (S' := []) (h' := (kc_upd (kc_upd (kc_upd h 273 l (.inl (Int32.ofNat (fs_F B D n l)))) 275 l (.inl (kp_b b))) 274 l (.inl (Int32.ofInt (((fs_E B D n l : Nat) : Int) - 1))))) (by with_unfolding_all rfl) ?_
          rw [kx_inc]
          refine kf_lo (L := [(2, .inl (Int32.ofNat (l + 1))), (1, .inl (Int32.ofNat n)), (0, .inr (.inr (.inl (some 259))))]) (by intro q hq; simp only [List.mem_cons, List.not_mem_nil, or_false] at hq; rcases hq with rfl | rfl | rfl <;> rfl) ?_
          refine ih (l + 1) _ (by omega) (by omega) (fa_wa (fs_k273.2.1 l hl10) hw2) ⟨fun j hj => ?_, fun j hj => ?_, fun j hj => ?_⟩ (fun a y ha => (fu_ne (by omega)).trans ((fu_ne (by omega)).trans ((fu_ne (by omega)).trans (hF a y ha))))
          · by_cases e : j = l
            · rw [e, fu_ne (by omega), fu_ne (by omega), fu_eq]
            · rw [fu_ne (by omega), fu_ne (by omega), fu_ne (fun q => e q.2)]; exact hsp.1 j (by omega)
          · by_cases e : j = l
            · rw [e, fu_eq]
            · rw [fu_ne (fun q => e q.2), fu_ne (by omega), fu_ne (by omega)]; exact hsp.2.1 j (by omega)
          · by_cases e : j = l
            · rw [e, fu_ne (by omega), fu_eq, eb]
            · rw [fu_ne (by omega), fu_ne (fun q => e q.2), fu_ne (by omega)]; exact hsp.2.2 j (by omega)
        cases b with
        | true =>
          rw [if_neg fa_b0t]
          have e3 : fs_iv (fs_st D (fa_n B (80 + 7 * l + 3)) n) = Int32.ofInt (((fs_E B D n l : Nat) : Int) - 1) := by
            have ec := eb.symm
            unfold fs_E
            rw [if_pos ec]
            rcases s3 () with ⟨e1, e2, e0⟩ | ⟨k, e0, e1, e2, e4⟩
            · unfold fs_co at ec
              rw [e0] at ec
              unfold fs_gt at ec
              rw [Bool.and_false] at ec
              cases ec
            · rw [e2, e4]
          refine kx_go 2 (pc' := 115) (L' := [(4, .inl (fs_iv (fs_st D (fa_n B (80 + 7 * l + 3)) n))), (3, .inl (fs_iv (fs_st D (fa_n B (80 + 7 * l + 2)) n))), (2, .inl (Int32.ofNat l)), (1, .inl (Int32.ofNat n)), (0, .inr (.inr (.inl (some 259))))]) (S' := [.inl (fs_iv (fs_st D (fa_n B (80 + 7 * l + 3)) n)), .inl (Int32.ofNat l), .inr (.inr (.inl (some 274)))]) (h' := (kc_upd (kc_upd h 273 l (.inl (Int32.ofNat (fs_F B D n l)))) 275 l (.inl (kp_b true)))) (by with_unfolding_all rfl) ?_
          have k9 := fin
          rw [← e3] at k9
          exact k9
        | false =>
          rw [if_pos (kx_b0.mpr rfl)]
          have e3 : Int32.ofNat n - Int32.ofNat 1 = Int32.ofInt (((fs_E B D n l : Nat) : Int) - 1) := by
            rw [fs_im3, hgb.2.2.2 eb.symm]
          refine kx_go 3 (pc' := 115) (L' := [(4, .inl (fs_iv (fs_st D (fa_n B (80 + 7 * l + 3)) n))), (3, .inl (fs_iv (fs_st D (fa_n B (80 + 7 * l + 2)) n))), (2, .inl (Int32.ofNat l)), (1, .inl (Int32.ofNat n)), (0, .inr (.inr (.inl (some 259))))]) (S' := [.inl ((Int32.ofNat n) - (Int32.ofNat 1)), .inl (Int32.ofNat l), .inr (.inr (.inl (some 274)))]) (h' := (kc_upd (kc_upd h 273 l (.inl (Int32.ofNat (fs_F B D n l)))) 275 l (.inl (kp_b false)))) (by with_unfolding_all rfl) ?_
          rw [e3]
          exact fin
      by_cases c1 : fs_F B D n l < n
      · rw [if_neg (fun q => by have := (kx_ge (by omega) (by omega)).mp q; omega)]
        refine kx_go 2 (pc' := 79) (L' := [(4, .inl (fs_iv (fs_st D (fa_n B (80 + 7 * l + 3)) n))), (3, .inl (fs_iv (fs_st D (fa_n B (80 + 7 * l + 2)) n))), (2, .inl (Int32.ofNat l)), (1, .inl (Int32.ofNat n)), (0, .inr (.inr (.inl (some 259))))]) (S' := [.inr (.inr (.inl (some 259))), .inl (fs_iv (fs_st D (fa_n B (80 + 7 * l + 3)) n)), .inl (Int32.ofNat l), .inr (.inr (.inl (some 275)))]) (h' := (kc_upd h 273 l (.inl (Int32.ofNat (fs_F B D n l))))) (by with_unfolding_all rfl) ?_
        refine kx_getf (c := 259) (v := .inr (.inr (.inl (some 273)))) rfl (by decide) (kx_ofr (hw1 _ _ _ fs_k259_27)) ?_
        refine kx_go 1 (pc' := 83) (L' := [(4, .inl (fs_iv (fs_st D (fa_n B (80 + 7 * l + 3)) n))), (3, .inl (fs_iv (fs_st D (fa_n B (80 + 7 * l + 2)) n))), (2, .inl (Int32.ofNat l)), (1, .inl (Int32.ofNat n)), (0, .inr (.inr (.inl (some 259))))]) (S' := [.inl (Int32.ofNat l), .inr (.inr (.inl (some 273))), .inl (fs_iv (fs_st D (fa_n B (80 + 7 * l + 3)) n)), .inl (Int32.ofNat l), .inr (.inr (.inl (some 275)))]) (h' := (kc_upd h 273 l (.inl (Int32.ofNat (fs_F B D n l))))) (by with_unfolding_all rfl) ?_
        refine kx_iald (c := 273) (j := l) (m := 10) (v := .inl (Int32.ofNat (fs_F B D n l))) rfl rfl (by decide) (by decide) (by omega) fu_eq ?_
        refine kx_go 1 (pc' := (if kc_cnd .lt (fs_iv (fs_st D (fa_n B (80 + 7 * l + 3)) n)).toInt (Int32.ofNat (fs_F B D n l)).toInt then 91 else 87)) (L' := [(4, .inl (fs_iv (fs_st D (fa_n B (80 + 7 * l + 3)) n))), (3, .inl (fs_iv (fs_st D (fa_n B (80 + 7 * l + 2)) n))), (2, .inl (Int32.ofNat l)), (1, .inl (Int32.ofNat n)), (0, .inr (.inr (.inl (some 259))))]) (S' := [.inl (Int32.ofNat l), .inr (.inr (.inl (some 275)))]) (h' := (kc_upd h 273 l (.inl (Int32.ofNat (fs_F B D n l))))) (by with_unfolding_all rfl) ?_
        have c3 : (fs_co B D n l = true) ↔ ¬ (fs_iv (fs_st D (fa_n B (80 + 7 * l + 3)) n)).toInt < (Int32.ofNat (fs_F B D n l)).toInt := by
          have ec : fs_co B D n l = fs_gt (fs_F B D n l) (fs_st D (fa_n B (80 + 7 * l + 3)) n) := by unfold fs_co; rw [decide_eq_true c1, Bool.true_and]
          rw [ec, kx_ti (show fs_F B D n l < 2147483648 by omega)]
          rcases s3 () with ⟨e1, e2, e0⟩ | ⟨k, e0, e1, e2, e4⟩
          · rw [e0]
            show (false = true) ↔ ¬ (Int32.ofInt (-2)).toInt < _
            rw [show (Int32.ofInt (-2)).toInt = -2 by decide]
            exact ⟨fun q => (by cases q), fun q => (q (by omega)).elim⟩
          · rw [e2, fs_ti (by omega) (by omega), e0]
            show decide (fs_F B D n l < k) = true ↔ _
            rw [decide_eq_true_eq]
            omega
        cases ec : fs_co B D n l with
        | true =>
          rw [if_neg (fun q => (c3.mp ec) (fu_ilt.mp q))]
          refine kx_go 2 (pc' := 92) (L' := [(4, .inl (fs_iv (fs_st D (fa_n B (80 + 7 * l + 3)) n))), (3, .inl (fs_iv (fs_st D (fa_n B (80 + 7 * l + 2)) n))), (2, .inl (Int32.ofNat l)), (1, .inl (Int32.ofNat n)), (0, .inr (.inr (.inl (some 259))))]) (S' := [.inl (Int32.ofNat 1), .inl (Int32.ofNat l), .inr (.inr (.inl (some 275)))]) (h' := (kc_upd h 273 l (.inl (Int32.ofNat (fs_F B D n l))))) (by with_unfolding_all rfl) ?_
          exact third true ec.symm
        | false =>
          rw [if_pos (fu_ilt.mpr (by
            refine Decidable.byContradiction (fun q => ?_)
            have := c3.mpr q
            rw [ec] at this
            cases this))]
          refine kx_go 1 (pc' := 92) (L' := [(4, .inl (fs_iv (fs_st D (fa_n B (80 + 7 * l + 3)) n))), (3, .inl (fs_iv (fs_st D (fa_n B (80 + 7 * l + 2)) n))), (2, .inl (Int32.ofNat l)), (1, .inl (Int32.ofNat n)), (0, .inr (.inr (.inl (some 259))))]) (S' := [.inl (Int32.ofNat 0), .inl (Int32.ofNat l), .inr (.inr (.inl (some 275)))]) (h' := (kc_upd h 273 l (.inl (Int32.ofNat (fs_F B D n l))))) (by with_unfolding_all rfl) ?_
          exact third false ec.symm
      · rw [if_pos ((kx_ge (by omega) (by omega)).mpr (by omega))]
        have ec : fs_co B D n l = false := by unfold fs_co; rw [decide_eq_false c1, Bool.false_and]
        refine kx_go 1 (pc' := 92) (L' := [(4, .inl (fs_iv (fs_st D (fa_n B (80 + 7 * l + 3)) n))), (3, .inl (fs_iv (fs_st D (fa_n B (80 + 7 * l + 2)) n))), (2, .inl (Int32.ofNat l)), (1, .inl (Int32.ofNat n)), (0, .inr (.inr (.inl (some 259))))]) (S' := [.inl (Int32.ofNat 0), .inl (Int32.ofNat l), .inr (.inr (.inl (some 275)))]) (h' := (kc_upd h 273 l (.inl (Int32.ofNat (fs_F B D n l))))) (by with_unfolding_all rfl) ?_
        exact third false ec.symm
    rcases s2 () with ⟨e1, e2, e0⟩ | ⟨k, e0, e1, e2, e4⟩
    · have eF : fs_F B D n l = n := e2
      rw [if_neg (fun q => (fu_ine.mp q) (by rw [e1]))]
      refine kx_go 2 (pc' := 60) (L' := [(4, .inl (fs_iv (fs_st D (fa_n B (80 + 7 * l + 3)) n))), (3, .inl (fs_iv (fs_st D (fa_n B (80 + 7 * l + 2)) n))), (2, .inl (Int32.ofNat l)), (1, .inl (Int32.ofNat n)), (0, .inr (.inr (.inl (some 259))))]) (S' := [.inl (Int32.ofNat n), .inl (Int32.ofNat l), .inr (.inr (.inl (some 273)))]) (h' := h) (by with_unfolding_all rfl) ?_
      have k9 := put
      rw [eF] at k9
      exact k9
    · have eF : fs_F B D n l = k := e4
      rw [if_pos (fu_ine.mpr (by rw [e2, fs_ti (by omega) (by omega), show (Int32.ofInt (-2)).toInt = -2 by decide]; omega))]
      refine kx_go 3 (pc' := 60) (L' := [(4, .inl (fs_iv (fs_st D (fa_n B (80 + 7 * l + 3)) n))), (3, .inl (fs_iv (fs_st D (fa_n B (80 + 7 * l + 2)) n))), (2, .inl (Int32.ofNat l)), (1, .inl (Int32.ofNat n)), (0, .inr (.inr (.inl (some 259))))]) (S' := [.inl ((fs_iv (fs_st D (fa_n B (80 + 7 * l + 2)) n)) + (Int32.ofNat 1)), .inl (Int32.ofNat l), .inr (.inr (.inl (some 273)))]) (h' := h) (by with_unfolding_all rfl) ?_
      have k9 := put
      rw [eF] at k9
      have e5 : fs_iv (fs_st D (fa_n B (80 + 7 * l + 2)) n) + Int32.ofNat 1 = Int32.ofNat k := by rw [e2, fs_im4]
      rw [e5]
      exact k9
set_option maxRecDepth 20000 in
theorem fs_r105 {g : kc_G} {d : Nat} {h0 : kc_H} {B : Nat → Int32} {D : Nat → Nat} {n L : Nat} (hw0 : kd_wt kd_ty h0) (hg : kc_ok g) (hB : fu_BT B) (hC0 : fu_B B h0) (en : B 3 = Int32.ofNat n) (eL : B 2 = Int32.ofNat L) (hL : L ≤ 10) (hn : n ≤ 5) (hD : ∀ k, k < n → B (150 + k) = Int32.ofNat (D k)) (hl : ∀ k, D k < 6) (hdl : ∀ i j, i < n → j < n → D i = D j → i = j) : kc_Con g (d + 3) 105 [.inr (.inr (.inl (some 259)))] h0 (fun rv h' => rv = none ∧ kd_wt kd_ty h' ∧ fs_sp (fs_F B D n) (fs_E B D n) (fs_co B D n) L h' ∧ ∀ a x, ¬ (273 ≤ a ∧ a ≤ 275) → h' a x = h0 a x) := by
  refine kc_Con_new hg (M := wk_m105) rfl rfl rfl (show 1 ≤ 5 by decide) ?_
  have hC := hC0
  refine kx_go 1 (pc' := 1) (L' := [(0, .inr (.inr (.inl (some 259))))]) (S' := [.inr (.inr (.inl (some 259)))]) (h' := h0) (by with_unfolding_all rfl) ?_
  refine kx_getf (c := 259) (v := .inr (.inr (.inl (some 260)))) rfl (by decide) (kx_ofr (hw0 _ _ _ fs_k259_0)) ?_
  refine kx_go 1 (pc' := 5) (L' := [(0, .inr (.inr (.inl (some 259))))]) (S' := [.inl (Int32.ofNat 3), .inr (.inr (.inl (some 260)))]) (h' := h0) (by with_unfolding_all rfl) ?_
  refine kx_iald (c := 260) (j := 3) (m := 650) (v := .inl (Int32.ofNat n)) rfl rfl (by decide) (by decide) (by omega) ((hC 3 (by decide) (by decide)).trans (by rw [en])) ?_
  refine kx_go 3 (pc' := 9) (L' := [(2, .inl (Int32.ofNat 0)), (1, .inl (Int32.ofNat n)), (0, .inr (.inr (.inl (some 259))))]) (S' := []) (h' := h0) (by with_unfolding_all rfl) ?_
  exact fs_r105l hg hB hC0 en eL hL hn hD hl hdl L 0 h0 (by omega) (by omega) hw0 ⟨fun j hj => by omega, fun j hj => by omega, fun j hj => by omega⟩ (fun _ _ _ => rfl)
end
