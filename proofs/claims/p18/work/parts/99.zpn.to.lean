section
-- 99.zpn
/-! ===== what the acts hold, by places: 0 right, 1 wrong, 2 miles, 3 minutes, 4 the place, 5 goings; 10 + l where a LOAD is; 20 + s how high a SIDE; 30 + s its STONES; 40 + 3 s + k its pile; 60 + p STONES that lie; 70 + m sore ===== -/
def fa_n (B : Nat → Int32) (j : Nat) : Nat := (B j).toInt.toNat
def fa_w (B : Nat → Int32) (l g : Nat) : Nat := fa_n B (80 + 7 * l + 0) - fa_n B (80 + 7 * l + 5) * g
def fa_b (B : Nat → Int32) (A : Nat → Nat) (s : Nat) : Nat → Nat
  | 0 => A (30 + s) * fa_n B 4
  | k + 1 => fa_b B A s k + fa_w B (A (40 + 3 * s + k)) (A 5)
/-- what a SIDE bears -/
def fa_bw (B : Nat → Int32) (A : Nat → Nat) (s : Nat) : Nat := fa_b B A s (A (20 + s))
def fa_hd (B : Nat → Int32) (l : Nat) : Bool := decide (fa_n B (80 + 7 * l + 1) = 1)
def fa_C (A : Nat → Nat) (L : Nat) (h : kc_H) : Prop := (h 190 2 = .inl (Int32.ofNat (A 0)) ∧ h 190 3 = .inl (Int32.ofNat (A 1)) ∧ h 190 4 = .inl (Int32.ofNat (A 2)) ∧ h 190 5 = .inl (Int32.ofNat (A 3)) ∧ h 190 6 = .inl (Int32.ofNat (A 4)) ∧ h 190 14 = .inl (Int32.ofNat (A 5))) ∧ (∀ l, l < L → h 191 l = .inl (Int32.ofNat (A (10 + l)))) ∧ (∀ s, s < 6 → h 192 s = .inl (Int32.ofNat (A (20 + s)))) ∧ (∀ s, s < 6 → h 193 s = .inl (Int32.ofNat (A (30 + s)))) ∧ (∀ s, s < 6 → ∀ k, k < A (20 + s) → h (195 + s) k = .inl (Int32.ofNat (A (40 + 3 * s + k)))) ∧ (∀ p, p < 6 → h 201 p = .inl (Int32.ofNat (A (60 + p)))) ∧ (∀ m, m < 3 → h 202 m = .inl (Int32.ofNat (A (70 + m))))
def fa_R (A : Nat → Nat) (L : Nat) (h : kc_H) : Prop := (h 259 24 = .inl (Int32.ofNat (A 0)) ∧ h 259 25 = .inl (Int32.ofNat (A 1)) ∧ h 259 22 = .inl (Int32.ofNat (A 2)) ∧ h 259 23 = .inl (Int32.ofNat (A 3)) ∧ h 259 20 = .inl (Int32.ofNat (A 4)) ∧ h 259 21 = .inl (Int32.ofNat (A 5))) ∧ (∀ l, l < L → h 266 l = .inl (Int32.ofNat (A (10 + l)))) ∧ (∀ s, s < 6 → h 268 s = .inl (Int32.ofNat (A (20 + s)))) ∧ (∀ s, s < 6 → h 269 s = .inl (Int32.ofNat (A (30 + s)))) ∧ (∀ s, s < 6 → ∀ k, k < A (20 + s) → h 267 (3 * s + k) = .inl (Int32.ofNat (A (40 + 3 * s + k)))) ∧ (∀ p, p < 6 → h 270 p = .inl (Int32.ofNat (A (60 + p)))) ∧ (∀ m, m < 3 → h 271 m = .inl (Int32.ofNat (A (70 + m))))
/-- the class holds the weights at hand -/
def fa_W (B : Nat → Int32) (A : Nat → Nat) (L : Nat) (h : kc_H) : Prop := ∀ l, l < L → h 203 l = .inl (Int32.ofNat (fa_w B l (A 5)))
/-- within bounds behind i acts -/
def fa_I (B : Nat → Int32) (A : Nat → Nat) (L i : Nat) : Prop := A 0 ≤ i ∧ A 2 ≤ 99 * i ∧ A 3 ≤ 9 * i ∧ A 4 < 6 ∧ A 5 ≤ i ∧ (∀ l, l < L → A (10 + l) ≤ 15) ∧ (∀ s, s < 6 → A (20 + s) ≤ 3) ∧ (∀ s, s < 6 → A (30 + s) ≤ i) ∧ (∀ s, s < 6 → ∀ k, k < A (20 + s) → A (40 + 3 * s + k) < L) ∧ (∀ p, p < 6 → A (60 + p) ≤ 9 + i) ∧ (∀ m, m < 3 → A (70 + m) ≤ 99 * i)
/-- no MULE bears too much -/
def fa_M (B : Nat → Int32) (A : Nat → Nat) (M : Nat) : Prop := ∀ m, m < M → fa_bw B A (2 * m) + fa_bw B A (2 * m + 1) ≤ fa_n B (60 + 5 * m + 0)
theorem fa_nl {B : Nat → Int32} (hB : fu_BT B) {l e u : Nat} (hl : l < 10) (he : e < 6) (hu : u < 2147483648) (ht : fu_ty (80 + 7 * l + e) = (2147483648, 2147483648 + u)) : B (80 + 7 * l + e) = Int32.ofNat (fa_n B (80 + 7 * l + e)) ∧ fa_n B (80 + 7 * l + e) ≤ u := by
  obtain ⟨k, k1, k2⟩ := fu_nat hu ht (hB (80 + 7 * l + e) (by omega) (((fu_flo l hl).1 e (by omega)).2.2 he))
  unfold fa_n
  rw [k2, kx_ti (by omega), Int.toNat_natCast]
  exact ⟨rfl, k1⟩
theorem fa_tl : ∀ l, l < 10 → fu_ty (80 + 7 * l + 0) = (2147483648, 2147483648 + 99) ∧ fu_ty (80 + 7 * l + 1) = (2147483648, 2147483648 + 1) ∧ fu_ty (80 + 7 * l + 2) = (2147483648, 2147483648 + 5) ∧ fu_ty (80 + 7 * l + 3) = (2147483648, 2147483648 + 5) ∧ fu_ty (80 + 7 * l + 5) = (2147483648, 2147483648 + 9) := by decide +kernel
theorem fa_nm {B : Nat → Int32} (hB : fu_BT B) {m e u : Nat} (hm : m < 3) (he : e < 5) (hu : u < 2147483648) (ht : fu_ty (60 + 5 * m + e) = (2147483648, 2147483648 + u)) : B (60 + 5 * m + e) = Int32.ofNat (fa_n B (60 + 5 * m + e)) ∧ fa_n B (60 + 5 * m + e) ≤ u := by
  obtain ⟨k, k1, k2⟩ := fu_nat hu ht (hB (60 + 5 * m + e) (by omega) ((fu_fmu m hm).1 e he).2)
  unfold fa_n
  rw [k2, kx_ti (by omega), Int.toNat_natCast]
  exact ⟨rfl, k1⟩
theorem fa_tm : ∀ m, m < 3 → fu_ty (60 + 5 * m + 0) = (2147483648, 2147483648 + 999) ∧ fu_ty (60 + 5 * m + 1) = (2147483648, 2147483648 + 99) ∧ fu_ty (60 + 5 * m + 2) = (2147483648, 2147483648 + 99) ∧ fu_ty (60 + 5 * m + 3) = (2147483648, 2147483648 + 999) ∧ fu_ty (60 + 5 * m + 4) = (2147483648, 2147483648 + 999) := by decide +kernel
theorem fa_n4 {B : Nat → Int32} (hB : fu_BT B) : B 4 = Int32.ofNat (fa_n B 4) ∧ fa_n B 4 ≤ 20 := by
  obtain ⟨s, s1, s2, e⟩ := fh_st hB
  unfold fa_n
  rw [e, kx_ti (by omega), Int.toNat_natCast]
  exact ⟨rfl, s2⟩
theorem fa_wl {B : Nat → Int32} (hB : fu_BT B) {l g : Nat} (hl : l < 10) : fa_w B l g ≤ 99 := by
  have := (fa_nl (e := 0) hB hl (by decide) (by decide) (fa_tl l hl).1).2
  unfold fa_w
  omega
theorem fa_bl {B : Nat → Int32} {A : Nat → Nat} {s L i : Nat} (hB : fu_BT B) (hL : L ≤ 10) (hs : s < 6) (hI : fa_I B A L i) (hi : i ≤ 60) : ∀ k, k ≤ A (20 + s) → fa_b B A s k ≤ 1200 + 99 * k
  | 0, _ => by
    have h1 := (fa_n4 hB).2
    have h2 := hI.2.2.2.2.2.2.2.1 s hs
    have h3 := Nat.mul_le_mul (show A (30 + s) ≤ 60 by omega) h1
    unfold fa_b
    omega
  | k + 1, hk => by
    have ih := fa_bl hB hL hs hI hi k (by omega)
    have h1 := hI.2.2.2.2.2.2.2.2.1 s hs k (by omega)
    have h2 := fa_wl (g := A 5) hB (show A (40 + 3 * s + k) < 10 by omega)
    unfold fa_b
    omega
theorem fa_bwl {B : Nat → Int32} {A : Nat → Nat} {s L i : Nat} (hB : fu_BT B) (hL : L ≤ 10) (hs : s < 6) (hI : fa_I B A L i) (hi : i ≤ 60) : fa_bw B A s ≤ 1500 := by
  have h1 := fa_bl hB hL hs hI hi (A (20 + s)) (Nat.le_refl _)
  have h2 := hI.2.2.2.2.2.2.1 s hs
  unfold fa_bw
  omega
theorem fa_mx {x y : Nat} (hx : x ≤ 100000) (hy : y ≤ 100000) : (if Int32.ofNat 0 < Int32.ofNat x - Int32.ofNat y then Int32.ofNat x - Int32.ofNat y else Int32.ofNat 0) = Int32.ofNat (x - y) := by
  have e := fh_si hx hy
  have z0 : (Int32.ofNat 0).toInt = 0 := by decide
  by_cases c : y < x
  · rw [if_pos (Int32.lt_iff_toInt_lt.mpr (by rw [e, z0]; omega)), kx_sub (by omega)]
  · rw [if_neg (fun q => c (by have := Int32.lt_iff_toInt_lt.mp q; rw [e, z0] at this; omega)), show x - y = 0 by omega]
theorem fa_k : kd_rn (kd_ty 190) 0 = some (3, 1, 1) ∧ kd_rn (kd_ty 190) 1 = some (3, 127, 127) ∧ kd_rn (kd_ty 190) 7 = some (3, 191, 191) ∧ kd_rn (kd_ty 190) 8 = some (3, 192, 192) ∧ kd_rn (kd_ty 190) 9 = some (3, 193, 193) ∧ kd_rn (kd_ty 190) 10 = some (3, 194, 194) ∧ kd_rn (kd_ty 190) 11 = some (3, 201, 201) ∧ kd_rn (kd_ty 190) 12 = some (3, 202, 202) ∧ kd_rn (kd_ty 190) 13 = some (3, 203, 203) := by decide +kernel
theorem fa_kp : ∀ s, s < 6 → kd_rn (kd_ty 194) s = some (3, 195 + s, 195 + s) ∧ kc_shp (195 + s) = some (0, 0, 3) ∧ 195 + s < kc_N := by decide +kernel
theorem fa_kr : kd_rn (kd_ty 259) 14 = some (3, 266, 266) ∧ kd_rn (kd_ty 259) 15 = some (3, 267, 267) ∧ kd_rn (kd_ty 259) 16 = some (3, 268, 268) ∧ kd_rn (kd_ty 259) 17 = some (3, 269, 269) ∧ kd_rn (kd_ty 259) 18 = some (3, 270, 270) ∧ kd_rn (kd_ty 259) 19 = some (3, 271, 271) := by decide +kernel
set_option maxRecDepth 20000 in
theorem fa_c182 {g : kc_G} {d : Nat} {h : kc_H} {B : Nat → Int32} {l k : Nat} (hg : kc_ok g) (hw : kd_wt kd_ty h) (hC : fu_C B 1 h) (hB : fu_BT B) (hl : l < 10) (hk : k ≤ 60) : kc_Con g (d + 1) 182 [.inr (.inr (.inl (some 1))), .inl (Int32.ofNat l), .inl (Int32.ofNat k)] h (fun rv h' => rv = some (.inl (Int32.ofNat (fa_w B l k))) ∧ h' = h) := by
  refine kc_Con_new hg (M := wk_m182) rfl rfl rfl (show 3 ≤ 3 by decide) ?_
  refine kx_go 2 (pc' := 2) (L' := [(0, .inr (.inr (.inl (some 1)))), (1, .inl (Int32.ofNat l)), (2, .inl (Int32.ofNat k))]) (S' := [.inr (.inr (.inl (some 1))), .inl (Int32.ofNat 0)]) (h' := h) (by with_unfolding_all rfl) ?_
  refine kx_getf (c := 1) (v := .inr (.inr (.inl (some 15)))) rfl (by decide) (kx_ofr (hw _ _ _ fu_kr.2.2.2.2.1)) ?_
  refine kx_go 1 (pc' := 6) (L' := [(0, .inr (.inr (.inl (some 1)))), (1, .inl (Int32.ofNat l)), (2, .inl (Int32.ofNat k))]) (S' := [.inl (Int32.ofNat l), .inr (.inr (.inl (some 15))), .inl (Int32.ofNat 0)]) (h' := h) (by with_unfolding_all rfl) ?_
  refine kx_aald rfl (c := 15) (j := l) (m := 10) (t0 := 2) (v := .inr (.inr (.inl (some (1 + (15 + l)))))) rfl (by decide) (by decide) (by decide) (by omega) (kx_ofr (hw _ _ _ (fu_slo l (by omega)).2)) ?_
  refine kx_go 1 (pc' := 8) (L' := [(0, .inr (.inr (.inl (some 1)))), (1, .inl (Int32.ofNat l)), (2, .inl (Int32.ofNat k))]) (S' := [.inl (Int32.ofNat 0), .inr (.inr (.inl (some (1 + (15 + l))))), .inl (Int32.ofNat 0)]) (h' := h) (by with_unfolding_all rfl) ?_
  refine kx_iald (c := 1 + (15 + l)) (j := 0) (m := 7) (v := .inl (Int32.ofNat (fa_n B (80 + 7 * l + 0)))) rfl (fu_slo l (by omega)).1.1 (fu_slo l (by omega)).1.2 (by decide) (by decide) ((fu_Cj (c := 15 + l) (i := 0) hC (by omega) (((fu_flo l (by omega)).1 0 (by decide)).2.2 (by decide)) ((fu_flo l (by omega)).1 0 (by decide)).1).trans (by rw [(fa_nl (e := 0) hB (show l < 10 by omega) (by decide) (by decide) (fa_tl l (by omega)).1).1])) ?_
  refine kx_go 1 (pc' := 10) (L' := [(0, .inr (.inr (.inl (some 1)))), (1, .inl (Int32.ofNat l)), (2, .inl (Int32.ofNat k))]) (S' := [.inr (.inr (.inl (some 1))), .inl (Int32.ofNat (fa_n B (80 + 7 * l + 0))), .inl (Int32.ofNat 0)]) (h' := h) (by with_unfolding_all rfl) ?_
  refine kx_getf (c := 1) (v := .inr (.inr (.inl (some 15)))) rfl (by decide) (kx_ofr (hw _ _ _ fu_kr.2.2.2.2.1)) ?_
  refine kx_go 1 (pc' := 14) (L' := [(0, .inr (.inr (.inl (some 1)))), (1, .inl (Int32.ofNat l)), (2, .inl (Int32.ofNat k))]) (S' := [.inl (Int32.ofNat l), .inr (.inr (.inl (some 15))), .inl (Int32.ofNat (fa_n B (80 + 7 * l + 0))), .inl (Int32.ofNat 0)]) (h' := h) (by with_unfolding_all rfl) ?_
  refine kx_aald rfl (c := 15) (j := l) (m := 10) (t0 := 2) (v := .inr (.inr (.inl (some (1 + (15 + l)))))) rfl (by decide) (by decide) (by decide) (by omega) (kx_ofr (hw _ _ _ (fu_slo l (by omega)).2)) ?_
  refine kx_go 1 (pc' := 16) (L' := [(0, .inr (.inr (.inl (some 1)))), (1, .inl (Int32.ofNat l)), (2, .inl (Int32.ofNat k))]) (S' := [.inl (Int32.ofNat 5), .inr (.inr (.inl (some (1 + (15 + l))))), .inl (Int32.ofNat (fa_n B (80 + 7 * l + 0))), .inl (Int32.ofNat 0)]) (h' := h) (by with_unfolding_all rfl) ?_
  refine kx_iald (c := 1 + (15 + l)) (j := 5) (m := 7) (v := .inl (Int32.ofNat (fa_n B (80 + 7 * l + 5)))) rfl (fu_slo l (by omega)).1.1 (fu_slo l (by omega)).1.2 (by decide) (by decide) ((fu_Cj (c := 15 + l) (i := 5) hC (by omega) (((fu_flo l (by omega)).1 5 (by decide)).2.2 (by decide)) ((fu_flo l (by omega)).1 5 (by decide)).1).trans (by rw [(fa_nl (e := 5) hB (show l < 10 by omega) (by decide) (by decide) (fa_tl l (by omega)).2.2.2.2).1])) ?_
  refine kx_go 3 (pc' := 20) (L' := [(0, .inr (.inr (.inl (some 1)))), (1, .inl (Int32.ofNat l)), (2, .inl (Int32.ofNat k))]) (S' := [.inl ((Int32.ofNat (fa_n B (80 + 7 * l + 0))) - ((Int32.ofNat (fa_n B (80 + 7 * l + 5))) * (Int32.ofNat k))), .inl (Int32.ofNat 0)]) (h' := h) (by with_unfolding_all rfl) ?_
  have n0 := (fa_nl (e := 0) hB hl (by decide) (by decide) (fa_tl l hl).1).2
  have n5 := (fa_nl (e := 5) hB hl (by decide) (by decide) (fa_tl l hl).2.2.2.2).2
  have n6 := Nat.mul_le_mul n5 hk
  rw [kx_mul]
  refine kc_math_ok (AS' := [.inl (if Int32.ofNat 0 < Int32.ofNat (fa_n B (80 + 7 * l + 0)) - Int32.ofNat (fa_n B (80 + 7 * l + 5) * k) then Int32.ofNat (fa_n B (80 + 7 * l + 0)) - Int32.ofNat (fa_n B (80 + 7 * l + 5) * k) else Int32.ofNat 0)]) rfl (by with_unfolding_all rfl) ?_
  rw [fa_mx (by omega) (by omega)]
  exact kc_ret_ok rfl (rv := some (.inl (Int32.ofNat (fa_w B l k)))) rfl ⟨rfl, rfl⟩
set_option maxRecDepth 20000 in
theorem fa_c186 {g : kc_G} {d : Nat} {h : kc_H} {B : Nat → Int32} {l : Nat} (hg : kc_ok g) (hw : kd_wt kd_ty h) (hC : fu_C B 1 h) (hB : fu_BT B) (hl : l < 10) : kc_Con g (d + 1) 186 [.inr (.inr (.inl (some 1))), .inl (Int32.ofNat l)] h (fun rv h' => rv = some (.inl (kp_b (fa_hd B l))) ∧ h' = h) := by
  refine kc_Con_new hg (M := wk_m186) rfl rfl rfl (show 2 ≤ 2 by decide) ?_
  refine kx_go 1 (pc' := 1) (L' := [(0, .inr (.inr (.inl (some 1)))), (1, .inl (Int32.ofNat l))]) (S' := [.inr (.inr (.inl (some 1)))]) (h' := h) (by with_unfolding_all rfl) ?_
  refine kx_getf (c := 1) (v := .inr (.inr (.inl (some 15)))) rfl (by decide) (kx_ofr (hw _ _ _ fu_kr.2.2.2.2.1)) ?_
  refine kx_go 1 (pc' := 5) (L' := [(0, .inr (.inr (.inl (some 1)))), (1, .inl (Int32.ofNat l))]) (S' := [.inl (Int32.ofNat l), .inr (.inr (.inl (some 15)))]) (h' := h) (by with_unfolding_all rfl) ?_
  refine kx_aald rfl (c := 15) (j := l) (m := 10) (t0 := 2) (v := .inr (.inr (.inl (some (1 + (15 + l)))))) rfl (by decide) (by decide) (by decide) (by omega) (kx_ofr (hw _ _ _ (fu_slo l (by omega)).2)) ?_
  refine kx_go 1 (pc' := 7) (L' := [(0, .inr (.inr (.inl (some 1)))), (1, .inl (Int32.ofNat l))]) (S' := [.inl (Int32.ofNat 1), .inr (.inr (.inl (some (1 + (15 + l)))))]) (h' := h) (by with_unfolding_all rfl) ?_
  refine kx_iald (c := 1 + (15 + l)) (j := 1) (m := 7) (v := .inl (Int32.ofNat (fa_n B (80 + 7 * l + 1)))) rfl (fu_slo l (by omega)).1.1 (fu_slo l (by omega)).1.2 (by decide) (by decide) ((fu_Cj (c := 15 + l) (i := 1) hC (by omega) (((fu_flo l (by omega)).1 1 (by decide)).2.2 (by decide)) ((fu_flo l (by omega)).1 1 (by decide)).1).trans (by rw [(fa_nl (e := 1) hB (show l < 10 by omega) (by decide) (by decide) (fa_tl l (by omega)).2.1).1])) ?_
  refine kx_go 2 (pc' := (if kc_cnd .ne (Int32.ofNat (fa_n B (80 + 7 * l + 1))).toInt (Int32.ofNat 1).toInt then 16 else 12)) (L' := [(0, .inr (.inr (.inl (some 1)))), (1, .inl (Int32.ofNat l))]) (S' := []) (h' := h) (by with_unfolding_all rfl) ?_
  have n1 := (fa_nl (e := 1) hB hl (by decide) (by decide) (fa_tl l hl).2.1).2
  unfold fa_hd
  by_cases c : fa_n B (80 + 7 * l + 1) = 1
  · rw [if_neg (fun q => (kx_ne (by omega) (by omega)).mp q c), decide_eq_true c]
    refine kx_go 2 (pc' := 17) (L' := [(0, .inr (.inr (.inl (some 1)))), (1, .inl (Int32.ofNat l))]) (S' := [.inl (Int32.ofNat 1)]) (h' := h) (by with_unfolding_all rfl) ?_
    exact kc_ret_ok rfl (rv := some (.inl (Int32.ofNat 1))) rfl ⟨rfl, rfl⟩
  · rw [if_pos ((kx_ne (by omega) (by omega)).mpr c), decide_eq_false c]
    refine kx_go 1 (pc' := 17) (L' := [(0, .inr (.inr (.inl (some 1)))), (1, .inl (Int32.ofNat l))]) (S' := [.inl (Int32.ofNat 0)]) (h' := h) (by with_unfolding_all rfl) ?_
    exact kc_ret_ok rfl (rv := some (.inl (Int32.ofNat 0))) rfl ⟨rfl, rfl⟩
set_option maxRecDepth 20000 in
theorem fa_r241 {g : kc_G} {d : Nat} {h : kc_H} {B : Nat → Int32} {l : Nat} (hg : kc_ok g) (hw : kd_wt kd_ty h) (hC : fu_B B h) (hB : fu_BT B) (hl : l < 10) : kc_Con g (d + 2) 241 [.inr (.inr (.inl (some 259))), .inl (Int32.ofNat l)] h (fun rv h' => rv = some (.inl (kp_b (fa_hd B l))) ∧ h' = h) := by
  refine kc_Con_new hg (M := wk_m241) rfl rfl rfl (show 2 ≤ 2 by decide) ?_
  refine kx_go 3 (pc' := 3) (L' := [(0, .inr (.inr (.inl (some 259)))), (1, .inl (Int32.ofNat l))]) (S' := [.inl (Int32.ofNat 1), .inl (Int32.ofNat l), .inr (.inr (.inl (some 259)))]) (h' := h) (by with_unfolding_all rfl) ?_
  refine kc_call_rule (M2 := wk_m237) (av := [.inr (.inr (.inl (some 259))), .inl (Int32.ofNat l), .inl (Int32.ofNat 1)]) (r := []) rfl rfl (kc_Con_le (fh_r237 (d := 0) (e := 1) hg hw hC hl (by decide)) (by omega)) (fun rv h2 hq => ?_)
  obtain ⟨rfl, e9⟩ := hq
  rw [e9]
  clear e9
  rw [(fa_nl (e := 1) hB hl (by decide) (by decide) (fa_tl l hl).2.1).1]
  show kc_Ev g (d + 1) wk_m241 _ 6 [(0, .inr (.inr (.inl (some 259)))), (1, .inl (Int32.ofNat l))] [.inl (Int32.ofNat (fa_n B (80 + 7 * l + 1)))] h
  refine kx_go 2 (pc' := (if kc_cnd .ne (Int32.ofNat (fa_n B (80 + 7 * l + 1))).toInt (Int32.ofNat 1).toInt then 14 else 10)) (L' := [(0, .inr (.inr (.inl (some 259)))), (1, .inl (Int32.ofNat l))]) (S' := []) (h' := h) (by with_unfolding_all rfl) ?_
  have n1 := (fa_nl (e := 1) hB hl (by decide) (by decide) (fa_tl l hl).2.1).2
  unfold fa_hd
  by_cases c : fa_n B (80 + 7 * l + 1) = 1
  · rw [if_neg (fun q => (kx_ne (by omega) (by omega)).mp q c), decide_eq_true c]
    refine kx_go 2 (pc' := 15) (L' := [(0, .inr (.inr (.inl (some 259)))), (1, .inl (Int32.ofNat l))]) (S' := [.inl (Int32.ofNat 1)]) (h' := h) (by with_unfolding_all rfl) ?_
    exact kc_ret_ok rfl (rv := some (.inl (Int32.ofNat 1))) rfl ⟨rfl, rfl⟩
  · rw [if_pos ((kx_ne (by omega) (by omega)).mpr c), decide_eq_false c]
    refine kx_go 1 (pc' := 15) (L' := [(0, .inr (.inr (.inl (some 259)))), (1, .inl (Int32.ofNat l))]) (S' := [.inl (Int32.ofNat 0)]) (h' := h) (by with_unfolding_all rfl) ?_
    exact kc_ret_ok rfl (rv := some (.inl (Int32.ofNat 0))) rfl ⟨rfl, rfl⟩
set_option maxRecDepth 20000 in
theorem fa_r243 {g : kc_G} {d : Nat} {h : kc_H} {B : Nat → Int32} {l k : Nat} (hg : kc_ok g) (hw : kd_wt kd_ty h) (hC : fu_B B h) (hB : fu_BT B) (hl : l < 10) (hk : k ≤ 60) : kc_Con g (d + 2) 243 [.inr (.inr (.inl (some 259))), .inl (Int32.ofNat l), .inl (Int32.ofNat k)] h (fun rv h' => rv = some (.inl (Int32.ofNat (fa_w B l k))) ∧ h' = h) := by
  refine kc_Con_new hg (M := wk_m243) rfl rfl rfl (show 3 ≤ 4 by decide) ?_
  refine kx_go 3 (pc' := 3) (L' := [(0, .inr (.inr (.inl (some 259)))), (1, .inl (Int32.ofNat l)), (2, .inl (Int32.ofNat k))]) (S' := [.inl (Int32.ofNat 0), .inl (Int32.ofNat l), .inr (.inr (.inl (some 259)))]) (h' := h) (by with_unfolding_all rfl) ?_
  refine kc_call_rule (M2 := wk_m237) (av := [.inr (.inr (.inl (some 259))), .inl (Int32.ofNat l), .inl (Int32.ofNat 0)]) (r := []) rfl rfl (kc_Con_le (fh_r237 (d := 0) (e := 0) hg hw hC hl (by decide)) (by omega)) (fun rv h2 hq => ?_)
  obtain ⟨rfl, e9⟩ := hq
  rw [e9]
  clear e9
  rw [(fa_nl (e := 0) hB hl (by decide) (by decide) (fa_tl l hl).1).1]
  show kc_Ev g (d + 1) wk_m243 _ 6 [(0, .inr (.inr (.inl (some 259)))), (1, .inl (Int32.ofNat l)), (2, .inl (Int32.ofNat k))] [.inl (Int32.ofNat (fa_n B (80 + 7 * l + 0)))] h
  refine kx_go 3 (pc' := 9) (L' := [(0, .inr (.inr (.inl (some 259)))), (1, .inl (Int32.ofNat l)), (2, .inl (Int32.ofNat k))]) (S' := [.inl (Int32.ofNat 5), .inl (Int32.ofNat l), .inr (.inr (.inl (some 259))), .inl (Int32.ofNat (fa_n B (80 + 7 * l + 0)))]) (h' := h) (by with_unfolding_all rfl) ?_
  refine kc_call_rule (M2 := wk_m237) (av := [.inr (.inr (.inl (some 259))), .inl (Int32.ofNat l), .inl (Int32.ofNat 5)]) (r := [.inl (Int32.ofNat (fa_n B (80 + 7 * l + 0)))]) rfl rfl (kc_Con_le (fh_r237 (d := 0) (e := 5) hg hw hC hl (by decide)) (by omega)) (fun rv h2 hq => ?_)
  obtain ⟨rfl, e9⟩ := hq
  rw [e9]
  clear e9
  rw [(fa_nl (e := 5) hB hl (by decide) (by decide) (fa_tl l hl).2.2.2.2).1]
  show kc_Ev g (d + 1) wk_m243 _ 12 [(0, .inr (.inr (.inl (some 259)))), (1, .inl (Int32.ofNat l)), (2, .inl (Int32.ofNat k))] [.inl (Int32.ofNat (fa_n B (80 + 7 * l + 5))), .inl (Int32.ofNat (fa_n B (80 + 7 * l + 0)))] h
  refine kx_go 6 (pc' := (if kc_cnd .le ((Int32.ofNat (fa_n B (80 + 7 * l + 0))) - ((Int32.ofNat (fa_n B (80 + 7 * l + 5))) * (Int32.ofNat k))).toInt 0 then 24 else 20)) (L' := [(3, .inl ((Int32.ofNat (fa_n B (80 + 7 * l + 0))) - ((Int32.ofNat (fa_n B (80 + 7 * l + 5))) * (Int32.ofNat k)))), (0, .inr (.inr (.inl (some 259)))), (1, .inl (Int32.ofNat l)), (2, .inl (Int32.ofNat k))]) (S' := []) (h' := h) (by with_unfolding_all rfl) ?_
  have n0 := (fa_nl (e := 0) hB hl (by decide) (by decide) (fa_tl l hl).1).2
  have n5 := (fa_nl (e := 5) hB hl (by decide) (by decide) (fa_tl l hl).2.2.2.2).2
  have n6 := Nat.mul_le_mul n5 hk
  rw [kx_mul]
  have e := fh_si (a := fa_n B (80 + 7 * l + 0)) (b := fa_n B (80 + 7 * l + 5) * k) (by omega) (by omega)
  by_cases c : fa_n B (80 + 7 * l + 5) * k < fa_n B (80 + 7 * l + 0)
  · rw [if_neg (fun q => (fu_ile.mp q) (by rw [e]; omega))]
    refine kx_go 2 (pc' := 25) (L' := [(3, .inl ((Int32.ofNat (fa_n B (80 + 7 * l + 0))) - ((Int32.ofNat (fa_n B (80 + 7 * l + 5) * k))))), (0, .inr (.inr (.inl (some 259)))), (1, .inl (Int32.ofNat l)), (2, .inl (Int32.ofNat k))]) (S' := [.inl ((Int32.ofNat (fa_n B (80 + 7 * l + 0))) - ((Int32.ofNat (fa_n B (80 + 7 * l + 5) * k))))]) (h' := h) (by with_unfolding_all rfl) ?_
    rw [kx_sub (by omega)]
    exact kc_ret_ok rfl (rv := some (.inl (Int32.ofNat (fa_w B l k)))) rfl ⟨rfl, rfl⟩
  · rw [if_pos (fu_ile.mpr (by rw [e]; omega))]
    refine kx_go 1 (pc' := 25) (L' := [(3, .inl ((Int32.ofNat (fa_n B (80 + 7 * l + 0))) - ((Int32.ofNat (fa_n B (80 + 7 * l + 5) * k))))), (0, .inr (.inr (.inl (some 259)))), (1, .inl (Int32.ofNat l)), (2, .inl (Int32.ofNat k))]) (S' := [.inl (Int32.ofNat 0)]) (h' := h) (by with_unfolding_all rfl) ?_
    have z : fa_w B l k = 0 := by unfold fa_w; omega
    rw [z]
    exact kc_ret_ok rfl (rv := some (.inl (Int32.ofNat 0))) rfl ⟨rfl, rfl⟩
def fa_tp (A : Nat → Nat) (s : Nat) : Int32 := if A (20 + s) = 0 then Int32.ofInt (-1) else Int32.ofNat (A (40 + 3 * s + (A (20 + s) - 1)))
set_option maxRecDepth 20000 in
theorem fa_c187 {g : kc_G} {d : Nat} {h : kc_H} {B : Nat → Int32} {A : Nat → Nat} {L i : Nat} {s : Nat} (hg : kc_ok g) (hw : kd_wt kd_ty h) (hC : fu_C B 1 h) (hB : fu_BT B) (hL : L ≤ 10) (hi : i ≤ 60) (hI : fa_I B A L i) (hA : fa_C A L h) (hs : s < 6) : kc_Con g (d + 1) 187 [.inr (.inr (.inl (some 190))), .inl (Int32.ofNat s)] h (fun rv h' => rv = some (.inl (fa_tp A s)) ∧ h' = h) := by
  have a3 := hI.2.2.2.2.2.2.1 s hs
  refine kc_Con_new hg (M := wk_m187) rfl rfl rfl (show 2 ≤ 2 by decide) ?_
  refine kx_go 1 (pc' := 1) (L' := [(0, .inr (.inr (.inl (some 190)))), (1, .inl (Int32.ofNat s))]) (S' := [.inr (.inr (.inl (some 190)))]) (h' := h) (by with_unfolding_all rfl) ?_
  refine kx_getf (c := 190) (v := .inr (.inr (.inl (some 192)))) rfl (by decide) (kx_ofr (hw _ _ _ fa_k.2.2.2.1)) ?_
  refine kx_go 1 (pc' := 5) (L' := [(0, .inr (.inr (.inl (some 190)))), (1, .inl (Int32.ofNat s))]) (S' := [.inl (Int32.ofNat s), .inr (.inr (.inl (some 192)))]) (h' := h) (by with_unfolding_all rfl) ?_
  refine kx_iald (c := 192) (j := s) (m := 6) (v := .inl (Int32.ofNat (A (20 + s)))) rfl rfl (by decide) (by decide) (by omega) (hA.2.2.1 s (by omega)) ?_
  refine kx_go 1 (pc' := (if kc_cnd .le (Int32.ofNat (A (20 + s))).toInt 0 then 27 else 9)) (L' := [(0, .inr (.inr (.inl (some 190)))), (1, .inl (Int32.ofNat s))]) (S' := []) (h' := h) (by with_unfolding_all rfl) ?_
  unfold fa_tp
  by_cases c : A (20 + s) = 0
  · rw [if_pos (fu_ile.mpr (by rw [kx_ti (by omega)]; omega)), if_pos c]
    refine kx_go 1 (pc' := 28) (L' := [(0, .inr (.inr (.inl (some 190)))), (1, .inl (Int32.ofNat s))]) (S' := [.inl (Int32.ofInt (-1))]) (h' := h) (by with_unfolding_all rfl) ?_
    exact kc_ret_ok rfl (rv := some (.inl (Int32.ofInt (-1)))) rfl ⟨rfl, rfl⟩
  · rw [if_neg (fun q => (fu_ile.mp q) (by rw [kx_ti (by omega)]; omega)), if_neg c]
    refine kx_go 1 (pc' := 10) (L' := [(0, .inr (.inr (.inl (some 190)))), (1, .inl (Int32.ofNat s))]) (S' := [.inr (.inr (.inl (some 190)))]) (h' := h) (by with_unfolding_all rfl) ?_
    refine kx_getf (c := 190) (v := .inr (.inr (.inl (some 194)))) rfl (by decide) (kx_ofr (hw _ _ _ fa_k.2.2.2.2.2.1)) ?_
    refine kx_go 1 (pc' := 14) (L' := [(0, .inr (.inr (.inl (some 190)))), (1, .inl (Int32.ofNat s))]) (S' := [.inl (Int32.ofNat s), .inr (.inr (.inl (some 194)))]) (h' := h) (by with_unfolding_all rfl) ?_
    refine kx_aald rfl (c := 194) (j := s) (m := 6) (t0 := 2) (v := .inr (.inr (.inl (some (195 + s))))) rfl (by decide) (by decide) (by decide) (by omega) (kx_ofr (hw _ _ _ (fa_kp s (by omega)).1)) ?_
    refine kx_go 1 (pc' := 16) (L' := [(0, .inr (.inr (.inl (some 190)))), (1, .inl (Int32.ofNat s))]) (S' := [.inr (.inr (.inl (some 190))), .inr (.inr (.inl (some (195 + s))))]) (h' := h) (by with_unfolding_all rfl) ?_
    refine kx_getf (c := 190) (v := .inr (.inr (.inl (some 192)))) rfl (by decide) (kx_ofr (hw _ _ _ fa_k.2.2.2.1)) ?_
    refine kx_go 1 (pc' := 20) (L' := [(0, .inr (.inr (.inl (some 190)))), (1, .inl (Int32.ofNat s))]) (S' := [.inl (Int32.ofNat s), .inr (.inr (.inl (some 192))), .inr (.inr (.inl (some (195 + s))))]) (h' := h) (by with_unfolding_all rfl) ?_
    refine kx_iald (c := 192) (j := s) (m := 6) (v := .inl (Int32.ofNat (A (20 + s)))) rfl rfl (by decide) (by decide) (by omega) (hA.2.2.1 s (by omega)) ?_
    refine kx_go 2 (pc' := 23) (L' := [(0, .inr (.inr (.inl (some 190)))), (1, .inl (Int32.ofNat s))]) (S' := [.inl ((Int32.ofNat (A (20 + s))) - (Int32.ofNat 1)), .inr (.inr (.inl (some (195 + s))))]) (h' := h) (by with_unfolding_all rfl) ?_
    rw [kx_sub (show 1 ≤ A (20 + s) by omega)]
    refine kx_iald (c := 195 + s) (j := A (20 + s) - 1) (m := 3) (v := .inl (Int32.ofNat (A (40 + 3 * s + (A (20 + s) - 1))))) rfl (fa_kp s (by omega)).2.1 (fa_kp s (by omega)).2.2 (by decide) (by omega) (hA.2.2.2.2.1 s (by omega) (A (20 + s) - 1) (by omega)) ?_
    refine kx_go 1 (pc' := 28) (L' := [(0, .inr (.inr (.inl (some 190)))), (1, .inl (Int32.ofNat s))]) (S' := [.inl (Int32.ofNat (A (40 + 3 * s + (A (20 + s) - 1))))]) (h' := h) (by with_unfolding_all rfl) ?_
    exact kc_ret_ok rfl (rv := some (.inl (Int32.ofNat (A (40 + 3 * s + (A (20 + s) - 1)))))) rfl ⟨rfl, rfl⟩
set_option maxRecDepth 20000 in
theorem fa_r242 {g : kc_G} {d : Nat} {h : kc_H} {B : Nat → Int32} {A : Nat → Nat} {L i : Nat} {s : Nat} (hg : kc_ok g) (hw : kd_wt kd_ty h) (hC : fu_B B h) (hB : fu_BT B) (hL : L ≤ 10) (hi : i ≤ 60) (hI : fa_I B A L i) (hA : fa_R A L h) (hs : s < 6) : kc_Con g (d + 1) 242 [.inr (.inr (.inl (some 259))), .inl (Int32.ofNat s)] h (fun rv h' => rv = some (.inl (fa_tp A s)) ∧ h' = h) := by
  have a3 := hI.2.2.2.2.2.2.1 s hs
  refine kc_Con_new hg (M := wk_m242) rfl rfl rfl (show 2 ≤ 2 by decide) ?_
  refine kx_go 1 (pc' := 1) (L' := [(0, .inr (.inr (.inl (some 259)))), (1, .inl (Int32.ofNat s))]) (S' := [.inr (.inr (.inl (some 259)))]) (h' := h) (by with_unfolding_all rfl) ?_
  refine kx_getf (c := 259) (v := .inr (.inr (.inl (some 268)))) rfl (by decide) (kx_ofr (hw _ _ _ fa_kr.2.2.1)) ?_
  refine kx_go 1 (pc' := 5) (L' := [(0, .inr (.inr (.inl (some 259)))), (1, .inl (Int32.ofNat s))]) (S' := [.inl (Int32.ofNat s), .inr (.inr (.inl (some 268)))]) (h' := h) (by with_unfolding_all rfl) ?_
  refine kx_iald (c := 268) (j := s) (m := 6) (v := .inl (Int32.ofNat (A (20 + s)))) rfl rfl (by decide) (by decide) (by omega) (hA.2.2.1 s (by omega)) ?_
  refine kx_go 1 (pc' := (if kc_cnd .ne (Int32.ofNat (A (20 + s))).toInt 0 then 13 else 9)) (L' := [(0, .inr (.inr (.inl (some 259)))), (1, .inl (Int32.ofNat s))]) (S' := []) (h' := h) (by with_unfolding_all rfl) ?_
  unfold fa_tp
  by_cases c : A (20 + s) = 0
  · rw [if_neg (fun q => (fu_ine.mp q) (by rw [kx_ti (by omega)]; omega)), if_pos c]
    refine kx_go 2 (pc' := 30) (L' := [(0, .inr (.inr (.inl (some 259)))), (1, .inl (Int32.ofNat s))]) (S' := [.inl (Int32.ofInt (-1))]) (h' := h) (by with_unfolding_all rfl) ?_
    exact kc_ret_ok rfl (rv := some (.inl (Int32.ofInt (-1)))) rfl ⟨rfl, rfl⟩
  · rw [if_pos (fu_ine.mpr (by rw [kx_ti (by omega)]; omega)), if_neg c]
    refine kx_go 1 (pc' := 14) (L' := [(0, .inr (.inr (.inl (some 259)))), (1, .inl (Int32.ofNat s))]) (S' := [.inr (.inr (.inl (some 259)))]) (h' := h) (by with_unfolding_all rfl) ?_
    refine kx_getf (c := 259) (v := .inr (.inr (.inl (some 267)))) rfl (by decide) (kx_ofr (hw _ _ _ fa_kr.2.1)) ?_
    refine kx_go 4 (pc' := 21) (L' := [(0, .inr (.inr (.inl (some 259)))), (1, .inl (Int32.ofNat s))]) (S' := [.inr (.inr (.inl (some 259))), .inl ((Int32.ofNat 3) * (Int32.ofNat s)), .inr (.inr (.inl (some 267)))]) (h' := h) (by with_unfolding_all rfl) ?_
    refine kx_getf (c := 259) (v := .inr (.inr (.inl (some 268)))) rfl (by decide) (kx_ofr (hw _ _ _ fa_kr.2.2.1)) ?_
    refine kx_go 1 (pc' := 25) (L' := [(0, .inr (.inr (.inl (some 259)))), (1, .inl (Int32.ofNat s))]) (S' := [.inl (Int32.ofNat s), .inr (.inr (.inl (some 268))), .inl ((Int32.ofNat 3) * (Int32.ofNat s)), .inr (.inr (.inl (some 267)))]) (h' := h) (by with_unfolding_all rfl) ?_
    refine kx_iald (c := 268) (j := s) (m := 6) (v := .inl (Int32.ofNat (A (20 + s)))) rfl rfl (by decide) (by decide) (by omega) (hA.2.2.1 s (by omega)) ?_
    refine kx_go 3 (pc' := 29) (L' := [(0, .inr (.inr (.inl (some 259)))), (1, .inl (Int32.ofNat s))]) (S' := [.inl ((((Int32.ofNat 3) * (Int32.ofNat s)) + (Int32.ofNat (A (20 + s)))) - (Int32.ofNat 1)), .inr (.inr (.inl (some 267)))]) (h' := h) (by with_unfolding_all rfl) ?_
    rw [kx_mul, kx_add, kx_sub (show 1 ≤ 3 * s + A (20 + s) by omega), show 3 * s + A (20 + s) - 1 = 3 * s + (A (20 + s) - 1) from by omega]
    refine kx_iald (c := 267) (j := 3 * s + (A (20 + s) - 1)) (m := 18) (v := .inl (Int32.ofNat (A (40 + 3 * s + (A (20 + s) - 1))))) rfl rfl (by decide) (by decide) (by omega) (hA.2.2.2.2.1 s (by omega) ((A (20 + s) - 1)) (by omega)) ?_
    exact kc_ret_ok rfl (rv := some (.inl (Int32.ofNat (A (40 + 3 * s + (A (20 + s) - 1)))))) rfl ⟨rfl, rfl⟩
set_option maxRecDepth 20000 in
theorem fa_c189l {g : kc_G} {d : Nat} {h : kc_H} {B : Nat → Int32} {A : Nat → Nat} {L i : Nat} {s : Nat} (hw : kd_wt kd_ty h) (hC : fu_C B 1 h) (hB : fu_BT B) (hL : L ≤ 10) (hi : i ≤ 60) (hI : fa_I B A L i) (hA : fa_C A L h) (hW : fa_W B A L h) (hs : s < 6) : ∀ u k : Nat, A (20 + s) - k = u → k ≤ A (20 + s) → kc_Ev g d wk_m189 (fun rv h' => rv = some (.inl (Int32.ofNat (fa_bw B A s))) ∧ h' = h) 19 [(3, .inl (Int32.ofNat k)), (2, .inl (Int32.ofNat (fa_b B A s k))), (0, .inr (.inr (.inl (some 190)))), (1, .inl (Int32.ofNat s))] [] h := by
  intro u
  induction u with
  | zero =>
    intro k hu hk
    have a3 := hI.2.2.2.2.2.2.1 s hs
    have ab := fa_bl hB hL hs hI hi k hk
    refine kx_go 2 (pc' := 21) (L' := [(3, .inl (Int32.ofNat k)), (2, .inl (Int32.ofNat (fa_b B A s k))), (0, .inr (.inr (.inl (some 190)))), (1, .inl (Int32.ofNat s))]) (S' := [.inr (.inr (.inl (some 190))), .inl (Int32.ofNat k)]) (h' := h) (by with_unfolding_all rfl) ?_
    refine kx_getf (c := 190) (v := .inr (.inr (.inl (some 192)))) rfl (by decide) (kx_ofr (hw _ _ _ fa_k.2.2.2.1)) ?_
    refine kx_go 1 (pc' := 25) (L' := [(3, .inl (Int32.ofNat k)), (2, .inl (Int32.ofNat (fa_b B A s k))), (0, .inr (.inr (.inl (some 190)))), (1, .inl (Int32.ofNat s))]) (S' := [.inl (Int32.ofNat s), .inr (.inr (.inl (some 192))), .inl (Int32.ofNat k)]) (h' := h) (by with_unfolding_all rfl) ?_
    refine kx_iald (c := 192) (j := s) (m := 6) (v := .inl (Int32.ofNat (A (20 + s)))) rfl rfl (by decide) (by decide) (by omega) (hA.2.2.1 s (by omega)) ?_
    refine kx_go 1 (pc' := (if kc_cnd .ge (Int32.ofNat k).toInt (Int32.ofNat (A (20 + s))).toInt then 51 else 29)) (L' := [(3, .inl (Int32.ofNat k)), (2, .inl (Int32.ofNat (fa_b B A s k))), (0, .inr (.inr (.inl (some 190)))), (1, .inl (Int32.ofNat s))]) (S' := []) (h' := h) (by with_unfolding_all rfl) ?_
    rw [if_pos ((kx_ge (by omega) (by omega)).mpr (by omega))]
    have ek : k = A (20 + s) := by omega
    refine kx_go 1 (pc' := 52) (L' := [(3, .inl (Int32.ofNat k)), (2, .inl (Int32.ofNat (fa_b B A s k))), (0, .inr (.inr (.inl (some 190)))), (1, .inl (Int32.ofNat s))]) (S' := [.inl (Int32.ofNat (fa_b B A s k))]) (h' := h) (by with_unfolding_all rfl) ?_
    rw [ek]
    exact kc_ret_ok rfl (rv := some (.inl (Int32.ofNat (fa_bw B A s)))) rfl ⟨rfl, rfl⟩
  | succ u ih =>
    intro k hu hk
    have a3 := hI.2.2.2.2.2.2.1 s hs
    have ab := fa_bl hB hL hs hI hi k hk
    refine kx_go 2 (pc' := 21) (L' := [(3, .inl (Int32.ofNat k)), (2, .inl (Int32.ofNat (fa_b B A s k))), (0, .inr (.inr (.inl (some 190)))), (1, .inl (Int32.ofNat s))]) (S' := [.inr (.inr (.inl (some 190))), .inl (Int32.ofNat k)]) (h' := h) (by with_unfolding_all rfl) ?_
    refine kx_getf (c := 190) (v := .inr (.inr (.inl (some 192)))) rfl (by decide) (kx_ofr (hw _ _ _ fa_k.2.2.2.1)) ?_
    refine kx_go 1 (pc' := 25) (L' := [(3, .inl (Int32.ofNat k)), (2, .inl (Int32.ofNat (fa_b B A s k))), (0, .inr (.inr (.inl (some 190)))), (1, .inl (Int32.ofNat s))]) (S' := [.inl (Int32.ofNat s), .inr (.inr (.inl (some 192))), .inl (Int32.ofNat k)]) (h' := h) (by with_unfolding_all rfl) ?_
    refine kx_iald (c := 192) (j := s) (m := 6) (v := .inl (Int32.ofNat (A (20 + s)))) rfl rfl (by decide) (by decide) (by omega) (hA.2.2.1 s (by omega)) ?_
    refine kx_go 1 (pc' := (if kc_cnd .ge (Int32.ofNat k).toInt (Int32.ofNat (A (20 + s))).toInt then 51 else 29)) (L' := [(3, .inl (Int32.ofNat k)), (2, .inl (Int32.ofNat (fa_b B A s k))), (0, .inr (.inr (.inl (some 190)))), (1, .inl (Int32.ofNat s))]) (S' := []) (h' := h) (by with_unfolding_all rfl) ?_
    rw [if_neg (fun q => by have := (kx_ge (by omega) (by omega)).mp q; omega)]
    have hl := hI.2.2.2.2.2.2.2.2.1 s hs k (by omega)
    refine kx_go 2 (pc' := 31) (L' := [(3, .inl (Int32.ofNat k)), (2, .inl (Int32.ofNat (fa_b B A s k))), (0, .inr (.inr (.inl (some 190)))), (1, .inl (Int32.ofNat s))]) (S' := [.inr (.inr (.inl (some 190))), .inl (Int32.ofNat (fa_b B A s k))]) (h' := h) (by with_unfolding_all rfl) ?_
    refine kx_getf (c := 190) (v := .inr (.inr (.inl (some 203)))) rfl (by decide) (kx_ofr (hw _ _ _ fa_k.2.2.2.2.2.2.2.2)) ?_
    refine kx_go 1 (pc' := 35) (L' := [(3, .inl (Int32.ofNat k)), (2, .inl (Int32.ofNat (fa_b B A s k))), (0, .inr (.inr (.inl (some 190)))), (1, .inl (Int32.ofNat s))]) (S' := [.inr (.inr (.inl (some 190))), .inr (.inr (.inl (some 203))), .inl (Int32.ofNat (fa_b B A s k))]) (h' := h) (by with_unfolding_all rfl) ?_
    refine kx_getf (c := 190) (v := .inr (.inr (.inl (some 194)))) rfl (by decide) (kx_ofr (hw _ _ _ fa_k.2.2.2.2.2.1)) ?_
    refine kx_go 1 (pc' := 39) (L' := [(3, .inl (Int32.ofNat k)), (2, .inl (Int32.ofNat (fa_b B A s k))), (0, .inr (.inr (.inl (some 190)))), (1, .inl (Int32.ofNat s))]) (S' := [.inl (Int32.ofNat s), .inr (.inr (.inl (some 194))), .inr (.inr (.inl (some 203))), .inl (Int32.ofNat (fa_b B A s k))]) (h' := h) (by with_unfolding_all rfl) ?_
    refine kx_aald rfl (c := 194) (j := s) (m := 6) (t0 := 2) (v := .inr (.inr (.inl (some (195 + s))))) rfl (by decide) (by decide) (by decide) (by omega) (kx_ofr (hw _ _ _ (fa_kp s (by omega)).1)) ?_
    refine kx_go 1 (pc' := 41) (L' := [(3, .inl (Int32.ofNat k)), (2, .inl (Int32.ofNat (fa_b B A s k))), (0, .inr (.inr (.inl (some 190)))), (1, .inl (Int32.ofNat s))]) (S' := [.inl (Int32.ofNat k), .inr (.inr (.inl (some (195 + s)))), .inr (.inr (.inl (some 203))), .inl (Int32.ofNat (fa_b B A s k))]) (h' := h) (by with_unfolding_all rfl) ?_
    refine kx_iald (c := 195 + s) (j := k) (m := 3) (v := .inl (Int32.ofNat (A (40 + 3 * s + k)))) rfl (fa_kp s (by omega)).2.1 (fa_kp s (by omega)).2.2 (by decide) (by omega) (hA.2.2.2.2.1 s (by omega) k (by omega)) ?_
    refine kx_iald (c := 203) (j := A (40 + 3 * s + k)) (m := 10) (v := .inl (Int32.ofNat (fa_w B (A (40 + 3 * s + k)) (A 5)))) rfl rfl (by decide) (by decide) (by omega) (hW (A (40 + 3 * s + k)) (by omega)) ?_
    refine kx_go 4 (pc' := 19) (L' := [(3, .inl ((Int32.ofNat k) + Int32.ofInt 1)), (2, .inl ((Int32.ofNat (fa_b B A s k)) + (Int32.ofNat (fa_w B (A (40 + 3 * s + k)) (A 5))))), (0, .inr (.inr (.inl (some 190)))), (1, .inl (Int32.ofNat s))]) (S' := []) (h' := h) (by with_unfolding_all rfl) ?_
    rw [kx_inc, kx_add]
    refine kf_lo (L := [(3, .inl (Int32.ofNat (k + 1))), (2, .inl (Int32.ofNat (fa_b B A s k + fa_w B (A (40 + 3 * s + k)) (A 5)))), (0, .inr (.inr (.inl (some 190)))), (1, .inl (Int32.ofNat s))]) (by intro q hq; simp only [List.mem_cons, List.not_mem_nil, or_false] at hq; rcases hq with rfl | rfl | rfl | rfl <;> rfl) ?_
    exact ih (k + 1) (by omega) (by omega)
set_option maxRecDepth 20000 in
theorem fa_c189 {g : kc_G} {d : Nat} {h : kc_H} {B : Nat → Int32} {A : Nat → Nat} {L i : Nat} {s : Nat} (hg : kc_ok g) (hw : kd_wt kd_ty h) (hC : fu_C B 1 h) (hB : fu_BT B) (hL : L ≤ 10) (hi : i ≤ 60) (hI : fa_I B A L i) (hA : fa_C A L h) (hW : fa_W B A L h) (hs : s < 6) : kc_Con g (d + 1) 189 [.inr (.inr (.inl (some 190))), .inl (Int32.ofNat s)] h (fun rv h' => rv = some (.inl (Int32.ofNat (fa_bw B A s))) ∧ h' = h) := by
  refine kc_Con_new hg (M := wk_m189) rfl rfl rfl (show 2 ≤ 4 by decide) ?_
  refine kx_go 1 (pc' := 1) (L' := [(0, .inr (.inr (.inl (some 190)))), (1, .inl (Int32.ofNat s))]) (S' := [.inr (.inr (.inl (some 190)))]) (h' := h) (by with_unfolding_all rfl) ?_
  refine kx_getf (c := 190) (v := .inr (.inr (.inl (some 193)))) rfl (by decide) (kx_ofr (hw _ _ _ fa_k.2.2.2.2.1)) ?_
  refine kx_go 1 (pc' := 5) (L' := [(0, .inr (.inr (.inl (some 190)))), (1, .inl (Int32.ofNat s))]) (S' := [.inl (Int32.ofNat s), .inr (.inr (.inl (some 193)))]) (h' := h) (by with_unfolding_all rfl) ?_
  refine kx_iald (c := 193) (j := s) (m := 6) (v := .inl (Int32.ofNat (A (30 + s)))) rfl rfl (by decide) (by decide) (by omega) (hA.2.2.2.1 s (by omega)) ?_
  refine kx_go 1 (pc' := 7) (L' := [(0, .inr (.inr (.inl (some 190)))), (1, .inl (Int32.ofNat s))]) (S' := [.inr (.inr (.inl (some 190))), .inl (Int32.ofNat (A (30 + s)))]) (h' := h) (by with_unfolding_all rfl) ?_
  refine kx_getf (c := 190) (v := .inr (.inr (.inl (some 1)))) rfl (by decide) (kx_ofr (hw _ _ _ fa_k.1)) ?_
  refine kx_getf (c := 1) (v := .inr (.inr (.inl (some 26)))) rfl (by decide) (kx_ofr (hw _ _ _ fu_kr.2.2.2.2.2.1)) ?_
  refine kx_go 1 (pc' := 14) (L' := [(0, .inr (.inr (.inl (some 190)))), (1, .inl (Int32.ofNat s))]) (S' := [.inl (Int32.ofNat 0), .inr (.inr (.inl (some 26))), .inl (Int32.ofNat (A (30 + s)))]) (h' := h) (by with_unfolding_all rfl) ?_
  refine kx_iald (c := 26) (j := 0) (m := 2) (v := .inl (Int32.ofNat (fa_n B 4))) rfl rfl (by decide) (by decide) (by decide) ((fu_Cj (c := 25) (i := 0) hC (by decide) (by decide) fu_f0.2.2.2.2.2.1).trans (by rw [← (fa_n4 hB).1])) ?_
  refine kx_go 4 (pc' := 19) (L' := [(3, .inl (Int32.ofNat 0)), (2, .inl ((Int32.ofNat (A (30 + s))) * (Int32.ofNat (fa_n B 4)))), (0, .inr (.inr (.inl (some 190)))), (1, .inl (Int32.ofNat s))]) (S' := []) (h' := h) (by with_unfolding_all rfl) ?_
  rw [kx_mul]
  refine kf_lo (L := [(3, .inl (Int32.ofNat 0)), (2, .inl (Int32.ofNat (A (30 + s) * fa_n B 4))), (0, .inr (.inr (.inl (some 190)))), (1, .inl (Int32.ofNat s))]) (by intro q hq; simp only [List.mem_cons, List.not_mem_nil, or_false] at hq; rcases hq with rfl | rfl | rfl | rfl <;> rfl) ?_
  exact fa_c189l hw hC hB hL hi hI hA hW hs (A (20 + s)) 0 (by omega) (Nat.zero_le _)
set_option maxRecDepth 20000 in
theorem fa_r245l {g : kc_G} {d : Nat} {h : kc_H} {B : Nat → Int32} {A : Nat → Nat} {L i : Nat} {s : Nat} (hg : kc_ok g) (hw : kd_wt kd_ty h) (hC : fu_B B h) (hB : fu_BT B) (hL : L ≤ 10) (hi : i ≤ 60) (hI : fa_I B A L i) (hA : fa_R A L h) (hs : s < 6) : ∀ u k : Nat, A (20 + s) - k = u → k ≤ A (20 + s) → kc_Ev g (d + 2) wk_m245 (fun rv h' => rv = some (.inl (Int32.ofNat (fa_bw B A s))) ∧ h' = h) 16 [(3, .inl (Int32.ofNat k)), (2, .inl (Int32.ofNat (fa_b B A s k))), (0, .inr (.inr (.inl (some 259)))), (1, .inl (Int32.ofNat s))] [] h := by
  intro u
  induction u with
  | zero =>
    intro k hu hk
    have a3 := hI.2.2.2.2.2.2.1 s hs
    have ab := fa_bl hB hL hs hI hi k hk
    refine kx_go 2 (pc' := 18) (L' := [(3, .inl (Int32.ofNat k)), (2, .inl (Int32.ofNat (fa_b B A s k))), (0, .inr (.inr (.inl (some 259)))), (1, .inl (Int32.ofNat s))]) (S' := [.inr (.inr (.inl (some 259))), .inl (Int32.ofNat k)]) (h' := h) (by with_unfolding_all rfl) ?_
    refine kx_getf (c := 259) (v := .inr (.inr (.inl (some 268)))) rfl (by decide) (kx_ofr (hw _ _ _ fa_kr.2.2.1)) ?_
    refine kx_go 1 (pc' := 22) (L' := [(3, .inl (Int32.ofNat k)), (2, .inl (Int32.ofNat (fa_b B A s k))), (0, .inr (.inr (.inl (some 259)))), (1, .inl (Int32.ofNat s))]) (S' := [.inl (Int32.ofNat s), .inr (.inr (.inl (some 268))), .inl (Int32.ofNat k)]) (h' := h) (by with_unfolding_all rfl) ?_
    refine kx_iald (c := 268) (j := s) (m := 6) (v := .inl (Int32.ofNat (A (20 + s)))) rfl rfl (by decide) (by decide) (by omega) (hA.2.2.1 s (by omega)) ?_
    refine kx_go 1 (pc' := (if kc_cnd .ge (Int32.ofNat k).toInt (Int32.ofNat (A (20 + s))).toInt then 53 else 26)) (L' := [(3, .inl (Int32.ofNat k)), (2, .inl (Int32.ofNat (fa_b B A s k))), (0, .inr (.inr (.inl (some 259)))), (1, .inl (Int32.ofNat s))]) (S' := []) (h' := h) (by with_unfolding_all rfl) ?_
    rw [if_pos ((kx_ge (by omega) (by omega)).mpr (by omega))]
    have ek : k = A (20 + s) := by omega
    refine kx_go 1 (pc' := 54) (L' := [(3, .inl (Int32.ofNat k)), (2, .inl (Int32.ofNat (fa_b B A s k))), (0, .inr (.inr (.inl (some 259)))), (1, .inl (Int32.ofNat s))]) (S' := [.inl (Int32.ofNat (fa_b B A s k))]) (h' := h) (by with_unfolding_all rfl) ?_
    rw [ek]
    exact kc_ret_ok rfl (rv := some (.inl (Int32.ofNat (fa_bw B A s)))) rfl ⟨rfl, rfl⟩
  | succ u ih =>
    intro k hu hk
    have a3 := hI.2.2.2.2.2.2.1 s hs
    have ab := fa_bl hB hL hs hI hi k hk
    refine kx_go 2 (pc' := 18) (L' := [(3, .inl (Int32.ofNat k)), (2, .inl (Int32.ofNat (fa_b B A s k))), (0, .inr (.inr (.inl (some 259)))), (1, .inl (Int32.ofNat s))]) (S' := [.inr (.inr (.inl (some 259))), .inl (Int32.ofNat k)]) (h' := h) (by with_unfolding_all rfl) ?_
    refine kx_getf (c := 259) (v := .inr (.inr (.inl (some 268)))) rfl (by decide) (kx_ofr (hw _ _ _ fa_kr.2.2.1)) ?_
    refine kx_go 1 (pc' := 22) (L' := [(3, .inl (Int32.ofNat k)), (2, .inl (Int32.ofNat (fa_b B A s k))), (0, .inr (.inr (.inl (some 259)))), (1, .inl (Int32.ofNat s))]) (S' := [.inl (Int32.ofNat s), .inr (.inr (.inl (some 268))), .inl (Int32.ofNat k)]) (h' := h) (by with_unfolding_all rfl) ?_
    refine kx_iald (c := 268) (j := s) (m := 6) (v := .inl (Int32.ofNat (A (20 + s)))) rfl rfl (by decide) (by decide) (by omega) (hA.2.2.1 s (by omega)) ?_
    refine kx_go 1 (pc' := (if kc_cnd .ge (Int32.ofNat k).toInt (Int32.ofNat (A (20 + s))).toInt then 53 else 26)) (L' := [(3, .inl (Int32.ofNat k)), (2, .inl (Int32.ofNat (fa_b B A s k))), (0, .inr (.inr (.inl (some 259)))), (1, .inl (Int32.ofNat s))]) (S' := []) (h' := h) (by with_unfolding_all rfl) ?_
    rw [if_neg (fun q => by have := (kx_ge (by omega) (by omega)).mp q; omega)]
    have hl := hI.2.2.2.2.2.2.2.2.1 s hs k (by omega)
    have g5 := hI.2.2.2.2.1
    refine kx_go 3 (pc' := 29) (L' := [(3, .inl (Int32.ofNat k)), (2, .inl (Int32.ofNat (fa_b B A s k))), (0, .inr (.inr (.inl (some 259)))), (1, .inl (Int32.ofNat s))]) (S' := [.inr (.inr (.inl (some 259))), .inr (.inr (.inl (some 259))), .inl (Int32.ofNat (fa_b B A s k))]) (h' := h) (by with_unfolding_all rfl) ?_
    refine kx_getf (c := 259) (v := .inr (.inr (.inl (some 267)))) rfl (by decide) (kx_ofr (hw _ _ _ fa_kr.2.1)) ?_
    refine kx_go 5 (pc' := 37) (L' := [(3, .inl (Int32.ofNat k)), (2, .inl (Int32.ofNat (fa_b B A s k))), (0, .inr (.inr (.inl (some 259)))), (1, .inl (Int32.ofNat s))]) (S' := [.inl (((Int32.ofNat 3) * (Int32.ofNat s)) + (Int32.ofNat k)), .inr (.inr (.inl (some 267))), .inr (.inr (.inl (some 259))), .inl (Int32.ofNat (fa_b B A s k))]) (h' := h) (by with_unfolding_all rfl) ?_
    rw [kx_mul, kx_add]
    refine kx_iald (c := 267) (j := 3 * s + k) (m := 18) (v := .inl (Int32.ofNat (A (40 + 3 * s + k)))) rfl rfl (by decide) (by decide) (by omega) (hA.2.2.2.2.1 s (by omega) k (by omega)) ?_
    refine kx_go 1 (pc' := 39) (L' := [(3, .inl (Int32.ofNat k)), (2, .inl (Int32.ofNat (fa_b B A s k))), (0, .inr (.inr (.inl (some 259)))), (1, .inl (Int32.ofNat s))]) (S' := [.inr (.inr (.inl (some 259))), .inl (Int32.ofNat (A (40 + 3 * s + k))), .inr (.inr (.inl (some 259))), .inl (Int32.ofNat (fa_b B A s k))]) (h' := h) (by with_unfolding_all rfl) ?_
    refine kx_getf (c := 259) (v := .inl (Int32.ofNat (A 5))) rfl (by decide) hA.1.2.2.2.2.2 ?_
    refine kc_call_rule (M2 := wk_m243) (av := [.inr (.inr (.inl (some 259))), .inl (Int32.ofNat (A (40 + 3 * s + k))), .inl (Int32.ofNat (A 5))]) (r := [.inl (Int32.ofNat (fa_b B A s k))]) rfl rfl (kc_Con_le (fa_r243 (d := 0) hg hw hC hB (show A (40 + 3 * s + k) < 10 by omega) (show A 5 ≤ 60 by omega)) (by omega)) (fun rv h2 hq => ?_)
    obtain ⟨rfl, e9⟩ := hq
    rw [e9]
    clear e9
    show kc_Ev g (d + 2) wk_m245 _ 45 [(3, .inl (Int32.ofNat k)), (2, .inl (Int32.ofNat (fa_b B A s k))), (0, .inr (.inr (.inl (some 259)))), (1, .inl (Int32.ofNat s))] [.inl (Int32.ofNat (fa_w B (A (40 + 3 * s + k)) (A 5))), .inl (Int32.ofNat (fa_b B A s k))] h
    refine kx_go 4 (pc' := 16) (L' := [(3, .inl ((Int32.ofNat k) + Int32.ofInt 1)), (2, .inl ((Int32.ofNat (fa_b B A s k)) + (Int32.ofNat (fa_w B (A (40 + 3 * s + k)) (A 5))))), (0, .inr (.inr (.inl (some 259)))), (1, .inl (Int32.ofNat s))]) (S' := []) (h' := h) (by with_unfolding_all rfl) ?_
    rw [kx_inc, kx_add]
    refine kf_lo (L := [(3, .inl (Int32.ofNat (k + 1))), (2, .inl (Int32.ofNat (fa_b B A s k + fa_w B (A (40 + 3 * s + k)) (A 5)))), (0, .inr (.inr (.inl (some 259)))), (1, .inl (Int32.ofNat s))]) (by intro q hq; simp only [List.mem_cons, List.not_mem_nil, or_false] at hq; rcases hq with rfl | rfl | rfl | rfl <;> rfl) ?_
    exact ih (k + 1) (by omega) (by omega)
set_option maxRecDepth 20000 in
theorem fa_r245 {g : kc_G} {d : Nat} {h : kc_H} {B : Nat → Int32} {A : Nat → Nat} {L i : Nat} {s : Nat} (hg : kc_ok g) (hw : kd_wt kd_ty h) (hC : fu_B B h) (hB : fu_BT B) (hL : L ≤ 10) (hi : i ≤ 60) (hI : fa_I B A L i) (hA : fa_R A L h) (hs : s < 6) : kc_Con g (d + 3) 245 [.inr (.inr (.inl (some 259))), .inl (Int32.ofNat s)] h (fun rv h' => rv = some (.inl (Int32.ofNat (fa_bw B A s))) ∧ h' = h) := by
  refine kc_Con_new hg (M := wk_m245) rfl rfl rfl (show 2 ≤ 4 by decide) ?_
  refine kx_go 1 (pc' := 1) (L' := [(0, .inr (.inr (.inl (some 259)))), (1, .inl (Int32.ofNat s))]) (S' := [.inr (.inr (.inl (some 259)))]) (h' := h) (by with_unfolding_all rfl) ?_
  refine kx_getf (c := 259) (v := .inr (.inr (.inl (some 269)))) rfl (by decide) (kx_ofr (hw _ _ _ fa_kr.2.2.2.1)) ?_
  refine kx_go 1 (pc' := 5) (L' := [(0, .inr (.inr (.inl (some 259)))), (1, .inl (Int32.ofNat s))]) (S' := [.inl (Int32.ofNat s), .inr (.inr (.inl (some 269)))]) (h' := h) (by with_unfolding_all rfl) ?_
  refine kx_iald (c := 269) (j := s) (m := 6) (v := .inl (Int32.ofNat (A (30 + s)))) rfl rfl (by decide) (by decide) (by omega) (hA.2.2.2.1 s (by omega)) ?_
  refine kx_go 1 (pc' := 7) (L' := [(0, .inr (.inr (.inl (some 259)))), (1, .inl (Int32.ofNat s))]) (S' := [.inr (.inr (.inl (some 259))), .inl (Int32.ofNat (A (30 + s)))]) (h' := h) (by with_unfolding_all rfl) ?_
  refine kx_getf (c := 259) (v := .inr (.inr (.inl (some 260)))) rfl (by decide) (kx_ofr (hw _ _ _ kz_k.1)) ?_
  refine kx_go 1 (pc' := 11) (L' := [(0, .inr (.inr (.inl (some 259)))), (1, .inl (Int32.ofNat s))]) (S' := [.inl (Int32.ofNat 4), .inr (.inr (.inl (some 260))), .inl (Int32.ofNat (A (30 + s)))]) (h' := h) (by with_unfolding_all rfl) ?_
  refine kx_iald (c := 260) (j := 4) (m := 650) (v := .inl (Int32.ofNat (fa_n B 4))) rfl rfl (by decide) (by decide) (by decide) ((hC 4 (by decide) (by decide)).trans (by rw [← (fa_n4 hB).1])) ?_
  refine kx_go 4 (pc' := 16) (L' := [(3, .inl (Int32.ofNat 0)), (2, .inl ((Int32.ofNat (A (30 + s))) * (Int32.ofNat (fa_n B 4)))), (0, .inr (.inr (.inl (some 259)))), (1, .inl (Int32.ofNat s))]) (S' := []) (h' := h) (by with_unfolding_all rfl) ?_
  rw [kx_mul]
  refine kf_lo (L := [(3, .inl (Int32.ofNat 0)), (2, .inl (Int32.ofNat (A (30 + s) * fa_n B 4))), (0, .inr (.inr (.inl (some 259)))), (1, .inl (Int32.ofNat s))]) (by intro q hq; simp only [List.mem_cons, List.not_mem_nil, or_false] at hq; rcases hq with rfl | rfl | rfl | rfl <;> rfl) ?_
  exact fa_r245l hg hw hC hB hL hi hI hA hs (A (20 + s)) 0 (by omega) (Nat.zero_le _)
set_option maxRecDepth 20000 in
theorem fa_r247 {g : kc_G} {d : Nat} {h : kc_H} {B : Nat → Int32} {m : Nat} (hg : kc_ok g) (hw : kd_wt kd_ty h) (hC : fu_B B h) (hB : fu_BT B) (hm : m < 3) : kc_Con g (d + 1) 247 [.inr (.inr (.inl (some 259))), .inl (Int32.ofNat m)] h (fun rv h' => rv = some (.inl (Int32.ofNat (fa_n B (60 + 5 * m + 0)))) ∧ h' = h) := by
  refine kc_Con_new hg (M := wk_m247) rfl rfl rfl (show 2 ≤ 2 by decide) ?_
  refine kx_go 1 (pc' := 1) (L' := [(0, .inr (.inr (.inl (some 259)))), (1, .inl (Int32.ofNat m))]) (S' := [.inr (.inr (.inl (some 259)))]) (h' := h) (by with_unfolding_all rfl) ?_
  refine kx_getf (c := 259) (v := .inr (.inr (.inl (some 260)))) rfl (by decide) (kx_ofr (hw _ _ _ kz_k.1)) ?_
  refine kx_go 5 (pc' := 10) (L' := [(0, .inr (.inr (.inl (some 259)))), (1, .inl (Int32.ofNat m))]) (S' := [.inl ((Int32.ofNat 60) + ((Int32.ofNat 5) * (Int32.ofNat m))), .inr (.inr (.inl (some 260)))]) (h' := h) (by with_unfolding_all rfl) ?_
  rw [kx_mul, kx_add]
  refine kx_iald (c := 260) (j := 60 + 5 * m + 0) (m := 650) (v := .inl (Int32.ofNat (fa_n B (60 + 5 * m + 0)))) rfl rfl (by decide) (by decide) (by omega) ((hC (60 + 5 * m + 0) (by omega) ((fu_fmu m hm).1 0 (by decide)).2).trans (by rw [← (fa_nm (e := 0) hB hm (by decide) (by decide) (fa_tm m hm).1).1])) ?_
  exact kc_ret_ok rfl (rv := some (.inl (Int32.ofNat (fa_n B (60 + 5 * m + 0))))) rfl ⟨rfl, rfl⟩
set_option maxRecDepth 20000 in
theorem fa_r256 {g : kc_G} {d : Nat} {h : kc_H} {B : Nat → Int32} {m : Nat} (hg : kc_ok g) (hw : kd_wt kd_ty h) (hC : fu_B B h) (hB : fu_BT B) (hm : m < 3) : kc_Con g (d + 1) 256 [.inr (.inr (.inl (some 259))), .inl (Int32.ofNat m)] h (fun rv h' => rv = some (.inl (Int32.ofNat (fa_n B (60 + 5 * m + 1)))) ∧ h' = h) := by
  refine kc_Con_new hg (M := wk_m256) rfl rfl rfl (show 2 ≤ 2 by decide) ?_
  refine kx_go 1 (pc' := 1) (L' := [(0, .inr (.inr (.inl (some 259)))), (1, .inl (Int32.ofNat m))]) (S' := [.inr (.inr (.inl (some 259)))]) (h' := h) (by with_unfolding_all rfl) ?_
  refine kx_getf (c := 259) (v := .inr (.inr (.inl (some 260)))) rfl (by decide) (kx_ofr (hw _ _ _ kz_k.1)) ?_
  refine kx_go 7 (pc' := 12) (L' := [(0, .inr (.inr (.inl (some 259)))), (1, .inl (Int32.ofNat m))]) (S' := [.inl (((Int32.ofNat 60) + ((Int32.ofNat 5) * (Int32.ofNat m))) + (Int32.ofNat 1)), .inr (.inr (.inl (some 260)))]) (h' := h) (by with_unfolding_all rfl) ?_
  rw [kx_mul, kx_add, kx_add]
  refine kx_iald (c := 260) (j := 60 + 5 * m + 1) (m := 650) (v := .inl (Int32.ofNat (fa_n B (60 + 5 * m + 1)))) rfl rfl (by decide) (by decide) (by omega) ((hC (60 + 5 * m + 1) (by omega) ((fu_fmu m hm).1 1 (by decide)).2).trans (by rw [← (fa_nm (e := 1) hB hm (by decide) (by decide) (fa_tm m hm).2.1).1])) ?_
  exact kc_ret_ok rfl (rv := some (.inl (Int32.ofNat (fa_n B (60 + 5 * m + 1))))) rfl ⟨rfl, rfl⟩
set_option maxRecDepth 20000 in
theorem fa_r246 {g : kc_G} {d : Nat} {h : kc_H} {B : Nat → Int32} {m t : Nat} (hg : kc_ok g) (hw : kd_wt kd_ty h) (hC : fu_B B h) (hB : fu_BT B) (hm : m < 3) (ht : t < 2) : kc_Con g (d + 1) 246 [.inr (.inr (.inl (some 259))), .inl (Int32.ofNat m), .inl (Int32.ofNat t)] h (fun rv h' => rv = some (.inl (Int32.ofNat (fa_n B (60 + 5 * m + (3 + t))))) ∧ h' = h) := by
  refine kc_Con_new hg (M := wk_m246) rfl rfl rfl (show 3 ≤ 3 by decide) ?_
  refine kx_go 1 (pc' := 1) (L' := [(0, .inr (.inr (.inl (some 259)))), (1, .inl (Int32.ofNat m)), (2, .inl (Int32.ofNat t))]) (S' := [.inr (.inr (.inl (some 259)))]) (h' := h) (by with_unfolding_all rfl) ?_
  refine kx_getf (c := 259) (v := .inr (.inr (.inl (some 260)))) rfl (by decide) (kx_ofr (hw _ _ _ kz_k.1)) ?_
  refine kx_go 9 (pc' := 14) (L' := [(0, .inr (.inr (.inl (some 259)))), (1, .inl (Int32.ofNat m)), (2, .inl (Int32.ofNat t))]) (S' := [.inl ((((Int32.ofNat 60) + ((Int32.ofNat 5) * (Int32.ofNat m))) + (Int32.ofNat 3)) + (Int32.ofNat t)), .inr (.inr (.inl (some 260)))]) (h' := h) (by with_unfolding_all rfl) ?_
  rw [kx_mul, kx_add, kx_add, kx_add]
  rcases (show t = 0 ∨ t = 1 by omega) with rfl | rfl
  · refine kx_iald (c := 260) (j := 60 + 5 * m + 3 + 0) (m := 650) (v := .inl (Int32.ofNat (fa_n B (60 + 5 * m + (3 + 0))))) rfl rfl (by decide) (by decide) (by omega) ((hC (60 + 5 * m + (3 + 0)) (by omega) ((fu_fmu m hm).1 3 (by decide)).2).trans (by rw [← (fa_nm (e := 3) hB hm (by decide) (by decide) (fa_tm m hm).2.2.2.1).1])) ?_
    exact kc_ret_ok rfl (rv := some (.inl (Int32.ofNat (fa_n B (60 + 5 * m + (3 + 0)))))) rfl ⟨rfl, rfl⟩
  · refine kx_iald (c := 260) (j := 60 + 5 * m + 3 + 1) (m := 650) (v := .inl (Int32.ofNat (fa_n B (60 + 5 * m + (3 + 1))))) rfl rfl (by decide) (by decide) (by omega) ((hC (60 + 5 * m + (3 + 1)) (by omega) ((fu_fmu m hm).1 4 (by decide)).2).trans (by rw [← (fa_nm (e := 4) hB hm (by decide) (by decide) (fa_tm m hm).2.2.2.2).1])) ?_
    exact kc_ret_ok rfl (rv := some (.inl (Int32.ofNat (fa_n B (60 + 5 * m + (3 + 1)))))) rfl ⟨rfl, rfl⟩
end
section
-- 99.zpo
/-! ===== may a LOAD come on a SIDE ===== -/
def fa_okP (B : Nat → Int32) (A : Nat → Nat) (m t x : Nat) (nw : Bool) : Prop := fa_bw B A (2 * m + t) + x ≤ fa_n B (60 + 5 * m + (3 + t)) ∧ fa_bw B A (2 * m) + fa_bw B A (2 * m + 1) + (if nw = true then x else 0) ≤ fa_n B (60 + 5 * m + 0)
def fa_ok (B : Nat → Int32) (A : Nat → Nat) (m t x : Nat) (nw : Bool) : Bool := decide (fa_bw B A (2 * m + t) + x ≤ fa_n B (60 + 5 * m + (3 + t))) && decide (fa_bw B A (2 * m) + fa_bw B A (2 * m + 1) + (if nw = true then x else 0) ≤ fa_n B (60 + 5 * m + 0))
theorem fa_ok_t {B : Nat → Int32} {A : Nat → Nat} {m t x : Nat} {nw : Bool} (h : fa_okP B A m t x nw) : fa_ok B A m t x nw = true := by
  unfold fa_ok
  rw [decide_eq_true h.1, decide_eq_true h.2]
  rfl
theorem fa_ok_f {B : Nat → Int32} {A : Nat → Nat} {m t x : Nat} {nw : Bool} (h : ¬ fa_okP B A m t x nw) : fa_ok B A m t x nw = false := by
  unfold fa_ok
  by_cases c : fa_bw B A (2 * m + t) + x ≤ fa_n B (60 + 5 * m + (3 + t))
  · rw [decide_eq_true c, decide_eq_false (fun q => h ⟨c, q⟩)]
    rfl
  · rw [decide_eq_false c]
    rfl
def fa_cm (B : Nat → Int32) (A : Nat → Nat) (l s m t : Nat) (nw : Bool) : Nat := if A (20 + s) = 3 then 3 else if 0 < A (20 + s) ∧ fa_hd B l = true ∧ fa_hd B (A (40 + 3 * s + (A (20 + s) - 1))) = false then 4 else if fa_ok B A m t (fa_w B l (A 5)) nw = true then 0 else 5
theorem fa_shr : ∀ m, m < 3 → ∀ t, t < 2 → (Int32.ofNat (2 * m + t)) >>> ((Int32.ofNat 1) &&& 31) = Int32.ofNat m ∧ (Int32.ofNat (2 * m + t)) &&& (Int32.ofNat 1) = Int32.ofNat t ∧ (Int32.ofNat (2 * m + t)) ^^^ (Int32.ofNat 1) = Int32.ofNat (2 * m + (1 - t)) := by decide +kernel
theorem fa_tb : ∀ m, m < 3 → ∀ t, t < 2 → fu_ty (60 + 5 * m + (3 + t)) = (2147483648, 2147483648 + 999) := by decide +kernel
theorem fa_rem {m t : Nat} (hm : m < 3) (ht : t < 2) : Int32.ofNat (2 * m + t) - Int32.ofNat (2 * m + t) / Int32.ofNat 2 * Int32.ofNat 2 = Int32.ofNat t := by
  rw [fh_dv (by omega) (by decide) (by decide), show (2 * m + t) / 2 = m by omega, kx_mul, kx_sub (by omega), show 2 * m + t - m * 2 = t by omega]
theorem fa_sum {f : Nat → Nat} {m t : Nat} (ht : t < 2) : f (2 * m) + f (2 * m + 1) = f (2 * m + t) + f (2 * m + (1 - t)) := by
  rcases (show t = 0 ∨ t = 1 by omega) with rfl | rfl
  · rfl
  · exact Nat.add_comm _ _
set_option maxRecDepth 20000 in
theorem fa_c188 {g : kc_G} {d : Nat} {h : kc_H} {B : Nat → Int32} {A : Nat → Nat} {L i : Nat} {s m t : Nat} (hs : s = 2 * m + t) (hm : m < 3) (ht : t < 2) {x Mm : Nat} {nw : Bool} (hg : kc_ok g) (hw : kd_wt kd_ty h) (hC : fu_C B 1 h) (hB : fu_BT B) (hL : L ≤ 10) (hi : i ≤ 60) (hI : fa_I B A L i) (hA : fa_C A L h) (hW : fa_W B A L h) (hMx : fa_M B A Mm) (hmM : m < Mm) (hx : x ≤ 200) : kc_Con g (d + 2) 188 [.inr (.inr (.inl (some 190))), .inl (Int32.ofNat x), .inl (Int32.ofNat s), .inl (kp_b nw)] h (fun rv h' => rv = some (.inl (kp_b (!fa_ok B A m t x nw))) ∧ h' = h) := by
  have hs6 : s < 6 := by omega
  obtain ⟨f1, f2, f3⟩ := fa_shr m hm t ht
  rw [← hs] at f1 f2 f3
  have b1 := fa_bwl (s := s) hB hL hs6 hI hi
  have b2 := fa_bwl (s := 2 * m + (1 - t)) hB hL (by omega) hI hi
  have b3 := (fa_nm (e := 3 + t) hB hm (by omega) (by decide) (fa_tb m hm t ht)).2
  have b4 := (fa_nm (e := 0) hB hm (by omega) (by decide) (fa_tm m hm).1).2
  have sm := fa_sum (f := fa_bw B A) (m := m) ht
  rw [← hs] at sm
  refine kc_Con_new hg (M := wk_m188) rfl rfl rfl (show 4 ≤ 6 by decide) ?_
  refine kx_go 6 (pc' := 7) (L' := [(4, .inl ((Int32.ofNat s) >>> ((Int32.ofNat 1) &&& 31))), (0, .inr (.inr (.inl (some 190)))), (1, .inl (Int32.ofNat x)), (2, .inl (Int32.ofNat s)), (3, .inl (kp_b nw))]) (S' := [.inl (Int32.ofNat s), .inr (.inr (.inl (some 190)))]) (h' := h) (by with_unfolding_all rfl) ?_
  rw [f1]
  refine kc_call_rule (M2 := wk_m189) (av := [.inr (.inr (.inl (some 190))), .inl (Int32.ofNat s)]) (r := []) rfl rfl (kc_Con_le (fa_c189 (d := 0) hg hw hC hB hL hi hI hA hW hs6) (by omega)) (fun rv h2 hq => ?_)
  obtain ⟨rfl, e9⟩ := hq
  rw [e9]
  clear e9
  show kc_Ev g (d + 1) wk_m188 _ 10 [(4, .inl (Int32.ofNat m)), (0, .inr (.inr (.inl (some 190)))), (1, .inl (Int32.ofNat x)), (2, .inl (Int32.ofNat s)), (3, .inl (kp_b nw))] [.inl (Int32.ofNat (fa_bw B A s))] h
  refine kx_go 5 (pc' := 17) (L' := [(5, .inl ((Int32.ofNat (fa_bw B A s)) + (Int32.ofNat x))), (4, .inl (Int32.ofNat m)), (0, .inr (.inr (.inl (some 190)))), (1, .inl (Int32.ofNat x)), (2, .inl (Int32.ofNat s)), (3, .inl (kp_b nw))]) (S' := [.inr (.inr (.inl (some 190))), .inl ((Int32.ofNat (fa_bw B A s)) + (Int32.ofNat x))]) (h' := h) (by with_unfolding_all rfl) ?_
  refine kx_getf (c := 190) (v := .inr (.inr (.inl (some 1)))) rfl (by decide) (kx_ofr (hw _ _ _ fa_k.1)) ?_
  refine kx_getf (c := 1) (v := .inr (.inr (.inl (some 11)))) rfl (by decide) (kx_ofr (hw _ _ _ fu_kr.2.2.2.1)) ?_
  refine kx_go 1 (pc' := 25) (L' := [(5, .inl ((Int32.ofNat (fa_bw B A s)) + (Int32.ofNat x))), (4, .inl (Int32.ofNat m)), (0, .inr (.inr (.inl (some 190)))), (1, .inl (Int32.ofNat x)), (2, .inl (Int32.ofNat s)), (3, .inl (kp_b nw))]) (S' := [.inl (Int32.ofNat m), .inr (.inr (.inl (some 11))), .inl ((Int32.ofNat (fa_bw B A s)) + (Int32.ofNat x))]) (h' := h) (by with_unfolding_all rfl) ?_
  refine kx_aald rfl (c := 11) (j := m) (m := 3) (t0 := 2) (v := .inr (.inr (.inl (some (1 + (11 + m)))))) rfl (by decide) (by decide) (by decide) (by omega) (kx_ofr (hw _ _ _ (fu_smu m (by omega)).2)) ?_
  refine kx_go 5 (pc' := 31) (L' := [(5, .inl ((Int32.ofNat (fa_bw B A s)) + (Int32.ofNat x))), (4, .inl (Int32.ofNat m)), (0, .inr (.inr (.inl (some 190)))), (1, .inl (Int32.ofNat x)), (2, .inl (Int32.ofNat s)), (3, .inl (kp_b nw))]) (S' := [.inl ((Int32.ofNat 3) + ((Int32.ofNat s) &&& (Int32.ofNat 1))), .inr (.inr (.inl (some (1 + (11 + m))))), .inl ((Int32.ofNat (fa_bw B A s)) + (Int32.ofNat x))]) (h' := h) (by with_unfolding_all rfl) ?_
  rw [f2, kx_add, kx_add]
  refine kx_iald (c := 1 + (11 + m)) (j := 3 + t) (m := 5) (v := .inl (Int32.ofNat (fa_n B (60 + 5 * m + (3 + t))))) rfl (fu_smu m hm).1.1 (fu_smu m hm).1.2 (by decide) (by omega) ((fu_Cj (c := 11 + m) (i := 3 + t) hC (by omega) ((fu_fmu m hm).1 (3 + t) (by omega)).2 ((fu_fmu m hm).1 (3 + t) (by omega)).1).trans (by rw [(fa_nm (e := 3 + t) hB hm (by omega) (by decide) (fa_tb m hm t ht)).1])) ?_
  refine kx_go 1 (pc' := (if kc_cnd .le (Int32.ofNat (fa_bw B A s + x)).toInt (Int32.ofNat (fa_n B (60 + 5 * m + (3 + t)))).toInt then 37 else 35)) (L' := [(5, .inl (Int32.ofNat (fa_bw B A s + x))), (4, .inl (Int32.ofNat m)), (0, .inr (.inr (.inl (some 190)))), (1, .inl (Int32.ofNat x)), (2, .inl (Int32.ofNat s)), (3, .inl (kp_b nw))]) (S' := []) (h' := h) (by with_unfolding_all rfl) ?_
  by_cases c1 : fa_bw B A s + x ≤ fa_n B (60 + 5 * m + (3 + t))
  · rw [if_pos ((kx_le (by omega) (by omega)).mpr c1)]
    refine kx_go 2 (pc' := (if kc_cnd .eq (kp_b nw).toInt 0 then 70 else 41)) (L' := [(5, .inl (Int32.ofNat (fa_bw B A s + x))), (4, .inl (Int32.ofNat m)), (0, .inr (.inr (.inl (some 190)))), (1, .inl (Int32.ofNat x)), (2, .inl (Int32.ofNat s)), (3, .inl (kp_b nw))]) (S' := []) (h' := h) (by with_unfolding_all rfl) ?_
    cases nw with
    | false =>
      rw [if_pos (kx_b0.mpr rfl)]
      refine kx_go 1 (pc' := 71) (L' := [(5, .inl (Int32.ofNat (fa_bw B A s + x))), (4, .inl (Int32.ofNat m)), (0, .inr (.inr (.inl (some 190)))), (1, .inl (Int32.ofNat x)), (2, .inl (Int32.ofNat s)), (3, .inl (kp_b false))]) (S' := [.inl (Int32.ofNat 0)]) (h' := h) (by with_unfolding_all rfl) ?_
      have e : fa_ok B A m t x false = true := fa_ok_t ⟨by rw [← hs]; exact c1, by rw [if_neg (by decide)]; have := hMx m hmM; omega⟩
      rw [e]
      exact kc_ret_ok rfl (rv := some (.inl (Int32.ofNat 0))) rfl ⟨rfl, rfl⟩
    | true =>
      rw [if_neg (fun q => by have := kx_b0.mp q; cases this)]
      refine kx_go 5 (pc' := 47) (L' := [(5, .inl (Int32.ofNat (fa_bw B A s + x))), (4, .inl (Int32.ofNat m)), (0, .inr (.inr (.inl (some 190)))), (1, .inl (Int32.ofNat x)), (2, .inl (Int32.ofNat s)), (3, .inl (kp_b true))]) (S' := [.inl ((Int32.ofNat s) ^^^ (Int32.ofNat 1)), .inr (.inr (.inl (some 190))), .inl (Int32.ofNat (fa_bw B A s + x))]) (h' := h) (by with_unfolding_all rfl) ?_
      rw [f3]
      refine kc_call_rule (M2 := wk_m189) (av := [.inr (.inr (.inl (some 190))), .inl (Int32.ofNat (2 * m + (1 - t)))]) (r := [.inl (Int32.ofNat (fa_bw B A s + x))]) rfl rfl (kc_Con_le (fa_c189 (d := 0) hg hw hC hB hL hi hI hA hW (show 2 * m + (1 - t) < 6 by omega)) (by omega)) (fun rv h2 hq => ?_)
      obtain ⟨rfl, e9⟩ := hq
      rw [e9]
      clear e9
      show kc_Ev g (d + 1) wk_m188 _ 50 [(5, .inl (Int32.ofNat (fa_bw B A s + x))), (4, .inl (Int32.ofNat m)), (0, .inr (.inr (.inl (some 190)))), (1, .inl (Int32.ofNat x)), (2, .inl (Int32.ofNat s)), (3, .inl (kp_b true))] [.inl (Int32.ofNat (fa_bw B A (2 * m + (1 - t)))), .inl (Int32.ofNat (fa_bw B A s + x))] h
      refine kx_go 2 (pc' := 52) (L' := [(5, .inl (Int32.ofNat (fa_bw B A s + x))), (4, .inl (Int32.ofNat m)), (0, .inr (.inr (.inl (some 190)))), (1, .inl (Int32.ofNat x)), (2, .inl (Int32.ofNat s)), (3, .inl (kp_b true))]) (S' := [.inr (.inr (.inl (some 190))), .inl ((Int32.ofNat (fa_bw B A s + x)) + (Int32.ofNat (fa_bw B A (2 * m + (1 - t)))))]) (h' := h) (by with_unfolding_all rfl) ?_
      refine kx_getf (c := 190) (v := .inr (.inr (.inl (some 1)))) rfl (by decide) (kx_ofr (hw _ _ _ fa_k.1)) ?_
      refine kx_getf (c := 1) (v := .inr (.inr (.inl (some 11)))) rfl (by decide) (kx_ofr (hw _ _ _ fu_kr.2.2.2.1)) ?_
      refine kx_go 1 (pc' := 60) (L' := [(5, .inl (Int32.ofNat (fa_bw B A s + x))), (4, .inl (Int32.ofNat m)), (0, .inr (.inr (.inl (some 190)))), (1, .inl (Int32.ofNat x)), (2, .inl (Int32.ofNat s)), (3, .inl (kp_b true))]) (S' := [.inl (Int32.ofNat m), .inr (.inr (.inl (some 11))), .inl ((Int32.ofNat (fa_bw B A s + x)) + (Int32.ofNat (fa_bw B A (2 * m + (1 - t)))))]) (h' := h) (by with_unfolding_all rfl) ?_
      refine kx_aald rfl (c := 11) (j := m) (m := 3) (t0 := 2) (v := .inr (.inr (.inl (some (1 + (11 + m)))))) rfl (by decide) (by decide) (by decide) (by omega) (kx_ofr (hw _ _ _ (fu_smu m (by omega)).2)) ?_
      refine kx_go 1 (pc' := 62) (L' := [(5, .inl (Int32.ofNat (fa_bw B A s + x))), (4, .inl (Int32.ofNat m)), (0, .inr (.inr (.inl (some 190)))), (1, .inl (Int32.ofNat x)), (2, .inl (Int32.ofNat s)), (3, .inl (kp_b true))]) (S' := [.inl (Int32.ofNat 0), .inr (.inr (.inl (some (1 + (11 + m))))), .inl ((Int32.ofNat (fa_bw B A s + x)) + (Int32.ofNat (fa_bw B A (2 * m + (1 - t)))))]) (h' := h) (by with_unfolding_all rfl) ?_
      refine kx_iald (c := 1 + (11 + m)) (j := 0) (m := 5) (v := .inl (Int32.ofNat (fa_n B (60 + 5 * m + 0)))) rfl (fu_smu m (by omega)).1.1 (fu_smu m (by omega)).1.2 (by decide) (by decide) ((fu_Cj (c := 11 + m) (i := 0) hC (by omega) ((fu_fmu m (by omega)).1 0 (by decide)).2 ((fu_fmu m (by omega)).1 0 (by decide)).1).trans (by rw [(fa_nm (e := 0) hB (show m < 3 by omega) (by decide) (by decide) (fa_tm m (by omega)).1).1])) ?_
      refine kx_go 1 (pc' := (if kc_cnd .le ((Int32.ofNat (fa_bw B A s + x)) + (Int32.ofNat (fa_bw B A (2 * m + (1 - t))))).toInt (Int32.ofNat (fa_n B (60 + 5 * m + 0))).toInt then 70 else 66)) (L' := [(5, .inl (Int32.ofNat (fa_bw B A s + x))), (4, .inl (Int32.ofNat m)), (0, .inr (.inr (.inl (some 190)))), (1, .inl (Int32.ofNat x)), (2, .inl (Int32.ofNat s)), (3, .inl (kp_b true))]) (S' := []) (h' := h) (by with_unfolding_all rfl) ?_
      rw [kx_add]
      by_cases c2 : fa_bw B A s + x + fa_bw B A (2 * m + (1 - t)) ≤ fa_n B (60 + 5 * m + 0)
      · rw [if_pos ((kx_le (by omega) (by omega)).mpr c2)]
        refine kx_go 1 (pc' := 71) (L' := [(5, .inl (Int32.ofNat (fa_bw B A s + x))), (4, .inl (Int32.ofNat m)), (0, .inr (.inr (.inl (some 190)))), (1, .inl (Int32.ofNat x)), (2, .inl (Int32.ofNat s)), (3, .inl (kp_b true))]) (S' := [.inl (Int32.ofNat 0)]) (h' := h) (by with_unfolding_all rfl) ?_
        have e : fa_ok B A m t x true = true := fa_ok_t ⟨by rw [← hs]; exact c1, by rw [if_pos rfl]; omega⟩
        rw [e]
        exact kc_ret_ok rfl (rv := some (.inl (Int32.ofNat 0))) rfl ⟨rfl, rfl⟩
      · rw [if_neg (fun q => c2 ((kx_le (by omega) (by omega)).mp q))]
        refine kx_go 2 (pc' := 71) (L' := [(5, .inl (Int32.ofNat (fa_bw B A s + x))), (4, .inl (Int32.ofNat m)), (0, .inr (.inr (.inl (some 190)))), (1, .inl (Int32.ofNat x)), (2, .inl (Int32.ofNat s)), (3, .inl (kp_b true))]) (S' := [.inl (Int32.ofNat 1)]) (h' := h) (by with_unfolding_all rfl) ?_
        have e : fa_ok B A m t x true = false := fa_ok_f (fun q => by have q2 := q.2; rw [if_pos rfl] at q2; omega)
        rw [e]
        exact kc_ret_ok rfl (rv := some (.inl (Int32.ofNat 1))) rfl ⟨rfl, rfl⟩
  · rw [if_neg (fun q => c1 ((kx_le (by omega) (by omega)).mp q))]
    refine kx_go 1 (pc' := 36) (L' := [(5, .inl (Int32.ofNat (fa_bw B A s + x))), (4, .inl (Int32.ofNat m)), (0, .inr (.inr (.inl (some 190)))), (1, .inl (Int32.ofNat x)), (2, .inl (Int32.ofNat s)), (3, .inl (kp_b nw))]) (S' := [.inl (Int32.ofNat 1)]) (h' := h) (by with_unfolding_all rfl) ?_
    have e : fa_ok B A m t x nw = false := fa_ok_f (fun q => by have q1 := q.1; rw [← hs] at q1; omega)
    rw [e]
    exact kc_ret_ok rfl (rv := some (.inl (Int32.ofNat 1))) rfl ⟨rfl, rfl⟩
set_option maxRecDepth 20000 in
theorem fa_r244n {g : kc_G} {d : Nat} {h : kc_H} {B : Nat → Int32} {A : Nat → Nat} {L i : Nat} {s m t : Nat} (hs : s = 2 * m + t) (hm : m < 3) (ht : t < 2) {x : Nat} (hg : kc_ok g) (hw : kd_wt kd_ty h) (hC : fu_B B h) (hB : fu_BT B) (hL : L ≤ 10) (hi : i ≤ 60) (hI : fa_I B A L i) (hA : fa_R A L h) (hx : x ≤ 200) : kc_Con g (d + 4) 244 [.inr (.inr (.inl (some 259))), .inl (Int32.ofNat s), .inl (Int32.ofNat x), .inl (Int32.ofInt (-1))] h (fun rv h' => rv = some (.inl (kp_b (fa_ok B A m t x (true)))) ∧ h' = h) := by
  have hs6 : s < 6 := by omega
  have b1 := fa_bwl (s := s) hB hL hs6 hI hi
  have b2 := fa_bwl (s := 2 * m) hB hL (by omega) hI hi
  have b5 := fa_bwl (s := 2 * m + 1) hB hL (by omega) hI hi
  have b3 := (fa_nm (e := 3 + t) hB hm (by omega) (by decide) (fa_tb m hm t ht)).2
  have b4 := (fa_nm (e := 0) hB hm (by omega) (by decide) (fa_tm m hm).1).2
  refine kc_Con_new hg (M := wk_m244) rfl rfl rfl (show 4 ≤ 6 by decide) ?_
  refine kx_go 2 (pc' := 2) (L' := [(0, .inr (.inr (.inl (some 259)))), (1, .inl (Int32.ofNat s)), (2, .inl (Int32.ofNat x)), (3, .inl (Int32.ofInt (-1)))]) (S' := [.inl (Int32.ofNat 2), .inl (Int32.ofNat s)]) (h' := h) (by with_unfolding_all rfl) ?_
  refine ks_st 3 (L' := [(0, .inr (.inr (.inl (some 259)))), (1, .inl (Int32.ofNat s)), (2, .inl (Int32.ofNat x)), (3, .inl (Int32.ofInt (-1)))]) (S' := [.inl (Int32.ofNat s / Int32.ofNat 2)]) rfl rfl ?_
  rw [fh_dv (by omega) (by decide) (by decide), show s / 2 = m by omega]
  refine kx_go 5 (pc' := 10) (L' := [(4, .inl (Int32.ofNat m)), (0, .inr (.inr (.inl (some 259)))), (1, .inl (Int32.ofNat s)), (2, .inl (Int32.ofNat x)), (3, .inl (Int32.ofInt (-1)))]) (S' := [.inl ((Int32.ofNat 2) * (Int32.ofNat m)), .inr (.inr (.inl (some 259)))]) (h' := h) (by with_unfolding_all rfl) ?_
  rw [kx_mul]
  refine kc_call_rule (M2 := wk_m245) (av := [.inr (.inr (.inl (some 259))), .inl (Int32.ofNat (2 * m))]) (r := []) rfl rfl (kc_Con_le (fa_r245 (d := 0) hg hw hC hB hL hi hI hA (show 2 * m < 6 by omega)) (by omega)) (fun rv h2 hq => ?_)
  obtain ⟨rfl, e9⟩ := hq
  rw [e9]
  clear e9
  show kc_Ev g (d + 3) wk_m244 _ 13 [(4, .inl (Int32.ofNat m)), (0, .inr (.inr (.inl (some 259)))), (1, .inl (Int32.ofNat s)), (2, .inl (Int32.ofNat x)), (3, .inl (Int32.ofInt (-1)))] [.inl (Int32.ofNat (fa_bw B A (2 * m)))] h
  refine kx_go 6 (pc' := 20) (L' := [(4, .inl (Int32.ofNat m)), (0, .inr (.inr (.inl (some 259)))), (1, .inl (Int32.ofNat s)), (2, .inl (Int32.ofNat x)), (3, .inl (Int32.ofInt (-1)))]) (S' := [.inl (((Int32.ofNat 2) * (Int32.ofNat m)) + (Int32.ofNat 1)), .inr (.inr (.inl (some 259))), .inl (Int32.ofNat (fa_bw B A (2 * m)))]) (h' := h) (by with_unfolding_all rfl) ?_
  rw [kx_mul, kx_add]
  refine kc_call_rule (M2 := wk_m245) (av := [.inr (.inr (.inl (some 259))), .inl (Int32.ofNat (2 * m + 1))]) (r := [.inl (Int32.ofNat (fa_bw B A (2 * m)))]) rfl rfl (kc_Con_le (fa_r245 (d := 0) hg hw hC hB hL hi hI hA (show 2 * m + 1 < 6 by omega)) (by omega)) (fun rv h2 hq => ?_)
  obtain ⟨rfl, e9⟩ := hq
  rw [e9]
  clear e9
  show kc_Ev g (d + 3) wk_m244 _ 23 [(4, .inl (Int32.ofNat m)), (0, .inr (.inr (.inl (some 259)))), (1, .inl (Int32.ofNat s)), (2, .inl (Int32.ofNat x)), (3, .inl (Int32.ofInt (-1)))] [.inl (Int32.ofNat (fa_bw B A (2 * m + 1))), .inl (Int32.ofNat (fa_bw B A (2 * m)))] h
  refine kx_go 3 (pc' := (if kc_cnd .lt (Int32.ofInt (-1)).toInt 0 then 40 else 28)) (L' := [(4, .inl (Int32.ofNat m)), (0, .inr (.inr (.inl (some 259)))), (1, .inl (Int32.ofNat s)), (2, .inl (Int32.ofNat x)), (3, .inl (Int32.ofInt (-1)))]) (S' := [.inl ((Int32.ofNat (fa_bw B A (2 * m))) + (Int32.ofNat (fa_bw B A (2 * m + 1))))]) (h' := h) (by with_unfolding_all rfl) ?_
  rw [if_pos (fu_ilt.mpr (by decide))]
  refine kx_go 1 (pc' := 41) (L' := [(4, .inl (Int32.ofNat m)), (0, .inr (.inr (.inl (some 259)))), (1, .inl (Int32.ofNat s)), (2, .inl (Int32.ofNat x)), (3, .inl (Int32.ofInt (-1)))]) (S' := [.inl (Int32.ofNat x), .inl ((Int32.ofNat (fa_bw B A (2 * m))) + (Int32.ofNat (fa_bw B A (2 * m + 1))))]) (h' := h) (by with_unfolding_all rfl) ?_
  rw [kx_add]
  refine kx_go 4 (pc' := 46) (L' := [(5, .inl ((Int32.ofNat (fa_bw B A (2 * m) + fa_bw B A (2 * m + 1))) + (Int32.ofNat x))), (4, .inl (Int32.ofNat m)), (0, .inr (.inr (.inl (some 259)))), (1, .inl (Int32.ofNat s)), (2, .inl (Int32.ofNat x)), (3, .inl (Int32.ofInt (-1)))]) (S' := [.inl (Int32.ofNat s), .inr (.inr (.inl (some 259)))]) (h' := h) (by with_unfolding_all rfl) ?_
  rw [kx_add]
  refine kc_call_rule (M2 := wk_m245) (av := [.inr (.inr (.inl (some 259))), .inl (Int32.ofNat s)]) (r := []) rfl rfl (kc_Con_le (fa_r245 (d := 0) hg hw hC hB hL hi hI hA hs6) (by omega)) (fun rv h2 hq => ?_)
  obtain ⟨rfl, e9⟩ := hq
  rw [e9]
  clear e9
  show kc_Ev g (d + 3) wk_m244 _ 49 [(5, .inl (Int32.ofNat (fa_bw B A (2 * m) + fa_bw B A (2 * m + 1) + x))), (4, .inl (Int32.ofNat m)), (0, .inr (.inr (.inl (some 259)))), (1, .inl (Int32.ofNat s)), (2, .inl (Int32.ofNat x)), (3, .inl (Int32.ofInt (-1)))] [.inl (Int32.ofNat (fa_bw B A s))] h
  refine kx_go 6 (pc' := 56) (L' := [(5, .inl (Int32.ofNat (fa_bw B A (2 * m) + fa_bw B A (2 * m + 1) + x))), (4, .inl (Int32.ofNat m)), (0, .inr (.inr (.inl (some 259)))), (1, .inl (Int32.ofNat s)), (2, .inl (Int32.ofNat x)), (3, .inl (Int32.ofInt (-1)))]) (S' := [.inl (Int32.ofNat 2), .inl (Int32.ofNat s), .inl (Int32.ofNat m), .inr (.inr (.inl (some 259))), .inl ((Int32.ofNat (fa_bw B A s)) + (Int32.ofNat x))]) (h' := h) (by with_unfolding_all rfl) ?_
  rw [kx_add]
  refine ks_st 57 (L' := [(5, .inl (Int32.ofNat (fa_bw B A (2 * m) + fa_bw B A (2 * m + 1) + x))), (4, .inl (Int32.ofNat m)), (0, .inr (.inr (.inl (some 259)))), (1, .inl (Int32.ofNat s)), (2, .inl (Int32.ofNat x)), (3, .inl (Int32.ofInt (-1)))]) (S' := [.inl (Int32.ofNat s - Int32.ofNat s / Int32.ofNat 2 * Int32.ofNat 2), .inl (Int32.ofNat m), .inr (.inr (.inl (some 259))), .inl (Int32.ofNat (fa_bw B A s + x))]) rfl rfl ?_
  rw [show Int32.ofNat s - Int32.ofNat s / Int32.ofNat 2 * Int32.ofNat 2 = Int32.ofNat t from by rw [hs]; exact fa_rem hm ht]
  refine kc_call_rule (M2 := wk_m246) (av := [.inr (.inr (.inl (some 259))), .inl (Int32.ofNat m), .inl (Int32.ofNat t)]) (r := [.inl (Int32.ofNat (fa_bw B A s + x))]) rfl rfl (kc_Con_le (fa_r246 (d := 0) hg hw hC hB hm ht) (by omega)) (fun rv h2 hq => ?_)
  obtain ⟨rfl, e9⟩ := hq
  rw [e9]
  clear e9
  show kc_Ev g (d + 3) wk_m244 _ 60 [(5, .inl (Int32.ofNat (fa_bw B A (2 * m) + fa_bw B A (2 * m + 1) + x))), (4, .inl (Int32.ofNat m)), (0, .inr (.inr (.inl (some 259)))), (1, .inl (Int32.ofNat s)), (2, .inl (Int32.ofNat x)), (3, .inl (Int32.ofInt (-1)))] [.inl (Int32.ofNat (fa_n B (60 + 5 * m + (3 + t)))), .inl (Int32.ofNat (fa_bw B A s + x))] h
  refine kx_go 1 (pc' := (if kc_cnd .gt (Int32.ofNat (fa_bw B A s + x)).toInt (Int32.ofNat (fa_n B (60 + 5 * m + (3 + t)))).toInt then 78 else 63)) (L' := [(5, .inl (Int32.ofNat (fa_bw B A (2 * m) + fa_bw B A (2 * m + 1) + x))), (4, .inl (Int32.ofNat m)), (0, .inr (.inr (.inl (some 259)))), (1, .inl (Int32.ofNat s)), (2, .inl (Int32.ofNat x)), (3, .inl (Int32.ofInt (-1)))]) (S' := []) (h' := h) (by with_unfolding_all rfl) ?_
  by_cases c1 : fa_bw B A s + x ≤ fa_n B (60 + 5 * m + (3 + t))
  · rw [if_neg (fun q => by have := (kx_gt (by omega) (by omega)).mp q; omega)]
    refine kx_go 3 (pc' := 68) (L' := [(5, .inl (Int32.ofNat (fa_bw B A (2 * m) + fa_bw B A (2 * m + 1) + x))), (4, .inl (Int32.ofNat m)), (0, .inr (.inr (.inl (some 259)))), (1, .inl (Int32.ofNat s)), (2, .inl (Int32.ofNat x)), (3, .inl (Int32.ofInt (-1)))]) (S' := [.inl (Int32.ofNat m), .inr (.inr (.inl (some 259))), .inl (Int32.ofNat (fa_bw B A (2 * m) + fa_bw B A (2 * m + 1) + x))]) (h' := h) (by with_unfolding_all rfl) ?_
    refine kc_call_rule (M2 := wk_m247) (av := [.inr (.inr (.inl (some 259))), .inl (Int32.ofNat m)]) (r := [.inl (Int32.ofNat (fa_bw B A (2 * m) + fa_bw B A (2 * m + 1) + x))]) rfl rfl (kc_Con_le (fa_r247 (d := 0) hg hw hC hB hm) (by omega)) (fun rv h2 hq => ?_)
    obtain ⟨rfl, e9⟩ := hq
    rw [e9]
    clear e9
    show kc_Ev g (d + 3) wk_m244 _ 71 [(5, .inl (Int32.ofNat (fa_bw B A (2 * m) + fa_bw B A (2 * m + 1) + x))), (4, .inl (Int32.ofNat m)), (0, .inr (.inr (.inl (some 259)))), (1, .inl (Int32.ofNat s)), (2, .inl (Int32.ofNat x)), (3, .inl (Int32.ofInt (-1)))] [.inl (Int32.ofNat (fa_n B (60 + 5 * m + 0))), .inl (Int32.ofNat (fa_bw B A (2 * m) + fa_bw B A (2 * m + 1) + x))] h
    refine kx_go 1 (pc' := (if kc_cnd .gt (Int32.ofNat (fa_bw B A (2 * m) + fa_bw B A (2 * m + 1) + x)).toInt (Int32.ofNat (fa_n B (60 + 5 * m + 0))).toInt then 78 else 74)) (L' := [(5, .inl (Int32.ofNat (fa_bw B A (2 * m) + fa_bw B A (2 * m + 1) + x))), (4, .inl (Int32.ofNat m)), (0, .inr (.inr (.inl (some 259)))), (1, .inl (Int32.ofNat s)), (2, .inl (Int32.ofNat x)), (3, .inl (Int32.ofInt (-1)))]) (S' := []) (h' := h) (by with_unfolding_all rfl) ?_
    by_cases c2 : fa_bw B A (2 * m) + fa_bw B A (2 * m + 1) + x ≤ fa_n B (60 + 5 * m + 0)
    · rw [if_neg (fun q => by have := (kx_gt (by omega) (by omega)).mp q; omega)]
      refine kx_go 2 (pc' := 79) (L' := [(5, .inl (Int32.ofNat (fa_bw B A (2 * m) + fa_bw B A (2 * m + 1) + x))), (4, .inl (Int32.ofNat m)), (0, .inr (.inr (.inl (some 259)))), (1, .inl (Int32.ofNat s)), (2, .inl (Int32.ofNat x)), (3, .inl (Int32.ofInt (-1)))]) (S' := [.inl (Int32.ofNat 1)]) (h' := h) (by with_unfolding_all rfl) ?_
      have e : fa_ok B A m t x true = true := fa_ok_t ⟨by rw [← hs]; exact c1, by rw [if_pos rfl]; exact c2⟩
      rw [e]
      exact kc_ret_ok rfl (rv := some (.inl (Int32.ofNat 1))) rfl ⟨rfl, rfl⟩
    · rw [if_pos ((kx_gt (by omega) (by omega)).mpr (by omega))]
      refine kx_go 1 (pc' := 79) (L' := [(5, .inl (Int32.ofNat (fa_bw B A (2 * m) + fa_bw B A (2 * m + 1) + x))), (4, .inl (Int32.ofNat m)), (0, .inr (.inr (.inl (some 259)))), (1, .inl (Int32.ofNat s)), (2, .inl (Int32.ofNat x)), (3, .inl (Int32.ofInt (-1)))]) (S' := [.inl (Int32.ofNat 0)]) (h' := h) (by with_unfolding_all rfl) ?_
      have e : fa_ok B A m t x true = false := fa_ok_f (fun q => by have q2 := q.2; rw [if_pos rfl] at q2; exact c2 q2)
      rw [e]
      exact kc_ret_ok rfl (rv := some (.inl (Int32.ofNat 0))) rfl ⟨rfl, rfl⟩
  · rw [if_pos ((kx_gt (by omega) (by omega)).mpr (by omega))]
    refine kx_go 1 (pc' := 79) (L' := [(5, .inl (Int32.ofNat (fa_bw B A (2 * m) + fa_bw B A (2 * m + 1) + x))), (4, .inl (Int32.ofNat m)), (0, .inr (.inr (.inl (some 259)))), (1, .inl (Int32.ofNat s)), (2, .inl (Int32.ofNat x)), (3, .inl (Int32.ofInt (-1)))]) (S' := [.inl (Int32.ofNat 0)]) (h' := h) (by with_unfolding_all rfl) ?_
    have e : fa_ok B A m t x true = false := fa_ok_f (fun q => by have q1 := q.1; rw [← hs] at q1; omega)
    rw [e]
    exact kc_ret_ok rfl (rv := some (.inl (Int32.ofNat 0))) rfl ⟨rfl, rfl⟩
set_option maxRecDepth 20000 in
theorem fa_r244s {g : kc_G} {d : Nat} {h : kc_H} {B : Nat → Int32} {A : Nat → Nat} {L i : Nat} {s m t : Nat} (hs : s = 2 * m + t) (hm : m < 3) (ht : t < 2) {x : Nat} {k u : Nat} (hk : k < 3) (hu : u < 2) (hg : kc_ok g) (hw : kd_wt kd_ty h) (hC : fu_B B h) (hB : fu_BT B) (hL : L ≤ 10) (hi : i ≤ 60) (hI : fa_I B A L i) (hA : fa_R A L h) (hx : x ≤ 200) : kc_Con g (d + 4) 244 [.inr (.inr (.inl (some 259))), .inl (Int32.ofNat s), .inl (Int32.ofNat x), .inl (Int32.ofNat (2 * k + u))] h (fun rv h' => rv = some (.inl (kp_b (fa_ok B A m t x (!decide (k = m))))) ∧ h' = h) := by
  have hs6 : s < 6 := by omega
  have b1 := fa_bwl (s := s) hB hL hs6 hI hi
  have b2 := fa_bwl (s := 2 * m) hB hL (by omega) hI hi
  have b5 := fa_bwl (s := 2 * m + 1) hB hL (by omega) hI hi
  have b3 := (fa_nm (e := 3 + t) hB hm (by omega) (by decide) (fa_tb m hm t ht)).2
  have b4 := (fa_nm (e := 0) hB hm (by omega) (by decide) (fa_tm m hm).1).2
  refine kc_Con_new hg (M := wk_m244) rfl rfl rfl (show 4 ≤ 6 by decide) ?_
  refine kx_go 2 (pc' := 2) (L' := [(0, .inr (.inr (.inl (some 259)))), (1, .inl (Int32.ofNat s)), (2, .inl (Int32.ofNat x)), (3, .inl (Int32.ofNat (2 * k + u)))]) (S' := [.inl (Int32.ofNat 2), .inl (Int32.ofNat s)]) (h' := h) (by with_unfolding_all rfl) ?_
  refine ks_st 3 (L' := [(0, .inr (.inr (.inl (some 259)))), (1, .inl (Int32.ofNat s)), (2, .inl (Int32.ofNat x)), (3, .inl (Int32.ofNat (2 * k + u)))]) (S' := [.inl (Int32.ofNat s / Int32.ofNat 2)]) rfl rfl ?_
  rw [fh_dv (by omega) (by decide) (by decide), show s / 2 = m by omega]
  refine kx_go 5 (pc' := 10) (L' := [(4, .inl (Int32.ofNat m)), (0, .inr (.inr (.inl (some 259)))), (1, .inl (Int32.ofNat s)), (2, .inl (Int32.ofNat x)), (3, .inl (Int32.ofNat (2 * k + u)))]) (S' := [.inl ((Int32.ofNat 2) * (Int32.ofNat m)), .inr (.inr (.inl (some 259)))]) (h' := h) (by with_unfolding_all rfl) ?_
  rw [kx_mul]
  refine kc_call_rule (M2 := wk_m245) (av := [.inr (.inr (.inl (some 259))), .inl (Int32.ofNat (2 * m))]) (r := []) rfl rfl (kc_Con_le (fa_r245 (d := 0) hg hw hC hB hL hi hI hA (show 2 * m < 6 by omega)) (by omega)) (fun rv h2 hq => ?_)
  obtain ⟨rfl, e9⟩ := hq
  rw [e9]
  clear e9
  show kc_Ev g (d + 3) wk_m244 _ 13 [(4, .inl (Int32.ofNat m)), (0, .inr (.inr (.inl (some 259)))), (1, .inl (Int32.ofNat s)), (2, .inl (Int32.ofNat x)), (3, .inl (Int32.ofNat (2 * k + u)))] [.inl (Int32.ofNat (fa_bw B A (2 * m)))] h
  refine kx_go 6 (pc' := 20) (L' := [(4, .inl (Int32.ofNat m)), (0, .inr (.inr (.inl (some 259)))), (1, .inl (Int32.ofNat s)), (2, .inl (Int32.ofNat x)), (3, .inl (Int32.ofNat (2 * k + u)))]) (S' := [.inl (((Int32.ofNat 2) * (Int32.ofNat m)) + (Int32.ofNat 1)), .inr (.inr (.inl (some 259))), .inl (Int32.ofNat (fa_bw B A (2 * m)))]) (h' := h) (by with_unfolding_all rfl) ?_
  rw [kx_mul, kx_add]
  refine kc_call_rule (M2 := wk_m245) (av := [.inr (.inr (.inl (some 259))), .inl (Int32.ofNat (2 * m + 1))]) (r := [.inl (Int32.ofNat (fa_bw B A (2 * m)))]) rfl rfl (kc_Con_le (fa_r245 (d := 0) hg hw hC hB hL hi hI hA (show 2 * m + 1 < 6 by omega)) (by omega)) (fun rv h2 hq => ?_)
  obtain ⟨rfl, e9⟩ := hq
  rw [e9]
  clear e9
  show kc_Ev g (d + 3) wk_m244 _ 23 [(4, .inl (Int32.ofNat m)), (0, .inr (.inr (.inl (some 259)))), (1, .inl (Int32.ofNat s)), (2, .inl (Int32.ofNat x)), (3, .inl (Int32.ofNat (2 * k + u)))] [.inl (Int32.ofNat (fa_bw B A (2 * m + 1))), .inl (Int32.ofNat (fa_bw B A (2 * m)))] h
  refine kx_go 3 (pc' := (if kc_cnd .lt (Int32.ofNat (2 * k + u)).toInt 0 then 40 else 28)) (L' := [(4, .inl (Int32.ofNat m)), (0, .inr (.inr (.inl (some 259)))), (1, .inl (Int32.ofNat s)), (2, .inl (Int32.ofNat x)), (3, .inl (Int32.ofNat (2 * k + u)))]) (S' := [.inl ((Int32.ofNat (fa_bw B A (2 * m))) + (Int32.ofNat (fa_bw B A (2 * m + 1))))]) (h' := h) (by with_unfolding_all rfl) ?_
  rw [if_neg (fun q => by have := fu_ilt.mp q; rw [kx_ti (by omega)] at this; omega)]
  refine kx_go 2 (pc' := 30) (L' := [(4, .inl (Int32.ofNat m)), (0, .inr (.inr (.inl (some 259)))), (1, .inl (Int32.ofNat s)), (2, .inl (Int32.ofNat x)), (3, .inl (Int32.ofNat (2 * k + u)))]) (S' := [.inl (Int32.ofNat 2), .inl (Int32.ofNat (2 * k + u)), .inl ((Int32.ofNat (fa_bw B A (2 * m))) + (Int32.ofNat (fa_bw B A (2 * m + 1))))]) (h' := h) (by with_unfolding_all rfl) ?_
  refine ks_st 31 (L' := [(4, .inl (Int32.ofNat m)), (0, .inr (.inr (.inl (some 259)))), (1, .inl (Int32.ofNat s)), (2, .inl (Int32.ofNat x)), (3, .inl (Int32.ofNat (2 * k + u)))]) (S' := [.inl (Int32.ofNat (2 * k + u) / Int32.ofNat 2), .inl ((Int32.ofNat (fa_bw B A (2 * m))) + (Int32.ofNat (fa_bw B A (2 * m + 1))))]) rfl rfl ?_
  rw [fh_dv (by omega) (by decide) (by decide), show (2 * k + u) / 2 = k by omega]
  refine kx_go 2 (pc' := (if kc_cnd .ne (Int32.ofNat k).toInt (Int32.ofNat m).toInt then 40 else 36)) (L' := [(4, .inl (Int32.ofNat m)), (0, .inr (.inr (.inl (some 259)))), (1, .inl (Int32.ofNat s)), (2, .inl (Int32.ofNat x)), (3, .inl (Int32.ofNat (2 * k + u)))]) (S' := [.inl ((Int32.ofNat (fa_bw B A (2 * m))) + (Int32.ofNat (fa_bw B A (2 * m + 1))))]) (h' := h) (by with_unfolding_all rfl) ?_
  by_cases ck : k = m
  · rw [if_neg (fun q => (kx_ne (by omega) (by omega)).mp q ck), decide_eq_true ck]
    refine kx_go 2 (pc' := 41) (L' := [(4, .inl (Int32.ofNat m)), (0, .inr (.inr (.inl (some 259)))), (1, .inl (Int32.ofNat s)), (2, .inl (Int32.ofNat x)), (3, .inl (Int32.ofNat (2 * k + u)))]) (S' := [.inl (Int32.ofNat 0), .inl ((Int32.ofNat (fa_bw B A (2 * m))) + (Int32.ofNat (fa_bw B A (2 * m + 1))))]) (h' := h) (by with_unfolding_all rfl) ?_
    show kc_Ev g (d + 3) wk_m244 (fun rv h' => rv = some (.inl (kp_b (fa_ok B A m t x false))) ∧ h' = h) 41 [(4, .inl (Int32.ofNat m)), (0, .inr (.inr (.inl (some 259)))), (1, .inl (Int32.ofNat s)), (2, .inl (Int32.ofNat x)), (3, .inl (Int32.ofNat (2 * k + u)))] [.inl (Int32.ofNat 0), .inl ((Int32.ofNat (fa_bw B A (2 * m))) + (Int32.ofNat (fa_bw B A (2 * m + 1))))] h
    rw [kx_add]
    refine kx_go 4 (pc' := 46) (L' := [(5, .inl ((Int32.ofNat (fa_bw B A (2 * m) + fa_bw B A (2 * m + 1))) + (Int32.ofNat 0))), (4, .inl (Int32.ofNat m)), (0, .inr (.inr (.inl (some 259)))), (1, .inl (Int32.ofNat s)), (2, .inl (Int32.ofNat x)), (3, .inl (Int32.ofNat (2 * k + u)))]) (S' := [.inl (Int32.ofNat s), .inr (.inr (.inl (some 259)))]) (h' := h) (by with_unfolding_all rfl) ?_
    rw [kx_add]
    refine kc_call_rule (M2 := wk_m245) (av := [.inr (.inr (.inl (some 259))), .inl (Int32.ofNat s)]) (r := []) rfl rfl (kc_Con_le (fa_r245 (d := 0) hg hw hC hB hL hi hI hA hs6) (by omega)) (fun rv h2 hq => ?_)
    obtain ⟨rfl, e9⟩ := hq
    rw [e9]
    clear e9
    show kc_Ev g (d + 3) wk_m244 _ 49 [(5, .inl (Int32.ofNat (fa_bw B A (2 * m) + fa_bw B A (2 * m + 1) + 0))), (4, .inl (Int32.ofNat m)), (0, .inr (.inr (.inl (some 259)))), (1, .inl (Int32.ofNat s)), (2, .inl (Int32.ofNat x)), (3, .inl (Int32.ofNat (2 * k + u)))] [.inl (Int32.ofNat (fa_bw B A s))] h
    refine kx_go 6 (pc' := 56) (L' := [(5, .inl (Int32.ofNat (fa_bw B A (2 * m) + fa_bw B A (2 * m + 1) + 0))), (4, .inl (Int32.ofNat m)), (0, .inr (.inr (.inl (some 259)))), (1, .inl (Int32.ofNat s)), (2, .inl (Int32.ofNat x)), (3, .inl (Int32.ofNat (2 * k + u)))]) (S' := [.inl (Int32.ofNat 2), .inl (Int32.ofNat s), .inl (Int32.ofNat m), .inr (.inr (.inl (some 259))), .inl ((Int32.ofNat (fa_bw B A s)) + (Int32.ofNat x))]) (h' := h) (by with_unfolding_all rfl) ?_
    rw [kx_add]
    refine ks_st 57 (L' := [(5, .inl (Int32.ofNat (fa_bw B A (2 * m) + fa_bw B A (2 * m + 1) + 0))), (4, .inl (Int32.ofNat m)), (0, .inr (.inr (.inl (some 259)))), (1, .inl (Int32.ofNat s)), (2, .inl (Int32.ofNat x)), (3, .inl (Int32.ofNat (2 * k + u)))]) (S' := [.inl (Int32.ofNat s - Int32.ofNat s / Int32.ofNat 2 * Int32.ofNat 2), .inl (Int32.ofNat m), .inr (.inr (.inl (some 259))), .inl (Int32.ofNat (fa_bw B A s + x))]) rfl rfl ?_
    rw [show Int32.ofNat s - Int32.ofNat s / Int32.ofNat 2 * Int32.ofNat 2 = Int32.ofNat t from by rw [hs]; exact fa_rem hm ht]
    refine kc_call_rule (M2 := wk_m246) (av := [.inr (.inr (.inl (some 259))), .inl (Int32.ofNat m), .inl (Int32.ofNat t)]) (r := [.inl (Int32.ofNat (fa_bw B A s + x))]) rfl rfl (kc_Con_le (fa_r246 (d := 0) hg hw hC hB hm ht) (by omega)) (fun rv h2 hq => ?_)
    obtain ⟨rfl, e9⟩ := hq
    rw [e9]
    clear e9
    show kc_Ev g (d + 3) wk_m244 _ 60 [(5, .inl (Int32.ofNat (fa_bw B A (2 * m) + fa_bw B A (2 * m + 1) + 0))), (4, .inl (Int32.ofNat m)), (0, .inr (.inr (.inl (some 259)))), (1, .inl (Int32.ofNat s)), (2, .inl (Int32.ofNat x)), (3, .inl (Int32.ofNat (2 * k + u)))] [.inl (Int32.ofNat (fa_n B (60 + 5 * m + (3 + t)))), .inl (Int32.ofNat (fa_bw B A s + x))] h
    refine kx_go 1 (pc' := (if kc_cnd .gt (Int32.ofNat (fa_bw B A s + x)).toInt (Int32.ofNat (fa_n B (60 + 5 * m + (3 + t)))).toInt then 78 else 63)) (L' := [(5, .inl (Int32.ofNat (fa_bw B A (2 * m) + fa_bw B A (2 * m + 1) + 0))), (4, .inl (Int32.ofNat m)), (0, .inr (.inr (.inl (some 259)))), (1, .inl (Int32.ofNat s)), (2, .inl (Int32.ofNat x)), (3, .inl (Int32.ofNat (2 * k + u)))]) (S' := []) (h' := h) (by with_unfolding_all rfl) ?_
    by_cases c1 : fa_bw B A s + x ≤ fa_n B (60 + 5 * m + (3 + t))
    · rw [if_neg (fun q => by have := (kx_gt (by omega) (by omega)).mp q; omega)]
      refine kx_go 3 (pc' := 68) (L' := [(5, .inl (Int32.ofNat (fa_bw B A (2 * m) + fa_bw B A (2 * m + 1) + 0))), (4, .inl (Int32.ofNat m)), (0, .inr (.inr (.inl (some 259)))), (1, .inl (Int32.ofNat s)), (2, .inl (Int32.ofNat x)), (3, .inl (Int32.ofNat (2 * k + u)))]) (S' := [.inl (Int32.ofNat m), .inr (.inr (.inl (some 259))), .inl (Int32.ofNat (fa_bw B A (2 * m) + fa_bw B A (2 * m + 1) + 0))]) (h' := h) (by with_unfolding_all rfl) ?_
      refine kc_call_rule (M2 := wk_m247) (av := [.inr (.inr (.inl (some 259))), .inl (Int32.ofNat m)]) (r := [.inl (Int32.ofNat (fa_bw B A (2 * m) + fa_bw B A (2 * m + 1) + 0))]) rfl rfl (kc_Con_le (fa_r247 (d := 0) hg hw hC hB hm) (by omega)) (fun rv h2 hq => ?_)
      obtain ⟨rfl, e9⟩ := hq
      rw [e9]
      clear e9
      show kc_Ev g (d + 3) wk_m244 _ 71 [(5, .inl (Int32.ofNat (fa_bw B A (2 * m) + fa_bw B A (2 * m + 1) + 0))), (4, .inl (Int32.ofNat m)), (0, .inr (.inr (.inl (some 259)))), (1, .inl (Int32.ofNat s)), (2, .inl (Int32.ofNat x)), (3, .inl (Int32.ofNat (2 * k + u)))] [.inl (Int32.ofNat (fa_n B (60 + 5 * m + 0))), .inl (Int32.ofNat (fa_bw B A (2 * m) + fa_bw B A (2 * m + 1) + 0))] h
      refine kx_go 1 (pc' := (if kc_cnd .gt (Int32.ofNat (fa_bw B A (2 * m) + fa_bw B A (2 * m + 1) + 0)).toInt (Int32.ofNat (fa_n B (60 + 5 * m + 0))).toInt then 78 else 74)) (L' := [(5, .inl (Int32.ofNat (fa_bw B A (2 * m) + fa_bw B A (2 * m + 1) + 0))), (4, .inl (Int32.ofNat m)), (0, .inr (.inr (.inl (some 259)))), (1, .inl (Int32.ofNat s)), (2, .inl (Int32.ofNat x)), (3, .inl (Int32.ofNat (2 * k + u)))]) (S' := []) (h' := h) (by with_unfolding_all rfl) ?_
      by_cases c2 : fa_bw B A (2 * m) + fa_bw B A (2 * m + 1) + 0 ≤ fa_n B (60 + 5 * m + 0)
      · rw [if_neg (fun q => by have := (kx_gt (by omega) (by omega)).mp q; omega)]
        refine kx_go 2 (pc' := 79) (L' := [(5, .inl (Int32.ofNat (fa_bw B A (2 * m) + fa_bw B A (2 * m + 1) + 0))), (4, .inl (Int32.ofNat m)), (0, .inr (.inr (.inl (some 259)))), (1, .inl (Int32.ofNat s)), (2, .inl (Int32.ofNat x)), (3, .inl (Int32.ofNat (2 * k + u)))]) (S' := [.inl (Int32.ofNat 1)]) (h' := h) (by with_unfolding_all rfl) ?_
        have e : fa_ok B A m t x false = true := fa_ok_t ⟨by rw [← hs]; exact c1, by rw [if_neg (by decide)]; exact c2⟩
        rw [e]
        exact kc_ret_ok rfl (rv := some (.inl (Int32.ofNat 1))) rfl ⟨rfl, rfl⟩
      · rw [if_pos ((kx_gt (by omega) (by omega)).mpr (by omega))]
        refine kx_go 1 (pc' := 79) (L' := [(5, .inl (Int32.ofNat (fa_bw B A (2 * m) + fa_bw B A (2 * m + 1) + 0))), (4, .inl (Int32.ofNat m)), (0, .inr (.inr (.inl (some 259)))), (1, .inl (Int32.ofNat s)), (2, .inl (Int32.ofNat x)), (3, .inl (Int32.ofNat (2 * k + u)))]) (S' := [.inl (Int32.ofNat 0)]) (h' := h) (by with_unfolding_all rfl) ?_
        have e : fa_ok B A m t x false = false := fa_ok_f (fun q => by have q2 := q.2; rw [if_neg (by decide)] at q2; exact c2 q2)
        rw [e]
        exact kc_ret_ok rfl (rv := some (.inl (Int32.ofNat 0))) rfl ⟨rfl, rfl⟩
    · rw [if_pos ((kx_gt (by omega) (by omega)).mpr (by omega))]
      refine kx_go 1 (pc' := 79) (L' := [(5, .inl (Int32.ofNat (fa_bw B A (2 * m) + fa_bw B A (2 * m + 1) + 0))), (4, .inl (Int32.ofNat m)), (0, .inr (.inr (.inl (some 259)))), (1, .inl (Int32.ofNat s)), (2, .inl (Int32.ofNat x)), (3, .inl (Int32.ofNat (2 * k + u)))]) (S' := [.inl (Int32.ofNat 0)]) (h' := h) (by with_unfolding_all rfl) ?_
      have e : fa_ok B A m t x false = false := fa_ok_f (fun q => by have q1 := q.1; rw [← hs] at q1; omega)
      rw [e]
      exact kc_ret_ok rfl (rv := some (.inl (Int32.ofNat 0))) rfl ⟨rfl, rfl⟩
  · rw [if_pos ((kx_ne (by omega) (by omega)).mpr ck), decide_eq_false ck]
    refine kx_go 1 (pc' := 41) (L' := [(4, .inl (Int32.ofNat m)), (0, .inr (.inr (.inl (some 259)))), (1, .inl (Int32.ofNat s)), (2, .inl (Int32.ofNat x)), (3, .inl (Int32.ofNat (2 * k + u)))]) (S' := [.inl (Int32.ofNat x), .inl ((Int32.ofNat (fa_bw B A (2 * m))) + (Int32.ofNat (fa_bw B A (2 * m + 1))))]) (h' := h) (by with_unfolding_all rfl) ?_
    show kc_Ev g (d + 3) wk_m244 (fun rv h' => rv = some (.inl (kp_b (fa_ok B A m t x true))) ∧ h' = h) 41 [(4, .inl (Int32.ofNat m)), (0, .inr (.inr (.inl (some 259)))), (1, .inl (Int32.ofNat s)), (2, .inl (Int32.ofNat x)), (3, .inl (Int32.ofNat (2 * k + u)))] [.inl (Int32.ofNat x), .inl ((Int32.ofNat (fa_bw B A (2 * m))) + (Int32.ofNat (fa_bw B A (2 * m + 1))))] h
    rw [kx_add]
    refine kx_go 4 (pc' := 46) (L' := [(5, .inl ((Int32.ofNat (fa_bw B A (2 * m) + fa_bw B A (2 * m + 1))) + (Int32.ofNat x))), (4, .inl (Int32.ofNat m)), (0, .inr (.inr (.inl (some 259)))), (1, .inl (Int32.ofNat s)), (2, .inl (Int32.ofNat x)), (3, .inl (Int32.ofNat (2 * k + u)))]) (S' := [.inl (Int32.ofNat s), .inr (.inr (.inl (some 259)))]) (h' := h) (by with_unfolding_all rfl) ?_
    rw [kx_add]
    refine kc_call_rule (M2 := wk_m245) (av := [.inr (.inr (.inl (some 259))), .inl (Int32.ofNat s)]) (r := []) rfl rfl (kc_Con_le (fa_r245 (d := 0) hg hw hC hB hL hi hI hA hs6) (by omega)) (fun rv h2 hq => ?_)
    obtain ⟨rfl, e9⟩ := hq
    rw [e9]
    clear e9
    show kc_Ev g (d + 3) wk_m244 _ 49 [(5, .inl (Int32.ofNat (fa_bw B A (2 * m) + fa_bw B A (2 * m + 1) + x))), (4, .inl (Int32.ofNat m)), (0, .inr (.inr (.inl (some 259)))), (1, .inl (Int32.ofNat s)), (2, .inl (Int32.ofNat x)), (3, .inl (Int32.ofNat (2 * k + u)))] [.inl (Int32.ofNat (fa_bw B A s))] h
    refine kx_go 6 (pc' := 56) (L' := [(5, .inl (Int32.ofNat (fa_bw B A (2 * m) + fa_bw B A (2 * m + 1) + x))), (4, .inl (Int32.ofNat m)), (0, .inr (.inr (.inl (some 259)))), (1, .inl (Int32.ofNat s)), (2, .inl (Int32.ofNat x)), (3, .inl (Int32.ofNat (2 * k + u)))]) (S' := [.inl (Int32.ofNat 2), .inl (Int32.ofNat s), .inl (Int32.ofNat m), .inr (.inr (.inl (some 259))), .inl ((Int32.ofNat (fa_bw B A s)) + (Int32.ofNat x))]) (h' := h) (by with_unfolding_all rfl) ?_
    rw [kx_add]
    refine ks_st 57 (L' := [(5, .inl (Int32.ofNat (fa_bw B A (2 * m) + fa_bw B A (2 * m + 1) + x))), (4, .inl (Int32.ofNat m)), (0, .inr (.inr (.inl (some 259)))), (1, .inl (Int32.ofNat s)), (2, .inl (Int32.ofNat x)), (3, .inl (Int32.ofNat (2 * k + u)))]) (S' := [.inl (Int32.ofNat s - Int32.ofNat s / Int32.ofNat 2 * Int32.ofNat 2), .inl (Int32.ofNat m), .inr (.inr (.inl (some 259))), .inl (Int32.ofNat (fa_bw B A s + x))]) rfl rfl ?_
    rw [show Int32.ofNat s - Int32.ofNat s / Int32.ofNat 2 * Int32.ofNat 2 = Int32.ofNat t from by rw [hs]; exact fa_rem hm ht]
    refine kc_call_rule (M2 := wk_m246) (av := [.inr (.inr (.inl (some 259))), .inl (Int32.ofNat m), .inl (Int32.ofNat t)]) (r := [.inl (Int32.ofNat (fa_bw B A s + x))]) rfl rfl (kc_Con_le (fa_r246 (d := 0) hg hw hC hB hm ht) (by omega)) (fun rv h2 hq => ?_)
    obtain ⟨rfl, e9⟩ := hq
    rw [e9]
    clear e9
    show kc_Ev g (d + 3) wk_m244 _ 60 [(5, .inl (Int32.ofNat (fa_bw B A (2 * m) + fa_bw B A (2 * m + 1) + x))), (4, .inl (Int32.ofNat m)), (0, .inr (.inr (.inl (some 259)))), (1, .inl (Int32.ofNat s)), (2, .inl (Int32.ofNat x)), (3, .inl (Int32.ofNat (2 * k + u)))] [.inl (Int32.ofNat (fa_n B (60 + 5 * m + (3 + t)))), .inl (Int32.ofNat (fa_bw B A s + x))] h
    refine kx_go 1 (pc' := (if kc_cnd .gt (Int32.ofNat (fa_bw B A s + x)).toInt (Int32.ofNat (fa_n B (60 + 5 * m + (3 + t)))).toInt then 78 else 63)) (L' := [(5, .inl (Int32.ofNat (fa_bw B A (2 * m) + fa_bw B A (2 * m + 1) + x))), (4, .inl (Int32.ofNat m)), (0, .inr (.inr (.inl (some 259)))), (1, .inl (Int32.ofNat s)), (2, .inl (Int32.ofNat x)), (3, .inl (Int32.ofNat (2 * k + u)))]) (S' := []) (h' := h) (by with_unfolding_all rfl) ?_
    by_cases c1 : fa_bw B A s + x ≤ fa_n B (60 + 5 * m + (3 + t))
    · rw [if_neg (fun q => by have := (kx_gt (by omega) (by omega)).mp q; omega)]
      refine kx_go 3 (pc' := 68) (L' := [(5, .inl (Int32.ofNat (fa_bw B A (2 * m) + fa_bw B A (2 * m + 1) + x))), (4, .inl (Int32.ofNat m)), (0, .inr (.inr (.inl (some 259)))), (1, .inl (Int32.ofNat s)), (2, .inl (Int32.ofNat x)), (3, .inl (Int32.ofNat (2 * k + u)))]) (S' := [.inl (Int32.ofNat m), .inr (.inr (.inl (some 259))), .inl (Int32.ofNat (fa_bw B A (2 * m) + fa_bw B A (2 * m + 1) + x))]) (h' := h) (by with_unfolding_all rfl) ?_
      refine kc_call_rule (M2 := wk_m247) (av := [.inr (.inr (.inl (some 259))), .inl (Int32.ofNat m)]) (r := [.inl (Int32.ofNat (fa_bw B A (2 * m) + fa_bw B A (2 * m + 1) + x))]) rfl rfl (kc_Con_le (fa_r247 (d := 0) hg hw hC hB hm) (by omega)) (fun rv h2 hq => ?_)
      obtain ⟨rfl, e9⟩ := hq
      rw [e9]
      clear e9
      show kc_Ev g (d + 3) wk_m244 _ 71 [(5, .inl (Int32.ofNat (fa_bw B A (2 * m) + fa_bw B A (2 * m + 1) + x))), (4, .inl (Int32.ofNat m)), (0, .inr (.inr (.inl (some 259)))), (1, .inl (Int32.ofNat s)), (2, .inl (Int32.ofNat x)), (3, .inl (Int32.ofNat (2 * k + u)))] [.inl (Int32.ofNat (fa_n B (60 + 5 * m + 0))), .inl (Int32.ofNat (fa_bw B A (2 * m) + fa_bw B A (2 * m + 1) + x))] h
      refine kx_go 1 (pc' := (if kc_cnd .gt (Int32.ofNat (fa_bw B A (2 * m) + fa_bw B A (2 * m + 1) + x)).toInt (Int32.ofNat (fa_n B (60 + 5 * m + 0))).toInt then 78 else 74)) (L' := [(5, .inl (Int32.ofNat (fa_bw B A (2 * m) + fa_bw B A (2 * m + 1) + x))), (4, .inl (Int32.ofNat m)), (0, .inr (.inr (.inl (some 259)))), (1, .inl (Int32.ofNat s)), (2, .inl (Int32.ofNat x)), (3, .inl (Int32.ofNat (2 * k + u)))]) (S' := []) (h' := h) (by with_unfolding_all rfl) ?_
      by_cases c2 : fa_bw B A (2 * m) + fa_bw B A (2 * m + 1) + x ≤ fa_n B (60 + 5 * m + 0)
      · rw [if_neg (fun q => by have := (kx_gt (by omega) (by omega)).mp q; omega)]
        refine kx_go 2 (pc' := 79) (L' := [(5, .inl (Int32.ofNat (fa_bw B A (2 * m) + fa_bw B A (2 * m + 1) + x))), (4, .inl (Int32.ofNat m)), (0, .inr (.inr (.inl (some 259)))), (1, .inl (Int32.ofNat s)), (2, .inl (Int32.ofNat x)), (3, .inl (Int32.ofNat (2 * k + u)))]) (S' := [.inl (Int32.ofNat 1)]) (h' := h) (by with_unfolding_all rfl) ?_
        have e : fa_ok B A m t x true = true := fa_ok_t ⟨by rw [← hs]; exact c1, by rw [if_pos rfl]; exact c2⟩
        rw [e]
        exact kc_ret_ok rfl (rv := some (.inl (Int32.ofNat 1))) rfl ⟨rfl, rfl⟩
      · rw [if_pos ((kx_gt (by omega) (by omega)).mpr (by omega))]
        refine kx_go 1 (pc' := 79) (L' := [(5, .inl (Int32.ofNat (fa_bw B A (2 * m) + fa_bw B A (2 * m + 1) + x))), (4, .inl (Int32.ofNat m)), (0, .inr (.inr (.inl (some 259)))), (1, .inl (Int32.ofNat s)), (2, .inl (Int32.ofNat x)), (3, .inl (Int32.ofNat (2 * k + u)))]) (S' := [.inl (Int32.ofNat 0)]) (h' := h) (by with_unfolding_all rfl) ?_
        have e : fa_ok B A m t x true = false := fa_ok_f (fun q => by have q2 := q.2; rw [if_pos rfl] at q2; exact c2 q2)
        rw [e]
        exact kc_ret_ok rfl (rv := some (.inl (Int32.ofNat 0))) rfl ⟨rfl, rfl⟩
    · rw [if_pos ((kx_gt (by omega) (by omega)).mpr (by omega))]
      refine kx_go 1 (pc' := 79) (L' := [(5, .inl (Int32.ofNat (fa_bw B A (2 * m) + fa_bw B A (2 * m + 1) + x))), (4, .inl (Int32.ofNat m)), (0, .inr (.inr (.inl (some 259)))), (1, .inl (Int32.ofNat s)), (2, .inl (Int32.ofNat x)), (3, .inl (Int32.ofNat (2 * k + u)))]) (S' := [.inl (Int32.ofNat 0)]) (h' := h) (by with_unfolding_all rfl) ?_
      have e : fa_ok B A m t x true = false := fa_ok_f (fun q => by have q1 := q.1; rw [← hs] at q1; omega)
      rw [e]
      exact kc_ret_ok rfl (rv := some (.inl (Int32.ofNat 0))) rfl ⟨rfl, rfl⟩
end
section
-- 99.zpp
/-! ===== by which a LOAD may not come on a SIDE ===== -/
theorem fa_cm3 {B : Nat → Int32} {A : Nat → Nat} {l s m t : Nat} {nw : Bool} (h : A (20 + s) = 3) : fa_cm B A l s m t nw = 3 := if_pos h
theorem fa_cm4 {B : Nat → Int32} {A : Nat → Nat} {l s m t : Nat} {nw : Bool} (h : ¬ A (20 + s) = 3) (h2 : 0 < A (20 + s) ∧ fa_hd B l = true ∧ fa_hd B (A (40 + 3 * s + (A (20 + s) - 1))) = false) : fa_cm B A l s m t nw = 4 := by
  unfold fa_cm
  rw [if_neg h, if_pos h2]
theorem fa_cm0 {B : Nat → Int32} {A : Nat → Nat} {l s m t : Nat} {nw : Bool} (h : ¬ A (20 + s) = 3) (h2 : ¬ (0 < A (20 + s) ∧ fa_hd B l = true ∧ fa_hd B (A (40 + 3 * s + (A (20 + s) - 1))) = false)) (h3 : fa_ok B A m t (fa_w B l (A 5)) nw = true) : fa_cm B A l s m t nw = 0 := by
  unfold fa_cm
  rw [if_neg h, if_neg h2, if_pos h3]
theorem fa_cm5 {B : Nat → Int32} {A : Nat → Nat} {l s m t : Nat} {nw : Bool} (h : ¬ A (20 + s) = 3) (h2 : ¬ (0 < A (20 + s) ∧ fa_hd B l = true ∧ fa_hd B (A (40 + 3 * s + (A (20 + s) - 1))) = false)) (h3 : fa_ok B A m t (fa_w B l (A 5)) nw = false) : fa_cm B A l s m t nw = 5 := by
  unfold fa_cm
  rw [if_neg h, if_neg h2, if_neg (by rw [h3]; decide)]
set_option maxRecDepth 20000 in
theorem fa_c185 {g : kc_G} {d : Nat} {h : kc_H} {B : Nat → Int32} {A : Nat → Nat} {L i : Nat} {s m t : Nat} (hs : s = 2 * m + t) (hm : m < 3) (ht : t < 2) {l Mm : Nat} {nw : Bool} (hg : kc_ok g) (hw : kd_wt kd_ty h) (hC : fu_C B 1 h) (hB : fu_BT B) (hL : L ≤ 10) (hi : i ≤ 60) (hI : fa_I B A L i) (hA : fa_C A L h) (hW : fa_W B A L h) (hMx : fa_M B A Mm) (hmM : m < Mm) (hl : l < L) : kc_Con g (d + 4) 185 [.inr (.inr (.inl (some 190))), .inl (Int32.ofNat l), .inl (Int32.ofNat s), .inl (kp_b nw)] h (fun rv h' => rv = some (.inl (Int32.ofNat (fa_cm B A l s m t nw))) ∧ h' = h) := by
  have hs6 : s < 6 := by omega
  have a3 := hI.2.2.2.2.2.2.1 s hs6
  have hl10 : l < 10 := by omega
  have hwl := fa_wl (g := A 5) hB hl10
  refine kc_Con_new hg (M := wk_m185) rfl rfl rfl (show 4 ≤ 4 by decide) ?_
  refine kx_go 1 (pc' := 1) (L' := [(0, .inr (.inr (.inl (some 190)))), (1, .inl (Int32.ofNat l)), (2, .inl (Int32.ofNat s)), (3, .inl (kp_b nw))]) (S' := [.inr (.inr (.inl (some 190)))]) (h' := h) (by with_unfolding_all rfl) ?_
  refine kx_getf (c := 190) (v := .inr (.inr (.inl (some 192)))) rfl (by decide) (kx_ofr (hw _ _ _ fa_k.2.2.2.1)) ?_
  refine kx_go 1 (pc' := 5) (L' := [(0, .inr (.inr (.inl (some 190)))), (1, .inl (Int32.ofNat l)), (2, .inl (Int32.ofNat s)), (3, .inl (kp_b nw))]) (S' := [.inl (Int32.ofNat s), .inr (.inr (.inl (some 192)))]) (h' := h) (by with_unfolding_all rfl) ?_
  refine kx_iald (c := 192) (j := s) (m := 6) (v := .inl (Int32.ofNat (A (20 + s)))) rfl rfl (by decide) (by decide) (by omega) (hA.2.2.1 s (by omega)) ?_
  refine kx_go 2 (pc' := (if kc_cnd .lt (Int32.ofNat (A (20 + s))).toInt (Int32.ofNat 3).toInt then 12 else 10)) (L' := [(0, .inr (.inr (.inl (some 190)))), (1, .inl (Int32.ofNat l)), (2, .inl (Int32.ofNat s)), (3, .inl (kp_b nw))]) (S' := []) (h' := h) (by with_unfolding_all rfl) ?_
  by_cases c3 : A (20 + s) = 3
  · rw [if_neg (fun q => by have := (kx_lt (by omega) (by omega)).mp q; omega)]
    refine kx_go 1 (pc' := 11) (L' := [(0, .inr (.inr (.inl (some 190)))), (1, .inl (Int32.ofNat l)), (2, .inl (Int32.ofNat s)), (3, .inl (kp_b nw))]) (S' := [.inl (Int32.ofNat 3)]) (h' := h) (by with_unfolding_all rfl) ?_
    rw [fa_cm3 c3]
    exact kc_ret_ok rfl (rv := some (.inl (Int32.ofNat 3))) rfl ⟨rfl, rfl⟩
  · rw [if_pos ((kx_lt (by omega) (by omega)).mpr (by omega))]
    have tail : ¬ (0 < A (20 + s) ∧ fa_hd B l = true ∧ fa_hd B (A (40 + 3 * s + (A (20 + s) - 1))) = false) → kc_Ev g (d + 3) wk_m185 (fun rv h' => rv = some (.inl (Int32.ofNat (fa_cm B A l s m t nw))) ∧ h' = h) 49 [(0, .inr (.inr (.inl (some 190)))), (1, .inl (Int32.ofNat l)), (2, .inl (Int32.ofNat s)), (3, .inl (kp_b nw))] [] h := by
      intro c4
      refine kx_go 2 (pc' := 51) (L' := [(0, .inr (.inr (.inl (some 190)))), (1, .inl (Int32.ofNat l)), (2, .inl (Int32.ofNat s)), (3, .inl (kp_b nw))]) (S' := [.inr (.inr (.inl (some 190))), .inr (.inr (.inl (some 190)))]) (h' := h) (by with_unfolding_all rfl) ?_
      refine kx_getf (c := 190) (v := .inr (.inr (.inl (some 203)))) rfl (by decide) (kx_ofr (hw _ _ _ fa_k.2.2.2.2.2.2.2.2)) ?_
      refine kx_go 1 (pc' := 55) (L' := [(0, .inr (.inr (.inl (some 190)))), (1, .inl (Int32.ofNat l)), (2, .inl (Int32.ofNat s)), (3, .inl (kp_b nw))]) (S' := [.inl (Int32.ofNat l), .inr (.inr (.inl (some 203))), .inr (.inr (.inl (some 190)))]) (h' := h) (by with_unfolding_all rfl) ?_
      refine kx_iald (c := 203) (j := l) (m := 10) (v := .inl (Int32.ofNat (fa_w B l (A 5)))) rfl rfl (by decide) (by decide) (by omega) (hW l (by omega)) ?_
      refine kx_go 2 (pc' := 58) (L' := [(0, .inr (.inr (.inl (some 190)))), (1, .inl (Int32.ofNat l)), (2, .inl (Int32.ofNat s)), (3, .inl (kp_b nw))]) (S' := [.inl (kp_b nw), .inl (Int32.ofNat s), .inl (Int32.ofNat (fa_w B l (A 5))), .inr (.inr (.inl (some 190)))]) (h' := h) (by with_unfolding_all rfl) ?_
      refine kc_call_rule (M2 := wk_m188) (av := [.inr (.inr (.inl (some 190))), .inl (Int32.ofNat (fa_w B l (A 5))), .inl (Int32.ofNat s), .inl (kp_b nw)]) (r := []) rfl rfl (kc_Con_le (fa_c188 (d := 0) hs hm ht hg hw hC hB hL hi hI hA hW hMx hmM (show fa_w B l (A 5) ≤ 200 by omega)) (by omega)) (fun rv h2 hq => ?_)
      obtain ⟨rfl, e9⟩ := hq
      rw [e9]
      clear e9
      show kc_Ev g (d + 3) wk_m185 _ 61 [(0, .inr (.inr (.inl (some 190)))), (1, .inl (Int32.ofNat l)), (2, .inl (Int32.ofNat s)), (3, .inl (kp_b nw))] [.inl (kp_b (!fa_ok B A m t (fa_w B l (A 5)) nw))] h
      refine kx_go 1 (pc' := (if kc_cnd .eq (kp_b (!fa_ok B A m t (fa_w B l (A 5)) nw)).toInt 0 then 68 else 64)) (L' := [(0, .inr (.inr (.inl (some 190)))), (1, .inl (Int32.ofNat l)), (2, .inl (Int32.ofNat s)), (3, .inl (kp_b nw))]) (S' := []) (h' := h) (by with_unfolding_all rfl) ?_
      cases e : fa_ok B A m t (fa_w B l (A 5)) nw with
      | true =>
        rw [if_pos (kx_b0.mpr (show (!true) = false from rfl))]
        refine kx_go 1 (pc' := 69) (L' := [(0, .inr (.inr (.inl (some 190)))), (1, .inl (Int32.ofNat l)), (2, .inl (Int32.ofNat s)), (3, .inl (kp_b nw))]) (S' := [.inl (Int32.ofNat 0)]) (h' := h) (by with_unfolding_all rfl) ?_
        rw [fa_cm0 c3 c4 e]
        exact kc_ret_ok rfl (rv := some (.inl (Int32.ofNat 0))) rfl ⟨rfl, rfl⟩
      | false =>
        rw [if_neg (fun q => by have := kx_b0.mp q; cases this)]
        refine kx_go 2 (pc' := 69) (L' := [(0, .inr (.inr (.inl (some 190)))), (1, .inl (Int32.ofNat l)), (2, .inl (Int32.ofNat s)), (3, .inl (kp_b nw))]) (S' := [.inl (Int32.ofNat 5)]) (h' := h) (by with_unfolding_all rfl) ?_
        rw [fa_cm5 c3 c4 e]
        exact kc_ret_ok rfl (rv := some (.inl (Int32.ofNat 5))) rfl ⟨rfl, rfl⟩
    refine kx_go 1 (pc' := 13) (L' := [(0, .inr (.inr (.inl (some 190)))), (1, .inl (Int32.ofNat l)), (2, .inl (Int32.ofNat s)), (3, .inl (kp_b nw))]) (S' := [.inr (.inr (.inl (some 190)))]) (h' := h) (by with_unfolding_all rfl) ?_
    refine kx_getf (c := 190) (v := .inr (.inr (.inl (some 1)))) rfl (by decide) (kx_ofr (hw _ _ _ fa_k.1)) ?_
    refine kx_go 1 (pc' := 17) (L' := [(0, .inr (.inr (.inl (some 190)))), (1, .inl (Int32.ofNat l)), (2, .inl (Int32.ofNat s)), (3, .inl (kp_b nw))]) (S' := [.inl (Int32.ofNat l), .inr (.inr (.inl (some 1)))]) (h' := h) (by with_unfolding_all rfl) ?_
    refine kc_call_rule (M2 := wk_m186) (av := [.inr (.inr (.inl (some 1))), .inl (Int32.ofNat l)]) (r := []) rfl rfl (kc_Con_le (fa_c186 (d := 0) hg hw hC hB hl10) (by omega)) (fun rv h2 hq => ?_)
    obtain ⟨rfl, e9⟩ := hq
    rw [e9]
    clear e9
    show kc_Ev g (d + 3) wk_m185 _ 20 [(0, .inr (.inr (.inl (some 190)))), (1, .inl (Int32.ofNat l)), (2, .inl (Int32.ofNat s)), (3, .inl (kp_b nw))] [.inl (kp_b (fa_hd B l))] h
    refine kx_go 1 (pc' := (if kc_cnd .eq (kp_b (fa_hd B l)).toInt 0 then 49 else 23)) (L' := [(0, .inr (.inr (.inl (some 190)))), (1, .inl (Int32.ofNat l)), (2, .inl (Int32.ofNat s)), (3, .inl (kp_b nw))]) (S' := []) (h' := h) (by with_unfolding_all rfl) ?_
    cases e1 : fa_hd B l with
    | false =>
      rw [if_pos (kx_b0.mpr rfl)]
      exact tail (fun q => by rw [e1] at q; cases q.2.1)
    | true =>
      rw [if_neg (fun q => by have := kx_b0.mp q; cases this)]
      refine kx_go 1 (pc' := 24) (L' := [(0, .inr (.inr (.inl (some 190)))), (1, .inl (Int32.ofNat l)), (2, .inl (Int32.ofNat s)), (3, .inl (kp_b nw))]) (S' := [.inr (.inr (.inl (some 190)))]) (h' := h) (by with_unfolding_all rfl) ?_
      refine kx_getf (c := 190) (v := .inr (.inr (.inl (some 192)))) rfl (by decide) (kx_ofr (hw _ _ _ fa_k.2.2.2.1)) ?_
      refine kx_go 1 (pc' := 28) (L' := [(0, .inr (.inr (.inl (some 190)))), (1, .inl (Int32.ofNat l)), (2, .inl (Int32.ofNat s)), (3, .inl (kp_b nw))]) (S' := [.inl (Int32.ofNat s), .inr (.inr (.inl (some 192)))]) (h' := h) (by with_unfolding_all rfl) ?_
      refine kx_iald (c := 192) (j := s) (m := 6) (v := .inl (Int32.ofNat (A (20 + s)))) rfl rfl (by decide) (by decide) (by omega) (hA.2.2.1 s (by omega)) ?_
      refine kx_go 1 (pc' := (if kc_cnd .le (Int32.ofNat (A (20 + s))).toInt 0 then 49 else 32)) (L' := [(0, .inr (.inr (.inl (some 190)))), (1, .inl (Int32.ofNat l)), (2, .inl (Int32.ofNat s)), (3, .inl (kp_b nw))]) (S' := []) (h' := h) (by with_unfolding_all rfl) ?_
      by_cases c0 : A (20 + s) = 0
      · rw [if_pos (fu_ile.mpr (by rw [kx_ti (by omega)]; omega))]
        exact tail (fun q => by omega)
      · rw [if_neg (fun q => (fu_ile.mp q) (by rw [kx_ti (by omega)]; omega))]
        have htl := hI.2.2.2.2.2.2.2.2.1 s hs6 (A (20 + s) - 1) (by omega)
        have etp : fa_tp A s = Int32.ofNat (A (40 + 3 * s + (A (20 + s) - 1))) := if_neg c0
        refine kx_go 1 (pc' := 33) (L' := [(0, .inr (.inr (.inl (some 190)))), (1, .inl (Int32.ofNat l)), (2, .inl (Int32.ofNat s)), (3, .inl (kp_b nw))]) (S' := [.inr (.inr (.inl (some 190)))]) (h' := h) (by with_unfolding_all rfl) ?_
        refine kx_getf (c := 190) (v := .inr (.inr (.inl (some 1)))) rfl (by decide) (kx_ofr (hw _ _ _ fa_k.1)) ?_
        refine kx_go 2 (pc' := 38) (L' := [(0, .inr (.inr (.inl (some 190)))), (1, .inl (Int32.ofNat l)), (2, .inl (Int32.ofNat s)), (3, .inl (kp_b nw))]) (S' := [.inl (Int32.ofNat s), .inr (.inr (.inl (some 190))), .inr (.inr (.inl (some 1)))]) (h' := h) (by with_unfolding_all rfl) ?_
        refine kc_call_rule (M2 := wk_m187) (av := [.inr (.inr (.inl (some 190))), .inl (Int32.ofNat s)]) (r := [.inr (.inr (.inl (some 1)))]) rfl rfl (kc_Con_le (fa_c187 (d := 0) hg hw hC hB hL hi hI hA hs6) (by omega)) (fun rv h2 hq => ?_)
        obtain ⟨rfl, e9⟩ := hq
        rw [e9]
        clear e9
        rw [etp]
        show kc_Ev g (d + 3) wk_m185 _ 41 [(0, .inr (.inr (.inl (some 190)))), (1, .inl (Int32.ofNat l)), (2, .inl (Int32.ofNat s)), (3, .inl (kp_b nw))] [.inl (Int32.ofNat (A (40 + 3 * s + (A (20 + s) - 1)))), .inr (.inr (.inl (some 1)))] h
        refine kc_call_rule (M2 := wk_m186) (av := [.inr (.inr (.inl (some 1))), .inl (Int32.ofNat (A (40 + 3 * s + (A (20 + s) - 1))))]) (r := []) rfl rfl (kc_Con_le (fa_c186 (d := 0) hg hw hC hB (show A (40 + 3 * s + (A (20 + s) - 1)) < 10 by omega)) (by omega)) (fun rv h2 hq => ?_)
        obtain ⟨rfl, e9⟩ := hq
        rw [e9]
        clear e9
        show kc_Ev g (d + 3) wk_m185 _ 44 [(0, .inr (.inr (.inl (some 190)))), (1, .inl (Int32.ofNat l)), (2, .inl (Int32.ofNat s)), (3, .inl (kp_b nw))] [.inl (kp_b (fa_hd B (A (40 + 3 * s + (A (20 + s) - 1)))))] h
        refine kx_go 1 (pc' := (if kc_cnd .ne (kp_b (fa_hd B (A (40 + 3 * s + (A (20 + s) - 1))))).toInt 0 then 49 else 47)) (L' := [(0, .inr (.inr (.inl (some 190)))), (1, .inl (Int32.ofNat l)), (2, .inl (Int32.ofNat s)), (3, .inl (kp_b nw))]) (S' := []) (h' := h) (by with_unfolding_all rfl) ?_
        cases e2 : fa_hd B (A (40 + 3 * s + (A (20 + s) - 1))) with
        | true =>
          rw [if_pos (kx_b1.mpr rfl)]
          exact tail (fun q => by rw [e2] at q; cases q.2.2)
        | false =>
          rw [if_neg (fun q => by have := kx_b1.mp q; cases this)]
          refine kx_go 1 (pc' := 48) (L' := [(0, .inr (.inr (.inl (some 190)))), (1, .inl (Int32.ofNat l)), (2, .inl (Int32.ofNat s)), (3, .inl (kp_b nw))]) (S' := [.inl (Int32.ofNat 4)]) (h' := h) (by with_unfolding_all rfl) ?_
          rw [fa_cm4 c3 ⟨by omega, e1, e2⟩]
          exact kc_ret_ok rfl (rv := some (.inl (Int32.ofNat 4))) rfl ⟨rfl, rfl⟩
set_option maxRecDepth 20000 in
theorem fa_r240n {g : kc_G} {d : Nat} {h : kc_H} {B : Nat → Int32} {A : Nat → Nat} {L i : Nat} {s m t : Nat} (hs : s = 2 * m + t) (hm : m < 3) (ht : t < 2) {l : Nat} (hg : kc_ok g) (hw : kd_wt kd_ty h) (hC : fu_B B h) (hB : fu_BT B) (hL : L ≤ 10) (hi : i ≤ 60) (hI : fa_I B A L i) (hA : fa_R A L h) (hl : l < L) : kc_Con g (d + 6) 240 [.inr (.inr (.inl (some 259))), .inl (Int32.ofNat l), .inl (Int32.ofNat s), .inl (Int32.ofInt (-1))] h (fun rv h' => rv = some (.inl (Int32.ofNat (fa_cm B A l s m t true))) ∧ h' = h) := by
  have hs6 : s < 6 := by omega
  have a3 := hI.2.2.2.2.2.2.1 s hs6
  have hl10 : l < 10 := by omega
  have hwl := fa_wl (g := A 5) hB hl10
  have g5 := hI.2.2.2.2.1
  refine kc_Con_new hg (M := wk_m240) rfl rfl rfl (show 4 ≤ 4 by decide) ?_
  refine kx_go 1 (pc' := 1) (L' := [(0, .inr (.inr (.inl (some 259)))), (1, .inl (Int32.ofNat l)), (2, .inl (Int32.ofNat s)), (3, .inl (Int32.ofInt (-1)))]) (S' := [.inr (.inr (.inl (some 259)))]) (h' := h) (by with_unfolding_all rfl) ?_
  refine kx_getf (c := 259) (v := .inr (.inr (.inl (some 268)))) rfl (by decide) (kx_ofr (hw _ _ _ fa_kr.2.2.1)) ?_
  refine kx_go 1 (pc' := 5) (L' := [(0, .inr (.inr (.inl (some 259)))), (1, .inl (Int32.ofNat l)), (2, .inl (Int32.ofNat s)), (3, .inl (Int32.ofInt (-1)))]) (S' := [.inl (Int32.ofNat s), .inr (.inr (.inl (some 268)))]) (h' := h) (by with_unfolding_all rfl) ?_
  refine kx_iald (c := 268) (j := s) (m := 6) (v := .inl (Int32.ofNat (A (20 + s)))) rfl rfl (by decide) (by decide) (by omega) (hA.2.2.1 s (by omega)) ?_
  refine kx_go 2 (pc' := (if kc_cnd .ne (Int32.ofNat (A (20 + s))).toInt (Int32.ofNat 3).toInt then 12 else 10)) (L' := [(0, .inr (.inr (.inl (some 259)))), (1, .inl (Int32.ofNat l)), (2, .inl (Int32.ofNat s)), (3, .inl (Int32.ofInt (-1)))]) (S' := []) (h' := h) (by with_unfolding_all rfl) ?_
  by_cases c3 : A (20 + s) = 3
  · rw [if_neg (fun q => (kx_ne (by omega) (by omega)).mp q c3)]
    refine kx_go 1 (pc' := 11) (L' := [(0, .inr (.inr (.inl (some 259)))), (1, .inl (Int32.ofNat l)), (2, .inl (Int32.ofNat s)), (3, .inl (Int32.ofInt (-1)))]) (S' := [.inl (Int32.ofNat 3)]) (h' := h) (by with_unfolding_all rfl) ?_
    rw [fa_cm3 c3]
    exact kc_ret_ok rfl (rv := some (.inl (Int32.ofNat 3))) rfl ⟨rfl, rfl⟩
  · rw [if_pos ((kx_ne (by omega) (by omega)).mpr c3)]
    have tail : ¬ (0 < A (20 + s) ∧ fa_hd B l = true ∧ fa_hd B (A (40 + 3 * s + (A (20 + s) - 1))) = false) → kc_Ev g (d + 5) wk_m240 (fun rv h' => rv = some (.inl (Int32.ofNat (fa_cm B A l s m t true))) ∧ h' = h) 43 [(0, .inr (.inr (.inl (some 259)))), (1, .inl (Int32.ofNat l)), (2, .inl (Int32.ofNat s)), (3, .inl (Int32.ofInt (-1)))] [] h := by
      intro c4
      refine kx_go 5 (pc' := 48) (L' := [(0, .inr (.inr (.inl (some 259)))), (1, .inl (Int32.ofNat l)), (2, .inl (Int32.ofNat s)), (3, .inl (Int32.ofInt (-1)))]) (S' := [.inr (.inr (.inl (some 259))), .inl (Int32.ofNat l), .inr (.inr (.inl (some 259))), .inl (Int32.ofNat s), .inr (.inr (.inl (some 259)))]) (h' := h) (by with_unfolding_all rfl) ?_
      refine kx_getf (c := 259) (v := .inl (Int32.ofNat (A 5))) rfl (by decide) hA.1.2.2.2.2.2 ?_
      refine kc_call_rule (M2 := wk_m243) (av := [.inr (.inr (.inl (some 259))), .inl (Int32.ofNat l), .inl (Int32.ofNat (A 5))]) (r := [.inl (Int32.ofNat s), .inr (.inr (.inl (some 259)))]) rfl rfl (kc_Con_le (fa_r243 (d := 0) hg hw hC hB hl10 (show A 5 ≤ 60 by omega)) (by omega)) (fun rv h2 hq => ?_)
      obtain ⟨rfl, e9⟩ := hq
      rw [e9]
      clear e9
      show kc_Ev g (d + 5) wk_m240 _ 54 [(0, .inr (.inr (.inl (some 259)))), (1, .inl (Int32.ofNat l)), (2, .inl (Int32.ofNat s)), (3, .inl (Int32.ofInt (-1)))] [.inl (Int32.ofNat (fa_w B l (A 5))), .inl (Int32.ofNat s), .inr (.inr (.inl (some 259)))] h
      refine kx_go 1 (pc' := 55) (L' := [(0, .inr (.inr (.inl (some 259)))), (1, .inl (Int32.ofNat l)), (2, .inl (Int32.ofNat s)), (3, .inl (Int32.ofInt (-1)))]) (S' := [.inl (Int32.ofInt (-1)), .inl (Int32.ofNat (fa_w B l (A 5))), .inl (Int32.ofNat s), .inr (.inr (.inl (some 259)))]) (h' := h) (by with_unfolding_all rfl) ?_
      refine kc_call_rule (M2 := wk_m244) (av := [.inr (.inr (.inl (some 259))), .inl (Int32.ofNat s), .inl (Int32.ofNat (fa_w B l (A 5))), .inl (Int32.ofInt (-1))]) (r := []) rfl rfl (kc_Con_le (fa_r244n (d := 0) hs hm ht hg hw hC hB hL hi hI hA (show fa_w B l (A 5) ≤ 200 by omega)) (by omega)) (fun rv h2 hq => ?_)
      obtain ⟨rfl, e9⟩ := hq
      rw [e9]
      clear e9
      show kc_Ev g (d + 5) wk_m240 _ 58 [(0, .inr (.inr (.inl (some 259)))), (1, .inl (Int32.ofNat l)), (2, .inl (Int32.ofNat s)), (3, .inl (Int32.ofInt (-1)))] [.inl (kp_b (fa_ok B A m t (fa_w B l (A 5)) true))] h
      refine kx_go 1 (pc' := (if kc_cnd .eq (kp_b (fa_ok B A m t (fa_w B l (A 5)) true)).toInt 0 then 65 else 61)) (L' := [(0, .inr (.inr (.inl (some 259)))), (1, .inl (Int32.ofNat l)), (2, .inl (Int32.ofNat s)), (3, .inl (Int32.ofInt (-1)))]) (S' := []) (h' := h) (by with_unfolding_all rfl) ?_
      cases e : fa_ok B A m t (fa_w B l (A 5)) true with
      | true =>
        rw [if_neg (fun q => by have := kx_b0.mp q; cases this)]
        refine kx_go 2 (pc' := 66) (L' := [(0, .inr (.inr (.inl (some 259)))), (1, .inl (Int32.ofNat l)), (2, .inl (Int32.ofNat s)), (3, .inl (Int32.ofInt (-1)))]) (S' := [.inl (Int32.ofNat 0)]) (h' := h) (by with_unfolding_all rfl) ?_
        rw [fa_cm0 c3 c4 e]
        exact kc_ret_ok rfl (rv := some (.inl (Int32.ofNat 0))) rfl ⟨rfl, rfl⟩
      | false =>
        rw [if_pos (kx_b0.mpr rfl)]
        refine kx_go 1 (pc' := 66) (L' := [(0, .inr (.inr (.inl (some 259)))), (1, .inl (Int32.ofNat l)), (2, .inl (Int32.ofNat s)), (3, .inl (Int32.ofInt (-1)))]) (S' := [.inl (Int32.ofNat 5)]) (h' := h) (by with_unfolding_all rfl) ?_
        rw [fa_cm5 c3 c4 e]
        exact kc_ret_ok rfl (rv := some (.inl (Int32.ofNat 5))) rfl ⟨rfl, rfl⟩
    refine kx_go 1 (pc' := 13) (L' := [(0, .inr (.inr (.inl (some 259)))), (1, .inl (Int32.ofNat l)), (2, .inl (Int32.ofNat s)), (3, .inl (Int32.ofInt (-1)))]) (S' := [.inr (.inr (.inl (some 259)))]) (h' := h) (by with_unfolding_all rfl) ?_
    refine kx_getf (c := 259) (v := .inr (.inr (.inl (some 268)))) rfl (by decide) (kx_ofr (hw _ _ _ fa_kr.2.2.1)) ?_
    refine kx_go 1 (pc' := 17) (L' := [(0, .inr (.inr (.inl (some 259)))), (1, .inl (Int32.ofNat l)), (2, .inl (Int32.ofNat s)), (3, .inl (Int32.ofInt (-1)))]) (S' := [.inl (Int32.ofNat s), .inr (.inr (.inl (some 268)))]) (h' := h) (by with_unfolding_all rfl) ?_
    refine kx_iald (c := 268) (j := s) (m := 6) (v := .inl (Int32.ofNat (A (20 + s)))) rfl rfl (by decide) (by decide) (by omega) (hA.2.2.1 s (by omega)) ?_
    refine kx_go 1 (pc' := (if kc_cnd .le (Int32.ofNat (A (20 + s))).toInt 0 then 43 else 21)) (L' := [(0, .inr (.inr (.inl (some 259)))), (1, .inl (Int32.ofNat l)), (2, .inl (Int32.ofNat s)), (3, .inl (Int32.ofInt (-1)))]) (S' := []) (h' := h) (by with_unfolding_all rfl) ?_
    by_cases c0 : A (20 + s) = 0
    · rw [if_pos (fu_ile.mpr (by rw [kx_ti (by omega)]; omega))]
      exact tail (fun q => by omega)
    · rw [if_neg (fun q => (fu_ile.mp q) (by rw [kx_ti (by omega)]; omega))]
      have htl := hI.2.2.2.2.2.2.2.2.1 s hs6 (A (20 + s) - 1) (by omega)
      have etp : fa_tp A s = Int32.ofNat (A (40 + 3 * s + (A (20 + s) - 1))) := if_neg c0
      refine kx_go 2 (pc' := 23) (L' := [(0, .inr (.inr (.inl (some 259)))), (1, .inl (Int32.ofNat l)), (2, .inl (Int32.ofNat s)), (3, .inl (Int32.ofInt (-1)))]) (S' := [.inl (Int32.ofNat l), .inr (.inr (.inl (some 259)))]) (h' := h) (by with_unfolding_all rfl) ?_
      refine kc_call_rule (M2 := wk_m241) (av := [.inr (.inr (.inl (some 259))), .inl (Int32.ofNat l)]) (r := []) rfl rfl (kc_Con_le (fa_r241 (d := 0) hg hw hC hB hl10) (by omega)) (fun rv h2 hq => ?_)
      obtain ⟨rfl, e9⟩ := hq
      rw [e9]
      clear e9
      show kc_Ev g (d + 5) wk_m240 _ 26 [(0, .inr (.inr (.inl (some 259)))), (1, .inl (Int32.ofNat l)), (2, .inl (Int32.ofNat s)), (3, .inl (Int32.ofInt (-1)))] [.inl (kp_b (fa_hd B l))] h
      refine kx_go 1 (pc' := (if kc_cnd .eq (kp_b (fa_hd B l)).toInt 0 then 43 else 29)) (L' := [(0, .inr (.inr (.inl (some 259)))), (1, .inl (Int32.ofNat l)), (2, .inl (Int32.ofNat s)), (3, .inl (Int32.ofInt (-1)))]) (S' := []) (h' := h) (by with_unfolding_all rfl) ?_
      cases e1 : fa_hd B l with
      | false =>
        rw [if_pos (kx_b0.mpr rfl)]
        exact tail (fun q => by rw [e1] at q; cases q.2.1)
      | true =>
        rw [if_neg (fun q => by have := kx_b0.mp q; cases this)]
        refine kx_go 3 (pc' := 32) (L' := [(0, .inr (.inr (.inl (some 259)))), (1, .inl (Int32.ofNat l)), (2, .inl (Int32.ofNat s)), (3, .inl (Int32.ofInt (-1)))]) (S' := [.inl (Int32.ofNat s), .inr (.inr (.inl (some 259))), .inr (.inr (.inl (some 259)))]) (h' := h) (by with_unfolding_all rfl) ?_
        refine kc_call_rule (M2 := wk_m242) (av := [.inr (.inr (.inl (some 259))), .inl (Int32.ofNat s)]) (r := [.inr (.inr (.inl (some 259)))]) rfl rfl (kc_Con_le (fa_r242 (d := 0) hg hw hC hB hL hi hI hA hs6) (by omega)) (fun rv h2 hq => ?_)
        obtain ⟨rfl, e9⟩ := hq
        rw [e9]
        clear e9
        rw [etp]
        show kc_Ev g (d + 5) wk_m240 _ 35 [(0, .inr (.inr (.inl (some 259)))), (1, .inl (Int32.ofNat l)), (2, .inl (Int32.ofNat s)), (3, .inl (Int32.ofInt (-1)))] [.inl (Int32.ofNat (A (40 + 3 * s + (A (20 + s) - 1)))), .inr (.inr (.inl (some 259)))] h
        refine kc_call_rule (M2 := wk_m241) (av := [.inr (.inr (.inl (some 259))), .inl (Int32.ofNat (A (40 + 3 * s + (A (20 + s) - 1))))]) (r := []) rfl rfl (kc_Con_le (fa_r241 (d := 0) hg hw hC hB (show A (40 + 3 * s + (A (20 + s) - 1)) < 10 by omega)) (by omega)) (fun rv h2 hq => ?_)
        obtain ⟨rfl, e9⟩ := hq
        rw [e9]
        clear e9
        show kc_Ev g (d + 5) wk_m240 _ 38 [(0, .inr (.inr (.inl (some 259)))), (1, .inl (Int32.ofNat l)), (2, .inl (Int32.ofNat s)), (3, .inl (Int32.ofInt (-1)))] [.inl (kp_b (fa_hd B (A (40 + 3 * s + (A (20 + s) - 1)))))] h
        refine kx_go 1 (pc' := (if kc_cnd .ne (kp_b (fa_hd B (A (40 + 3 * s + (A (20 + s) - 1))))).toInt 0 then 43 else 41)) (L' := [(0, .inr (.inr (.inl (some 259)))), (1, .inl (Int32.ofNat l)), (2, .inl (Int32.ofNat s)), (3, .inl (Int32.ofInt (-1)))]) (S' := []) (h' := h) (by with_unfolding_all rfl) ?_
        cases e2 : fa_hd B (A (40 + 3 * s + (A (20 + s) - 1))) with
        | true =>
          rw [if_pos (kx_b1.mpr rfl)]
          exact tail (fun q => by rw [e2] at q; cases q.2.2)
        | false =>
          rw [if_neg (fun q => by have := kx_b1.mp q; cases this)]
          refine kx_go 1 (pc' := 42) (L' := [(0, .inr (.inr (.inl (some 259)))), (1, .inl (Int32.ofNat l)), (2, .inl (Int32.ofNat s)), (3, .inl (Int32.ofInt (-1)))]) (S' := [.inl (Int32.ofNat 4)]) (h' := h) (by with_unfolding_all rfl) ?_
          rw [fa_cm4 c3 ⟨by omega, e1, e2⟩]
          exact kc_ret_ok rfl (rv := some (.inl (Int32.ofNat 4))) rfl ⟨rfl, rfl⟩
set_option maxRecDepth 20000 in
theorem fa_r240s {g : kc_G} {d : Nat} {h : kc_H} {B : Nat → Int32} {A : Nat → Nat} {L i : Nat} {s m t : Nat} (hs : s = 2 * m + t) (hm : m < 3) (ht : t < 2) {l : Nat} {k u : Nat} (hk : k < 3) (hu : u < 2) (hg : kc_ok g) (hw : kd_wt kd_ty h) (hC : fu_B B h) (hB : fu_BT B) (hL : L ≤ 10) (hi : i ≤ 60) (hI : fa_I B A L i) (hA : fa_R A L h) (hl : l < L) : kc_Con g (d + 6) 240 [.inr (.inr (.inl (some 259))), .inl (Int32.ofNat l), .inl (Int32.ofNat s), .inl (Int32.ofNat (2 * k + u))] h (fun rv h' => rv = some (.inl (Int32.ofNat (fa_cm B A l s m t (!decide (k = m))))) ∧ h' = h) := by
  have hs6 : s < 6 := by omega
  have a3 := hI.2.2.2.2.2.2.1 s hs6
  have hl10 : l < 10 := by omega
  have hwl := fa_wl (g := A 5) hB hl10
  have g5 := hI.2.2.2.2.1
  refine kc_Con_new hg (M := wk_m240) rfl rfl rfl (show 4 ≤ 4 by decide) ?_
  refine kx_go 1 (pc' := 1) (L' := [(0, .inr (.inr (.inl (some 259)))), (1, .inl (Int32.ofNat l)), (2, .inl (Int32.ofNat s)), (3, .inl (Int32.ofNat (2 * k + u)))]) (S' := [.inr (.inr (.inl (some 259)))]) (h' := h) (by with_unfolding_all rfl) ?_
  refine kx_getf (c := 259) (v := .inr (.inr (.inl (some 268)))) rfl (by decide) (kx_ofr (hw _ _ _ fa_kr.2.2.1)) ?_
  refine kx_go 1 (pc' := 5) (L' := [(0, .inr (.inr (.inl (some 259)))), (1, .inl (Int32.ofNat l)), (2, .inl (Int32.ofNat s)), (3, .inl (Int32.ofNat (2 * k + u)))]) (S' := [.inl (Int32.ofNat s), .inr (.inr (.inl (some 268)))]) (h' := h) (by with_unfolding_all rfl) ?_
  refine kx_iald (c := 268) (j := s) (m := 6) (v := .inl (Int32.ofNat (A (20 + s)))) rfl rfl (by decide) (by decide) (by omega) (hA.2.2.1 s (by omega)) ?_
  refine kx_go 2 (pc' := (if kc_cnd .ne (Int32.ofNat (A (20 + s))).toInt (Int32.ofNat 3).toInt then 12 else 10)) (L' := [(0, .inr (.inr (.inl (some 259)))), (1, .inl (Int32.ofNat l)), (2, .inl (Int32.ofNat s)), (3, .inl (Int32.ofNat (2 * k + u)))]) (S' := []) (h' := h) (by with_unfolding_all rfl) ?_
  by_cases c3 : A (20 + s) = 3
  · rw [if_neg (fun q => (kx_ne (by omega) (by omega)).mp q c3)]
    refine kx_go 1 (pc' := 11) (L' := [(0, .inr (.inr (.inl (some 259)))), (1, .inl (Int32.ofNat l)), (2, .inl (Int32.ofNat s)), (3, .inl (Int32.ofNat (2 * k + u)))]) (S' := [.inl (Int32.ofNat 3)]) (h' := h) (by with_unfolding_all rfl) ?_
    rw [fa_cm3 c3]
    exact kc_ret_ok rfl (rv := some (.inl (Int32.ofNat 3))) rfl ⟨rfl, rfl⟩
  · rw [if_pos ((kx_ne (by omega) (by omega)).mpr c3)]
    have tail : ¬ (0 < A (20 + s) ∧ fa_hd B l = true ∧ fa_hd B (A (40 + 3 * s + (A (20 + s) - 1))) = false) → kc_Ev g (d + 5) wk_m240 (fun rv h' => rv = some (.inl (Int32.ofNat (fa_cm B A l s m t (!decide (k = m))))) ∧ h' = h) 43 [(0, .inr (.inr (.inl (some 259)))), (1, .inl (Int32.ofNat l)), (2, .inl (Int32.ofNat s)), (3, .inl (Int32.ofNat (2 * k + u)))] [] h := by
      intro c4
      refine kx_go 5 (pc' := 48) (L' := [(0, .inr (.inr (.inl (some 259)))), (1, .inl (Int32.ofNat l)), (2, .inl (Int32.ofNat s)), (3, .inl (Int32.ofNat (2 * k + u)))]) (S' := [.inr (.inr (.inl (some 259))), .inl (Int32.ofNat l), .inr (.inr (.inl (some 259))), .inl (Int32.ofNat s), .inr (.inr (.inl (some 259)))]) (h' := h) (by with_unfolding_all rfl) ?_
      refine kx_getf (c := 259) (v := .inl (Int32.ofNat (A 5))) rfl (by decide) hA.1.2.2.2.2.2 ?_
      refine kc_call_rule (M2 := wk_m243) (av := [.inr (.inr (.inl (some 259))), .inl (Int32.ofNat l), .inl (Int32.ofNat (A 5))]) (r := [.inl (Int32.ofNat s), .inr (.inr (.inl (some 259)))]) rfl rfl (kc_Con_le (fa_r243 (d := 0) hg hw hC hB hl10 (show A 5 ≤ 60 by omega)) (by omega)) (fun rv h2 hq => ?_)
      obtain ⟨rfl, e9⟩ := hq
      rw [e9]
      clear e9
      show kc_Ev g (d + 5) wk_m240 _ 54 [(0, .inr (.inr (.inl (some 259)))), (1, .inl (Int32.ofNat l)), (2, .inl (Int32.ofNat s)), (3, .inl (Int32.ofNat (2 * k + u)))] [.inl (Int32.ofNat (fa_w B l (A 5))), .inl (Int32.ofNat s), .inr (.inr (.inl (some 259)))] h
      refine kx_go 1 (pc' := 55) (L' := [(0, .inr (.inr (.inl (some 259)))), (1, .inl (Int32.ofNat l)), (2, .inl (Int32.ofNat s)), (3, .inl (Int32.ofNat (2 * k + u)))]) (S' := [.inl (Int32.ofNat (2 * k + u)), .inl (Int32.ofNat (fa_w B l (A 5))), .inl (Int32.ofNat s), .inr (.inr (.inl (some 259)))]) (h' := h) (by with_unfolding_all rfl) ?_
      refine kc_call_rule (M2 := wk_m244) (av := [.inr (.inr (.inl (some 259))), .inl (Int32.ofNat s), .inl (Int32.ofNat (fa_w B l (A 5))), .inl (Int32.ofNat (2 * k + u))]) (r := []) rfl rfl (kc_Con_le (fa_r244s (d := 0) hs hm ht hk hu hg hw hC hB hL hi hI hA (show fa_w B l (A 5) ≤ 200 by omega)) (by omega)) (fun rv h2 hq => ?_)
      obtain ⟨rfl, e9⟩ := hq
      rw [e9]
      clear e9
      show kc_Ev g (d + 5) wk_m240 _ 58 [(0, .inr (.inr (.inl (some 259)))), (1, .inl (Int32.ofNat l)), (2, .inl (Int32.ofNat s)), (3, .inl (Int32.ofNat (2 * k + u)))] [.inl (kp_b (fa_ok B A m t (fa_w B l (A 5)) (!decide (k = m))))] h
      refine kx_go 1 (pc' := (if kc_cnd .eq (kp_b (fa_ok B A m t (fa_w B l (A 5)) (!decide (k = m)))).toInt 0 then 65 else 61)) (L' := [(0, .inr (.inr (.inl (some 259)))), (1, .inl (Int32.ofNat l)), (2, .inl (Int32.ofNat s)), (3, .inl (Int32.ofNat (2 * k + u)))]) (S' := []) (h' := h) (by with_unfolding_all rfl) ?_
      cases e : fa_ok B A m t (fa_w B l (A 5)) (!decide (k = m)) with
      | true =>
        rw [if_neg (fun q => by have := kx_b0.mp q; cases this)]
        refine kx_go 2 (pc' := 66) (L' := [(0, .inr (.inr (.inl (some 259)))), (1, .inl (Int32.ofNat l)), (2, .inl (Int32.ofNat s)), (3, .inl (Int32.ofNat (2 * k + u)))]) (S' := [.inl (Int32.ofNat 0)]) (h' := h) (by with_unfolding_all rfl) ?_
        rw [fa_cm0 c3 c4 e]
        exact kc_ret_ok rfl (rv := some (.inl (Int32.ofNat 0))) rfl ⟨rfl, rfl⟩
      | false =>
        rw [if_pos (kx_b0.mpr rfl)]
        refine kx_go 1 (pc' := 66) (L' := [(0, .inr (.inr (.inl (some 259)))), (1, .inl (Int32.ofNat l)), (2, .inl (Int32.ofNat s)), (3, .inl (Int32.ofNat (2 * k + u)))]) (S' := [.inl (Int32.ofNat 5)]) (h' := h) (by with_unfolding_all rfl) ?_
        rw [fa_cm5 c3 c4 e]
        exact kc_ret_ok rfl (rv := some (.inl (Int32.ofNat 5))) rfl ⟨rfl, rfl⟩
    refine kx_go 1 (pc' := 13) (L' := [(0, .inr (.inr (.inl (some 259)))), (1, .inl (Int32.ofNat l)), (2, .inl (Int32.ofNat s)), (3, .inl (Int32.ofNat (2 * k + u)))]) (S' := [.inr (.inr (.inl (some 259)))]) (h' := h) (by with_unfolding_all rfl) ?_
    refine kx_getf (c := 259) (v := .inr (.inr (.inl (some 268)))) rfl (by decide) (kx_ofr (hw _ _ _ fa_kr.2.2.1)) ?_
    refine kx_go 1 (pc' := 17) (L' := [(0, .inr (.inr (.inl (some 259)))), (1, .inl (Int32.ofNat l)), (2, .inl (Int32.ofNat s)), (3, .inl (Int32.ofNat (2 * k + u)))]) (S' := [.inl (Int32.ofNat s), .inr (.inr (.inl (some 268)))]) (h' := h) (by with_unfolding_all rfl) ?_
    refine kx_iald (c := 268) (j := s) (m := 6) (v := .inl (Int32.ofNat (A (20 + s)))) rfl rfl (by decide) (by decide) (by omega) (hA.2.2.1 s (by omega)) ?_
    refine kx_go 1 (pc' := (if kc_cnd .le (Int32.ofNat (A (20 + s))).toInt 0 then 43 else 21)) (L' := [(0, .inr (.inr (.inl (some 259)))), (1, .inl (Int32.ofNat l)), (2, .inl (Int32.ofNat s)), (3, .inl (Int32.ofNat (2 * k + u)))]) (S' := []) (h' := h) (by with_unfolding_all rfl) ?_
    by_cases c0 : A (20 + s) = 0
    · rw [if_pos (fu_ile.mpr (by rw [kx_ti (by omega)]; omega))]
      exact tail (fun q => by omega)
    · rw [if_neg (fun q => (fu_ile.mp q) (by rw [kx_ti (by omega)]; omega))]
      have htl := hI.2.2.2.2.2.2.2.2.1 s hs6 (A (20 + s) - 1) (by omega)
      have etp : fa_tp A s = Int32.ofNat (A (40 + 3 * s + (A (20 + s) - 1))) := if_neg c0
      refine kx_go 2 (pc' := 23) (L' := [(0, .inr (.inr (.inl (some 259)))), (1, .inl (Int32.ofNat l)), (2, .inl (Int32.ofNat s)), (3, .inl (Int32.ofNat (2 * k + u)))]) (S' := [.inl (Int32.ofNat l), .inr (.inr (.inl (some 259)))]) (h' := h) (by with_unfolding_all rfl) ?_
      refine kc_call_rule (M2 := wk_m241) (av := [.inr (.inr (.inl (some 259))), .inl (Int32.ofNat l)]) (r := []) rfl rfl (kc_Con_le (fa_r241 (d := 0) hg hw hC hB hl10) (by omega)) (fun rv h2 hq => ?_)
      obtain ⟨rfl, e9⟩ := hq
      rw [e9]
      clear e9
      show kc_Ev g (d + 5) wk_m240 _ 26 [(0, .inr (.inr (.inl (some 259)))), (1, .inl (Int32.ofNat l)), (2, .inl (Int32.ofNat s)), (3, .inl (Int32.ofNat (2 * k + u)))] [.inl (kp_b (fa_hd B l))] h
      refine kx_go 1 (pc' := (if kc_cnd .eq (kp_b (fa_hd B l)).toInt 0 then 43 else 29)) (L' := [(0, .inr (.inr (.inl (some 259)))), (1, .inl (Int32.ofNat l)), (2, .inl (Int32.ofNat s)), (3, .inl (Int32.ofNat (2 * k + u)))]) (S' := []) (h' := h) (by with_unfolding_all rfl) ?_
      cases e1 : fa_hd B l with
      | false =>
        rw [if_pos (kx_b0.mpr rfl)]
        exact tail (fun q => by rw [e1] at q; cases q.2.1)
      | true =>
        rw [if_neg (fun q => by have := kx_b0.mp q; cases this)]
        refine kx_go 3 (pc' := 32) (L' := [(0, .inr (.inr (.inl (some 259)))), (1, .inl (Int32.ofNat l)), (2, .inl (Int32.ofNat s)), (3, .inl (Int32.ofNat (2 * k + u)))]) (S' := [.inl (Int32.ofNat s), .inr (.inr (.inl (some 259))), .inr (.inr (.inl (some 259)))]) (h' := h) (by with_unfolding_all rfl) ?_
        refine kc_call_rule (M2 := wk_m242) (av := [.inr (.inr (.inl (some 259))), .inl (Int32.ofNat s)]) (r := [.inr (.inr (.inl (some 259)))]) rfl rfl (kc_Con_le (fa_r242 (d := 0) hg hw hC hB hL hi hI hA hs6) (by omega)) (fun rv h2 hq => ?_)
        obtain ⟨rfl, e9⟩ := hq
        rw [e9]
        clear e9
        rw [etp]
        show kc_Ev g (d + 5) wk_m240 _ 35 [(0, .inr (.inr (.inl (some 259)))), (1, .inl (Int32.ofNat l)), (2, .inl (Int32.ofNat s)), (3, .inl (Int32.ofNat (2 * k + u)))] [.inl (Int32.ofNat (A (40 + 3 * s + (A (20 + s) - 1)))), .inr (.inr (.inl (some 259)))] h
        refine kc_call_rule (M2 := wk_m241) (av := [.inr (.inr (.inl (some 259))), .inl (Int32.ofNat (A (40 + 3 * s + (A (20 + s) - 1))))]) (r := []) rfl rfl (kc_Con_le (fa_r241 (d := 0) hg hw hC hB (show A (40 + 3 * s + (A (20 + s) - 1)) < 10 by omega)) (by omega)) (fun rv h2 hq => ?_)
        obtain ⟨rfl, e9⟩ := hq
        rw [e9]
        clear e9
        show kc_Ev g (d + 5) wk_m240 _ 38 [(0, .inr (.inr (.inl (some 259)))), (1, .inl (Int32.ofNat l)), (2, .inl (Int32.ofNat s)), (3, .inl (Int32.ofNat (2 * k + u)))] [.inl (kp_b (fa_hd B (A (40 + 3 * s + (A (20 + s) - 1)))))] h
        refine kx_go 1 (pc' := (if kc_cnd .ne (kp_b (fa_hd B (A (40 + 3 * s + (A (20 + s) - 1))))).toInt 0 then 43 else 41)) (L' := [(0, .inr (.inr (.inl (some 259)))), (1, .inl (Int32.ofNat l)), (2, .inl (Int32.ofNat s)), (3, .inl (Int32.ofNat (2 * k + u)))]) (S' := []) (h' := h) (by with_unfolding_all rfl) ?_
        cases e2 : fa_hd B (A (40 + 3 * s + (A (20 + s) - 1))) with
        | true =>
          rw [if_pos (kx_b1.mpr rfl)]
          exact tail (fun q => by rw [e2] at q; cases q.2.2)
        | false =>
          rw [if_neg (fun q => by have := kx_b1.mp q; cases this)]
          refine kx_go 1 (pc' := 42) (L' := [(0, .inr (.inr (.inl (some 259)))), (1, .inl (Int32.ofNat l)), (2, .inl (Int32.ofNat s)), (3, .inl (Int32.ofNat (2 * k + u)))]) (S' := [.inl (Int32.ofNat 4)]) (h' := h) (by with_unfolding_all rfl) ?_
          rw [fa_cm4 c3 ⟨by omega, e1, e2⟩]
          exact kc_ret_ok rfl (rv := some (.inl (Int32.ofNat 4))) rfl ⟨rfl, rfl⟩
end
