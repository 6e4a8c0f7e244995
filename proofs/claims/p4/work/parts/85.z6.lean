/-! ===== by hand: an item ===== -/
/-- the reader's fields, items and rows too -/
def kj (h : kc_H) (it : Nat) : kc_H := fun a b => if a = 127 then (if b = 1 then .inl (Int32.ofNat it) else if b = 2 then .inr (.inr (.inl (some 128))) else if b = 3 then .inr (.inr (.inl (some 129))) else h 127 b) else h a b
theorem kj_o {h : kc_H} {it a b : Nat} (ha : ¬ a = 127) : kj h it a b = h a b := if_neg ha
theorem kj_u {h : kc_H} {it c n p k s a b : Nat} {w : kc_V} (ha : ¬ a = 127) : kc_upd (kr_H (kj h it) c n p k s) a b w = kr_H (kj (kc_upd h a b w) it) c n p k s := by
  funext x y
  unfold kc_upd kr_H kj
  by_cases hx : x = 127
  · have hxa : ¬ 127 = a := fun e => ha e.symm
    simp [hx, hxa]
  · simp [hx]
theorem kj_1 {h : kc_H} {it it' c n p k s : Nat} : kc_upd (kr_H (kj h it) c n p k s) 127 1 (.inl (Int32.ofNat it')) = kr_H (kj h it') c n p k s := by
  funext a b
  unfold kc_upd kr_H kj
  by_cases ha : a = 127
  · by_cases hb : b = 1
    · simp [ha, hb]
    · simp [ha, hb]
  · simp [ha]
theorem kj_uo {h : kc_H} {a b x y : Nat} {w : kc_V} (hx : ¬ x = a) : kc_upd h a b w x y = h x y := if_neg (fun q => hx q.1)
theorem kx_alen {g : kc_G} {d : Nat} {M : wk_M} {Q : Option kc_V → kc_H → Prop} {pc : Nat} {AL : kc_L} {AS : List kc_V} {h : kc_H} {n : Nat} {x : Nat × Nat × Int} {wd : List Nat} {t : Nat} {a : Int} {c m t0 : Nat} (hf : wk_fetch M pc = some (pc, .arraylength, n, x, wd, t, a)) (hs : kc_shp c = some (0, t0, m)) (hc : c < kc_N) (k : kc_Ev g d M Q (pc + 1) AL (.inl (Int32.ofNat m) :: AS) h) : kc_Ev g d M Q pc AL (.inr (.inr (.inl (some c))) :: AS) h := by
  refine kc_heap_ok hf (dd := 1) (AS' := .inl (Int32.ofNat m) :: AS) (h' := h) ?_ k
  show ((kc_ary (.inr (.inr (.inl (some c))))).map fun q => ((1, .inl (Int32.ofNat q.2.2) :: AS, h) : Nat × List kc_V × kc_H)) = _
  rw [kx_ary hs hc]
  rfl
/-- only a row has changed, to numbers below 1000 -/
def kr_T (h h2 : kc_H) (r : Nat) : Prop := ∀ a b, h2 a b = h a b ∨ (a = r ∧ b < 4 ∧ ∃ v, v < 1000 ∧ h2 a b = .inl (Int32.ofNat v))
theorem kr_T_rf {h : kc_H} {r : Nat} : kr_T h h r := fun _ _ => Or.inl rfl
theorem kr_T_u {h h2 : kc_H} {r j v : Nat} (hj : j < 4) (hv : v < 1000) (hh : kr_T (kc_upd h r j (.inl (Int32.ofNat v))) h2 r) : kr_T h h2 r := fun a b => by
  rcases hh a b with e | e
  · by_cases q : a = r ∧ b = j
    · right
      refine ⟨q.1, by omega, v, hv, e.trans ?_⟩
      unfold kc_upd
      rw [if_pos q]
    · left
      refine e.trans ?_
      unfold kc_upd
      rw [if_neg q]
  · exact Or.inr e
theorem kr_T_n {h h2 : kc_H} {r a b : Nat} (hh : kr_T h h2 r) (ha : ¬ a = r) : h2 a b = h a b := by
  rcases hh a b with e | e
  · exact e
  · exact absurd e.1 ha
/-- a row's numbers written -/
def kr_w : kc_H → Nat → Nat → List Nat → kc_H
  | h, _, _, [] => h
  | h, r, j, v :: vs => kr_w (kc_upd h r j (.inl (Int32.ofNat v))) r (j + 1) vs
theorem kr_w_o {r a b : Nat} (ha : ¬ a = r) : ∀ (vs : List Nat) (h : kc_H) (j : Nat), kr_w h r j vs a b = h a b
  | [], _, _ => rfl
  | v :: vs, h, j => by
    show kr_w (kc_upd h r j (.inl (Int32.ofNat v))) r (j + 1) vs a b = h a b
    rw [kr_w_o ha vs, kj_uo ha]
theorem kp_skip_all {P : Nat → Bool} {t : Nat → Nat} : ∀ (m p j : Nat), p ≤ j → j < kp_skip P t m p → P (t j) = true
  | 0, p, j, h1, h2 => by
    have h2 : j < p := h2
    omega
  | m + 1, p, j, h1, h2 => by
    have h2 : j < (bif P (t p) then kp_skip P t m (p + 1) else p) := h2
    cases e : P (t p) with
    | false =>
      rw [e] at h2
      have h2 : j < p := h2
      omega
    | true =>
      rw [e] at h2
      by_cases hj : j = p
      · rw [hj]; exact e
      · exact kp_skip_all m (p + 1) j (by omega) h2
theorem kp_kd_lt {t : Nat → Nat} {n s : Nat} : kp_kd t n s < 5 := by
  unfold kp_kd
  repeat' split
  all_goals omega
theorem kp_dig {t : Nat → Nat} {n s : Nat} (hk : kp_kd t n s = 2) : ∀ j, s ≤ j → j < kp_nx t n s → 48 ≤ t j ∧ t j ≤ 57 := by
  intro j h1 h2
  unfold kp_kd at hk
  unfold kp_nx at h2
  split at hk
  · cases hk
  · rename_i h3
    rw [if_neg h3] at h2
    split at hk
    · cases hk
    · rename_i h4
      rw [if_neg h4] at h2
      split at hk
      · rename_i h5
        rw [if_pos h5] at h2
        have := kp_skip_all _ _ j h1 h2
        unfold kp_fig at this
        exact of_decide_eq_true this
      · split at hk <;> cases hk
theorem kx_nm1 {v : Nat} (hv : v < 2147483648) : ¬ kc_cnd .eq (Int32.ofNat v).toInt (Int32.ofInt (-1)).toInt = true := by
  unfold kc_cnd
  rw [kx_ti hv, show (Int32.ofInt (-1)).toInt = -1 from by decide]
  simp only [decide_eq_true_eq]
  omega
theorem kx_nm2 {v : Nat} (hv : v < 2147483648) : kc_cnd .ne (Int32.ofNat v).toInt (Int32.ofInt (-1)).toInt = true := by
  unfold kc_cnd
  rw [kx_ti hv, show (Int32.ofInt (-1)).toInt = -1 from by decide]
  simp only [Bool.not_eq_true', decide_eq_false_iff_not]
  omega
theorem kx_m1 : kc_cnd .eq (Int32.ofInt (-1)).toInt (Int32.ofInt (-1)).toInt = true := by decide
theorem kx_m2 : ¬ kc_cnd .ne (Int32.ofInt (-1)).toInt (Int32.ofInt (-1)).toInt = true := by decide
/-- what stands behind a verb -/
def kp_a1 (t : Nat → Nat) (n i j s : Nat) : Option Nat := if kp_ch i j = 104 then kp_hd t (kp_nx t n s) (kp_kd t n s) s else kp_nh t (kp_nx t n s) (kp_kd t n s) s
def kp_ar (t : Nat → Nat) (n i : Nat) : Nat → Nat → Nat → Option (List Nat × Nat)
  | 0, _, p => some ([], p)
  | m + 1, j, p => match kp_a1 t n i j (kp_start t n p) with
    | none => none
    | some v => match kp_ar t n i m (j + 1) (kp_nx t n (kp_start t n p)) with
      | none => none
      | some q => some (v :: q.1, q.2)
def kp_item (t : Nat → Nat) (n m f p k s : Nat) : Option ((Nat × List Nat) × Nat) := match kp_vb t p k s m f with
  | none => none
  | some v => match kp_ar t n (kp_sh v) (ks_L (kp_sh v)) 0 p with
    | none => none
    | some q => if kp_kd t n (kp_start t n q.2) = 3 then some ((v, q.1), kp_nx t n (kp_start t n q.2)) else none
theorem kr_rows : ∀ it, it < 60 → kc_shp (130 + it) = some (0, 0, 4) ∧ 130 + it < kc_N := by decide +kernel
theorem kr_shl : ∀ v, v < 16 → kp_sh v < 24 ∧ ks_L (kp_sh v) ≤ 4 := by decide +kernel
theorem kp_nv_lt {t : Nat → Nat} : ∀ (m i v : Nat), m ≤ 3 → (∀ j, i ≤ j → j < i + m → t j ≤ 57) → v < 10 ^ (3 - m) → kp_nv t m i v < 1000
  | 0, i, v, _, _, hv => hv
  | m + 1, i, v, hm, hd, hv => by
    refine kp_nv_lt m (i + 1) (10 * v + t i - 48) (by omega) (fun j h1 h2 => hd j (by omega) (by omega)) ?_
    have h1 := hd i (Nat.le_refl _) (by omega)
    rw [show 3 - m = (3 - (m + 1)) + 1 from by omega, Nat.pow_succ]
    generalize 10 ^ (3 - (m + 1)) = y at hv ⊢
    omega
theorem kp_k2 {t : Nat → Nat} {n s : Nat} (hk : kp_kd t n s = 2) : kp_nx t n s - s ≤ 3 := by
  unfold kp_kd at hk
  unfold kp_nx
  split at hk
  · cases hk
  · rename_i h3
    rw [if_neg h3]
    split at hk
    · cases hk
    · rename_i h4
      rw [if_neg h4]
      split at hk
      · rename_i h5
        rw [if_pos h5]
        split at hk
        · assumption
        · cases hk
      · split at hk <;> cases hk
theorem kp_nh_lt {t : Nat → Nat} {n s x : Nat} (h : kp_nh t (kp_nx t n s) (kp_kd t n s) s = some x) : x < 1000 := by
  unfold kp_nh at h
  split at h
  · rename_i hk
    cases h
    have h3 := kp_k2 hk
    have hd := kp_dig hk
    refine kp_nv_lt _ s 0 h3 (fun j h1 h2 => (hd j h1 (by omega)).2) ?_
    exact Nat.pow_pos (by decide)
  · cases h
set_option maxRecDepth 20000 in
theorem kr_itl {g : kc_G} {d : Nat} {Q : Option kc_V → kc_H → Prop} {c n : Nat} {t : Nat → Nat} (hg : kc_ok g) (hc1 : kc_shp c = some (0, 0, 240)) (hc2 : c < kc_N) (hc3 : c < 127) (hn : n ≤ 240) (hb : ∀ j, j < 240 → t j < 256) {i it v w : Nat} (hi : i < 24) (hi4 : ks_L i ≤ 4) (hit : it < 60) : ∀ (m j : Nat) (h : kc_H) (p k s : Nat), ks_L i - j = m → j ≤ ks_L i → (∀ j, j < 240 → h c j = .inl (Int32.ofNat (t j))) → h 129 it = .inr (.inr (.inl (some (130 + it)))) → p ≤ n →
    (∀ vs e, kp_ar t n i m j p = some (vs, e) → ∀ k2 s2, kc_Ev g (d + 6) wk_m174 Q 116 [(2, .inl (Int32.ofNat v)), (0, .inr (.inr (.inl (some 127))))] [] (kr_H (kj (kr_w h (130 + it) j vs) it) c n e k2 s2)) →
    (kp_ar t n i m j p = none → ∀ (h2 : kc_H) (p2 k2 s2 : Nat), kr_T h h2 (130 + it) → (s2 ≤ n ∧ p2 ≤ n ∧ k2 < 5) → Q (some (.inl (Int32.ofNat s2))) (kr_H (kj h2 it) c n p2 k2 s2)) → kc_Ev g (d + 6) wk_m174 Q 33 [(4, .inl (Int32.ofNat j)), (3, ks_s (i)), (2, .inl (Int32.ofNat v)), (0, .inr (.inr (.inl (some 127)))), (1, .inl (Int32.ofNat w))] [] (kr_H (kj h it) c n p k s) := by
  obtain ⟨hL, hch⟩ := kp_ch_r i hi
  intro m
  induction m with
  | zero =>
    intro j h p k s hm hj ht hrw hp hok hbad
    refine kx_go 2 (pc' := 36) (L' := [(4, .inl (Int32.ofNat j)), (3, ks_s (i)), (2, .inl (Int32.ofNat v)), (0, .inr (.inr (.inl (some 127)))), (1, .inl (Int32.ofNat w))]) (S' := [ks_s (i), .inl (Int32.ofNat j)]) (h' := (kr_H (kj h it) c n p k s)) (by with_unfolding_all rfl) ?_
    refine ks_length (d := d + 4) hg hi rfl (by decide +kernel) (show 1 ≤ 8 by decide) ?_
    refine kx_go 1 (pc' := (if kc_cnd .ge (Int32.ofNat j).toInt (Int32.ofNat (ks_L i)).toInt then 116 else 42)) (L' := [(4, .inl (Int32.ofNat j)), (3, ks_s (i)), (2, .inl (Int32.ofNat v)), (0, .inr (.inr (.inl (some 127)))), (1, .inl (Int32.ofNat w))]) (S' := []) (h' := (kr_H (kj h it) c n p k s)) (by with_unfolding_all rfl) ?_
    rw [if_pos ((kx_ge (by omega) (by omega)).mpr (by omega))]
    refine kf_lo (L := [(2, .inl (Int32.ofNat v)), (0, .inr (.inr (.inl (some 127))))]) ?_ (hok [] p rfl k s)
    intro q hq
    simp only [List.mem_cons, List.not_mem_nil, or_false] at hq
    rcases hq with rfl | rfl <;> rfl
  | succ m ih =>
    intro j h p k s hm hj ht hrw hp hok hbad
    refine kx_go 2 (pc' := 36) (L' := [(4, .inl (Int32.ofNat j)), (3, ks_s (i)), (2, .inl (Int32.ofNat v)), (0, .inr (.inr (.inl (some 127)))), (1, .inl (Int32.ofNat w))]) (S' := [ks_s (i), .inl (Int32.ofNat j)]) (h' := (kr_H (kj h it) c n p k s)) (by with_unfolding_all rfl) ?_
    refine ks_length (d := d + 4) hg hi rfl (by decide +kernel) (show 1 ≤ 8 by decide) ?_
    refine kx_go 1 (pc' := (if kc_cnd .ge (Int32.ofNat j).toInt (Int32.ofNat (ks_L i)).toInt then 116 else 42)) (L' := [(4, .inl (Int32.ofNat j)), (3, ks_s (i)), (2, .inl (Int32.ofNat v)), (0, .inr (.inr (.inl (some 127)))), (1, .inl (Int32.ofNat w))]) (S' := []) (h' := (kr_H (kj h it) c n p k s)) (by with_unfolding_all rfl) ?_
    rw [if_neg (fun w => by have := (kx_ge (by omega) (by omega)).mp w; omega)]
    obtain ⟨hr1, hr2⟩ := kr_rows it hit
    refine kx_go 5 (pc' := 52) (L' := [(4, .inl (Int32.ofNat j)), (3, ks_s (i)), (2, .inl (Int32.ofNat v)), (0, .inr (.inr (.inl (some 127)))), (1, .inl (Int32.ofNat w))]) (S' := [.inl (Int32.ofNat it), .inr (.inr (.inl (some 129))), .inl (Int32.ofNat j)]) (h' := (kr_H (kj h it) c n p k s)) (by with_unfolding_all rfl) ?_
    refine kx_aald rfl (c := 129) (j := it) (m := 60) (t0 := 2) rfl (by decide) (by decide) (by decide) hit ((kr_o (by decide)).trans ((kj_o (by decide)).trans hrw)) ?_
    refine kx_alen rfl hr1 hr2 ?_
    show kc_Ev g (d + 6) wk_m174 Q 54 [(4, .inl (Int32.ofNat j)), (3, ks_s (i)), (2, .inl (Int32.ofNat v)), (0, .inr (.inr (.inl (some 127)))), (1, .inl (Int32.ofNat w))] [.inl (Int32.ofNat 4), .inl (Int32.ofNat j)] (kr_H (kj h it) c n p k s)
    refine kx_go 1 (pc' := (if kc_cnd .ge (Int32.ofNat j).toInt (Int32.ofNat 4).toInt then 116 else 57)) (L' := [(4, .inl (Int32.ofNat j)), (3, ks_s (i)), (2, .inl (Int32.ofNat v)), (0, .inr (.inr (.inl (some 127)))), (1, .inl (Int32.ofNat w))]) (S' := []) (h' := (kr_H (kj h it) c n p k s)) (by with_unfolding_all rfl) ?_
    rw [if_neg (fun w => by have := (kx_ge (by omega) (by omega)).mp w; omega)]
    refine kx_go 1 (pc' := 58) (L' := [(4, .inl (Int32.ofNat j)), (3, ks_s (i)), (2, .inl (Int32.ofNat v)), (0, .inr (.inr (.inl (some 127)))), (1, .inl (Int32.ofNat w))]) (S' := [.inr (.inr (.inl (some 127)))]) (h' := (kr_H (kj h it) c n p k s)) (by with_unfolding_all rfl) ?_
    refine kc_call_rule (M2 := wk_m62) (av := [.inr (.inr (.inl (some 127)))]) (r := []) rfl rfl (kc_Con_le (kr_step hg hc1 hc2 (by omega) hn (fun j hj => (kj_o (by omega)).trans (ht j hj)) hb hp) (by omega)) (fun rv h' hq => ?_)
    obtain ⟨rfl, rfl⟩ := hq
    have hst := kp_start_le (t := t) hp
    have hnx := kp_nx_le (t := t) hst.2
    have hkd := kp_kd_lt (t := t) (n := n) (s := kp_start t n p)
    show kc_Ev g (d + 6) wk_m174 Q 61 [(4, .inl (Int32.ofNat j)), (3, ks_s (i)), (2, .inl (Int32.ofNat v)), (0, .inr (.inr (.inl (some 127)))), (1, .inl (Int32.ofNat w))] [] (kr_H (kj h it) c n (kp_nx t n (kp_start t n p)) (kp_kd t n (kp_start t n p)) (kp_start t n p))
    refine kx_go 2 (pc' := 64) (L' := [(4, .inl (Int32.ofNat j)), (3, ks_s (i)), (2, .inl (Int32.ofNat v)), (0, .inr (.inr (.inl (some 127)))), (1, .inl (Int32.ofNat w))]) (S' := [.inl (Int32.ofNat j), ks_s (i)]) (h' := (kr_H (kj h it) c n (kp_nx t n (kp_start t n p)) (kp_kd t n (kp_start t n p)) (kp_start t n p))) (by with_unfolding_all rfl) ?_
    obtain ⟨hc, hc256⟩ := hch j (by omega)
    refine ks_charAt (d := d + 2) hg hi (by omega) rfl (by decide +kernel) (show 0 ≤ 8 by decide) ?_
    rw [hc]
    refine kx_go 2 (pc' := (if kc_cnd .ne (Int32.ofNat (kp_ch i j)).toInt (Int32.ofNat 104).toInt then 79 else 72)) (L' := [(4, .inl (Int32.ofNat j)), (3, ks_s (i)), (2, .inl (Int32.ofNat v)), (0, .inr (.inr (.inl (some 127)))), (1, .inl (Int32.ofNat w))]) (S' := []) (h' := (kr_H (kj h it) c n (kp_nx t n (kp_start t n p)) (kp_kd t n (kp_start t n p)) (kp_start t n p))) (by with_unfolding_all rfl) ?_
    have ht' : ∀ j, j < 240 → kj h it c j = .inl (Int32.ofNat (t j)) := fun j hj => (kj_o (by omega)).trans (ht j hj)
    have hbad0 : kp_a1 t n i j (kp_start t n p) = none → ∀ (h2 : kc_H) (p2 k2 s2 : Nat), kr_T h h2 (130 + it) → (s2 ≤ n ∧ p2 ≤ n ∧ k2 < 5) → Q (some (.inl (Int32.ofNat s2))) (kr_H (kj h2 it) c n p2 k2 s2) := fun e => hbad (by unfold kp_ar; rw [e])
    have hbad1 : ∀ x, kp_a1 t n i j (kp_start t n p) = some x → kp_ar t n i m (j + 1) (kp_nx t n (kp_start t n p)) = none → ∀ (h2 : kc_H) (p2 k2 s2 : Nat), kr_T h h2 (130 + it) → (s2 ≤ n ∧ p2 ≤ n ∧ k2 < 5) → Q (some (.inl (Int32.ofNat s2))) (kr_H (kj h2 it) c n p2 k2 s2) := fun x ex e => hbad (by unfold kp_ar; rw [ex]; simp only; rw [e])
    have hok1 : ∀ x, kp_a1 t n i j (kp_start t n p) = some x → ∀ vs e, kp_ar t n i m (j + 1) (kp_nx t n (kp_start t n p)) = some (vs, e) → _ := fun x ex vs e ev => hok (x :: vs) e (by unfold kp_ar; rw [ex]; simp only; rw [ev])
    have fin : ∀ r : Option Nat, kp_a1 t n i j (kp_start t n p) = r → (∀ x, r = some x → x < 1000) → kc_Ev g (d + 6) wk_m174 Q 83 [(4, .inl (Int32.ofNat j)), (3, ks_s (i)), (2, .inl (Int32.ofNat v)), (0, .inr (.inr (.inl (some 127)))), (1, .inl (Int32.ofNat w))] [.inl (kp_o r)] (kr_H (kj h it) c n (kp_nx t n (kp_start t n p)) (kp_kd t n (kp_start t n p)) (kp_start t n p)) := by
      intro r hr hr3
      cases r with
      | none =>
        show kc_Ev g (d + 6) wk_m174 Q 83 [(4, .inl (Int32.ofNat j)), (3, ks_s (i)), (2, .inl (Int32.ofNat v)), (0, .inr (.inr (.inl (some 127)))), (1, .inl (Int32.ofNat w))] [.inl (Int32.ofInt (-1))] (kr_H (kj h it) c n (kp_nx t n (kp_start t n p)) (kp_kd t n (kp_start t n p)) (kp_start t n p))
        refine kx_go 4 (pc' := (if kc_cnd .ne (Int32.ofInt (-1)).toInt (Int32.ofInt (-1)).toInt then 96 else 91)) (L' := [(5, .inl (Int32.ofInt (-1))), (4, .inl (Int32.ofNat j)), (3, ks_s (i)), (2, .inl (Int32.ofNat v)), (0, .inr (.inr (.inl (some 127)))), (1, .inl (Int32.ofNat w))]) (S' := []) (h' := (kr_H (kj h it) c n (kp_nx t n (kp_start t n p)) (kp_kd t n (kp_start t n p)) (kp_start t n p))) (by with_unfolding_all rfl) ?_
        rw [if_neg kx_m2]
        refine kx_go 2 (pc' := 95) (L' := [(5, .inl (Int32.ofInt (-1))), (4, .inl (Int32.ofNat j)), (3, ks_s (i)), (2, .inl (Int32.ofNat v)), (0, .inr (.inr (.inl (some 127)))), (1, .inl (Int32.ofNat w))]) (S' := [.inl (Int32.ofNat (kp_start t n p))]) (h' := (kr_H (kj h it) c n (kp_nx t n (kp_start t n p)) (kp_kd t n (kp_start t n p)) (kp_start t n p))) (by with_unfolding_all rfl) ?_
        exact kc_ret_ok rfl (rv := some (.inl (Int32.ofNat (kp_start t n p)))) rfl (hbad0 hr h _ _ _ kr_T_rf ⟨hst.2, hnx.2, hkd⟩)
      | some x =>
        have hx := hr3 x rfl
        show kc_Ev g (d + 6) wk_m174 Q 83 [(4, .inl (Int32.ofNat j)), (3, ks_s (i)), (2, .inl (Int32.ofNat v)), (0, .inr (.inr (.inl (some 127)))), (1, .inl (Int32.ofNat w))] [.inl (Int32.ofNat x)] (kr_H (kj h it) c n (kp_nx t n (kp_start t n p)) (kp_kd t n (kp_start t n p)) (kp_start t n p))
        refine kx_go 4 (pc' := (if kc_cnd .ne (Int32.ofNat x).toInt (Int32.ofInt (-1)).toInt then 96 else 91)) (L' := [(5, .inl (Int32.ofNat x)), (4, .inl (Int32.ofNat j)), (3, ks_s (i)), (2, .inl (Int32.ofNat v)), (0, .inr (.inr (.inl (some 127)))), (1, .inl (Int32.ofNat w))]) (S' := []) (h' := (kr_H (kj h it) c n (kp_nx t n (kp_start t n p)) (kp_kd t n (kp_start t n p)) (kp_start t n p))) (by with_unfolding_all rfl) ?_
        rw [if_pos (kx_nm2 (by omega))]
        refine kx_go 4 (pc' := 104) (L' := [(5, .inl (Int32.ofNat x)), (4, .inl (Int32.ofNat j)), (3, ks_s (i)), (2, .inl (Int32.ofNat v)), (0, .inr (.inr (.inl (some 127)))), (1, .inl (Int32.ofNat w))]) (S' := [.inl (Int32.ofNat it), .inr (.inr (.inl (some 129)))]) (h' := (kr_H (kj h it) c n (kp_nx t n (kp_start t n p)) (kp_kd t n (kp_start t n p)) (kp_start t n p))) (by with_unfolding_all rfl) ?_
        refine kx_aald rfl (c := 129) (j := it) (m := 60) (t0 := 2) rfl (by decide) (by decide) (by decide) hit ((kr_o (by decide)).trans ((kj_o (by decide)).trans hrw)) ?_
        refine kx_go 2 (pc' := 109) (L' := [(5, .inl (Int32.ofNat x)), (4, .inl (Int32.ofNat j)), (3, ks_s (i)), (2, .inl (Int32.ofNat v)), (0, .inr (.inr (.inl (some 127)))), (1, .inl (Int32.ofNat w))]) (S' := [.inl (Int32.ofNat x), .inl (Int32.ofNat j), .inr (.inr (.inl (some (130 + it))))]) (h' := (kr_H (kj h it) c n (kp_nx t n (kp_start t n p)) (kp_kd t n (kp_start t n p)) (kp_start t n p))) (by with_unfolding_all rfl) ?_
        refine kx_iast rfl (c := 130 + it) (j := j) (m := 4) hr1 hr2 (by decide) (by omega) ?_
        rw [kj_u (by omega)]
        refine kx_go 2 (pc' := 33) (L' := [(4, .inl ((Int32.ofNat j) + Int32.ofInt 1)), (5, .inl (Int32.ofNat x)), (3, ks_s (i)), (2, .inl (Int32.ofNat v)), (0, .inr (.inr (.inl (some 127)))), (1, .inl (Int32.ofNat w))]) (S' := []) (h' := (kr_H (kj (kc_upd h (130 + it) j (.inl (Int32.ofNat x))) it) c n (kp_nx t n (kp_start t n p)) (kp_kd t n (kp_start t n p)) (kp_start t n p))) (by with_unfolding_all rfl) ?_
        rw [kx_inc]
        refine kf_lo (L := [(4, .inl (Int32.ofNat (j + 1))), (3, ks_s (i)), (2, .inl (Int32.ofNat v)), (0, .inr (.inr (.inl (some 127)))), (1, .inl (Int32.ofNat w))]) ?_ (ih (j + 1) (kc_upd h (130 + it) j (.inl (Int32.ofNat x))) _ _ _ (by omega) (by omega) (fun y hy => (kj_uo (by omega)).trans (ht y hy)) ((kj_uo (by omega)).trans hrw) (by omega) (fun vs e ev k2 s2 => hok1 x hr vs e ev k2 s2) (fun e h2 p2 k2 s2 hh => hbad1 x hr e h2 p2 k2 s2 (kr_T_u (by omega) hx hh)))
        intro q hq
        simp only [List.mem_cons, List.not_mem_nil, or_false] at hq
        rcases hq with rfl | rfl | rfl | rfl | rfl <;> rfl
    by_cases e104 : kp_ch i j = 104
    · rw [if_neg (fun w => (kx_ne (by omega) (by omega)).mp w e104)]
      refine kx_go 1 (pc' := 73) (L' := [(4, .inl (Int32.ofNat j)), (3, ks_s (i)), (2, .inl (Int32.ofNat v)), (0, .inr (.inr (.inl (some 127)))), (1, .inl (Int32.ofNat w))]) (S' := [.inr (.inr (.inl (some 127)))]) (h' := (kr_H (kj h it) c n (kp_nx t n (kp_start t n p)) (kp_kd t n (kp_start t n p)) (kp_start t n p))) (by with_unfolding_all rfl) ?_
      refine kc_call_rule (M2 := wk_m179) (av := [.inr (.inr (.inl (some 127)))]) (r := []) rfl rfl (kr_hd (d := d) hc1 hc2 (by omega) hn ht' hb hg hnx.1 hnx.2 (by omega)) (fun rv h' hq => ?_)
      obtain ⟨rfl, rfl⟩ := hq
      show kc_Ev g (d + 6) wk_m174 Q 76 [(4, .inl (Int32.ofNat j)), (3, ks_s (i)), (2, .inl (Int32.ofNat v)), (0, .inr (.inr (.inl (some 127)))), (1, .inl (Int32.ofNat w))] [.inl (kp_o (kp_hd t (kp_nx t n (kp_start t n p)) (kp_kd t n (kp_start t n p)) (kp_start t n p)))] (kr_H (kj h it) c n (kp_nx t n (kp_start t n p)) (kp_kd t n (kp_start t n p)) (kp_start t n p))
      refine kx_go 1 (pc' := 83) (L' := [(4, .inl (Int32.ofNat j)), (3, ks_s (i)), (2, .inl (Int32.ofNat v)), (0, .inr (.inr (.inl (some 127)))), (1, .inl (Int32.ofNat w))]) (S' := [.inl (kp_o (kp_hd t (kp_nx t n (kp_start t n p)) (kp_kd t n (kp_start t n p)) (kp_start t n p)))]) (h' := (kr_H (kj h it) c n (kp_nx t n (kp_start t n p)) (kp_kd t n (kp_start t n p)) (kp_start t n p))) (by with_unfolding_all rfl) ?_
      refine fin _ (if_pos e104) (fun x hx => ?_)
      unfold kp_hd at hx
      cases e1 : kp_is t (kp_nx t n (kp_start t n p)) (kp_kd t n (kp_start t n p)) (kp_start t n p) 0 with
      | true => rw [e1] at hx; cases hx; decide
      | false =>
        rw [e1] at hx
        cases e2 : kp_is t (kp_nx t n (kp_start t n p)) (kp_kd t n (kp_start t n p)) (kp_start t n p) 1 with
        | true => rw [e2] at hx; cases hx; decide
        | false => rw [e2] at hx; cases hx
    · rw [if_pos ((kx_ne (by omega) (by omega)).mpr e104)]
      refine kx_go 1 (pc' := 80) (L' := [(4, .inl (Int32.ofNat j)), (3, ks_s (i)), (2, .inl (Int32.ofNat v)), (0, .inr (.inr (.inl (some 127)))), (1, .inl (Int32.ofNat w))]) (S' := [.inr (.inr (.inl (some 127)))]) (h' := (kr_H (kj h it) c n (kp_nx t n (kp_start t n p)) (kp_kd t n (kp_start t n p)) (kp_start t n p))) (by with_unfolding_all rfl) ?_
      refine kc_call_rule (M2 := wk_m180) (av := [.inr (.inr (.inl (some 127)))]) (r := []) rfl rfl (kc_Con_le (kr_nh (d := d) hc1 hc2 (by omega) hn ht' hb hg hnx.1 hnx.2 (by omega) (fun e j h1 h2 => (kp_dig e j h1 h2).1)) (by omega)) (fun rv h' hq => ?_)
      obtain ⟨rfl, rfl⟩ := hq
      show kc_Ev g (d + 6) wk_m174 Q 83 [(4, .inl (Int32.ofNat j)), (3, ks_s (i)), (2, .inl (Int32.ofNat v)), (0, .inr (.inr (.inl (some 127)))), (1, .inl (Int32.ofNat w))] [.inl (kp_o (kp_nh t (kp_nx t n (kp_start t n p)) (kp_kd t n (kp_start t n p)) (kp_start t n p)))] (kr_H (kj h it) c n (kp_nx t n (kp_start t n p)) (kp_kd t n (kp_start t n p)) (kp_start t n p))
      refine fin _ (if_neg e104) (fun x hx => ?_)
      exact kp_nh_lt hx
