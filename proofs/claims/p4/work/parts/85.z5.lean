/-! ===== by hand: verbs and numbers of the reader ===== -/
def kp_o : Option Nat → Int32
  | none => Int32.ofInt (-1)
  | some v => Int32.ofNat v
def kp_vb (t : Nat → Nat) (p k s : Nat) : Nat → Nat → Option Nat
  | 0, _ => none
  | m + 1, v => bif kp_is t p k s (v + 2) then some v else kp_vb t p k s m (v + 1)
set_option maxRecDepth 20000 in
theorem kr_vbl {g : kc_G} {d : Nat} {Q : Option kc_V → kc_H → Prop} {h : kc_H} {c n : Nat} {t : Nat → Nat} (hc1 : kc_shp c = some (0, 0, 240)) (hc2 : c < kc_N) (hc3 : ¬ c = 127) (hn : n ≤ 240) (ht : ∀ j, j < 240 → h c j = .inl (Int32.ofNat (t j))) (hb : ∀ j, j < 240 → t j < 256) (hg : kc_ok g) {p k s b f w : Nat} (hsp : s ≤ p) (hp : p ≤ n) (hk : k < 10) (hb16 : b ≤ 16) : ∀ (m v : Nat), b - v = m → v ≤ b → Q (some (.inl (kp_o (kp_vb t p k s m v)))) (kr_H h c n p k s) → kc_Ev g (d + 5) wk_m175 Q 26 [(4, .inl (Int32.ofNat v)), (3, .inl (Int32.ofNat b)), (2, .inl (Int32.ofNat f)), (0, .inr (.inr (.inl (some 127)))), (1, .inl (Int32.ofNat w))] [] (kr_H h c n p k s) := by
  intro m
  induction m with
  | zero =>
    intro v hm hv hQ
    refine kx_go 3 (pc' := (if kc_cnd .ge (Int32.ofNat v).toInt (Int32.ofNat b).toInt then 53 else 32)) (L' := [(4, .inl (Int32.ofNat v)), (3, .inl (Int32.ofNat b)), (2, .inl (Int32.ofNat f)), (0, .inr (.inr (.inl (some 127)))), (1, .inl (Int32.ofNat w))]) (S' := []) (h' := (kr_H h c n p k s)) (by with_unfolding_all rfl) ?_
    rw [if_pos ((kx_ge (by omega) (by omega)).mpr (by omega))]
    refine kx_go 1 (pc' := 54) (L' := [(4, .inl (Int32.ofNat v)), (3, .inl (Int32.ofNat b)), (2, .inl (Int32.ofNat f)), (0, .inr (.inr (.inl (some 127)))), (1, .inl (Int32.ofNat w))]) (S' := [.inl (Int32.ofInt (-1))]) (h' := (kr_H h c n p k s)) (by with_unfolding_all rfl) ?_
    exact kc_ret_ok rfl (rv := some (.inl (Int32.ofInt (-1)))) rfl hQ
  | succ m ih =>
    intro v hm hv hQ
    refine kx_go 3 (pc' := (if kc_cnd .ge (Int32.ofNat v).toInt (Int32.ofNat b).toInt then 53 else 32)) (L' := [(4, .inl (Int32.ofNat v)), (3, .inl (Int32.ofNat b)), (2, .inl (Int32.ofNat f)), (0, .inr (.inr (.inl (some 127)))), (1, .inl (Int32.ofNat w))]) (S' := []) (h' := (kr_H h c n p k s)) (by with_unfolding_all rfl) ?_
    rw [if_neg (fun w => by have := (kx_ge (by omega) (by omega)).mp w; omega)]
    refine kx_go 2 (pc' := 35) (L' := [(4, .inl (Int32.ofNat v)), (3, .inl (Int32.ofNat b)), (2, .inl (Int32.ofNat f)), (0, .inr (.inr (.inl (some 127)))), (1, .inl (Int32.ofNat w))]) (S' := [.inl (Int32.ofNat v), .inr (.inr (.inl (some 127)))]) (h' := (kr_H h c n p k s)) (by with_unfolding_all rfl) ?_
    refine kc_call_rule (M2 := wk_m176) (av := [.inl (Int32.ofNat v)]) (r := [.inr (.inr (.inl (some 127)))]) rfl rfl (kr_nm (d := d + 4) hg v (by omega)) (fun rv h' hq => ?_)
    obtain ⟨rfl, rfl⟩ := hq
    refine kc_call_rule (pc := 38) (M2 := wk_m177) (av := [.inr (.inr (.inl (some 127))), ks_s (v + 2)]) (r := []) rfl rfl (kr_is (d := d) hc1 hc2 hc3 hn ht hb hg (i := v + 2) (by omega) hsp hp hk) (fun rv h' hq => ?_)
    obtain ⟨rfl, rfl⟩ := hq
    show kc_Ev g (d + 5) wk_m175 Q 41 [(4, .inl (Int32.ofNat v)), (3, .inl (Int32.ofNat b)), (2, .inl (Int32.ofNat f)), (0, .inr (.inr (.inl (some 127)))), (1, .inl (Int32.ofNat w))] [.inl (kp_b (kp_is t p k s (v + 2)))] (kr_H h c n p k s)
    refine kx_go 1 (pc' := (if kc_cnd .eq (kp_b (kp_is t p k s (v + 2))).toInt 0 then 47 else 44)) (L' := [(4, .inl (Int32.ofNat v)), (3, .inl (Int32.ofNat b)), (2, .inl (Int32.ofNat f)), (0, .inr (.inr (.inl (some 127)))), (1, .inl (Int32.ofNat w))]) (S' := []) (h' := (kr_H h c n p k s)) (by with_unfolding_all rfl) ?_
    have hQ : Q (some (.inl (kp_o (bif kp_is t p k s (v + 2) then some v else kp_vb t p k s m (v + 1))))) (kr_H h c n p k s) := hQ
    cases e : kp_is t p k s (v + 2) with
    | true =>
      rw [if_neg (fun w => by have := kx_b0.mp w; cases this)]
      rw [e] at hQ
      refine kx_go 1 (pc' := 46) (L' := [(4, .inl (Int32.ofNat v)), (3, .inl (Int32.ofNat b)), (2, .inl (Int32.ofNat f)), (0, .inr (.inr (.inl (some 127)))), (1, .inl (Int32.ofNat w))]) (S' := [.inl (Int32.ofNat v)]) (h' := (kr_H h c n p k s)) (by with_unfolding_all rfl) ?_
      exact kc_ret_ok rfl (rv := some (.inl (Int32.ofNat v))) rfl hQ
    | false =>
      rw [if_pos (kx_b0.mpr rfl)]
      rw [e] at hQ
      refine kx_go 2 (pc' := 26) (L' := [(4, .inl ((Int32.ofNat v) + Int32.ofInt 1)), (3, .inl (Int32.ofNat b)), (2, .inl (Int32.ofNat f)), (0, .inr (.inr (.inl (some 127)))), (1, .inl (Int32.ofNat w))]) (S' := []) (h' := (kr_H h c n p k s)) (by with_unfolding_all rfl) ?_
      rw [kx_inc]
      exact ih (v + 1) (by omega) (by omega) hQ
set_option maxRecDepth 20000 in
theorem kr_vb0 {g : kc_G} {d : Nat} {h : kc_H} {c n : Nat} {t : Nat → Nat} (hc1 : kc_shp c = some (0, 0, 240)) (hc2 : c < kc_N) (hc3 : ¬ c = 127) (hn : n ≤ 240) (ht : ∀ j, j < 240 → h c j = .inl (Int32.ofNat (t j))) (hb : ∀ j, j < 240 → t j < 256) (hg : kc_ok g) {p k s : Nat} (hsp : s ≤ p) (hp : p ≤ n) (hk : k < 10) : kc_Con g (d + 6) 175 [.inr (.inr (.inl (some 127))), .inl (Int32.ofNat 0)] (kr_H h c n p k s) (fun rv h' => rv = some (.inl (kp_o (kp_vb t p k s 9 0))) ∧ h' = kr_H h c n p k s) := by
  refine kc_Con_new hg (M := wk_m175) rfl rfl rfl (show 2 ≤ 5 by decide) ?_
  refine kx_go 12 (pc' := 26) (L' := [(4, .inl (Int32.ofNat 0)), (3, .inl (Int32.ofNat 9)), (2, .inl (Int32.ofNat 0)), (0, .inr (.inr (.inl (some 127)))), (1, .inl (Int32.ofNat 0))]) (S' := []) (h' := (kr_H h c n p k s)) (by with_unfolding_all rfl) ?_
  exact kr_vbl (d := d) hc1 hc2 hc3 hn ht hb hg hsp hp hk (by omega) 9 0 (by omega) (by omega) ⟨rfl, rfl⟩
set_option maxRecDepth 20000 in
theorem kr_vb1 {g : kc_G} {d : Nat} {h : kc_H} {c n : Nat} {t : Nat → Nat} (hc1 : kc_shp c = some (0, 0, 240)) (hc2 : c < kc_N) (hc3 : ¬ c = 127) (hn : n ≤ 240) (ht : ∀ j, j < 240 → h c j = .inl (Int32.ofNat (t j))) (hb : ∀ j, j < 240 → t j < 256) (hg : kc_ok g) {p k s : Nat} (hsp : s ≤ p) (hp : p ≤ n) (hk : k < 10) : kc_Con g (d + 6) 175 [.inr (.inr (.inl (some 127))), .inl (Int32.ofNat 1)] (kr_H h c n p k s) (fun rv h' => rv = some (.inl (kp_o (kp_vb t p k s 7 9))) ∧ h' = kr_H h c n p k s) := by
  refine kc_Con_new hg (M := wk_m175) rfl rfl rfl (show 2 ≤ 5 by decide) ?_
  refine kx_go 10 (pc' := 26) (L' := [(4, .inl (Int32.ofNat 9)), (3, .inl (Int32.ofNat 16)), (2, .inl (Int32.ofNat 9)), (0, .inr (.inr (.inl (some 127)))), (1, .inl (Int32.ofNat 1))]) (S' := []) (h' := (kr_H h c n p k s)) (by with_unfolding_all rfl) ?_
  exact kr_vbl (d := d) hc1 hc2 hc3 hn ht hb hg hsp hp hk (by omega) 7 9 (by omega) (by omega) ⟨rfl, rfl⟩
def kp_hd (t : Nat → Nat) (p k s : Nat) : Option Nat := bif kp_is t p k s 0 then some 1 else bif kp_is t p k s 1 then some 0 else none
set_option maxRecDepth 20000 in
theorem kr_hd {g : kc_G} {d : Nat} {h : kc_H} {c n : Nat} {t : Nat → Nat} (hc1 : kc_shp c = some (0, 0, 240)) (hc2 : c < kc_N) (hc3 : ¬ c = 127) (hn : n ≤ 240) (ht : ∀ j, j < 240 → h c j = .inl (Int32.ofNat (t j))) (hb : ∀ j, j < 240 → t j < 256) (hg : kc_ok g) {p k s : Nat} (hsp : s ≤ p) (hp : p ≤ n) (hk : k < 10) : kc_Con g (d + 6) 179 [.inr (.inr (.inl (some 127)))] (kr_H h c n p k s) (fun rv h' => rv = some (.inl (kp_o (kp_hd t p k s))) ∧ h' = kr_H h c n p k s) := by
  refine kc_Con_new hg (M := wk_m179) rfl rfl rfl (show 1 ≤ 1 by decide) ?_
  refine kx_go 1 (pc' := 1) (L' := [(0, .inr (.inr (.inl (some 127))))]) (S' := [.inr (.inr (.inl (some 127)))]) (h' := (kr_H h c n p k s)) (by with_unfolding_all rfl) ?_
  refine ks_ldc (i := 0) (by decide) rfl (by decide +kernel) ?_
  refine kc_call_rule (pc := 3) (M2 := wk_m177) (av := [.inr (.inr (.inl (some 127))), ks_s 0]) (r := []) rfl rfl (kr_is (d := d) hc1 hc2 hc3 hn ht hb hg (i := 0) (by omega) hsp hp hk) (fun rv h' hq => ?_)
  obtain ⟨rfl, rfl⟩ := hq
  show kc_Ev g (d + 5) wk_m179 _ 6 [(0, .inr (.inr (.inl (some 127))))] [.inl (kp_b (kp_is t p k s 0))] (kr_H h c n p k s)
  refine kx_go 1 (pc' := (if kc_cnd .eq (kp_b (kp_is t p k s 0)).toInt 0 then 11 else 9)) (L' := [(0, .inr (.inr (.inl (some 127))))]) (S' := []) (h' := (kr_H h c n p k s)) (by with_unfolding_all rfl) ?_
  cases e0 : kp_is t p k s 0 with
  | true =>
    rw [if_neg (fun w => by have := kx_b0.mp w; cases this)]
    refine kx_go 1 (pc' := 10) (L' := [(0, .inr (.inr (.inl (some 127))))]) (S' := [.inl (Int32.ofNat 1)]) (h' := (kr_H h c n p k s)) (by with_unfolding_all rfl) ?_
    exact kc_ret_ok rfl (rv := some (.inl (Int32.ofNat 1))) rfl ⟨by unfold kp_hd; rw [e0]; rfl, rfl⟩
  | false =>
    rw [if_pos (kx_b0.mpr rfl)]
    refine kx_go 1 (pc' := 12) (L' := [(0, .inr (.inr (.inl (some 127))))]) (S' := [.inr (.inr (.inl (some 127)))]) (h' := (kr_H h c n p k s)) (by with_unfolding_all rfl) ?_
    refine ks_ldc (i := 1) (by decide) rfl (by decide +kernel) ?_
    refine kc_call_rule (pc := 14) (M2 := wk_m177) (av := [.inr (.inr (.inl (some 127))), ks_s 1]) (r := []) rfl rfl (kr_is (d := d) hc1 hc2 hc3 hn ht hb hg (i := 1) (by omega) hsp hp hk) (fun rv h' hq => ?_)
    obtain ⟨rfl, rfl⟩ := hq
    show kc_Ev g (d + 5) wk_m179 _ 17 [(0, .inr (.inr (.inl (some 127))))] [.inl (kp_b (kp_is t p k s 1))] (kr_H h c n p k s)
    refine kx_go 1 (pc' := (if kc_cnd .eq (kp_b (kp_is t p k s 1)).toInt 0 then 24 else 20)) (L' := [(0, .inr (.inr (.inl (some 127))))]) (S' := []) (h' := (kr_H h c n p k s)) (by with_unfolding_all rfl) ?_
    cases e1 : kp_is t p k s 1 with
    | true =>
      rw [if_neg (fun w => by have := kx_b0.mp w; cases this)]
      refine kx_go 2 (pc' := 25) (L' := [(0, .inr (.inr (.inl (some 127))))]) (S' := [.inl (Int32.ofNat 0)]) (h' := (kr_H h c n p k s)) (by with_unfolding_all rfl) ?_
      exact kc_ret_ok rfl (rv := some (.inl (Int32.ofNat 0))) rfl ⟨by unfold kp_hd; rw [e0, e1]; rfl, rfl⟩
    | false =>
      rw [if_pos (kx_b0.mpr rfl)]
      refine kx_go 1 (pc' := 25) (L' := [(0, .inr (.inr (.inl (some 127))))]) (S' := [.inl (Int32.ofInt (-1))]) (h' := (kr_H h c n p k s)) (by with_unfolding_all rfl) ?_
      exact kc_ret_ok rfl (rv := some (.inl (Int32.ofInt (-1)))) rfl ⟨by unfold kp_hd; rw [e0, e1]; rfl, rfl⟩
theorem kx_dig {v x : Nat} (h : 48 ≤ x) : Int32.ofNat 10 * Int32.ofNat v + Int32.ofNat x - Int32.ofNat 48 = Int32.ofNat (10 * v + x - 48) := by
  rw [← Int32.ofNat_mul, ← Int32.ofNat_add, kx_sub (by omega)]
def kp_nv (t : Nat → Nat) : Nat → Nat → Nat → Nat
  | 0, _, v => v
  | m + 1, i, v => kp_nv t m (i + 1) (10 * v + t i - 48)
def kp_nh (t : Nat → Nat) (p k s : Nat) : Option Nat := if k = 2 then some (kp_nv t (p - s) s 0) else none
set_option maxRecDepth 20000 in
theorem kr_nhl {g : kc_G} {d : Nat} {Q : Option kc_V → kc_H → Prop} {h : kc_H} {c n : Nat} {t : Nat → Nat} (hc1 : kc_shp c = some (0, 0, 240)) (hc2 : c < kc_N) (hc3 : ¬ c = 127) (hn : n ≤ 240) (ht : ∀ j, j < 240 → h c j = .inl (Int32.ofNat (t j))) (hb : ∀ j, j < 240 → t j < 256) {p k s : Nat} (hp : p ≤ n) (hf : ∀ j, s ≤ j → j < p → 48 ≤ t j) : ∀ (m i v : Nat), p - i = m → s ≤ i → i ≤ p → Q (some (.inl (Int32.ofNat (kp_nv t m i v)))) (kr_H h c n p k s) → kc_Ev g d wk_m180 Q 17 [(2, .inl (Int32.ofNat i)), (1, .inl (Int32.ofNat v)), (0, .inr (.inr (.inl (some 127))))] [] (kr_H h c n p k s) := by
  intro m
  induction m with
  | zero =>
    intro i v hm hi hip hQ
    refine kx_go 4 (pc' := (if kc_cnd .ge (Int32.ofNat i).toInt (Int32.ofNat p).toInt then 46 else 25)) (L' := [(2, .inl (Int32.ofNat i)), (1, .inl (Int32.ofNat v)), (0, .inr (.inr (.inl (some 127))))]) (S' := []) (h' := (kr_H h c n p k s)) (by with_unfolding_all rfl) ?_
    rw [if_pos ((kx_ge (by omega) (by omega)).mpr (by omega))]
    refine kx_go 1 (pc' := 47) (L' := [(2, .inl (Int32.ofNat i)), (1, .inl (Int32.ofNat v)), (0, .inr (.inr (.inl (some 127))))]) (S' := [.inl (Int32.ofNat v)]) (h' := (kr_H h c n p k s)) (by with_unfolding_all rfl) ?_
    exact kc_ret_ok rfl (rv := some (.inl (Int32.ofNat v))) rfl hQ
  | succ m ih =>
    intro i v hm hi hip hQ
    refine kx_go 4 (pc' := (if kc_cnd .ge (Int32.ofNat i).toInt (Int32.ofNat p).toInt then 46 else 25)) (L' := [(2, .inl (Int32.ofNat i)), (1, .inl (Int32.ofNat v)), (0, .inr (.inr (.inl (some 127))))]) (S' := []) (h' := (kr_H h c n p k s)) (by with_unfolding_all rfl) ?_
    rw [if_neg (fun w => by have := (kx_ge (by omega) (by omega)).mp w; omega)]
    refine kx_go 6 (pc' := 34) (L' := [(2, .inl (Int32.ofNat i)), (1, .inl (Int32.ofNat v)), (0, .inr (.inr (.inl (some 127))))]) (S' := [.inl (Int32.ofNat i), .inr (.inr (.inl (some (c)))), .inl ((Int32.ofNat 10) * (Int32.ofNat v))]) (h' := (kr_H h c n p k s)) (by with_unfolding_all rfl) ?_
    refine kx_iald rfl hc1 hc2 (by omega) (j := i) (by omega) ((kr_o hc3).trans (ht _ (by omega))) ?_
    refine kx_go 6 (pc' := 17) (L' := [(2, .inl ((Int32.ofNat i) + Int32.ofInt 1)), (1, .inl ((((Int32.ofNat 10) * (Int32.ofNat v)) + (Int32.ofNat (t i))) - (Int32.ofNat 48))), (0, .inr (.inr (.inl (some 127))))]) (S' := []) (h' := (kr_H h c n p k s)) (by with_unfolding_all rfl) ?_
    rw [kx_dig (hf i (by omega) (by omega)), kx_inc]
    exact ih (i + 1) _ (by omega) (by omega) (by omega) hQ
set_option maxRecDepth 20000 in
theorem kr_nh {g : kc_G} {d : Nat} {h : kc_H} {c n : Nat} {t : Nat → Nat} (hc1 : kc_shp c = some (0, 0, 240)) (hc2 : c < kc_N) (hc3 : ¬ c = 127) (hn : n ≤ 240) (ht : ∀ j, j < 240 → h c j = .inl (Int32.ofNat (t j))) (hb : ∀ j, j < 240 → t j < 256) (hg : kc_ok g) {p k s : Nat} (hsp : s ≤ p) (hp : p ≤ n) (hk : k < 10) (hf : k = 2 → ∀ j, s ≤ j → j < p → 48 ≤ t j) : kc_Con g (d + 1) 180 [.inr (.inr (.inl (some 127)))] (kr_H h c n p k s) (fun rv h' => rv = some (.inl (kp_o (kp_nh t p k s))) ∧ h' = kr_H h c n p k s) := by
  refine kc_Con_new hg (M := wk_m180) rfl rfl rfl (show 1 ≤ 3 by decide) ?_
  refine kx_go 4 (pc' := (if kc_cnd .eq (Int32.ofNat k).toInt (Int32.ofNat 2).toInt then 10 else 8)) (L' := [(0, .inr (.inr (.inl (some 127))))]) (S' := []) (h' := (kr_H h c n p k s)) (by with_unfolding_all rfl) ?_
  by_cases e : k = 2
  · rw [if_pos ((kx_eq (by omega) (by omega)).mpr e)]
    refine kx_go 5 (pc' := 17) (L' := [(2, .inl (Int32.ofNat s)), (1, .inl (Int32.ofNat 0)), (0, .inr (.inr (.inl (some 127))))]) (S' := []) (h' := (kr_H h c n p k s)) (by with_unfolding_all rfl) ?_
    exact kr_nhl hc1 hc2 hc3 hn ht hb hp (hf e) (p - s) s 0 rfl (Nat.le_refl _) hsp ⟨by rw [show kp_nh t p k s = some (kp_nv t (p - s) s 0) from if_pos e]; rfl, rfl⟩
  · rw [if_neg (fun w => e ((kx_eq (by omega) (by omega)).mp w))]
    refine kx_go 1 (pc' := 9) (L' := [(0, .inr (.inr (.inl (some 127))))]) (S' := [.inl (Int32.ofInt (-1))]) (h' := (kr_H h c n p k s)) (by with_unfolding_all rfl) ?_
    exact kc_ret_ok rfl (rv := some (.inl (Int32.ofInt (-1)))) rfl ⟨by rw [show kp_nh t p k s = none from if_neg e]; rfl, rfl⟩
