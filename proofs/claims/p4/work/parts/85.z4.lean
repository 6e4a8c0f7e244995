/-! ===== by hand: the reader's words ===== -/
/-- the texts' letters -/
def kp_w : List (List Nat) := [[104, 97, 114, 100], [115, 111, 102, 116], [109, 117, 108, 101], [108, 111, 97, 100], [100, 111, 111, 114], [119, 97, 121], [108, 97, 109, 101], [102, 111, 114, 100], [97, 115, 107], [100, 114, 97, 105, 110], [115, 116, 111, 110, 101, 115], [104, 97, 110, 103], [116, 97, 107, 101], [111, 118, 101, 114], [115, 119, 97, 112], [115, 116, 111, 110, 101], [100, 114, 111, 112], [103, 111], [], [110], [110, 110, 110], [110, 104, 110, 110], [110, 110, 110, 110], [110, 110]]
def kp_ch (i j : Nat) : Nat := (kp_w.getD i []).getD j 0
theorem kp_ch_r : ∀ i, i < 24 → (ks_L i < 8 ∧ ∀ j, j < ks_L i → ks_c i j = Int32.ofNat (kp_ch i j) ∧ kp_ch i j < 256) := by decide +kernel
theorem kx_add (a b : Nat) : Int32.ofNat a + Int32.ofNat b = Int32.ofNat (a + b) := (Int32.ofNat_add a b).symm
/-- the letters from s + j on are those of text i from j on -/
def kp_m (t : Nat → Nat) (i s : Nat) : Nat → Nat → Bool
  | 0, _ => true
  | m + 1, j => bif decide (t (s + j) = kp_ch i j) then kp_m t i s m (j + 1) else false
def kp_is (t : Nat → Nat) (p k s i : Nat) : Bool := bif decide (k = 1) then (bif decide (p - s = ks_L i) then kp_m t i s (ks_L i) 0 else false) else false
set_option maxRecDepth 20000 in
theorem kr_ihl {g : kc_G} {d : Nat} {Q : Option kc_V → kc_H → Prop} {h : kc_H} {c n : Nat} {t : Nat → Nat} (hc1 : kc_shp c = some (0, 0, 240)) (hc2 : c < kc_N) (hc3 : ¬ c = 127) (hn : n ≤ 240) (ht : ∀ j, j < 240 → h c j = .inl (Int32.ofNat (t j))) (hb : ∀ j, j < 240 → t j < 256) (hg : kc_ok g) {i p k s : Nat} (hi : i < 24) (hs : s + ks_L i = p) (hp : p ≤ n) : ∀ (m j : Nat), ks_L i - j = m → j ≤ ks_L i → Q (some (.inl (kp_b (kp_m t i s m j)))) (kr_H h c n p k s) → kc_Ev g (d + 4) wk_m177 Q 28 [(2, .inl (Int32.ofNat j)), (0, .inr (.inr (.inl (some 127)))), (1, ks_s (i))] [] (kr_H h c n p k s) := by
  obtain ⟨hL, hch⟩ := kp_ch_r i hi
  intro m
  induction m with
  | zero =>
    intro j hm hj hQ
    refine kx_go 2 (pc' := 30) (L' := [(2, .inl (Int32.ofNat j)), (0, .inr (.inr (.inl (some 127)))), (1, ks_s (i))]) (S' := [ks_s (i), .inl (Int32.ofNat j)]) (h' := (kr_H h c n p k s)) (by with_unfolding_all rfl) ?_
    refine ks_length (d := d + 2) hg hi rfl (by decide +kernel) (show 1 ≤ 8 by decide) ?_
    refine kx_go 1 (pc' := (if kc_cnd .ge (Int32.ofNat j).toInt (Int32.ofNat (ks_L i)).toInt then 63 else 36)) (L' := [(2, .inl (Int32.ofNat j)), (0, .inr (.inr (.inl (some 127)))), (1, ks_s (i))]) (S' := []) (h' := (kr_H h c n p k s)) (by with_unfolding_all rfl) ?_
    rw [if_pos ((kx_ge (by omega) (by omega)).mpr (by omega))]
    refine kx_go 1 (pc' := 64) (L' := [(2, .inl (Int32.ofNat j)), (0, .inr (.inr (.inl (some 127)))), (1, ks_s (i))]) (S' := [.inl (Int32.ofNat 1)]) (h' := (kr_H h c n p k s)) (by with_unfolding_all rfl) ?_
    exact kc_ret_ok rfl (rv := some (.inl (Int32.ofNat 1))) rfl hQ
  | succ m ih =>
    intro j hm hj hQ
    refine kx_go 2 (pc' := 30) (L' := [(2, .inl (Int32.ofNat j)), (0, .inr (.inr (.inl (some 127)))), (1, ks_s (i))]) (S' := [ks_s (i), .inl (Int32.ofNat j)]) (h' := (kr_H h c n p k s)) (by with_unfolding_all rfl) ?_
    refine ks_length (d := d + 2) hg hi rfl (by decide +kernel) (show 1 ≤ 8 by decide) ?_
    refine kx_go 1 (pc' := (if kc_cnd .ge (Int32.ofNat j).toInt (Int32.ofNat (ks_L i)).toInt then 63 else 36)) (L' := [(2, .inl (Int32.ofNat j)), (0, .inr (.inr (.inl (some 127)))), (1, ks_s (i))]) (S' := []) (h' := (kr_H h c n p k s)) (by with_unfolding_all rfl) ?_
    rw [if_neg (fun w => by have := (kx_ge (by omega) (by omega)).mp w; omega)]
    refine kx_go 6 (pc' := 46) (L' := [(2, .inl (Int32.ofNat j)), (0, .inr (.inr (.inl (some 127)))), (1, ks_s (i))]) (S' := [.inl ((Int32.ofNat s) + (Int32.ofNat j)), .inr (.inr (.inl (some (c))))]) (h' := (kr_H h c n p k s)) (by with_unfolding_all rfl) ?_
    rw [kx_add]
    refine kx_iald rfl hc1 hc2 (by omega) (j := s + j) (by omega) ((kr_o hc3).trans (ht _ (by omega))) ?_
    refine kx_go 2 (pc' := 49) (L' := [(2, .inl (Int32.ofNat j)), (0, .inr (.inr (.inl (some 127)))), (1, ks_s (i))]) (S' := [.inl (Int32.ofNat j), ks_s (i), .inl (Int32.ofNat (t (s + j)))]) (h' := (kr_H h c n p k s)) (by with_unfolding_all rfl) ?_
    obtain ⟨hc, hc256⟩ := hch j (by omega)
    refine ks_charAt (d := d) hg hi (by omega) rfl (by decide +kernel) (show 1 ≤ 8 by decide) ?_
    rw [hc]
    have hbj := hb (s + j) (by omega)
    refine kx_go 1 (pc' := (if kc_cnd .eq (Int32.ofNat (t (s + j))).toInt (Int32.ofNat (kp_ch i j)).toInt then 57 else 55)) (L' := [(2, .inl (Int32.ofNat j)), (0, .inr (.inr (.inl (some 127)))), (1, ks_s (i))]) (S' := []) (h' := (kr_H h c n p k s)) (by with_unfolding_all rfl) ?_
    have hQ : Q (some (.inl (kp_b (bif decide (t (s + j) = kp_ch i j) then kp_m t i s m (j + 1) else false)))) (kr_H h c n p k s) := hQ
    by_cases e : t (s + j) = kp_ch i j
    · rw [if_pos ((kx_eq (by omega) (by omega)).mpr e)]
      refine kx_go 2 (pc' := 28) (L' := [(2, .inl ((Int32.ofNat j) + Int32.ofInt 1)), (0, .inr (.inr (.inl (some 127)))), (1, ks_s (i))]) (S' := []) (h' := (kr_H h c n p k s)) (by with_unfolding_all rfl) ?_
      rw [kx_inc]
      refine ih (j + 1) (by omega) (by omega) ?_
      rw [decide_eq_true e] at hQ
      exact hQ
    · rw [if_neg (fun w => e ((kx_eq (by omega) (by omega)).mp w))]
      refine kx_go 1 (pc' := 56) (L' := [(2, .inl (Int32.ofNat j)), (0, .inr (.inr (.inl (some 127)))), (1, ks_s (i))]) (S' := [.inl (Int32.ofNat 0)]) (h' := (kr_H h c n p k s)) (by with_unfolding_all rfl) ?_
      rw [decide_eq_false e] at hQ
      exact kc_ret_ok rfl (rv := some (.inl (Int32.ofNat 0))) rfl hQ
set_option maxRecDepth 20000 in
theorem kr_is {g : kc_G} {d : Nat} {h : kc_H} {c n : Nat} {t : Nat → Nat} (hc1 : kc_shp c = some (0, 0, 240)) (hc2 : c < kc_N) (hc3 : ¬ c = 127) (hn : n ≤ 240) (ht : ∀ j, j < 240 → h c j = .inl (Int32.ofNat (t j))) (hb : ∀ j, j < 240 → t j < 256) (hg : kc_ok g) {i p k s : Nat} (hi : i < 24) (hsp : s ≤ p) (hp : p ≤ n) (hk : k < 10) : kc_Con g (d + 5) 177 [.inr (.inr (.inl (some 127))), ks_s i] (kr_H h c n p k s) (fun rv h' => rv = some (.inl (kp_b (kp_is t p k s i))) ∧ h' = kr_H h c n p k s) := by
  obtain ⟨hL, hch⟩ := kp_ch_r i hi
  refine kc_Con_new hg (M := wk_m177) rfl rfl rfl (show 2 ≤ 3 by decide) ?_
  refine kx_go 4 (pc' := (if kc_cnd .ne (Int32.ofNat k).toInt (Int32.ofNat 1).toInt then 24 else 8)) (L' := [(0, .inr (.inr (.inl (some 127)))), (1, ks_s (i))]) (S' := []) (h' := (kr_H h c n p k s)) (by with_unfolding_all rfl) ?_
  by_cases e1 : k = 1
  · rw [if_neg (fun w => (kx_ne (by omega) (by omega)).mp w e1)]
    refine kx_go 6 (pc' := 18) (L' := [(0, .inr (.inr (.inl (some 127)))), (1, ks_s (i))]) (S' := [ks_s (i), .inl ((Int32.ofNat p) - (Int32.ofNat s))]) (h' := (kr_H h c n p k s)) (by with_unfolding_all rfl) ?_
    rw [kx_sub hsp]
    refine ks_length (d := d + 2) hg hi rfl (by decide +kernel) (show 1 ≤ 8 by decide) ?_
    refine kx_go 1 (pc' := (if kc_cnd .eq (Int32.ofNat (p - s)).toInt (Int32.ofNat (ks_L i)).toInt then 26 else 24)) (L' := [(0, .inr (.inr (.inl (some 127)))), (1, ks_s (i))]) (S' := []) (h' := (kr_H h c n p k s)) (by with_unfolding_all rfl) ?_
    by_cases e2 : p - s = ks_L i
    · rw [if_pos ((kx_eq (by omega) (by omega)).mpr e2)]
      refine kx_go 2 (pc' := 28) (L' := [(2, .inl (Int32.ofNat 0)), (0, .inr (.inr (.inl (some 127)))), (1, ks_s (i))]) (S' := []) (h' := (kr_H h c n p k s)) (by with_unfolding_all rfl) ?_
      refine kr_ihl (d := d) hc1 hc2 hc3 hn ht hb hg hi (by omega) hp (ks_L i) 0 rfl (Nat.zero_le _) ⟨?_, rfl⟩
      rw [show kp_is t p k s i = kp_m t i s (ks_L i) 0 from by unfold kp_is; rw [decide_eq_true e1, decide_eq_true e2]; rfl]
    · rw [if_neg (fun w => e2 ((kx_eq (by omega) (by omega)).mp w))]
      have e0 : kp_is t p k s i = false := by unfold kp_is; rw [decide_eq_true e1, decide_eq_false e2]; rfl
      refine kx_go 1 (pc' := 25) (L' := [(0, .inr (.inr (.inl (some 127)))), (1, ks_s (i))]) (S' := [.inl (Int32.ofNat 0)]) (h' := (kr_H h c n p k s)) (by with_unfolding_all rfl) ?_
      exact kc_ret_ok rfl (rv := some (.inl (Int32.ofNat 0))) rfl ⟨by rw [e0]; rfl, rfl⟩
  · rw [if_pos ((kx_ne (by omega) (by omega)).mpr e1)]
    have e0 : kp_is t p k s i = false := by unfold kp_is; rw [decide_eq_false e1]; rfl
    refine kx_go 1 (pc' := 25) (L' := [(0, .inr (.inr (.inl (some 127)))), (1, ks_s (i))]) (S' := [.inl (Int32.ofNat 0)]) (h' := (kr_H h c n p k s)) (by with_unfolding_all rfl) ?_
    exact kc_ret_ok rfl (rv := some (.inl (Int32.ofNat 0))) rfl ⟨by rw [e0]; rfl, rfl⟩
set_option maxRecDepth 20000 in
theorem kr_nm {g : kc_G} {d : Nat} {h : kc_H} (hg : kc_ok g) : ∀ v : Nat, v < 16 → kc_Con g (d + 1) 176 [.inl (Int32.ofNat v)] h (fun rv h' => rv = some (ks_s (v + 2)) ∧ h' = h)
  | 0, _ => by
    refine kc_Con_new hg (M := wk_m176) rfl rfl rfl (show 1 ≤ 1 by decide) ?_
    refine kx_go 2 (pc' := 76) (L' := [(0, .inl (Int32.ofNat 0))]) (S' := []) (h' := h) (by with_unfolding_all rfl) ?_
    refine ks_ldc (i := 2) (by decide) rfl (by decide +kernel) ?_
    exact ks_reta (i := 2) rfl (by decide +kernel) ⟨rfl, rfl⟩
  | 1, _ => by
    refine kc_Con_new hg (M := wk_m176) rfl rfl rfl (show 1 ≤ 1 by decide) ?_
    refine kx_go 2 (pc' := 79) (L' := [(0, .inl (Int32.ofNat 1))]) (S' := []) (h' := h) (by with_unfolding_all rfl) ?_
    refine ks_ldc (i := 3) (by decide) rfl (by decide +kernel) ?_
    exact ks_reta (i := 3) rfl (by decide +kernel) ⟨rfl, rfl⟩
  | 2, _ => by
    refine kc_Con_new hg (M := wk_m176) rfl rfl rfl (show 1 ≤ 1 by decide) ?_
    refine kx_go 2 (pc' := 82) (L' := [(0, .inl (Int32.ofNat 2))]) (S' := []) (h' := h) (by with_unfolding_all rfl) ?_
    refine ks_ldc (i := 4) (by decide) rfl (by decide +kernel) ?_
    exact ks_reta (i := 4) rfl (by decide +kernel) ⟨rfl, rfl⟩
  | 3, _ => by
    refine kc_Con_new hg (M := wk_m176) rfl rfl rfl (show 1 ≤ 1 by decide) ?_
    refine kx_go 2 (pc' := 85) (L' := [(0, .inl (Int32.ofNat 3))]) (S' := []) (h' := h) (by with_unfolding_all rfl) ?_
    refine ks_ldc (i := 5) (by decide) rfl (by decide +kernel) ?_
    exact ks_reta (i := 5) rfl (by decide +kernel) ⟨rfl, rfl⟩
  | 4, _ => by
    refine kc_Con_new hg (M := wk_m176) rfl rfl rfl (show 1 ≤ 1 by decide) ?_
    refine kx_go 2 (pc' := 88) (L' := [(0, .inl (Int32.ofNat 4))]) (S' := []) (h' := h) (by with_unfolding_all rfl) ?_
    refine ks_ldc (i := 6) (by decide) rfl (by decide +kernel) ?_
    exact ks_reta (i := 6) rfl (by decide +kernel) ⟨rfl, rfl⟩
  | 5, _ => by
    refine kc_Con_new hg (M := wk_m176) rfl rfl rfl (show 1 ≤ 1 by decide) ?_
    refine kx_go 2 (pc' := 91) (L' := [(0, .inl (Int32.ofNat 5))]) (S' := []) (h' := h) (by with_unfolding_all rfl) ?_
    refine ks_ldc (i := 7) (by decide) rfl (by decide +kernel) ?_
    exact ks_reta (i := 7) rfl (by decide +kernel) ⟨rfl, rfl⟩
  | 6, _ => by
    refine kc_Con_new hg (M := wk_m176) rfl rfl rfl (show 1 ≤ 1 by decide) ?_
    refine kx_go 2 (pc' := 94) (L' := [(0, .inl (Int32.ofNat 6))]) (S' := []) (h' := h) (by with_unfolding_all rfl) ?_
    refine ks_ldc (i := 8) (by decide) rfl (by decide +kernel) ?_
    exact ks_reta (i := 8) rfl (by decide +kernel) ⟨rfl, rfl⟩
  | 7, _ => by
    refine kc_Con_new hg (M := wk_m176) rfl rfl rfl (show 1 ≤ 1 by decide) ?_
    refine kx_go 2 (pc' := 97) (L' := [(0, .inl (Int32.ofNat 7))]) (S' := []) (h' := h) (by with_unfolding_all rfl) ?_
    refine ks_ldc (i := 9) (by decide) rfl (by decide +kernel) ?_
    exact ks_reta (i := 9) rfl (by decide +kernel) ⟨rfl, rfl⟩
  | 8, _ => by
    refine kc_Con_new hg (M := wk_m176) rfl rfl rfl (show 1 ≤ 1 by decide) ?_
    refine kx_go 2 (pc' := 100) (L' := [(0, .inl (Int32.ofNat 8))]) (S' := []) (h' := h) (by with_unfolding_all rfl) ?_
    refine ks_ldc (i := 10) (by decide) rfl (by decide +kernel) ?_
    exact ks_reta (i := 10) rfl (by decide +kernel) ⟨rfl, rfl⟩
  | 9, _ => by
    refine kc_Con_new hg (M := wk_m176) rfl rfl rfl (show 1 ≤ 1 by decide) ?_
    refine kx_go 2 (pc' := 103) (L' := [(0, .inl (Int32.ofNat 9))]) (S' := []) (h' := h) (by with_unfolding_all rfl) ?_
    refine ks_ldc (i := 11) (by decide) rfl (by decide +kernel) ?_
    exact ks_reta (i := 11) rfl (by decide +kernel) ⟨rfl, rfl⟩
  | 10, _ => by
    refine kc_Con_new hg (M := wk_m176) rfl rfl rfl (show 1 ≤ 1 by decide) ?_
    refine kx_go 2 (pc' := 106) (L' := [(0, .inl (Int32.ofNat 10))]) (S' := []) (h' := h) (by with_unfolding_all rfl) ?_
    refine ks_ldc (i := 12) (by decide) rfl (by decide +kernel) ?_
    exact ks_reta (i := 12) rfl (by decide +kernel) ⟨rfl, rfl⟩
  | 11, _ => by
    refine kc_Con_new hg (M := wk_m176) rfl rfl rfl (show 1 ≤ 1 by decide) ?_
    refine kx_go 2 (pc' := 109) (L' := [(0, .inl (Int32.ofNat 11))]) (S' := []) (h' := h) (by with_unfolding_all rfl) ?_
    refine ks_ldc (i := 13) (by decide) rfl (by decide +kernel) ?_
    exact ks_reta (i := 13) rfl (by decide +kernel) ⟨rfl, rfl⟩
  | 12, _ => by
    refine kc_Con_new hg (M := wk_m176) rfl rfl rfl (show 1 ≤ 1 by decide) ?_
    refine kx_go 2 (pc' := 112) (L' := [(0, .inl (Int32.ofNat 12))]) (S' := []) (h' := h) (by with_unfolding_all rfl) ?_
    refine ks_ldc (i := 14) (by decide) rfl (by decide +kernel) ?_
    exact ks_reta (i := 14) rfl (by decide +kernel) ⟨rfl, rfl⟩
  | 13, _ => by
    refine kc_Con_new hg (M := wk_m176) rfl rfl rfl (show 1 ≤ 1 by decide) ?_
    refine kx_go 2 (pc' := 115) (L' := [(0, .inl (Int32.ofNat 13))]) (S' := []) (h' := h) (by with_unfolding_all rfl) ?_
    refine ks_ldc (i := 15) (by decide) rfl (by decide +kernel) ?_
    exact ks_reta (i := 15) rfl (by decide +kernel) ⟨rfl, rfl⟩
  | 14, _ => by
    refine kc_Con_new hg (M := wk_m176) rfl rfl rfl (show 1 ≤ 1 by decide) ?_
    refine kx_go 2 (pc' := 118) (L' := [(0, .inl (Int32.ofNat 14))]) (S' := []) (h' := h) (by with_unfolding_all rfl) ?_
    refine ks_ldc (i := 16) (by decide) rfl (by decide +kernel) ?_
    exact ks_reta (i := 16) rfl (by decide +kernel) ⟨rfl, rfl⟩
  | 15, _ => by
    refine kc_Con_new hg (M := wk_m176) rfl rfl rfl (show 1 ≤ 1 by decide) ?_
    refine kx_go 2 (pc' := 121) (L' := [(0, .inl (Int32.ofNat 15))]) (S' := []) (h' := h) (by with_unfolding_all rfl) ?_
    refine ks_ldc (i := 17) (by decide) rfl (by decide +kernel) ?_
    exact ks_reta (i := 17) rfl (by decide +kernel) ⟨rfl, rfl⟩
  | v + 16, hv => absurd hv (by omega)
def kp_sh (v : Nat) : Nat := [20, 21, 18, 20, 20, 19, 23, 23, 23, 20, 23, 23, 22, 23, 23, 19].getD v 23
set_option maxRecDepth 20000 in
theorem kr_sh {g : kc_G} {d : Nat} {h : kc_H} (hg : kc_ok g) : ∀ v : Nat, v < 16 → kc_Con g (d + 1) 178 [.inl (Int32.ofNat v)] h (fun rv h' => rv = some (ks_s (kp_sh v)) ∧ h' = h)
  | 0, _ => by
    refine kc_Con_new hg (M := wk_m178) rfl rfl rfl (show 1 ≤ 1 by decide) ?_
    refine kx_go 2 (pc' := 86) (L' := [(0, .inl (Int32.ofNat 0))]) (S' := []) (h' := h) (by with_unfolding_all rfl) ?_
    refine ks_ldc (i := 20) (by decide) rfl (by decide +kernel) ?_
    exact ks_reta (i := 20) rfl (by decide +kernel) ⟨rfl, rfl⟩
  | 1, _ => by
    refine kc_Con_new hg (M := wk_m178) rfl rfl rfl (show 1 ≤ 1 by decide) ?_
    refine kx_go 2 (pc' := 89) (L' := [(0, .inl (Int32.ofNat 1))]) (S' := []) (h' := h) (by with_unfolding_all rfl) ?_
    refine ks_ldc (i := 21) (by decide) rfl (by decide +kernel) ?_
    exact ks_reta (i := 21) rfl (by decide +kernel) ⟨rfl, rfl⟩
  | 2, _ => by
    refine kc_Con_new hg (M := wk_m178) rfl rfl rfl (show 1 ≤ 1 by decide) ?_
    refine kx_go 2 (pc' := 80) (L' := [(0, .inl (Int32.ofNat 2))]) (S' := []) (h' := h) (by with_unfolding_all rfl) ?_
    refine ks_ldc (i := 18) (by decide) rfl (by decide +kernel) ?_
    exact ks_reta (i := 18) rfl (by decide +kernel) ⟨rfl, rfl⟩
  | 3, _ => by
    refine kc_Con_new hg (M := wk_m178) rfl rfl rfl (show 1 ≤ 1 by decide) ?_
    refine kx_go 2 (pc' := 86) (L' := [(0, .inl (Int32.ofNat 3))]) (S' := []) (h' := h) (by with_unfolding_all rfl) ?_
    refine ks_ldc (i := 20) (by decide) rfl (by decide +kernel) ?_
    exact ks_reta (i := 20) rfl (by decide +kernel) ⟨rfl, rfl⟩
  | 4, _ => by
    refine kc_Con_new hg (M := wk_m178) rfl rfl rfl (show 1 ≤ 1 by decide) ?_
    refine kx_go 2 (pc' := 86) (L' := [(0, .inl (Int32.ofNat 4))]) (S' := []) (h' := h) (by with_unfolding_all rfl) ?_
    refine ks_ldc (i := 20) (by decide) rfl (by decide +kernel) ?_
    exact ks_reta (i := 20) rfl (by decide +kernel) ⟨rfl, rfl⟩
  | 5, _ => by
    refine kc_Con_new hg (M := wk_m178) rfl rfl rfl (show 1 ≤ 1 by decide) ?_
    refine kx_go 2 (pc' := 83) (L' := [(0, .inl (Int32.ofNat 5))]) (S' := []) (h' := h) (by with_unfolding_all rfl) ?_
    refine ks_ldc (i := 19) (by decide) rfl (by decide +kernel) ?_
    exact ks_reta (i := 19) rfl (by decide +kernel) ⟨rfl, rfl⟩
  | 6, _ => by
    refine kc_Con_new hg (M := wk_m178) rfl rfl rfl (show 1 ≤ 1 by decide) ?_
    refine kx_go 2 (pc' := 95) (L' := [(0, .inl (Int32.ofNat 6))]) (S' := []) (h' := h) (by with_unfolding_all rfl) ?_
    refine ks_ldc (i := 23) (by decide) rfl (by decide +kernel) ?_
    exact ks_reta (i := 23) rfl (by decide +kernel) ⟨rfl, rfl⟩
  | 7, _ => by
    refine kc_Con_new hg (M := wk_m178) rfl rfl rfl (show 1 ≤ 1 by decide) ?_
    refine kx_go 2 (pc' := 95) (L' := [(0, .inl (Int32.ofNat 7))]) (S' := []) (h' := h) (by with_unfolding_all rfl) ?_
    refine ks_ldc (i := 23) (by decide) rfl (by decide +kernel) ?_
    exact ks_reta (i := 23) rfl (by decide +kernel) ⟨rfl, rfl⟩
  | 8, _ => by
    refine kc_Con_new hg (M := wk_m178) rfl rfl rfl (show 1 ≤ 1 by decide) ?_
    refine kx_go 2 (pc' := 95) (L' := [(0, .inl (Int32.ofNat 8))]) (S' := []) (h' := h) (by with_unfolding_all rfl) ?_
    refine ks_ldc (i := 23) (by decide) rfl (by decide +kernel) ?_
    exact ks_reta (i := 23) rfl (by decide +kernel) ⟨rfl, rfl⟩
  | 9, _ => by
    refine kc_Con_new hg (M := wk_m178) rfl rfl rfl (show 1 ≤ 1 by decide) ?_
    refine kx_go 2 (pc' := 86) (L' := [(0, .inl (Int32.ofNat 9))]) (S' := []) (h' := h) (by with_unfolding_all rfl) ?_
    refine ks_ldc (i := 20) (by decide) rfl (by decide +kernel) ?_
    exact ks_reta (i := 20) rfl (by decide +kernel) ⟨rfl, rfl⟩
  | 10, _ => by
    refine kc_Con_new hg (M := wk_m178) rfl rfl rfl (show 1 ≤ 1 by decide) ?_
    refine kx_go 2 (pc' := 95) (L' := [(0, .inl (Int32.ofNat 10))]) (S' := []) (h' := h) (by with_unfolding_all rfl) ?_
    refine ks_ldc (i := 23) (by decide) rfl (by decide +kernel) ?_
    exact ks_reta (i := 23) rfl (by decide +kernel) ⟨rfl, rfl⟩
  | 11, _ => by
    refine kc_Con_new hg (M := wk_m178) rfl rfl rfl (show 1 ≤ 1 by decide) ?_
    refine kx_go 2 (pc' := 95) (L' := [(0, .inl (Int32.ofNat 11))]) (S' := []) (h' := h) (by with_unfolding_all rfl) ?_
    refine ks_ldc (i := 23) (by decide) rfl (by decide +kernel) ?_
    exact ks_reta (i := 23) rfl (by decide +kernel) ⟨rfl, rfl⟩
  | 12, _ => by
    refine kc_Con_new hg (M := wk_m178) rfl rfl rfl (show 1 ≤ 1 by decide) ?_
    refine kx_go 2 (pc' := 92) (L' := [(0, .inl (Int32.ofNat 12))]) (S' := []) (h' := h) (by with_unfolding_all rfl) ?_
    refine ks_ldc (i := 22) (by decide) rfl (by decide +kernel) ?_
    exact ks_reta (i := 22) rfl (by decide +kernel) ⟨rfl, rfl⟩
  | 13, _ => by
    refine kc_Con_new hg (M := wk_m178) rfl rfl rfl (show 1 ≤ 1 by decide) ?_
    refine kx_go 2 (pc' := 95) (L' := [(0, .inl (Int32.ofNat 13))]) (S' := []) (h' := h) (by with_unfolding_all rfl) ?_
    refine ks_ldc (i := 23) (by decide) rfl (by decide +kernel) ?_
    exact ks_reta (i := 23) rfl (by decide +kernel) ⟨rfl, rfl⟩
  | 14, _ => by
    refine kc_Con_new hg (M := wk_m178) rfl rfl rfl (show 1 ≤ 1 by decide) ?_
    refine kx_go 2 (pc' := 95) (L' := [(0, .inl (Int32.ofNat 14))]) (S' := []) (h' := h) (by with_unfolding_all rfl) ?_
    refine ks_ldc (i := 23) (by decide) rfl (by decide +kernel) ?_
    exact ks_reta (i := 23) rfl (by decide +kernel) ⟨rfl, rfl⟩
  | 15, _ => by
    refine kc_Con_new hg (M := wk_m178) rfl rfl rfl (show 1 ≤ 1 by decide) ?_
    refine kx_go 2 (pc' := 83) (L' := [(0, .inl (Int32.ofNat 15))]) (S' := []) (h' := h) (by with_unfolding_all rfl) ?_
    refine ks_ldc (i := 19) (by decide) rfl (by decide +kernel) ?_
    exact ks_reta (i := 19) rfl (by decide +kernel) ⟨rfl, rfl⟩
  | v + 16, hv => absurd hv (by omega)
