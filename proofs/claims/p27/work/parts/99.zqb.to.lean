section
-- 99.zqb
/-! ===== the search, reference: STAYS ===== -/
theorem ms_it_all {Q L : Nat} {J : (Nat → Nat) → ms_S → ms_S} {s : ms_S} : (ms_it Q L J (Q ^ L) ((fun _ => 0), s)).2 = ms_tree Q J L 0 (fun _ => 0) s := by
  by_cases h : 0 < Q
  · rw [ms_it_tree h L 0 (fun _ => 0) s (by omega) (fun j _ _ => rfl)]
  · obtain rfl : Q = 0 := by omega
    cases L with
    | zero => rfl
    | succ L =>
      rw [Nat.zero_pow (Nat.succ_pos L)]
      rfl
def fs_RS (h0 : kc_H) (F E : Nat → Nat) (co : Nat → Bool) (L M : Nat) (c : Nat → Nat) (S : ms_S) (h : kc_H) : Prop := kd_wt kd_ty h ∧ (∀ l, l < L → h 272 l = .inl (Int32.ofNat (c l))) ∧ (0 < M → ∀ l, l < L → c l < 2 * M) ∧ (h 259 33 = .inl (Int32.ofNat S.1) ∧ S.1 ≤ 1000000) ∧ (∀ l, l < L → h 278 l = .inl (Int32.ofNat (S.2 l))) ∧ fs_sp F E co L h ∧ ∀ a x, ¬ (a = 259 ∧ x = 33) → ¬ (272 ≤ a ∧ a ≤ 278) → h a x = h0 a x
theorem fs_RS_x {h0 : kc_H} {F E : Nat → Nat} {co : Nat → Bool} {L M : Nat} {c : Nat → Nat} {S : ms_S} {h h2 : kc_H} (hw2 : kd_wt kd_ty h2) (hF : fs_rx h h2) (hR : fs_RS h0 F E co L M c S h) : fs_RS h0 F E co L M c S h2 := by
  obtain ⟨hw, hcd, hc6, hb, hf, hsp, hF0⟩ := hR
  exact ⟨hw2, fun l hl => (hF _ _ (by decide)).trans (hcd l hl), hc6, ⟨(hF _ _ (by decide)).trans hb.1, hb.2⟩, fun l hl => (hF _ _ (by decide)).trans (hf l hl), fs_sp_f (fun a y q1 q2 => hF a y (by omega)) hsp, fun a y q1 q2 => (hF a y (by omega)).trans (hF0 a y q1 q2)⟩
def fs_hv (M L : Nat) : Int32 := if 5000 < fs_hn M L then Int32.ofInt (-1) else Int32.ofNat (fs_hn M L)
set_option maxRecDepth 20000 in
theorem fs_r121l {g : kc_G} {d : Nat} {h : kc_H} {B : Nat → Int32} {L M : Nat} (hw : kd_wt kd_ty h) (hC : fu_B B h) (hM : M ≤ 3) (eM : B 1 = Int32.ofNat M) (hL : L ≤ 10) (eL : B 2 = Int32.ofNat L) : ∀ u l : Nat, L - l = u → l ≤ L → kc_Ev g d wk_m121 (fun rv h' => rv = some (.inl (fs_hv M L)) ∧ h' = h) 4 [(2, .inl (Int32.ofNat l)), (1, .inl (Int32.ofNat (fs_hn M l))), (0, .inr (.inr (.inl (some 259))))] [] h := by
  intro u
  induction u with
  | zero =>
    intro l hu hl
    have b := fs_hn_b hM l
    refine kx_go 2 (pc' := 6) (L' := [(2, .inl (Int32.ofNat l)), (1, .inl (Int32.ofNat (fs_hn M l))), (0, .inr (.inr (.inl (some 259))))]) (S' := [.inr (.inr (.inl (some 259))), .inl (Int32.ofNat l)]) (h' := h) (by with_unfolding_all rfl) ?_
    refine kx_getf (c := 259) (v := .inr (.inr (.inl (some 260)))) rfl (by decide) (kx_ofr (hw _ _ _ fs_k259_0)) ?_
    refine kx_go 1 (pc' := 10) (L' := [(2, .inl (Int32.ofNat l)), (1, .inl (Int32.ofNat (fs_hn M l))), (0, .inr (.inr (.inl (some 259))))]) (S' := [.inl (Int32.ofNat 2), .inr (.inr (.inl (some 260))), .inl (Int32.ofNat l)]) (h' := h) (by with_unfolding_all rfl) ?_
    refine kx_iald (c := 260) (j := 2) (m := 650) (v := .inl (Int32.ofNat L)) rfl rfl (by decide) (by decide) (by omega) ((hC 2 (by decide) (by decide)).trans (by rw [eL])) ?_
    refine kx_go 1 (pc' := (if kc_cnd .ge (Int32.ofNat l).toInt (Int32.ofNat L).toInt then 42 else 14)) (L' := [(2, .inl (Int32.ofNat l)), (1, .inl (Int32.ofNat (fs_hn M l))), (0, .inr (.inr (.inl (some 259))))]) (S' := []) (h' := h) (by with_unfolding_all rfl) ?_
    rw [if_pos ((kx_ge (by omega) (by omega)).mpr (by omega))]
    obtain rfl : l = L := by omega
    refine kx_go 3 (pc' := (if kc_cnd .le (Int32.ofNat (fs_hn M l)).toInt (Int32.ofNat 5000).toInt then 53 else 49)) (L' := [(2, .inl (Int32.ofNat l)), (1, .inl (Int32.ofNat (fs_hn M l))), (0, .inr (.inr (.inl (some 259))))]) (S' := []) (h' := h) (by with_unfolding_all rfl) ?_
    by_cases c : 5000 < fs_hn M l
    · rw [if_neg (fun q => by have := (kx_le (by omega) (by omega)).mp q; omega), show fs_hv M l = Int32.ofInt (-1) from if_pos c]
      refine kx_go 2 (pc' := 54) (L' := [(2, .inl (Int32.ofNat l)), (1, .inl (Int32.ofNat (fs_hn M l))), (0, .inr (.inr (.inl (some 259))))]) (S' := [.inl (Int32.ofInt (-1))]) (h' := h) (by with_unfolding_all rfl) ?_
      exact kc_ret_ok rfl (rv := some (.inl (Int32.ofInt (-1)))) rfl ⟨rfl, rfl⟩
    · rw [if_pos ((kx_le (by omega) (by omega)).mpr (by omega)), show fs_hv M l = Int32.ofNat (fs_hn M l) from if_neg c]
      refine kx_go 1 (pc' := 54) (L' := [(2, .inl (Int32.ofNat l)), (1, .inl (Int32.ofNat (fs_hn M l))), (0, .inr (.inr (.inl (some 259))))]) (S' := [.inl (Int32.ofNat (fs_hn M l))]) (h' := h) (by with_unfolding_all rfl) ?_
      exact kc_ret_ok rfl (rv := some (.inl (Int32.ofNat (fs_hn M l)))) rfl ⟨rfl, rfl⟩
  | succ u ih =>
    intro l hu hl
    have b := fs_hn_b hM l
    refine kx_go 2 (pc' := 6) (L' := [(2, .inl (Int32.ofNat l)), (1, .inl (Int32.ofNat (fs_hn M l))), (0, .inr (.inr (.inl (some 259))))]) (S' := [.inr (.inr (.inl (some 259))), .inl (Int32.ofNat l)]) (h' := h) (by with_unfolding_all rfl) ?_
    refine kx_getf (c := 259) (v := .inr (.inr (.inl (some 260)))) rfl (by decide) (kx_ofr (hw _ _ _ fs_k259_0)) ?_
    refine kx_go 1 (pc' := 10) (L' := [(2, .inl (Int32.ofNat l)), (1, .inl (Int32.ofNat (fs_hn M l))), (0, .inr (.inr (.inl (some 259))))]) (S' := [.inl (Int32.ofNat 2), .inr (.inr (.inl (some 260))), .inl (Int32.ofNat l)]) (h' := h) (by with_unfolding_all rfl) ?_
    refine kx_iald (c := 260) (j := 2) (m := 650) (v := .inl (Int32.ofNat L)) rfl rfl (by decide) (by decide) (by omega) ((hC 2 (by decide) (by decide)).trans (by rw [eL])) ?_
    refine kx_go 1 (pc' := (if kc_cnd .ge (Int32.ofNat l).toInt (Int32.ofNat L).toInt then 42 else 14)) (L' := [(2, .inl (Int32.ofNat l)), (1, .inl (Int32.ofNat (fs_hn M l))), (0, .inr (.inr (.inl (some 259))))]) (S' := []) (h' := h) (by with_unfolding_all rfl) ?_
    rw [if_neg (fun q => by have := (kx_ge (by omega) (by omega)).mp q; omega)]
    refine kx_go 3 (pc' := (if kc_cnd .le (Int32.ofNat (fs_hn M l)).toInt (Int32.ofNat 5000).toInt then 25 else 21)) (L' := [(2, .inl (Int32.ofNat l)), (1, .inl (Int32.ofNat (fs_hn M l))), (0, .inr (.inr (.inl (some 259))))]) (S' := []) (h' := h) (by with_unfolding_all rfl) ?_
    by_cases c : 5000 < fs_hn M l
    · rw [if_neg (fun q => by have := (kx_le (by omega) (by omega)).mp q; omega)]
      refine kx_go 5 (pc' := 4) (L' := [(2, .inl ((Int32.ofNat l) + Int32.ofInt 1)), (1, .inl (Int32.ofNat (fs_hn M l))), (0, .inr (.inr (.inl (some 259))))]) (S' := []) (h' := h) (by with_unfolding_all rfl) ?_
      rw [kx_inc, show Int32.ofNat (fs_hn M l) = Int32.ofNat (fs_hn M (l + 1)) from congrArg Int32.ofNat (if_pos c).symm]
      refine kf_lo (L := [(2, .inl (Int32.ofNat (l + 1))), (1, .inl (Int32.ofNat (fs_hn M (l + 1)))), (0, .inr (.inr (.inl (some 259))))]) (by intro q hq; simp only [List.mem_cons, List.not_mem_nil, or_false] at hq; rcases hq with rfl | rfl | rfl <;> rfl) ?_
      exact ih (l + 1) (by omega) (by omega)
    · rw [if_pos ((kx_le (by omega) (by omega)).mpr (by omega))]
      refine kx_go 4 (pc' := 29) (L' := [(2, .inl (Int32.ofNat l)), (1, .inl (Int32.ofNat (fs_hn M l))), (0, .inr (.inr (.inl (some 259))))]) (S' := [.inr (.inr (.inl (some 259))), .inl ((Int32.ofNat (fs_hn M l)) * (Int32.ofNat 2))]) (h' := h) (by with_unfolding_all rfl) ?_
      refine kx_getf (c := 259) (v := .inr (.inr (.inl (some 260)))) rfl (by decide) (kx_ofr (hw _ _ _ fs_k259_0)) ?_
      refine kx_go 1 (pc' := 33) (L' := [(2, .inl (Int32.ofNat l)), (1, .inl (Int32.ofNat (fs_hn M l))), (0, .inr (.inr (.inl (some 259))))]) (S' := [.inl (Int32.ofNat 1), .inr (.inr (.inl (some 260))), .inl ((Int32.ofNat (fs_hn M l)) * (Int32.ofNat 2))]) (h' := h) (by with_unfolding_all rfl) ?_
      refine kx_iald (c := 260) (j := 1) (m := 650) (v := .inl (Int32.ofNat M)) rfl rfl (by decide) (by decide) (by omega) ((hC 1 (by decide) (by decide)).trans (by rw [eM])) ?_
      refine kx_go 4 (pc' := 4) (L' := [(2, .inl ((Int32.ofNat l) + Int32.ofInt 1)), (1, .inl (((Int32.ofNat (fs_hn M l)) * (Int32.ofNat 2)) * (Int32.ofNat M))), (0, .inr (.inr (.inl (some 259))))]) (S' := []) (h' := h) (by with_unfolding_all rfl) ?_
      rw [kx_inc, kx_mul, kx_mul, show fs_hn M l * 2 * M = fs_hn M (l + 1) from (Nat.mul_assoc _ _ _).trans (if_neg c).symm]
      refine kf_lo (L := [(2, .inl (Int32.ofNat (l + 1))), (1, .inl (Int32.ofNat (fs_hn M (l + 1)))), (0, .inr (.inr (.inl (some 259))))]) (by intro q hq; simp only [List.mem_cons, List.not_mem_nil, or_false] at hq; rcases hq with rfl | rfl | rfl <;> rfl) ?_
      exact ih (l + 1) (by omega) (by omega)
set_option maxRecDepth 20000 in
theorem fs_r121 {g : kc_G} {d : Nat} {h : kc_H} {B : Nat → Int32} {L M : Nat} (hg : kc_ok g) (hw : kd_wt kd_ty h) (hC : fu_B B h) (hM : M ≤ 3) (eM : B 1 = Int32.ofNat M) (hL : L ≤ 10) (eL : B 2 = Int32.ofNat L) : kc_Con g (d + 1) 121 [.inr (.inr (.inl (some 259)))] h (fun rv h' => rv = some (.inl (fs_hv M L)) ∧ h' = h) := by
  refine kc_Con_new hg (M := wk_m121) rfl rfl rfl (show 1 ≤ 3 by decide) ?_
  refine kx_go 4 (pc' := 4) (L' := [(2, .inl (Int32.ofNat 0)), (1, .inl (Int32.ofNat 1)), (0, .inr (.inr (.inl (some 259))))]) (S' := []) (h' := h) (by with_unfolding_all rfl) ?_
  exact fs_r121l hw hC hM eM hL eL L 0 (by omega) (by omega)
set_option maxRecDepth 20000 in
theorem fs_r122l {g : kc_G} {d : Nat} {h0 : kc_H} {B : Nat → Int32} {D : Nat → Nat} {n L M N : Nat} {f : Nat → Nat} (hg : kc_ok g) (hB : fu_BT B) (hC0 : fu_B B h0) (hn : n ≤ 5) (en : B 3 = Int32.ofNat n) (hL : L ≤ 10) (eL : B 2 = Int32.ofNat L) (hM : M ≤ 3) (eM : B 1 = Int32.ofNat M) (hN : N ≤ 5000) (hml : 0 < N → 0 < M ∨ L = 0) : ∀ (u k : Nat) (h : kc_H), N - k = u → k ≤ N → fs_RS h0 (fs_F B D n) (fs_E B D n) (fs_co B D n) L M ((ms_it (2 * M) L (ms_J (fs_bor B D n L M) (fs_wo B D n L M)) k ((fun _ => 0), (1000000, f))).1) ((ms_it (2 * M) L (ms_J (fs_bor B D n L M) (fs_wo B D n L M)) k ((fun _ => 0), (1000000, f))).2) h → kc_Ev g (d + 7) wk_m122 (fun rv h' => rv = some (.inl (kp_b (decide ((ms_it (2 * M) L (ms_J (fs_bor B D n L M) (fs_wo B D n L M)) N ((fun _ => 0), (1000000, f))).2.1 < 1000000)))) ∧ ∃ c, fs_RS h0 (fs_F B D n) (fs_E B D n) (fs_co B D n) L M (c) ((ms_it (2 * M) L (ms_J (fs_bor B D n L M) (fs_wo B D n L M)) N ((fun _ => 0), (1000000, f))).2) h') 17 [(2, .inl (Int32.ofNat k)), (1, .inl (Int32.ofNat N)), (0, .inr (.inr (.inl (some 259))))] [] h := by
  have hE : ∀ l, l < L → (fs_F B D n) l ≤ 5 ∧ (fs_E B D n) l ≤ 5 := fun l hl => by
    have := (fs_gb (D := D) (L := L) hB hn hL).2.2.1 l hl
    omega
  have wob : ∀ c, fs_wo B D n L M c ≤ 990 := fun c => fs_wob (co := fs_co B D n) (fs_gb hB hn hL)
  intro u
  induction u with
  | zero =>
    intro k h hu hk hR
    have hw := hR.1
    have hC : fu_B B h := fs_B_f (fun x => hR.2.2.2.2.2.2 260 x (by omega) (by omega)) hC0
    have e33 := hR.2.2.2.1.1
    have l33 := hR.2.2.2.1.2
    refine kx_go 3 (pc' := (if kc_cnd .ge (Int32.ofNat k).toInt (Int32.ofNat N).toInt then 91 else 22)) (L' := [(2, .inl (Int32.ofNat k)), (1, .inl (Int32.ofNat N)), (0, .inr (.inr (.inl (some 259))))]) (S' := []) (h' := h) (by with_unfolding_all rfl) ?_
    rw [if_pos ((kx_ge (by omega) (by omega)).mpr (by omega))]
    obtain rfl : k = N := by omega
    refine kx_go 1 (pc' := 92) (L' := [(2, .inl (Int32.ofNat k)), (1, .inl (Int32.ofNat k)), (0, .inr (.inr (.inl (some 259))))]) (S' := [.inr (.inr (.inl (some 259)))]) (h' := h) (by with_unfolding_all rfl) ?_
    refine kx_getf (c := 259) (v := .inl (Int32.ofNat (ms_it (2 * M) L (ms_J (fs_bor B D n L M) (fs_wo B D n L M)) k ((fun _ => 0), (1000000, f))).2.1)) rfl (by decide) e33 ?_
    refine kx_go 2 (pc' := (if kc_cnd .ge (Int32.ofNat (ms_it (2 * M) L (ms_J (fs_bor B D n L M) (fs_wo B D n L M)) k ((fun _ => 0), (1000000, f))).2.1).toInt (Int32.ofNat 1000000).toInt then 105 else 101)) (L' := [(2, .inl (Int32.ofNat k)), (1, .inl (Int32.ofNat k)), (0, .inr (.inr (.inl (some 259))))]) (S' := []) (h' := h) (by with_unfolding_all rfl) ?_
    by_cases c : (ms_it (2 * M) L (ms_J (fs_bor B D n L M) (fs_wo B D n L M)) k ((fun _ => 0), (1000000, f))).2.1 < 1000000
    · rw [if_neg (fun q => by have := (kx_ge (by omega) (by omega)).mp q; omega), decide_eq_true c]
      refine kx_go 2 (pc' := 106) (L' := [(2, .inl (Int32.ofNat k)), (1, .inl (Int32.ofNat k)), (0, .inr (.inr (.inl (some 259))))]) (S' := [.inl (Int32.ofNat 1)]) (h' := h) (by with_unfolding_all rfl) ?_
      exact kc_ret_ok rfl (rv := some (.inl (Int32.ofNat 1))) rfl ⟨rfl, _, hR⟩
    · rw [if_pos ((kx_ge (by omega) (by omega)).mpr (by omega)), decide_eq_false c]
      refine kx_go 1 (pc' := 106) (L' := [(2, .inl (Int32.ofNat k)), (1, .inl (Int32.ofNat k)), (0, .inr (.inr (.inl (some 259))))]) (S' := [.inl (Int32.ofNat 0)]) (h' := h) (by with_unfolding_all rfl) ?_
      exact kc_ret_ok rfl (rv := some (.inl (Int32.ofNat 0))) rfl ⟨rfl, _, hR⟩
  | succ u ih =>
    intro k h hu hk hR
    have hw := hR.1
    have hC : fu_B B h := fs_B_f (fun x => hR.2.2.2.2.2.2 260 x (by omega) (by omega)) hC0
    have e33 := hR.2.2.2.1.1
    have l33 := hR.2.2.2.1.2
    refine kx_go 3 (pc' := (if kc_cnd .ge (Int32.ofNat k).toInt (Int32.ofNat N).toInt then 91 else 22)) (L' := [(2, .inl (Int32.ofNat k)), (1, .inl (Int32.ofNat N)), (0, .inr (.inr (.inl (some 259))))]) (S' := []) (h' := h) (by with_unfolding_all rfl) ?_
    rw [if_neg (fun q => by have := (kx_ge (by omega) (by omega)).mp q; omega)]
    have est : ms_it (2 * M) L (ms_J (fs_bor B D n L M) (fs_wo B D n L M)) (k + 1) ((fun _ => 0), (1000000, f)) = (ms_nx (2 * M) L (ms_it (2 * M) L (ms_J (fs_bor B D n L M) (fs_wo B D n L M)) k ((fun _ => 0), (1000000, f))).1, (ms_J (fs_bor B D n L M) (fs_wo B D n L M)) (ms_it (2 * M) L (ms_J (fs_bor B D n L M) (fs_wo B D n L M)) k ((fun _ => 0), (1000000, f))).1 (ms_it (2 * M) L (ms_J (fs_bor B D n L M) (fs_wo B D n L M)) k ((fun _ => 0), (1000000, f))).2) := ms_it_add k 1 _
    have hkp := hR
    generalize ms_it (2 * M) L (ms_J (fs_bor B D n L M) (fs_wo B D n L M)) k ((fun _ => 0), (1000000, f)) = p0 at hR est e33 l33 hkp
    obtain ⟨c, S⟩ := p0
    obtain ⟨-, hcd, hc6, hb, hf, hsp, hF0⟩ := hR
    have hcM : ∀ l, l < L → c l < 2 * M := fun l hl => (hml (by omega)).elim (fun q => hc6 q l hl) (fun q => by omega)
    have hc : ∀ l, l < L → h 272 l = .inl (Int32.ofNat (c l)) ∧ c l < 6 := fun l hl => ⟨hcd l hl, by have := hcM l hl; omega⟩
    have wb := wob c
    have l9 : S.1 ≤ 1000000 := hb.2
    have next : ∀ (S2 : ms_S) (h : kc_H), fs_RS h0 (fs_F B D n) (fs_E B D n) (fs_co B D n) L M (c) (S2) h → S2 = (ms_J (fs_bor B D n L M) (fs_wo B D n L M)) c S → kc_Ev g (d + 7) wk_m122 (fun rv h' => rv = some (.inl (kp_b (decide ((ms_it (2 * M) L (ms_J (fs_bor B D n L M) (fs_wo B D n L M)) N ((fun _ => 0), (1000000, f))).2.1 < 1000000)))) ∧ ∃ c, fs_RS h0 (fs_F B D n) (fs_E B D n) (fs_co B D n) L M (c) ((ms_it (2 * M) L (ms_J (fs_bor B D n L M) (fs_wo B D n L M)) N ((fun _ => 0), (1000000, f))).2) h') 81 [(2, .inl (Int32.ofNat k)), (1, .inl (Int32.ofNat N)), (0, .inr (.inr (.inl (some 259))))] [] h := by
      intro S2 h hR eS
      obtain ⟨hw, hcd, hc6, hb, hf, hsp, hF0⟩ := hR
      have hC : fu_B B h := fs_B_f (fun x => hF0 260 x (by omega) (by omega)) hC0
      refine kx_go 1 (pc' := 82) (L' := [(2, .inl (Int32.ofNat k)), (1, .inl (Int32.ofNat N)), (0, .inr (.inr (.inl (some 259))))]) (S' := [.inr (.inr (.inl (some 259)))]) (h' := h) (by with_unfolding_all rfl) ?_
      refine kc_call_rule (M2 := wk_m124) (av := [.inr (.inr (.inl (some 259)))]) (r := []) rfl rfl (kc_Con_le (fs_r124 (d := d) (c := c) hg hw hC hL hM eM eL hcd hcM) (by omega)) (fun rv h2 hq => ?_)
      obtain ⟨rfl, hw2, hcd2, hF2⟩ := hq
      show kc_Ev g (d + 7) wk_m122 _ 85 [(2, .inl (Int32.ofNat k)), (1, .inl (Int32.ofNat N)), (0, .inr (.inr (.inl (some 259))))] [] h2
      refine kx_go 2 (pc' := 17) (L' := [(2, .inl ((Int32.ofNat k) + Int32.ofInt 1)), (1, .inl (Int32.ofNat N)), (0, .inr (.inr (.inl (some 259))))]) (S' := []) (h' := h2) (by with_unfolding_all rfl) ?_
      rw [kx_inc]
      refine ih (k + 1) h2 (by omega) (by omega) ?_
      rw [est, ← eS]
      exact ⟨hw2, hcd2, fun q => ms_nx_lt L c (Nat.le_refl _) hcM, ⟨(hF2 _ _ (by decide)).trans hb.1, hb.2⟩, fun l hl => (hF2 _ _ (by decide)).trans (hf l hl), fs_sp_f (fun a y q1 q2 => hF2 a y (by omega)) hsp, fun a y q1 q2 => (hF2 a y (by omega)).trans (hF0 a y q1 q2)⟩
    refine kx_go 1 (pc' := 23) (L' := [(2, .inl (Int32.ofNat k)), (1, .inl (Int32.ofNat N)), (0, .inr (.inr (.inl (some 259))))]) (S' := [.inr (.inr (.inl (some 259)))]) (h' := h) (by with_unfolding_all rfl) ?_
    refine kc_call_rule (M2 := wk_m106) (av := [.inr (.inr (.inl (some 259)))]) (r := []) rfl rfl (kc_Con_le (fs_r106 (d := d) (c := c) (F := (fs_F B D n)) (E := (fs_E B D n)) (co := (fs_co B D n)) hw hg hB hC hn en hL eL hM eM hE hsp hc) (by omega)) (fun rv h2 hq => ?_)
    obtain ⟨rfl, hw2, hF2⟩ := hq
    show kc_Ev g (d + 7) wk_m122 _ 26 [(2, .inl (Int32.ofNat k)), (1, .inl (Int32.ofNat N)), (0, .inr (.inr (.inl (some 259))))] [.inl (kp_b (fs_bor B D n L M c))] h2
    have R2 := fs_RS_x hw2 hF2 hkp
    refine kx_go 1 (pc' := (if kc_cnd .eq (kp_b (fs_bor B D n L M c)).toInt 0 then 81 else 29)) (L' := [(2, .inl (Int32.ofNat k)), (1, .inl (Int32.ofNat N)), (0, .inr (.inr (.inl (some 259))))]) (S' := []) (h' := h2) (by with_unfolding_all rfl) ?_
    cases eb : fs_bor B D n L M c with
    | false =>
      rw [if_pos (kx_b0.mpr rfl)]
      exact next S h2 R2 (by
        unfold ms_J ms_j
        rw [if_neg (fun q => by rw [eb] at q; cases q.1)])
    | true =>
      rw [if_neg fa_b0t]
      have hC2 : fu_B B h2 := fs_B_f (fun x => hF2 260 x (by decide)) hC
      have hc2 : ∀ l, l < L → h2 272 l = .inl (Int32.ofNat (c l)) ∧ c l < 6 := fun l hl => ⟨R2.2.1 l hl, (hc l hl).2⟩
      refine kx_go 1 (pc' := 30) (L' := [(2, .inl (Int32.ofNat k)), (1, .inl (Int32.ofNat N)), (0, .inr (.inr (.inl (some 259))))]) (S' := [.inr (.inr (.inl (some 259)))]) (h' := h2) (by with_unfolding_all rfl) ?_
      refine kc_call_rule (M2 := wk_m110) (av := [.inr (.inr (.inl (some 259)))]) (r := []) rfl rfl (kc_Con_le (fs_r110 (d := d) (c := c) (F := (fs_F B D n)) (E := (fs_E B D n)) (co := (fs_co B D n)) hw2 hg hB hC2 hn en hL eL hM eM hE R2.2.2.2.2.2.1 hc2) (by omega)) (fun rv h3 hq => ?_)
      obtain ⟨rfl, hw3, hF3⟩ := hq
      show kc_Ev g (d + 7) wk_m122 _ 33 [(2, .inl (Int32.ofNat k)), (1, .inl (Int32.ofNat N)), (0, .inr (.inr (.inl (some 259))))] [.inl (Int32.ofNat (fs_wo B D n L M c))] h3
      have R3 := fs_RS_x hw3 hF3 R2
      refine kx_go 3 (pc' := 36) (L' := [(3, .inl (Int32.ofNat (fs_wo B D n L M c))), (2, .inl (Int32.ofNat k)), (1, .inl (Int32.ofNat N)), (0, .inr (.inr (.inl (some 259))))]) (S' := [.inr (.inr (.inl (some 259))), .inl (Int32.ofNat (fs_wo B D n L M c))]) (h' := h3) (by with_unfolding_all rfl) ?_
      refine kx_getf (c := 259) (v := .inl (Int32.ofNat S.1)) rfl (by decide) R3.2.2.2.1.1 ?_
      refine kx_go 1 (pc' := (if kc_cnd .ge (Int32.ofNat (fs_wo B D n L M c)).toInt (Int32.ofNat S.1).toInt then 81 else 42)) (L' := [(3, .inl (Int32.ofNat (fs_wo B D n L M c))), (2, .inl (Int32.ofNat k)), (1, .inl (Int32.ofNat N)), (0, .inr (.inr (.inl (some 259))))]) (S' := []) (h' := h3) (by with_unfolding_all rfl) ?_
      by_cases cw : fs_wo B D n L M c < S.1
      · rw [if_neg (fun q => by have := (kx_ge (by omega) (by omega)).mp q; omega)]
        have eJ : (ms_J (fs_bor B D n L M) (fs_wo B D n L M)) c S = (fs_wo B D n L M c, c) := if_pos ⟨eb, cw⟩
        refine kx_go 2 (pc' := 44) (L' := [(3, .inl (Int32.ofNat (fs_wo B D n L M c))), (2, .inl (Int32.ofNat k)), (1, .inl (Int32.ofNat N)), (0, .inr (.inr (.inl (some 259))))]) (S' := [.inl (Int32.ofNat (fs_wo B D n L M c)), .inr (.inr (.inl (some 259)))]) (h' := h3) (by with_unfolding_all rfl) ?_
        have hw4 : kd_wt kd_ty (kc_upd h3 259 33 (.inl (Int32.ofNat (fs_wo B D n L M c)))) := fa_wa fs_k273.2.2.2.2.2.2.2 hw3
        refine kx_go 1 (pc' := 47) (L' := [(3, .inl (Int32.ofNat (fs_wo B D n L M c))), (2, .inl (Int32.ofNat k)), (1, .inl (Int32.ofNat N)), (0, .inr (.inr (.inl (some 259))))]) (S' := []) (h' := (kc_upd h3 259 33 (.inl (Int32.ofNat (fs_wo B D n L M c))))) (by with_unfolding_all rfl) ?_
        obtain ⟨-, hcd3, -, -, -, hsp3, hF30⟩ := R3
        have e4 : (kc_upd h3 259 33 (.inl (Int32.ofNat (fs_wo B D n L M c)))) 259 33 = .inl (Int32.ofNat (fs_wo B D n L M c)) := fu_eq
        have o4 : ∀ a x, ¬ (a = 259 ∧ x = 33) → (kc_upd h3 259 33 (.inl (Int32.ofNat (fs_wo B D n L M c)))) a x = h3 a x := fun a y q => fu_ne q
        generalize (kc_upd h3 259 33 (.inl (Int32.ofNat (fs_wo B D n L M c)))) = h4 at hw4 e4 o4 ⊢
        have cpy : ∀ (v l : Nat) (h : kc_H), L - l = v → l ≤ L → kd_wt kd_ty h → (∀ j, j < l → h 278 j = .inl (Int32.ofNat (c j))) → (∀ a x, ¬ a = 278 → h a x = h4 a x) → kc_Ev g (d + 7) wk_m122 (fun rv h' => rv = some (.inl (kp_b (decide ((ms_it (2 * M) L (ms_J (fs_bor B D n L M) (fs_wo B D n L M)) N ((fun _ => 0), (1000000, f))).2.1 < 1000000)))) ∧ ∃ c, fs_RS h0 (fs_F B D n) (fs_E B D n) (fs_co B D n) L M (c) ((ms_it (2 * M) L (ms_J (fs_bor B D n L M) (fs_wo B D n L M)) N ((fun _ => 0), (1000000, f))).2) h') 50 [(4, .inl (Int32.ofNat l)), (3, .inl (Int32.ofNat (fs_wo B D n L M c))), (2, .inl (Int32.ofNat k)), (1, .inl (Int32.ofNat N)), (0, .inr (.inr (.inl (some 259))))] [] h := by
          intro v
          induction v with
          | zero =>
            intro l h hv hl hw hz hF
            have hC : fu_B B h := fs_B_f (fun x => (hF 260 x (by decide)).trans ((o4 260 x (by omega)).trans (hF30 260 x (by omega) (by omega)))) hC0
            refine kx_go 2 (pc' := 53) (L' := [(4, .inl (Int32.ofNat l)), (3, .inl (Int32.ofNat (fs_wo B D n L M c))), (2, .inl (Int32.ofNat k)), (1, .inl (Int32.ofNat N)), (0, .inr (.inr (.inl (some 259))))]) (S' := [.inr (.inr (.inl (some 259))), .inl (Int32.ofNat l)]) (h' := h) (by with_unfolding_all rfl) ?_
            refine kx_getf (c := 259) (v := .inr (.inr (.inl (some 260)))) rfl (by decide) (kx_ofr (hw _ _ _ fs_k259_0)) ?_
            refine kx_go 1 (pc' := 57) (L' := [(4, .inl (Int32.ofNat l)), (3, .inl (Int32.ofNat (fs_wo B D n L M c))), (2, .inl (Int32.ofNat k)), (1, .inl (Int32.ofNat N)), (0, .inr (.inr (.inl (some 259))))]) (S' := [.inl (Int32.ofNat 2), .inr (.inr (.inl (some 260))), .inl (Int32.ofNat l)]) (h' := h) (by with_unfolding_all rfl) ?_
            refine kx_iald (c := 260) (j := 2) (m := 650) (v := .inl (Int32.ofNat L)) rfl rfl (by decide) (by decide) (by omega) ((hC 2 (by decide) (by decide)).trans (by rw [eL])) ?_
            refine kx_go 1 (pc' := (if kc_cnd .ge (Int32.ofNat l).toInt (Int32.ofNat L).toInt then 81 else 61)) (L' := [(4, .inl (Int32.ofNat l)), (3, .inl (Int32.ofNat (fs_wo B D n L M c))), (2, .inl (Int32.ofNat k)), (1, .inl (Int32.ofNat N)), (0, .inr (.inr (.inl (some 259))))]) (S' := []) (h' := h) (by with_unfolding_all rfl) ?_
            rw [if_pos ((kx_ge (by omega) (by omega)).mpr (by omega))]
            refine kf_lo (L := [(2, .inl (Int32.ofNat k)), (1, .inl (Int32.ofNat N)), (0, .inr (.inr (.inl (some 259))))]) (by intro q hq; simp only [List.mem_cons, List.not_mem_nil, or_false] at hq; rcases hq with rfl | rfl | rfl <;> rfl) ?_
            refine next (fs_wo B D n L M c, c) h ⟨hw, fun j hj => (hF 272 j (by omega)).trans ((o4 272 j (by omega)).trans (hcd3 j hj)), hc6, ⟨(hF 259 33 (by decide)).trans e4, by show fs_wo B D n L M c ≤ 1000000; omega⟩, fun j hj => hz j (by omega), fs_sp_f (fun a y q1 q2 => (hF a y (by omega)).trans (o4 a y (by omega))) hsp3, fun a y q1 q2 => (hF a y (by omega)).trans ((o4 a y q1).trans (hF30 a y q1 q2))⟩ eJ.symm
          | succ v ihv =>
            intro l h hv hl hw hz hF
            have hC : fu_B B h := fs_B_f (fun x => (hF 260 x (by decide)).trans ((o4 260 x (by omega)).trans (hF30 260 x (by omega) (by omega)))) hC0
            refine kx_go 2 (pc' := 53) (L' := [(4, .inl (Int32.ofNat l)), (3, .inl (Int32.ofNat (fs_wo B D n L M c))), (2, .inl (Int32.ofNat k)), (1, .inl (Int32.ofNat N)), (0, .inr (.inr (.inl (some 259))))]) (S' := [.inr (.inr (.inl (some 259))), .inl (Int32.ofNat l)]) (h' := h) (by with_unfolding_all rfl) ?_
            refine kx_getf (c := 259) (v := .inr (.inr (.inl (some 260)))) rfl (by decide) (kx_ofr (hw _ _ _ fs_k259_0)) ?_
            refine kx_go 1 (pc' := 57) (L' := [(4, .inl (Int32.ofNat l)), (3, .inl (Int32.ofNat (fs_wo B D n L M c))), (2, .inl (Int32.ofNat k)), (1, .inl (Int32.ofNat N)), (0, .inr (.inr (.inl (some 259))))]) (S' := [.inl (Int32.ofNat 2), .inr (.inr (.inl (some 260))), .inl (Int32.ofNat l)]) (h' := h) (by with_unfolding_all rfl) ?_
            refine kx_iald (c := 260) (j := 2) (m := 650) (v := .inl (Int32.ofNat L)) rfl rfl (by decide) (by decide) (by omega) ((hC 2 (by decide) (by decide)).trans (by rw [eL])) ?_
            refine kx_go 1 (pc' := (if kc_cnd .ge (Int32.ofNat l).toInt (Int32.ofNat L).toInt then 81 else 61)) (L' := [(4, .inl (Int32.ofNat l)), (3, .inl (Int32.ofNat (fs_wo B D n L M c))), (2, .inl (Int32.ofNat k)), (1, .inl (Int32.ofNat N)), (0, .inr (.inr (.inl (some 259))))]) (S' := []) (h' := h) (by with_unfolding_all rfl) ?_
            rw [if_neg (fun q => by have := (kx_ge (by omega) (by omega)).mp q; omega)]
            have e72 : h 272 l = .inl (Int32.ofNat (c l)) := (hF 272 l (by omega)).trans ((o4 272 l (by omega)).trans (hcd3 l (by omega)))
            refine kx_go 1 (pc' := 62) (L' := [(4, .inl (Int32.ofNat l)), (3, .inl (Int32.ofNat (fs_wo B D n L M c))), (2, .inl (Int32.ofNat k)), (1, .inl (Int32.ofNat N)), (0, .inr (.inr (.inl (some 259))))]) (S' := [.inr (.inr (.inl (some 259)))]) (h' := h) (by with_unfolding_all rfl) ?_
            refine kx_getf (c := 259) (v := .inr (.inr (.inl (some 278)))) rfl (by decide) (kx_ofr (hw _ _ _ fs_k259_32)) ?_
            refine kx_go 2 (pc' := 68) (L' := [(4, .inl (Int32.ofNat l)), (3, .inl (Int32.ofNat (fs_wo B D n L M c))), (2, .inl (Int32.ofNat k)), (1, .inl (Int32.ofNat N)), (0, .inr (.inr (.inl (some 259))))]) (S' := [.inr (.inr (.inl (some 259))), .inl (Int32.ofNat l), .inr (.inr (.inl (some 278)))]) (h' := h) (by with_unfolding_all rfl) ?_
            refine kx_getf (c := 259) (v := .inr (.inr (.inl (some 272)))) rfl (by decide) (kx_ofr (hw _ _ _ fs_k259_26)) ?_
            refine kx_go 1 (pc' := 73) (L' := [(4, .inl (Int32.ofNat l)), (3, .inl (Int32.ofNat (fs_wo B D n L M c))), (2, .inl (Int32.ofNat k)), (1, .inl (Int32.ofNat N)), (0, .inr (.inr (.inl (some 259))))]) (S' := [.inl (Int32.ofNat l), .inr (.inr (.inl (some 272))), .inl (Int32.ofNat l), .inr (.inr (.inl (some 278)))]) (h' := h) (by with_unfolding_all rfl) ?_
            refine kx_iald (c := 272) (j := l) (m := 10) (v := .inl (Int32.ofNat (c l))) rfl rfl (by decide) (by decide) (by omega) e72 ?_
            refine kx_iast (c := 278) (j := l) (m := 10) rfl rfl (by decide) (by decide) (by omega) ?_
            refine kx_go 2 (pc' := 50) (L' := [(4, .inl ((Int32.ofNat l) + Int32.ofInt 1)), (3, .inl (Int32.ofNat (fs_wo B D n L M c))), (2, .inl (Int32.ofNat k)), (1, .inl (Int32.ofNat N)), (0, .inr (.inr (.inl (some 259))))]) (S' := []) (h' := (kc_upd h 278 l (.inl (Int32.ofNat (c l))))) (by with_unfolding_all rfl) ?_
            rw [kx_inc]
            refine ihv (l + 1) _ (by omega) (by omega) (fs_w1 (v := some (c l)) (fs_k273.2.2.2.2.2.2.1 l (by omega)) (fun k' q => by cases q; have := hc l (by omega); omega) (by decide) hw) (fun j hj => ?_) (fun a y ha => (fu_ne (fun q => ha q.1)).trans (hF a y ha))
            by_cases e : j = l
            · rw [e]; exact fu_eq
            · exact (fu_ne (fun q => e q.2)).trans (hz j (by omega))
        refine kx_go 2 (pc' := 50) (L' := [(4, .inl (Int32.ofNat 0)), (3, .inl (Int32.ofNat (fs_wo B D n L M c))), (2, .inl (Int32.ofNat k)), (1, .inl (Int32.ofNat N)), (0, .inr (.inr (.inl (some 259))))]) (S' := []) (h' := h4) (by with_unfolding_all rfl) ?_
        exact cpy L 0 h4 (by omega) (by omega) hw4 (fun j hj => by omega) (fun _ _ _ => rfl)
      · rw [if_pos ((kx_ge (by omega) (by omega)).mpr (by omega))]
        refine kf_lo (L := [(2, .inl (Int32.ofNat k)), (1, .inl (Int32.ofNat N)), (0, .inr (.inr (.inl (some 259))))]) (by intro q hq; simp only [List.mem_cons, List.not_mem_nil, or_false] at hq; rcases hq with rfl | rfl | rfl <;> rfl) ?_
        exact next S h3 R3 (by
          unfold ms_J ms_j
          rw [if_neg (fun q => cw q.2)])
set_option maxRecDepth 20000 in
theorem fs_r122 {g : kc_G} {d : Nat} {h0 : kc_H} {B : Nat → Int32} {D : Nat → Nat} {n L M N : Nat} {f : Nat → Nat} (hw0 : kd_wt kd_ty h0) (hg : kc_ok g) (hB : fu_BT B) (hC0 : fu_B B h0) (hn : n ≤ 5) (en : B 3 = Int32.ofNat n) (hL : L ≤ 10) (eL : B 2 = Int32.ofNat L) (hM : M ≤ 3) (eM : B 1 = Int32.ofNat M) (hN : N ≤ 5000) (hml : 0 < N → 0 < M ∨ L = 0) (hD : ∀ k, k < n → B (150 + k) = Int32.ofNat (D k)) (hl : ∀ k, D k < 6) (hdl : ∀ i j, i < n → j < n → D i = D j → i = j) (hf0 : ∀ l, l < L → h0 278 l = .inl (Int32.ofNat (f l))) : kc_Con g (d + 8) 122 [.inr (.inr (.inl (some 259))), .inl (Int32.ofNat N)] h0 (fun rv h' => rv = some (.inl (kp_b (decide ((ms_it (2 * M) L (ms_J (fs_bor B D n L M) (fs_wo B D n L M)) N ((fun _ => 0), (1000000, f))).2.1 < 1000000)))) ∧ ∃ c, fs_RS h0 (fs_F B D n) (fs_E B D n) (fs_co B D n) L M (c) ((ms_it (2 * M) L (ms_J (fs_bor B D n L M) (fs_wo B D n L M)) N ((fun _ => 0), (1000000, f))).2) h') := by
  refine kc_Con_new hg (M := wk_m122) rfl rfl rfl (show 2 ≤ 5 by decide) ?_
  refine kx_go 1 (pc' := 1) (L' := [(0, .inr (.inr (.inl (some 259)))), (1, .inl (Int32.ofNat N))]) (S' := [.inr (.inr (.inl (some 259)))]) (h' := h0) (by with_unfolding_all rfl) ?_
  refine kc_call_rule (M2 := wk_m105) (av := [.inr (.inr (.inl (some 259)))]) (r := []) rfl rfl (kc_Con_le (fs_r105 (d := d) (D := D) hw0 hg hB hC0 en eL hL hn hD hl hdl) (by omega)) (fun rv h2 hq => ?_)
  obtain ⟨rfl, hw2, hsp2, hF2⟩ := hq
  show kc_Ev g (d + 7) wk_m122 _ 4 [(0, .inr (.inr (.inl (some 259)))), (1, .inl (Int32.ofNat N))] [] h2
  have hC2 : fu_B B h2 := fs_B_f (fun x => hF2 260 x (by decide)) hC0
  refine kx_go 1 (pc' := 5) (L' := [(0, .inr (.inr (.inl (some 259)))), (1, .inl (Int32.ofNat N))]) (S' := [.inr (.inr (.inl (some 259)))]) (h' := h2) (by with_unfolding_all rfl) ?_
  refine kc_call_rule (M2 := wk_m123) (av := [.inr (.inr (.inl (some 259)))]) (r := []) rfl rfl (kc_Con_le (fs_r123 (d := d) hg hw2 hC2 hL eL) (by omega)) (fun rv h3 hq => ?_)
  obtain ⟨rfl, hw3, hz3, hF3⟩ := hq
  show kc_Ev g (d + 7) wk_m122 _ 8 [(0, .inr (.inr (.inl (some 259)))), (1, .inl (Int32.ofNat N))] [] h3
  refine kx_go 2 (pc' := 12) (L' := [(0, .inr (.inr (.inl (some 259)))), (1, .inl (Int32.ofNat N))]) (S' := [.inl (Int32.ofNat 1000000), .inr (.inr (.inl (some 259)))]) (h' := h3) (by with_unfolding_all rfl) ?_
  have hw4 : kd_wt kd_ty (kc_upd h3 259 33 (.inl (Int32.ofNat 1000000))) := fa_wa fs_k273.2.2.2.2.2.2.2 hw3
  refine kx_go 1 (pc' := 15) (L' := [(0, .inr (.inr (.inl (some 259)))), (1, .inl (Int32.ofNat N))]) (S' := []) (h' := (kc_upd h3 259 33 (.inl (Int32.ofNat 1000000)))) (by with_unfolding_all rfl) ?_
  refine kx_go 2 (pc' := 17) (L' := [(2, .inl (Int32.ofNat 0)), (0, .inr (.inr (.inl (some 259)))), (1, .inl (Int32.ofNat N))]) (S' := []) (h' := (kc_upd h3 259 33 (.inl (Int32.ofNat 1000000)))) (by with_unfolding_all rfl) ?_
  refine kf_lo (L := [(2, .inl (Int32.ofNat 0)), (1, .inl (Int32.ofNat N)), (0, .inr (.inr (.inl (some 259))))]) (by intro q hq; simp only [List.mem_cons, List.not_mem_nil, or_false] at hq; rcases hq with rfl | rfl | rfl <;> rfl) ?_
  refine fs_r122l (f := f) hg hB hC0 hn en hL eL hM eM hN hml N 0 _ (by omega) (by omega) ⟨hw4, fun l hl => (fu_ne (by omega)).trans (hz3 l hl), fun q l hl => by show 0 < 2 * M; omega, ⟨fu_eq, Nat.le_refl _⟩, fun l hl => (fu_ne (by omega)).trans ((hF3 278 l (by omega)).trans ((hF2 278 l (by omega)).trans (hf0 l hl))), fs_sp_f (fun a y q1 q2 => (fu_ne (by omega)).trans (hF3 a y (by omega))) hsp2, fun a y q1 q2 => (fu_ne q1).trans ((hF3 a y (by omega)).trans (hF2 a y (by omega)))⟩
theorem fs_anyn (x : Int32) : ∃ k : Nat, x = Int32.ofNat k := ⟨x.toInt.toNat + (if x.toInt < 0 then 0 else 0) + (if x.toInt < 0 then (x.toInt + 4294967296).toNat else 0), by
  by_cases c : x.toInt < 0
  · rw [if_pos c, if_pos c, show x.toInt.toNat = 0 by omega, Nat.zero_add]
    apply Int32.toInt_inj.mp
    rw [Int32.toInt_ofNat', Int.toNat_of_nonneg (by have := x.le_toInt; omega)]
    have h1 := x.le_toInt
    have h2 := x.toInt_lt
    rw [Int.bmod_def, show (Int32.size : Int) = 4294967296 from rfl]
    omega
  · rw [if_neg c, if_neg c, Nat.add_zero]
    apply Int32.toInt_inj.mp
    have h2 := x.toInt_lt
    rw [kx_ti (by omega)]
    omega⟩
/-- the rows' table, as far as it is used, told by numbers *or* by what stood there -/
theorem fs_fnd2 {h : kc_H} (hw : kd_wt kd_ty h) {c L : Nat} (hL : L ≤ 10) (hk : ∀ i, i < 10 → kd_rn (kd_ty c) i = some (0, 2147483647, 2147483648 + 5)) : ∃ f : Nat → Nat, ∀ j, j < L → h c j = .inl (Int32.ofNat (f j)) := by
  have hf : ∀ j, ∃ v : Nat, j < L → h c j = .inl (Int32.ofNat v) := fun j => by
    by_cases hj : j < L
    · obtain ⟨v, e, _⟩ := hw c j _ (hk j (by omega))
      obtain ⟨k, ek⟩ := fs_anyn v
      exact ⟨k, fun _ => by rw [e, ek]⟩
    · exact ⟨0, fun q => absurd q hj⟩
  obtain ⟨f, hf⟩ := Classical.axiomOfChoice hf
  exact ⟨f, hf⟩
set_option maxRecDepth 20000 in
theorem fs_r120t {g : kc_G} {d : Nat} {h : kc_H} {B : Nat → Int32} {n L M : Nat} {a : Int32} (hg : kc_ok g) (hw : kd_wt kd_ty h) (hC : fu_B B h) (hB : fu_BT B) (hn : n ≤ 5) (en : B 3 = Int32.ofNat n) (hM : M ≤ 3) (eM : B 1 = Int32.ofNat M) (hL : L ≤ 10) (eL : B 2 = Int32.ofNat L) (hdl : ∀ i j, i < n → j < n → fs_D B n i = fs_D B n j → i = j) (ha : a = Int32.ofInt (-1) ∨ ∃ l, l < L ∧ a = Int32.ofNat l) : kc_Ev g (d + 9) wk_m120 (fun rv h' => rv = some (.inl (fs_stv B (fs_D B n) n L M a)) ∧ kd_wt kd_ty h' ∧ ∀ a x, ¬ (a = 259 ∧ x = 33) → ¬ (272 ≤ a ∧ a ≤ 278) → h' a x = h a x) 16 [(0, .inr (.inr (.inl (some 259)))), (1, .inl (a))] [] h := by
  unfold fs_stv
  have b := fs_hn_b hM L
  refine kx_go 1 (pc' := 17) (L' := [(0, .inr (.inr (.inl (some 259)))), (1, .inl (a))]) (S' := [.inr (.inr (.inl (some 259)))]) (h' := h) (by with_unfolding_all rfl) ?_
  refine kc_call_rule (M2 := wk_m121) (av := [.inr (.inr (.inl (some 259)))]) (r := []) rfl rfl (kc_Con_le (fs_r121 (d := d) hg hw hC hM eM hL eL) (by omega)) (fun rv hcc hq => ?_)
  obtain ⟨rfl, e9⟩ := hq
  rw [e9]
  clear e9
  show kc_Ev g (d + 9) wk_m120 _ 20 [(0, .inr (.inr (.inl (some 259)))), (1, .inl (a))] [.inl (fs_hv M L)] h
  refine kx_go 4 (pc' := (if kc_cnd .ne (fs_hv M L).toInt (Int32.ofInt (-1)).toInt then 29 else 26)) (L' := [(2, .inl (fs_hv M L)), (0, .inr (.inr (.inl (some 259)))), (1, .inl (a))]) (S' := []) (h' := h) (by with_unfolding_all rfl) ?_
  by_cases c : 5000 < fs_hn M L
  · rw [show fs_hv M L = Int32.ofInt (-1) from if_pos c, if_neg kx_m2, if_pos c]
    refine kx_go 1 (pc' := 28) (L' := [(2, .inl (Int32.ofInt (-1))), (0, .inr (.inr (.inl (some 259)))), (1, .inl (a))]) (S' := [.inl (Int32.ofInt (-20))]) (h' := h) (by with_unfolding_all rfl) ?_
    exact kc_ret_ok rfl (rv := some (.inl (Int32.ofInt (-20)))) rfl ⟨rfl, hw, fun _ _ _ _ => rfl⟩
  · rw [show fs_hv M L = Int32.ofNat (fs_hn M L) from if_neg c, if_pos (kx_nm2 (by omega)), if_neg c]
    obtain ⟨f, hf⟩ := fs_fnd2 (c := 278) hw hL fs_k273.2.2.2.2.2.2.1
    have ep := fs_hn_pow L (show fs_hn M L ≤ 5000 by omega)
    have hml : 0 < fs_hn M L → 0 < M ∨ L = 0 := fun q => by
      rcases Nat.eq_zero_or_pos M with e | e
      · rw [ep, e] at q
        cases L with
        | zero => exact Or.inr rfl
        | succ L => rw [Nat.mul_zero, Nat.zero_pow (Nat.succ_pos L)] at q; omega
      · exact Or.inl e
    have h22 := fs_T_2 (B := B) (D := fs_D B n) (n := n) (L := L) (M := M) (v := 1000000) (f := f) (g := fun _ => 0)
    have eT : (ms_it (2 * M) L (ms_J (fs_bor B (fs_D B n) n L M) (fs_wo B (fs_D B n) n L M)) (fs_hn M L) ((fun _ => 0), (1000000, f))).2 = fs_T B (fs_D B n) n L M 1000000 f := by
      rw [ep]
      exact ms_it_all
    have H122 := fs_r122 (g := g) (d := d) (D := fs_D B n) (f := f) hw hg hB hC hn en hL eL hM eM (show fs_hn M L ≤ 5000 by omega) hml (fun k hk => fs_Dv hB hn hk) (fun k => fs_Dl hB hn k) hdl hf
    rw [eT] at H122
    refine kx_go 2 (pc' := 31) (L' := [(2, .inl (Int32.ofNat (fs_hn M L))), (0, .inr (.inr (.inl (some 259)))), (1, .inl (a))]) (S' := [.inl (Int32.ofNat (fs_hn M L)), .inr (.inr (.inl (some 259)))]) (h' := h) (by with_unfolding_all rfl) ?_
    refine kc_call_rule (M2 := wk_m122) (av := [.inr (.inr (.inl (some 259))), .inl (Int32.ofNat (fs_hn M L))]) (r := []) rfl rfl (kc_Con_le (H122) (by omega)) (fun rv h2 hq => ?_)
    obtain ⟨rfl, c9, hR⟩ := hq
    show kc_Ev g (d + 9) wk_m120 _ 34 [(2, .inl (Int32.ofNat (fs_hn M L))), (0, .inr (.inr (.inl (some 259)))), (1, .inl (a))] [.inl (kp_b (decide ((fs_T B (fs_D B n) n L M 1000000 f).1 < 1000000)))] h2
    have hw2 := hR.1
    have hF2 := hR.2.2.2.2.2.2
    have e33 := hR.2.2.2.1.1
    have hfo := hR.2.2.2.2.1
    refine kx_go 1 (pc' := (if kc_cnd .ne (kp_b (decide ((fs_T B (fs_D B n) n L M 1000000 f).1 < 1000000))).toInt 0 then 42 else 37)) (L' := [(2, .inl (Int32.ofNat (fs_hn M L))), (0, .inr (.inr (.inl (some 259)))), (1, .inl (a))]) (S' := []) (h' := h2) (by with_unfolding_all rfl) ?_
    rw [← h22.1]
    by_cases c2 : (fs_T B (fs_D B n) n L M 1000000 f).1 < 1000000
    · rw [decide_eq_true c2, if_pos (kx_b1.mpr rfl), if_pos c2, ← h22.2 c2]
      refine kx_go 3 (pc' := (if kc_cnd .ne (a).toInt (Int32.ofInt (-1)).toInt then 54 else 47)) (L' := [(2, .inl (Int32.ofNat (fs_hn M L))), (0, .inr (.inr (.inl (some 259)))), (1, .inl (a))]) (S' := []) (h' := h2) (by with_unfolding_all rfl) ?_
      rcases ha with ha | ⟨l, hll, ha⟩
      · subst ha
        rw [if_neg kx_m2, if_pos rfl]
        refine kx_go 1 (pc' := 48) (L' := [(2, .inl (Int32.ofNat (fs_hn M L))), (0, .inr (.inr (.inl (some 259)))), (1, .inl (Int32.ofInt (-1)))]) (S' := [.inr (.inr (.inl (some 259)))]) (h' := h2) (by with_unfolding_all rfl) ?_
        refine kx_getf (c := 259) (v := .inl (Int32.ofNat (fs_T B (fs_D B n) n L M 1000000 f).1)) rfl (by decide) e33 ?_
        refine kx_go 1 (pc' := 60) (L' := [(2, .inl (Int32.ofNat (fs_hn M L))), (0, .inr (.inr (.inl (some 259)))), (1, .inl (Int32.ofInt (-1)))]) (S' := [.inl (Int32.ofNat (fs_T B (fs_D B n) n L M 1000000 f).1)]) (h' := h2) (by with_unfolding_all rfl) ?_
        exact kc_ret_ok rfl (rv := some (.inl (Int32.ofNat (fs_T B (fs_D B n) n L M 1000000 f).1))) rfl ⟨rfl, hw2, hF2⟩
      · subst ha
        rw [if_pos (kx_nm2 (by omega)), if_neg (fun q => by have := congrArg Int32.toInt q; rw [kx_ti (by omega), show (Int32.ofInt (-1)).toInt = -1 by decide] at this; omega), kx_ti (show l < 2147483648 by omega), Int.toNat_natCast]
        refine kx_go 1 (pc' := 55) (L' := [(2, .inl (Int32.ofNat (fs_hn M L))), (0, .inr (.inr (.inl (some 259)))), (1, .inl (Int32.ofNat l))]) (S' := [.inr (.inr (.inl (some 259)))]) (h' := h2) (by with_unfolding_all rfl) ?_
        refine kx_getf (c := 259) (v := .inr (.inr (.inl (some 278)))) rfl (by decide) (kx_ofr (hw2 _ _ _ fs_k259_32)) ?_
        refine kx_go 1 (pc' := 59) (L' := [(2, .inl (Int32.ofNat (fs_hn M L))), (0, .inr (.inr (.inl (some 259)))), (1, .inl (Int32.ofNat l))]) (S' := [.inl (Int32.ofNat l), .inr (.inr (.inl (some 278)))]) (h' := h2) (by with_unfolding_all rfl) ?_
        refine kx_iald (c := 278) (j := l) (m := 10) (v := .inl (Int32.ofNat ((fs_T B (fs_D B n) n L M 1000000 f).2 l))) rfl rfl (by decide) (by decide) (by omega) (hfo l hll) ?_
        exact kc_ret_ok rfl (rv := some (.inl (Int32.ofNat ((fs_T B (fs_D B n) n L M 1000000 f).2 l)))) rfl ⟨rfl, hw2, hF2⟩
    · rw [decide_eq_false c2, if_neg (show ¬ (kc_cnd .ne (kp_b false).toInt 0 = true) from fun q => by have := kx_b1.mp q; cases this), if_neg c2]
      refine kx_go 2 (pc' := 60) (L' := [(2, .inl (Int32.ofNat (fs_hn M L))), (0, .inr (.inr (.inl (some 259)))), (1, .inl (a))]) (S' := [.inl (Int32.ofInt (-5))]) (h' := h2) (by with_unfolding_all rfl) ?_
      exact kc_ret_ok rfl (rv := some (.inl (Int32.ofInt (-5)))) rfl ⟨rfl, hw2, hF2⟩
set_option maxRecDepth 20000 in
theorem fs_r120 {g : kc_G} {d : Nat} {h : kc_H} {B : Nat → Int32} {n L M : Nat} {a : Int32} (hg : kc_ok g) (hw : kd_wt kd_ty h) (hC : fu_B B h) (hB : fu_BT B) (hn : n ≤ 5) (en : B 3 = Int32.ofNat n) (hM : M ≤ 3) (eM : B 1 = Int32.ofNat M) (hL : L ≤ 10) (eL : B 2 = Int32.ofNat L) (hdl : ∀ i j, i < n → j < n → fs_D B n i = fs_D B n j → i = j) : kc_Con g (d + 10) 120 [.inr (.inr (.inl (some 259))), .inl a] h (fun rv h' => rv = some (.inl (fs_stays B (fs_D B n) n L M a)) ∧ kd_wt kd_ty h' ∧ ∀ a x, ¬ (a = 259 ∧ x = 33) → ¬ (272 ≤ a ∧ a ≤ 278) → h' a x = h a x) := by
  have z2 : (B 2).toInt - 1 = (L : Int) - 1 := by rw [eL, kx_ti (by omega)]
  unfold fs_stays
  refine kc_Con_new hg (M := wk_m120) rfl rfl rfl (show 2 ≤ 3 by decide) ?_
  refine kx_go 3 (pc' := (if kc_cnd .eq (a).toInt (Int32.ofInt (-1)).toInt then 16 else 5)) (L' := [(0, .inr (.inr (.inl (some 259)))), (1, .inl (a))]) (S' := []) (h' := h) (by with_unfolding_all rfl) ?_
  by_cases e : a = Int32.ofInt (-1)
  · rw [if_pos (fu_ieq.mpr (by rw [e])), if_pos (Or.inl e)]
    exact fs_r120t hg hw hC hB hn en hM eM hL eL hdl (Or.inl e)
  · rw [if_neg (fun q => fs_m1n e (fu_ieq.mp q))]
    refine kx_go 2 (pc' := 7) (L' := [(0, .inr (.inr (.inl (some 259)))), (1, .inl (a))]) (S' := [.inl (a), .inr (.inr (.inl (some 259)))]) (h' := h) (by with_unfolding_all rfl) ?_
    refine kc_call_rule (M2 := wk_m48) (av := [.inr (.inr (.inl (some 259))), .inl (a)]) (r := []) rfl rfl (kc_Con_le (fu_r48 (d := 0) hg hw hC hB) (by omega)) (fun rv hcc hq => ?_)
    obtain ⟨rfl, e9⟩ := hq
    rw [e9]
    clear e9
    show kc_Ev g (d + 9) wk_m120 _ 10 [(0, .inr (.inr (.inl (some 259)))), (1, .inl (a))] [.inl (kp_b (fu_in a 0 ((B 2).toInt - 1)))] h
    refine kx_go 1 (pc' := (if kc_cnd .ne (kp_b (fu_in a 0 ((B 2).toInt - 1))).toInt 0 then 16 else 13)) (L' := [(0, .inr (.inr (.inl (some 259)))), (1, .inl (a))]) (S' := []) (h' := h) (by with_unfolding_all rfl) ?_
    rw [z2]
    cases e2 : fu_in a 0 ((L : Int) - 1) with
    | false =>
      rw [if_neg (show ¬ (kc_cnd .ne (kp_b false).toInt 0 = true) from fun q => by have := kx_b1.mp q; cases this), if_neg (fun q => q.elim e (fun q => by cases q))]
      refine kx_go 1 (pc' := 15) (L' := [(0, .inr (.inr (.inl (some 259)))), (1, .inl (a))]) (S' := [.inl (Int32.ofInt (-10))]) (h' := h) (by with_unfolding_all rfl) ?_
      exact kc_ret_ok rfl (rv := some (.inl (Int32.ofInt (-10)))) rfl ⟨rfl, hw, fun _ _ _ _ => rfl⟩
    | true =>
      rw [if_pos (kx_b1.mpr rfl), if_pos (Or.inr rfl)]
      obtain ⟨l, hl9, el, -, hl⟩ := fu_in_n (u := 9) e2 (Int.le_refl 0) (by omega)
      exact fs_r120t hg hw hC hB hn en hM eM hL eL hdl (Or.inr ⟨l, by omega, el⟩)
/-- the lined doors are different ones -/
theorem fs_dis {B : Nat → Int32} {h : kc_H} {n : Nat} (hB : fu_BT B) (hC : fu_B B h) (hn : n ≤ 5) (en : B 3 = Int32.ofNat n) (hI : kI h 260 0) : (∀ i j, i < n → j < n → fs_D B n i = fs_D B n j → i = j) ∧ ∀ i, i < n → 1 ≤ fs_D B n i := by
  obtain ⟨n', l, h1, h2, h3, h4⟩ := hI
  have e3 := (hC 3 (by decide) (by decide)).symm.trans h2
  rw [en] at e3
  have e4 := congrArg Int32.toInt (Sum.inl.inj e3)
  rw [kx_ti (by omega), kx_ti (by omega)] at e4
  have e5 : n' = n := by omega
  rw [e5] at h3 h4
  have el : ∀ i, i < n → fs_D B n i = l i := fun i hi => by
    have q := (hC (150 + i) (by omega) (fu_fli i (by omega)).2.1).symm.trans ((by rw [Nat.zero_add] : h 260 (150 + i) = h 260 (0 + 150 + i)).trans (h3 i hi).2.2)
    rw [fs_Dv hB hn hi] at q
    have q2 := congrArg Int32.toInt (Sum.inl.inj q)
    have := fs_Dl hB hn i
    have := (h3 i hi).2.1
    rw [kx_ti (by omega), kx_ti (by omega)] at q2
    omega
  refine ⟨fun i j hi hj e => ?_, fun i hi => by rw [el i hi]; exact (h3 i hi).1⟩
  rw [el i hi, el j hj] at e
  rcases Nat.lt_trichotomy i j with q | q | q
  · exact absurd e (h4 i j q hj)
  · exact q
  · exact absurd e.symm (h4 j i q hi)
theorem fs_keep {h h' : kc_H} (hI : fu_I h) (hw : kd_wt kd_ty h') (e : ∀ c x, ¬ (204 ≤ c ∧ c ≤ 252) → ¬ (264 ≤ c ∧ c ≤ 288) → ¬ c = 259 → h' c x = h c x) : fu_I h' := by
  obtain ⟨B, hC, hR⟩ := hI.2.1
  exact fu_now hI hw ⟨B, fun j hj ht => (e _ _ (by have := fs_p31 j hj; omega) (by have := fs_p31 j hj; omega) (by have := fs_p31 j hj; omega)).trans (hC j hj ht), fun j hj ht => (e 260 _ (by decide) (by decide) (by decide)).trans (hR j hj ht)⟩ (fun c i c1 c2 => e c i (by omega) (by omega) (by omega)) (fun c i q => e c i (by omega) (by omega) (by omega)) (kI_eq (e 260 _ (by decide) (by decide) (by decide)) (fun i _ => e 260 _ (by decide) (by decide) (by decide)) hI.2.2.2.2.2.1)
theorem fU_Xstays {g : kc_G} {h : kc_H} {a : Int32} (hg : kc_ok g) (hI : fu_I h) : kc_Con g 30 114 [.inr (.inr (.inl (some 0))), .inl a] h (fun rv h1 => ∃ z : Int32, rv = some (.inl z) ∧ kc_Con g 30 120 [.inr (.inr (.inl (some 259))), .inl a] h1 (fun rv2 h2 => rv2 = some (.inl z) ∧ fu_I h2)) := by
  obtain ⟨B, hC, hR⟩ := hI.2.1
  have hB := fu_C_T hI.1 hC
  obtain ⟨n, hn, en⟩ := fu_n3 hB
  obtain ⟨M, hM, eM⟩ := fu_n1 hB
  obtain ⟨L, hL, eL⟩ := fu_n2 hB
  have hdl := (fs_dis hB hR hn en hI.2.2.2.2.2.1).1
  refine kc_Con_mono (kc_Con_le (fs_c114 (d := 0) hg hI.1 hC hB hn en hM eM hL eL) (by decide)) (fun rv h1 hq => ?_)
  obtain ⟨rfl, w1, f1⟩ := hq
  have R1 : fu_B B h1 := fun j hj ht => (f1 260 j (by omega)).trans (hR j hj ht)
  refine ⟨_, rfl, kc_Con_mono (kc_Con_le (fs_r120 (d := 0) hg w1 R1 hB hn en hM eM hL eL hdl) (by decide)) (fun rv2 h2 hq => ?_)⟩
  obtain ⟨rfl, w2, f2⟩ := hq
  exact ⟨rfl, fs_keep hI w2 (fun c x q1 q2 q3 => (f2 c x (fun q => q3 q.1) (by omega)).trans (f1 c x (by omega)))⟩
end
section
-- 99.zr
/-! ===== the law's body: cells have been made ===== -/
def kL_Ev (g : kc_G) (M : wk_M) (p : Program) (e : Env) (R : Room) (s : State) (m : MethodId) (args : Array Value) (below : List Frame) (meth : Method) (c : Code) (as : List Nat) (nc ns : Nat) (Z : State → Prop) (pc : Nat) (AL : kc_L) (AS : List kc_V) (h : kc_H) : Prop :=
  ∀ (H : Heap) (locs : List Loc) (ws : va_W) (ls : Array Slot) (lv : List (Nat × Value)) (st : List Value), va_S (kc_gA g) s.heap H locs → wk_hr (kc_gD g) (kc_gA g) s as (kc_gz g) (kc_gs g) (kc_A h) ws H → lv_has ls (wk_Ml M) lv → wk_f2 (wk_rl as (kc_gz g) (kc_gs g)) (kc_el AL) lv → wk_f2 (wk_r as (kc_gz g) (kc_gs g)) (AS.map kc_e) st → W p g.1 e R s m args below meth c H locs nc ns Z (F0 m pc ls st)
section KLE
variable {g : kc_G} {d : Nat} {M : wk_M} {p : Program} {e : Env} {R : Room} {s : State} {m : MethodId} {args : Array Value} {below : List Frame} {meth : Method} {c : Code} {as : List Nat} {nc ns : Nat} {Z : State → Prop} {pc : Nat} {AL : kc_L} {AS : List kc_V} {h : kc_H} {i : Instr} {n : Nat} {x : Nat × Nat × Int} {wd : List Nat} {t : Nat} {a : Int}
set_option maxHeartbeats 1000000 in
theorem kL_pure (hF : kc_fix g d M p R s m args meth c) (hf : wk_fetch M pc = some (pc, i, n, x, wd, t, a)) {P : kc_P} (hp : kc_pure (wk_Ml M) i x.2.2 pc AL AS = some P) (k : kL_Ev g M p e R s m args below meth c as nc ns Z P.1 P.2.1 P.2.2 h) : kL_Ev g M p e R s m args below meth c as nc ns Z pc AL AS h := by
  intro H locs ws ls lv st hS hr hl ha hs
  obtain ⟨hd, hlk, hw, hot, hoc⟩ := kc_row hF hf
  have C := hF.1
  obtain ⟨hx, hb, hml, hown, hts, hK, hA, hname, hX, hz, hzA, hLz⟩ := id C
  have hc1 : ∀ idx, i = .ldc idx ∨ i = .ldc_w idx → (Jvm.Cond.constant (wk_My M).cls idx (Int32.ofInt x.2.2)).before args s = true := by
    intro idx hi
    rcases hi with rfl | rfl
    · match wd, hw with
      | [q1], hw => exact hts _ (wk_has_in hw)
      | [], hw => cases hw
      | _ :: _ :: _, hw => cases hw
    · match wd, hw with
      | [q1], hw => exact hts _ (wk_has_in hw)
      | [], hw => cases hw
      | _ :: _ :: _, hw => cases hw
  have hc2 : ∀ idx, i = .ldc2_w idx → (Jvm.Cond.constantLong (wk_My M).cls idx (Int64.ofInt x.2.2)).before args s = true := by
    rintro idx rfl
    match wd, hw with
    | [q1], hw => exact hts _ (wk_has_in hw)
    | [], hw => cases hw
    | _ :: _ :: _, hw => cases hw
  have hbx : wk_bx (fun _ => 0) ([] : wk_I) := fun j q hj => by simp at hj
  exact wk_pure_ok (ρ := fun _ => 0) (iv := []) hx hb hown hd hlk hc1 hc2 hbx (by decide) (kc_pure_e hp) hl (kc_rhoL ha) (kc_rhoS hs) (fun ls' lv' st' hl' ha' hs' => k H locs ws ls' lv' st' hS hr hl' (kc_rhoL ha') (kc_rhoS hs'))
theorem kL_hp (hF : kc_fix g d M p R s m args meth c) (hnc : nc ≤ R.cells) (hns : ns ≤ R.slots) (hf : wk_fetch M pc = some (pc, i, n, x, wd, t, a)) {dd : Nat} {AS2 : List wk_V} (hp : wk_hp (kc_gL g) [] i x (AS.map kc_e) (kc_A h) = some (dd, AS2, none, [], 0, 0)) {AS' : List kc_V}
    (hA2 : ∀ st : List Value, wk_f2 (wk_r as (kc_gz g) (kc_gs g)) AS2 st → wk_f2 (wk_r as (kc_gz g) (kc_gs g)) (AS'.map kc_e) st) (k : kL_Ev g M p e R s m args below meth c as nc ns Z (pc + dd) AL AS' h) : kL_Ev g M p e R s m args below meth c as nc ns Z pc AL AS h := by
  intro H locs ws ls lv st hS hr hl ha hs
  obtain ⟨hd, hlk, hw, hot, hoc⟩ := kc_row hF hf
  have hbx : wk_bx (kc_gs g) ([] : wk_I) := fun j q hj => by simp at hj
  refine wk_hp_ok hF.1 hbx hd hlk hw hp hl (Nat.le_trans (by omega) hF.2.2.2.1) (Nat.le_trans (by omega) hF.2.2.2.2.1) rfl (by omega) (by omega) hr hS hs (fun H' locs' more ws' st' hS' hr' hs' hsame => ?_)
  have hmore : more = [] := kc_same hr hr' rfl
  subst hmore
  rw [List.append_nil] at hr' hs'
  exact k H' locs' ws' ls lv st' hS' hr' hl ha (hA2 st' hs')
theorem kL_call (hF : kc_fix g d M p R s m args meth c) (hnc : nc ≤ R.cells) (hns : ns ≤ R.slots) (hf : wk_fetch M pc = some (pc, i, n, x, wd, t, a)) {M2 : wk_M} {av r : List kc_V} {Q2 : Option kc_V → kc_H → Prop} (hc : kc_cl i x AS = some (M2, av, r)) (hCon : kc_Con g d x.2.1 av h Q2) (k : ∀ rv h', Q2 rv h' → kL_Ev g M p e R s m args below meth c as nc ns Z (pc + 3) AL (rv.toList ++ r) h') : kL_Ev g M p e R s m args below meth c as nc ns Z pc AL AS h := by
  intro H locs ws ls lv st hS hr hl ha hs
  obtain ⟨hd, hlk, hw, hot, hoc⟩ := kc_row hF hf
  obtain ⟨M3, m1, m2, m3, d2, hd2, hMet⟩ := hCon
  cases (kc_cl_m hc).symm.trans m1
  have key := kc_call_ok (l := g.1) (e := e) (R := R) (below := below) (cells := nc) (slots := ns) (Q := Z) (d := d2) (B := kc_Bq g Q2 as) (AH := kc_A h) hF.1 wk_mt_ok hd hlk hw hoc (kc_cl_e hc) hl (fun vals hv => by rw [m2, m3]; exact hMet as ws vals hv) (by have := hF.2.2.2.1; omega) (by have := hF.2.2.2.2.1; omega) (by rw [m2]; exact hnc) (by rw [m3]; exact hns) hr hS hs
  rw [m2, m3] at key
  refine key (fun rx t locs1 rest hrest hB hal hS1 => ?_)
  obtain ⟨rv, h1, ws1, q1, q2, q3⟩ := hB
  refine k rv h1 q1 t.heap locs1 ws1 ls lv _ hS1 (wk_hr_moved hal q3) hl ha ?_
  cases rv with
  | none =>
    cases rx with
    | none => exact hrest
    | some _ => exact q2.elim
  | some v =>
    cases rx with
    | none => exact q2.elim
    | some xv => exact ⟨q2, hrest⟩
theorem kL_pop2 (hF : kc_fix g d M p R s m args meth c) {y : Int64} (hd : decode (wk_Mb M) pc = .ok (.pop2, 1)) (k : kL_Ev g M p e R s m args below meth c as nc ns Z (pc + 1) AL AS h) : kL_Ev g M p e R s m args below meth c as nc ns Z pc AL (.inr (.inl y) :: AS) h := by
  intro H locs ws ls lv st hS hr hl ha hs
  obtain ⟨hx, hb, hml, hown, hts, hK, hA, hname, hX, hz, hzA, hLz⟩ := hF.1
  obtain ⟨y1, st0, rfl, hj1, hs0⟩ := wk_f2_cons hs
  obtain ⟨j1, rfl, a1, a2⟩ := hj1
  exact lv_pop2_2 hx hb hd rfl (k H locs ws ls lv _ hS hr hl ha hs0)
theorem kL_sc (hF : kc_fix g d M p R s m args meth c) (hnc : nc ≤ R.cells) (hns : ns ≤ R.slots) {j : Nat} (hf : wk_fetch M pc = some (pc, .iaload, n, x, wd, t, a)) (hj : j < kc_gL g) (hL : kc_gL g < 2147483648) (k : kL_Ev g M p e R s m args below meth c as nc ns Z (pc + 1) AL (.inl (kc_gs g j) :: AS) h) : kL_Ev g M p e R s m args below meth c as nc ns Z pc AL (.inl (Int32.ofNat j) :: .inr (.inr (.inr 0)) :: AS) h := by
  obtain ⟨h1, h2⟩ := kc_ix_e (kx_ix hL hj)
  refine kL_hp hF hnc hns hf (dd := 1) (AS2 := .inr (.inr (.inr (0, j))) :: AS.map kc_e) ?_ (AS' := .inl (kc_gs g j) :: AS) (fun st hst => ?_) k
  · show wk_ild (kc_gL g) [] (kc_e (.inl (Int32.ofNat j))) (.inr (.inr (.inr (2, 0)))) (AS.map kc_e) (kc_A h) = _
    unfold wk_ild
    rw [h1]
    simp only [wk_scr, cond_true, kc_blt h2]
    rfl
  · obtain ⟨y0, st1, rfl, hv, hs1⟩ := wk_f2_cons hst
    have hv : y0 = .int (kc_gs g j) := hv
    subst hv
    exact ⟨⟨_, rfl, Int.le_refl _, Int.le_refl _⟩, hs1⟩
theorem kL_len (hF : kc_fix g d M p R s m args meth c) (hnc : nc ≤ R.cells) (hns : ns ≤ R.slots) (hf : wk_fetch M pc = some (pc, .arraylength, n, x, wd, t, a)) (k : kL_Ev g M p e R s m args below meth c as nc ns Z (pc + 1) AL (.inl (Int32.ofNat (kc_gL g)) :: AS) h) : kL_Ev g M p e R s m args below meth c as nc ns Z pc AL (.inr (.inr (.inr 0)) :: AS) h := by
  refine kL_hp hF hnc hns hf (dd := 1) (AS2 := wk_sI (Int32.ofNat (kc_gL g)) :: AS.map kc_e) ?_ (AS' := .inl (Int32.ofNat (kc_gL g)) :: AS) (fun st hst => hst) k
  show wk_aln (kc_gL g) (.inr (.inr (.inr (2, 0)))) (AS.map kc_e) (kc_A h) = _
  rfl
theorem kL_lo {L : kc_L} (hs : ∀ q ∈ L, kc_get AL q.1 = some q.2) (k : kL_Ev g M p e R s m args below meth c as nc ns Z pc L AS h) : kL_Ev g M p e R s m args below meth c as nc ns Z pc AL AS h := by
  intro H locs ws ls lv st hS hr hl ha hst
  obtain ⟨lv2, h1, h2⟩ := kf_sub_f2 ha L hs
  exact k H locs ws ls lv2 st hS hr ⟨hl.1, hl.2.1, fun q hq => hl.2.2 q (h2 q hq)⟩ h1 hst
def kL_one (M : wk_M) (pc : Nat) (L : kc_L) (S : List kc_V) : Option kc_P := match wk_fetch M pc with
  | some (pc0, i, _, x, _, _, _) => if pc0 = pc then kc_pure (wk_Ml M) i x.2.2 pc L S else none
  | none => none
def kL_run (M : wk_M) : Nat → Nat → kc_L → List kc_V → Option kc_P
  | 0, pc, L, S => some (pc, L, S)
  | n + 1, pc, L, S => match kL_one M pc L S with
    | some (pc', L', S') => kL_run M n pc' L' S'
    | none => none
theorem kL_one_r (hF : kc_fix g d M p R s m args meth c) {P : kc_P} (e0 : kL_one M pc AL AS = some P) (k : kL_Ev g M p e R s m args below meth c as nc ns Z P.1 P.2.1 P.2.2 h) : kL_Ev g M p e R s m args below meth c as nc ns Z pc AL AS h := by
  unfold kL_one at e0
  split at e0
  · rename_i pc0 i n x wd t a hf
    split at e0
    · rename_i hpc
      subst hpc
      exact kL_pure hF hf e0 k
    · cases e0
  · cases e0
end KLE
theorem kL_go {g : kc_G} {d : Nat} {M : wk_M} {p : Program} {e : Env} {R : Room} {s : State} {m : MethodId} {args : Array Value} {below : List Frame} {meth : Method} {c : Code} {as : List Nat} {nc ns : Nat} {Z : State → Prop} {h : kc_H} (hF : kc_fix g d M p R s m args meth c) : ∀ (n : Nat) {pc pc' : Nat} {L L' : kc_L} {S S' : List kc_V}, kL_run M n pc L S = some (pc', L', S') → kL_Ev g M p e R s m args below meth c as nc ns Z pc' L' S' h → kL_Ev g M p e R s m args below meth c as nc ns Z pc L S h
  | 0, _, _, _, _, _, _, e0, k => by cases e0; exact k
  | n + 1, pc, pc', L, L', S, S', e0, k => by
    have e0 : (match kL_one M pc L S with
      | some (pc', L', S') => kL_run M n pc' L' S'
      | none => none) = some (pc', L', S') := e0
    cases h1 : kL_one M pc L S with
    | none => rw [h1] at e0; cases e0
    | some q =>
      obtain ⟨p1, L1, S1⟩ := q
      rw [h1] at e0
      exact kL_one_r hF h1 (kL_go hF n e0 k)
theorem kL_ret {g : kc_G} {d : Nat} {M : wk_M} {p : Program} {e : Env} {R : Room} {s : State} {m : MethodId} {args : Array Value} {below : List Frame} {meth : Method} {c : Code} {as : List Nat} {nc ns : Nat} {h : kc_H} {pc : Nat} {AL : kc_L} {n : Nat} {x : Nat × Nat × Int} {wd : List Nat} {t : Nat} {a : Int} (hF : kc_fix g d M p R s m args meth c) (hf : wk_fetch M pc = some (pc, .ireturn, n, x, wd, t, a)) (hm : wk_Mr M = some .boolean) : kL_Ev g M p e R s m args below meth c as nc ns (MQ below (kc_B (fun rx _ => rx = some (.int 1)) (kc_gA g)) args s nc ns (kc_gA g)) pc AL [.inl (Int32.ofNat 1)] h := by
  intro H locs ws ls lv st hS hr hl ha hs
  obtain ⟨hd, hlk, hw, hot, hoc⟩ := kc_row hF hf
  obtain ⟨⟨hx, hb, -⟩, hret, hlocks, -⟩ := hF
  obtain ⟨y0, st1, rfl, hv, hs1⟩ := wk_f2_cons hs
  have := wk_f2_nil hs1
  subst this
  obtain ⟨i0, rfl, a1, a2⟩ := hv
  have e1 : i0 = 1 := Int32.toInt_inj.mp (by
    have : (Int32.ofNat 1).toInt = (1 : Int32).toInt := by decide
    simp only at a1 a2
    omega)
  subst e1
  obtain rfl := Nat.eq_of_beq_eq_true hlk
  exact W.zret hx hb (hret.trans hm) rfl (fun t ht hW => ⟨⟨_, rfl, rfl⟩, hS.F ht⟩) hS.2.2 hd hlocks
end
