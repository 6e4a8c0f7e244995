section
-- 99.zqb
/-! ===== the search, reference: STAYS ===== -/
theorem ms_it_all {Q L : Nat} {J : (Nat → Nat) → ms_S → ms_S} {s : ms_S} : (ms_it Q L J (Q ^ L) ((fun _ => 0), s)).2 = ms_tree Q J L 0 (fun _ => 0) s := by
  by_cases h : 0 < Q
  · rw [ms_it_tree h L 0 (fun _ => 0) s (by omega) (fun j _ _ => rfl)]
  · obtain rfl : Q = 0 := by omega
    cases L with
    | zero => rfl
    | succ L =>
      rw [Nat.zero_pow (Nat.succ_pos L)]
      rfl
def fs_RS (h0 : kc_H) (F E : Nat → Nat) (co : Nat → Bool) (L M : Nat) (c : Nat → Nat) (S : ms_S) (h : kc_H) : Prop := kd_wt kd_ty h ∧ (∀ l, l < L → h 272 l = .inl (Int32.ofNat (c l))) ∧ (0 < M → ∀ l, l < L → c l < 2 * M) ∧ (h 259 33 = .inl (Int32.ofNat S.1) ∧ S.1 ≤ 1000000) ∧ (∀ l, l < L → h 278 l = .inl (Int32.ofNat (S.2 l))) ∧ fs_sp F E co L h ∧ ∀ a x, ¬ (a = 259 ∧ x = 33) → ¬ (272 ≤ a ∧ a ≤ 278) → h a x = h0 a x
theorem fs_RS_x {h0 : kc_H} {F E : Nat → Nat} {co : Nat → Bool} {L M : Nat} {c : Nat → Nat} {S : ms_S} {h h2 : kc_H} (hw2 : kd_wt kd_ty h2) (hF : fs_rx h h2) (hR : fs_RS h0 F E co L M c S h) : fs_RS h0 F E co L M c S h2 := by
  obtain ⟨hw, hcd, hc6, hb, hf, hsp, hF0⟩ := hR
  exact ⟨hw2, fun l hl => (hF _ _ (by decide)).trans (hcd l hl), hc6, ⟨(hF _ _ (by decide)).trans hb.1, hb.2⟩, fun l hl => (hF _ _ (by decide)).trans (hf l hl), fs_sp_f (fun a y q1 q2 => hF a y (by omega)) hsp, fun a y q1 q2 => (hF a y (by omega)).trans (hF0 a y q1 q2)⟩
def fs_hv (M L : Nat) : Int32 := if 5000 < fs_hn M L then Int32.ofInt (-1) else Int32.ofNat (fs_hn M L)
set_option maxRecDepth 20000 in
theorem fs_r121l {g : kc_G} {d : Nat} {h : kc_H} {B : Nat → Int32} {L M : Nat} (hw : kd_wt kd_ty h) (hC : fu_B B h) (hM : M ≤ 3) (eM : B 1 = Int32.ofNat M) (hL : L ≤ 10) (eL : B 2 = Int32.ofNat L) : ∀ u l : Nat, L - l = u → l ≤ L → kc_Ev g d wk_m121 (fun rv h' => rv = some (.inl (fs_hv M L)) ∧ h' = h) 4 [(2, .inl (Int32.ofNat l)), (1, .inl (Int32.ofNat (fs_hn M l))), (0, .inr (.inr (.inl (some 259))))] [] h := by
  intro u
  induction u with
  | zero =>
    intro l hu hl
    have b := fs_hn_b hM l
    refine kx_go 2 (pc' := 6) (L' := [(2, .inl (Int32.ofNat l)), (1, .inl (Int32.ofNat (fs_hn M l))), (0, .inr (.inr (.inl (some 259))))]) (S' := [.inr (.inr (.inl (some 259))), .inl (Int32.ofNat l)]) (h' := h) (by with_unfolding_all rfl) ?_
    refine kx_getf (c := 259) (v := .inr (.inr (.inl (some 260)))) rfl (by decide) (kx_ofr (hw _ _ _ fs_k259_0)) ?_
    refine kx_go 1 (pc' := 10) (L' := [(2, .inl (Int32.ofNat l)), (1, .inl (Int32.ofNat (fs_hn M l))), (0, .inr (.inr (.inl (some 259))))]) (S' := [.inl (Int32.ofNat 2), .inr (.inr (.inl (some 260))), .inl (Int32.ofNat l)]) (h' := h) (by with_unfolding_all rfl) ?_
    refine kx_iald (c := 260) (j := 2) (m := 650) (v := .inl (Int32.ofNat L)) rfl rfl (by decide) (by decide) (by omega) ((hC 2 (by decide) (by decide)).trans (by rw [eL])) ?_
    refine kx_go 1 (pc' := (if kc_cnd .ge (Int32.ofNat l).toInt (Int32.ofNat L).toInt then 42 else 14)) (L' := [(2, .inl (Int32.ofNat l)), (1, .inl (Int32.ofNat (fs_hn M l))), (0, .inr (.inr (.inl (some 259))))]) (S' := []) (h' := h) (by with_unfolding_all rfl) ?_
    rw [if_pos ((kx_ge (by omega) (by omega)).mpr (by omega))]
    obtain rfl : l = L := by omega
    refine kx_go 3 (pc' := (if kc_cnd .le (Int32.ofNat (fs_hn M l)).toInt (Int32.ofNat 5000).toInt then 53 else 49)) (L' := [(2, .inl (Int32.ofNat l)), (1, .inl (Int32.ofNat (fs_hn M l))), (0, .inr (.inr (.inl (some 259))))]) (S' := []) (h' := h) (by with_unfolding_all rfl) ?_
    by_cases c : 5000 < fs_hn M l
    · rw [if_neg (fun q => by have := (kx_le (by omega) (by omega)).mp q; omega), show fs_hv M l = Int32.ofInt (-1) from if_pos c]
      refine kx_go 2 (pc' := 54) (L' := [(2, .inl (Int32.ofNat l)), (1, .inl (Int32.ofNat (fs_hn M l))), (0, .inr (.inr (.inl (some 259))))]) (S' := [.inl (Int32.ofInt (-1))]) (h' := h) (by with_unfolding_all rfl) ?_
      exact kc_ret_ok rfl (rv := some (.inl (Int32.ofInt (-1)))) rfl ⟨rfl, rfl⟩
    · rw [if_pos ((kx_le (by omega) (by omega)).mpr (by omega)), show fs_hv M l = Int32.ofNat (fs_hn M l) from if_neg c]
      refine kx_go 1 (pc' := 54) (L' := [(2, .inl (Int32.ofNat l)), (1, .inl (Int32.ofNat (fs_hn M l))), (0, .inr (.inr (.inl (some 259))))]) (S' := [.inl (Int32.ofNat (fs_hn M l))]) (h' := h) (by with_unfolding_all rfl) ?_
      exact kc_ret_ok rfl (rv := some (.inl (Int32.ofNat (fs_hn M l)))) rfl ⟨rfl, rfl⟩
  | succ u ih =>
    intro l hu hl
    have b := fs_hn_b hM l
    refine kx_go 2 (pc' := 6) (L' := [(2, .inl (Int32.ofNat l)), (1, .inl (Int32.ofNat (fs_hn M l))), (0, .inr (.inr (.inl (some 259))))]) (S' := [.inr (.inr (.inl (some 259))), .inl (Int32.ofNat l)]) (h' := h) (by with_unfolding_all rfl) ?_
    refine kx_getf (c := 259) (v := .inr (.inr (.inl (some 260)))) rfl (by decide) (kx_ofr (hw _ _ _ fs_k259_0)) ?_
    refine kx_go 1 (pc' := 10) (L' := [(2, .inl (Int32.ofNat l)), (1, .inl (Int32.ofNat (fs_hn M l))), (0, .inr (.inr (.inl (some 259))))]) (S' := [.inl (Int32.ofNat 2), .inr (.inr (.inl (some 260))), .inl (Int32.ofNat l)]) (h' := h) (by with_unfolding_all rfl) ?_
    refine kx_iald (c := 260) (j := 2) (m := 650) (v := .inl (Int32.ofNat L)) rfl rfl (by decide) (by decide) (by omega) ((hC 2 (by decide) (by decide)).trans (by rw [eL])) ?_
    refine kx_go 1 (pc' := (if kc_cnd .ge (Int32.ofNat l).toInt (Int32.ofNat L).toInt then 42 else 14)) (L' := [(2, .inl (Int32.ofNat l)), (1, .inl (Int32.ofNat (fs_hn M l))), (0, .inr (.inr (.inl (some 259))))]) (S' := []) (h' := h) (by with_unfolding_all rfl) ?_
    rw [if_neg (fun q => by have := (kx_ge (by omega) (by omega)).mp q; omega)]
    refine kx_go 3 (pc' := (if kc_cnd .le (Int32.ofNat (fs_hn M l)).toInt (Int32.ofNat 5000).toInt then 25 else 21)) (L' := [(2, .inl (Int32.ofNat l)), (1, .inl (Int32.ofNat (fs_hn M l))), (0, .inr (.inr (.inl (some 259))))]) (S' := []) (h' := h) (by with_unfolding_all rfl) ?_
    by_cases c : 5000 < fs_hn M l
    · rw [if_neg (fun q => by have := (kx_le (by omega) (by omega)).mp q; omega)]
      refine kx_go 5 (pc' := 4) (L' := [(2, .inl ((Int32.ofNat l) + Int32.ofInt 1)), (1, .inl (Int32.ofNat (fs_hn M l))), (0, .inr (.inr (.inl (some 259))))]) (S' := []) (h' := h) (by with_unfolding_all rfl) ?_
      rw [kx_inc, show Int32.ofNat (fs_hn M l) = Int32.ofNat (fs_hn M (l + 1)) from congrArg Int32.ofNat (if_pos c).symm]
      refine kf_lo (L := [(2, .inl (Int32.ofNat (l + 1))), (1, .inl (Int32.ofNat (fs_hn M (l + 1)))), (0, .inr (.inr (.inl (some 259))))]) (by intro q hq; simp only [List.mem_cons, List.not_mem_nil, or_false] at hq; rcases hq with rfl | rfl | rfl <;> rfl) ?_
      exact ih (l + 1) (by omega) (by omega)
    · rw [if_pos ((kx_le (by omega) (by omega)).mpr (by omega))]
      refine kx_go 4 (pc' := 29) (L' := [(2, .inl (Int32.ofNat l)), (1, .inl (Int32.ofNat (fs_hn M l))), (0, .inr (.inr (.inl (some 259))))]) (S' := [.inr (.inr (.inl (some 259))), .inl ((Int32.ofNat (fs_hn M l)) * (Int32.ofNat 2))]) (h' := h) (by with_unfolding_all rfl) ?_
      refine kx_getf (c := 259) (v := .inr (.inr (.inl (some 260)))) rfl (by decide) (kx_ofr (hw _ _ _ fs_k259_0)) ?_
      refine kx_go 1 (pc' := 33) (L' := [(2, .inl (Int32.ofNat l)), (1, .inl (Int32.ofNat (fs_hn M l))), (0, .inr (.inr (.inl (some 259))))]) (S' := [.inl (Int32.ofNat 1), .inr (.inr (.inl (some 260))), .inl ((Int32.ofNat (fs_hn M l)) * (Int32.ofNat 2))]) (h' := h) (by with_unfolding_all rfl) ?_
      refine kx_iald (c := 260) (j := 1) (m := 650) (v := .inl (Int32.ofNat M)) rfl rfl (by decide) (by decide) (by omega) ((hC 1 (by decide) (by decide)).trans (by rw [eM])) ?_
      refine kx_go 4 (pc' := 4) (L' := [(2, .inl ((Int32.ofNat l) + Int32.ofInt 1)), (1, .inl (((Int32.ofNat (fs_hn M l)) * (Int32.ofNat 2)) * (Int32.ofNat M))), (0, .inr (.inr (.inl (some 259))))]) (S' := []) (h' := h) (by with_unfolding_all rfl) ?_
      rw [kx_inc, kx_mul, kx_mul, show fs_hn M l * 2 * M = fs_hn M (l + 1) from (Nat.mul_assoc _ _ _).trans (if_neg c).symm]
      refine kf_lo (L := [(2, .inl (Int32.ofNat (l + 1))), (1, .inl (Int32.ofNat (fs_hn M (l + 1)))), (0, .inr (.inr (.inl (some 259))))]) (by intro q hq; simp only [List.mem_cons, List.not_mem_nil, or_false] at hq; rcases hq with rfl | rfl | rfl <;> rfl) ?_
      exact ih (l + 1) (by omega) (by omega)
set_option maxRecDepth 20000 in
theorem fs_r121 {g : kc_G} {d : Nat} {h : kc_H} {B : Nat → Int32} {L M : Nat} (hg : kc_ok g) (hw : kd_wt kd_ty h) (hC : fu_B B h) (hM : M ≤ 3) (eM : B 1 = Int32.ofNat M) (hL : L ≤ 10) (eL : B 2 = Int32.ofNat L) : kc_Con g (d + 1) 121 [.inr (.inr (.inl (some 259)))] h (fun rv h' => rv = some (.inl (fs_hv M L)) ∧ h' = h) := by
  refine kc_Con_new hg (M := wk_m121) rfl rfl rfl (show 1 ≤ 3 by decide) ?_
  refine kx_go 4 (pc' := 4) (L' := [(2, .inl (Int32.ofNat 0)), (1, .inl (Int32.ofNat 1)), (0, .inr (.inr (.inl (some 259))))]) (S' := []) (h' := h) (by with_unfolding_all rfl) ?_
  exact fs_r121l hw hC hM eM hL eL L 0 (by omega) (by omega)
set_option maxRecDepth 20000 in
theorem fs_r122l {g : kc_G} {d : Nat} {h0 : kc_H} {B : Nat → Int32} {D : Nat → Nat} {n L M N : Nat} {f : Nat → Nat} (hg : kc_ok g) (hB : fu_BT B) (hC0 : fu_B B h0) (hn : n ≤ 5) (en : B 3 = Int32.ofNat n) (hL : L ≤ 10) (eL : B 2 = Int32.ofNat L) (hM : M ≤ 3) (eM : B 1 = Int32.ofNat M) (hN : N ≤ 5000) (hml : 0 < N → 0 < M ∨ L = 0) : ∀ (u k : Nat) (h : kc_H), N - k = u → k ≤ N → fs_RS h0 (fs_F B D n) (fs_E B D n) (fs_co B D n) L M ((ms_it (2 * M) L (ms_J (fs_bor B D n L M) (fs_wo B D n L M)) k ((fun _ => 0), (1000000, f))).1) ((ms_it (2 * M) L (ms_J (fs_bor B D n L M) (fs_wo B D n L M)) k ((fun _ => 0), (1000000, f))).2) h → kc_Ev g (d + 7) wk_m122 (fun rv h' => rv = some (.inl (kp_b (decide ((ms_it (2 * M) L (ms_J (fs_bor B D n L M) (fs_wo B D n L M)) N ((fun _ => 0), (1000000, f))).2.1 < 1000000)))) ∧ ∃ c, fs_RS h0 (fs_F B D n) (fs_E B D n) (fs_co B D n) L M (c) ((ms_it (2 * M) L (ms_J (fs_bor B D n L M) (fs_wo B D n L M)) N ((fun _ => 0), (1000000, f))).2) h') 17 [(2, .inl (Int32.ofNat k)), (1, .inl (Int32.ofNat N)), (0, .inr (.inr (.inl (some 259))))] [] h := by
  have hE : ∀ l, l < L → (fs_F B D n) l ≤ 5 ∧ (fs_E B D n) l ≤ 5 := fun l hl => by
    have := (fs_gb (D := D) (L := L) hB hn hL).2.2.1 l hl
    omega
  have wob : ∀ c, fs_wo B D n L M c ≤ 990 := fun c => fs_wob (co := fs_co B D n) (fs_gb hB hn hL)
  intro u
  induction u with
  | zero =>
    intro k h hu hk hR
    have hw := hR.1
    have hC : fu_B B h := fs_B_f (fun x => hR.2.2.2.2.2.2 260 x (by omega) (by omega)) hC0
    have e33 := hR.2.2.2.1.1
    have l33 := hR.2.2.2.1.2
    refine kx_go 3 (pc' := (if kc_cnd .ge (Int32.ofNat k).toInt (Int32.ofNat N).toInt then 91 else 22)) (L' := [(2, .inl (Int32.ofNat k)), (1, .inl (Int32.ofNat N)), (0, .inr (.inr (.inl (some 259))))]) (S' := []) (h' := h) (by with_unfolding_all rfl) ?_
    rw [if_pos ((kx_ge (by omega) (by omega)).mpr (by omega))]
    obtain rfl : k = N := by omega
    refine kx_go 1 (pc' := 92) (L' := [(2, .inl (Int32.ofNat k)), (1, .inl (Int32.ofNat k)), (0, .inr (.inr (.inl (some 259))))]) (S' := [.inr (.inr (.inl (some 259)))]) (h' := h) (by with_unfolding_all rfl) ?_
    refine kx_getf (c := 259) (v := .inl (Int32.ofNat (ms_it (2 * M) L (ms_J (fs_bor B D n L M) (fs_wo B D n L M)) k ((fun _ => 0), (1000000, f))).2.1)) rfl (by decide) e33 ?_
    refine kx_go 2 (pc' := (if kc_cnd .ge (Int32.ofNat (ms_it (2 * M) L (ms_J (fs_bor B D n L M) (fs_wo B D n L M)) k ((fun _ => 0), (1000000, f))).2.1).toInt (Int32.ofNat 1000000).toInt then 105 else 101)) (L' := [(2, .inl (Int32.ofNat k)), (1, .inl (Int32.ofNat k)), (0, .inr (.inr (.inl (some 259))))]) (S' := []) (h' := h) (by with_unfolding_all rfl) ?_
    by_cases c : (ms_it (2 * M) L (ms_J (fs_bor B D n L M) (fs_wo B D n L M)) k ((fun _ => 0), (1000000, f))).2.1 < 1000000
    · rw [if_neg (fun q => by have := (kx_ge (by omega) (by omega)).mp q; omega), decide_eq_true c]
      refine kx_go 2 (pc' := 106) (L' := [(2, .inl (Int32.ofNat k)), (1, .inl (Int32.ofNat k)), (0, .inr (.inr (.inl (some 259))))]) (S' := [.inl (Int32.ofNat 1)]) (h' := h) (by with_unfolding_all rfl) ?_
      exact kc_ret_ok rfl (rv := some (.inl (Int32.ofNat 1))) rfl ⟨rfl, _, hR⟩
    · rw [if_pos ((kx_ge (by omega) (by omega)).mpr (by omega)), decide_eq_false c]
      refine kx_go 1 (pc' := 106) (L' := [(2, .inl (Int32.ofNat k)), (1, .inl (Int32.ofNat k)), (0, .inr (.inr (.inl (some 259))))]) (S' := [.inl (Int32.ofNat 0)]) (h' := h) (by with_unfolding_all rfl) ?_
      exact kc_ret_ok rfl (rv := some (.inl (Int32.ofNat 0))) rfl ⟨rfl, _, hR⟩
  | succ u ih =>
    intro k h hu hk hR
    have hw := hR.1
    have hC : fu_B B h := fs_B_f (fun x => hR.2.2.2.2.2.2 260 x (by omega) (by omega)) hC0
    have e33 := hR.2.2.2.1.1
    have l33 := hR.2.2.2.1.2
    refine kx_go 3 (pc' := (if kc_cnd .ge (Int32.ofNat k).toInt (Int32.ofNat N).toInt then 91 else 22)) (L' := [(2, .inl (Int32.ofNat k)), (1, .inl (Int32.ofNat N)), (0, .inr (.inr (.inl (some 259))))]) (S' := []) (h' := h) (by with_unfolding_all rfl) ?_
    rw [if_neg (fun q => by have := (kx_ge (by omega) (by omega)).mp q; omega)]
    have est : ms_it (2 * M) L (ms_J (fs_bor B D n L M) (fs_wo B D n L M)) (k + 1) ((fun _ => 0), (1000000, f)) = (ms_nx (2 * M) L (ms_it (2 * M) L (ms_J (fs_bor B D n L M) (fs_wo B D n L M)) k ((fun _ => 0), (1000000, f))).1, (ms_J (fs_bor B D n L M) (fs_wo B D n L M)) (ms_it (2 * M) L (ms_J (fs_bor B D n L M) (fs_wo B D n L M)) k ((fun _ => 0), (1000000, f))).1 (ms_it (2 * M) L (ms_J (fs_bor B D n L M) (fs_wo B D n L M)) k ((fun _ => 0), (1000000, f))).2) := ms_it_add k 1 _
    have hkp := hR
    generalize ms_it (2 * M) L (ms_J (fs_bor B D n L M) (fs_wo B D n L M)) k ((fun _ => 0), (1000000, f)) = p0 at hR est e33 l33 hkp
    obtain ⟨c, S⟩ := p0
    obtain ⟨-, hcd, hc6, hb, hf, hsp, hF0⟩ := hR
    have hcM : ∀ l, l < L → c l < 2 * M := fun l hl => (hml (by omega)).elim (fun q => hc6 q l hl) (fun q => by omega)
    have hc : ∀ l, l < L → h 272 l = .inl (Int32.ofNat (c l)) ∧ c l < 6 := fun l hl => ⟨hcd l hl, by have := hcM l hl; omega⟩
    have wb := wob c
    have l9 : S.1 ≤ 1000000 := hb.2
    have next : ∀ (S2 : ms_S) (h : kc_H), fs_RS h0 (fs_F B D n) (fs_E B D n) (fs_co B D n) L M (c) (S2) h → S2 = (ms_J (fs_bor B D n L M) (fs_wo B D n L M)) c S → kc_Ev g (d + 7) wk_m122 (fun rv h' => rv = some (.inl (kp_b (decide ((ms_it (2 * M) L (ms_J (fs_bor B D n L M) (fs_wo B D n L M)) N ((fun _ => 0), (1000000, f))).2.1 < 1000000)))) ∧ ∃ c, fs_RS h0 (fs_F B D n) (fs_E B D n) (fs_co B D n) L M (c) ((ms_it (2 * M) L (ms_J (fs_bor B D n L M) (fs_wo B D n L M)) N ((fun _ => 0), (1000000, f))).2) h') 81 [(2, .inl (Int32.ofNat k)), (1, .inl (Int32.ofNat N)), (0, .inr (.inr (.inl (some 259))))] [] h := by
      intro S2 h hR eS
      obtain ⟨hw, hcd, hc6, hb, hf, hsp, hF0⟩ := hR
      have hC : fu_B B h := fs_B_f (fun x => hF0 260 x (by omega) (by omega)) hC0
      refine kx_go 1 (pc' := 82) (L' := [(2, .inl (Int32.ofNat k)), (1, .inl (Int32.ofNat N)), (0, .inr (.inr (.inl (some 259))))]) (S' := [.inr (.inr (.inl (some 259)))]) (h' := h) (by with_unfolding_all rfl) ?_
      refine kc_call_rule (M2 := wk_m124) (av := [.inr (.inr (.inl (some 259)))]) (r := []) rfl rfl (kc_Con_le (fs_r124 (d := d) (c := c) hg hw hC hL hM eM eL hcd hcM) (by omega)) (fun rv h2 hq => ?_)
      obtain ⟨rfl, hw2, hcd2, hF2⟩ := hq
      show kc_Ev g (d + 7) wk_m122 _ 85 [(2, .inl (Int32.ofNat k)), (1, .inl (Int32.ofNat N)), (0, .inr (.inr (.inl (some 259))))] [] h2
      refine kx_go 2 (pc' := 17) (L' := [(2, .inl ((Int32.ofNat k) + Int32.ofInt 1)), (1, .inl (Int32.ofNat N)), (0, .inr (.inr (.inl (some 259))))]) (S' := []) (h' := h2) (by with_unfolding_all rfl) ?_
      rw [kx_inc]
      refine ih (k + 1) h2 (by omega) (by omega) ?_
      rw [est, ← eS]
      exact ⟨hw2, hcd2, fun q => ms_nx_lt L c (Nat.le_refl _) hcM, ⟨(hF2 _ _ (by decide)).trans hb.1, hb.2⟩, fun l hl => (hF2 _ _ (by decide)).trans (hf l hl), fs_sp_f (fun a y q1 q2 => hF2 a y (by omega)) hsp, fun a y q1 q2 => (hF2 a y (by omega)).trans (hF0 a y q1 q2)⟩
    refine kx_go 1 (pc' := 23) (L' := [(2, .inl (Int32.ofNat k)), (1, .inl (Int32.ofNat N)), (0, .inr (.inr (.inl (some 259))))]) (S' := [.inr (.inr (.inl (some 259)))]) (h' := h) (by with_unfolding_all rfl) ?_
    refine kc_call_rule (M2 := wk_m106) (av := [.inr (.inr (.inl (some 259)))]) (r := []) rfl rfl (kc_Con_le (fs_r106 (d := d) (c := c) (F := (fs_F B D n)) (E := (fs_E B D n)) (co := (fs_co B D n)) hw hg hB hC hn en hL eL hM eM hE hsp hc) (by omega)) (fun rv h2 hq => ?_)
    obtain ⟨rfl, hw2, hF2⟩ := hq
    show kc_Ev g (d + 7) wk_m122 _ 26 [(2, .inl (Int32.ofNat k)), (1, .inl (Int32.ofNat N)), (0, .inr (.inr (.inl (some 259))))] [.inl (kp_b (fs_bor B D n L M c))] h2
    have R2 := fs_RS_x hw2 hF2 hkp
    refine kx_go 1 (pc' := (if kc_cnd .eq (kp_b (fs_bor B D n L M c)).toInt 0 then 81 else 29)) (L' := [(2, .inl (Int32.ofNat k)), (1, .inl (Int32.ofNat N)), (0, .inr (.inr (.inl (some 259))))]) (S' := []) (h' := h2) (by with_unfolding_all rfl) ?_
    cases eb : fs_bor B D n L M c with
    | false =>
      rw [if_pos (kx_b0.mpr rfl)]
      exact next S h2 R2 (by
        unfold ms_J ms_j
        rw [if_neg (fun q => by rw [eb] at q; cases q.1)])
    | true =>
      rw [if_neg fa_b0t]
      have hC2 : fu_B B h2 := fs_B_f (fun x => hF2 260 x (by decide)) hC
      have hc2 : ∀ l, l < L → h2 272 l = .inl (Int32.ofNat (c l)) ∧ c l < 6 := fun l hl => ⟨R2.2.1 l hl, (hc l hl).2⟩
      refine kx_go 1 (pc' := 30) (L' := [(2, .inl (Int32.ofNat k)), (1, .inl (Int32.ofNat N)), (0, .inr (.inr (.inl (some 259))))]) (S' := [.inr (.inr (.inl (some 259)))]) (h' := h2) (by with_unfolding_all rfl) ?_
      refine kc_call_rule (M2 := wk_m110) (av := [.inr (.inr (.inl (some 259)))]) (r := []) rfl rfl (kc_Con_le (fs_r110 (d := d) (c := c) (F := (fs_F B D n)) (E := (fs_E B D n)) (co := (fs_co B D n)) hw2 hg hB hC2 hn en hL eL hM eM hE R2.2.2.2.2.2.1 hc2) (by omega)) (fun rv h3 hq => ?_)
      obtain ⟨rfl, hw3, hF3⟩ := hq
      show kc_Ev g (d + 7) wk_m122 _ 33 [(2, .inl (Int32.ofNat k)), (1, .inl (Int32.ofNat N)), (0, .inr (.inr (.inl (some 259))))] [.inl (Int32.ofNat (fs_wo B D n L M c))] h3
      have R3 := fs_RS_x hw3 hF3 R2
      refine kx_go 3 (pc' := 36) (L' := [(3, .inl (Int32.ofNat (fs_wo B D n L M c))), (2, .inl (Int32.ofNat k)), (1, .inl (Int32.ofNat N)), (0, .inr (.inr (.inl (some 259))))]) (S' := [.inr (.inr (.inl (some 259))), .inl (Int32.ofNat (fs_wo B D n L M c))]) (h' := h3) (by with_unfolding_all rfl) ?_
      refine kx_getf (c := 259) (v := .inl (Int32.ofNat S.1)) rfl (by decide) R3.2.2.2.1.1 ?_
      refine kx_go 1 (pc' := (if kc_cnd .ge (Int32.ofNat (fs_wo B D n L M c)).toInt (Int32.ofNat S.1).toInt then 81 else 42)) (L' := [(3, .inl (Int32.ofNat (fs_wo B D n L M c))), (2, .inl (Int32.ofNat k)), (1, .inl (Int32.ofNat N)), (0, .inr (.inr (.inl (some 259))))]) (S' := []) (h' := h3) (by with_unfolding_all rfl) ?_
      by_cases cw : fs_wo B D n L M c < S.1
      · rw [if_neg (fun q => by have := (kx_ge (by omega) (by omega)).mp q; omega)]
        have eJ : (ms_J (fs_bor B D n L M) (fs_wo B D n L M)) c S = (fs_wo B D n L M c, c) := if_pos ⟨eb, cw⟩
        refine kx_go 2 (pc' := 44) (L' := [(3, .inl (Int32.ofNat (fs_wo B D n L M c))), (2, .inl (Int32.ofNat k)), (1, .inl (Int32.ofNat N)), (0, .inr (.inr (.inl (some 259))))]) (S' := [.inl (Int32.ofNat (fs_wo B D n L M c)), .inr (.inr (.inl (some 259)))]) (h' := h3) (by with_unfolding_all rfl) ?_
        have hw4 : kd_wt kd_ty (kc_upd h3 259 33 (.inl (Int32.ofNat (fs_wo B D n L M c)))) := fa_wa fs_k273.2.2.2.2.2.2.2 hw3
        refine kx_go 1 (pc' := 47) (L' := [(3, .inl (Int32.ofNat (fs_wo B D n L M c))), (2, .inl (Int32.ofNat k)), (1, .inl (Int32.ofNat N)), (0, .inr (.inr (.inl (some 259))))]) (S' := []) (h' := (kc_upd h3 259 33 (.inl (Int32.ofNat (fs_wo B D n L M c))))) (by with_unfolding_all rfl) ?_
        obtain ⟨-, hcd3, -, -, -, hsp3, hF30⟩ := R3
        have e4 : (kc_upd h3 259 33 (.inl (Int32.ofNat (fs_wo B D n L M c)))) 259 33 = .inl (Int32.ofNat (fs_wo B D n L M c)) := fu_eq
        have o4 : ∀ a x, ¬ (a = 259 ∧ x = 33) → (kc_upd h3 259 33 (.inl (Int32.ofNat (fs_wo B D n L M c)))) a x = h3 a x := fun a y q => fu_ne q
        generalize (kc_upd h3 259 33 (.inl (Int32.ofNat (fs_wo B D n L M c)))) = h4 at hw4 e4 o4 ⊢
        have cpy : ∀ (v l : Nat) (h : kc_H), L - l = v → l ≤ L → kd_wt kd_ty h → (∀ j, j < l → h 278 j = .inl (Int32.ofNat (c j))) → (∀ a x, ¬ a = 278 → h a x = h4 a x) → kc_Ev g (d + 7) wk_m122 (fun rv h' => rv = some (.inl (kp_b (decide ((ms_it (2 * M) L (ms_J (fs_bor B D n L M) (fs_wo B D n L M)) N ((fun _ => 0), (1000000, f))).2.1 < 1000000)))) ∧ ∃ c, fs_RS h0 (fs_F B D n) (fs_E B D n) (fs_co B D n) L M (c) ((ms_it (2 * M) L (ms_J (fs_bor B D n L M) (fs_wo B D n L M)) N ((fun _ => 0), (1000000, f))).2) h') 50 [(4, .inl (Int32.ofNat l)), (3, .inl (Int32.ofNat (fs_wo B D n L M c))), (2, .inl (Int32.ofNat k)), (1, .inl (Int32.ofNat N)), (0, .inr (.inr (.inl (some 259))))] [] h := by
          intro v
          induction v with
          | zero =>
            intro l h hv hl hw hz hF
            have hC : fu_B B h := fs_B_f (fun x => (hF 260 x (by decide)).trans ((o4 260 x (by omega)).trans (hF30 260 x (by omega) (by omega)))) hC0
            refine kx_go 2 (pc' := 53) (L' := [(4, .inl (Int32.ofNat l)), (3, .inl (Int32.ofNat (fs_wo B D n L M c))), (2, .inl (Int32.ofNat k)), (1, .inl (Int32.ofNat N)), (0, .inr (.inr (.inl (some 259))))]) (S' := [.inr (.inr (.inl (some 259))), .inl (Int32.ofNat l)]) (h' := h) (by with_unfolding_all rfl) ?_
            refine kx_getf (c := 259) (v := .inr (.inr (.inl (some 260)))) rfl (by decide) (kx_ofr (hw _ _ _ fs_k259_0)) ?_
            refine kx_go 1 (pc' := 57) (L' := [(4, .inl (Int32.ofNat l)), (3, .inl (Int32.ofNat (fs_wo B D n L M c))), (2, .inl (Int32.ofNat k)), (1, .inl (Int32.ofNat N)), (0, .inr (.inr (.inl (some 259))))]) (S' := [.inl (Int32.ofNat 2), .inr (.inr (.inl (some 260))), .inl (Int32.ofNat l)]) (h' := h) (by with_unfolding_all rfl) ?_
            refine kx_iald (c := 260) (j := 2) (m := 650) (v := .inl (Int32.ofNat L)) rfl rfl (by decide) (by decide) (by omega) ((hC 2 (by decide) (by decide)).trans (by rw [eL])) ?_
            refine kx_go 1 (pc' := (if kc_cnd .ge (Int32.ofNat l).toInt (Int32.ofNat L).toInt then 81 else 61)) (L' := [(4, .inl (Int32.ofNat l)), (3, .inl (Int32.ofNat (fs_wo B D n L M c))), (2, .inl (Int32.ofNat k)), (1, .inl (Int32.ofNat N)), (0, .inr (.inr (.inl (some 259))))]) (S' := []) (h' := h) (by with_unfolding_all rfl) ?_
            rw [if_pos ((kx_ge (by omega) (by omega)).mpr (by omega))]
            refine kf_lo (L := [(2, .inl (Int32.ofNat k)), (1, .inl (Int32.ofNat N)), (0, .inr (.inr (.inl (some 259))))]) (by intro q hq; simp only [List.mem_cons, List.not_mem_nil, or_false] at hq; rcases hq with rfl | rfl | rfl <;> rfl) ?_
            refine next (fs_wo B D n L M c, c) h ⟨hw, fun j hj => (hF 272 j (by omega)).trans ((o4 272 j (by omega)).trans (hcd3 j hj)), hc6, ⟨(hF 259 33 (by decide)).trans e4, by show fs_wo B D n L M c ≤ 1000000; omega⟩, fun j hj => hz j (by omega), fs_sp_f (fun a y q1 q2 => (hF a y (by omega)).trans (o4 a y (by omega))) hsp3, fun a y q1 q2 => (hF a y (by omega)).trans ((o4 a y q1).trans (hF30 a y q1 q2))⟩ eJ.symm
          | succ v ihv =>
            intro l h hv hl hw hz hF
            have hC : fu_B B h := fs_B_f (fun x => (hF 260 x (by decide)).trans ((o4 260 x (by omega)).trans (hF30 260 x (by omega) (by omega)))) hC0
            refine kx_go 2 (pc' := 53) (L' := [(4, .inl (Int32.ofNat l)), (3, .inl (Int32.ofNat (fs_wo B D n L M c))), (2, .inl (Int32.ofNat k)), (1, .inl (Int32.ofNat N)), (0, .inr (.inr (.inl (some 259))))]) (S' := [.inr (.inr (.inl (some 259))), .inl (Int32.ofNat l)]) (h' := h) (by with_unfolding_all rfl) ?_
            refine kx_getf (c := 259) (v := .inr (.inr (.inl (some 260)))) rfl (by decide) (kx_ofr (hw _ _ _ fs_k259_0)) ?_
            refine kx_go 1 (pc' := 57) (L' := [(4, .inl (Int32.ofNat l)), (3, .inl (Int32.ofNat (fs_wo B D n L M c))), (2, .inl (Int32.ofNat k)), (1, .inl (Int32.ofNat N)), (0, .inr (.inr (.inl (some 259))))]) (S' := [.inl (Int32.ofNat 2), .inr (.inr (.inl (some 260))), .inl (Int32.ofNat l)]) (h' := h) (by with_unfolding_all rfl) ?_
            refine kx_iald (c := 260) (j := 2) (m := 650) (v := .inl (Int32.ofNat L)) rfl rfl (by decide) (by decide) (by omega) ((hC 2 (by decide) (by decide)).trans (by rw [eL])) ?_
            refine kx_go 1 (pc' := (if kc_cnd .ge (Int32.ofNat l).toInt (Int32.ofNat L).toInt then 81 else 61)) (L' := [(4, .inl (Int32.ofNat l)), (3, .inl (Int32.ofNat (fs_wo B D n L M c))), (2, .inl (Int32.ofNat k)), (1, .inl (Int32.ofNat N)), (0, .inr (.inr (.inl (some 259))))]) (S' := []) (h' := h) (by with_unfolding_all rfl) ?_
            rw [if_neg (fun q => by have := (kx_ge (by omega) (by omega)).mp q; omega)]
            have e72 : h 272 l = .inl (Int32.ofNat (c l)) := (hF 272 l (by omega)).trans ((o4 272 l (by omega)).trans (hcd3 l (by omega)))
            refine kx_go 1 (pc' := 62) (L' := [(4, .inl (Int32.ofNat l)), (3, .inl (Int32.ofNat (fs_wo B D n L M c))), (2, .inl (Int32.ofNat k)), (1, .inl (Int32.ofNat N)), (0, .inr (.inr (.inl (some 259))))]) (S' := [.inr (.inr (.inl (some 259)))]) (h' := h) (by with_unfolding_all rfl) ?_
            refine kx_getf (c := 259) (v := .inr (.inr (.inl (some 278)))) rfl (by decide) (kx_ofr (hw _ _ _ fs_k259_32)) ?_
            refine kx_go 2 (pc' := 68) (L' := [(4, .inl (Int32.ofNat l)), (3, .inl (Int32.ofNat (fs_wo B D n L M c))), (2, .inl (Int32.ofNat k)), (1, .inl (Int32.ofNat N)), (0, .inr (.inr (.inl (some 259))))]) (S' := [.inr (.inr (.inl (some 259))), .inl (Int32.ofNat l), .inr (.inr (.inl (some 278)))]) (h' := h) (by with_unfolding_all rfl) ?_
            refine kx_getf (c := 259) (v := .inr (.inr (.inl (some 272)))) rfl (by decide) (kx_ofr (hw _ _ _ fs_k259_26)) ?_
            refine kx_go 1 (pc' := 73) (L' := [(4, .inl (Int32.ofNat l)), (3, .inl (Int32.ofNat (fs_wo B D n L M c))), (2, .inl (Int32.ofNat k)), (1, .inl (Int32.ofNat N)), (0, .inr (.inr (.inl (some 259))))]) (S' := [.inl (Int32.ofNat l), .inr (.inr (.inl (some 272))), .inl (Int32.ofNat l), .inr (.inr (.inl (some 278)))]) (h' := h) (by with_unfolding_all rfl) ?_
            refine kx_iald (c := 272) (j := l) (m := 10) (v := .inl (Int32.ofNat (c l))) rfl rfl (by decide) (by decide) (by omega) e72 ?_
            refine kx_iast (c := 278) (j := l) (m := 10) rfl rfl (by decide) (by decide) (by omega) ?_
            refine kx_go 2 (pc' := 50) (L' := [(4, .inl ((Int32.ofNat l) + Int32.ofInt 1)), (3, .inl (Int32.ofNat (fs_wo B D n L M c))), (2, .inl (Int32.ofNat k)), (1, .inl (Int32.ofNat N)), (0, .inr (.inr (.inl (some 259))))]) (S' := []) (h' := (kc_upd h 278 l (.inl (Int32.ofNat (c l))))) (by with_unfolding_all rfl) ?_
            rw [kx_inc]
            refine ihv (l + 1) _ (by omega) (by omega) (fs_w1 (v := some (c l)) (fs_k273.2.2.2.2.2.2.1 l (by omega)) (fun k' q => by cases q; have := hc l (by omega); omega) (by decide) hw) (fun j hj => ?_) (fun a y ha => (fu_ne (fun q => ha q.1)).trans (hF a y ha))
            by_cases e : j = l
            · rw [e]; exact fu_eq
            · exact (fu_ne (fun q => e q.2)).trans (hz j (by omega))
        refine kx_go 2 (pc' := 50) (L' := [(4, .inl (Int32.ofNat 0)), (3, .inl (Int32.ofNat (fs_wo B D n L M c))), (2, .inl (Int32.ofNat k)), (1, .inl (Int32.ofNat N)), (0, .inr (.inr (.inl (some 259))))]) (S' := []) (h' := h4) (by with_unfolding_all rfl) ?_
        exact cpy L 0 h4 (by omega) (by omega) hw4 (fun j hj => by omega) (fun _ _ _ => rfl)
      · rw [if_pos ((kx_ge (by omega) (by omega)).mpr (by omega))]
        refine kf_lo (L := [(2, .inl (Int32.ofNat k)), (1, .inl (Int32.ofNat N)), (0, .inr (.inr (.inl (some 259))))]) (by intro q hq; simp only [List.mem_cons, List.not_mem_nil, or_false] at hq; rcases hq with rfl | rfl | rfl <;> rfl) ?_
        exact next S h3 R3 (by
          unfold ms_J ms_j
          rw [if_neg (fun q => cw q.2)])
set_option maxRecDepth 20000 in
theorem fs_r122 {g : kc_G} {d : Nat} {h0 : kc_H} {B : Nat → Int32} {D : Nat → Nat} {n L M N : Nat} {f : Nat → Nat} (hw0 : kd_wt kd_ty h0) (hg : kc_ok g) (hB : fu_BT B) (hC0 : fu_B B h0) (hn : n ≤ 5) (en : B 3 = Int32.ofNat n) (hL : L ≤ 10) (eL : B 2 = Int32.ofNat L) (hM : M ≤ 3) (eM : B 1 = Int32.ofNat M) (hN : N ≤ 5000) (hml : 0 < N → 0 < M ∨ L = 0) (hD : ∀ k, k < n → B (150 + k) = Int32.ofNat (D k)) (hl : ∀ k, D k < 6) (hdl : ∀ i j, i < n → j < n → D i = D j → i = j) (hf0 : ∀ l, l < L → h0 278 l = .inl (Int32.ofNat (f l))) : kc_Con g (d + 8) 122 [.inr (.inr (.inl (some 259))), .inl (Int32.ofNat N)] h0 (fun rv h' => rv = some (.inl (kp_b (decide ((ms_it (2 * M) L (ms_J (fs_bor B D n L M) (fs_wo B D n L M)) N ((fun _ => 0), (1000000, f))).2.1 < 1000000)))) ∧ ∃ c, fs_RS h0 (fs_F B D n) (fs_E B D n) (fs_co B D n) L M (c) ((ms_it (2 * M) L (ms_J (fs_bor B D n L M) (fs_wo B D n L M)) N ((fun _ => 0), (1000000, f))).2) h') := by
  refine kc_Con_new hg (M := wk_m122) rfl rfl rfl (show 2 ≤ 5 by decide) ?_
  refine kx_go 1 (pc' := 1) (L' := [(0, .inr (.inr (.inl (some 259)))), (1, .inl (Int32.ofNat N))]) (S' := [.inr (.inr (.inl (some 259)))]) (h' := h0) (by with_unfolding_all rfl) ?_
  refine kc_call_rule (M2 := wk_m105) (av := [.inr (.inr (.inl (some 259)))]) (r := []) rfl rfl (kc_Con_le (fs_r105 (d := d) (D := D) hw0 hg hB hC0 en eL hL hn hD hl hdl) (by omega)) (fun rv h2 hq => ?_)
  obtain ⟨rfl, hw2, hsp2, hF2⟩ := hq
  show kc_Ev g (d + 7) wk_m122 _ 4 [(0, .inr (.inr (.inl (some 259)))), (1, .inl (Int32.ofNat N))] [] h2
  have hC2 : fu_B B h2 := fs_B_f (fun x => hF2 260 x (by decide)) hC0
  refine kx_go 1 (pc' := 5) (L' := [(0, .inr (.inr (.inl (some 259)))), (1, .inl (Int32.ofNat N))]) (S' := [.inr (.inr (.inl (some 259)))]) (h' := h2) (by with_unfolding_all rfl) ?_
  refine kc_call_rule (M2 := wk_m123) (av := [.inr (.inr (.inl (some 259)))]) (r := []) rfl rfl (kc_Con_le (fs_r123 (d := d) hg hw2 hC2 hL eL) (by omega)) (fun rv h3 hq => ?_)
  obtain ⟨rfl, hw3, hz3, hF3⟩ := hq
  show kc_Ev g (d + 7) wk_m122 _ 8 [(0, .inr (.inr (.inl (some 259)))), (1, .inl (Int32.ofNat N))] [] h3
  refine kx_go 2 (pc' := 12) (L' := [(0, .inr (.inr (.inl (some 259)))), (1, .inl (Int32.ofNat N))]) (S' := [.inl (Int32.ofNat 1000000), .inr (.inr (.inl (some 259)))]) (h' := h3) (by with_unfolding_all rfl) ?_
  have hw4 : kd_wt kd_ty (kc_upd h3 259 33 (.inl (Int32.ofNat 1000000))) := fa_wa fs_k273.2.2.2.2.2.2.2 hw3
  refine kx_go 1 (pc' := 15) (L' := [(0, .inr (.inr (.inl (some 259)))), (1, .inl (Int32.ofNat N))]) (S' := []) (h' := (kc_upd h3 259 33 (.inl (Int32.ofNat 1000000)))) (by with_unfolding_all rfl) ?_
  refine kx_go 2 (pc' := 17) (L' := [(2, .inl (Int32.ofNat 0)), (0, .inr (.inr (.inl (some 259)))), (1, .inl (Int32.ofNat N))]) (S' := []) (h' := (kc_upd h3 259 33 (.inl (Int32.ofNat 1000000)))) (by with_unfolding_all rfl) ?_
  refine kf_lo (L := [(2, .inl (Int32.ofNat 0)), (1, .inl (Int32.ofNat N)), (0, .inr (.inr (.inl (some 259))))]) (by intro q hq; simp only [List.mem_cons, List.not_mem_nil, or_false] at hq; rcases hq with rfl | rfl | rfl <;> rfl) ?_
  refine fs_r122l (f := f) hg hB hC0 hn en hL eL hM eM hN hml N 0 _ (by omega) (by omega) ⟨hw4, fun l hl => (fu_ne (by omega)).trans (hz3 l hl), fun q l hl => by show 0 < 2 * M; omega, ⟨fu_eq, Nat.le_refl _⟩, fun l hl => (fu_ne (by omega)).trans ((hF3 278 l (by omega)).trans ((hF2 278 l (by omega)).trans (hf0 l hl))), fs_sp_f (fun a y q1 q2 => (fu_ne (by omega)).trans (hF3 a y (by omega))) hsp2, fun a y q1 q2 => (fu_ne q1).trans ((hF3 a y (by omega)).trans (hF2 a y (by omega)))⟩
theorem fs_anyn (x : Int32) : ∃ k : Nat, x = Int32.ofNat k := ⟨x.toInt.toNat + (if x.toInt < 0 then 0 else 0) + (if x.toInt < 0 then (x.toInt + 4294967296).toNat else 0), by
  by_cases c : x.toInt < 0
  · rw [if_pos c, if_pos c, show x.toInt.toNat = 0 by omega, Nat.zero_add]
    apply Int32.toInt_inj.mp
    rw [Int32.toInt_ofNat', Int.toNat_of_nonneg (by have := x.le_toInt; omega)]
    have h1 := x.le_toInt
    have h2 := x.toInt_lt
    rw [Int.bmod_def, show (Int32.size : Int) = 4294967296 from rfl]
    omega
  · rw [if_neg c, if_neg c, Nat.add_zero]
    apply Int32.toInt_inj.mp
    have h2 := x.toInt_lt
    rw [kx_ti (by omega)]
    omega⟩
/-- the rows' table, as far as it is used, told by numbers *or* by what stood there -/
theorem fs_fnd2 {h : kc_H} (hw : kd_wt kd_ty h) {c L : Nat} (hL : L ≤ 10) (hk : ∀ i, i < 10 → kd_rn (kd_ty c) i = some (0, 2147483647, 2147483648 + 5)) : ∃ f : Nat → Nat, ∀ j, j < L → h c j = .inl (Int32.ofNat (f j)) := by
  have hf : ∀ j, ∃ v : Nat, j < L → h c j = .inl (Int32.ofNat v) := fun j => by
    by_cases hj : j < L
    · obtain ⟨v, e, _⟩ := hw c j _ (hk j (by omega))
      obtain ⟨k, ek⟩ := fs_anyn v
      exact ⟨k, fun _ => by rw [e, ek]⟩
    · exact ⟨0, fun q => absurd q hj⟩
  obtain ⟨f, hf⟩ := Classical.axiomOfChoice hf
  exact ⟨f, hf⟩
set_option maxRecDepth 20000 in
theorem fs_r120t {g : kc_G} {d : Nat} {h : kc_H} {B : Nat → Int32} {n L M : Nat} {a : Int32} (hg : kc_ok g) (hw : kd_wt kd_ty h) (hC : fu_B B h) (hB : fu_BT B) (hn : n ≤ 5) (en : B 3 = Int32.ofNat n) (hM : M ≤ 3) (eM : B 1 = Int32.ofNat M) (hL : L ≤ 10) (eL : B 2 = Int32.ofNat L) (hdl : ∀ i j, i < n → j < n → fs_D B n i = fs_D B n j → i = j) (ha : a = Int32.ofInt (-1) ∨ ∃ l, l < L ∧ a = Int32.ofNat l) : kc_Ev g (d + 9) wk_m120 (fun rv h' => rv = some (.inl (fs_stv B (fs_D B n) n L M a)) ∧ kd_wt kd_ty h' ∧ ∀ a x, ¬ (a = 259 ∧ x = 33) → ¬ (272 ≤ a ∧ a ≤ 278) → h' a x = h a x) 16 [(0, .inr (.inr (.inl (some 259)))), (1, .inl (a))] [] h := by
  unfold fs_stv
  have b := fs_hn_b hM L
  refine kx_go 1 (pc' := 17) (L' := [(0, .inr (.inr (.inl (some 259)))), (1, .inl (a))]) (S' := [.inr (.inr (.inl (some 259)))]) (h' := h) (by with_unfolding_all rfl) ?_
  refine kc_call_rule (M2 := wk_m121) (av := [.inr (.inr (.inl (some 259)))]) (r := []) rfl rfl (kc_Con_le (fs_r121 (d := d) hg hw hC hM eM hL eL) (by omega)) (fun rv hcc hq => ?_)
  obtain ⟨rfl, e9⟩ := hq
  rw [e9]
  clear e9
  show kc_Ev g (d + 9) wk_m120 _ 20 [(0, .inr (.inr (.inl (some 259)))), (1, .inl (a))] [.inl (fs_hv M L)] h
  refine kx_go 4 (pc' := (if kc_cnd .ne (fs_hv M L).toInt (Int32.ofInt (-1)).toInt then 29 else 26)) (L' := [(2, .inl (fs_hv M L)), (0, .inr (.inr (.inl (some 259)))), (1, .inl (a))]) (S' := []) (h' := h) (by with_unfolding_all rfl) ?_
  by_cases c : 5000 < fs_hn M L
  · rw [show fs_hv M L = Int32.ofInt (-1) from if_pos c, if_neg kx_m2, if_pos c]
    refine kx_go 1 (pc' := 28) (L' := [(2, .inl (Int32.ofInt (-1))), (0, .inr (.inr (.inl (some 259)))), (1, .inl (a))]) (S' := [.inl (Int32.ofInt (-20))]) (h' := h) (by with_unfolding_all rfl) ?_
    exact kc_ret_ok rfl (rv := some (.inl (Int32.ofInt (-20)))) rfl ⟨rfl, hw, fun _ _ _ _ => rfl⟩
  · rw [show fs_hv M L = Int32.ofNat (fs_hn M L) from if_neg c, if_pos (kx_nm2 (by omega)), if_neg c]
    obtain ⟨f, hf⟩ := fs_fnd2 (c := 278) hw hL fs_k273.2.2.2.2.2.2.1
    have ep := fs_hn_pow L (show fs_hn M L ≤ 5000 by omega)
    have hml : 0 < fs_hn M L → 0 < M ∨ L = 0 := fun q => by
      rcases Nat.eq_zero_or_pos M with e | e
      · rw [ep, e] at q
        cases L with
        | zero => exact Or.inr rfl
        | succ L => rw [Nat.mul_zero, Nat.zero_pow (Nat.succ_pos L)] at q; omega
      · exact Or.inl e
    have h22 := fs_T_2 (B := B) (D := fs_D B n) (n := n) (L := L) (M := M) (v := 1000000) (f := f) (g := fun _ => 0)
    have eT : (ms_it (2 * M) L (ms_J (fs_bor B (fs_D B n) n L M) (fs_wo B (fs_D B n) n L M)) (fs_hn M L) ((fun _ => 0), (1000000, f))).2 = fs_T B (fs_D B n) n L M 1000000 f := by
      rw [ep]
      exact ms_it_all
    have H122 := fs_r122 (g := g) (d := d) (D := fs_D B n) (f := f) hw hg hB hC hn en hL eL hM eM (show fs_hn M L ≤ 5000 by omega) hml (fun k hk => fs_Dv hB hn hk) (fun k => fs_Dl hB hn k) hdl hf
    rw [eT] at H122
    refine kx_go 2 (pc' := 31) (L' := [(2, .inl (Int32.ofNat (fs_hn M L))), (0, .inr (.inr (.inl (some 259)))), (1, .inl (a))]) (S' := [.inl (Int32.ofNat (fs_hn M L)), .inr (.inr (.inl (some 259)))]) (h' := h) (by with_unfolding_all rfl) ?_
    refine kc_call_rule (M2 := wk_m122) (av := [.inr (.inr (.inl (some 259))), .inl (Int32.ofNat (fs_hn M L))]) (r := []) rfl rfl (kc_Con_le (H122) (by omega)) (fun rv h2 hq => ?_)
    obtain ⟨rfl, c9, hR⟩ := hq
    show kc_Ev g (d + 9) wk_m120 _ 34 [(2, .inl (Int32.ofNat (fs_hn M L))), (0, .inr (.inr (.inl (some 259)))), (1, .inl (a))] [.inl (kp_b (decide ((fs_T B (fs_D B n) n L M 1000000 f).1 < 1000000)))] h2
    have hw2 := hR.1
    have hF2 := hR.2.2.2.2.2.2
    have e33 := hR.2.2.2.1.1
    have hfo := hR.2.2.2.2.1
    refine kx_go 1 (pc' := (if kc_cnd .ne (kp_b (decide ((fs_T B (fs_D B n) n L M 1000000 f).1 < 1000000))).toInt 0 then 42 else 37)) (L' := [(2, .inl (Int32.ofNat (fs_hn M L))), (0, .inr (.inr (.inl (some 259)))), (1, .inl (a))]) (S' := []) (h' := h2) (by with_unfolding_all rfl) ?_
    rw [← h22.1]
    by_cases c2 : (fs_T B (fs_D B n) n L M 1000000 f).1 < 1000000
    · rw [decide_eq_true c2, if_pos (kx_b1.mpr rfl), if_pos c2, ← h22.2 c2]
      refine kx_go 3 (pc' := (if kc_cnd .ne (a).toInt (Int32.ofInt (-1)).toInt then 54 else 47)) (L' := [(2, .inl (Int32.ofNat (fs_hn M L))), (0, .inr (.inr (.inl (some 259)))), (1, .inl (a))]) (S' := []) (h' := h2) (by with_unfolding_all rfl) ?_
      rcases ha with ha | ⟨l, hll, ha⟩
      · subst ha
        rw [if_neg kx_m2, if_pos rfl]
        refine kx_go 1 (pc' := 48) (L' := [(2, .inl (Int32.ofNat (fs_hn M L))), (0, .inr (.inr (.inl (some 259)))), (1, .inl (Int32.ofInt (-1)))]) (S' := [.inr (.inr (.inl (some 259)))]) (h' := h2) (by with_unfolding_all rfl) ?_
        refine kx_getf (c := 259) (v := .inl (Int32.ofNat (fs_T B (fs_D B n) n L M 1000000 f).1)) rfl (by decide) e33 ?_
        refine kx_go 1 (pc' := 60) (L' := [(2, .inl (Int32.ofNat (fs_hn M L))), (0, .inr (.inr (.inl (some 259)))), (1, .inl (Int32.ofInt (-1)))]) (S' := [.inl (Int32.ofNat (fs_T B (fs_D B n) n L M 1000000 f).1)]) (h' := h2) (by with_unfolding_all rfl) ?_
        exact kc_ret_ok rfl (rv := some (.inl (Int32.ofNat (fs_T B (fs_D B n) n L M 1000000 f).1))) rfl ⟨rfl, hw2, hF2⟩
      · subst ha
        rw [if_pos (kx_nm2 (by omega)), if_neg (fun q => by have := congrArg Int32.toInt q; rw [kx_ti (by omega), show (Int32.ofInt (-1)).toInt = -1 by decide] at this; omega), kx_ti (show l < 2147483648 by omega), Int.toNat_natCast]
        refine kx_go 1 (pc' := 55) (L' := [(2, .inl (Int32.ofNat (fs_hn M L))), (0, .inr (.inr (.inl (some 259)))), (1, .inl (Int32.ofNat l))]) (S' := [.inr (.inr (.inl (some 259)))]) (h' := h2) (by with_unfolding_all rfl) ?_
        refine kx_getf (c := 259) (v := .inr (.inr (.inl (some 278)))) rfl (by decide) (kx_ofr (hw2 _ _ _ fs_k259_32)) ?_
        refine kx_go 1 (pc' := 59) (L' := [(2, .inl (Int32.ofNat (fs_hn M L))), (0, .inr (.inr (.inl (some 259)))), (1, .inl (Int32.ofNat l))]) (S' := [.inl (Int32.ofNat l), .inr (.inr (.inl (some 278)))]) (h' := h2) (by with_unfolding_all rfl) ?_
        refine kx_iald (c := 278) (j := l) (m := 10) (v := .inl (Int32.ofNat ((fs_T B (fs_D B n) n L M 1000000 f).2 l))) rfl rfl (by decide) (by decide) (by omega) (hfo l hll) ?_
        exact kc_ret_ok rfl (rv := some (.inl (Int32.ofNat ((fs_T B (fs_D B n) n L M 1000000 f).2 l)))) rfl ⟨rfl, hw2, hF2⟩
    · rw [decide_eq_false c2, if_neg (show ¬ (kc_cnd .ne (kp_b false).toInt 0 = true) from fun q => by have := kx_b1.mp q; cases this), if_neg c2]
      refine kx_go 2 (pc' := 60) (L' := [(2, .inl (Int32.ofNat (fs_hn M L))), (0, .inr (.inr (.inl (some 259)))), (1, .inl (a))]) (S' := [.inl (Int32.ofInt (-5))]) (h' := h2) (by with_unfolding_all rfl) ?_
      exact kc_ret_ok rfl (rv := some (.inl (Int32.ofInt (-5)))) rfl ⟨rfl, hw2, hF2⟩
set_option maxRecDepth 20000 in
theorem fs_r120 {g : kc_G} {d : Nat} {h : kc_H} {B : Nat → Int32} {n L M : Nat} {a : Int32} (hg : kc_ok g) (hw : kd_wt kd_ty h) (hC : fu_B B h) (hB : fu_BT B) (hn : n ≤ 5) (en : B 3 = Int32.ofNat n) (hM : M ≤ 3) (eM : B 1 = Int32.ofNat M) (hL : L ≤ 10) (eL : B 2 = Int32.ofNat L) (hdl : ∀ i j, i < n → j < n → fs_D B n i = fs_D B n j → i = j) : kc_Con g (d + 10) 120 [.inr (.inr (.inl (some 259))), .inl a] h (fun rv h' => rv = some (.inl (fs_stays B (fs_D B n) n L M a)) ∧ kd_wt kd_ty h' ∧ ∀ a x, ¬ (a = 259 ∧ x = 33) → ¬ (272 ≤ a ∧ a ≤ 278) → h' a x = h a x) := by
  have z2 : (B 2).toInt - 1 = (L : Int) - 1 := by rw [eL, kx_ti (by omega)]
  unfold fs_stays
  refine kc_Con_new hg (M := wk_m120) rfl rfl rfl (show 2 ≤ 3 by decide) ?_
  refine kx_go 3 (pc' := (if kc_cnd .eq (a).toInt (Int32.ofInt (-1)).toInt then 16 else 5)) (L' := [(0, .inr (.inr (.inl (some 259)))), (1, .inl (a))]) (S' := []) (h' := h) (by with_unfolding_all rfl) ?_
  by_cases e : a = Int32.ofInt (-1)
  · rw [if_pos (fu_ieq.mpr (by rw [e])), if_pos (Or.inl e)]
    exact fs_r120t hg hw hC hB hn en hM eM hL eL hdl (Or.inl e)
  · rw [if_neg (fun q => fs_m1n e (fu_ieq.mp q))]
    refine kx_go 2 (pc' := 7) (L' := [(0, .inr (.inr (.inl (some 259)))), (1, .inl (a))]) (S' := [.inl (a), .inr (.inr (.inl (some 259)))]) (h' := h) (by with_unfolding_all rfl) ?_
    refine kc_call_rule (M2 := wk_m48) (av := [.inr (.inr (.inl (some 259))), .inl (a)]) (r := []) rfl rfl (kc_Con_le (fu_r48 (d := 0) hg hw hC hB) (by omega)) (fun rv hcc hq => ?_)
    obtain ⟨rfl, e9⟩ := hq
    rw [e9]
    clear e9
    show kc_Ev g (d + 9) wk_m120 _ 10 [(0, .inr (.inr (.inl (some 259)))), (1, .inl (a))] [.inl (kp_b (fu_in a 0 ((B 2).toInt - 1)))] h
    refine kx_go 1 (pc' := (if kc_cnd .ne (kp_b (fu_in a 0 ((B 2).toInt - 1))).toInt 0 then 16 else 13)) (L' := [(0, .inr (.inr (.inl (some 259)))), (1, .inl (a))]) (S' := []) (h' := h) (by with_unfolding_all rfl) ?_
    rw [z2]
    cases e2 : fu_in a 0 ((L : Int) - 1) with
    | false =>
      rw [if_neg (show ¬ (kc_cnd .ne (kp_b false).toInt 0 = true) from fun q => by have := kx_b1.mp q; cases this), if_neg (fun q => q.elim e (fun q => by cases q))]
      refine kx_go 1 (pc' := 15) (L' := [(0, .inr (.inr (.inl (some 259)))), (1, .inl (a))]) (S' := [.inl (Int32.ofInt (-10))]) (h' := h) (by with_unfolding_all rfl) ?_
      exact kc_ret_ok rfl (rv := some (.inl (Int32.ofInt (-10)))) rfl ⟨rfl, hw, fun _ _ _ _ => rfl⟩
    | true =>
      rw [if_pos (kx_b1.mpr rfl), if_pos (Or.inr rfl)]
      obtain ⟨l, hl9, el, -, hl⟩ := fu_in_n (u := 9) e2 (Int.le_refl 0) (by omega)
      exact fs_r120t hg hw hC hB hn en hM eM hL eL hdl (Or.inr ⟨l, by omega, el⟩)
/-- the lined doors are different ones -/
theorem fs_dis {B : Nat → Int32} {h : kc_H} {n : Nat} (hB : fu_BT B) (hC : fu_B B h) (hn : n ≤ 5) (en : B 3 = Int32.ofNat n) (hI : kI h 260 0) : (∀ i j, i < n → j < n → fs_D B n i = fs_D B n j → i = j) ∧ ∀ i, i < n → 1 ≤ fs_D B n i := by
  obtain ⟨n', l, h1, h2, h3, h4⟩ := hI
  have e3 := (hC 3 (by decide) (by decide)).symm.trans h2
  rw [en] at e3
  have e4 := congrArg Int32.toInt (Sum.inl.inj e3)
  rw [kx_ti (by omega), kx_ti (by omega)] at e4
  have e5 : n' = n := by omega
  rw [e5] at h3 h4
  have el : ∀ i, i < n → fs_D B n i = l i := fun i hi => by
    have q := (hC (150 + i) (by omega) (fu_fli i (by omega)).2.1).symm.trans ((by rw [Nat.zero_add] : h 260 (150 + i) = h 260 (0 + 150 + i)).trans (h3 i hi).2.2)
    rw [fs_Dv hB hn hi] at q
    have q2 := congrArg Int32.toInt (Sum.inl.inj q)
    have := fs_Dl hB hn i
    have := (h3 i hi).2.1
    rw [kx_ti (by omega), kx_ti (by omega)] at q2
    omega
  refine ⟨fun i j hi hj e => ?_, fun i hi => by rw [el i hi]; exact (h3 i hi).1⟩
  rw [el i hi, el j hj] at e
  rcases Nat.lt_trichotomy i j with q | q | q
  · exact absurd e (h4 i j q hj)
  · exact q
  · exact absurd e.symm (h4 j i q hi)
theorem fs_keep {h h' : kc_H} (hI : fu_I h) (hw : kd_wt kd_ty h') (e : ∀ c x, ¬ (204 ≤ c ∧ c ≤ 252) → ¬ (264 ≤ c ∧ c ≤ 288) → ¬ c = 259 → h' c x = h c x) : fu_I h' := by
  obtain ⟨B, hC, hR⟩ := hI.2.1
  exact fu_now hI hw ⟨B, fun j hj ht => (e _ _ (by have := fs_p31 j hj; omega) (by have := fs_p31 j hj; omega) (by have := fs_p31 j hj; omega)).trans (hC j hj ht), fun j hj ht => (e 260 _ (by decide) (by decide) (by decide)).trans (hR j hj ht)⟩ (fun c i c1 c2 => e c i (by omega) (by omega) (by omega)) (fun c i q => e c i (by omega) (by omega) (by omega)) (kI_eq (e 260 _ (by decide) (by decide) (by decide)) (fun i _ => e 260 _ (by decide) (by decide) (by decide)) hI.2.2.2.2.2.1)
theorem fU_Xstays {g : kc_G} {h : kc_H} {a : Int32} (hg : kc_ok g) (hI : fu_I h) : kc_Con g 30 114 [.inr (.inr (.inl (some 0))), .inl a] h (fun rv h1 => ∃ z : Int32, rv = some (.inl z) ∧ kc_Con g 30 120 [.inr (.inr (.inl (some 259))), .inl a] h1 (fun rv2 h2 => rv2 = some (.inl z) ∧ fu_I h2)) := by
  obtain ⟨B, hC, hR⟩ := hI.2.1
  have hB := fu_C_T hI.1 hC
  obtain ⟨n, hn, en⟩ := fu_n3 hB
  obtain ⟨M, hM, eM⟩ := fu_n1 hB
  obtain ⟨L, hL, eL⟩ := fu_n2 hB
  have hdl := (fs_dis hB hR hn en hI.2.2.2.2.2.1).1
  refine kc_Con_mono (kc_Con_le (fs_c114 (d := 0) hg hI.1 hC hB hn en hM eM hL eL) (by decide)) (fun rv h1 hq => ?_)
  obtain ⟨rfl, w1, f1⟩ := hq
  have R1 : fu_B B h1 := fun j hj ht => (f1 260 j (by omega)).trans (hR j hj ht)
  refine ⟨_, rfl, kc_Con_mono (kc_Con_le (fs_r120 (d := 0) hg w1 R1 hB hn en hM eM hL eL hdl) (by decide)) (fun rv2 h2 hq => ?_)⟩
  obtain ⟨rfl, w2, f2⟩ := hq
  exact ⟨rfl, fs_keep hI w2 (fun c x q1 q2 q3 => (f2 c x (fun q => q3 q.1) (by omega)).trans (f1 c x (by omega)))⟩
end
section
-- 99.zqc
/-! ===== BEST: the orders of the DOORS, as both sides make them ===== -/
def pb_sw (o : Nat → Nat) (a b : Nat) : Nat → Nat := ms_u (ms_u o a (o b)) b (o a)
def pb_ri (o : Nat → Nat) : Nat → Option Nat
  | 0 => none
  | k + 1 => if o (k + 1) < o k then pb_ri o k else some k
def pb_ne (o : Nat → Nat) (k : Nat) : Nat → Nat
  | 0 => k
  | t + 1 => if o (k + t + 1) < o k then pb_ne o k t else k + t + 1
def pb_rev : Nat → Nat → Nat → (Nat → Nat) → (Nat → Nat)
  | 0, _, _, o => o
  | u + 1, a, b, o => if a < b then pb_rev u (a + 1) (b - 1) (pb_sw o a b) else o
/-- the class: the next order -/
def pb_no (n : Nat) (o : Nat → Nat) : Option (Nat → Nat) := match pb_ri o (n - 1) with
  | none => none
  | some k => some (pb_rev n (k + 1) (n - 1) (pb_sw o k (pb_ne o k (n - 1 - k))))
/-- the reference: the next row -/
def pb_up (n : Nat) (f : Nat → Nat) (k : Nat) : Nat → Nat → Nat
  | 0, x => x
  | u + 1, x => if x < n ∧ kw_t f x k = true then pb_up n f k u (x + 1) else x
def pb_fi (f : Nat → Nat) (k : Nat) : Nat → Nat → Nat
  | 0, x => x
  | u + 1, x => if kw_t f x k = true then pb_fi f k u (x + 1) else x
def pb_fl : Nat → Nat → (Nat → Nat) → (Nat → Nat)
  | 0, _, f => f
  | u + 1, k, f => pb_fl u (k + 1) (ms_u f k (pb_fi f k (k + 1) 0))
def pb_nr (n : Nat) : Nat → (Nat → Nat) → Option (Nat → Nat)
  | 0, _ => none
  | k + 1, f => if pb_up n f k n (f k + 1) < n then some (pb_fl (n - (k + 1)) (k + 1) (ms_u f k (pb_up n f k n (f k + 1)))) else pb_nr n k (ms_u f k (pb_up n f k n (f k + 1)))
def pb_g (l : List Nat) : Nat → Nat := fun j => l.getD j 0
def pb_m (n : Nat) (o : Option (Nat → Nat)) : Option (List Nat) := match o with
  | none => none
  | some f => some ((List.range n).map f)
/-- both go the same way from a row, to the end, within so many -/
def pb_w (n : Nat) : Nat → List Nat → Bool
  | 0, _ => false
  | u + 1, l => decide (pb_m n (pb_nr n n (pb_g l)) = pb_m n (pb_no n (pb_g l))) && (decide (l.length = n) && (ms_all (fun j => decide (pb_g l j < n)) n && (ms_all (fun i => ms_all (fun j => decide (i = j) || !decide (pb_g l i = pb_g l j)) n) n && match pb_m n (pb_nr n n (pb_g l)) with
    | none => true
    | some l2 => pb_w n u l2)))
theorem pb_w_ok : ∀ n, n < 6 → pb_w n 120 (List.range n) = true := by decide +kernel

theorem pb_gm {n j : Nat} {f : Nat → Nat} (hj : j < n) : pb_g ((List.range n).map f) j = f j := by
  unfold pb_g
  rw [List.getD_eq_getElem?_getD, List.getElem?_map, List.getElem?_range hj]
  rfl
theorem pb_gr {n j : Nat} (hj : j < n) : pb_g (List.range n) j = j := by
  unfold pb_g
  rw [List.getD_eq_getElem?_getD, List.getElem?_range hj]
  rfl
theorem pb_w_s {n u : Nat} {l : List Nat} (h : pb_w n (u + 1) l = true) : pb_m n (pb_nr n n (pb_g l)) = pb_m n (pb_no n (pb_g l)) ∧ (∀ j, j < n → pb_g l j < n) ∧ (∀ i j, i < n → j < n → pb_g l i = pb_g l j → i = j) ∧ ∀ l2, pb_m n (pb_nr n n (pb_g l)) = some l2 → pb_w n u l2 = true := by
  unfold pb_w at h
  rw [Bool.and_eq_true, Bool.and_eq_true, Bool.and_eq_true, Bool.and_eq_true] at h
  obtain ⟨h1, h2, h3, h4, h5⟩ := h
  refine ⟨of_decide_eq_true h1, fun j hj => of_decide_eq_true ((ms_all_iff n).mp h3 j hj), fun i j hi hj e => ?_, fun l2 e => ?_⟩
  · have q := (ms_all_iff n).mp ((ms_all_iff n).mp h4 i hi) j hj
    rw [Bool.or_eq_true] at q
    rcases q with q | q
    · exact of_decide_eq_true q
    · rw [decide_eq_true e] at q; cases q
  · rw [e] at h5
    exact h5
/-- the orders of other numbers that lie alike -/
theorem pb_ri_S {S : Nat → Nat} {f o : Nat → Nat} {n : Nat} (ho : ∀ j, j < n → o j = S (f j)) (hS : ∀ i j, i < n → j < n → (S (f i) < S (f j) ↔ f i < f j)) : ∀ r, r ≤ n - 1 → pb_ri o r = pb_ri f r
  | 0, _ => rfl
  | k + 1, hr => by
    show (if o (k + 1) < o k then pb_ri o k else some k) = (if f (k + 1) < f k then pb_ri f k else some k)
    rw [pb_ri_S ho hS k (by omega), ho k (by omega), ho (k + 1) (by omega)]
    have e := hS (k + 1) k (by omega) (by omega)
    by_cases c : f (k + 1) < f k
    · rw [if_pos c, if_pos (e.mpr c)]
    · rw [if_neg c, if_neg (fun q => c (e.mp q))]
theorem pb_ne_S {S : Nat → Nat} {f o : Nat → Nat} {n k : Nat} (ho : ∀ j, j < n → o j = S (f j)) (hS : ∀ i j, i < n → j < n → (S (f i) < S (f j) ↔ f i < f j)) : ∀ t, k + t < n → pb_ne o k t = pb_ne f k t
  | 0, _ => rfl
  | t + 1, ht => by
    show (if o (k + t + 1) < o k then pb_ne o k t else k + t + 1) = (if f (k + t + 1) < f k then pb_ne f k t else k + t + 1)
    rw [pb_ne_S ho hS t (by omega), ho k (by omega), ho (k + t + 1) (by omega)]
    have e := hS (k + t + 1) k (by omega) (by omega)
    by_cases c : f (k + t + 1) < f k
    · rw [if_pos c, if_pos (e.mpr c)]
    · rw [if_neg c, if_neg (fun q => c (e.mp q))]
theorem pb_ne_le {f : Nat → Nat} {k : Nat} : ∀ t, pb_ne f k t ≤ k + t
  | 0 => Nat.le_refl _
  | t + 1 => by
    show (if f (k + t + 1) < f k then pb_ne f k t else k + t + 1) ≤ _
    by_cases c : f (k + t + 1) < f k
    · rw [if_pos c]; have := pb_ne_le (f := f) (k := k) t; omega
    · rw [if_neg c]; omega
theorem pb_sw_S {S : Nat → Nat} {f o : Nat → Nat} {n a b : Nat} (ha : a < n) (hb : b < n) (ho : ∀ j, j < n → o j = S (f j)) : ∀ j, j < n → pb_sw o a b j = S (pb_sw f a b j) := fun j hj => by
  unfold pb_sw
  by_cases e1 : j = b
  · rw [e1, ms_ue, ms_ue, ho a ha]
  · rw [ms_un e1, ms_un e1]
    by_cases e2 : j = a
    · rw [e2, ms_ue, ms_ue, ho b hb]
    · rw [ms_un e2, ms_un e2, ho j hj]
theorem pb_rev_S {S : Nat → Nat} {n : Nat} : ∀ (u a b : Nat) (f o : Nat → Nat), b < n → (∀ j, j < n → o j = S (f j)) → ∀ j, j < n → pb_rev u a b o j = S (pb_rev u a b f j)
  | 0, a, b, f, o, hb, ho => ho
  | u + 1, a, b, f, o, hb, ho => by
    show ∀ j, j < n → (if a < b then pb_rev u (a + 1) (b - 1) (pb_sw o a b) else o) j = S ((if a < b then pb_rev u (a + 1) (b - 1) (pb_sw f a b) else f) j)
    by_cases c : a < b
    · rw [if_pos c, if_pos c]
      exact pb_rev_S u (a + 1) (b - 1) _ _ (by omega) (pb_sw_S (by omega) hb ho)
    · rw [if_neg c, if_neg c]
      exact ho
theorem pb_ri_lt {o : Nat → Nat} {k : Nat} : ∀ r, pb_ri o r = some k → k < r
  | 0, h => by cases h
  | r + 1, h => by
    have h : (if o (r + 1) < o r then pb_ri o r else some r) = some k := h
    by_cases c : o (r + 1) < o r
    · rw [if_pos c] at h
      have := pb_ri_lt r h
      omega
    · rw [if_neg c] at h
      cases h
      exact Nat.lt_succ_self _
theorem pb_no_S {S : Nat → Nat} {f o : Nat → Nat} {n : Nat} (ho : ∀ j, j < n → o j = S (f j)) (hS : ∀ i j, i < n → j < n → (S (f i) < S (f j) ↔ f i < f j)) : (pb_no n f = none ∧ pb_no n o = none) ∨ ∃ f2 o2, pb_no n f = some f2 ∧ pb_no n o = some o2 ∧ ∀ j, j < n → o2 j = S (f2 j) := by
  unfold pb_no
  rw [pb_ri_S ho hS (n - 1) (Nat.le_refl _)]
  cases e : pb_ri f (n - 1) with
  | none => exact Or.inl ⟨rfl, rfl⟩
  | some k =>
    have hk := pb_ri_lt (n - 1) e
    refine Or.inr ⟨_, _, rfl, rfl, ?_⟩
    rw [pb_ne_S ho hS (n - 1 - k) (by omega)]
    have := pb_ne_le (f := f) (k := k) (n - 1 - k)
    exact pb_rev_S n (k + 1) (n - 1) _ _ (by omega) (pb_sw_S (by omega) (by omega) ho)
theorem kw_t_c {f g : Nat → Nat} {x : Nat} : ∀ m, (∀ j, j < m → g j = f j) → kw_t g x m = kw_t f x m
  | 0, _ => rfl
  | m + 1, h => by
    show (bif kw_t g x m then true else decide (g m = x)) = (bif kw_t f x m then true else decide (f m = x))
    rw [kw_t_c m (fun j hj => h j (by omega)), h m (by omega)]
/-- the DOORS of THE LINE, from the lowest on -/
def pb_il (D : Nat → Nat) (n d : Nat) : Bool := ms_any (fun k => decide (D k = d)) n
def pb_ls (D : Nat → Nat) (n : Nat) : Nat → Nat × (Nat → Nat)
  | 0 => (0, fun _ => 0)
  | d + 1 => if pb_il D n (d + 1) = true then ((pb_ls D n d).1 + 1, ms_u (pb_ls D n d).2 (pb_ls D n d).1 (d + 1)) else pb_ls D n d
theorem pb_ls_p {D : Nat → Nat} {n : Nat} : ∀ d, (pb_ls D n d).1 ≤ d ∧ (∀ j, j < (pb_ls D n d).1 → 1 ≤ (pb_ls D n d).2 j ∧ (pb_ls D n d).2 j ≤ d) ∧ (∀ i j, i < j → j < (pb_ls D n d).1 → (pb_ls D n d).2 i < (pb_ls D n d).2 j) ∧ ∀ x, 1 ≤ x → x ≤ d → pb_il D n x = true → ∃ j, j < (pb_ls D n d).1 ∧ (pb_ls D n d).2 j = x
  | 0 => ⟨Nat.le_refl _, (fun j hj => by cases hj), (fun i j _ hj => by cases hj), fun x h1 h2 => by omega⟩
  | d + 1 => by
    obtain ⟨h1, h2, h3, h4⟩ := pb_ls_p (D := D) (n := n) d
    have e : pb_ls D n (d + 1) = if pb_il D n (d + 1) = true then ((pb_ls D n d).1 + 1, ms_u (pb_ls D n d).2 (pb_ls D n d).1 (d + 1)) else pb_ls D n d := rfl
    rw [e]
    by_cases c : pb_il D n (d + 1) = true
    · rw [if_pos c]
      refine ⟨by show _ + 1 ≤ d + 1; omega, fun j hj => ?_, fun i j hij hj => ?_, fun x q1 q2 q3 => ?_⟩
      · have hj : j < (pb_ls D n d).1 + 1 := hj
        show 1 ≤ ms_u (pb_ls D n d).2 (pb_ls D n d).1 (d + 1) j ∧ ms_u (pb_ls D n d).2 (pb_ls D n d).1 (d + 1) j ≤ d + 1
        by_cases q : j = (pb_ls D n d).1
        · rw [q, ms_ue]; omega
        · rw [ms_un q]; have := h2 j (by omega); omega
      · have hj : j < (pb_ls D n d).1 + 1 := hj
        show ms_u (pb_ls D n d).2 (pb_ls D n d).1 (d + 1) i < ms_u (pb_ls D n d).2 (pb_ls D n d).1 (d + 1) j
        rw [ms_un (show ¬ i = (pb_ls D n d).1 by omega)]
        by_cases q : j = (pb_ls D n d).1
        · rw [q, ms_ue]; have := h2 i (by omega); omega
        · rw [ms_un q]; exact h3 i j hij (by omega)
      · by_cases q : x = d + 1
        · exact ⟨(pb_ls D n d).1, Nat.lt_succ_self _, by rw [q]; exact ms_ue⟩
        · obtain ⟨j, j1, j2⟩ := h4 x q1 (by omega) q3
          exact ⟨j, Nat.lt_succ_of_lt j1, (ms_un (by omega)).trans j2⟩
    · rw [if_neg c]
      exact ⟨by omega, fun j hj => by have := h2 j hj; omega, h3, fun x q1 q2 q3 => h4 x q1 (by
        by_cases q : x = d + 1
        · rw [q] at q3; exact absurd q3 c
        · omega) q3⟩
/-- they are as many as there are in THE LINE -/
theorem pb_ls_n {D : Nat → Nat} {n d : Nat} (hd : ∀ i, i < n → 1 ≤ D i ∧ D i ≤ d) (hi : ∀ i j, i < n → j < n → D i = D j → i = j) : n ≤ (pb_ls D n d).1 := by
  obtain ⟨h1, h2, h3, h4⟩ := pb_ls_p (D := D) (n := n) d
  refine Nat.le_of_not_lt (fun hlt => ?_)
  have hr : ∀ k, ∃ j, k < n → j < (pb_ls D n d).1 ∧ (pb_ls D n d).2 j = D k := fun k => by
    by_cases hk : k < n
    · obtain ⟨j, j1, j2⟩ := h4 (D k) (hd k hk).1 (hd k hk).2 ((ms_any_iff n).mpr ⟨k, hk, decide_eq_true rfl⟩)
      exact ⟨j, fun _ => ⟨j1, j2⟩⟩
    · exact ⟨0, fun q => absurd q hk⟩
  obtain ⟨r, hr⟩ := Classical.axiomOfChoice hr
  have hs : ∀ j, ∃ k, (∃ k2, k2 < n ∧ r k2 = j) → k < n ∧ r k = j := fun j => by
    by_cases hj : ∃ k2, k2 < n ∧ r k2 = j
    · obtain ⟨k, k1, k2⟩ := hj
      exact ⟨k, fun _ => ⟨k1, k2⟩⟩
    · exact ⟨0, fun q => absurd q hj⟩
  obtain ⟨s, hs⟩ := Classical.axiomOfChoice hs
  obtain ⟨v, v1, v2⟩ := kw_free (pb_ls D n d).1 s
  have hv : v < n := by omega
  have hrv := hr v hv
  have hsv := hs (r v) ⟨v, hv, rfl⟩
  have e : D (s (r v)) = D v := by
    rw [← (hr _ hsv.1).2, hsv.2, hrv.2]
  exact v2 (r v) hrv.1 (hi _ _ hsv.1 hv e)
end
section
-- 99.zqd
/-! ===== BEST, reference: rows and doors ===== -/
def fs_row (f : Nat → Nat) (n : Nat) (h : kc_H) : Prop := ∀ j, j < n → h 279 j = .inl (Int32.ofNat (f j)) ∧ f j ≤ 10
theorem fs_k279 : (∀ l, l < 10 → kd_rn (kd_ty 279) l = some (0, 2147483648, 2147483648 + 10)) ∧ (∀ l, l < 5 → kd_rn (kd_ty 280) l = some (0, 2147483648, 2147483648 + 5)) ∧ (∀ l, l < 5 → kd_rn (kd_ty 281) l = some (0, 0, 4294967295)) ∧ (∀ l, l < 5 → kd_rn (kd_ty 282) l = some (0, 2147483648, 2147483648 + 5)) ∧ (∀ l, l < 5 → kd_rn (kd_ty 260) (150 + l) = some (0, 2147483648, 2147483648 + 5)) ∧ kd_rn (kd_ty 259) 35 = some (0, 2147483648, 2147483648 + 10) ∧ kd_rn (kd_ty 259) 38 = some (0, 0, 4294967295) ∧ kd_rn (kd_ty 259) 39 = some (0, 0, 4294967295) := ⟨by decide +kernel, by decide +kernel, by decide +kernel, by decide +kernel, by decide +kernel, by decide +kernel, by decide +kernel, by decide +kernel⟩
theorem fs_row_u {f : Nat → Nat} {n k x : Nat} {h : kc_H} (hx : x ≤ 10) (hr : fs_row f n h) : fs_row (ms_u f k x) n (kc_upd h 279 k (.inl (Int32.ofNat x))) := fun j hj => by
  by_cases e : j = k
  · rw [e, ms_ue]; exact ⟨fu_eq, hx⟩
  · rw [ms_un e]; exact ⟨(fu_ne (fun q => e q.2)).trans (hr j hj).1, (hr j hj).2⟩
theorem fs_row_w {f : Nat → Nat} {n k x y : Nat} {h : kc_H} (hx : x ≤ 10) (hr : fs_row (ms_u f k y) n h) : fs_row (ms_u f k x) n (kc_upd h 279 k (.inl (Int32.ofNat x))) := by
  have := fs_row_u (k := k) hx hr
  rw [ms_uu] at this
  exact this
theorem fs_f9 {h h0 : kc_H} {c i : Nat} {v : kc_V} {P : Nat → Nat → Prop} (hF : ∀ a x, P a x → h a x = h0 a x) (hc : ∀ a x, P a x → ¬ (a = c ∧ x = i)) : ∀ a x, P a x → kc_upd h c i v a x = h0 a x := fun a x q => (fu_ne (hc a x q)).trans (hF a x q)
set_option maxRecDepth 20000 in
theorem fs_r264l {g : kc_G} {d : Nat} {h : kc_H} {f : Nat → Nat} {n k : Nat} (hw : kd_wt kd_ty h) (hn : n ≤ 10) (hk : k < n) (hr : fs_row f n h) : ∀ (u i : Nat), k - i = u → i ≤ k → kc_Ev g d wk_m264 (fun rv h' => rv = some (.inl (kp_b (kw_t f (f k) k))) ∧ h' = h) 4 [(3, .inl (Int32.ofNat i)), (2, .inl (kp_b (kw_t f (f k) i))), (0, .inr (.inr (.inl (some 259)))), (1, .inl (Int32.ofNat k))] [] h := by
  intro u
  induction u with
  | zero =>
    intro i hu hi
    refine kx_go 3 (pc' := (if kc_cnd .ge (Int32.ofNat i).toInt (Int32.ofNat k).toInt then 40 else 9)) (L' := [(3, .inl (Int32.ofNat i)), (2, .inl (kp_b (kw_t f (f k) i))), (0, .inr (.inr (.inl (some 259)))), (1, .inl (Int32.ofNat k))]) (S' := []) (h' := h) (by with_unfolding_all rfl) ?_
    rw [if_pos ((kx_ge (by omega) (by omega)).mpr (by omega))]
    have ei : i = k := by omega
    rw [ei]
    refine kx_go 1 (pc' := 41) (L' := [(3, .inl (Int32.ofNat k)), (2, .inl (kp_b (kw_t f (f k) k))), (0, .inr (.inr (.inl (some 259)))), (1, .inl (Int32.ofNat k))]) (S' := [.inl (kp_b (kw_t f (f k) k))]) (h' := h) (by with_unfolding_all rfl) ?_
    cases e : kw_t f (f k) k with
    | true => exact kc_ret_ok rfl (rv := some (.inl (kp_b true))) rfl ⟨rfl, rfl⟩
    | false => exact kc_ret_ok rfl (rv := some (.inl (kp_b false))) rfl ⟨rfl, rfl⟩
  | succ u ih =>
    intro i hu hi
    refine kx_go 3 (pc' := (if kc_cnd .ge (Int32.ofNat i).toInt (Int32.ofNat k).toInt then 40 else 9)) (L' := [(3, .inl (Int32.ofNat i)), (2, .inl (kp_b (kw_t f (f k) i))), (0, .inr (.inr (.inl (some 259)))), (1, .inl (Int32.ofNat k))]) (S' := []) (h' := h) (by with_unfolding_all rfl) ?_
    rw [if_neg (fun q => by have := (kx_ge (by omega) (by omega)).mp q; omega)]
    have r1 := hr i (by omega)
    have r2 := hr k (by omega)
    have next : ∀ b : Bool, b = kw_t f (f k) (i + 1) → kc_Ev g d wk_m264 (fun rv h' => rv = some (.inl (kp_b (kw_t f (f k) k))) ∧ h' = h) 33 [(3, .inl (Int32.ofNat i)), (2, .inl (kp_b (kw_t f (f k) i))), (0, .inr (.inr (.inl (some 259)))), (1, .inl (Int32.ofNat k))] [.inl (kp_b b)] h := by
      intro b eb
      refine kx_go 3 (pc' := 4) (L' := [(3, .inl ((Int32.ofNat i) + Int32.ofInt 1)), (2, .inl (kp_b b)), (0, .inr (.inr (.inl (some 259)))), (1, .inl (Int32.ofNat k))]) (S' := []) (h' := h) (by with_unfolding_all rfl) ?_
      rw [kx_inc, eb]
      refine kf_lo (L := [(3, .inl (Int32.ofNat (i + 1))), (2, .inl (kp_b (kw_t f (f k) (i + 1)))), (0, .inr (.inr (.inl (some 259)))), (1, .inl (Int32.ofNat k))]) (by intro q hq; simp only [List.mem_cons, List.not_mem_nil, or_false] at hq; rcases hq with rfl | rfl | rfl | rfl <;> rfl) ?_
      exact ih (i + 1) (by omega) (by omega)
    have eN : kw_t f (f k) (i + 1) = bif kw_t f (f k) i then true else decide (f i = f k) := rfl
    refine kx_go 2 (pc' := (if kc_cnd .ne (kp_b (kw_t f (f k) i)).toInt 0 then 28 else 13)) (L' := [(3, .inl (Int32.ofNat i)), (2, .inl (kp_b (kw_t f (f k) i))), (0, .inr (.inr (.inl (some 259)))), (1, .inl (Int32.ofNat k))]) (S' := []) (h' := h) (by with_unfolding_all rfl) ?_
    cases e : kw_t f (f k) i with
    | true =>
      have k9 := next true (by rw [eN, e]; rfl)
      rw [e] at k9
      rw [if_pos (kx_b1.mpr rfl)]
      refine kx_go 2 (pc' := 33) (L' := [(3, .inl (Int32.ofNat i)), (2, .inl (kp_b true)), (0, .inr (.inr (.inl (some 259)))), (1, .inl (Int32.ofNat k))]) (S' := [.inl (Int32.ofNat 1)]) (h' := h) (by with_unfolding_all rfl) ?_
      exact k9
    | false =>
      rw [if_neg (show ¬ (kc_cnd .ne (kp_b false).toInt 0 = true) from fun q => by have := kx_b1.mp q; cases this)]
      refine kx_go 1 (pc' := 14) (L' := [(3, .inl (Int32.ofNat i)), (2, .inl (kp_b false)), (0, .inr (.inr (.inl (some 259)))), (1, .inl (Int32.ofNat k))]) (S' := [.inr (.inr (.inl (some 259)))]) (h' := h) (by with_unfolding_all rfl) ?_
      refine kx_getf (c := 259) (v := .inr (.inr (.inl (some 279)))) rfl (by decide) (kx_ofr (hw _ _ _ fs_k259_34)) ?_
      refine kx_go 1 (pc' := 18) (L' := [(3, .inl (Int32.ofNat i)), (2, .inl (kp_b false)), (0, .inr (.inr (.inl (some 259)))), (1, .inl (Int32.ofNat k))]) (S' := [.inl (Int32.ofNat i), .inr (.inr (.inl (some 279)))]) (h' := h) (by with_unfolding_all rfl) ?_
      refine kx_iald (c := 279) (j := i) (m := 10) (v := .inl (Int32.ofNat (f i))) rfl rfl (by decide) (by decide) (by omega) r1.1 ?_
      refine kx_go 1 (pc' := 20) (L' := [(3, .inl (Int32.ofNat i)), (2, .inl (kp_b false)), (0, .inr (.inr (.inl (some 259)))), (1, .inl (Int32.ofNat k))]) (S' := [.inr (.inr (.inl (some 259))), .inl (Int32.ofNat (f i))]) (h' := h) (by with_unfolding_all rfl) ?_
      refine kx_getf (c := 259) (v := .inr (.inr (.inl (some 279)))) rfl (by decide) (kx_ofr (hw _ _ _ fs_k259_34)) ?_
      refine kx_go 1 (pc' := 24) (L' := [(3, .inl (Int32.ofNat i)), (2, .inl (kp_b false)), (0, .inr (.inr (.inl (some 259)))), (1, .inl (Int32.ofNat k))]) (S' := [.inl (Int32.ofNat k), .inr (.inr (.inl (some 279))), .inl (Int32.ofNat (f i))]) (h' := h) (by with_unfolding_all rfl) ?_
      refine kx_iald (c := 279) (j := k) (m := 10) (v := .inl (Int32.ofNat (f k))) rfl rfl (by decide) (by decide) (by omega) r2.1 ?_
      refine kx_go 1 (pc' := (if kc_cnd .ne (Int32.ofNat (f i)).toInt (Int32.ofNat (f k)).toInt then 32 else 28)) (L' := [(3, .inl (Int32.ofNat i)), (2, .inl (kp_b false)), (0, .inr (.inr (.inl (some 259)))), (1, .inl (Int32.ofNat k))]) (S' := []) (h' := h) (by with_unfolding_all rfl) ?_
      by_cases c : f i = f k
      · rw [if_neg (fun q => (kx_ne (by omega) (by omega)).mp q c)]
        have k9 := next true (by rw [eN, e]; exact (decide_eq_true c).symm)
        rw [e] at k9
        refine kx_go 2 (pc' := 33) (L' := [(3, .inl (Int32.ofNat i)), (2, .inl (kp_b false)), (0, .inr (.inr (.inl (some 259)))), (1, .inl (Int32.ofNat k))]) (S' := [.inl (Int32.ofNat 1)]) (h' := h) (by with_unfolding_all rfl) ?_
        exact k9
      · rw [if_pos ((kx_ne (by omega) (by omega)).mpr c)]
        have k9 := next false (by rw [eN, e]; exact (decide_eq_false c).symm)
        rw [e] at k9
        refine kx_go 1 (pc' := 33) (L' := [(3, .inl (Int32.ofNat i)), (2, .inl (kp_b false)), (0, .inr (.inr (.inl (some 259)))), (1, .inl (Int32.ofNat k))]) (S' := [.inl (Int32.ofNat 0)]) (h' := h) (by with_unfolding_all rfl) ?_
        exact k9
set_option maxRecDepth 20000 in
theorem fs_r264 {g : kc_G} {d : Nat} {h : kc_H} {f : Nat → Nat} {n k : Nat} (hg : kc_ok g) (hw : kd_wt kd_ty h) (hn : n ≤ 10) (hk : k < n) (hr : fs_row f n h) : kc_Con g (d + 1) 264 [.inr (.inr (.inl (some 259))), .inl (Int32.ofNat k)] h (fun rv h' => rv = some (.inl (kp_b (kw_t f (f k) k))) ∧ h' = h) := by
  refine kc_Con_new hg (M := wk_m264) rfl rfl rfl (show 2 ≤ 4 by decide) ?_
  refine kx_go 4 (pc' := 4) (L' := [(3, .inl (Int32.ofNat 0)), (2, .inl (Int32.ofNat 0)), (0, .inr (.inr (.inl (some 259)))), (1, .inl (Int32.ofNat k))]) (S' := []) (h' := h) (by with_unfolding_all rfl) ?_
  exact fs_r264l hw hn hk hr k 0 (by omega) (by omega)
set_option maxRecDepth 20000 in
theorem fs_r265l {g : kc_G} {d : Nat} {h0 : kc_H} {n b : Nat} (hg : kc_ok g) (hn : n ≤ 5) (h35 : h0 259 35 = .inl (Int32.ofNat n)) : ∀ (u k : Nat) (f : Nat → Nat) (h : kc_H), n - k = u → k ≤ n → kd_wt kd_ty h → fs_row f n h → (∀ a x, ¬ a = 279 → h a x = h0 a x) → kc_Ev g (d + 1) wk_m265 (fun rv h' => rv = some (.inl (kp_b true)) ∧ kd_wt kd_ty h' ∧ fs_row (pb_fl u k f) n h' ∧ ∀ a x, ¬ a = 279 → h' a x = h0 a x) 2 [(2, .inl (Int32.ofNat k)), (0, .inr (.inr (.inl (some 259)))), (1, .inl (Int32.ofNat b))] [] h := by
  intro u
  induction u with
  | zero =>
    intro k f h hu hk hw hr hF
    have e35 : h 259 35 = .inl (Int32.ofNat n) := (hF 259 35 (by decide)).trans h35
    refine kx_go 2 (pc' := 4) (L' := [(2, .inl (Int32.ofNat k)), (0, .inr (.inr (.inl (some 259)))), (1, .inl (Int32.ofNat b))]) (S' := [.inr (.inr (.inl (some 259))), .inl (Int32.ofNat k)]) (h' := h) (by with_unfolding_all rfl) ?_
    refine kx_getf (c := 259) (v := .inl (Int32.ofNat n)) rfl (by decide) e35 ?_
    refine kx_go 1 (pc' := (if kc_cnd .ge (Int32.ofNat k).toInt (Int32.ofNat n).toInt then 44 else 10)) (L' := [(2, .inl (Int32.ofNat k)), (0, .inr (.inr (.inl (some 259)))), (1, .inl (Int32.ofNat b))]) (S' := []) (h' := h) (by with_unfolding_all rfl) ?_
    rw [if_pos ((kx_ge (by omega) (by omega)).mpr (by omega))]
    refine kx_go 1 (pc' := 45) (L' := [(2, .inl (Int32.ofNat k)), (0, .inr (.inr (.inl (some 259)))), (1, .inl (Int32.ofNat b))]) (S' := [.inl (Int32.ofNat 1)]) (h' := h) (by with_unfolding_all rfl) ?_
    exact kc_ret_ok rfl (rv := some (.inl (kp_b true))) rfl ⟨rfl, hw, hr, hF⟩
  | succ u ih =>
    intro k f h hu hk hw hr hF
    have e35 : h 259 35 = .inl (Int32.ofNat n) := (hF 259 35 (by decide)).trans h35
    refine kx_go 2 (pc' := 4) (L' := [(2, .inl (Int32.ofNat k)), (0, .inr (.inr (.inl (some 259)))), (1, .inl (Int32.ofNat b))]) (S' := [.inr (.inr (.inl (some 259))), .inl (Int32.ofNat k)]) (h' := h) (by with_unfolding_all rfl) ?_
    refine kx_getf (c := 259) (v := .inl (Int32.ofNat n)) rfl (by decide) e35 ?_
    refine kx_go 1 (pc' := (if kc_cnd .ge (Int32.ofNat k).toInt (Int32.ofNat n).toInt then 44 else 10)) (L' := [(2, .inl (Int32.ofNat k)), (0, .inr (.inr (.inl (some 259)))), (1, .inl (Int32.ofNat b))]) (S' := []) (h' := h) (by with_unfolding_all rfl) ?_
    rw [if_neg (fun q => by have := (kx_ge (by omega) (by omega)).mp q; omega)]
    have hkn : k < n := by omega
    obtain ⟨w9, w1, w2⟩ := kw_free k f
    have inner : ∀ (v x : Nat) (h : kc_H), k + 1 - x = v → x ≤ k + 1 → (∀ y, y < x → kw_t f y k = true) → kd_wt kd_ty h → fs_row (ms_u f k x) n h → (∀ a x, ¬ a = 279 → h a x = h0 a x) → kc_Ev g (d + 1) wk_m265 (fun rv h' => rv = some (.inl (kp_b true)) ∧ kd_wt kd_ty h' ∧ fs_row (pb_fl u (k + 1) (ms_u f k (pb_fi f k v x))) n h' ∧ ∀ a x, ¬ a = 279 → h' a x = h0 a x) 17 [(2, .inl (Int32.ofNat k)), (0, .inr (.inr (.inl (some 259)))), (1, .inl (Int32.ofNat b))] [] h := by
      intro v
      induction v with
      | zero =>
        intro x h hv hx ht hw hr hF
        obtain ⟨i, i1, i2⟩ := (kw_t_iff k).mp (ht w9 (by omega))
        exact absurd i2 (w2 i i1)
      | succ v ihv =>
        intro x h hv hx ht hw hr hF
        have et : kw_t (ms_u f k x) (ms_u f k x k) k = kw_t f x k := by
          rw [ms_ue]
          exact kw_t_c k (fun j hj => ms_un (by omega))
        have rk := (hr k hkn).1
        rw [ms_ue] at rk
        refine kx_go 2 (pc' := 19) (L' := [(2, .inl (Int32.ofNat k)), (0, .inr (.inr (.inl (some 259)))), (1, .inl (Int32.ofNat b))]) (S' := [.inl (Int32.ofNat k), .inr (.inr (.inl (some 259)))]) (h' := h) (by with_unfolding_all rfl) ?_
        refine kc_call_rule (M2 := wk_m264) (av := [.inr (.inr (.inl (some 259))), .inl (Int32.ofNat k)]) (r := []) rfl rfl (kc_Con_le (fs_r264 (d := d) hg hw (show n ≤ 10 by omega) hkn hr) (by omega)) (fun rv hcc hq => ?_)
        obtain ⟨rfl, e9⟩ := hq
        rw [e9]
        clear e9
        rw [et]
        show kc_Ev g (d + 1) wk_m265 _ 22 [(2, .inl (Int32.ofNat k)), (0, .inr (.inr (.inl (some 259)))), (1, .inl (Int32.ofNat b))] [.inl (kp_b (kw_t f x k))] h
        refine kx_go 1 (pc' := (if kc_cnd .eq (kp_b (kw_t f x k)).toInt 0 then 38 else 25)) (L' := [(2, .inl (Int32.ofNat k)), (0, .inr (.inr (.inl (some 259)))), (1, .inl (Int32.ofNat b))]) (S' := []) (h' := h) (by with_unfolding_all rfl) ?_
        cases e : kw_t f x k with
        | true =>
          rw [if_neg fa_b0t]
          refine kx_go 1 (pc' := 26) (L' := [(2, .inl (Int32.ofNat k)), (0, .inr (.inr (.inl (some 259)))), (1, .inl (Int32.ofNat b))]) (S' := [.inr (.inr (.inl (some 259)))]) (h' := h) (by with_unfolding_all rfl) ?_
          refine kx_getf (c := 259) (v := .inr (.inr (.inl (some 279)))) rfl (by decide) (kx_ofr (hw _ _ _ fs_k259_34)) ?_
          refine kx_go 2 (pc' := 31) (L' := [(2, .inl (Int32.ofNat k)), (0, .inr (.inr (.inl (some 259)))), (1, .inl (Int32.ofNat b))]) (S' := [.inl (Int32.ofNat k), .inr (.inr (.inl (some 279))), .inl (Int32.ofNat k), .inr (.inr (.inl (some 279)))]) (h' := h) (by with_unfolding_all rfl) ?_
          refine kx_iald (c := 279) (j := k) (m := 10) (v := .inl (Int32.ofNat x)) rfl rfl (by decide) (by decide) (by omega) rk ?_
          refine kx_go 2 (pc' := 34) (L' := [(2, .inl (Int32.ofNat k)), (0, .inr (.inr (.inl (some 259)))), (1, .inl (Int32.ofNat b))]) (S' := [.inl ((Int32.ofNat x) + (Int32.ofNat 1)), .inl (Int32.ofNat k), .inr (.inr (.inl (some 279)))]) (h' := h) (by with_unfolding_all rfl) ?_
          rw [kx_add]
          refine kx_iast (c := 279) (j := k) (m := 10) rfl rfl (by decide) (by decide) (by omega) ?_
          refine kx_go 1 (pc' := 17) (L' := [(2, .inl (Int32.ofNat k)), (0, .inr (.inr (.inl (some 259)))), (1, .inl (Int32.ofNat b))]) (S' := []) (h' := (kc_upd h 279 k (.inl (Int32.ofNat (x + 1))))) (by with_unfolding_all rfl) ?_
          have e9 : pb_fi f k (v + 1) x = pb_fi f k v (x + 1) := if_pos e
          rw [e9]
          exact ihv (x + 1) _ (by omega) (by omega) (fun y hy => by
            by_cases c : y = x
            · rw [c]; exact e
            · exact ht y (by omega)) (fa_wn (fs_k279.1 k (by omega)) (show x + 1 ≤ 10 by omega) (by decide) hw) (fs_row_w (by omega) hr) (fun a y ha => (fu_ne (fun q => ha q.1)).trans (hF a y ha))
        | false =>
          rw [if_pos (kx_b0.mpr rfl)]
          refine kx_go 2 (pc' := 2) (L' := [(2, .inl ((Int32.ofNat k) + Int32.ofInt 1)), (0, .inr (.inr (.inl (some 259)))), (1, .inl (Int32.ofNat b))]) (S' := []) (h' := h) (by with_unfolding_all rfl) ?_
          rw [kx_inc]
          have e9 : pb_fi f k (v + 1) x = x := if_neg (by rw [e]; decide)
          rw [e9]
          exact ih (k + 1) (ms_u f k x) h (by omega) (by omega) hw hr hF
    refine kx_go 1 (pc' := 11) (L' := [(2, .inl (Int32.ofNat k)), (0, .inr (.inr (.inl (some 259)))), (1, .inl (Int32.ofNat b))]) (S' := [.inr (.inr (.inl (some 259)))]) (h' := h) (by with_unfolding_all rfl) ?_
    refine kx_getf (c := 259) (v := .inr (.inr (.inl (some 279)))) rfl (by decide) (kx_ofr (hw _ _ _ fs_k259_34)) ?_
    refine kx_go 2 (pc' := 16) (L' := [(2, .inl (Int32.ofNat k)), (0, .inr (.inr (.inl (some 259)))), (1, .inl (Int32.ofNat b))]) (S' := [.inl (Int32.ofNat 0), .inl (Int32.ofNat k), .inr (.inr (.inl (some 279)))]) (h' := h) (by with_unfolding_all rfl) ?_
    refine kx_iast (c := 279) (j := k) (m := 10) rfl rfl (by decide) (by decide) (by omega) ?_
    exact inner (k + 1) 0 _ (by omega) (by omega) (fun y hy => by omega) (fa_wn (v := 0) (fs_k279.1 k (by omega)) (Nat.zero_le _) (by decide) hw) (fs_row_u (by omega) hr) (fun a y ha => (fu_ne (fun q => ha q.1)).trans (hF a y ha))
set_option maxRecDepth 20000 in
theorem fs_r265 {g : kc_G} {d : Nat} {h0 : kc_H} {n b : Nat} {f : Nat → Nat} (hw0 : kd_wt kd_ty h0) (hg : kc_ok g) (hn : n ≤ 5) (h35 : h0 259 35 = .inl (Int32.ofNat n)) (hb : b ≤ n) (hr : fs_row f n h0) : kc_Con g (d + 2) 265 [.inr (.inr (.inl (some 259))), .inl (Int32.ofNat b)] h0 (fun rv h' => rv = some (.inl (kp_b true)) ∧ kd_wt kd_ty h' ∧ fs_row (pb_fl (n - b) b f) n h' ∧ ∀ a x, ¬ a = 279 → h' a x = h0 a x) := by
  refine kc_Con_new hg (M := wk_m265) rfl rfl rfl (show 2 ≤ 3 by decide) ?_
  refine kx_go 2 (pc' := 2) (L' := [(2, .inl (Int32.ofNat b)), (0, .inr (.inr (.inl (some 259)))), (1, .inl (Int32.ofNat b))]) (S' := []) (h' := h0) (by with_unfolding_all rfl) ?_
  exact fs_r265l hg hn h35 (n - b) b f h0 rfl hb hw0 hr (fun _ _ _ => rfl)
def fs_nz (n k X : Nat) (f : Nat → Nat) : Option (Nat → Nat) := if X < n then some (pb_fl (n - (k + 1)) (k + 1) (ms_u f k X)) else pb_nr n k (ms_u f k X)
def fs_nq (h0 : kc_H) (n : Nat) (z : Option (Nat → Nat)) (rv : Option kc_V) (h' : kc_H) : Prop := kd_wt kd_ty h' ∧ (∀ a x, ¬ a = 279 → h' a x = h0 a x) ∧ match z with
  | none => rv = some (.inl (kp_b false))
  | some f2 => rv = some (.inl (kp_b true)) ∧ fs_row f2 n h'
set_option maxRecDepth 20000 in
theorem fs_r133l {g : kc_G} {d : Nat} {h0 : kc_H} {n : Nat} (hg : kc_ok g) (hn : n ≤ 5) (h35 : h0 259 35 = .inl (Int32.ofNat n)) : ∀ (k : Nat) (f : Nat → Nat) (h : kc_H), k ≤ n → kd_wt kd_ty h → fs_row f n h → (∀ j, j < k → f j < n) → (∀ a x, ¬ a = 279 → h a x = h0 a x) → kc_Ev g (d + 2) wk_m133 (fs_nq h0 n (pb_nr n (k) f)) 7 [(1, .inl (Int32.ofInt ((k : Int) - 1))), (0, .inr (.inr (.inl (some 259))))] [] h := by
  intro k
  induction k with
  | zero =>
    intro f h hk hw hr hlt hF
    refine kx_go 2 (pc' := (if kc_cnd .lt (Int32.ofInt (((0 : Nat) : Int) - 1)).toInt 0 then 82 else 11)) (L' := [(1, .inl (Int32.ofInt (((0 : Nat) : Int) - 1))), (0, .inr (.inr (.inl (some 259))))]) (S' := []) (h' := h) (by with_unfolding_all rfl) ?_
    rw [if_pos (fu_ilt.mpr (by decide))]
    refine kx_go 1 (pc' := 83) (L' := [(1, .inl (Int32.ofInt (((0 : Nat) : Int) - 1))), (0, .inr (.inr (.inl (some 259))))]) (S' := [.inl (Int32.ofNat 0)]) (h' := h) (by with_unfolding_all rfl) ?_
    exact kc_ret_ok rfl (rv := some (.inl (kp_b false))) rfl ⟨hw, hF, rfl⟩
  | succ k ih =>
    intro f h hk hw hr hlt hF
    have hkn : k < n := by omega
    have rk := (hr k hkn).1
    have fk := hlt k (by omega)
    rw [fs_im1]
    have eN : pb_nr n (k + 1) f = fs_nz n k (pb_up n f k n (f k + 1)) f := rfl
    rw [eN]
    generalize hX : pb_up n f k n (f k + 1) = X
    have at55 : ∀ (h : kc_H), X ≤ n → kd_wt kd_ty h → fs_row (ms_u f k X) n h → (∀ a x, ¬ a = 279 → h a x = h0 a x) → kc_Ev g (d + 2) wk_m133 (fs_nq h0 n (fs_nz n k X f)) 55 [(1, .inl (Int32.ofNat k)), (0, .inr (.inr (.inl (some 259))))] [] h := by
      intro h hX5 hw hr hF
      have rk := (hr k hkn).1
      rw [ms_ue] at rk
      have e35 : h 259 35 = .inl (Int32.ofNat n) := (hF 259 35 (by decide)).trans h35
      refine kx_go 1 (pc' := 56) (L' := [(1, .inl (Int32.ofNat k)), (0, .inr (.inr (.inl (some 259))))]) (S' := [.inr (.inr (.inl (some 259)))]) (h' := h) (by with_unfolding_all rfl) ?_
      refine kx_getf (c := 259) (v := .inr (.inr (.inl (some 279)))) rfl (by decide) (kx_ofr (hw _ _ _ fs_k259_34)) ?_
      refine kx_go 1 (pc' := 60) (L' := [(1, .inl (Int32.ofNat k)), (0, .inr (.inr (.inl (some 259))))]) (S' := [.inl (Int32.ofNat k), .inr (.inr (.inl (some 279)))]) (h' := h) (by with_unfolding_all rfl) ?_
      refine kx_iald (c := 279) (j := k) (m := 10) (v := .inl (Int32.ofNat X)) rfl rfl (by decide) (by decide) (by omega) rk ?_
      refine kx_go 1 (pc' := 62) (L' := [(1, .inl (Int32.ofNat k)), (0, .inr (.inr (.inl (some 259))))]) (S' := [.inr (.inr (.inl (some 259))), .inl (Int32.ofNat X)]) (h' := h) (by with_unfolding_all rfl) ?_
      refine kx_getf (c := 259) (v := .inl (Int32.ofNat n)) rfl (by decide) e35 ?_
      refine kx_go 1 (pc' := (if kc_cnd .ge (Int32.ofNat X).toInt (Int32.ofNat n).toInt then 76 else 68)) (L' := [(1, .inl (Int32.ofNat k)), (0, .inr (.inr (.inl (some 259))))]) (S' := []) (h' := h) (by with_unfolding_all rfl) ?_
      by_cases c : X < n
      · rw [show fs_nz n k X f = some (pb_fl (n - (k + 1)) (k + 1) (ms_u f k X)) from if_pos c, if_neg (fun q => by have := (kx_ge (by omega) (by omega)).mp q; omega)]
        refine kx_go 4 (pc' := 72) (L' := [(1, .inl (Int32.ofNat k)), (0, .inr (.inr (.inl (some 259))))]) (S' := [.inl ((Int32.ofNat k) + (Int32.ofNat 1)), .inr (.inr (.inl (some 259)))]) (h' := h) (by with_unfolding_all rfl) ?_
        rw [kx_add]
        refine kc_call_rule (M2 := wk_m265) (av := [.inr (.inr (.inl (some 259))), .inl (Int32.ofNat (k + 1))]) (r := []) rfl rfl (kc_Con_le (fs_r265 (d := d) hw hg hn e35 (show k + 1 ≤ n by omega) hr) (by omega)) (fun rv h2 hq => ?_)
        obtain ⟨rfl, hw2, hr2, hF2⟩ := hq
        exact kc_ret_ok rfl (rv := some (.inl (kp_b true))) rfl ⟨hw2, fun a y ha => (hF2 a y ha).trans (hF a y ha), rfl, hr2⟩
      · rw [show fs_nz n k X f = pb_nr n k (ms_u f k X) from if_neg c, if_pos ((kx_ge (by omega) (by omega)).mpr (by omega))]
        refine kx_go 2 (pc' := 7) (L' := [(1, .inl ((Int32.ofNat k) + Int32.ofInt (-1))), (0, .inr (.inr (.inl (some 259))))]) (S' := []) (h' := h) (by with_unfolding_all rfl) ?_
        rw [fs_im2]
        exact ih (ms_u f k X) h (by omega) hw hr (fun j hj => by rw [ms_un (by omega)]; exact hlt j (by omega)) hF
    have inner : ∀ (u x : Nat) (h : kc_H), n ≤ x + u → x ≤ n → pb_up n f k u x = X → kd_wt kd_ty h → fs_row (ms_u f k x) n h → (∀ a x, ¬ a = 279 → h a x = h0 a x) → kc_Ev g (d + 2) wk_m133 (fs_nq h0 n (fs_nz n k X f)) 21 [(1, .inl (Int32.ofNat k)), (0, .inr (.inr (.inl (some 259))))] [] h := by
      intro u
      induction u with
      | zero =>
        intro x h hu hx hX hw hr hF
        have rk := (hr k hkn).1
        rw [ms_ue] at rk
        have e35 : h 259 35 = .inl (Int32.ofNat n) := (hF 259 35 (by decide)).trans h35
        refine kx_go 1 (pc' := 22) (L' := [(1, .inl (Int32.ofNat k)), (0, .inr (.inr (.inl (some 259))))]) (S' := [.inr (.inr (.inl (some 259)))]) (h' := h) (by with_unfolding_all rfl) ?_
        refine kx_getf (c := 259) (v := .inr (.inr (.inl (some 279)))) rfl (by decide) (kx_ofr (hw _ _ _ fs_k259_34)) ?_
        refine kx_go 1 (pc' := 26) (L' := [(1, .inl (Int32.ofNat k)), (0, .inr (.inr (.inl (some 259))))]) (S' := [.inl (Int32.ofNat k), .inr (.inr (.inl (some 279)))]) (h' := h) (by with_unfolding_all rfl) ?_
        refine kx_iald (c := 279) (j := k) (m := 10) (v := .inl (Int32.ofNat x)) rfl rfl (by decide) (by decide) (by omega) rk ?_
        refine kx_go 1 (pc' := 28) (L' := [(1, .inl (Int32.ofNat k)), (0, .inr (.inr (.inl (some 259))))]) (S' := [.inr (.inr (.inl (some 259))), .inl (Int32.ofNat x)]) (h' := h) (by with_unfolding_all rfl) ?_
        refine kx_getf (c := 259) (v := .inl (Int32.ofNat n)) rfl (by decide) e35 ?_
        refine kx_go 1 (pc' := (if kc_cnd .ge (Int32.ofNat x).toInt (Int32.ofNat n).toInt then 55 else 34)) (L' := [(1, .inl (Int32.ofNat k)), (0, .inr (.inr (.inl (some 259))))]) (S' := []) (h' := h) (by with_unfolding_all rfl) ?_
        rw [if_pos ((kx_ge (by omega) (by omega)).mpr (by omega))]
        have eX : x = X := hX
        subst eX
        exact at55 h hx hw hr hF
      | succ u ihu =>
        intro x h hu hx hX hw hr hF
        have rk := (hr k hkn).1
        rw [ms_ue] at rk
        have e35 : h 259 35 = .inl (Int32.ofNat n) := (hF 259 35 (by decide)).trans h35
        refine kx_go 1 (pc' := 22) (L' := [(1, .inl (Int32.ofNat k)), (0, .inr (.inr (.inl (some 259))))]) (S' := [.inr (.inr (.inl (some 259)))]) (h' := h) (by with_unfolding_all rfl) ?_
        refine kx_getf (c := 259) (v := .inr (.inr (.inl (some 279)))) rfl (by decide) (kx_ofr (hw _ _ _ fs_k259_34)) ?_
        refine kx_go 1 (pc' := 26) (L' := [(1, .inl (Int32.ofNat k)), (0, .inr (.inr (.inl (some 259))))]) (S' := [.inl (Int32.ofNat k), .inr (.inr (.inl (some 279)))]) (h' := h) (by with_unfolding_all rfl) ?_
        refine kx_iald (c := 279) (j := k) (m := 10) (v := .inl (Int32.ofNat x)) rfl rfl (by decide) (by decide) (by omega) rk ?_
        refine kx_go 1 (pc' := 28) (L' := [(1, .inl (Int32.ofNat k)), (0, .inr (.inr (.inl (some 259))))]) (S' := [.inr (.inr (.inl (some 259))), .inl (Int32.ofNat x)]) (h' := h) (by with_unfolding_all rfl) ?_
        refine kx_getf (c := 259) (v := .inl (Int32.ofNat n)) rfl (by decide) e35 ?_
        refine kx_go 1 (pc' := (if kc_cnd .ge (Int32.ofNat x).toInt (Int32.ofNat n).toInt then 55 else 34)) (L' := [(1, .inl (Int32.ofNat k)), (0, .inr (.inr (.inl (some 259))))]) (S' := []) (h' := h) (by with_unfolding_all rfl) ?_
        have eU : pb_up n f k (u + 1) x = if x < n ∧ kw_t f x k = true then pb_up n f k u (x + 1) else x := rfl
        rw [eU] at hX
        by_cases c : x < n
        · rw [if_neg (fun q => by have := (kx_ge (by omega) (by omega)).mp q; omega)]
          have et : kw_t (ms_u f k x) (ms_u f k x k) k = kw_t f x k := by
            rw [ms_ue]
            exact kw_t_c k (fun j hj => ms_un (by omega))
          refine kx_go 2 (pc' := 36) (L' := [(1, .inl (Int32.ofNat k)), (0, .inr (.inr (.inl (some 259))))]) (S' := [.inl (Int32.ofNat k), .inr (.inr (.inl (some 259)))]) (h' := h) (by with_unfolding_all rfl) ?_
          refine kc_call_rule (M2 := wk_m264) (av := [.inr (.inr (.inl (some 259))), .inl (Int32.ofNat k)]) (r := []) rfl rfl (kc_Con_le (fs_r264 (d := d) hg hw (show n ≤ 10 by omega) hkn hr) (by omega)) (fun rv hcc hq => ?_)
          obtain ⟨rfl, e9⟩ := hq
          rw [e9]
          clear e9
          rw [et]
          show kc_Ev g (d + 2) wk_m133 _ 39 [(1, .inl (Int32.ofNat k)), (0, .inr (.inr (.inl (some 259))))] [.inl (kp_b (kw_t f x k))] h
          refine kx_go 1 (pc' := (if kc_cnd .eq (kp_b (kw_t f x k)).toInt 0 then 55 else 42)) (L' := [(1, .inl (Int32.ofNat k)), (0, .inr (.inr (.inl (some 259))))]) (S' := []) (h' := h) (by with_unfolding_all rfl) ?_
          cases e : kw_t f x k with
          | true =>
            rw [if_neg fa_b0t]
            rw [if_pos ⟨c, e⟩] at hX
            refine kx_go 1 (pc' := 43) (L' := [(1, .inl (Int32.ofNat k)), (0, .inr (.inr (.inl (some 259))))]) (S' := [.inr (.inr (.inl (some 259)))]) (h' := h) (by with_unfolding_all rfl) ?_
            refine kx_getf (c := 259) (v := .inr (.inr (.inl (some 279)))) rfl (by decide) (kx_ofr (hw _ _ _ fs_k259_34)) ?_
            refine kx_go 2 (pc' := 48) (L' := [(1, .inl (Int32.ofNat k)), (0, .inr (.inr (.inl (some 259))))]) (S' := [.inl (Int32.ofNat k), .inr (.inr (.inl (some 279))), .inl (Int32.ofNat k), .inr (.inr (.inl (some 279)))]) (h' := h) (by with_unfolding_all rfl) ?_
            refine kx_iald (c := 279) (j := k) (m := 10) (v := .inl (Int32.ofNat x)) rfl rfl (by decide) (by decide) (by omega) rk ?_
            refine kx_go 2 (pc' := 51) (L' := [(1, .inl (Int32.ofNat k)), (0, .inr (.inr (.inl (some 259))))]) (S' := [.inl ((Int32.ofNat x) + (Int32.ofNat 1)), .inl (Int32.ofNat k), .inr (.inr (.inl (some 279)))]) (h' := h) (by with_unfolding_all rfl) ?_
            rw [kx_add]
            refine kx_iast (c := 279) (j := k) (m := 10) rfl rfl (by decide) (by decide) (by omega) ?_
            refine kx_go 1 (pc' := 21) (L' := [(1, .inl (Int32.ofNat k)), (0, .inr (.inr (.inl (some 259))))]) (S' := []) (h' := (kc_upd h 279 k (.inl (Int32.ofNat (x + 1))))) (by with_unfolding_all rfl) ?_
            exact ihu (x + 1) _ (by omega) (by omega) hX (fa_wn (fs_k279.1 k (by omega)) (show x + 1 ≤ 10 by omega) (by decide) hw) (fs_row_w (by omega) hr) (fun a y ha => (fu_ne (fun q => ha q.1)).trans (hF a y ha))
          | false =>
            rw [if_pos (kx_b0.mpr rfl)]
            rw [if_neg (fun q => by rw [e] at q; cases q.2)] at hX
            subst hX
            exact at55 h hx hw hr hF
        · rw [if_pos ((kx_ge (by omega) (by omega)).mpr (by omega))]
          rw [if_neg (fun q => c q.1)] at hX
          subst hX
          exact at55 h hx hw hr hF
    refine kx_go 2 (pc' := (if kc_cnd .lt (Int32.ofNat k).toInt 0 then 82 else 11)) (L' := [(1, .inl (Int32.ofNat k)), (0, .inr (.inr (.inl (some 259))))]) (S' := []) (h' := h) (by with_unfolding_all rfl) ?_
    rw [if_neg (fun q => by have := fu_ilt.mp q; rw [kx_ti (by omega)] at this; omega)]
    refine kx_go 1 (pc' := 12) (L' := [(1, .inl (Int32.ofNat k)), (0, .inr (.inr (.inl (some 259))))]) (S' := [.inr (.inr (.inl (some 259)))]) (h' := h) (by with_unfolding_all rfl) ?_
    refine kx_getf (c := 259) (v := .inr (.inr (.inl (some 279)))) rfl (by decide) (kx_ofr (hw _ _ _ fs_k259_34)) ?_
    refine kx_go 2 (pc' := 17) (L' := [(1, .inl (Int32.ofNat k)), (0, .inr (.inr (.inl (some 259))))]) (S' := [.inl (Int32.ofNat k), .inr (.inr (.inl (some 279))), .inl (Int32.ofNat k), .inr (.inr (.inl (some 279)))]) (h' := h) (by with_unfolding_all rfl) ?_
    refine kx_iald (c := 279) (j := k) (m := 10) (v := .inl (Int32.ofNat (f k))) rfl rfl (by decide) (by decide) (by omega) rk ?_
    refine kx_go 2 (pc' := 20) (L' := [(1, .inl (Int32.ofNat k)), (0, .inr (.inr (.inl (some 259))))]) (S' := [.inl ((Int32.ofNat (f k)) + (Int32.ofNat 1)), .inl (Int32.ofNat k), .inr (.inr (.inl (some 279)))]) (h' := h) (by with_unfolding_all rfl) ?_
    rw [kx_add]
    refine kx_iast (c := 279) (j := k) (m := 10) rfl rfl (by decide) (by decide) (by omega) ?_
    exact inner n (f k + 1) _ (by omega) (by omega) hX (fa_wn (fs_k279.1 k (by omega)) (show f k + 1 ≤ 10 by omega) (by decide) hw) (fs_row_u (by omega) hr) (fun a y ha => (fu_ne (fun q => ha q.1)).trans (hF a y ha))
set_option maxRecDepth 20000 in
theorem fs_r133 {g : kc_G} {d : Nat} {h0 : kc_H} {n : Nat} {f : Nat → Nat} (hw0 : kd_wt kd_ty h0) (hg : kc_ok g) (hn : n ≤ 5) (h35 : h0 259 35 = .inl (Int32.ofNat n)) (hr : fs_row f n h0) (hlt : ∀ j, j < n → f j < n) : kc_Con g (d + 3) 133 [.inr (.inr (.inl (some 259)))] h0 (fs_nq h0 n (pb_nr n (n) f)) := by
  refine kc_Con_new hg (M := wk_m133) rfl rfl rfl (show 1 ≤ 2 by decide) ?_
  refine kx_go 1 (pc' := 1) (L' := [(0, .inr (.inr (.inl (some 259))))]) (S' := [.inr (.inr (.inl (some 259)))]) (h' := h0) (by with_unfolding_all rfl) ?_
  refine kx_getf (c := 259) (v := .inl (Int32.ofNat n)) rfl (by decide) h35 ?_
  refine kx_go 3 (pc' := 7) (L' := [(1, .inl ((Int32.ofNat n) - (Int32.ofNat 1))), (0, .inr (.inr (.inl (some 259))))]) (S' := []) (h' := h0) (by with_unfolding_all rfl) ?_
  rw [fs_im3]
  exact fs_r133l hg hn h35 n f h0 (Nat.le_refl _) hw0 hr hlt (fun _ _ _ => rfl)
set_option maxRecDepth 20000 in
theorem fs_r132l {g : kc_G} {d : Nat} {h0 : kc_H} {n : Nat} (hn : n ≤ 5) : ∀ (u k : Nat) (h : kc_H), n - k = u → k ≤ n → kd_wt kd_ty h → h 259 35 = .inl (Int32.ofNat n) → fs_row (fun j => j) k h → (∀ a x, ¬ a = 279 → ¬ (a = 259 ∧ x = 35) → h a x = h0 a x) → kc_Ev g d wk_m132 (fun rv h' => rv = none ∧ kd_wt kd_ty h' ∧ h' 259 35 = .inl (Int32.ofNat n) ∧ fs_row (fun j => j) n h' ∧ ∀ a x, ¬ a = 279 → ¬ (a = 259 ∧ x = 35) → h' a x = h0 a x) 7 [(2, .inl (Int32.ofNat k)), (0, .inr (.inr (.inl (some 259)))), (1, .inl (Int32.ofNat n))] [] h := by
  intro u
  induction u with
  | zero =>
    intro k h hu hk hw e35 hr hF
    refine kx_go 3 (pc' := (if kc_cnd .ge (Int32.ofNat k).toInt (Int32.ofNat n).toInt then 25 else 12)) (L' := [(2, .inl (Int32.ofNat k)), (0, .inr (.inr (.inl (some 259)))), (1, .inl (Int32.ofNat n))]) (S' := []) (h' := h) (by with_unfolding_all rfl) ?_
    rw [if_pos ((kx_ge (by omega) (by omega)).mpr (by omega))]
    exact kc_ret_ok rfl (rv := none) rfl ⟨rfl, hw, e35, fun j hj => hr j (by omega), hF⟩
  | succ u ih =>
    intro k h hu hk hw e35 hr hF
    refine kx_go 3 (pc' := (if kc_cnd .ge (Int32.ofNat k).toInt (Int32.ofNat n).toInt then 25 else 12)) (L' := [(2, .inl (Int32.ofNat k)), (0, .inr (.inr (.inl (some 259)))), (1, .inl (Int32.ofNat n))]) (S' := []) (h' := h) (by with_unfolding_all rfl) ?_
    rw [if_neg (fun q => by have := (kx_ge (by omega) (by omega)).mp q; omega)]
    refine kx_go 1 (pc' := 13) (L' := [(2, .inl (Int32.ofNat k)), (0, .inr (.inr (.inl (some 259)))), (1, .inl (Int32.ofNat n))]) (S' := [.inr (.inr (.inl (some 259)))]) (h' := h) (by with_unfolding_all rfl) ?_
    refine kx_getf (c := 259) (v := .inr (.inr (.inl (some 279)))) rfl (by decide) (kx_ofr (hw _ _ _ fs_k259_34)) ?_
    refine kx_go 2 (pc' := 18) (L' := [(2, .inl (Int32.ofNat k)), (0, .inr (.inr (.inl (some 259)))), (1, .inl (Int32.ofNat n))]) (S' := [.inl (Int32.ofNat k), .inl (Int32.ofNat k), .inr (.inr (.inl (some 279)))]) (h' := h) (by with_unfolding_all rfl) ?_
    refine kx_iast (c := 279) (j := k) (m := 10) rfl rfl (by decide) (by decide) (by omega) ?_
    refine kx_go 2 (pc' := 7) (L' := [(2, .inl ((Int32.ofNat k) + Int32.ofInt 1)), (0, .inr (.inr (.inl (some 259)))), (1, .inl (Int32.ofNat n))]) (S' := []) (h' := (kc_upd h 279 k (.inl (Int32.ofNat k)))) (by with_unfolding_all rfl) ?_
    rw [kx_inc]
    refine ih (k + 1) _ (by omega) (by omega) (fa_wn (fs_k279.1 k (by omega)) (show k ≤ 10 by omega) (by decide) hw) ((fu_ne (by omega)).trans e35) (fun j hj => ?_) (fun a y ha hb => (fu_ne (fun q => ha q.1)).trans (hF a y ha hb))
    by_cases e : j = k
    · rw [e]; exact ⟨fu_eq, by show k ≤ 10; omega⟩
    · exact ⟨(fu_ne (fun q => e q.2)).trans (hr j (by omega)).1, by show j ≤ 10; omega⟩
set_option maxRecDepth 20000 in
theorem fs_r132 {g : kc_G} {d : Nat} {h0 : kc_H} {n : Nat} (hg : kc_ok g) (hw0 : kd_wt kd_ty h0) (hn : n ≤ 5) : kc_Con g (d + 1) 132 [.inr (.inr (.inl (some 259))), .inl (Int32.ofNat n)] h0 (fun rv h' => rv = none ∧ kd_wt kd_ty h' ∧ h' 259 35 = .inl (Int32.ofNat n) ∧ fs_row (fun j => j) n h' ∧ ∀ a x, ¬ a = 279 → ¬ (a = 259 ∧ x = 35) → h' a x = h0 a x) := by
  refine kc_Con_new hg (M := wk_m132) rfl rfl rfl (show 2 ≤ 3 by decide) ?_
  refine kx_go 2 (pc' := 2) (L' := [(0, .inr (.inr (.inl (some 259)))), (1, .inl (Int32.ofNat n))]) (S' := [.inl (Int32.ofNat n), .inr (.inr (.inl (some 259)))]) (h' := h0) (by with_unfolding_all rfl) ?_
  have hw1 : kd_wt kd_ty (kc_upd h0 259 35 (.inl (Int32.ofNat n))) := fa_wn fs_k279.2.2.2.2.2.1 (show n ≤ 10 by omega) (by decide) hw0
  refine kx_go 1 (pc' := 5) (L' := [(0, .inr (.inr (.inl (some 259)))), (1, .inl (Int32.ofNat n))]) (S' := []) (h' := (kc_upd h0 259 35 (.inl (Int32.ofNat n)))) (by with_unfolding_all rfl) ?_
  refine kx_go 2 (pc' := 7) (L' := [(2, .inl (Int32.ofNat 0)), (0, .inr (.inr (.inl (some 259)))), (1, .inl (Int32.ofNat n))]) (S' := []) (h' := (kc_upd h0 259 35 (.inl (Int32.ofNat n)))) (by with_unfolding_all rfl) ?_
  exact fs_r132l hn n 0 _ (by omega) (by omega) hw1 fu_eq (fun j hj => by omega) (fun a y ha hb => fu_ne hb)
set_option maxRecDepth 20000 in
theorem fs_r254 {g : kc_G} {d : Nat} {h : kc_H} {B : Nat → Int32} {x y : Nat} (hg : kc_ok g) (hw : kd_wt kd_ty h) (hC : fu_B B h) (hB : fu_BT B) (hx : x < 6) (hy : y < 6) : kc_Con g (d + 1) 254 [.inr (.inr (.inl (some 259))), .inl (Int32.ofNat x), .inl (Int32.ofNat y)] h (fun rv h' => rv = some (.inl (Int32.ofNat (fa_n B (10 + 6 * x + y)))) ∧ h' = h) := by
  refine kc_Con_new hg (M := wk_m254) rfl rfl rfl (show 3 ≤ 3 by decide) ?_
  refine kx_go 1 (pc' := 1) (L' := [(0, .inr (.inr (.inl (some 259)))), (1, .inl (Int32.ofNat x)), (2, .inl (Int32.ofNat y))]) (S' := [.inr (.inr (.inl (some 259)))]) (h' := h) (by with_unfolding_all rfl) ?_
  refine kx_getf (c := 259) (v := .inr (.inr (.inl (some 260)))) rfl (by decide) (kx_ofr (hw _ _ _ fs_k259_0)) ?_
  refine kx_go 7 (pc' := 13) (L' := [(0, .inr (.inr (.inl (some 259)))), (1, .inl (Int32.ofNat x)), (2, .inl (Int32.ofNat y))]) (S' := [.inl (((Int32.ofNat 10) + ((Int32.ofNat 6) * (Int32.ofNat x))) + (Int32.ofNat y)), .inr (.inr (.inl (some 260)))]) (h' := h) (by with_unfolding_all rfl) ?_
  rw [kx_mul, kx_add, kx_add]
  refine kx_iald (c := 260) (j := 10 + 6 * x + y) (m := 650) (v := .inl (Int32.ofNat (fa_n B (10 + 6 * x + y)))) rfl rfl (by decide) (by decide) (by omega) ((hC (10 + 6 * x + y) (by omega) (fu_fmi x hx y hy).2.1).trans (by rw [← (fa_ng hB hx hy).1])) ?_
  exact kc_ret_ok rfl (rv := some (.inl (Int32.ofNat (fa_n B (10 + 6 * x + y))))) rfl ⟨rfl, rfl⟩
set_option maxRecDepth 20000 in
theorem fs_r263 {g : kc_G} {d : Nat} {h : kc_H} {B : Nat → Int32} {D : Nat → Nat} {n k : Nat} (hg : kc_ok g) (hw : kd_wt kd_ty h) (hC : fu_B B h) (hB : fu_BT B) (hn : n ≤ 5) (hD : ∀ k, k < n → B (150 + k) = Int32.ofNat (D k)) (hl : ∀ k, D k < 6) (hk : k < n) : kc_Con g (d + 3) 263 [.inr (.inr (.inl (some 259))), .inl (Int32.ofNat k)] h (fun rv h' => rv = some (.inl (Int32.ofNat (fs_mi B D k))) ∧ h' = h) := by
  have hla := fs_lal hl k
  refine kc_Con_new hg (M := wk_m263) rfl rfl rfl (show 2 ≤ 2 by decide) ?_
  cases k with
  | zero =>
    refine kx_go 3 (pc' := (if kc_cnd .ne (Int32.ofNat 0).toInt 0 then 9 else 5)) (L' := [(0, .inr (.inr (.inl (some 259)))), (1, .inl (Int32.ofNat 0))]) (S' := [.inr (.inr (.inl (some 259)))]) (h' := h) (by with_unfolding_all rfl) ?_
    rw [if_neg (fa_z (by decide) rfl)]
    refine kx_go 4 (pc' := 18) (L' := [(0, .inr (.inr (.inl (some 259)))), (1, .inl (Int32.ofNat 0))]) (S' := [.inl (Int32.ofNat 0), .inr (.inr (.inl (some 259))), .inl (Int32.ofNat 0), .inr (.inr (.inl (some 259)))]) (h' := h) (by with_unfolding_all rfl) ?_
    refine kc_call_rule (M2 := wk_m259) (av := [.inr (.inr (.inl (some 259))), .inl (Int32.ofNat 0)]) (r := [.inl (Int32.ofNat 0), .inr (.inr (.inl (some 259)))]) rfl rfl (kc_Con_le (fs_r259 (d := d) hg hw hC hn hD hk) (by omega)) (fun rv hcc hq => ?_)
    obtain ⟨rfl, e9⟩ := hq
    rw [e9]
    clear e9
    show kc_Ev g (d + 2) wk_m263 _ 21 [(0, .inr (.inr (.inl (some 259)))), (1, .inl (Int32.ofNat 0))] [.inl (Int32.ofNat (D 0)), .inl (Int32.ofNat 0), .inr (.inr (.inl (some 259)))] h
    refine kc_call_rule (M2 := wk_m254) (av := [.inr (.inr (.inl (some 259))), .inl (Int32.ofNat 0), .inl (Int32.ofNat (D 0))]) (r := []) rfl rfl (kc_Con_le (fs_r254 (d := d) hg hw hC hB hla (hl 0)) (by omega)) (fun rv hcc hq => ?_)
    obtain ⟨rfl, e9⟩ := hq
    rw [e9]
    clear e9
    show kc_Ev g (d + 2) wk_m263 _ 24 [(0, .inr (.inr (.inl (some 259)))), (1, .inl (Int32.ofNat 0))] [.inl (Int32.ofNat (fs_mi B D 0))] h
    exact kc_ret_ok rfl (rv := some (.inl (Int32.ofNat (fs_mi B D 0)))) rfl ⟨rfl, rfl⟩
  | succ k =>
    refine kx_go 3 (pc' := (if kc_cnd .ne (Int32.ofNat (k + 1)).toInt 0 then 9 else 5)) (L' := [(0, .inr (.inr (.inl (some 259)))), (1, .inl (Int32.ofNat (k + 1)))]) (S' := [.inr (.inr (.inl (some 259)))]) (h' := h) (by with_unfolding_all rfl) ?_
    rw [if_pos (fa_nz (by omega) (by omega))]
    refine kx_go 4 (pc' := 13) (L' := [(0, .inr (.inr (.inl (some 259)))), (1, .inl (Int32.ofNat (k + 1)))]) (S' := [.inl ((Int32.ofNat (k + 1)) - (Int32.ofNat 1)), .inr (.inr (.inl (some 259))), .inr (.inr (.inl (some 259)))]) (h' := h) (by with_unfolding_all rfl) ?_
    rw [kx_sub (by omega), Nat.add_sub_cancel]
    refine kc_call_rule (M2 := wk_m259) (av := [.inr (.inr (.inl (some 259))), .inl (Int32.ofNat k)]) (r := [.inr (.inr (.inl (some 259)))]) rfl rfl (kc_Con_le (fs_r259 (d := d) hg hw hC hn hD (show k < n by omega)) (by omega)) (fun rv hcc hq => ?_)
    obtain ⟨rfl, e9⟩ := hq
    rw [e9]
    clear e9
    show kc_Ev g (d + 2) wk_m263 _ 16 [(0, .inr (.inr (.inl (some 259)))), (1, .inl (Int32.ofNat (k + 1)))] [.inl (Int32.ofNat (D k)), .inr (.inr (.inl (some 259)))] h
    refine kx_go 2 (pc' := 18) (L' := [(0, .inr (.inr (.inl (some 259)))), (1, .inl (Int32.ofNat (k + 1)))]) (S' := [.inl (Int32.ofNat (k + 1)), .inr (.inr (.inl (some 259))), .inl (Int32.ofNat (D k)), .inr (.inr (.inl (some 259)))]) (h' := h) (by with_unfolding_all rfl) ?_
    refine kc_call_rule (M2 := wk_m259) (av := [.inr (.inr (.inl (some 259))), .inl (Int32.ofNat (k + 1))]) (r := [.inl (Int32.ofNat (D k)), .inr (.inr (.inl (some 259)))]) rfl rfl (kc_Con_le (fs_r259 (d := d) hg hw hC hn hD hk) (by omega)) (fun rv hcc hq => ?_)
    obtain ⟨rfl, e9⟩ := hq
    rw [e9]
    clear e9
    show kc_Ev g (d + 2) wk_m263 _ 21 [(0, .inr (.inr (.inl (some 259)))), (1, .inl (Int32.ofNat (k + 1)))] [.inl (Int32.ofNat (D (k + 1))), .inl (Int32.ofNat (D k)), .inr (.inr (.inl (some 259)))] h
    refine kc_call_rule (M2 := wk_m254) (av := [.inr (.inr (.inl (some 259))), .inl (Int32.ofNat (D k)), .inl (Int32.ofNat (D (k + 1)))]) (r := []) rfl rfl (kc_Con_le (fs_r254 (d := d) hg hw hC hB hla (hl (k + 1))) (by omega)) (fun rv hcc hq => ?_)
    obtain ⟨rfl, e9⟩ := hq
    rw [e9]
    clear e9
    show kc_Ev g (d + 2) wk_m263 _ 24 [(0, .inr (.inr (.inl (some 259)))), (1, .inl (Int32.ofNat (k + 1)))] [.inl (Int32.ofNat (fs_mi B D (k + 1)))] h
    exact kc_ret_ok rfl (rv := some (.inl (Int32.ofNat (fs_mi B D (k + 1))))) rfl ⟨rfl, rfl⟩
theorem fs_st_il {D : Nat → Nat} {p : Nat} (hp : ¬ p = 0) : ∀ n, (fs_st D p n = none ∧ pb_il D n p = false) ∨ ∃ k, k < n ∧ fs_st D p n = some (k + 1) ∧ pb_il D n p = true
  | 0 => Or.inl ⟨if_neg hp, rfl⟩
  | n + 1 => by
    have e1 : fs_st D p (n + 1) = if D n = p then some (n + 1) else fs_st D p n := rfl
    have e2 : pb_il D (n + 1) p = (pb_il D n p || decide (D n = p)) := rfl
    by_cases c : D n = p
    · exact Or.inr ⟨n, Nat.lt_succ_self n, by rw [e1, if_pos c], by rw [e2, decide_eq_true c, Bool.or_true]⟩
    · rcases fs_st_il hp n with ⟨q1, q2⟩ | ⟨k, q1, q2, q3⟩
      · exact Or.inl ⟨by rw [e1, if_neg c, q1], by rw [e2, q2, decide_eq_false c]; rfl⟩
      · exact Or.inr ⟨k, by omega, by rw [e1, if_neg c, q2], by rw [e2, q3, Bool.true_or]⟩
def fs_ls (D : Nat → Nat) (n d c : Nat) (h : kc_H) : Prop := ∀ j, j < (pb_ls D n d).1 → h c j = .inl (Int32.ofNat ((pb_ls D n d).2 j))
set_option maxRecDepth 20000 in
theorem fs_r131l {g : kc_G} {d : Nat} {h0 : kc_H} {B : Nat → Int32} {D : Nat → Nat} {n X : Nat} (hg : kc_ok g) (hC0 : fu_B B h0) (en : B 3 = Int32.ofNat n) (eX : B 0 = Int32.ofNat X) (hX : X ≤ 5) (hn : n ≤ 5) (hD : ∀ k, k < n → B (150 + k) = Int32.ofNat (D k)) (hl : ∀ k, D k < 6) (hdl : ∀ i j, i < n → j < n → D i = D j → i = j) : ∀ (u e : Nat) (h : kc_H), X - e = u → e ≤ X → kd_wt kd_ty h → fs_ls D n e 280 h → (∀ a x, ¬ a = 280 → h a x = h0 a x) → kc_Ev g (d + 2) wk_m131 (fun rv h' => rv = none ∧ kd_wt kd_ty h' ∧ fs_ls D n X 280 h' ∧ ∀ a x, ¬ a = 280 → h' a x = h0 a x) 4 [(2, .inl (Int32.ofNat (e + 1))), (1, .inl (Int32.ofNat (pb_ls D n e).1)), (0, .inr (.inr (.inl (some 259))))] [] h := by
  intro u
  induction u with
  | zero =>
    intro e h hu he hw hls hF
    have hC : fu_B B h := fs_B_f (fun x => hF 260 x (by decide)) hC0
    have pl := pb_ls_p (D := D) (n := n) e
    refine kx_go 2 (pc' := 6) (L' := [(2, .inl (Int32.ofNat (e + 1))), (1, .inl (Int32.ofNat (pb_ls D n e).1)), (0, .inr (.inr (.inl (some 259))))]) (S' := [.inr (.inr (.inl (some 259))), .inl (Int32.ofNat (e + 1))]) (h' := h) (by with_unfolding_all rfl) ?_
    refine kx_getf (c := 259) (v := .inr (.inr (.inl (some 260)))) rfl (by decide) (kx_ofr (hw _ _ _ fs_k259_0)) ?_
    refine kx_go 1 (pc' := 10) (L' := [(2, .inl (Int32.ofNat (e + 1))), (1, .inl (Int32.ofNat (pb_ls D n e).1)), (0, .inr (.inr (.inl (some 259))))]) (S' := [.inl (Int32.ofNat 0), .inr (.inr (.inl (some 260))), .inl (Int32.ofNat (e + 1))]) (h' := h) (by with_unfolding_all rfl) ?_
    refine kx_iald (c := 260) (j := 0) (m := 650) (v := .inl (Int32.ofNat X)) rfl rfl (by decide) (by decide) (by omega) ((hC 0 (by decide) (by decide)).trans (by rw [eX])) ?_
    refine kx_go 1 (pc' := (if kc_cnd .gt (Int32.ofNat (e + 1)).toInt (Int32.ofNat X).toInt then 38 else 14)) (L' := [(2, .inl (Int32.ofNat (e + 1))), (1, .inl (Int32.ofNat (pb_ls D n e).1)), (0, .inr (.inr (.inl (some 259))))]) (S' := []) (h' := h) (by with_unfolding_all rfl) ?_
    rw [if_pos ((kx_gt (by omega) (by omega)).mpr (by omega))]
    obtain rfl : e = X := by omega
    exact kc_ret_ok rfl (rv := none) rfl ⟨rfl, hw, hls, hF⟩
  | succ u ih =>
    intro e h hu he hw hls hF
    have hC : fu_B B h := fs_B_f (fun x => hF 260 x (by decide)) hC0
    have pl := pb_ls_p (D := D) (n := n) e
    refine kx_go 2 (pc' := 6) (L' := [(2, .inl (Int32.ofNat (e + 1))), (1, .inl (Int32.ofNat (pb_ls D n e).1)), (0, .inr (.inr (.inl (some 259))))]) (S' := [.inr (.inr (.inl (some 259))), .inl (Int32.ofNat (e + 1))]) (h' := h) (by with_unfolding_all rfl) ?_
    refine kx_getf (c := 259) (v := .inr (.inr (.inl (some 260)))) rfl (by decide) (kx_ofr (hw _ _ _ fs_k259_0)) ?_
    refine kx_go 1 (pc' := 10) (L' := [(2, .inl (Int32.ofNat (e + 1))), (1, .inl (Int32.ofNat (pb_ls D n e).1)), (0, .inr (.inr (.inl (some 259))))]) (S' := [.inl (Int32.ofNat 0), .inr (.inr (.inl (some 260))), .inl (Int32.ofNat (e + 1))]) (h' := h) (by with_unfolding_all rfl) ?_
    refine kx_iald (c := 260) (j := 0) (m := 650) (v := .inl (Int32.ofNat X)) rfl rfl (by decide) (by decide) (by omega) ((hC 0 (by decide) (by decide)).trans (by rw [eX])) ?_
    refine kx_go 1 (pc' := (if kc_cnd .gt (Int32.ofNat (e + 1)).toInt (Int32.ofNat X).toInt then 38 else 14)) (L' := [(2, .inl (Int32.ofNat (e + 1))), (1, .inl (Int32.ofNat (pb_ls D n e).1)), (0, .inr (.inr (.inl (some 259))))]) (S' := []) (h' := h) (by with_unfolding_all rfl) ?_
    rw [if_neg (fun q => by have := (kx_gt (by omega) (by omega)).mp q; omega)]
    refine kx_go 2 (pc' := 16) (L' := [(2, .inl (Int32.ofNat (e + 1))), (1, .inl (Int32.ofNat (pb_ls D n e).1)), (0, .inr (.inr (.inl (some 259))))]) (S' := [.inl (Int32.ofNat (e + 1)), .inr (.inr (.inl (some 259)))]) (h' := h) (by with_unfolding_all rfl) ?_
    refine kc_call_rule (M2 := wk_m258) (av := [.inr (.inr (.inl (some 259))), .inl (Int32.ofNat (e + 1))]) (r := []) rfl rfl (kc_Con_le (fs_r258 (d := d) (D := D) (n := n) (p := e + 1) hg hw hC en hn hD hl hdl (by omega)) (by omega)) (fun rv hcc hq => ?_)
    obtain ⟨rfl, e9⟩ := hq
    rw [e9]
    clear e9
    show kc_Ev g (d + 2) wk_m131 _ 19 [(2, .inl (Int32.ofNat (e + 1))), (1, .inl (Int32.ofNat (pb_ls D n e).1)), (0, .inr (.inr (.inl (some 259))))] [.inl (fs_iv (fs_st D (e + 1) n))] h
    refine kx_go 1 (pc' := (if kc_cnd .lt (fs_iv (fs_st D (e + 1) n)).toInt 0 then 32 else 22)) (L' := [(2, .inl (Int32.ofNat (e + 1))), (1, .inl (Int32.ofNat (pb_ls D n e).1)), (0, .inr (.inr (.inl (some 259))))]) (S' := []) (h' := h) (by with_unfolding_all rfl) ?_
    have eL : pb_ls D n (e + 1) = if pb_il D n (e + 1) = true then ((pb_ls D n e).1 + 1, ms_u (pb_ls D n e).2 (pb_ls D n e).1 (e + 1)) else pb_ls D n e := rfl
    rcases fs_st_il (D := D) (p := e + 1) (by omega) n with ⟨q1, q2⟩ | ⟨k, k1, q1, q2⟩
    · rw [q1, if_pos (fu_ilt.mpr (by decide))]
      refine kx_go 2 (pc' := 4) (L' := [(2, .inl ((Int32.ofNat (e + 1)) + Int32.ofInt 1)), (1, .inl (Int32.ofNat (pb_ls D n e).1)), (0, .inr (.inr (.inl (some 259))))]) (S' := []) (h' := h) (by with_unfolding_all rfl) ?_
      rw [kx_inc]
      have e9 : pb_ls D n (e + 1) = pb_ls D n e := by rw [eL, if_neg (by rw [q2]; decide)]
      have k9 := ih (e + 1) h (by omega) (by omega) hw (by unfold fs_ls; rw [e9]; exact hls) hF
      rw [e9] at k9
      exact k9
    · rw [q1, if_neg (fun q => by have := fu_ilt.mp q; rw [show fs_iv (some (k + 1)) = Int32.ofNat k from fs_im1, kx_ti (by omega)] at this; omega)]
      refine kx_go 1 (pc' := 23) (L' := [(2, .inl (Int32.ofNat (e + 1))), (1, .inl (Int32.ofNat (pb_ls D n e).1)), (0, .inr (.inr (.inl (some 259))))]) (S' := [.inr (.inr (.inl (some 259)))]) (h' := h) (by with_unfolding_all rfl) ?_
      refine kx_getf (c := 259) (v := .inr (.inr (.inl (some 280)))) rfl (by decide) (kx_ofr (hw _ _ _ fs_k259_36)) ?_
      refine kx_go 2 (pc' := 28) (L' := [(2, .inl (Int32.ofNat (e + 1))), (1, .inl (Int32.ofNat (pb_ls D n e).1)), (0, .inr (.inr (.inl (some 259))))]) (S' := [.inl (Int32.ofNat (e + 1)), .inl (Int32.ofNat (pb_ls D n e).1), .inr (.inr (.inl (some 280)))]) (h' := h) (by with_unfolding_all rfl) ?_
      refine kx_iast (c := 280) (j := (pb_ls D n e).1) (m := 5) rfl rfl (by decide) (by decide) (by omega) ?_
      refine kx_go 3 (pc' := 4) (L' := [(2, .inl ((Int32.ofNat (e + 1)) + Int32.ofInt 1)), (1, .inl ((Int32.ofNat (pb_ls D n e).1) + Int32.ofInt 1)), (0, .inr (.inr (.inl (some 259))))]) (S' := []) (h' := (kc_upd h 280 ((pb_ls D n e).1) (.inl (Int32.ofNat (e + 1))))) (by with_unfolding_all rfl) ?_
      rw [kx_inc, kx_inc]
      have e9 : pb_ls D n (e + 1) = ((pb_ls D n e).1 + 1, ms_u (pb_ls D n e).2 (pb_ls D n e).1 (e + 1)) := by rw [eL, if_pos q2]
      have k9 := ih (e + 1) (kc_upd h 280 (pb_ls D n e).1 (.inl (Int32.ofNat (e + 1)))) (by omega) (by omega) (fa_wn (fs_k279.2.1 _ (by omega)) (show e + 1 ≤ 5 by omega) (by decide) hw) (by
        unfold fs_ls
        rw [e9]
        intro j hj
        have hj : j < (pb_ls D n e).1 + 1 := hj
        show _ = Sum.inl (Int32.ofNat (ms_u (pb_ls D n e).2 (pb_ls D n e).1 (e + 1) j))
        by_cases c : j = (pb_ls D n e).1
        · rw [c, fu_eq, ms_ue]
        · rw [fu_ne (fun q => c q.2), ms_un c]
          exact hls j (by omega)) (fun a y ha => (fu_ne (fun q => ha q.1)).trans (hF a y ha))
      rw [e9] at k9
      refine kf_lo (L := [(2, .inl (Int32.ofNat (e + 1 + 1))), (1, .inl (Int32.ofNat ((pb_ls D n e).1 + 1))), (0, .inr (.inr (.inl (some 259))))]) (by intro q hq; simp only [List.mem_cons, List.not_mem_nil, or_false] at hq; rcases hq with rfl | rfl | rfl <;> rfl) ?_
      exact k9
set_option maxRecDepth 20000 in
theorem fs_r131 {g : kc_G} {d : Nat} {h0 : kc_H} {B : Nat → Int32} {D : Nat → Nat} {n X : Nat} (hw0 : kd_wt kd_ty h0) (hg : kc_ok g) (hC0 : fu_B B h0) (en : B 3 = Int32.ofNat n) (eX : B 0 = Int32.ofNat X) (hX : X ≤ 5) (hn : n ≤ 5) (hD : ∀ k, k < n → B (150 + k) = Int32.ofNat (D k)) (hl : ∀ k, D k < 6) (hdl : ∀ i j, i < n → j < n → D i = D j → i = j) : kc_Con g (d + 3) 131 [.inr (.inr (.inl (some 259)))] h0 (fun rv h' => rv = none ∧ kd_wt kd_ty h' ∧ fs_ls D n X 280 h' ∧ ∀ a x, ¬ a = 280 → h' a x = h0 a x) := by
  refine kc_Con_new hg (M := wk_m131) rfl rfl rfl (show 1 ≤ 3 by decide) ?_
  refine kx_go 4 (pc' := 4) (L' := [(2, .inl (Int32.ofNat 1)), (1, .inl (Int32.ofNat 0)), (0, .inr (.inr (.inl (some 259))))]) (S' := []) (h' := h0) (by with_unfolding_all rfl) ?_
  exact fs_r131l hg hC0 en eX hX hn hD hl hdl X 0 h0 (by omega) (by omega) hw0 (fun j hj => by cases hj) (fun _ _ _ => rfl)
end
