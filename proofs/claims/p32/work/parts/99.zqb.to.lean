section
-- 99.zqb
/-! ===== the search, reference: STAYS ===== -/
theorem ms_it_all {Q L : Nat} {J : (Nat → Nat) → ms_S → ms_S} {s : ms_S} : (ms_it Q L J (Q ^ L) ((fun _ => 0), s)).2 = ms_tree Q J L 0 (fun _ => 0) s := by
  by_cases h : 0 < Q
  · rw [ms_it_tree h L 0 (fun _ => 0) s (by omega) (fun j _ _ => rfl)]
  · obtain rfl : Q = 0 := by omega
    cases L with
    | zero => rfl
    | succ L =>
      rw [Nat.zero_pow (Nat.succ_pos L)]
      rfl
def fs_RS (h0 : kc_H) (F E : Nat → Nat) (co : Nat → Bool) (L M : Nat) (c : Nat → Nat) (S : ms_S) (h : kc_H) : Prop := kd_wt kd_ty h ∧ (∀ l, l < L → h 272 l = .inl (Int32.ofNat (c l))) ∧ (0 < M → ∀ l, l < L → c l < 2 * M) ∧ (h 259 33 = .inl (Int32.ofNat S.1) ∧ S.1 ≤ 1000000) ∧ (∀ l, l < L → h 278 l = .inl (Int32.ofNat (S.2 l))) ∧ fs_sp F E co L h ∧ ∀ a x, ¬ (a = 259 ∧ x = 33) → ¬ (272 ≤ a ∧ a ≤ 278) → h a x = h0 a x
theorem fs_RS_x {h0 : kc_H} {F E : Nat → Nat} {co : Nat → Bool} {L M : Nat} {c : Nat → Nat} {S : ms_S} {h h2 : kc_H} (hw2 : kd_wt kd_ty h2) (hF : fs_rx h h2) (hR : fs_RS h0 F E co L M c S h) : fs_RS h0 F E co L M c S h2 := by
  obtain ⟨hw, hcd, hc6, hb, hf, hsp, hF0⟩ := hR
  exact ⟨hw2, fun l hl => (hF _ _ (by decide)).trans (hcd l hl), hc6, ⟨(hF _ _ (by decide)).trans hb.1, hb.2⟩, fun l hl => (hF _ _ (by decide)).trans (hf l hl), fs_sp_f (fun a y q1 q2 => hF a y (by omega)) hsp, fun a y q1 q2 => (hF a y (by omega)).trans (hF0 a y q1 q2)⟩
def fs_hv (M L : Nat) : Int32 := if 5000 < fs_hn M L then Int32.ofInt (-1) else Int32.ofNat (fs_hn M L)
set_option maxRecDepth 20000 in
theorem fs_r121l {g : kc_G} {d : Nat} {h : kc_H} {B : Nat → Int32} {L M : Nat} (hw : kd_wt kd_ty h) (hC : fu_B B h) (hM : M ≤ 3) (eM : B 1 = Int32.ofNat M) (hL : L ≤ 10) (eL : B 2 = Int32.ofNat L) : ∀ u l : Nat, L - l = u → l ≤ L → kc_Ev g d wk_m121 (fun rv h' => rv = some (.inl (fs_hv M L)) ∧ h' = h) 4 [(2, .inl (Int32.ofNat l)), (1, .inl (Int32.ofNat (fs_hn M l))), (0, .inr (.inr (.inl (some 259))))] [] h := by
  intro u
  induction u with
  | zero =>
    intro l hu hl
    have b := fs_hn_b hM l
    refine kx_go 2 (pc' := 6) (L' := [(2, .inl (Int32.ofNat l)), (1, .inl (Int32.ofNat (fs_hn M l))), (0, .inr (.inr (.inl (some 259))))]) (S' := [.inr (.inr (.inl (some 259))), .inl (Int32.ofNat l)]) (h' := h) (by with_unfolding_all rfl) ?_
    refine kx_getf (c := 259) (v := .inr (.inr (.inl (some 260)))) rfl (by decide) (kx_ofr (hw _ _ _ fs_k259_0)) ?_
    refine kx_go 1 (pc' := 10) (L' := [(2, .inl (Int32.ofNat l)), (1, .inl (Int32.ofNat (fs_hn M l))), (0, .inr (.inr (.inl (some 259))))]) (S' := [.inl (Int32.ofNat 2), .inr (.inr (.inl (some 260))), .inl (Int32.ofNat l)]) (h' := h) (by with_unfolding_all rfl) ?_
    refine kx_iald (c := 260) (j := 2) (m := 650) (v := .inl (Int32.ofNat L)) rfl rfl (by decide) (by decide) (by omega) ((hC 2 (by decide) (by decide)).trans (by rw [eL])) ?_
    refine kx_go 1 (pc' := (if kc_cnd .ge (Int32.ofNat l).toInt (Int32.ofNat L).toInt then 42 else 14)) (L' := [(2, .inl (Int32.ofNat l)), (1, .inl (Int32.ofNat (fs_hn M l))), (0, .inr (.inr (.inl (some 259))))]) (S' := []) (h' := h) (by with_unfolding_all rfl) ?_
    rw [if_pos ((kx_ge (by omega) (by omega)).mpr (by omega))]
    obtain rfl : l = L := by omega
    refine kx_go 3 (pc' := (if kc_cnd .le (Int32.ofNat (fs_hn M l)).toInt (Int32.ofNat 5000).toInt then 53 else 49)) (L' := [(2, .inl (Int32.ofNat l)), (1, .inl (Int32.ofNat (fs_hn M l))), (0, .inr (.inr (.inl (some 259))))]) (S' := []) (h' := h) (by with_unfolding_all rfl) ?_
    by_cases c : 5000 < fs_hn M l
    · rw [if_neg (fun q => by have := (kx_le (by omega) (by omega)).mp q; omega), show fs_hv M l = Int32.ofInt (-1) from if_pos c]
      refine kx_go 2 (pc' := 54) (L' := [(2, .inl (Int32.ofNat l)), (1, .inl (Int32.ofNat (fs_hn M l))), (0, .inr (.inr (.inl (some 259))))]) (S' := [.inl (Int32.ofInt (-1))]) (h' := h) (by with_unfolding_all rfl) ?_
      exact kc_ret_ok rfl (rv := some (.inl (Int32.ofInt (-1)))) rfl ⟨rfl, rfl⟩
    · rw [if_pos ((kx_le (by omega) (by omega)).mpr (by omega)), show fs_hv M l = Int32.ofNat (fs_hn M l) from if_neg c]
      refine kx_go 1 (pc' := 54) (L' := [(2, .inl (Int32.ofNat l)), (1, .inl (Int32.ofNat (fs_hn M l))), (0, .inr (.inr (.inl (some 259))))]) (S' := [.inl (Int32.ofNat (fs_hn M l))]) (h' := h) (by with_unfolding_all rfl) ?_
      exact kc_ret_ok rfl (rv := some (.inl (Int32.ofNat (fs_hn M l)))) rfl ⟨rfl, rfl⟩
  | succ u ih =>
    intro l hu hl
    have b := fs_hn_b hM l
    refine kx_go 2 (pc' := 6) (L' := [(2, .inl (Int32.ofNat l)), (1, .inl (Int32.ofNat (fs_hn M l))), (0, .inr (.inr (.inl (some 259))))]) (S' := [.inr (.inr (.inl (some 259))), .inl (Int32.ofNat l)]) (h' := h) (by with_unfolding_all rfl) ?_
    refine kx_getf (c := 259) (v := .inr (.inr (.inl (some 260)))) rfl (by decide) (kx_ofr (hw _ _ _ fs_k259_0)) ?_
    refine kx_go 1 (pc' := 10) (L' := [(2, .inl (Int32.ofNat l)), (1, .inl (Int32.ofNat (fs_hn M l))), (0, .inr (.inr (.inl (some 259))))]) (S' := [.inl (Int32.ofNat 2), .inr (.inr (.inl (some 260))), .inl (Int32.ofNat l)]) (h' := h) (by with_unfolding_all rfl) ?_
    refine kx_iald (c := 260) (j := 2) (m := 650) (v := .inl (Int32.ofNat L)) rfl rfl (by decide) (by decide) (by omega) ((hC 2 (by decide) (by decide)).trans (by rw [eL])) ?_
    refine kx_go 1 (pc' := (if kc_cnd .ge (Int32.ofNat l).toInt (Int32.ofNat L).toInt then 42 else 14)) (L' := [(2, .inl (Int32.ofNat l)), (1, .inl (Int32.ofNat (fs_hn M l))), (0, .inr (.inr (.inl (some 259))))]) (S' := []) (h' := h) (by with_unfolding_all rfl) ?_
    rw [if_neg (fun q => by have := (kx_ge (by omega) (by omega)).mp q; omega)]
    refine kx_go 3 (pc' := (if kc_cnd .le (Int32.ofNat (fs_hn M l)).toInt (Int32.ofNat 5000).toInt then 25 else 21)) (L' := [(2, .inl (Int32.ofNat l)), (1, .inl (Int32.ofNat (fs_hn M l))), (0, .inr (.inr (.inl (some 259))))]) (S' := []) (h' := h) (by with_unfolding_all rfl) ?_
    by_cases c : 5000 < fs_hn M l
    · rw [if_neg (fun q => by have := (kx_le (by omega) (by omega)).mp q; omega)]
      refine kx_go 5 (pc' := 4) (L' := [(2, .inl ((Int32.ofNat l) + Int32.ofInt 1)), (1, .inl (Int32.ofNat (fs_hn M l))), (0, .inr (.inr (.inl (some 259))))]) (S' := []) (h' := h) (by with_unfolding_all rfl) ?_
      rw [kx_inc, show Int32.ofNat (fs_hn M l) = Int32.ofNat (fs_hn M (l + 1)) from congrArg Int32.ofNat (if_pos c).symm]
      refine kf_lo (L := [(2, .inl (Int32.ofNat (l + 1))), (1, .inl (Int32.ofNat (fs_hn M (l + 1)))), (0, .inr (.inr (.inl (some 259))))]) (by intro q hq; simp only [List.mem_cons, List.not_mem_nil, or_false] at hq; rcases hq with rfl | rfl | rfl <;> rfl) ?_
      exact ih (l + 1) (by omega) (by omega)
    · rw [if_pos ((kx_le (by omega) (by omega)).mpr (by omega))]
      refine kx_go 4 (pc' := 29) (L' := [(2, .inl (Int32.ofNat l)), (1, .inl (Int32.ofNat (fs_hn M l))), (0, .inr (.inr (.inl (some 259))))]) (S' := [.inr (.inr (.inl (some 259))), .inl ((Int32.ofNat (fs_hn M l)) * (Int32.ofNat 2))]) (h' := h) (by with_unfolding_all rfl) ?_
      refine kx_getf (c := 259) (v := .inr (.inr (.inl (some 260)))) rfl (by decide) (kx_ofr (hw _ _ _ fs_k259_0)) ?_
      refine kx_go 1 (pc' := 33) (L' := [(2, .inl (Int32.ofNat l)), (1, .inl (Int32.ofNat (fs_hn M l))), (0, .inr (.inr (.inl (some 259))))]) (S' := [.inl (Int32.ofNat 1), .inr (.inr (.inl (some 260))), .inl ((Int32.ofNat (fs_hn M l)) * (Int32.ofNat 2))]) (h' := h) (by with_unfolding_all rfl) ?_
      refine kx_iald (c := 260) (j := 1) (m := 650) (v := .inl (Int32.ofNat M)) rfl rfl (by decide) (by decide) (by omega) ((hC 1 (by decide) (by decide)).trans (by rw [eM])) ?_
      refine kx_go 4 (pc' := 4) (L' := [(2, .inl ((Int32.ofNat l) + Int32.ofInt 1)), (1, .inl (((Int32.ofNat (fs_hn M l)) * (Int32.ofNat 2)) * (Int32.ofNat M))), (0, .inr (.inr (.inl (some 259))))]) (S' := []) (h' := h) (by with_unfolding_all rfl) ?_
      rw [kx_inc, kx_mul, kx_mul, show fs_hn M l * 2 * M = fs_hn M (l + 1) from (Nat.mul_assoc _ _ _).trans (if_neg c).symm]
      refine kf_lo (L := [(2, .inl (Int32.ofNat (l + 1))), (1, .inl (Int32.ofNat (fs_hn M (l + 1)))), (0, .inr (.inr (.inl (some 259))))]) (by intro q hq; simp only [List.mem_cons, List.not_mem_nil, or_false] at hq; rcases hq with rfl | rfl | rfl <;> rfl) ?_
      exact ih (l + 1) (by omega) (by omega)
set_option maxRecDepth 20000 in
theorem fs_r121 {g : kc_G} {d : Nat} {h : kc_H} {B : Nat → Int32} {L M : Nat} (hg : kc_ok g) (hw : kd_wt kd_ty h) (hC : fu_B B h) (hM : M ≤ 3) (eM : B 1 = Int32.ofNat M) (hL : L ≤ 10) (eL : B 2 = Int32.ofNat L) : kc_Con g (d + 1) 121 [.inr (.inr (.inl (some 259)))] h (fun rv h' => rv = some (.inl (fs_hv M L)) ∧ h' = h) := by
  refine kc_Con_new hg (M := wk_m121) rfl rfl rfl (show 1 ≤ 3 by decide) ?_
  refine kx_go 4 (pc' := 4) (L' := [(2, .inl (Int32.ofNat 0)), (1, .inl (Int32.ofNat 1)), (0, .inr (.inr (.inl (some 259))))]) (S' := []) (h' := h) (by with_unfolding_all rfl) ?_
  exact fs_r121l hw hC hM eM hL eL L 0 (by omega) (by omega)
set_option maxRecDepth 20000 in
theorem fs_r122l {g : kc_G} {d : Nat} {h0 : kc_H} {B : Nat → Int32} {D : Nat → Nat} {n L M N : Nat} {f : Nat → Nat} (hg : kc_ok g) (hB : fu_BT B) (hC0 : fu_B B h0) (hn : n ≤ 5) (en : B 3 = Int32.ofNat n) (hL : L ≤ 10) (eL : B 2 = Int32.ofNat L) (hM : M ≤ 3) (eM : B 1 = Int32.ofNat M) (hN : N ≤ 5000) (hml : 0 < N → 0 < M ∨ L = 0) : ∀ (u k : Nat) (h : kc_H), N - k = u → k ≤ N → fs_RS h0 (fs_F B D n) (fs_E B D n) (fs_co B D n) L M ((ms_it (2 * M) L (ms_J (fs_bor B D n L M) (fs_wo B D n L M)) k ((fun _ => 0), (1000000, f))).1) ((ms_it (2 * M) L (ms_J (fs_bor B D n L M) (fs_wo B D n L M)) k ((fun _ => 0), (1000000, f))).2) h → kc_Ev g (d + 7) wk_m122 (fun rv h' => rv = some (.inl (kp_b (decide ((ms_it (2 * M) L (ms_J (fs_bor B D n L M) (fs_wo B D n L M)) N ((fun _ => 0), (1000000, f))).2.1 < 1000000)))) ∧ ∃ c, fs_RS h0 (fs_F B D n) (fs_E B D n) (fs_co B D n) L M (c) ((ms_it (2 * M) L (ms_J (fs_bor B D n L M) (fs_wo B D n L M)) N ((fun _ => 0), (1000000, f))).2) h') 17 [(2, .inl (Int32.ofNat k)), (1, .inl (Int32.ofNat N)), (0, .inr (.inr (.inl (some 259))))] [] h := by
  have hE : ∀ l, l < L → (fs_F B D n) l ≤ 5 ∧ (fs_E B D n) l ≤ 5 := fun l hl => by
    have := (fs_gb (D := D) (L := L) hB hn hL).2.2.1 l hl
    omega
  have wob : ∀ c, fs_wo B D n L M c ≤ 990 := fun c => fs_wob (co := fs_co B D n) (fs_gb hB hn hL)
  intro u
  induction u with
  | zero =>
    intro k h hu hk hR
    have hw := hR.1
    have hC : fu_B B h := fs_B_f (fun x => hR.2.2.2.2.2.2 260 x (by omega) (by omega)) hC0
    have e33 := hR.2.2.2.1.1
    have l33 := hR.2.2.2.1.2
    refine kx_go 3 (pc' := (if kc_cnd .ge (Int32.ofNat k).toInt (Int32.ofNat N).toInt then 91 else 22)) (L' := [(2, .inl (Int32.ofNat k)), (1, .inl (Int32.ofNat N)), (0, .inr (.inr (.inl (some 259))))]) (S' := []) (h' := h) (by with_unfolding_all rfl) ?_
    rw [if_pos ((kx_ge (by omega) (by omega)).mpr (by omega))]
    obtain rfl : k = N := by omega
    refine kx_go 1 (pc' := 92) (L' := [(2, .inl (Int32.ofNat k)), (1, .inl (Int32.ofNat k)), (0, .inr (.inr (.inl (some 259))))]) (S' := [.inr (.inr (.inl (some 259)))]) (h' := h) (by with_unfolding_all rfl) ?_
    refine kx_getf (c := 259) (v := .inl (Int32.ofNat (ms_it (2 * M) L (ms_J (fs_bor B D n L M) (fs_wo B D n L M)) k ((fun _ => 0), (1000000, f))).2.1)) rfl (by decide) e33 ?_
    refine kx_go 2 (pc' := (if kc_cnd .ge (Int32.ofNat (ms_it (2 * M) L (ms_J (fs_bor B D n L M) (fs_wo B D n L M)) k ((fun _ => 0), (1000000, f))).2.1).toInt (Int32.ofNat 1000000).toInt then 105 else 101)) (L' := [(2, .inl (Int32.ofNat k)), (1, .inl (Int32.ofNat k)), (0, .inr (.inr (.inl (some 259))))]) (S' := []) (h' := h) (by with_unfolding_all rfl) ?_
    by_cases c : (ms_it (2 * M) L (ms_J (fs_bor B D n L M) (fs_wo B D n L M)) k ((fun _ => 0), (1000000, f))).2.1 < 1000000
    · rw [if_neg (fun q => by have := (kx_ge (by omega) (by omega)).mp q; omega), decide_eq_true c]
      refine kx_go 2 (pc' := 106) (L' := [(2, .inl (Int32.ofNat k)), (1, .inl (Int32.ofNat k)), (0, .inr (.inr (.inl (some 259))))]) (S' := [.inl (Int32.ofNat 1)]) (h' := h) (by with_unfolding_all rfl) ?_
      exact kc_ret_ok rfl (rv := some (.inl (Int32.ofNat 1))) rfl ⟨rfl, _, hR⟩
    · rw [if_pos ((kx_ge (by omega) (by omega)).mpr (by omega)), decide_eq_false c]
      refine kx_go 1 (pc' := 106) (L' := [(2, .inl (Int32.ofNat k)), (1, .inl (Int32.ofNat k)), (0, .inr (.inr (.inl (some 259))))]) (S' := [.inl (Int32.ofNat 0)]) (h' := h) (by with_unfolding_all rfl) ?_
      exact kc_ret_ok rfl (rv := some (.inl (Int32.ofNat 0))) rfl ⟨rfl, _, hR⟩
  | succ u ih =>
    intro k h hu hk hR
    have hw := hR.1
    have hC : fu_B B h := fs_B_f (fun x => hR.2.2.2.2.2.2 260 x (by omega) (by omega)) hC0
    have e33 := hR.2.2.2.1.1
    have l33 := hR.2.2.2.1.2
    refine kx_go 3 (pc' := (if kc_cnd .ge (Int32.ofNat k).toInt (Int32.ofNat N).toInt then 91 else 22)) (L' := [(2, .inl (Int32.ofNat k)), (1, .inl (Int32.ofNat N)), (0, .inr (.inr (.inl (some 259))))]) (S' := []) (h' := h) (by with_unfolding_all rfl) ?_
    rw [if_neg (fun q => by have := (kx_ge (by omega) (by omega)).mp q; omega)]
    have est : ms_it (2 * M) L (ms_J (fs_bor B D n L M) (fs_wo B D n L M)) (k + 1) ((fun _ => 0), (1000000, f)) = (ms_nx (2 * M) L (ms_it (2 * M) L (ms_J (fs_bor B D n L M) (fs_wo B D n L M)) k ((fun _ => 0), (1000000, f))).1, (ms_J (fs_bor B D n L M) (fs_wo B D n L M)) (ms_it (2 * M) L (ms_J (fs_bor B D n L M) (fs_wo B D n L M)) k ((fun _ => 0), (1000000, f))).1 (ms_it (2 * M) L (ms_J (fs_bor B D n L M) (fs_wo B D n L M)) k ((fun _ => 0), (1000000, f))).2) := ms_it_add k 1 _
    have hkp := hR
    generalize ms_it (2 * M) L (ms_J (fs_bor B D n L M) (fs_wo B D n L M)) k ((fun _ => 0), (1000000, f)) = p0 at hR est e33 l33 hkp
    obtain ⟨c, S⟩ := p0
    obtain ⟨-, hcd, hc6, hb, hf, hsp, hF0⟩ := hR
    have hcM : ∀ l, l < L → c l < 2 * M := fun l hl => (hml (by omega)).elim (fun q => hc6 q l hl) (fun q => by omega)
    have hc : ∀ l, l < L → h 272 l = .inl (Int32.ofNat (c l)) ∧ c l < 6 := fun l hl => ⟨hcd l hl, by have := hcM l hl; omega⟩
    have wb := wob c
    have l9 : S.1 ≤ 1000000 := hb.2
    have next : ∀ (S2 : ms_S) (h : kc_H), fs_RS h0 (fs_F B D n) (fs_E B D n) (fs_co B D n) L M (c) (S2) h → S2 = (ms_J (fs_bor B D n L M) (fs_wo B D n L M)) c S → kc_Ev g (d + 7) wk_m122 (fun rv h' => rv = some (.inl (kp_b (decide ((ms_it (2 * M) L (ms_J (fs_bor B D n L M) (fs_wo B D n L M)) N ((fun _ => 0), (1000000, f))).2.1 < 1000000)))) ∧ ∃ c, fs_RS h0 (fs_F B D n) (fs_E B D n) (fs_co B D n) L M (c) ((ms_it (2 * M) L (ms_J (fs_bor B D n L M) (fs_wo B D n L M)) N ((fun _ => 0), (1000000, f))).2) h') 81 [(2, .inl (Int32.ofNat k)), (1, .inl (Int32.ofNat N)), (0, .inr (.inr (.inl (some 259))))] [] h := by
      intro S2 h hR eS
      obtain ⟨hw, hcd, hc6, hb, hf, hsp, hF0⟩ := hR
      have hC : fu_B B h := fs_B_f (fun x => hF0 260 x (by omega) (by omega)) hC0
      refine kx_go 1 (pc' := 82) (L' := [(2, .inl (Int32.ofNat k)), (1, .inl (Int32.ofNat N)), (0, .inr (.inr (.inl (some 259))))]) (S' := [.inr (.inr (.inl (some 259)))]) (h' := h) (by with_unfolding_all rfl) ?_
      refine kc_call_rule (M2 := wk_m124) (av := [.inr (.inr (.inl (some 259)))]) (r := []) rfl rfl (kc_Con_le (fs_r124 (d := d) (c := c) hg hw hC hL hM eM eL hcd hcM) (by omega)) (fun rv h2 hq => ?_)
      obtain ⟨rfl, hw2, hcd2, hF2⟩ := hq
      show kc_Ev g (d + 7) wk_m122 _ 85 [(2, .inl (Int32.ofNat k)), (1, .inl (Int32.ofNat N)), (0, .inr (.inr (.inl (some 259))))] [] h2
      refine kx_go 2 (pc' := 17) (L' := [(2, .inl ((Int32.ofNat k) + Int32.ofInt 1)), (1, .inl (Int32.ofNat N)), (0, .inr (.inr (.inl (some 259))))]) (S' := []) (h' := h2) (by with_unfolding_all rfl) ?_
      rw [kx_inc]
      refine ih (k + 1) h2 (by omega) (by omega) ?_
      rw [est, ← eS]
      exact ⟨hw2, hcd2, fun q => ms_nx_lt L c (Nat.le_refl _) hcM, ⟨(hF2 _ _ (by decide)).trans hb.1, hb.2⟩, fun l hl => (hF2 _ _ (by decide)).trans (hf l hl), fs_sp_f (fun a y q1 q2 => hF2 a y (by omega)) hsp, fun a y q1 q2 => (hF2 a y (by omega)).trans (hF0 a y q1 q2)⟩
    refine kx_go 1 (pc' := 23) (L' := [(2, .inl (Int32.ofNat k)), (1, .inl (Int32.ofNat N)), (0, .inr (.inr (.inl (some 259))))]) (S' := [.inr (.inr (.inl (some 259)))]) (h' := h) (by with_unfolding_all rfl) ?_
    refine kc_call_rule (M2 := wk_m106) (av := [.inr (.inr (.inl (some 259)))]) (r := []) rfl rfl (kc_Con_le (fs_r106 (d := d) (c := c) (F := (fs_F B D n)) (E := (fs_E B D n)) (co := (fs_co B D n)) hw hg hB hC hn en hL eL hM eM hE hsp hc) (by omega)) (fun rv h2 hq => ?_)
    obtain ⟨rfl, hw2, hF2⟩ := hq
    show kc_Ev g (d + 7) wk_m122 _ 26 [(2, .inl (Int32.ofNat k)), (1, .inl (Int32.ofNat N)), (0, .inr (.inr (.inl (some 259))))] [.inl (kp_b (fs_bor B D n L M c))] h2
    have R2 := fs_RS_x hw2 hF2 hkp
    refine kx_go 1 (pc' := (if kc_cnd .eq (kp_b (fs_bor B D n L M c)).toInt 0 then 81 else 29)) (L' := [(2, .inl (Int32.ofNat k)), (1, .inl (Int32.ofNat N)), (0, .inr (.inr (.inl (some 259))))]) (S' := []) (h' := h2) (by with_unfolding_all rfl) ?_
    cases eb : fs_bor B D n L M c with
    | false =>
      rw [if_pos (kx_b0.mpr rfl)]
      exact next S h2 R2 (by
        unfold ms_J ms_j
        rw [if_neg (fun q => by rw [eb] at q; cases q.1)])
    | true =>
      rw [if_neg fa_b0t]
      have hC2 : fu_B B h2 := fs_B_f (fun x => hF2 260 x (by decide)) hC
      have hc2 : ∀ l, l < L → h2 272 l = .inl (Int32.ofNat (c l)) ∧ c l < 6 := fun l hl => ⟨R2.2.1 l hl, (hc l hl).2⟩
      refine kx_go 1 (pc' := 30) (L' := [(2, .inl (Int32.ofNat k)), (1, .inl (Int32.ofNat N)), (0, .inr (.inr (.inl (some 259))))]) (S' := [.inr (.inr (.inl (some 259)))]) (h' := h2) (by with_unfolding_all rfl) ?_
      refine kc_call_rule (M2 := wk_m110) (av := [.inr (.inr (.inl (some 259)))]) (r := []) rfl rfl (kc_Con_le (fs_r110 (d := d) (c := c) (F := (fs_F B D n)) (E := (fs_E B D n)) (co := (fs_co B D n)) hw2 hg hB hC2 hn en hL eL hM eM hE R2.2.2.2.2.2.1 hc2) (by omega)) (fun rv h3 hq => ?_)
      obtain ⟨rfl, hw3, hF3⟩ := hq
      show kc_Ev g (d + 7) wk_m122 _ 33 [(2, .inl (Int32.ofNat k)), (1, .inl (Int32.ofNat N)), (0, .inr (.inr (.inl (some 259))))] [.inl (Int32.ofNat (fs_wo B D n L M c))] h3
      have R3 := fs_RS_x hw3 hF3 R2
      refine kx_go 3 (pc' := 36) (L' := [(3, .inl (Int32.ofNat (fs_wo B D n L M c))), (2, .inl (Int32.ofNat k)), (1, .inl (Int32.ofNat N)), (0, .inr (.inr (.inl (some 259))))]) (S' := [.inr (.inr (.inl (some 259))), .inl (Int32.ofNat (fs_wo B D n L M c))]) (h' := h3) (by with_unfolding_all rfl) ?_
      refine kx_getf (c := 259) (v := .inl (Int32.ofNat S.1)) rfl (by decide) R3.2.2.2.1.1 ?_
      refine kx_go 1 (pc' := (if kc_cnd .ge (Int32.ofNat (fs_wo B D n L M c)).toInt (Int32.ofNat S.1).toInt then 81 else 42)) (L' := [(3, .inl (Int32.ofNat (fs_wo B D n L M c))), (2, .inl (Int32.ofNat k)), (1, .inl (Int32.ofNat N)), (0, .inr (.inr (.inl (some 259))))]) (S' := []) (h' := h3) (by with_unfolding_all rfl) ?_
      by_cases cw : fs_wo B D n L M c < S.1
      · rw [if_neg (fun q => by have := (kx_ge (by omega) (by omega)).mp q; omega)]
        have eJ : (ms_J (fs_bor B D n L M) (fs_wo B D n L M)) c S = (fs_wo B D n L M c, c) := if_pos ⟨eb, cw⟩
        refine kx_go 2 (pc' := 44) (L' := [(3, .inl (Int32.ofNat (fs_wo B D n L M c))), (2, .inl (Int32.ofNat k)), (1, .inl (Int32.ofNat N)), (0, .inr (.inr (.inl (some 259))))]) (S' := [.inl (Int32.ofNat (fs_wo B D n L M c)), .inr (.inr (.inl (some 259)))]) (h' := h3) (by with_unfolding_all rfl) ?_
        have hw4 : kd_wt kd_ty (kc_upd h3 259 33 (.inl (Int32.ofNat (fs_wo B D n L M c)))) := fa_wa fs_k273.2.2.2.2.2.2.2 hw3
        refine kx_go 1 (pc' := 47) (L' := [(3, .inl (Int32.ofNat (fs_wo B D n L M c))), (2, .inl (Int32.ofNat k)), (1, .inl (Int32.ofNat N)), (0, .inr (.inr (.inl (some 259))))]) (S' := []) (h' := (kc_upd h3 259 33 (.inl (Int32.ofNat (fs_wo B D n L M c))))) (by with_unfolding_all rfl) ?_
        obtain ⟨-, hcd3, -, -, -, hsp3, hF30⟩ := R3
        have e4 : (kc_upd h3 259 33 (.inl (Int32.ofNat (fs_wo B D n L M c)))) 259 33 = .inl (Int32.ofNat (fs_wo B D n L M c)) := fu_eq
        have o4 : ∀ a x, ¬ (a = 259 ∧ x = 33) → (kc_upd h3 259 33 (.inl (Int32.ofNat (fs_wo B D n L M c)))) a x = h3 a x := fun a y q => fu_ne q
        generalize (kc_upd h3 259 33 (.inl (Int32.ofNat (fs_wo B D n L M c)))) = h4 at hw4 e4 o4 ⊢
        have cpy : ∀ (v l : Nat) (h : kc_H), L - l = v → l ≤ L → kd_wt kd_ty h → (∀ j, j < l → h 278 j = .inl (Int32.ofNat (c j))) → (∀ a x, ¬ a = 278 → h a x = h4 a x) → kc_Ev g (d + 7) wk_m122 (fun rv h' => rv = some (.inl (kp_b (decide ((ms_it (2 * M) L (ms_J (fs_bor B D n L M) (fs_wo B D n L M)) N ((fun _ => 0), (1000000, f))).2.1 < 1000000)))) ∧ ∃ c, fs_RS h0 (fs_F B D n) (fs_E B D n) (fs_co B D n) L M (c) ((ms_it (2 * M) L (ms_J (fs_bor B D n L M) (fs_wo B D n L M)) N ((fun _ => 0), (1000000, f))).2) h') 50 [(4, .inl (Int32.ofNat l)), (3, .inl (Int32.ofNat (fs_wo B D n L M c))), (2, .inl (Int32.ofNat k)), (1, .inl (Int32.ofNat N)), (0, .inr (.inr (.inl (some 259))))] [] h := by
          intro v
          induction v with
          | zero =>
            intro l h hv hl hw hz hF
            have hC : fu_B B h := fs_B_f (fun x => (hF 260 x (by decide)).trans ((o4 260 x (by omega)).trans (hF30 260 x (by omega) (by omega)))) hC0
            refine kx_go 2 (pc' := 53) (L' := [(4, .inl (Int32.ofNat l)), (3, .inl (Int32.ofNat (fs_wo B D n L M c))), (2, .inl (Int32.ofNat k)), (1, .inl (Int32.ofNat N)), (0, .inr (.inr (.inl (some 259))))]) (S' := [.inr (.inr (.inl (some 259))), .inl (Int32.ofNat l)]) (h' := h) (by with_unfolding_all rfl) ?_
            refine kx_getf (c := 259) (v := .inr (.inr (.inl (some 260)))) rfl (by decide) (kx_ofr (hw _ _ _ fs_k259_0)) ?_
            refine kx_go 1 (pc' := 57) (L' := [(4, .inl (Int32.ofNat l)), (3, .inl (Int32.ofNat (fs_wo B D n L M c))), (2, .inl (Int32.ofNat k)), (1, .inl (Int32.ofNat N)), (0, .inr (.inr (.inl (some 259))))]) (S' := [.inl (Int32.ofNat 2), .inr (.inr (.inl (some 260))), .inl (Int32.ofNat l)]) (h' := h) (by with_unfolding_all rfl) ?_
            refine kx_iald (c := 260) (j := 2) (m := 650) (v := .inl (Int32.ofNat L)) rfl rfl (by decide) (by decide) (by omega) ((hC 2 (by decide) (by decide)).trans (by rw [eL])) ?_
            refine kx_go 1 (pc' := (if kc_cnd .ge (Int32.ofNat l).toInt (Int32.ofNat L).toInt then 81 else 61)) (L' := [(4, .inl (Int32.ofNat l)), (3, .inl (Int32.ofNat (fs_wo B D n L M c))), (2, .inl (Int32.ofNat k)), (1, .inl (Int32.ofNat N)), (0, .inr (.inr (.inl (some 259))))]) (S' := []) (h' := h) (by with_unfolding_all rfl) ?_
            rw [if_pos ((kx_ge (by omega) (by omega)).mpr (by omega))]
            refine kf_lo (L := [(2, .inl (Int32.ofNat k)), (1, .inl (Int32.ofNat N)), (0, .inr (.inr (.inl (some 259))))]) (by intro q hq; simp only [List.mem_cons, List.not_mem_nil, or_false] at hq; rcases hq with rfl | rfl | rfl <;> rfl) ?_
            refine next (fs_wo B D n L M c, c) h ⟨hw, fun j hj => (hF 272 j (by omega)).trans ((o4 272 j (by omega)).trans (hcd3 j hj)), hc6, ⟨(hF 259 33 (by decide)).trans e4, by show fs_wo B D n L M c ≤ 1000000; omega⟩, fun j hj => hz j (by omega), fs_sp_f (fun a y q1 q2 => (hF a y (by omega)).trans (o4 a y (by omega))) hsp3, fun a y q1 q2 => (hF a y (by omega)).trans ((o4 a y q1).trans (hF30 a y q1 q2))⟩ eJ.symm
          | succ v ihv =>
            intro l h hv hl hw hz hF
            have hC : fu_B B h := fs_B_f (fun x => (hF 260 x (by decide)).trans ((o4 260 x (by omega)).trans (hF30 260 x (by omega) (by omega)))) hC0
            refine kx_go 2 (pc' := 53) (L' := [(4, .inl (Int32.ofNat l)), (3, .inl (Int32.ofNat (fs_wo B D n L M c))), (2, .inl (Int32.ofNat k)), (1, .inl (Int32.ofNat N)), (0, .inr (.inr (.inl (some 259))))]) (S' := [.inr (.inr (.inl (some 259))), .inl (Int32.ofNat l)]) (h' := h) (by with_unfolding_all rfl) ?_
            refine kx_getf (c := 259) (v := .inr (.inr (.inl (some 260)))) rfl (by decide) (kx_ofr (hw _ _ _ fs_k259_0)) ?_
            refine kx_go 1 (pc' := 57) (L' := [(4, .inl (Int32.ofNat l)), (3, .inl (Int32.ofNat (fs_wo B D n L M c))), (2, .inl (Int32.ofNat k)), (1, .inl (Int32.ofNat N)), (0, .inr (.inr (.inl (some 259))))]) (S' := [.inl (Int32.ofNat 2), .inr (.inr (.inl (some 260))), .inl (Int32.ofNat l)]) (h' := h) (by with_unfolding_all rfl) ?_
            refine kx_iald (c := 260) (j := 2) (m := 650) (v := .inl (Int32.ofNat L)) rfl rfl (by decide) (by decide) (by omega) ((hC 2 (by decide) (by decide)).trans (by rw [eL])) ?_
            refine kx_go 1 (pc' := (if kc_cnd .ge (Int32.ofNat l).toInt (Int32.ofNat L).toInt then 81 else 61)) (L' := [(4, .inl (Int32.ofNat l)), (3, .inl (Int32.ofNat (fs_wo B D n L M c))), (2, .inl (Int32.ofNat k)), (1, .inl (Int32.ofNat N)), (0, .inr (.inr (.inl (some 259))))]) (S' := []) (h' := h) (by with_unfolding_all rfl) ?_
            rw [if_neg (fun q => by have := (kx_ge (by omega) (by omega)).mp q; omega)]
            have e72 : h 272 l = .inl (Int32.ofNat (c l)) := (hF 272 l (by omega)).trans ((o4 272 l (by omega)).trans (hcd3 l (by omega)))
            refine kx_go 1 (pc' := 62) (L' := [(4, .inl (Int32.ofNat l)), (3, .inl (Int32.ofNat (fs_wo B D n L M c))), (2, .inl (Int32.ofNat k)), (1, .inl (Int32.ofNat N)), (0, .inr (.inr (.inl (some 259))))]) (S' := [.inr (.inr (.inl (some 259)))]) (h' := h) (by with_unfolding_all rfl) ?_
            refine kx_getf (c := 259) (v := .inr (.inr (.inl (some 278)))) rfl (by decide) (kx_ofr (hw _ _ _ fs_k259_32)) ?_
            refine kx_go 2 (pc' := 68) (L' := [(4, .inl (Int32.ofNat l)), (3, .inl (Int32.ofNat (fs_wo B D n L M c))), (2, .inl (Int32.ofNat k)), (1, .inl (Int32.ofNat N)), (0, .inr (.inr (.inl (some 259))))]) (S' := [.inr (.inr (.inl (some 259))), .inl (Int32.ofNat l), .inr (.inr (.inl (some 278)))]) (h' := h) (by with_unfolding_all rfl) ?_
            refine kx_getf (c := 259) (v := .inr (.inr (.inl (some 272)))) rfl (by decide) (kx_ofr (hw _ _ _ fs_k259_26)) ?_
            refine kx_go 1 (pc' := 73) (L' := [(4, .inl (Int32.ofNat l)), (3, .inl (Int32.ofNat (fs_wo B D n L M c))), (2, .inl (Int32.ofNat k)), (1, .inl (Int32.ofNat N)), (0, .inr (.inr (.inl (some 259))))]) (S' := [.inl (Int32.ofNat l), .inr (.inr (.inl (some 272))), .inl (Int32.ofNat l), .inr (.inr (.inl (some 278)))]) (h' := h) (by with_unfolding_all rfl) ?_
            refine kx_iald (c := 272) (j := l) (m := 10) (v := .inl (Int32.ofNat (c l))) rfl rfl (by decide) (by decide) (by omega) e72 ?_
            refine kx_iast (c := 278) (j := l) (m := 10) rfl rfl (by decide) (by decide) (by omega) ?_
            refine kx_go 2 (pc' := 50) (L' := [(4, .inl ((Int32.ofNat l) + Int32.ofInt 1)), (3, .inl (Int32.ofNat (fs_wo B D n L M c))), (2, .inl (Int32.ofNat k)), (1, .inl (Int32.ofNat N)), (0, .inr (.inr (.inl (some 259))))]) (S' := []) (h' := (kc_upd h 278 l (.inl (Int32.ofNat (c l))))) (by with_unfolding_all rfl) ?_
            rw [kx_inc]
            refine ihv (l + 1) _ (by omega) (by omega) (fs_w1 (v := some (c l)) (fs_k273.2.2.2.2.2.2.1 l (by omega)) (fun k' q => by cases q; have := hc l (by omega); omega) (by decide) hw) (fun j hj => ?_) (fun a y ha => (fu_ne (fun q => ha q.1)).trans (hF a y ha))
            by_cases e : j = l
            · rw [e]; exact fu_eq
            · exact (fu_ne (fun q => e q.2)).trans (hz j (by omega))
        refine kx_go 2 (pc' := 50) (L' := [(4, .inl (Int32.ofNat 0)), (3, .inl (Int32.ofNat (fs_wo B D n L M c))), (2, .inl (Int32.ofNat k)), (1, .inl (Int32.ofNat N)), (0, .inr (.inr (.inl (some 259))))]) (S' := []) (h' := h4) (by with_unfolding_all rfl) ?_
        exact cpy L 0 h4 (by omega) (by omega) hw4 (fun j hj => by omega) (fun _ _ _ => rfl)
      · rw [if_pos ((kx_ge (by omega) (by omega)).mpr (by omega))]
        refine kf_lo (L := [(2, .inl (Int32.ofNat k)), (1, .inl (Int32.ofNat N)), (0, .inr (.inr (.inl (some 259))))]) (by intro q hq; simp only [List.mem_cons, List.not_mem_nil, or_false] at hq; rcases hq with rfl | rfl | rfl <;> rfl) ?_
        exact next S h3 R3 (by
          unfold ms_J ms_j
          rw [if_neg (fun q => cw q.2)])
set_option maxRecDepth 20000 in
theorem fs_r122 {g : kc_G} {d : Nat} {h0 : kc_H} {B : Nat → Int32} {D : Nat → Nat} {n L M N : Nat} {f : Nat → Nat} (hw0 : kd_wt kd_ty h0) (hg : kc_ok g) (hB : fu_BT B) (hC0 : fu_B B h0) (hn : n ≤ 5) (en : B 3 = Int32.ofNat n) (hL : L ≤ 10) (eL : B 2 = Int32.ofNat L) (hM : M ≤ 3) (eM : B 1 = Int32.ofNat M) (hN : N ≤ 5000) (hml : 0 < N → 0 < M ∨ L = 0) (hD : ∀ k, k < n → B (150 + k) = Int32.ofNat (D k)) (hl : ∀ k, D k < 6) (hdl : ∀ i j, i < n → j < n → D i = D j → i = j) (hf0 : ∀ l, l < L → h0 278 l = .inl (Int32.ofNat (f l))) : kc_Con g (d + 8) 122 [.inr (.inr (.inl (some 259))), .inl (Int32.ofNat N)] h0 (fun rv h' => rv = some (.inl (kp_b (decide ((ms_it (2 * M) L (ms_J (fs_bor B D n L M) (fs_wo B D n L M)) N ((fun _ => 0), (1000000, f))).2.1 < 1000000)))) ∧ ∃ c, fs_RS h0 (fs_F B D n) (fs_E B D n) (fs_co B D n) L M (c) ((ms_it (2 * M) L (ms_J (fs_bor B D n L M) (fs_wo B D n L M)) N ((fun _ => 0), (1000000, f))).2) h') := by
  refine kc_Con_new hg (M := wk_m122) rfl rfl rfl (show 2 ≤ 5 by decide) ?_
  refine kx_go 1 (pc' := 1) (L' := [(0, .inr (.inr (.inl (some 259)))), (1, .inl (Int32.ofNat N))]) (S' := [.inr (.inr (.inl (some 259)))]) (h' := h0) (by with_unfolding_all rfl) ?_
  refine kc_call_rule (M2 := wk_m105) (av := [.inr (.inr (.inl (some 259)))]) (r := []) rfl rfl (kc_Con_le (fs_r105 (d := d) (D := D) hw0 hg hB hC0 en eL hL hn hD hl hdl) (by omega)) (fun rv h2 hq => ?_)
  obtain ⟨rfl, hw2, hsp2, hF2⟩ := hq
  show kc_Ev g (d + 7) wk_m122 _ 4 [(0, .inr (.inr (.inl (some 259)))), (1, .inl (Int32.ofNat N))] [] h2
  have hC2 : fu_B B h2 := fs_B_f (fun x => hF2 260 x (by decide)) hC0
  refine kx_go 1 (pc' := 5) (L' := [(0, .inr (.inr (.inl (some 259)))), (1, .inl (Int32.ofNat N))]) (S' := [.inr (.inr (.inl (some 259)))]) (h' := h2) (by with_unfolding_all rfl) ?_
  refine kc_call_rule (M2 := wk_m123) (av := [.inr (.inr (.inl (some 259)))]) (r := []) rfl rfl (kc_Con_le (fs_r123 (d := d) hg hw2 hC2 hL eL) (by omega)) (fun rv h3 hq => ?_)
  obtain ⟨rfl, hw3, hz3, hF3⟩ := hq
  show kc_Ev g (d + 7) wk_m122 _ 8 [(0, .inr (.inr (.inl (some 259)))), (1, .inl (Int32.ofNat N))] [] h3
  refine kx_go 2 (pc' := 12) (L' := [(0, .inr (.inr (.inl (some 259)))), (1, .inl (Int32.ofNat N))]) (S' := [.inl (Int32.ofNat 1000000), .inr (.inr (.inl (some 259)))]) (h' := h3) (by with_unfolding_all rfl) ?_
  have hw4 : kd_wt kd_ty (kc_upd h3 259 33 (.inl (Int32.ofNat 1000000))) := fa_wa fs_k273.2.2.2.2.2.2.2 hw3
  refine kx_go 1 (pc' := 15) (L' := [(0, .inr (.inr (.inl (some 259)))), (1, .inl (Int32.ofNat N))]) (S' := []) (h' := (kc_upd h3 259 33 (.inl (Int32.ofNat 1000000)))) (by with_unfolding_all rfl) ?_
  refine kx_go 2 (pc' := 17) (L' := [(2, .inl (Int32.ofNat 0)), (0, .inr (.inr (.inl (some 259)))), (1, .inl (Int32.ofNat N))]) (S' := []) (h' := (kc_upd h3 259 33 (.inl (Int32.ofNat 1000000)))) (by with_unfolding_all rfl) ?_
  refine kf_lo (L := [(2, .inl (Int32.ofNat 0)), (1, .inl (Int32.ofNat N)), (0, .inr (.inr (.inl (some 259))))]) (by intro q hq; simp only [List.mem_cons, List.not_mem_nil, or_false] at hq; rcases hq with rfl | rfl | rfl <;> rfl) ?_
  refine fs_r122l (f := f) hg hB hC0 hn en hL eL hM eM hN hml N 0 _ (by omega) (by omega) ⟨hw4, fun l hl => (fu_ne (by omega)).trans (hz3 l hl), fun q l hl => by show 0 < 2 * M; omega, ⟨fu_eq, Nat.le_refl _⟩, fun l hl => (fu_ne (by omega)).trans ((hF3 278 l (by omega)).trans ((hF2 278 l (by omega)).trans (hf0 l hl))), fs_sp_f (fun a y q1 q2 => (fu_ne (by omega)).trans (hF3 a y (by omega))) hsp2, fun a y q1 q2 => (fu_ne q1).trans ((hF3 a y (by omega)).trans (hF2 a y (by omega)))⟩
theorem fs_anyn (x : Int32) : ∃ k : Nat, x = Int32.ofNat k := ⟨x.toInt.toNat + (if x.toInt < 0 then 0 else 0) + (if x.toInt < 0 then (x.toInt + 4294967296).toNat else 0), by
  by_cases c : x.toInt < 0
  · rw [if_pos c, if_pos c, show x.toInt.toNat = 0 by omega, Nat.zero_add]
    apply Int32.toInt_inj.mp
    rw [Int32.toInt_ofNat', Int.toNat_of_nonneg (by have := x.le_toInt; omega)]
    have h1 := x.le_toInt
    have h2 := x.toInt_lt
    rw [Int.bmod_def, show (Int32.size : Int) = 4294967296 from rfl]
    omega
  · rw [if_neg c, if_neg c, Nat.add_zero]
    apply Int32.toInt_inj.mp
    have h2 := x.toInt_lt
    rw [kx_ti (by omega)]
    omega⟩
/-- the rows' table, as far as it is used, told by numbers *or* by what stood there -/
theorem fs_fnd2 {h : kc_H} (hw : kd_wt kd_ty h) {c L : Nat} (hL : L ≤ 10) (hk : ∀ i, i < 10 → kd_rn (kd_ty c) i = some (0, 2147483647, 2147483648 + 5)) : ∃ f : Nat → Nat, ∀ j, j < L → h c j = .inl (Int32.ofNat (f j)) := by
  have hf : ∀ j, ∃ v : Nat, j < L → h c j = .inl (Int32.ofNat v) := fun j => by
    by_cases hj : j < L
    · obtain ⟨v, e, _⟩ := hw c j _ (hk j (by omega))
      obtain ⟨k, ek⟩ := fs_anyn v
      exact ⟨k, fun _ => by rw [e, ek]⟩
    · exact ⟨0, fun q => absurd q hj⟩
  obtain ⟨f, hf⟩ := Classical.axiomOfChoice hf
  exact ⟨f, hf⟩
set_option maxRecDepth 20000 in
theorem fs_r120t {g : kc_G} {d : Nat} {h : kc_H} {B : Nat → Int32} {n L M : Nat} {a : Int32} (hg : kc_ok g) (hw : kd_wt kd_ty h) (hC : fu_B B h) (hB : fu_BT B) (hn : n ≤ 5) (en : B 3 = Int32.ofNat n) (hM : M ≤ 3) (eM : B 1 = Int32.ofNat M) (hL : L ≤ 10) (eL : B 2 = Int32.ofNat L) (hdl : ∀ i j, i < n → j < n → fs_D B n i = fs_D B n j → i = j) (ha : a = Int32.ofInt (-1) ∨ ∃ l, l < L ∧ a = Int32.ofNat l) : kc_Ev g (d + 9) wk_m120 (fun rv h' => rv = some (.inl (fs_stv B (fs_D B n) n L M a)) ∧ kd_wt kd_ty h' ∧ ∀ a x, ¬ (a = 259 ∧ x = 33) → ¬ (272 ≤ a ∧ a ≤ 278) → h' a x = h a x) 16 [(0, .inr (.inr (.inl (some 259)))), (1, .inl (a))] [] h := by
  unfold fs_stv
  have b := fs_hn_b hM L
  refine kx_go 1 (pc' := 17) (L' := [(0, .inr (.inr (.inl (some 259)))), (1, .inl (a))]) (S' := [.inr (.inr (.inl (some 259)))]) (h' := h) (by with_unfolding_all rfl) ?_
  refine kc_call_rule (M2 := wk_m121) (av := [.inr (.inr (.inl (some 259)))]) (r := []) rfl rfl (kc_Con_le (fs_r121 (d := d) hg hw hC hM eM hL eL) (by omega)) (fun rv hcc hq => ?_)
  obtain ⟨rfl, e9⟩ := hq
  rw [e9]
  clear e9
  show kc_Ev g (d + 9) wk_m120 _ 20 [(0, .inr (.inr (.inl (some 259)))), (1, .inl (a))] [.inl (fs_hv M L)] h
  refine kx_go 4 (pc' := (if kc_cnd .ne (fs_hv M L).toInt (Int32.ofInt (-1)).toInt then 29 else 26)) (L' := [(2, .inl (fs_hv M L)), (0, .inr (.inr (.inl (some 259)))), (1, .inl (a))]) (S' := []) (h' := h) (by with_unfolding_all rfl) ?_
  by_cases c : 5000 < fs_hn M L
  · rw [show fs_hv M L = Int32.ofInt (-1) from if_pos c, if_neg kx_m2, if_pos c]
    refine kx_go 1 (pc' := 28) (L' := [(2, .inl (Int32.ofInt (-1))), (0, .inr (.inr (.inl (some 259)))), (1, .inl (a))]) (S' := [.inl (Int32.ofInt (-20))]) (h' := h) (by with_unfolding_all rfl) ?_
    exact kc_ret_ok rfl (rv := some (.inl (Int32.ofInt (-20)))) rfl ⟨rfl, hw, fun _ _ _ _ => rfl⟩
  · rw [show fs_hv M L = Int32.ofNat (fs_hn M L) from if_neg c, if_pos (kx_nm2 (by omega)), if_neg c]
    obtain ⟨f, hf⟩ := fs_fnd2 (c := 278) hw hL fs_k273.2.2.2.2.2.2.1
    have ep := fs_hn_pow L (show fs_hn M L ≤ 5000 by omega)
    have hml : 0 < fs_hn M L → 0 < M ∨ L = 0 := fun q => by
      rcases Nat.eq_zero_or_pos M with e | e
      · rw [ep, e] at q
        cases L with
        | zero => exact Or.inr rfl
        | succ L => rw [Nat.mul_zero, Nat.zero_pow (Nat.succ_pos L)] at q; omega
      · exact Or.inl e
    have h22 := fs_T_2 (B := B) (D := fs_D B n) (n := n) (L := L) (M := M) (v := 1000000) (f := f) (g := fun _ => 0)
    have eT : (ms_it (2 * M) L (ms_J (fs_bor B (fs_D B n) n L M) (fs_wo B (fs_D B n) n L M)) (fs_hn M L) ((fun _ => 0), (1000000, f))).2 = fs_T B (fs_D B n) n L M 1000000 f := by
      rw [ep]
      exact ms_it_all
    have H122 := fs_r122 (g := g) (d := d) (D := fs_D B n) (f := f) hw hg hB hC hn en hL eL hM eM (show fs_hn M L ≤ 5000 by omega) hml (fun k hk => fs_Dv hB hn hk) (fun k => fs_Dl hB hn k) hdl hf
    rw [eT] at H122
    refine kx_go 2 (pc' := 31) (L' := [(2, .inl (Int32.ofNat (fs_hn M L))), (0, .inr (.inr (.inl (some 259)))), (1, .inl (a))]) (S' := [.inl (Int32.ofNat (fs_hn M L)), .inr (.inr (.inl (some 259)))]) (h' := h) (by with_unfolding_all rfl) ?_
    refine kc_call_rule (M2 := wk_m122) (av := [.inr (.inr (.inl (some 259))), .inl (Int32.ofNat (fs_hn M L))]) (r := []) rfl rfl (kc_Con_le (H122) (by omega)) (fun rv h2 hq => ?_)
    obtain ⟨rfl, c9, hR⟩ := hq
    show kc_Ev g (d + 9) wk_m120 _ 34 [(2, .inl (Int32.ofNat (fs_hn M L))), (0, .inr (.inr (.inl (some 259)))), (1, .inl (a))] [.inl (kp_b (decide ((fs_T B (fs_D B n) n L M 1000000 f).1 < 1000000)))] h2
    have hw2 := hR.1
    have hF2 := hR.2.2.2.2.2.2
    have e33 := hR.2.2.2.1.1
    have hfo := hR.2.2.2.2.1
    refine kx_go 1 (pc' := (if kc_cnd .ne (kp_b (decide ((fs_T B (fs_D B n) n L M 1000000 f).1 < 1000000))).toInt 0 then 42 else 37)) (L' := [(2, .inl (Int32.ofNat (fs_hn M L))), (0, .inr (.inr (.inl (some 259)))), (1, .inl (a))]) (S' := []) (h' := h2) (by with_unfolding_all rfl) ?_
    rw [← h22.1]
    by_cases c2 : (fs_T B (fs_D B n) n L M 1000000 f).1 < 1000000
    · rw [decide_eq_true c2, if_pos (kx_b1.mpr rfl), if_pos c2, ← h22.2 c2]
      refine kx_go 3 (pc' := (if kc_cnd .ne (a).toInt (Int32.ofInt (-1)).toInt then 54 else 47)) (L' := [(2, .inl (Int32.ofNat (fs_hn M L))), (0, .inr (.inr (.inl (some 259)))), (1, .inl (a))]) (S' := []) (h' := h2) (by with_unfolding_all rfl) ?_
      rcases ha with ha | ⟨l, hll, ha⟩
      · subst ha
        rw [if_neg kx_m2, if_pos rfl]
        refine kx_go 1 (pc' := 48) (L' := [(2, .inl (Int32.ofNat (fs_hn M L))), (0, .inr (.inr (.inl (some 259)))), (1, .inl (Int32.ofInt (-1)))]) (S' := [.inr (.inr (.inl (some 259)))]) (h' := h2) (by with_unfolding_all rfl) ?_
        refine kx_getf (c := 259) (v := .inl (Int32.ofNat (fs_T B (fs_D B n) n L M 1000000 f).1)) rfl (by decide) e33 ?_
        refine kx_go 1 (pc' := 60) (L' := [(2, .inl (Int32.ofNat (fs_hn M L))), (0, .inr (.inr (.inl (some 259)))), (1, .inl (Int32.ofInt (-1)))]) (S' := [.inl (Int32.ofNat (fs_T B (fs_D B n) n L M 1000000 f).1)]) (h' := h2) (by with_unfolding_all rfl) ?_
        exact kc_ret_ok rfl (rv := some (.inl (Int32.ofNat (fs_T B (fs_D B n) n L M 1000000 f).1))) rfl ⟨rfl, hw2, hF2⟩
      · subst ha
        rw [if_pos (kx_nm2 (by omega)), if_neg (fun q => by have := congrArg Int32.toInt q; rw [kx_ti (by omega), show (Int32.ofInt (-1)).toInt = -1 by decide] at this; omega), kx_ti (show l < 2147483648 by omega), Int.toNat_natCast]
        refine kx_go 1 (pc' := 55) (L' := [(2, .inl (Int32.ofNat (fs_hn M L))), (0, .inr (.inr (.inl (some 259)))), (1, .inl (Int32.ofNat l))]) (S' := [.inr (.inr (.inl (some 259)))]) (h' := h2) (by with_unfolding_all rfl) ?_
        refine kx_getf (c := 259) (v := .inr (.inr (.inl (some 278)))) rfl (by decide) (kx_ofr (hw2 _ _ _ fs_k259_32)) ?_
        refine kx_go 1 (pc' := 59) (L' := [(2, .inl (Int32.ofNat (fs_hn M L))), (0, .inr (.inr (.inl (some 259)))), (1, .inl (Int32.ofNat l))]) (S' := [.inl (Int32.ofNat l), .inr (.inr (.inl (some 278)))]) (h' := h2) (by with_unfolding_all rfl) ?_
        refine kx_iald (c := 278) (j := l) (m := 10) (v := .inl (Int32.ofNat ((fs_T B (fs_D B n) n L M 1000000 f).2 l))) rfl rfl (by decide) (by decide) (by omega) (hfo l hll) ?_
        exact kc_ret_ok rfl (rv := some (.inl (Int32.ofNat ((fs_T B (fs_D B n) n L M 1000000 f).2 l)))) rfl ⟨rfl, hw2, hF2⟩
    · rw [decide_eq_false c2, if_neg (show ¬ (kc_cnd .ne (kp_b false).toInt 0 = true) from fun q => by have := kx_b1.mp q; cases this), if_neg c2]
      refine kx_go 2 (pc' := 60) (L' := [(2, .inl (Int32.ofNat (fs_hn M L))), (0, .inr (.inr (.inl (some 259)))), (1, .inl (a))]) (S' := [.inl (Int32.ofInt (-5))]) (h' := h2) (by with_unfolding_all rfl) ?_
      exact kc_ret_ok rfl (rv := some (.inl (Int32.ofInt (-5)))) rfl ⟨rfl, hw2, hF2⟩
set_option maxRecDepth 20000 in
theorem fs_r120 {g : kc_G} {d : Nat} {h : kc_H} {B : Nat → Int32} {n L M : Nat} {a : Int32} (hg : kc_ok g) (hw : kd_wt kd_ty h) (hC : fu_B B h) (hB : fu_BT B) (hn : n ≤ 5) (en : B 3 = Int32.ofNat n) (hM : M ≤ 3) (eM : B 1 = Int32.ofNat M) (hL : L ≤ 10) (eL : B 2 = Int32.ofNat L) (hdl : ∀ i j, i < n → j < n → fs_D B n i = fs_D B n j → i = j) : kc_Con g (d + 10) 120 [.inr (.inr (.inl (some 259))), .inl a] h (fun rv h' => rv = some (.inl (fs_stays B (fs_D B n) n L M a)) ∧ kd_wt kd_ty h' ∧ ∀ a x, ¬ (a = 259 ∧ x = 33) → ¬ (272 ≤ a ∧ a ≤ 278) → h' a x = h a x) := by
  have z2 : (B 2).toInt - 1 = (L : Int) - 1 := by rw [eL, kx_ti (by omega)]
  unfold fs_stays
  refine kc_Con_new hg (M := wk_m120) rfl rfl rfl (show 2 ≤ 3 by decide) ?_
  refine kx_go 3 (pc' := (if kc_cnd .eq (a).toInt (Int32.ofInt (-1)).toInt then 16 else 5)) (L' := [(0, .inr (.inr (.inl (some 259)))), (1, .inl (a))]) (S' := []) (h' := h) (by with_unfolding_all rfl) ?_
  by_cases e : a = Int32.ofInt (-1)
  · rw [if_pos (fu_ieq.mpr (by rw [e])), if_pos (Or.inl e)]
    exact fs_r120t hg hw hC hB hn en hM eM hL eL hdl (Or.inl e)
  · rw [if_neg (fun q => fs_m1n e (fu_ieq.mp q))]
    refine kx_go 2 (pc' := 7) (L' := [(0, .inr (.inr (.inl (some 259)))), (1, .inl (a))]) (S' := [.inl (a), .inr (.inr (.inl (some 259)))]) (h' := h) (by with_unfolding_all rfl) ?_
    refine kc_call_rule (M2 := wk_m48) (av := [.inr (.inr (.inl (some 259))), .inl (a)]) (r := []) rfl rfl (kc_Con_le (fu_r48 (d := 0) hg hw hC hB) (by omega)) (fun rv hcc hq => ?_)
    obtain ⟨rfl, e9⟩ := hq
    rw [e9]
    clear e9
    show kc_Ev g (d + 9) wk_m120 _ 10 [(0, .inr (.inr (.inl (some 259)))), (1, .inl (a))] [.inl (kp_b (fu_in a 0 ((B 2).toInt - 1)))] h
    refine kx_go 1 (pc' := (if kc_cnd .ne (kp_b (fu_in a 0 ((B 2).toInt - 1))).toInt 0 then 16 else 13)) (L' := [(0, .inr (.inr (.inl (some 259)))), (1, .inl (a))]) (S' := []) (h' := h) (by with_unfolding_all rfl) ?_
    rw [z2]
    cases e2 : fu_in a 0 ((L : Int) - 1) with
    | false =>
      rw [if_neg (show ¬ (kc_cnd .ne (kp_b false).toInt 0 = true) from fun q => by have := kx_b1.mp q; cases this), if_neg (fun q => q.elim e (fun q => by cases q))]
      refine kx_go 1 (pc' := 15) (L' := [(0, .inr (.inr (.inl (some 259)))), (1, .inl (a))]) (S' := [.inl (Int32.ofInt (-10))]) (h' := h) (by with_unfolding_all rfl) ?_
      exact kc_ret_ok rfl (rv := some (.inl (Int32.ofInt (-10)))) rfl ⟨rfl, hw, fun _ _ _ _ => rfl⟩
    | true =>
      rw [if_pos (kx_b1.mpr rfl), if_pos (Or.inr rfl)]
      obtain ⟨l, hl9, el, -, hl⟩ := fu_in_n (u := 9) e2 (Int.le_refl 0) (by omega)
      exact fs_r120t hg hw hC hB hn en hM eM hL eL hdl (Or.inr ⟨l, by omega, el⟩)
/-- the lined doors are different ones -/
theorem fs_dis {B : Nat → Int32} {h : kc_H} {n : Nat} (hB : fu_BT B) (hC : fu_B B h) (hn : n ≤ 5) (en : B 3 = Int32.ofNat n) (hI : kI h 260 0) : (∀ i j, i < n → j < n → fs_D B n i = fs_D B n j → i = j) ∧ ∀ i, i < n → 1 ≤ fs_D B n i := by
  obtain ⟨n', l, h1, h2, h3, h4⟩ := hI
  have e3 := (hC 3 (by decide) (by decide)).symm.trans h2
  rw [en] at e3
  have e4 := congrArg Int32.toInt (Sum.inl.inj e3)
  rw [kx_ti (by omega), kx_ti (by omega)] at e4
  have e5 : n' = n := by omega
  rw [e5] at h3 h4
  have el : ∀ i, i < n → fs_D B n i = l i := fun i hi => by
    have q := (hC (150 + i) (by omega) (fu_fli i (by omega)).2.1).symm.trans ((by rw [Nat.zero_add] : h 260 (150 + i) = h 260 (0 + 150 + i)).trans (h3 i hi).2.2)
    rw [fs_Dv hB hn hi] at q
    have q2 := congrArg Int32.toInt (Sum.inl.inj q)
    have := fs_Dl hB hn i
    have := (h3 i hi).2.1
    rw [kx_ti (by omega), kx_ti (by omega)] at q2
    omega
  refine ⟨fun i j hi hj e => ?_, fun i hi => by rw [el i hi]; exact (h3 i hi).1⟩
  rw [el i hi, el j hj] at e
  rcases Nat.lt_trichotomy i j with q | q | q
  · exact absurd e (h4 i j q hj)
  · exact q
  · exact absurd e.symm (h4 j i q hi)
theorem fs_keep {h h' : kc_H} (hI : fu_I h) (hw : kd_wt kd_ty h') (e : ∀ c x, ¬ (204 ≤ c ∧ c ≤ 252) → ¬ (264 ≤ c ∧ c ≤ 288) → ¬ c = 259 → h' c x = h c x) : fu_I h' := by
  obtain ⟨B, hC, hR⟩ := hI.2.1
  exact fu_now hI hw ⟨B, fun j hj ht => (e _ _ (by have := fs_p31 j hj; omega) (by have := fs_p31 j hj; omega) (by have := fs_p31 j hj; omega)).trans (hC j hj ht), fun j hj ht => (e 260 _ (by decide) (by decide) (by decide)).trans (hR j hj ht)⟩ (fun c i c1 c2 => e c i (by omega) (by omega) (by omega)) (fun c i q => e c i (by omega) (by omega) (by omega)) (kI_eq (e 260 _ (by decide) (by decide) (by decide)) (fun i _ => e 260 _ (by decide) (by decide) (by decide)) hI.2.2.2.2.2.1)
theorem fU_Xstays {g : kc_G} {h : kc_H} {a : Int32} (hg : kc_ok g) (hI : fu_I h) : kc_Con g 30 114 [.inr (.inr (.inl (some 0))), .inl a] h (fun rv h1 => ∃ z : Int32, rv = some (.inl z) ∧ kc_Con g 30 120 [.inr (.inr (.inl (some 259))), .inl a] h1 (fun rv2 h2 => rv2 = some (.inl z) ∧ fu_I h2)) := by
  obtain ⟨B, hC, hR⟩ := hI.2.1
  have hB := fu_C_T hI.1 hC
  obtain ⟨n, hn, en⟩ := fu_n3 hB
  obtain ⟨M, hM, eM⟩ := fu_n1 hB
  obtain ⟨L, hL, eL⟩ := fu_n2 hB
  have hdl := (fs_dis hB hR hn en hI.2.2.2.2.2.1).1
  refine kc_Con_mono (kc_Con_le (fs_c114 (d := 0) hg hI.1 hC hB hn en hM eM hL eL) (by decide)) (fun rv h1 hq => ?_)
  obtain ⟨rfl, w1, f1⟩ := hq
  have R1 : fu_B B h1 := fun j hj ht => (f1 260 j (by omega)).trans (hR j hj ht)
  refine ⟨_, rfl, kc_Con_mono (kc_Con_le (fs_r120 (d := 0) hg w1 R1 hB hn en hM eM hL eL hdl) (by decide)) (fun rv2 h2 hq => ?_)⟩
  obtain ⟨rfl, w2, f2⟩ := hq
  exact ⟨rfl, fs_keep hI w2 (fun c x q1 q2 q3 => (f2 c x (fun q => q3 q.1) (by omega)).trans (f1 c x (by omega)))⟩
end
section
-- 99.zqh
/-! ===== KEEP: chances: MULE by MULE, and over all sets of those that stay ===== -/
def mk_t (T : Nat → Bool) (l : Nat) : Nat → Bool := fun j => if j = l then true else T j
theorem mk_te {T : Nat → Bool} {l : Nat} : mk_t T l l = true := if_pos rfl
theorem mk_tn {T : Nat → Bool} {l j : Nat} (h : ¬ j = l) : mk_t T l j = T j := if_neg h
theorem mk_tc {T : Nat → Bool} {x y : Nat} : mk_t (mk_t T x) y = mk_t (mk_t T y) x := by
  funext j
  unfold mk_t
  by_cases e1 : j = y
  · rw [if_pos e1]
    by_cases e2 : j = x
    · rw [if_pos e2]
    · rw [if_neg e2, if_pos e1]
  · rw [if_neg e1]
    by_cases e2 : j = x
    · rw [if_pos e2, if_pos e2]
    · rw [if_neg e2, if_neg e2, if_neg e1]
/-- of 100: that it is asked for, that it is not -/
def mk_a (s : Nat) : Nat := if s = 0 then 0 else if s = 100 then 1 else s
def mk_b (s : Nat) : Nat := if s = 100 then 0 else if s = 0 then 1 else 100 - s
def mk_op (co : Nat → Bool) (as : Nat → Nat) (l : Nat) (f : (Nat → Bool) → Nat) (T : Nat → Bool) : Nat := if co l = true then mk_a (as l) * f T + mk_b (as l) * f (mk_t T l) else f T
def mk_asc (co : Nat → Bool) (as : Nat → Nat) : Nat → ((Nat → Bool) → Nat) → (Nat → Bool) → Nat
  | 0, f => f
  | l + 1, f => mk_asc co as l (mk_op co as l f)
def mk_dsc (co : Nat → Bool) (as : Nat → Nat) : Nat → ((Nat → Bool) → Nat) → (Nat → Bool) → Nat
  | 0, f => f
  | l + 1, f => mk_op co as l (mk_dsc co as l f)
theorem mk_op_c {co : Nat → Bool} {as : Nat → Nat} {x y : Nat} {f : (Nat → Bool) → Nat} : mk_op co as x (mk_op co as y f) = mk_op co as y (mk_op co as x f) := by
  funext T
  unfold mk_op
  by_cases e1 : co x = true
  · by_cases e2 : co y = true
    · rw [if_pos e1, if_pos e2, if_pos e2, if_pos e2, if_pos e1, if_pos e1, mk_tc (x := x) (y := y)]
      generalize f T = p
      generalize f (mk_t T x) = q
      generalize f (mk_t T y) = r
      generalize f (mk_t (mk_t T y) x) = s
      rw [Nat.mul_add, Nat.mul_add, Nat.mul_add, Nat.mul_add, ← Nat.mul_assoc, ← Nat.mul_assoc, ← Nat.mul_assoc, ← Nat.mul_assoc, ← Nat.mul_assoc, ← Nat.mul_assoc, ← Nat.mul_assoc, ← Nat.mul_assoc, Nat.mul_comm (mk_a (as y)) (mk_a (as x)), Nat.mul_comm (mk_a (as y)) (mk_b (as x)), Nat.mul_comm (mk_b (as y)) (mk_a (as x)), Nat.mul_comm (mk_b (as y)) (mk_b (as x))]
      omega
    · rw [if_pos e1, if_neg e2, if_neg e2, if_neg e2, if_pos e1]
  · by_cases e2 : co y = true
    · rw [if_neg e1, if_pos e2, if_pos e2, if_neg e1, if_neg e1]
    · rw [if_neg e1, if_neg e2, if_neg e2, if_neg e1]
theorem mk_asc_c {co : Nat → Bool} {as : Nat → Nat} {x : Nat} : ∀ (l : Nat) (f : (Nat → Bool) → Nat), mk_op co as x (mk_asc co as l f) = mk_asc co as l (mk_op co as x f)
  | 0, _ => rfl
  | l + 1, f => by
    show mk_op co as x (mk_asc co as l (mk_op co as l f)) = mk_asc co as l (mk_op co as l (mk_op co as x f))
    rw [mk_asc_c l, mk_op_c]
theorem mk_asc_dsc {co : Nat → Bool} {as : Nat → Nat} : ∀ (l : Nat) (f : (Nat → Bool) → Nat), mk_asc co as l f = mk_dsc co as l f
  | 0, _ => rfl
  | l + 1, f => by
    show mk_asc co as l (mk_op co as l f) = mk_op co as l (mk_dsc co as l f)
    rw [← mk_asc_c l, mk_asc_dsc l]
/-- all together, from load l on -/
def mk_R (co : Nat → Bool) (as : Nat → Nat) (f : (Nat → Bool) → Nat) : Nat → Nat → (Nat → Bool) → Nat
  | 0, _, T => f T
  | k + 1, l, T => mk_op co as l (fun T => mk_R co as f k (l + 1) T) T
theorem mk_R_op {co : Nat → Bool} {as : Nat → Nat} {f : (Nat → Bool) → Nat} : ∀ k l, mk_R co as (mk_op co as (l + k) f) k l = mk_R co as f (k + 1) l
  | 0, l => rfl
  | k + 1, l => by
    funext T
    show mk_op co as l (fun T => mk_R co as (mk_op co as (l + (k + 1)) f) k (l + 1) T) T = mk_op co as l (fun T => mk_R co as f (k + 1) (l + 1) T) T
    have := mk_R_op (co := co) (as := as) (f := f) k (l + 1)
    rw [show l + 1 + k = l + (k + 1) by omega] at this
    rw [this]
theorem mk_R_asc {co : Nat → Bool} {as : Nat → Nat} : ∀ (k : Nat) (f : (Nat → Bool) → Nat), mk_R co as f k 0 = mk_asc co as k f
  | 0, _ => rfl
  | k + 1, f => by
    show mk_R co as f (k + 1) 0 = mk_asc co as k (mk_op co as k f)
    rw [← mk_R_asc k, ← mk_R_op k 0, Nat.zero_add]
def mk_p (f : Nat → Nat) : Nat → Nat
  | 0 => 1
  | m + 1 => mk_p f m * f m
/-- one MULE's chance, from load l on -/
def mk_c (co : Nat → Bool) (as : Nat → Nat) (c : Nat → Nat) (ev : Nat → (Nat → Bool) → Bool) (m : Nat) : Nat → Nat → (Nat → Bool) → Nat
  | 0, _, T => if ev m T = true then 1 else 0
  | k + 1, l, T => if c l / 2 = m ∧ co l = true then mk_a (as l) * mk_c co as c ev m k (l + 1) T + mk_b (as l) * mk_c co as c ev m k (l + 1) (mk_t T l) else mk_c co as c ev m k (l + 1) T
theorem mk_c_T {co : Nat → Bool} {as : Nat → Nat} {c : Nat → Nat} {ev : Nat → (Nat → Bool) → Bool} {m L : Nat} (hev : ∀ T T', (∀ j, j < L → c j / 2 = m → T j = T' j) → ev m T = ev m T') : ∀ (k l : Nat) (T T' : Nat → Bool), l + k = L → (∀ j, j < L → c j / 2 = m → T j = T' j) → mk_c co as c ev m k l T = mk_c co as c ev m k l T'
  | 0, l, T, T', hl, h => by
    show (if ev m T = true then 1 else 0) = (if ev m T' = true then 1 else 0)
    rw [hev T T' h]
  | k + 1, l, T, T', hl, h => by
    show (if c l / 2 = m ∧ co l = true then mk_a (as l) * mk_c co as c ev m k (l + 1) T + mk_b (as l) * mk_c co as c ev m k (l + 1) (mk_t T l) else mk_c co as c ev m k (l + 1) T) = (if c l / 2 = m ∧ co l = true then mk_a (as l) * mk_c co as c ev m k (l + 1) T' + mk_b (as l) * mk_c co as c ev m k (l + 1) (mk_t T' l) else mk_c co as c ev m k (l + 1) T')
    rw [mk_c_T hev k (l + 1) T T' (by omega) h, mk_c_T hev k (l + 1) (mk_t T l) (mk_t T' l) (by omega) (fun j hj hm => by
      unfold mk_t
      by_cases e : j = l
      · rw [if_pos e, if_pos e]
      · rw [if_neg e, if_neg e]; exact h j hj hm)]
theorem mk_p_c {f g : Nat → Nat} : ∀ M, (∀ m, m < M → f m = g m) → mk_p f M = mk_p g M
  | 0, _ => rfl
  | M + 1, h => by
    show mk_p f M * f M = mk_p g M * g M
    rw [mk_p_c M (fun m hm => h m (by omega)), h M (by omega)]
/-- one factor is a sum -/
theorem mk_p_s {f g h : Nat → Nat} {a b m0 : Nat} : ∀ M, m0 < M → f m0 = a * g m0 + b * h m0 → (∀ m, m < M → ¬ m = m0 → f m = g m ∧ f m = h m) → mk_p f M = a * mk_p g M + b * mk_p h M
  | 0, hm, _, _ => by omega
  | M + 1, hm, h0, ho => by
    show mk_p f M * f M = a * (mk_p g M * g M) + b * (mk_p h M * h M)
    by_cases e : M = m0
    · subst e
      have e1 := mk_p_c M (fun m hm => (ho m (by omega) (by omega)).1)
      have e2 := mk_p_c M (fun m hm => (ho m (by omega) (by omega)).2)
      rw [h0, Nat.mul_add, ← e1, ← e2]
      generalize mk_p f M = p
      rw [← Nat.mul_assoc, ← Nat.mul_assoc, ← Nat.mul_assoc, ← Nat.mul_assoc, Nat.mul_comm p a, Nat.mul_comm p b]
    · rw [mk_p_s M (by omega) h0 (fun m hm => ho m (by omega)), Nat.add_mul, ← (ho M (by omega) e).1, ← (ho M (by omega) e).2, Nat.mul_assoc, Nat.mul_assoc]
theorem mk_all_p {ev : Nat → Bool} : ∀ M, (if ms_all ev M = true then 1 else 0) = mk_p (fun m => if ev m = true then 1 else 0) M
  | 0 => rfl
  | M + 1 => by
    show (if (ms_all ev M && ev M) = true then 1 else 0) = mk_p (fun m => if ev m = true then 1 else 0) M * (if ev M = true then 1 else 0)
    rw [← mk_all_p M]
    cases ms_all ev M with
    | false => rw [Bool.false_and, if_neg (by decide), Nat.zero_mul]
    | true =>
      rw [Bool.true_and, if_pos rfl, Nat.one_mul]
/-- MULE by MULE is all together: no LOAD is on two -/
theorem mk_prod {co : Nat → Bool} {as : Nat → Nat} {c : Nat → Nat} {ev : Nat → (Nat → Bool) → Bool} {M L : Nat} (hc : ∀ l, l < L → c l < 2 * M) (hev : ∀ m, m < M → ∀ T T', (∀ j, j < L → c j / 2 = m → T j = T' j) → ev m T = ev m T') : ∀ (k l : Nat) (T : Nat → Bool), l + k = L → mk_R co as (fun T => if ms_all (fun m => ev m T) M = true then 1 else 0) k l T = mk_p (fun m => mk_c co as c ev m k l T) M
  | 0, l, T, hl => mk_all_p M
  | k + 1, l, T, hl => by
    show mk_op co as l (fun T => mk_R co as (fun T => if ms_all (fun m => ev m T) M = true then 1 else 0) k (l + 1) T) T = _
    unfold mk_op
    have ih := fun T => mk_prod (co := co) (as := as) hc hev k (l + 1) T (by omega)
    by_cases e : co l = true
    · rw [if_pos e]
      show mk_a (as l) * mk_R co as (fun T => if ms_all (fun m => ev m T) M = true then 1 else 0) k (l + 1) T + mk_b (as l) * mk_R co as (fun T => if ms_all (fun m => ev m T) M = true then 1 else 0) k (l + 1) (mk_t T l) = _
      rw [ih, ih]
      have hcl := hc l (by omega)
      refine (mk_p_s (m0 := c l / 2) M (by omega) ?_ (fun m hm hne => ?_)).symm
      · show (if c l / 2 = c l / 2 ∧ co l = true then _ else _) = _
        rw [if_pos ⟨rfl, e⟩]
      · have e1 : mk_c co as c ev m (k + 1) l T = mk_c co as c ev m k (l + 1) T := if_neg (fun q => hne q.1.symm)
        refine ⟨e1, e1.trans (mk_c_T (hev m hm) k (l + 1) T (mk_t T l) (by omega) (fun j hj hjm => (mk_tn (fun q => hne (by rw [← hjm, q]))).symm))⟩
    · rw [if_neg e]
      show mk_R co as (fun T => if ms_all (fun m => ev m T) M = true then 1 else 0) k (l + 1) T = _
      rw [ih]
      exact mk_p_c M (fun m hm => (if_neg (fun q => e q.2)).symm)
/-! the reference's sum over all sets -/
def mk_sm (g : Nat → Nat) : Nat → Nat
  | 0 => 0
  | s + 1 => mk_sm g s + g s
theorem mk_sm_add {g : Nat → Nat} {a : Nat} : ∀ b, mk_sm g (a + b) = mk_sm g a + mk_sm (fun s => g (a + s)) b
  | 0 => rfl
  | b + 1 => by
    show mk_sm g (a + b) + g (a + b) = mk_sm g a + (mk_sm (fun s => g (a + s)) b + g (a + b))
    rw [mk_sm_add b]
    omega
theorem mk_sm_c {f g : Nat → Nat} : ∀ n, (∀ s, s < n → f s = g s) → mk_sm f n = mk_sm g n
  | 0, _ => rfl
  | n + 1, h => by
    show mk_sm f n + f n = mk_sm g n + g n
    rw [mk_sm_c n (fun s hs => h s (by omega)), h n (by omega)]
theorem mk_sm_m {f : Nat → Nat} {a : Nat} : ∀ n, mk_sm (fun s => a * f s) n = a * mk_sm f n
  | 0 => rfl
  | n + 1 => by
    show mk_sm (fun s => a * f s) n + a * f n = a * (mk_sm f n + f n)
    rw [mk_sm_m n, Nat.mul_add]
def mk_is (co : Nat → Bool) (as : Nat → Nat) (l : Nat) : Bool := co l && (decide (1 ≤ as l) && decide (as l ≤ 99))
/-- how many may be asked for below l -/
def mk_k (co : Nat → Bool) (as : Nat → Nat) : Nat → Nat
  | 0 => 0
  | l + 1 => mk_k co as l + (if mk_is co as l = true then 1 else 0)
def mk_bit (s k : Nat) : Bool := decide (s / 2 ^ k % 2 = 1)
/-- who stays, with a set of those that are not asked for -/
def mk_T (co : Nat → Bool) (as : Nat → Nat) (l s : Nat) (T : Nat → Bool) : Nat → Bool := fun j => T j || (decide (j < l) && (co j && (decide (as j = 0) || (mk_is co as j && mk_bit s (mk_k co as j)))))
def mk_w (co : Nat → Bool) (as : Nat → Nat) (s : Nat) : Nat → Nat
  | 0 => 1
  | l + 1 => mk_w co as s l * (if mk_is co as l = true then (if mk_bit s (mk_k co as l) = true then 100 - as l else as l) else 1)
theorem mk_k_le {co : Nat → Bool} {as : Nat → Nat} {j : Nat} : ∀ l, j < l → mk_is co as j = true → mk_k co as j < mk_k co as l
  | 0, h, _ => by omega
  | l + 1, h, hi => by
    show mk_k co as j < mk_k co as l + (if mk_is co as l = true then 1 else 0)
    by_cases e : j = l
    · rw [← e, if_pos hi]; omega
    · have := mk_k_le l (by omega) hi
      omega
theorem mk_bit_hi {s K : Nat} (h : s < 2 ^ K) : mk_bit s K = false := decide_eq_false (by rw [Nat.div_eq_of_lt h]; decide)
theorem mk_bit_top {s K : Nat} (h : s < 2 ^ K) : mk_bit (2 ^ K + s) K = true := decide_eq_true (by rw [Nat.add_comm, Nat.add_div_right _ (Nat.two_pow_pos K), Nat.div_eq_of_lt h])
theorem mk_bit_lo {s K k : Nat} (h : k < K) : mk_bit (2 ^ K + s) k = mk_bit s k := by
  unfold mk_bit
  have e : 2 ^ K + s = s + 2 ^ k * (2 * 2 ^ (K - k - 1)) := by
    rw [← Nat.mul_assoc, ← Nat.pow_succ, ← Nat.pow_add, show k + 1 + (K - k - 1) = K by omega, Nat.add_comm]
  rw [e, Nat.add_mul_div_left _ _ (Nat.two_pow_pos k), Nat.add_mul_mod_self_left]
theorem mk_w_c {co : Nat → Bool} {as : Nat → Nat} {s s' : Nat} : ∀ l, (∀ k, k < mk_k co as l → mk_bit s k = mk_bit s' k) → mk_w co as s l = mk_w co as s' l
  | 0, _ => rfl
  | l + 1, h => by
    have ek : mk_k co as (l + 1) = mk_k co as l + (if mk_is co as l = true then 1 else 0) := rfl
    show mk_w co as s l * (if mk_is co as l = true then (if mk_bit s (mk_k co as l) = true then 100 - as l else as l) else 1) = mk_w co as s' l * (if mk_is co as l = true then (if mk_bit s' (mk_k co as l) = true then 100 - as l else as l) else 1)
    rw [mk_w_c l (fun k hk => h k (by omega))]
    by_cases e : mk_is co as l = true
    · rw [if_pos e, if_pos e, h (mk_k co as l) (by rw [ek, if_pos e]; omega)]
    · rw [if_neg e, if_neg e]
theorem mk_T_c {co : Nat → Bool} {as : Nat → Nat} {l s s' : Nat} {T : Nat → Bool} (h : ∀ k, k < mk_k co as l → mk_bit s k = mk_bit s' k) : mk_T co as l s T = mk_T co as l s' T := by
  funext j
  unfold mk_T
  by_cases e : j < l ∧ mk_is co as j = true
  · rw [h _ (mk_k_le l e.1 e.2)]
  · by_cases e1 : j < l
    · have e2 : mk_is co as j = false := Bool.eq_false_iff.mpr (fun q => e ⟨e1, q⟩)
      rw [e2, Bool.false_and, Bool.false_and]
    · rw [decide_eq_false e1, Bool.false_and, Bool.false_and]
theorem mk_sum {co : Nat → Bool} {as : Nat → Nat} {f : (Nat → Bool) → Nat} (has : ∀ l, as l ≤ 100) : ∀ (l : Nat) (T : Nat → Bool), mk_sm (fun s => mk_w co as s l * f (mk_T co as l s T)) (2 ^ mk_k co as l) = mk_dsc co as l f T
  | 0, T => by
    show 0 + 1 * f (mk_T co as 0 0 T) = f T
    have e : mk_T co as 0 0 T = T := by
      funext j
      unfold mk_T
      rw [decide_eq_false (by omega), Bool.false_and, Bool.or_false]
    rw [e]
    omega
  | l + 1, T => by
    have ih := mk_sum (co := co) (as := as) (f := f) has l
    show _ = mk_op co as l (mk_dsc co as l f) T
    unfold mk_op
    have ek : mk_k co as (l + 1) = mk_k co as l + (if mk_is co as l = true then 1 else 0) := rfl
    have ew : ∀ s, mk_w co as s (l + 1) = mk_w co as s l * (if mk_is co as l = true then (if mk_bit s (mk_k co as l) = true then 100 - as l else as l) else 1) := fun _ => rfl
    have hs := has l
    by_cases ei : mk_is co as l = true
    · -- may be asked for, may stay
      have ei2 := ei
      unfold mk_is at ei2
      rw [Bool.and_eq_true, Bool.and_eq_true, decide_eq_true_eq, decide_eq_true_eq] at ei2
      obtain ⟨ec, e1, e2⟩ := ei2
      have ea : mk_a (as l) = as l := by unfold mk_a; rw [if_neg (by omega), if_neg (by omega)]
      have eb : mk_b (as l) = 100 - as l := by unfold mk_b; rw [if_neg (by omega), if_neg (by omega)]
      rw [if_pos ec, ea, eb, ek, if_pos ei, Nat.pow_succ, Nat.mul_two, mk_sm_add, ← ih T, ← ih (mk_t T l), ← mk_sm_m, ← mk_sm_m]
      have T1 : ∀ s, s < 2 ^ mk_k co as l → mk_T co as (l + 1) s T = mk_T co as l s T := fun s hs => by
        funext j
        unfold mk_T
        by_cases e : j = l
        · rw [e, mk_bit_hi hs, decide_eq_false (show ¬ as l = 0 by omega), Bool.and_false, Bool.or_false, Bool.and_false, Bool.and_false, decide_eq_false (show ¬ l < l by omega), Bool.false_and]
        · rw [show decide (j < l + 1) = decide (j < l) from decide_eq_decide.mpr (by omega)]
      have T2 : ∀ s, s < 2 ^ mk_k co as l → mk_T co as (l + 1) (2 ^ mk_k co as l + s) T = mk_T co as l s (mk_t T l) := fun s hs => by
        funext j
        unfold mk_T
        by_cases e : j = l
        · rw [e, mk_bit_top hs, ei, ec, mk_te, decide_eq_true (show l < l + 1 by omega), Bool.true_and, Bool.true_and, Bool.true_and, Bool.or_true, Bool.or_true, Bool.true_or]
        · rw [mk_tn e, show decide (j < l + 1) = decide (j < l) from decide_eq_decide.mpr (by omega)]
          by_cases c1 : j < l ∧ mk_is co as j = true
          · rw [mk_bit_lo (mk_k_le l c1.1 c1.2)]
          · by_cases c2 : j < l
            · have c3 : mk_is co as j = false := Bool.eq_false_iff.mpr (fun q => c1 ⟨c2, q⟩)
              rw [c3, Bool.false_and, Bool.false_and]
            · rw [decide_eq_false c2, Bool.false_and, Bool.false_and]
      refine congr (congrArg _ ?_) ?_
      · refine mk_sm_c _ (fun s hs => ?_)
        rw [ew, if_pos ei, mk_bit_hi hs, if_neg (by decide), T1 s hs, Nat.mul_comm (mk_w co as s l) (as l), Nat.mul_assoc]
      · refine mk_sm_c _ (fun s hs => ?_)
        rw [ew, if_pos ei, mk_bit_top hs, if_pos rfl, T2 s hs, mk_w_c (s := 2 ^ mk_k co as l + s) (s' := s) l (fun k hk => mk_bit_lo hk), Nat.mul_comm (mk_w co as s l) (100 - as l), Nat.mul_assoc]
    · rw [ek, if_neg ei, Nat.add_zero]
      have ew2 : ∀ s, mk_w co as s (l + 1) = mk_w co as s l := fun s => by rw [ew, if_neg ei, Nat.mul_one]
      have ef : mk_is co as l = false := Bool.eq_false_iff.mpr ei
      by_cases ec : co l = true
      · have hz : as l = 0 ∨ as l = 100 := by
          unfold mk_is at ei
          rw [Bool.and_eq_true, Bool.and_eq_true, decide_eq_true_eq, decide_eq_true_eq] at ei
          by_cases z : as l = 0
          · exact Or.inl z
          · refine Or.inr (Decidable.byContradiction (fun q => ei ⟨ec, by omega, by omega⟩))
        rw [if_pos ec]
        rcases hz with z | z
        · rw [z, show mk_a 0 = 0 from rfl, show mk_b 0 = 1 from rfl, Nat.zero_mul, Nat.one_mul, Nat.zero_add, ← ih (mk_t T l)]
          refine mk_sm_c _ (fun s hs => ?_)
          rw [ew2]
          have : mk_T co as (l + 1) s T = mk_T co as l s (mk_t T l) := by
            funext j
            unfold mk_T
            by_cases e : j = l
            · rw [e, z, ec, mk_te, decide_eq_true (show l < l + 1 by omega), decide_eq_true (show 0 = 0 from rfl), Bool.true_or, Bool.true_and, Bool.true_and, Bool.or_true, Bool.true_or]
            · rw [mk_tn e, show decide (j < l + 1) = decide (j < l) from decide_eq_decide.mpr (by omega)]
          rw [this]
        · rw [z, show mk_a 100 = 1 from rfl, show mk_b 100 = 0 from rfl, Nat.zero_mul, Nat.one_mul, Nat.add_zero, ← ih T]
          refine mk_sm_c _ (fun s hs => ?_)
          rw [ew2]
          have : mk_T co as (l + 1) s T = mk_T co as l s T := by
            funext j
            unfold mk_T
            by_cases e : j = l
            · rw [e, ef, z, decide_eq_false (show ¬ 100 = 0 by decide), Bool.false_and, Bool.or_false, Bool.and_false, Bool.and_false, Bool.and_false]
            · rw [show decide (j < l + 1) = decide (j < l) from decide_eq_decide.mpr (by omega)]
          rw [this]
      · rw [if_neg ec, ← ih T]
        refine mk_sm_c _ (fun s hs => ?_)
        rw [ew2]
        have : mk_T co as (l + 1) s T = mk_T co as l s T := by
          funext j
          unfold mk_T
          have ecf : co l = false := Bool.eq_false_iff.mpr ec
          by_cases e : j = l
          · rw [e, ecf, Bool.false_and, Bool.and_false, Bool.and_false]
          · rw [show decide (j < l + 1) = decide (j < l) from decide_eq_decide.mpr (by omega)]
        rw [this]
/-- a chance is at most all -/
theorem mk_op_b {co : Nat → Bool} {as : Nat → Nat} {l C : Nat} {f : (Nat → Bool) → Nat} (has : ∀ l, as l ≤ 100) (hf : ∀ T, f T ≤ C) (T : Nat → Bool) : mk_op co as l f T ≤ (if mk_is co as l = true then 100 else 1) * C := by
  unfold mk_op
  have h1 := hf T
  have h2 := hf (mk_t T l)
  have hs := has l
  by_cases ec : co l = true
  · rw [if_pos ec]
    by_cases z : as l = 0
    · rw [z, show mk_a 0 = 0 from rfl, show mk_b 0 = 1 from rfl, Nat.zero_mul, Nat.one_mul, Nat.zero_add]
      by_cases e : mk_is co as l = true
      · rw [if_pos e]; omega
      · rw [if_neg e]; omega
    · by_cases z2 : as l = 100
      · rw [z2, show mk_a 100 = 1 from rfl, show mk_b 100 = 0 from rfl, Nat.zero_mul, Nat.one_mul, Nat.add_zero]
        by_cases e : mk_is co as l = true
        · rw [if_pos e]; omega
        · rw [if_neg e]; omega
      · have e : mk_is co as l = true := by
          unfold mk_is
          rw [ec, decide_eq_true (show 1 ≤ as l by omega), decide_eq_true (show as l ≤ 99 by omega)]
          rfl
        rw [if_pos e]
        have ea : mk_a (as l) = as l := by unfold mk_a; rw [if_neg z, if_neg z2]
        have eb : mk_b (as l) = 100 - as l := by unfold mk_b; rw [if_neg z2, if_neg z]
        rw [ea, eb]
        have q1 := Nat.mul_le_mul_left (as l) h1
        have q2 := Nat.mul_le_mul_left (100 - as l) h2
        have q3 : as l * C + (100 - as l) * C = 100 * C := by rw [← Nat.add_mul, show as l + (100 - as l) = 100 by omega]
        omega
  · rw [if_neg ec]
    by_cases e : mk_is co as l = true
    · rw [if_pos e]; omega
    · rw [if_neg e]; omega
end
section
-- 99.zqi
/-! ===== KEEP, class: chances ===== -/
def mk_O (F E : Nat → Nat) (n : Nat) (T : Nat → Bool) (l i : Nat) : Bool := decide (F l ≤ i ∧ (i < E l ∨ (T l = true ∧ i < n)))
theorem mk_O0 {F E : Nat → Nat} {n : Nat} : mk_O F E n (fun _ => false) = fs_O F E := by
  funext l i
  unfold mk_O fs_O
  exact decide_eq_decide.mpr ⟨fun q => ⟨q.1, q.2.elim id (fun q => by cases q.1)⟩, fun q => ⟨q.1, Or.inl q.2⟩⟩
def fs_as (B : Nat → Int32) (l : Nat) : Nat := if l < 10 then fa_n B (80 + 7 * l + 4) else 0
def fs_ev (B : Nat → Int32) (m : Nat) : Nat := fa_n B (60 + 5 * m + 1)
def mk_ev (F E : Nat → Nat) (W : Nat → Nat → Nat) (L n : Nat) (even : Nat → Nat) (c : Nat → Nat) (m : Nat) (T : Nat → Bool) : Bool := ms_all (fun i => decide (ms_d (ms_s (ms_v W (mk_O F E n T)) c (2 * m) i L) (ms_s (ms_v W (mk_O F E n T)) c (2 * m + 1) i L) ≤ even m)) n
def fs_bq (X Y : Nat → Nat → Nat) (h : kc_H) : Prop := ∀ i, i < 5 → ∀ s, s < 6 → h (225 + i) s = .inl (Int32.ofNat (X i s)) ∧ h (231 + i) s = .inl (Int32.ofNat (Y i s))
theorem fs_bq_e {X Y X' Y' : Nat → Nat → Nat} {h : kc_H} (e : ∀ i, i < 5 → ∀ s, s < 6 → X' i s = X i s ∧ Y' i s = Y i s) (hb : fs_bq X Y h) : fs_bq X' Y' h := fun i hi s hs => by
  rw [(e i hi s hs).1, (e i hi s hs).2]
  exact hb i hi s hs
theorem fs_asl {B : Nat → Int32} (hB : fu_BT B) (l : Nat) : fs_as B l ≤ 100 := by
  unfold fs_as
  by_cases e : l < 10
  · rw [if_pos e]
    obtain ⟨k, k1, k2⟩ := fu_nat (by decide) (fu_flo l e).2.2.2.2.2.1 (hB (80 + 7 * l + 4) (by omega) (((fu_flo l e).1 4 (by decide)).2.2 (by decide)))
    unfold fa_n
    rw [k2, kx_ti (by omega), Int.toNat_natCast]
    exact k1
  · rw [if_neg e]; exact Nat.zero_le _
theorem fs_asB {B : Nat → Int32} (hB : fu_BT B) {l : Nat} (hl : l < 10) : B (80 + 7 * l + 4) = Int32.ofNat (fs_as B l) := by
  unfold fs_as
  rw [if_pos hl]
  obtain ⟨k, k1, k2⟩ := fu_nat (by decide) (fu_flo l hl).2.2.2.2.2.1 (hB (80 + 7 * l + 4) (by omega) (((fu_flo l hl).1 4 (by decide)).2.2 (by decide)))
  unfold fa_n
  rw [k2, kx_ti (by omega), Int.toNat_natCast]
theorem fs_asC {B : Nat → Int32} {h : kc_H} (hC : fu_C B 1 h) (hB : fu_BT B) {l : Nat} (hl : l < 10) : h (1 + (15 + l)) 4 = .inl (Int32.ofNat (fs_as B l)) := (fu_Cj (c := 15 + l) (i := 4) hC (by omega) (((fu_flo l hl).1 4 (by decide)).2.2 (by decide)) ((fu_flo l hl).1 4 (by decide)).1).trans (by rw [fs_asB hB hl])
set_option maxRecDepth 20000 in
theorem fs_g205ul {g : kc_G} {d : Nat} {h0 : kc_H} {F E : Nat → Nat} {co : Nat → Bool} {W : Nat → Nat → Nat} {L n : Nat} {l cl P N : Nat} {X Y X' Y' : Nat → Nat → Nat} (hb : fs_Gb F E co W L n) (hl : l < L) (hc6 : cl < 6) (hN : N ≤ n) (hX : ∀ i, i < 5 → ∀ s, s < 6 → X' i s = X i s + (if P ≤ i ∧ i < N ∧ s = cl then W l i else 0)) (hY : ∀ i, i < 5 → ∀ s, s < 6 → Y' i s = Y i s + (if P ≤ i ∧ i < N ∧ s = cl then 1 else 0)) : ∀ (u i : Nat) (h : kc_H), N - i = u → P ≤ i → i ≤ N → kd_wt kd_ty h → fs_G F E co W L n h → fs_bq (fun j s => if P ≤ j ∧ j < i then X' j s else X j s) (fun j s => if P ≤ j ∧ j < i then Y' j s else Y j s) h → (∀ a x, ¬ (225 ≤ a ∧ a ≤ 235) → h a x = h0 a x) → kc_Ev g d wk_m205 (fun rv h' => rv = none ∧ kd_wt kd_ty h' ∧ fs_bq X' Y' h' ∧ ∀ a x, ¬ (225 ≤ a ∧ a ≤ 235) → h' a x = h0 a x) 22 [(7, .inl (Int32.ofNat i)), (6, .inr (.inr (.inl (some (209 + l))))), (5, .inl (Int32.ofNat cl)), (0, .inr (.inr (.inl (some 220)))), (1, .inl (Int32.ofNat l)), (2, .inl (Int32.ofNat P)), (3, .inl (Int32.ofNat N)), (4, .inl (Int32.ofNat 1))] [] h := by
  intro u
  induction u with
  | zero =>
    intro i h hu hi1 hi2 hw hG hbo hF
    have hn := hb.1
    have hL := hb.2.1
    refine kx_go 3 (pc' := (if kc_cnd .ge (Int32.ofNat i).toInt (Int32.ofNat N).toInt then 70 else 28)) (L' := [(7, .inl (Int32.ofNat i)), (6, .inr (.inr (.inl (some (209 + l))))), (5, .inl (Int32.ofNat cl)), (0, .inr (.inr (.inl (some 220)))), (1, .inl (Int32.ofNat l)), (2, .inl (Int32.ofNat P)), (3, .inl (Int32.ofNat N)), (4, .inl (Int32.ofNat 1))]) (S' := []) (h' := h) (by with_unfolding_all rfl) ?_
    rw [if_pos ((kx_ge (by omega) (by omega)).mpr (by omega))]
    refine kc_ret_ok rfl (rv := none) rfl ⟨rfl, hw, fs_bq_e (fun j hj s hs => ?_) hbo, hF⟩
    by_cases e : P ≤ j ∧ j < i
    · rw [if_pos e, if_pos e]
      exact ⟨rfl, rfl⟩
    · rw [if_neg e, if_neg e]
      have q1 := hX j hj s hs
      have q2 := hY j hj s hs
      rw [if_neg (by omega)] at q1 q2
      omega
  | succ u ih =>
    intro i h hu hi1 hi2 hw hG hbo hF
    have hn := hb.1
    have hL := hb.2.1
    refine kx_go 3 (pc' := (if kc_cnd .ge (Int32.ofNat i).toInt (Int32.ofNat N).toInt then 70 else 28)) (L' := [(7, .inl (Int32.ofNat i)), (6, .inr (.inr (.inl (some (209 + l))))), (5, .inl (Int32.ofNat cl)), (0, .inr (.inr (.inl (some 220)))), (1, .inl (Int32.ofNat l)), (2, .inl (Int32.ofNat P)), (3, .inl (Int32.ofNat N)), (4, .inl (Int32.ofNat 1))]) (S' := []) (h' := h) (by with_unfolding_all rfl) ?_
    rw [if_neg (fun q => by have := (kx_ge (by omega) (by omega)).mp q; omega)]
    have hi5 : i < 5 := by omega
    have x1 := hX i hi5 cl hc6
    have y1 := hY i hi5 cl hc6
    rw [if_pos ⟨by omega, by omega, rfl⟩] at x1 y1
    have b0 : h (225 + i) cl = .inl (Int32.ofNat (if P ≤ i ∧ i < i then X' i cl else X i cl)) ∧ h (231 + i) cl = .inl (Int32.ofNat (if P ≤ i ∧ i < i then Y' i cl else Y i cl)) := hbo i hi5 cl hc6
    rw [if_neg (by omega), if_neg (by omega)] at b0
    refine kx_go 1 (pc' := 29) (L' := [(7, .inl (Int32.ofNat i)), (6, .inr (.inr (.inl (some (209 + l))))), (5, .inl (Int32.ofNat cl)), (0, .inr (.inr (.inl (some 220)))), (1, .inl (Int32.ofNat l)), (2, .inl (Int32.ofNat P)), (3, .inl (Int32.ofNat N)), (4, .inl (Int32.ofNat 1))]) (S' := [.inr (.inr (.inl (some 220)))]) (h' := h) (by with_unfolding_all rfl) ?_
    refine kx_getf (c := 220) (v := .inr (.inr (.inl (some 224)))) rfl (by decide) (kx_ofr (hw _ _ _ fs_k220_9)) ?_
    refine kx_go 1 (pc' := 34) (L' := [(7, .inl (Int32.ofNat i)), (6, .inr (.inr (.inl (some (209 + l))))), (5, .inl (Int32.ofNat cl)), (0, .inr (.inr (.inl (some 220)))), (1, .inl (Int32.ofNat l)), (2, .inl (Int32.ofNat P)), (3, .inl (Int32.ofNat N)), (4, .inl (Int32.ofNat 1))]) (S' := [.inl (Int32.ofNat i), .inr (.inr (.inl (some 224)))]) (h' := h) (by with_unfolding_all rfl) ?_
    refine kx_aald rfl (c := 224) (j := i) (m := 5) (t0 := 2) (v := .inr (.inr (.inl (some (225 + i))))) rfl (by decide) (by decide) (by decide) (by omega) (kx_ofr (hw _ _ _ (fs_k224 i (by omega)).2)) ?_
    refine kx_go 2 (pc' := 38) (L' := [(7, .inl (Int32.ofNat i)), (6, .inr (.inr (.inl (some (209 + l))))), (5, .inl (Int32.ofNat cl)), (0, .inr (.inr (.inl (some 220)))), (1, .inl (Int32.ofNat l)), (2, .inl (Int32.ofNat P)), (3, .inl (Int32.ofNat N)), (4, .inl (Int32.ofNat 1))]) (S' := [.inl (Int32.ofNat cl), .inr (.inr (.inl (some (225 + i)))), .inl (Int32.ofNat cl), .inr (.inr (.inl (some (225 + i))))]) (h' := h) (by with_unfolding_all rfl) ?_
    refine kx_iald (c := 225 + i) (j := cl) (m := 6) (v := .inl (Int32.ofNat (X i cl))) rfl (fs_k224 i (by omega)).1.1 (fs_k224 i (by omega)).1.2 (by decide) (by omega) b0.1 ?_
    refine kx_go 3 (pc' := 45) (L' := [(7, .inl (Int32.ofNat i)), (6, .inr (.inr (.inl (some (209 + l))))), (5, .inl (Int32.ofNat cl)), (0, .inr (.inr (.inl (some 220)))), (1, .inl (Int32.ofNat l)), (2, .inl (Int32.ofNat P)), (3, .inl (Int32.ofNat N)), (4, .inl (Int32.ofNat 1))]) (S' := [.inl (Int32.ofNat i), .inr (.inr (.inl (some (209 + l)))), .inl (Int32.ofNat 1), .inl (Int32.ofNat (X i cl)), .inl (Int32.ofNat cl), .inr (.inr (.inl (some (225 + i))))]) (h' := h) (by with_unfolding_all rfl) ?_
    refine kx_iald (c := 209 + l) (j := i) (m := 5) (v := .inl (Int32.ofNat (W l i))) rfl (fs_k208 l (by omega)).1.1 (fs_k208 l (by omega)).1.2 (by decide) (by omega) (hG.2.2.2 l hl i (by omega)) ?_
    refine kx_go 2 (pc' := 48) (L' := [(7, .inl (Int32.ofNat i)), (6, .inr (.inr (.inl (some (209 + l))))), (5, .inl (Int32.ofNat cl)), (0, .inr (.inr (.inl (some 220)))), (1, .inl (Int32.ofNat l)), (2, .inl (Int32.ofNat P)), (3, .inl (Int32.ofNat N)), (4, .inl (Int32.ofNat 1))]) (S' := [.inl ((Int32.ofNat (X i cl)) + ((Int32.ofNat 1) * (Int32.ofNat (W l i)))), .inl (Int32.ofNat cl), .inr (.inr (.inl (some (225 + i))))]) (h' := h) (by with_unfolding_all rfl) ?_
    rw [fs_up x1]
    refine kx_iast (c := 225 + i) (j := cl) (m := 6) rfl (fs_k224 i (by omega)).1.1 (fs_k224 i (by omega)).1.2 (by decide) (by omega) ?_
    have hw1 : kd_wt kd_ty (kc_upd h (225 + i) cl (.inl (Int32.ofNat (X' i cl)))) := fa_wa (fs_kb.1 i hi5 cl hc6) hw
    refine kx_go 1 (pc' := 50) (L' := [(7, .inl (Int32.ofNat i)), (6, .inr (.inr (.inl (some (209 + l))))), (5, .inl (Int32.ofNat cl)), (0, .inr (.inr (.inl (some 220)))), (1, .inl (Int32.ofNat l)), (2, .inl (Int32.ofNat P)), (3, .inl (Int32.ofNat N)), (4, .inl (Int32.ofNat 1))]) (S' := [.inr (.inr (.inl (some 220)))]) (h' := (kc_upd h (225 + i) cl (.inl (Int32.ofNat (X' i cl))))) (by with_unfolding_all rfl) ?_
    refine kx_getf (c := 220) (v := .inr (.inr (.inl (some 230)))) rfl (by decide) (kx_ofr (hw1 _ _ _ fs_k220_10)) ?_
    refine kx_go 1 (pc' := 55) (L' := [(7, .inl (Int32.ofNat i)), (6, .inr (.inr (.inl (some (209 + l))))), (5, .inl (Int32.ofNat cl)), (0, .inr (.inr (.inl (some 220)))), (1, .inl (Int32.ofNat l)), (2, .inl (Int32.ofNat P)), (3, .inl (Int32.ofNat N)), (4, .inl (Int32.ofNat 1))]) (S' := [.inl (Int32.ofNat i), .inr (.inr (.inl (some 230)))]) (h' := (kc_upd h (225 + i) cl (.inl (Int32.ofNat (X' i cl))))) (by with_unfolding_all rfl) ?_
    refine kx_aald rfl (c := 230) (j := i) (m := 5) (t0 := 2) (v := .inr (.inr (.inl (some (231 + i))))) rfl (by decide) (by decide) (by decide) (by omega) (kx_ofr (hw1 _ _ _ (fs_k230 i (by omega)).2)) ?_
    refine kx_go 2 (pc' := 59) (L' := [(7, .inl (Int32.ofNat i)), (6, .inr (.inr (.inl (some (209 + l))))), (5, .inl (Int32.ofNat cl)), (0, .inr (.inr (.inl (some 220)))), (1, .inl (Int32.ofNat l)), (2, .inl (Int32.ofNat P)), (3, .inl (Int32.ofNat N)), (4, .inl (Int32.ofNat 1))]) (S' := [.inl (Int32.ofNat cl), .inr (.inr (.inl (some (231 + i)))), .inl (Int32.ofNat cl), .inr (.inr (.inl (some (231 + i))))]) (h' := (kc_upd h (225 + i) cl (.inl (Int32.ofNat (X' i cl))))) (by with_unfolding_all rfl) ?_
    refine kx_iald (c := 231 + i) (j := cl) (m := 6) (v := .inl (Int32.ofNat (Y i cl))) rfl (fs_k230 i (by omega)).1.1 (fs_k230 i (by omega)).1.2 (by decide) (by omega) ((fu_ne (fun q => by omega)).trans b0.2) ?_
    refine kx_go 2 (pc' := 63) (L' := [(7, .inl (Int32.ofNat i)), (6, .inr (.inr (.inl (some (209 + l))))), (5, .inl (Int32.ofNat cl)), (0, .inr (.inr (.inl (some 220)))), (1, .inl (Int32.ofNat l)), (2, .inl (Int32.ofNat P)), (3, .inl (Int32.ofNat N)), (4, .inl (Int32.ofNat 1))]) (S' := [.inl ((Int32.ofNat (Y i cl)) + (Int32.ofNat 1)), .inl (Int32.ofNat cl), .inr (.inr (.inl (some (231 + i))))]) (h' := (kc_upd h (225 + i) cl (.inl (Int32.ofNat (X' i cl))))) (by with_unfolding_all rfl) ?_
    rw [fs_up1 y1]
    refine kx_iast (c := 231 + i) (j := cl) (m := 6) rfl (fs_k230 i (by omega)).1.1 (fs_k230 i (by omega)).1.2 (by decide) (by omega) ?_
    refine kx_go 2 (pc' := 22) (L' := [(7, .inl ((Int32.ofNat i) + Int32.ofInt 1)), (6, .inr (.inr (.inl (some (209 + l))))), (5, .inl (Int32.ofNat cl)), (0, .inr (.inr (.inl (some 220)))), (1, .inl (Int32.ofNat l)), (2, .inl (Int32.ofNat P)), (3, .inl (Int32.ofNat N)), (4, .inl (Int32.ofNat 1))]) (S' := []) (h' := (kc_upd (kc_upd h (225 + i) cl (.inl (Int32.ofNat (X' i cl)))) (231 + i) cl (.inl (Int32.ofNat (Y' i cl))))) (by with_unfolding_all rfl) ?_
    rw [kx_inc]
    refine kf_lo (L := [(7, .inl (Int32.ofNat (i + 1))), (6, .inr (.inr (.inl (some (209 + l))))), (5, .inl (Int32.ofNat cl)), (0, .inr (.inr (.inl (some 220)))), (1, .inl (Int32.ofNat l)), (2, .inl (Int32.ofNat P)), (3, .inl (Int32.ofNat N)), (4, .inl (Int32.ofNat 1))]) (by intro q hq; simp only [List.mem_cons, List.not_mem_nil, or_false] at hq; rcases hq with rfl | rfl | rfl | rfl | rfl | rfl | rfl | rfl <;> rfl) ?_
    refine ih (i + 1) _ (by omega) (by omega) (by omega) (fa_wa (fs_kb.2 i hi5 cl hc6) hw1) (fs_G_f hL (fun a x h1 h2 => (fu_ne (fun q => by omega)).trans (fu_ne (fun q => by omega))) hG) (fun j hj s hs => ?_) (fun a x ha => (fu_ne (fun q => by omega)).trans ((fu_ne (fun q => by omega)).trans (hF a x ha)))
    have old : h (225 + j) s = .inl (Int32.ofNat (if P ≤ j ∧ j < i then X' j s else X j s)) ∧ h (231 + j) s = .inl (Int32.ofNat (if P ≤ j ∧ j < i then Y' j s else Y j s)) := hbo j hj s hs
    show _ = Sum.inl (Int32.ofNat (if P ≤ j ∧ j < i + 1 then X' j s else X j s)) ∧ _ = Sum.inl (Int32.ofNat (if P ≤ j ∧ j < i + 1 then Y' j s else Y j s))
    by_cases e : j = i
    · subst e
      rw [if_pos (by omega), if_pos (by omega)]
      rw [if_neg (by omega), if_neg (by omega)] at old
      by_cases e2 : s = cl
      · rw [e2]
        exact ⟨(fu_ne (fun q => by omega)).trans fu_eq, fu_eq⟩
      · have q1 := hX j hj s hs
        have q2 := hY j hj s hs
        rw [if_neg (fun q => e2 q.2.2), Nat.add_zero] at q1 q2
        rw [q1, q2]
        exact ⟨(fu_ne (fun q => by omega)).trans ((fu_ne (fun q => e2 q.2)).trans old.1), (fu_ne (fun q => e2 q.2)).trans ((fu_ne (fun q => by omega)).trans old.2)⟩
    · have c9 : (P ≤ j ∧ j < i + 1) ↔ (P ≤ j ∧ j < i) := by omega
      by_cases c : P ≤ j ∧ j < i
      · rw [if_pos (c9.mpr c), if_pos (c9.mpr c)]
        rw [if_pos c, if_pos c] at old
        exact ⟨(fu_ne (fun q => by omega)).trans ((fu_ne (fun q => by omega)).trans old.1), (fu_ne (fun q => by omega)).trans ((fu_ne (fun q => by omega)).trans old.2)⟩
      · rw [if_neg (fun q => c (c9.mp q)), if_neg (fun q => c (c9.mp q))]
        rw [if_neg c, if_neg c] at old
        exact ⟨(fu_ne (fun q => by omega)).trans ((fu_ne (fun q => by omega)).trans old.1), (fu_ne (fun q => by omega)).trans ((fu_ne (fun q => by omega)).trans old.2)⟩
set_option maxRecDepth 20000 in
theorem fs_g205u {g : kc_G} {d : Nat} {h : kc_H} {F E : Nat → Nat} {co : Nat → Bool} {W : Nat → Nat → Nat} {L n : Nat} {l cl P N : Nat} {X Y X' Y' : Nat → Nat → Nat} (hg : kc_ok g) (hw : kd_wt kd_ty h) (hb : fs_Gb F E co W L n) (hG : fs_G F E co W L n h) (hl : l < L) (hc6 : cl < 6) (hP : P ≤ N) (hN : N ≤ n) (hX : ∀ i, i < 5 → ∀ s, s < 6 → X' i s = X i s + (if P ≤ i ∧ i < N ∧ s = cl then W l i else 0)) (hY : ∀ i, i < 5 → ∀ s, s < 6 → Y' i s = Y i s + (if P ≤ i ∧ i < N ∧ s = cl then 1 else 0)) (hr : h 222 l = .inl (Int32.ofNat cl)) (hbo : fs_bq X Y h) : kc_Con g (d + 1) 205 [.inr (.inr (.inl (some 220))), .inl (Int32.ofNat l), .inl (Int32.ofNat P), .inl (Int32.ofNat N), .inl (Int32.ofNat 1)] h (fun rv h' => rv = none ∧ kd_wt kd_ty h' ∧ fs_bq X' Y' h' ∧ ∀ a x, ¬ (225 ≤ a ∧ a ≤ 235) → h' a x = h a x) := by
  have hn := hb.1
  have hL := hb.2.1
  refine kc_Con_new hg (M := wk_m205) rfl rfl rfl (show 5 ≤ 8 by decide) ?_
  refine kx_go 1 (pc' := 1) (L' := [(0, .inr (.inr (.inl (some 220)))), (1, .inl (Int32.ofNat l)), (2, .inl (Int32.ofNat P)), (3, .inl (Int32.ofNat N)), (4, .inl (Int32.ofNat 1))]) (S' := [.inr (.inr (.inl (some 220)))]) (h' := h) (by with_unfolding_all rfl) ?_
  refine kx_getf (c := 220) (v := .inr (.inr (.inl (some 222)))) rfl (by decide) (kx_ofr (hw _ _ _ fs_k220_7)) ?_
  refine kx_go 1 (pc' := 5) (L' := [(0, .inr (.inr (.inl (some 220)))), (1, .inl (Int32.ofNat l)), (2, .inl (Int32.ofNat P)), (3, .inl (Int32.ofNat N)), (4, .inl (Int32.ofNat 1))]) (S' := [.inl (Int32.ofNat l), .inr (.inr (.inl (some 222)))]) (h' := h) (by with_unfolding_all rfl) ?_
  refine kx_iald (c := 222) (j := l) (m := 10) (v := .inl (Int32.ofNat cl)) rfl rfl (by decide) (by decide) (by omega) hr ?_
  refine kx_go 2 (pc' := 9) (L' := [(5, .inl (Int32.ofNat cl)), (0, .inr (.inr (.inl (some 220)))), (1, .inl (Int32.ofNat l)), (2, .inl (Int32.ofNat P)), (3, .inl (Int32.ofNat N)), (4, .inl (Int32.ofNat 1))]) (S' := [.inr (.inr (.inl (some 220)))]) (h' := h) (by with_unfolding_all rfl) ?_
  refine kx_getf (c := 220) (v := .inr (.inr (.inl (some 204)))) rfl (by decide) (kx_ofr (hw _ _ _ fs_k220_1)) ?_
  refine kx_getf (c := 204) (v := .inr (.inr (.inl (some 208)))) rfl (by decide) (kx_ofr (hw _ _ _ fs_k204_6)) ?_
  refine kx_go 1 (pc' := 16) (L' := [(5, .inl (Int32.ofNat cl)), (0, .inr (.inr (.inl (some 220)))), (1, .inl (Int32.ofNat l)), (2, .inl (Int32.ofNat P)), (3, .inl (Int32.ofNat N)), (4, .inl (Int32.ofNat 1))]) (S' := [.inl (Int32.ofNat l), .inr (.inr (.inl (some 208)))]) (h' := h) (by with_unfolding_all rfl) ?_
  refine kx_aald rfl (c := 208) (j := l) (m := 10) (t0 := 2) (v := .inr (.inr (.inl (some (209 + l))))) rfl (by decide) (by decide) (by decide) (by omega) (kx_ofr (hw _ _ _ (fs_k208 l (by omega)).2)) ?_
  refine kx_go 3 (pc' := 22) (L' := [(7, .inl (Int32.ofNat P)), (6, .inr (.inr (.inl (some (209 + l))))), (5, .inl (Int32.ofNat cl)), (0, .inr (.inr (.inl (some 220)))), (1, .inl (Int32.ofNat l)), (2, .inl (Int32.ofNat P)), (3, .inl (Int32.ofNat N)), (4, .inl (Int32.ofNat 1))]) (S' := []) (h' := h) (by with_unfolding_all rfl) ?_
  refine kf_lo (L := [(7, .inl (Int32.ofNat P)), (6, .inr (.inr (.inl (some (209 + l))))), (5, .inl (Int32.ofNat cl)), (0, .inr (.inr (.inl (some 220)))), (1, .inl (Int32.ofNat l)), (2, .inl (Int32.ofNat P)), (3, .inl (Int32.ofNat N)), (4, .inl (Int32.ofNat 1))]) (by intro q hq; simp only [List.mem_cons, List.not_mem_nil, or_false] at hq; rcases hq with rfl | rfl | rfl | rfl | rfl | rfl | rfl | rfl <;> rfl) ?_
  refine fs_g205ul (h0 := h) hb hl hc6 hN hX hY (N - P) P h rfl (Nat.le_refl _) hP hw hG (fs_bq_e (fun j hj s hs => ?_) hbo) (fun a x _ => rfl)
  rw [if_neg (show ¬ (P ≤ j ∧ j < P) by omega), if_neg (show ¬ (P ≤ j ∧ j < P) by omega)]
  exact ⟨rfl, rfl⟩
set_option maxRecDepth 20000 in
theorem fs_g205dl {g : kc_G} {d : Nat} {h0 : kc_H} {F E : Nat → Nat} {co : Nat → Bool} {W : Nat → Nat → Nat} {L n : Nat} {l cl P N : Nat} {X Y X' Y' : Nat → Nat → Nat} (hb : fs_Gb F E co W L n) (hl : l < L) (hc6 : cl < 6) (hN : N ≤ n) (hX : ∀ i, i < 5 → ∀ s, s < 6 → X' i s = X i s + (if P ≤ i ∧ i < N ∧ s = cl then W l i else 0)) (hY : ∀ i, i < 5 → ∀ s, s < 6 → Y' i s = Y i s + (if P ≤ i ∧ i < N ∧ s = cl then 1 else 0)) : ∀ (u i : Nat) (h : kc_H), N - i = u → P ≤ i → i ≤ N → kd_wt kd_ty h → fs_G F E co W L n h → fs_bq (fun j s => if P ≤ j ∧ j < i then X j s else X' j s) (fun j s => if P ≤ j ∧ j < i then Y j s else Y' j s) h → (∀ a x, ¬ (225 ≤ a ∧ a ≤ 235) → h a x = h0 a x) → kc_Ev g d wk_m205 (fun rv h' => rv = none ∧ kd_wt kd_ty h' ∧ fs_bq X Y h' ∧ ∀ a x, ¬ (225 ≤ a ∧ a ≤ 235) → h' a x = h0 a x) 22 [(7, .inl (Int32.ofNat i)), (6, .inr (.inr (.inl (some (209 + l))))), (5, .inl (Int32.ofNat cl)), (0, .inr (.inr (.inl (some 220)))), (1, .inl (Int32.ofNat l)), (2, .inl (Int32.ofNat P)), (3, .inl (Int32.ofNat N)), (4, .inl (Int32.ofInt (-1)))] [] h := by
  intro u
  induction u with
  | zero =>
    intro i h hu hi1 hi2 hw hG hbo hF
    have hn := hb.1
    have hL := hb.2.1
    refine kx_go 3 (pc' := (if kc_cnd .ge (Int32.ofNat i).toInt (Int32.ofNat N).toInt then 70 else 28)) (L' := [(7, .inl (Int32.ofNat i)), (6, .inr (.inr (.inl (some (209 + l))))), (5, .inl (Int32.ofNat cl)), (0, .inr (.inr (.inl (some 220)))), (1, .inl (Int32.ofNat l)), (2, .inl (Int32.ofNat P)), (3, .inl (Int32.ofNat N)), (4, .inl (Int32.ofInt (-1)))]) (S' := []) (h' := h) (by with_unfolding_all rfl) ?_
    rw [if_pos ((kx_ge (by omega) (by omega)).mpr (by omega))]
    refine kc_ret_ok rfl (rv := none) rfl ⟨rfl, hw, fs_bq_e (fun j hj s hs => ?_) hbo, hF⟩
    by_cases e : P ≤ j ∧ j < i
    · rw [if_pos e, if_pos e]
      exact ⟨rfl, rfl⟩
    · rw [if_neg e, if_neg e]
      have q1 := hX j hj s hs
      have q2 := hY j hj s hs
      rw [if_neg (by omega)] at q1 q2
      omega
  | succ u ih =>
    intro i h hu hi1 hi2 hw hG hbo hF
    have hn := hb.1
    have hL := hb.2.1
    refine kx_go 3 (pc' := (if kc_cnd .ge (Int32.ofNat i).toInt (Int32.ofNat N).toInt then 70 else 28)) (L' := [(7, .inl (Int32.ofNat i)), (6, .inr (.inr (.inl (some (209 + l))))), (5, .inl (Int32.ofNat cl)), (0, .inr (.inr (.inl (some 220)))), (1, .inl (Int32.ofNat l)), (2, .inl (Int32.ofNat P)), (3, .inl (Int32.ofNat N)), (4, .inl (Int32.ofInt (-1)))]) (S' := []) (h' := h) (by with_unfolding_all rfl) ?_
    rw [if_neg (fun q => by have := (kx_ge (by omega) (by omega)).mp q; omega)]
    have hi5 : i < 5 := by omega
    have x1 := hX i hi5 cl hc6
    have y1 := hY i hi5 cl hc6
    rw [if_pos ⟨by omega, by omega, rfl⟩] at x1 y1
    have b0 : h (225 + i) cl = .inl (Int32.ofNat (if P ≤ i ∧ i < i then X i cl else X' i cl)) ∧ h (231 + i) cl = .inl (Int32.ofNat (if P ≤ i ∧ i < i then Y i cl else Y' i cl)) := hbo i hi5 cl hc6
    rw [if_neg (by omega), if_neg (by omega)] at b0
    refine kx_go 1 (pc' := 29) (L' := [(7, .inl (Int32.ofNat i)), (6, .inr (.inr (.inl (some (209 + l))))), (5, .inl (Int32.ofNat cl)), (0, .inr (.inr (.inl (some 220)))), (1, .inl (Int32.ofNat l)), (2, .inl (Int32.ofNat P)), (3, .inl (Int32.ofNat N)), (4, .inl (Int32.ofInt (-1)))]) (S' := [.inr (.inr (.inl (some 220)))]) (h' := h) (by with_unfolding_all rfl) ?_
    refine kx_getf (c := 220) (v := .inr (.inr (.inl (some 224)))) rfl (by decide) (kx_ofr (hw _ _ _ fs_k220_9)) ?_
    refine kx_go 1 (pc' := 34) (L' := [(7, .inl (Int32.ofNat i)), (6, .inr (.inr (.inl (some (209 + l))))), (5, .inl (Int32.ofNat cl)), (0, .inr (.inr (.inl (some 220)))), (1, .inl (Int32.ofNat l)), (2, .inl (Int32.ofNat P)), (3, .inl (Int32.ofNat N)), (4, .inl (Int32.ofInt (-1)))]) (S' := [.inl (Int32.ofNat i), .inr (.inr (.inl (some 224)))]) (h' := h) (by with_unfolding_all rfl) ?_
    refine kx_aald rfl (c := 224) (j := i) (m := 5) (t0 := 2) (v := .inr (.inr (.inl (some (225 + i))))) rfl (by decide) (by decide) (by decide) (by omega) (kx_ofr (hw _ _ _ (fs_k224 i (by omega)).2)) ?_
    refine kx_go 2 (pc' := 38) (L' := [(7, .inl (Int32.ofNat i)), (6, .inr (.inr (.inl (some (209 + l))))), (5, .inl (Int32.ofNat cl)), (0, .inr (.inr (.inl (some 220)))), (1, .inl (Int32.ofNat l)), (2, .inl (Int32.ofNat P)), (3, .inl (Int32.ofNat N)), (4, .inl (Int32.ofInt (-1)))]) (S' := [.inl (Int32.ofNat cl), .inr (.inr (.inl (some (225 + i)))), .inl (Int32.ofNat cl), .inr (.inr (.inl (some (225 + i))))]) (h' := h) (by with_unfolding_all rfl) ?_
    refine kx_iald (c := 225 + i) (j := cl) (m := 6) (v := .inl (Int32.ofNat (X' i cl))) rfl (fs_k224 i (by omega)).1.1 (fs_k224 i (by omega)).1.2 (by decide) (by omega) b0.1 ?_
    refine kx_go 3 (pc' := 45) (L' := [(7, .inl (Int32.ofNat i)), (6, .inr (.inr (.inl (some (209 + l))))), (5, .inl (Int32.ofNat cl)), (0, .inr (.inr (.inl (some 220)))), (1, .inl (Int32.ofNat l)), (2, .inl (Int32.ofNat P)), (3, .inl (Int32.ofNat N)), (4, .inl (Int32.ofInt (-1)))]) (S' := [.inl (Int32.ofNat i), .inr (.inr (.inl (some (209 + l)))), .inl (Int32.ofInt (-1)), .inl (Int32.ofNat (X' i cl)), .inl (Int32.ofNat cl), .inr (.inr (.inl (some (225 + i))))]) (h' := h) (by with_unfolding_all rfl) ?_
    refine kx_iald (c := 209 + l) (j := i) (m := 5) (v := .inl (Int32.ofNat (W l i))) rfl (fs_k208 l (by omega)).1.1 (fs_k208 l (by omega)).1.2 (by decide) (by omega) (hG.2.2.2 l hl i (by omega)) ?_
    refine kx_go 2 (pc' := 48) (L' := [(7, .inl (Int32.ofNat i)), (6, .inr (.inr (.inl (some (209 + l))))), (5, .inl (Int32.ofNat cl)), (0, .inr (.inr (.inl (some 220)))), (1, .inl (Int32.ofNat l)), (2, .inl (Int32.ofNat P)), (3, .inl (Int32.ofNat N)), (4, .inl (Int32.ofInt (-1)))]) (S' := [.inl ((Int32.ofNat (X' i cl)) + ((Int32.ofInt (-1)) * (Int32.ofNat (W l i)))), .inl (Int32.ofNat cl), .inr (.inr (.inl (some (225 + i))))]) (h' := h) (by with_unfolding_all rfl) ?_
    rw [fs_dn x1]
    refine kx_iast (c := 225 + i) (j := cl) (m := 6) rfl (fs_k224 i (by omega)).1.1 (fs_k224 i (by omega)).1.2 (by decide) (by omega) ?_
    have hw1 : kd_wt kd_ty (kc_upd h (225 + i) cl (.inl (Int32.ofNat (X i cl)))) := fa_wa (fs_kb.1 i hi5 cl hc6) hw
    refine kx_go 1 (pc' := 50) (L' := [(7, .inl (Int32.ofNat i)), (6, .inr (.inr (.inl (some (209 + l))))), (5, .inl (Int32.ofNat cl)), (0, .inr (.inr (.inl (some 220)))), (1, .inl (Int32.ofNat l)), (2, .inl (Int32.ofNat P)), (3, .inl (Int32.ofNat N)), (4, .inl (Int32.ofInt (-1)))]) (S' := [.inr (.inr (.inl (some 220)))]) (h' := (kc_upd h (225 + i) cl (.inl (Int32.ofNat (X i cl))))) (by with_unfolding_all rfl) ?_
    refine kx_getf (c := 220) (v := .inr (.inr (.inl (some 230)))) rfl (by decide) (kx_ofr (hw1 _ _ _ fs_k220_10)) ?_
    refine kx_go 1 (pc' := 55) (L' := [(7, .inl (Int32.ofNat i)), (6, .inr (.inr (.inl (some (209 + l))))), (5, .inl (Int32.ofNat cl)), (0, .inr (.inr (.inl (some 220)))), (1, .inl (Int32.ofNat l)), (2, .inl (Int32.ofNat P)), (3, .inl (Int32.ofNat N)), (4, .inl (Int32.ofInt (-1)))]) (S' := [.inl (Int32.ofNat i), .inr (.inr (.inl (some 230)))]) (h' := (kc_upd h (225 + i) cl (.inl (Int32.ofNat (X i cl))))) (by with_unfolding_all rfl) ?_
    refine kx_aald rfl (c := 230) (j := i) (m := 5) (t0 := 2) (v := .inr (.inr (.inl (some (231 + i))))) rfl (by decide) (by decide) (by decide) (by omega) (kx_ofr (hw1 _ _ _ (fs_k230 i (by omega)).2)) ?_
    refine kx_go 2 (pc' := 59) (L' := [(7, .inl (Int32.ofNat i)), (6, .inr (.inr (.inl (some (209 + l))))), (5, .inl (Int32.ofNat cl)), (0, .inr (.inr (.inl (some 220)))), (1, .inl (Int32.ofNat l)), (2, .inl (Int32.ofNat P)), (3, .inl (Int32.ofNat N)), (4, .inl (Int32.ofInt (-1)))]) (S' := [.inl (Int32.ofNat cl), .inr (.inr (.inl (some (231 + i)))), .inl (Int32.ofNat cl), .inr (.inr (.inl (some (231 + i))))]) (h' := (kc_upd h (225 + i) cl (.inl (Int32.ofNat (X i cl))))) (by with_unfolding_all rfl) ?_
    refine kx_iald (c := 231 + i) (j := cl) (m := 6) (v := .inl (Int32.ofNat (Y' i cl))) rfl (fs_k230 i (by omega)).1.1 (fs_k230 i (by omega)).1.2 (by decide) (by omega) ((fu_ne (fun q => by omega)).trans b0.2) ?_
    refine kx_go 2 (pc' := 63) (L' := [(7, .inl (Int32.ofNat i)), (6, .inr (.inr (.inl (some (209 + l))))), (5, .inl (Int32.ofNat cl)), (0, .inr (.inr (.inl (some 220)))), (1, .inl (Int32.ofNat l)), (2, .inl (Int32.ofNat P)), (3, .inl (Int32.ofNat N)), (4, .inl (Int32.ofInt (-1)))]) (S' := [.inl ((Int32.ofNat (Y' i cl)) + (Int32.ofInt (-1))), .inl (Int32.ofNat cl), .inr (.inr (.inl (some (231 + i))))]) (h' := (kc_upd h (225 + i) cl (.inl (Int32.ofNat (X i cl))))) (by with_unfolding_all rfl) ?_
    rw [fs_dn1 y1]
    refine kx_iast (c := 231 + i) (j := cl) (m := 6) rfl (fs_k230 i (by omega)).1.1 (fs_k230 i (by omega)).1.2 (by decide) (by omega) ?_
    refine kx_go 2 (pc' := 22) (L' := [(7, .inl ((Int32.ofNat i) + Int32.ofInt 1)), (6, .inr (.inr (.inl (some (209 + l))))), (5, .inl (Int32.ofNat cl)), (0, .inr (.inr (.inl (some 220)))), (1, .inl (Int32.ofNat l)), (2, .inl (Int32.ofNat P)), (3, .inl (Int32.ofNat N)), (4, .inl (Int32.ofInt (-1)))]) (S' := []) (h' := (kc_upd (kc_upd h (225 + i) cl (.inl (Int32.ofNat (X i cl)))) (231 + i) cl (.inl (Int32.ofNat (Y i cl))))) (by with_unfolding_all rfl) ?_
    rw [kx_inc]
    refine kf_lo (L := [(7, .inl (Int32.ofNat (i + 1))), (6, .inr (.inr (.inl (some (209 + l))))), (5, .inl (Int32.ofNat cl)), (0, .inr (.inr (.inl (some 220)))), (1, .inl (Int32.ofNat l)), (2, .inl (Int32.ofNat P)), (3, .inl (Int32.ofNat N)), (4, .inl (Int32.ofInt (-1)))]) (by intro q hq; simp only [List.mem_cons, List.not_mem_nil, or_false] at hq; rcases hq with rfl | rfl | rfl | rfl | rfl | rfl | rfl | rfl <;> rfl) ?_
    refine ih (i + 1) _ (by omega) (by omega) (by omega) (fa_wa (fs_kb.2 i hi5 cl hc6) hw1) (fs_G_f hL (fun a x h1 h2 => (fu_ne (fun q => by omega)).trans (fu_ne (fun q => by omega))) hG) (fun j hj s hs => ?_) (fun a x ha => (fu_ne (fun q => by omega)).trans ((fu_ne (fun q => by omega)).trans (hF a x ha)))
    have old : h (225 + j) s = .inl (Int32.ofNat (if P ≤ j ∧ j < i then X j s else X' j s)) ∧ h (231 + j) s = .inl (Int32.ofNat (if P ≤ j ∧ j < i then Y j s else Y' j s)) := hbo j hj s hs
    show _ = Sum.inl (Int32.ofNat (if P ≤ j ∧ j < i + 1 then X j s else X' j s)) ∧ _ = Sum.inl (Int32.ofNat (if P ≤ j ∧ j < i + 1 then Y j s else Y' j s))
    by_cases e : j = i
    · subst e
      rw [if_pos (by omega), if_pos (by omega)]
      rw [if_neg (by omega), if_neg (by omega)] at old
      by_cases e2 : s = cl
      · rw [e2]
        exact ⟨(fu_ne (fun q => by omega)).trans fu_eq, fu_eq⟩
      · have q1 := hX j hj s hs
        have q2 := hY j hj s hs
        rw [if_neg (fun q => e2 q.2.2), Nat.add_zero] at q1 q2
        rw [← q1, ← q2]
        exact ⟨(fu_ne (fun q => by omega)).trans ((fu_ne (fun q => e2 q.2)).trans old.1), (fu_ne (fun q => e2 q.2)).trans ((fu_ne (fun q => by omega)).trans old.2)⟩
    · have c9 : (P ≤ j ∧ j < i + 1) ↔ (P ≤ j ∧ j < i) := by omega
      by_cases c : P ≤ j ∧ j < i
      · rw [if_pos (c9.mpr c), if_pos (c9.mpr c)]
        rw [if_pos c, if_pos c] at old
        exact ⟨(fu_ne (fun q => by omega)).trans ((fu_ne (fun q => by omega)).trans old.1), (fu_ne (fun q => by omega)).trans ((fu_ne (fun q => by omega)).trans old.2)⟩
      · rw [if_neg (fun q => c (c9.mp q)), if_neg (fun q => c (c9.mp q))]
        rw [if_neg c, if_neg c] at old
        exact ⟨(fu_ne (fun q => by omega)).trans ((fu_ne (fun q => by omega)).trans old.1), (fu_ne (fun q => by omega)).trans ((fu_ne (fun q => by omega)).trans old.2)⟩
set_option maxRecDepth 20000 in
theorem fs_g205d {g : kc_G} {d : Nat} {h : kc_H} {F E : Nat → Nat} {co : Nat → Bool} {W : Nat → Nat → Nat} {L n : Nat} {l cl P N : Nat} {X Y X' Y' : Nat → Nat → Nat} (hg : kc_ok g) (hw : kd_wt kd_ty h) (hb : fs_Gb F E co W L n) (hG : fs_G F E co W L n h) (hl : l < L) (hc6 : cl < 6) (hP : P ≤ N) (hN : N ≤ n) (hX : ∀ i, i < 5 → ∀ s, s < 6 → X' i s = X i s + (if P ≤ i ∧ i < N ∧ s = cl then W l i else 0)) (hY : ∀ i, i < 5 → ∀ s, s < 6 → Y' i s = Y i s + (if P ≤ i ∧ i < N ∧ s = cl then 1 else 0)) (hr : h 222 l = .inl (Int32.ofNat cl)) (hbo : fs_bq X' Y' h) : kc_Con g (d + 1) 205 [.inr (.inr (.inl (some 220))), .inl (Int32.ofNat l), .inl (Int32.ofNat P), .inl (Int32.ofNat N), .inl (Int32.ofInt (-1))] h (fun rv h' => rv = none ∧ kd_wt kd_ty h' ∧ fs_bq X Y h' ∧ ∀ a x, ¬ (225 ≤ a ∧ a ≤ 235) → h' a x = h a x) := by
  have hn := hb.1
  have hL := hb.2.1
  refine kc_Con_new hg (M := wk_m205) rfl rfl rfl (show 5 ≤ 8 by decide) ?_
  refine kx_go 1 (pc' := 1) (L' := [(0, .inr (.inr (.inl (some 220)))), (1, .inl (Int32.ofNat l)), (2, .inl (Int32.ofNat P)), (3, .inl (Int32.ofNat N)), (4, .inl (Int32.ofInt (-1)))]) (S' := [.inr (.inr (.inl (some 220)))]) (h' := h) (by with_unfolding_all rfl) ?_
  refine kx_getf (c := 220) (v := .inr (.inr (.inl (some 222)))) rfl (by decide) (kx_ofr (hw _ _ _ fs_k220_7)) ?_
  refine kx_go 1 (pc' := 5) (L' := [(0, .inr (.inr (.inl (some 220)))), (1, .inl (Int32.ofNat l)), (2, .inl (Int32.ofNat P)), (3, .inl (Int32.ofNat N)), (4, .inl (Int32.ofInt (-1)))]) (S' := [.inl (Int32.ofNat l), .inr (.inr (.inl (some 222)))]) (h' := h) (by with_unfolding_all rfl) ?_
  refine kx_iald (c := 222) (j := l) (m := 10) (v := .inl (Int32.ofNat cl)) rfl rfl (by decide) (by decide) (by omega) hr ?_
  refine kx_go 2 (pc' := 9) (L' := [(5, .inl (Int32.ofNat cl)), (0, .inr (.inr (.inl (some 220)))), (1, .inl (Int32.ofNat l)), (2, .inl (Int32.ofNat P)), (3, .inl (Int32.ofNat N)), (4, .inl (Int32.ofInt (-1)))]) (S' := [.inr (.inr (.inl (some 220)))]) (h' := h) (by with_unfolding_all rfl) ?_
  refine kx_getf (c := 220) (v := .inr (.inr (.inl (some 204)))) rfl (by decide) (kx_ofr (hw _ _ _ fs_k220_1)) ?_
  refine kx_getf (c := 204) (v := .inr (.inr (.inl (some 208)))) rfl (by decide) (kx_ofr (hw _ _ _ fs_k204_6)) ?_
  refine kx_go 1 (pc' := 16) (L' := [(5, .inl (Int32.ofNat cl)), (0, .inr (.inr (.inl (some 220)))), (1, .inl (Int32.ofNat l)), (2, .inl (Int32.ofNat P)), (3, .inl (Int32.ofNat N)), (4, .inl (Int32.ofInt (-1)))]) (S' := [.inl (Int32.ofNat l), .inr (.inr (.inl (some 208)))]) (h' := h) (by with_unfolding_all rfl) ?_
  refine kx_aald rfl (c := 208) (j := l) (m := 10) (t0 := 2) (v := .inr (.inr (.inl (some (209 + l))))) rfl (by decide) (by decide) (by decide) (by omega) (kx_ofr (hw _ _ _ (fs_k208 l (by omega)).2)) ?_
  refine kx_go 3 (pc' := 22) (L' := [(7, .inl (Int32.ofNat P)), (6, .inr (.inr (.inl (some (209 + l))))), (5, .inl (Int32.ofNat cl)), (0, .inr (.inr (.inl (some 220)))), (1, .inl (Int32.ofNat l)), (2, .inl (Int32.ofNat P)), (3, .inl (Int32.ofNat N)), (4, .inl (Int32.ofInt (-1)))]) (S' := []) (h' := h) (by with_unfolding_all rfl) ?_
  refine kf_lo (L := [(7, .inl (Int32.ofNat P)), (6, .inr (.inr (.inl (some (209 + l))))), (5, .inl (Int32.ofNat cl)), (0, .inr (.inr (.inl (some 220)))), (1, .inl (Int32.ofNat l)), (2, .inl (Int32.ofNat P)), (3, .inl (Int32.ofNat N)), (4, .inl (Int32.ofInt (-1)))]) (by intro q hq; simp only [List.mem_cons, List.not_mem_nil, or_false] at hq; rcases hq with rfl | rfl | rfl | rfl | rfl | rfl | rfl | rfl <;> rfl) ?_
  refine fs_g205dl (h0 := h) hb hl hc6 hN hX hY (N - P) P h rfl (Nat.le_refl _) hP hw hG (fs_bq_e (fun j hj s hs => ?_) hbo) (fun a x _ => rfl)
  rw [if_neg (show ¬ (P ≤ j ∧ j < P) by omega), if_neg (show ¬ (P ≤ j ∧ j < P) by omega)]
  exact ⟨rfl, rfl⟩
theorem fs_evl {B : Nat → Int32} (hB : fu_BT B) {m : Nat} (hm : m < 3) : fs_ev B m ≤ 99 := (fa_nm (e := 1) hB hm (by decide) (by decide) (fa_tm m hm).2.1).2
theorem fs_si {a b : Nat} (ha : a ≤ 990) (hb : b ≤ 990) : (-(Int32.ofNat a - Int32.ofNat b)).toInt = (b : Int) - (a : Int) := by
  rw [Int32.neg_sub]
  exact fh_si (by omega) (by omega)
set_option maxRecDepth 20000 in
theorem fs_c209l {g : kc_G} {d : Nat} {h : kc_H} {B : Nat → Int32} {X Y : Nat → Nat → Nat} {n m : Nat} (hw : kd_wt kd_ty h) (hB : fu_BT B) (hn : n ≤ 5) (hn1 : h 204 1 = .inl (Int32.ofNat n)) (hm : m < 3) (hXl : ∀ i s, X i s ≤ 990) (hbo : fs_bq X Y h) : ∀ (u i : Nat), n - i = u → i ≤ n → (∀ j, j < i → ms_d (X j (2 * m)) (X j (2 * m + 1)) ≤ fs_ev B m) → kc_Ev g d wk_m209 (fun rv h' => rv = some (.inl (kp_b (ms_all (fun i => decide (ms_d (X i (2 * m)) (X i (2 * m + 1)) ≤ fs_ev B m)) n))) ∧ h' = h) 14 [(3, .inl (Int32.ofNat i)), (2, .inl (Int32.ofNat (fs_ev B m))), (0, .inr (.inr (.inl (some 220)))), (1, .inl (Int32.ofNat m))] [] h := by
  have evl := fs_evl hB hm
  intro u
  induction u with
  | zero =>
    intro i hu hi hok
    refine kx_go 2 (pc' := 16) (L' := [(3, .inl (Int32.ofNat i)), (2, .inl (Int32.ofNat (fs_ev B m))), (0, .inr (.inr (.inl (some 220)))), (1, .inl (Int32.ofNat m))]) (S' := [.inr (.inr (.inl (some 220))), .inl (Int32.ofNat i)]) (h' := h) (by with_unfolding_all rfl) ?_
    refine kx_getf (c := 220) (v := .inr (.inr (.inl (some 204)))) rfl (by decide) (kx_ofr (hw _ _ _ fs_k220_1)) ?_
    refine kx_getf (c := 204) (v := .inl (Int32.ofNat n)) rfl (by decide) hn1 ?_
    refine kx_go 1 (pc' := (if kc_cnd .ge (Int32.ofNat i).toInt (Int32.ofNat n).toInt then 71 else 25)) (L' := [(3, .inl (Int32.ofNat i)), (2, .inl (Int32.ofNat (fs_ev B m))), (0, .inr (.inr (.inl (some 220)))), (1, .inl (Int32.ofNat m))]) (S' := []) (h' := h) (by with_unfolding_all rfl) ?_
    rw [if_pos ((kx_ge (by omega) (by omega)).mpr (by omega)), show ms_all (fun i => decide (ms_d (X i (2 * m)) (X i (2 * m + 1)) ≤ fs_ev B m)) n = true from (ms_all_iff n).mpr (fun j hj => decide_eq_true (hok j (by omega)))]
    refine kx_go 1 (pc' := 72) (L' := [(3, .inl (Int32.ofNat i)), (2, .inl (Int32.ofNat (fs_ev B m))), (0, .inr (.inr (.inl (some 220)))), (1, .inl (Int32.ofNat m))]) (S' := [.inl (Int32.ofNat 1)]) (h' := h) (by with_unfolding_all rfl) ?_
    exact kc_ret_ok rfl (rv := some (.inl (Int32.ofNat 1))) rfl ⟨rfl, rfl⟩
  | succ u ih =>
    intro i hu hi hok
    refine kx_go 2 (pc' := 16) (L' := [(3, .inl (Int32.ofNat i)), (2, .inl (Int32.ofNat (fs_ev B m))), (0, .inr (.inr (.inl (some 220)))), (1, .inl (Int32.ofNat m))]) (S' := [.inr (.inr (.inl (some 220))), .inl (Int32.ofNat i)]) (h' := h) (by with_unfolding_all rfl) ?_
    refine kx_getf (c := 220) (v := .inr (.inr (.inl (some 204)))) rfl (by decide) (kx_ofr (hw _ _ _ fs_k220_1)) ?_
    refine kx_getf (c := 204) (v := .inl (Int32.ofNat n)) rfl (by decide) hn1 ?_
    refine kx_go 1 (pc' := (if kc_cnd .ge (Int32.ofNat i).toInt (Int32.ofNat n).toInt then 71 else 25)) (L' := [(3, .inl (Int32.ofNat i)), (2, .inl (Int32.ofNat (fs_ev B m))), (0, .inr (.inr (.inl (some 220)))), (1, .inl (Int32.ofNat m))]) (S' := []) (h' := h) (by with_unfolding_all rfl) ?_
    rw [if_neg (fun q => by have := (kx_ge (by omega) (by omega)).mp q; omega)]
    have b0 := (hbo i (by omega) (2 * m) (by omega)).1
    have b1 := (hbo i (by omega) (2 * m + 1) (by omega)).1
    have l0 := hXl i (2 * m)
    have l1 := hXl i (2 * m + 1)
    have t0 := fh_si (a := X i (2 * m)) (b := X i (2 * m + 1)) (by omega) (by omega)
    have t1 := fs_si l0 l1
    refine kx_go 1 (pc' := 26) (L' := [(3, .inl (Int32.ofNat i)), (2, .inl (Int32.ofNat (fs_ev B m))), (0, .inr (.inr (.inl (some 220)))), (1, .inl (Int32.ofNat m))]) (S' := [.inr (.inr (.inl (some 220)))]) (h' := h) (by with_unfolding_all rfl) ?_
    refine kx_getf (c := 220) (v := .inr (.inr (.inl (some 224)))) rfl (by decide) (kx_ofr (hw _ _ _ fs_k220_9)) ?_
    refine kx_go 1 (pc' := 30) (L' := [(3, .inl (Int32.ofNat i)), (2, .inl (Int32.ofNat (fs_ev B m))), (0, .inr (.inr (.inl (some 220)))), (1, .inl (Int32.ofNat m))]) (S' := [.inl (Int32.ofNat i), .inr (.inr (.inl (some 224)))]) (h' := h) (by with_unfolding_all rfl) ?_
    refine kx_aald rfl (c := 224) (j := i) (m := 5) (t0 := 2) (v := .inr (.inr (.inl (some (225 + i))))) rfl (by decide) (by decide) (by decide) (by omega) (kx_ofr (hw _ _ _ (fs_k224 i (by omega)).2)) ?_
    refine kx_go 3 (pc' := 34) (L' := [(3, .inl (Int32.ofNat i)), (2, .inl (Int32.ofNat (fs_ev B m))), (0, .inr (.inr (.inl (some 220)))), (1, .inl (Int32.ofNat m))]) (S' := [.inl ((Int32.ofNat 2) * (Int32.ofNat m)), .inr (.inr (.inl (some (225 + i))))]) (h' := h) (by with_unfolding_all rfl) ?_
    rw [kx_mul]
    refine kx_iald (c := 225 + i) (j := 2 * m) (m := 6) (v := .inl (Int32.ofNat (X i (2 * m)))) rfl (fs_k224 i (by omega)).1.1 (fs_k224 i (by omega)).1.2 (by decide) (by omega) b0 ?_
    refine kx_go 1 (pc' := 36) (L' := [(3, .inl (Int32.ofNat i)), (2, .inl (Int32.ofNat (fs_ev B m))), (0, .inr (.inr (.inl (some 220)))), (1, .inl (Int32.ofNat m))]) (S' := [.inr (.inr (.inl (some 220))), .inl (Int32.ofNat (X i (2 * m)))]) (h' := h) (by with_unfolding_all rfl) ?_
    refine kx_getf (c := 220) (v := .inr (.inr (.inl (some 224)))) rfl (by decide) (kx_ofr (hw _ _ _ fs_k220_9)) ?_
    refine kx_go 1 (pc' := 40) (L' := [(3, .inl (Int32.ofNat i)), (2, .inl (Int32.ofNat (fs_ev B m))), (0, .inr (.inr (.inl (some 220)))), (1, .inl (Int32.ofNat m))]) (S' := [.inl (Int32.ofNat i), .inr (.inr (.inl (some 224))), .inl (Int32.ofNat (X i (2 * m)))]) (h' := h) (by with_unfolding_all rfl) ?_
    refine kx_aald rfl (c := 224) (j := i) (m := 5) (t0 := 2) (v := .inr (.inr (.inl (some (225 + i))))) rfl (by decide) (by decide) (by decide) (by omega) (kx_ofr (hw _ _ _ (fs_k224 i (by omega)).2)) ?_
    refine kx_go 5 (pc' := 46) (L' := [(3, .inl (Int32.ofNat i)), (2, .inl (Int32.ofNat (fs_ev B m))), (0, .inr (.inr (.inl (some 220)))), (1, .inl (Int32.ofNat m))]) (S' := [.inl (((Int32.ofNat 2) * (Int32.ofNat m)) + (Int32.ofNat 1)), .inr (.inr (.inl (some (225 + i)))), .inl (Int32.ofNat (X i (2 * m)))]) (h' := h) (by with_unfolding_all rfl) ?_
    rw [kx_mul, kx_add]
    refine kx_iald (c := 225 + i) (j := 2 * m + 1) (m := 6) (v := .inl (Int32.ofNat (X i (2 * m + 1)))) rfl (fs_k224 i (by omega)).1.1 (fs_k224 i (by omega)).1.2 (by decide) (by omega) b1 ?_
    refine kx_go 5 (pc' := (if kc_cnd .gt ((Int32.ofNat (X i (2 * m))) - (Int32.ofNat (X i (2 * m + 1)))).toInt (Int32.ofNat (fs_ev B m)).toInt then 63 else 56)) (L' := [(4, .inl ((Int32.ofNat (X i (2 * m))) - (Int32.ofNat (X i (2 * m + 1))))), (3, .inl (Int32.ofNat i)), (2, .inl (Int32.ofNat (fs_ev B m))), (0, .inr (.inr (.inl (some 220)))), (1, .inl (Int32.ofNat m))]) (S' := []) (h' := h) (by with_unfolding_all rfl) ?_
    have no : ¬ ms_d (X i (2 * m)) (X i (2 * m + 1)) ≤ fs_ev B m → kc_Ev g d wk_m209 (fun rv h' => rv = some (.inl (kp_b (ms_all (fun i => decide (ms_d (X i (2 * m)) (X i (2 * m + 1)) ≤ fs_ev B m)) n))) ∧ h' = h) 63 [(4, .inl ((Int32.ofNat (X i (2 * m))) - (Int32.ofNat (X i (2 * m + 1))))), (3, .inl (Int32.ofNat i)), (2, .inl (Int32.ofNat (fs_ev B m))), (0, .inr (.inr (.inl (some 220)))), (1, .inl (Int32.ofNat m))] [] h := by
      intro q
      rw [show ms_all (fun i => decide (ms_d (X i (2 * m)) (X i (2 * m + 1)) ≤ fs_ev B m)) n = false from fs_all_no (show i < n by omega) (fun z => q (of_decide_eq_true z))]
      refine kx_go 1 (pc' := 64) (L' := [(4, .inl ((Int32.ofNat (X i (2 * m))) - (Int32.ofNat (X i (2 * m + 1))))), (3, .inl (Int32.ofNat i)), (2, .inl (Int32.ofNat (fs_ev B m))), (0, .inr (.inr (.inl (some 220)))), (1, .inl (Int32.ofNat m))]) (S' := [.inl (Int32.ofNat 0)]) (h' := h) (by with_unfolding_all rfl) ?_
      exact kc_ret_ok rfl (rv := some (.inl (Int32.ofNat 0))) rfl ⟨rfl, rfl⟩
    by_cases c1 : X i (2 * m) ≤ X i (2 * m + 1) + fs_ev B m
    · rw [if_neg (fun q => by have := fu_igt.mp q; rw [t0, kx_ti (by omega)] at this; omega)]
      refine kx_go 4 (pc' := (if kc_cnd .le (-((Int32.ofNat (X i (2 * m))) - (Int32.ofNat (X i (2 * m + 1))))).toInt (Int32.ofNat (fs_ev B m)).toInt then 65 else 63)) (L' := [(4, .inl ((Int32.ofNat (X i (2 * m))) - (Int32.ofNat (X i (2 * m + 1))))), (3, .inl (Int32.ofNat i)), (2, .inl (Int32.ofNat (fs_ev B m))), (0, .inr (.inr (.inl (some 220)))), (1, .inl (Int32.ofNat m))]) (S' := []) (h' := h) (by with_unfolding_all rfl) ?_
      by_cases c2 : X i (2 * m + 1) ≤ X i (2 * m) + fs_ev B m
      · rw [if_pos (fu_ile.mpr (by rw [t1, kx_ti (by omega)]; omega))]
        refine kx_go 2 (pc' := 14) (L' := [(3, .inl ((Int32.ofNat i) + Int32.ofInt 1)), (4, .inl ((Int32.ofNat (X i (2 * m))) - (Int32.ofNat (X i (2 * m + 1))))), (2, .inl (Int32.ofNat (fs_ev B m))), (0, .inr (.inr (.inl (some 220)))), (1, .inl (Int32.ofNat m))]) (S' := []) (h' := h) (by with_unfolding_all rfl) ?_
        rw [kx_inc]
        refine kf_lo (L := [(3, .inl (Int32.ofNat (i + 1))), (2, .inl (Int32.ofNat (fs_ev B m))), (0, .inr (.inr (.inl (some 220)))), (1, .inl (Int32.ofNat m))]) (by intro q hq; simp only [List.mem_cons, List.not_mem_nil, or_false] at hq; rcases hq with rfl | rfl | rfl | rfl <;> rfl) ?_
        exact ih (i + 1) (by omega) (by omega) (fun j hj => by
          by_cases e : j = i
          · rw [e]; unfold ms_d; omega
          · exact hok j (by omega))
      · rw [if_neg (fun q => (fu_ile.mp q) (by rw [t1, kx_ti (by omega)]; omega))]
        exact no (by unfold ms_d; omega)
    · rw [if_pos (fu_igt.mpr (by rw [t0, kx_ti (by omega)]; omega))]
      exact no (by unfold ms_d; omega)
set_option maxRecDepth 20000 in
theorem fs_c209 {g : kc_G} {d : Nat} {h : kc_H} {B : Nat → Int32} {X Y : Nat → Nat → Nat} {n m : Nat} (hg : kc_ok g) (hC : fu_C B 1 h) (hw : kd_wt kd_ty h) (hB : fu_BT B) (hn : n ≤ 5) (hn1 : h 204 1 = .inl (Int32.ofNat n)) (hm : m < 3) (hXl : ∀ i s, X i s ≤ 990) (hbo : fs_bq X Y h) : kc_Con g (d + 1) 209 [.inr (.inr (.inl (some 220))), .inl (Int32.ofNat m)] h (fun rv h' => rv = some (.inl (kp_b (ms_all (fun i => decide (ms_d (X i (2 * m)) (X i (2 * m + 1)) ≤ fs_ev B m)) n))) ∧ h' = h) := by
  have u1 := fs_mu hC hB hm (show 1 < 5 by decide)
  refine kc_Con_new hg (M := wk_m209) rfl rfl rfl (show 2 ≤ 5 by decide) ?_
  refine kx_go 1 (pc' := 1) (L' := [(0, .inr (.inr (.inl (some 220)))), (1, .inl (Int32.ofNat m))]) (S' := [.inr (.inr (.inl (some 220)))]) (h' := h) (by with_unfolding_all rfl) ?_
  refine kx_getf (c := 220) (v := .inr (.inr (.inl (some 1)))) rfl (by decide) (kx_ofr (hw _ _ _ fs_k220_0)) ?_
  refine kx_getf (c := 1) (v := .inr (.inr (.inl (some 11)))) rfl (by decide) (kx_ofr (hw _ _ _ fs_k1_7)) ?_
  refine kx_go 1 (pc' := 8) (L' := [(0, .inr (.inr (.inl (some 220)))), (1, .inl (Int32.ofNat m))]) (S' := [.inl (Int32.ofNat m), .inr (.inr (.inl (some 11)))]) (h' := h) (by with_unfolding_all rfl) ?_
  refine kx_aald rfl (c := 11) (j := m) (m := 3) (t0 := 2) (v := .inr (.inr (.inl (some (1 + (11 + m)))))) rfl (by decide) (by decide) (by decide) (by omega) (kx_ofr (hw _ _ _ (fu_smu m (by omega)).2)) ?_
  refine kx_go 1 (pc' := 10) (L' := [(0, .inr (.inr (.inl (some 220)))), (1, .inl (Int32.ofNat m))]) (S' := [.inl (Int32.ofNat 1), .inr (.inr (.inl (some (1 + (11 + m)))))]) (h' := h) (by with_unfolding_all rfl) ?_
  refine kx_iald (c := 1 + (11 + m)) (j := 1) (m := 5) (v := .inl (Int32.ofNat (fs_ev B m))) rfl (fu_smu m (by omega)).1.1 (fu_smu m (by omega)).1.2 (by decide) (by omega) u1.1 ?_
  refine kx_go 3 (pc' := 14) (L' := [(3, .inl (Int32.ofNat 0)), (2, .inl (Int32.ofNat (fs_ev B m))), (0, .inr (.inr (.inl (some 220)))), (1, .inl (Int32.ofNat m))]) (S' := []) (h' := h) (by with_unfolding_all rfl) ?_
  exact fs_c209l hw hB hn hn1 hm hXl hbo n 0 (by omega) (by omega) (fun j hj => by omega)
theorem fs_inn {a lo hi : Nat} (ha : a < 2147483648) : fu_in (Int32.ofNat a) (lo : Int) (hi : Int) = (decide (lo ≤ a) && decide (a ≤ hi)) := by
  unfold fu_in
  rw [kx_ti ha, Bool.eq_iff_iff, Bool.and_eq_true, decide_eq_true_eq, decide_eq_true_eq, decide_eq_true_eq]
  omega
set_option maxRecDepth 20000 in
theorem fs_c224 {g : kc_G} {d : Nat} {h : kc_H} {B : Nat → Int32} {F E : Nat → Nat} {co : Nat → Bool} {W : Nat → Nat → Nat} {L n : Nat} {l : Nat} (hg : kc_ok g) (hw : kd_wt kd_ty h) (hC : fu_C B 1 h) (hB : fu_BT B) (hb : fs_Gb F E co W L n) (hG : fs_G F E co W L n h) (hl : l < L) : kc_Con g (d + 2) 224 [.inr (.inr (.inl (some 204))), .inl (Int32.ofNat l)] h (fun rv h' => rv = some (.inl (kp_b (mk_is co (fs_as B) l))) ∧ h' = h) := by
  have asl := fs_asl hB l
  have kl := hb.2.2.1 l hl
  have hn := hb.1
  have hL := hb.2.1
  have hl10 : l < 10 := by omega
  have u4 := fs_asC hC hB hl10
  refine kc_Con_new hg (M := wk_m224) rfl rfl rfl (show 2 ≤ 2 by decide) ?_
  by_cases c : co l = true
  · have e6 : h 207 l = .inl (Int32.ofNat (E l)) := (hG.2.2.1 l hl).trans (by rw [if_pos c])
    refine kx_go 1 (pc' := 1) (L' := [(0, .inr (.inr (.inl (some 204)))), (1, .inl (Int32.ofNat l))]) (S' := [.inr (.inr (.inl (some 204)))]) (h' := h) (by with_unfolding_all rfl) ?_
    refine kx_getf (c := 204) (v := .inr (.inr (.inl (some 207)))) rfl (by decide) (kx_ofr (hw _ _ _ fs_k204_5)) ?_
    refine kx_go 1 (pc' := 5) (L' := [(0, .inr (.inr (.inl (some 204)))), (1, .inl (Int32.ofNat l))]) (S' := [.inl (Int32.ofNat l), .inr (.inr (.inl (some 207)))]) (h' := h) (by with_unfolding_all rfl) ?_
    refine kx_iald (c := 207) (j := l) (m := 10) (v := .inl (Int32.ofNat (E l))) rfl rfl (by decide) (by decide) (by omega) e6 ?_
    refine kx_go 2 (pc' := (if kc_cnd .eq (Int32.ofNat (E l)).toInt (Int32.ofInt (-1)).toInt then 34 else 10)) (L' := [(0, .inr (.inr (.inl (some 204)))), (1, .inl (Int32.ofNat l))]) (S' := []) (h' := h) (by with_unfolding_all rfl) ?_
    rw [if_neg (kx_nm1 (by omega))]
    refine kx_go 1 (pc' := 11) (L' := [(0, .inr (.inr (.inl (some 204)))), (1, .inl (Int32.ofNat l))]) (S' := [.inr (.inr (.inl (some 204)))]) (h' := h) (by with_unfolding_all rfl) ?_
    refine kx_getf (c := 204) (v := .inr (.inr (.inl (some 1)))) rfl (by decide) (kx_ofr (hw _ _ _ fs_k204_0)) ?_
    refine kx_getf (c := 1) (v := .inr (.inr (.inl (some 15)))) rfl (by decide) (kx_ofr (hw _ _ _ fs_k1_8)) ?_
    refine kx_go 1 (pc' := 18) (L' := [(0, .inr (.inr (.inl (some 204)))), (1, .inl (Int32.ofNat l))]) (S' := [.inl (Int32.ofNat l), .inr (.inr (.inl (some 15)))]) (h' := h) (by with_unfolding_all rfl) ?_
    refine kx_aald rfl (c := 15) (j := l) (m := 10) (t0 := 2) (v := .inr (.inr (.inl (some (1 + (15 + l)))))) rfl (by decide) (by decide) (by decide) (by omega) (kx_ofr (hw _ _ _ (fu_slo l (by omega)).2)) ?_
    refine kx_go 1 (pc' := 20) (L' := [(0, .inr (.inr (.inl (some 204)))), (1, .inl (Int32.ofNat l))]) (S' := [.inl (Int32.ofNat 4), .inr (.inr (.inl (some (1 + (15 + l)))))]) (h' := h) (by with_unfolding_all rfl) ?_
    refine kx_iald (c := 1 + (15 + l)) (j := 4) (m := 7) (v := .inl (Int32.ofNat (fs_as B l))) rfl (fu_slo l (by omega)).1.1 (fu_slo l (by omega)).1.2 (by decide) (by omega) u4 ?_
    refine kx_go 2 (pc' := 24) (L' := [(0, .inr (.inr (.inl (some 204)))), (1, .inl (Int32.ofNat l))]) (S' := [.inl (Int32.ofNat 99), .inl (Int32.ofNat 1), .inl (Int32.ofNat (fs_as B l))]) (h' := h) (by with_unfolding_all rfl) ?_
    refine kc_call_rule (M2 := wk_m19) (av := [.inl (Int32.ofNat (fs_as B l)), .inl (Int32.ofNat 1), .inl (Int32.ofNat 99)]) (r := []) rfl rfl (kc_Con_le (fu_bt (d := d) (lo := ((1 : Nat) : Int)) (hi := ((99 : Nat) : Int)) hg rfl rfl) (by omega)) (fun rv hcc hq => ?_)
    obtain ⟨rfl, e9⟩ := hq
    rw [e9]
    clear e9
    rw [fs_inn (by omega), show (decide (1 ≤ fs_as B l) && decide (fs_as B l ≤ 99)) = mk_is co (fs_as B) l from by unfold mk_is; rw [c, Bool.true_and]]
    show kc_Ev g (d + 1) wk_m224 _ 27 [(0, .inr (.inr (.inl (some 204)))), (1, .inl (Int32.ofNat l))] [.inl (kp_b (mk_is co (fs_as B) l))] h
    refine kx_go 1 (pc' := (if kc_cnd .eq (kp_b (mk_is co (fs_as B) l)).toInt 0 then 34 else 30)) (L' := [(0, .inr (.inr (.inl (some 204)))), (1, .inl (Int32.ofNat l))]) (S' := []) (h' := h) (by with_unfolding_all rfl) ?_
    cases e : mk_is co (fs_as B) l with
    | true =>
      rw [if_neg fa_b0t]
      refine kx_go 2 (pc' := 35) (L' := [(0, .inr (.inr (.inl (some 204)))), (1, .inl (Int32.ofNat l))]) (S' := [.inl (Int32.ofNat 1)]) (h' := h) (by with_unfolding_all rfl) ?_
      exact kc_ret_ok rfl (rv := some (.inl (Int32.ofNat 1))) rfl ⟨rfl, rfl⟩
    | false =>
      rw [if_pos (kx_b0.mpr rfl)]
      refine kx_go 1 (pc' := 35) (L' := [(0, .inr (.inr (.inl (some 204)))), (1, .inl (Int32.ofNat l))]) (S' := [.inl (Int32.ofNat 0)]) (h' := h) (by with_unfolding_all rfl) ?_
      exact kc_ret_ok rfl (rv := some (.inl (Int32.ofNat 0))) rfl ⟨rfl, rfl⟩
  · have e6 : h 207 l = .inl (Int32.ofInt (-1)) := (hG.2.2.1 l hl).trans (by rw [if_neg c])
    refine kx_go 1 (pc' := 1) (L' := [(0, .inr (.inr (.inl (some 204)))), (1, .inl (Int32.ofNat l))]) (S' := [.inr (.inr (.inl (some 204)))]) (h' := h) (by with_unfolding_all rfl) ?_
    refine kx_getf (c := 204) (v := .inr (.inr (.inl (some 207)))) rfl (by decide) (kx_ofr (hw _ _ _ fs_k204_5)) ?_
    refine kx_go 1 (pc' := 5) (L' := [(0, .inr (.inr (.inl (some 204)))), (1, .inl (Int32.ofNat l))]) (S' := [.inl (Int32.ofNat l), .inr (.inr (.inl (some 207)))]) (h' := h) (by with_unfolding_all rfl) ?_
    refine kx_iald (c := 207) (j := l) (m := 10) (v := .inl (Int32.ofInt (-1))) rfl rfl (by decide) (by decide) (by omega) e6 ?_
    refine kx_go 2 (pc' := (if kc_cnd .eq (Int32.ofInt (-1)).toInt (Int32.ofInt (-1)).toInt then 34 else 10)) (L' := [(0, .inr (.inr (.inl (some 204)))), (1, .inl (Int32.ofNat l))]) (S' := []) (h' := h) (by with_unfolding_all rfl) ?_
    rw [if_pos kx_m1, show mk_is co (fs_as B) l = false from by unfold mk_is; rw [Bool.eq_false_iff.mpr c, Bool.false_and]]
    refine kx_go 1 (pc' := 35) (L' := [(0, .inr (.inr (.inl (some 204)))), (1, .inl (Int32.ofNat l))]) (S' := [.inl (Int32.ofNat 0)]) (h' := h) (by with_unfolding_all rfl) ?_
    exact kc_ret_ok rfl (rv := some (.inl (Int32.ofNat 0))) rfl ⟨rfl, rfl⟩
theorem mk_k_b {co : Nat → Bool} {as : Nat → Nat} : ∀ l, mk_k co as l ≤ l
  | 0 => Nat.le_refl _
  | l + 1 => by
    have := mk_k_b (co := co) (as := as) l
    show mk_k co as l + (if mk_is co as l = true then 1 else 0) ≤ l + 1
    by_cases e : mk_is co as l = true
    · rw [if_pos e]; omega
    · rw [if_neg e]; omega
set_option maxRecDepth 20000 in
theorem fs_c140l {g : kc_G} {d : Nat} {h : kc_H} {B : Nat → Int32} {F E : Nat → Nat} {co : Nat → Bool} {W : Nat → Nat → Nat} {L n : Nat} (hg : kc_ok g) (hw : kd_wt kd_ty h) (hC : fu_C B 1 h) (hB : fu_BT B) (hb : fs_Gb F E co W L n) (hG : fs_G F E co W L n h) (eL : B 2 = Int32.ofNat L) : ∀ (u l : Nat), L - l = u → l ≤ L → kc_Ev g (d + 2) wk_m140 (fun rv h' => rv = some (.inl (Int32.ofNat (mk_k co (fs_as B) L))) ∧ h' = h) 4 [(2, .inl (Int32.ofNat l)), (1, .inl (Int32.ofNat (mk_k co (fs_as B) l))), (0, .inr (.inr (.inl (some 204))))] [] h := by
  have hL := hb.2.1
  intro u
  induction u with
  | zero =>
    intro l hu hl
    refine kx_go 2 (pc' := 6) (L' := [(2, .inl (Int32.ofNat l)), (1, .inl (Int32.ofNat (mk_k co (fs_as B) l))), (0, .inr (.inr (.inl (some 204))))]) (S' := [.inr (.inr (.inl (some 204))), .inl (Int32.ofNat l)]) (h' := h) (by with_unfolding_all rfl) ?_
    refine kx_getf (c := 204) (v := .inr (.inr (.inl (some 1)))) rfl (by decide) (kx_ofr (hw _ _ _ fs_k204_0)) ?_
    refine kx_getf (c := 1) (v := .inl (Int32.ofNat L)) rfl (by decide) ((fu_C0 hC).2.2.1.trans (by rw [eL])) ?_
    refine kx_go 1 (pc' := (if kc_cnd .ge (Int32.ofNat l).toInt (Int32.ofNat L).toInt then 32 else 15)) (L' := [(2, .inl (Int32.ofNat l)), (1, .inl (Int32.ofNat (mk_k co (fs_as B) l))), (0, .inr (.inr (.inl (some 204))))]) (S' := []) (h' := h) (by with_unfolding_all rfl) ?_
    rw [if_pos ((kx_ge (by omega) (by omega)).mpr (by omega))]
    have el : l = L := by omega
    rw [el]
    refine kx_go 1 (pc' := 33) (L' := [(2, .inl (Int32.ofNat L)), (1, .inl (Int32.ofNat (mk_k co (fs_as B) L))), (0, .inr (.inr (.inl (some 204))))]) (S' := [.inl (Int32.ofNat (mk_k co (fs_as B) L))]) (h' := h) (by with_unfolding_all rfl) ?_
    exact kc_ret_ok rfl (rv := some (.inl (Int32.ofNat (mk_k co (fs_as B) L)))) rfl ⟨rfl, rfl⟩
  | succ u ih =>
    intro l hu hl
    refine kx_go 2 (pc' := 6) (L' := [(2, .inl (Int32.ofNat l)), (1, .inl (Int32.ofNat (mk_k co (fs_as B) l))), (0, .inr (.inr (.inl (some 204))))]) (S' := [.inr (.inr (.inl (some 204))), .inl (Int32.ofNat l)]) (h' := h) (by with_unfolding_all rfl) ?_
    refine kx_getf (c := 204) (v := .inr (.inr (.inl (some 1)))) rfl (by decide) (kx_ofr (hw _ _ _ fs_k204_0)) ?_
    refine kx_getf (c := 1) (v := .inl (Int32.ofNat L)) rfl (by decide) ((fu_C0 hC).2.2.1.trans (by rw [eL])) ?_
    refine kx_go 1 (pc' := (if kc_cnd .ge (Int32.ofNat l).toInt (Int32.ofNat L).toInt then 32 else 15)) (L' := [(2, .inl (Int32.ofNat l)), (1, .inl (Int32.ofNat (mk_k co (fs_as B) l))), (0, .inr (.inr (.inl (some 204))))]) (S' := []) (h' := h) (by with_unfolding_all rfl) ?_
    rw [if_neg (fun q => by have := (kx_ge (by omega) (by omega)).mp q; omega)]
    have ek : mk_k co (fs_as B) (l + 1) = mk_k co (fs_as B) l + (if mk_is co (fs_as B) l = true then 1 else 0) := rfl
    refine kx_go 2 (pc' := 17) (L' := [(2, .inl (Int32.ofNat l)), (1, .inl (Int32.ofNat (mk_k co (fs_as B) l))), (0, .inr (.inr (.inl (some 204))))]) (S' := [.inl (Int32.ofNat l), .inr (.inr (.inl (some 204)))]) (h' := h) (by with_unfolding_all rfl) ?_
    refine kc_call_rule (M2 := wk_m224) (av := [.inr (.inr (.inl (some 204))), .inl (Int32.ofNat l)]) (r := []) rfl rfl (kc_Con_le (fs_c224 (d := d) hg hw hC hB hb hG (show l < L by omega)) (by omega)) (fun rv hcc hq => ?_)
    obtain ⟨rfl, e9⟩ := hq
    rw [e9]
    clear e9
    show kc_Ev g (d + 2) wk_m140 _ 20 [(2, .inl (Int32.ofNat l)), (1, .inl (Int32.ofNat (mk_k co (fs_as B) l))), (0, .inr (.inr (.inl (some 204))))] [.inl (kp_b (mk_is co (fs_as B) l))] h
    refine kx_go 1 (pc' := (if kc_cnd .eq (kp_b (mk_is co (fs_as B) l)).toInt 0 then 26 else 23)) (L' := [(2, .inl (Int32.ofNat l)), (1, .inl (Int32.ofNat (mk_k co (fs_as B) l))), (0, .inr (.inr (.inl (some 204))))]) (S' := []) (h' := h) (by with_unfolding_all rfl) ?_
    cases e : mk_is co (fs_as B) l with
    | true =>
      rw [if_neg fa_b0t]
      rw [if_pos e] at ek
      refine kx_go 3 (pc' := 4) (L' := [(2, .inl ((Int32.ofNat l) + Int32.ofInt 1)), (1, .inl ((Int32.ofNat (mk_k co (fs_as B) l)) + Int32.ofInt 1)), (0, .inr (.inr (.inl (some 204))))]) (S' := []) (h' := h) (by with_unfolding_all rfl) ?_
      rw [kx_inc, kx_inc, ← ek]
      refine kf_lo (L := [(2, .inl (Int32.ofNat (l + 1))), (1, .inl (Int32.ofNat (mk_k co (fs_as B) (l + 1)))), (0, .inr (.inr (.inl (some 204))))]) (by intro q hq; simp only [List.mem_cons, List.not_mem_nil, or_false] at hq; rcases hq with rfl | rfl | rfl <;> rfl) ?_
      exact ih (l + 1) (by omega) (by omega)
    | false =>
      rw [if_pos (kx_b0.mpr rfl)]
      rw [if_neg (by rw [e]; decide)] at ek
      have ek : mk_k co (fs_as B) (l + 1) = mk_k co (fs_as B) l := ek
      refine kx_go 2 (pc' := 4) (L' := [(2, .inl ((Int32.ofNat l) + Int32.ofInt 1)), (1, .inl (Int32.ofNat (mk_k co (fs_as B) l))), (0, .inr (.inr (.inl (some 204))))]) (S' := []) (h' := h) (by with_unfolding_all rfl) ?_
      rw [kx_inc, ← ek]
      exact ih (l + 1) (by omega) (by omega)
set_option maxRecDepth 20000 in
theorem fs_c140 {g : kc_G} {d : Nat} {h : kc_H} {B : Nat → Int32} {F E : Nat → Nat} {co : Nat → Bool} {W : Nat → Nat → Nat} {L n : Nat} (hg : kc_ok g) (hw : kd_wt kd_ty h) (hC : fu_C B 1 h) (hB : fu_BT B) (hb : fs_Gb F E co W L n) (hG : fs_G F E co W L n h) (eL : B 2 = Int32.ofNat L) : kc_Con g (d + 3) 140 [.inr (.inr (.inl (some 204)))] h (fun rv h' => rv = some (.inl (Int32.ofNat (mk_k co (fs_as B) L))) ∧ h' = h) := by
  refine kc_Con_new hg (M := wk_m140) rfl rfl rfl (show 1 ≤ 3 by decide) ?_
  refine kx_go 4 (pc' := 4) (L' := [(2, .inl (Int32.ofNat 0)), (1, .inl (Int32.ofNat 0)), (0, .inr (.inr (.inl (some 204))))]) (S' := []) (h' := h) (by with_unfolding_all rfl) ?_
  exact fs_c140l hg hw hC hB hb hG eL L 0 (by omega) (by omega)
theorem fs_jm {a b : Nat} : Int64.ofNat a * Int64.ofNat b = Int64.ofNat (a * b) := (Int64.ofNat_mul a b).symm
theorem fs_ja {a b : Nat} : Int64.ofNat a + Int64.ofNat b = Int64.ofNat (a + b) := (Int64.ofNat_add a b).symm
set_option maxRecDepth 20000 in
theorem fs_c142l {g : kc_G} {d : Nat} {h : kc_H} {K : Nat} : ∀ (k j : Nat), j + k = K → k ≤ 10 → kc_Ev g d wk_m142 (fun rv h' => rv = some (.inr (.inl (Int64.ofNat (100 ^ K)))) ∧ h' = h) 7 [(3, .inl (Int32.ofNat k)), (1, .inr (.inl (Int64.ofNat (100 ^ j)))), (0, .inr (.inr (.inl (some 204))))] [] h := by
  intro k
  induction k with
  | zero =>
    intro j hj hk
    refine kx_go 2 (pc' := (if kc_cnd .le (Int32.ofNat 0).toInt 0 then 23 else 11)) (L' := [(3, .inl (Int32.ofNat 0)), (1, .inr (.inl (Int64.ofNat (100 ^ j)))), (0, .inr (.inr (.inl (some 204))))]) (S' := []) (h' := h) (by with_unfolding_all rfl) ?_
    rw [if_pos (fu_ile.mpr (by decide))]
    have ej : j = K := by omega
    rw [ej]
    refine kx_go 1 (pc' := 24) (L' := [(3, .inl (Int32.ofNat 0)), (1, .inr (.inl (Int64.ofNat (100 ^ K)))), (0, .inr (.inr (.inl (some 204))))]) (S' := [.inr (.inl (Int64.ofNat (100 ^ K)))]) (h' := h) (by with_unfolding_all rfl) ?_
    exact kc_ret_ok rfl (rv := some (.inr (.inl (Int64.ofNat (100 ^ K))))) rfl ⟨rfl, rfl⟩
  | succ k ih =>
    intro j hj hk
    refine kx_go 2 (pc' := (if kc_cnd .le (Int32.ofNat (k + 1)).toInt 0 then 23 else 11)) (L' := [(3, .inl (Int32.ofNat (k + 1))), (1, .inr (.inl (Int64.ofNat (100 ^ j)))), (0, .inr (.inr (.inl (some 204))))]) (S' := []) (h' := h) (by with_unfolding_all rfl) ?_
    rw [if_neg (fun q => (fu_ile.mp q) (by rw [kx_ti (by omega)]; omega))]
    refine kx_go 6 (pc' := 7) (L' := [(3, .inl ((Int32.ofNat (k + 1)) + Int32.ofInt (-1))), (1, .inr (.inl ((Int64.ofNat (100 ^ j)) * (Int64.ofNat 100)))), (0, .inr (.inr (.inl (some 204))))]) (S' := []) (h' := h) (by with_unfolding_all rfl) ?_
    rw [fs_jm, ← Nat.pow_succ, fs_dn1 (show k + 1 = k + 1 from rfl)]
    refine kf_lo (L := [(3, .inl (Int32.ofNat k)), (1, .inr (.inl (Int64.ofNat (100 ^ (j + 1))))), (0, .inr (.inr (.inl (some 204))))]) (by intro q hq; simp only [List.mem_cons, List.not_mem_nil, or_false] at hq; rcases hq with rfl | rfl | rfl <;> rfl) ?_
    exact ih (j + 1) (by omega) (by omega)
set_option maxRecDepth 20000 in
theorem fs_c142 {g : kc_G} {d : Nat} {h : kc_H} {B : Nat → Int32} {F E : Nat → Nat} {co : Nat → Bool} {W : Nat → Nat → Nat} {L n : Nat} (hg : kc_ok g) (hw : kd_wt kd_ty h) (hC : fu_C B 1 h) (hB : fu_BT B) (hb : fs_Gb F E co W L n) (hG : fs_G F E co W L n h) (eL : B 2 = Int32.ofNat L) : kc_Con g (d + 4) 142 [.inr (.inr (.inl (some 204)))] h (fun rv h' => rv = some (.inr (.inl (Int64.ofNat (100 ^ mk_k co (fs_as B) L)))) ∧ h' = h) := by
  have hL := hb.2.1
  have kb := mk_k_b (co := co) (as := fs_as B) L
  refine kc_Con_new hg (M := wk_m142) rfl rfl rfl (show 1 ≤ 4 by decide) ?_
  refine kx_go 3 (pc' := 3) (L' := [(1, .inr (.inl (Int64.ofNat 1))), (0, .inr (.inr (.inl (some 204))))]) (S' := [.inr (.inr (.inl (some 204)))]) (h' := h) (by with_unfolding_all rfl) ?_
  refine kc_call_rule (M2 := wk_m140) (av := [.inr (.inr (.inl (some 204)))]) (r := []) rfl rfl (kc_Con_le (fs_c140 (d := d) hg hw hC hB hb hG eL) (by omega)) (fun rv hcc hq => ?_)
  obtain ⟨rfl, e9⟩ := hq
  rw [e9]
  clear e9
  show kc_Ev g (d + 3) wk_m142 _ 6 [(1, .inr (.inl (Int64.ofNat 1))), (0, .inr (.inr (.inl (some 204))))] [.inl (Int32.ofNat (mk_k co (fs_as B) L))] h
  refine kx_go 1 (pc' := 7) (L' := [(3, .inl (Int32.ofNat (mk_k co (fs_as B) L))), (1, .inr (.inl (Int64.ofNat 1))), (0, .inr (.inr (.inl (some 204))))]) (S' := []) (h' := h) (by with_unfolding_all rfl) ?_
  exact fs_c142l (mk_k co (fs_as B) L) 0 (by omega) (by omega)
end
