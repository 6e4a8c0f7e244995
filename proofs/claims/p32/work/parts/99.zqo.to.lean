section
-- 99.zqo
/-! ===== KEEP, reference: isSore, findAskers, chanceNow ===== -/
theorem fk_k2 : kd_rn (kd_ty 259) 45 = some (0, 0, 4294967295) ∧ kd_rn (kd_ty 259) 47 = some (0, 2147483648, 2147483648 + 10) ∧ ∀ i, i < 10 → kd_rn (kd_ty 287) i = some (0, 2147483648, 2147483648 + 9) := ⟨by decide +kernel, by decide +kernel, by decide +kernel⟩
set_option maxRecDepth 20000 in
theorem fk_r262l {g : kc_G} {d : Nat} {h : kc_H} {B : Nat → Int32} {M : Nat} {X : Nat → Nat} (hg : kc_ok g) (hw : kd_wt kd_ty h) (hC : fu_B B h) (hB : fu_BT B) (hM : M ≤ 3) (eM : B 1 = Int32.ofNat M) (hXl : ∀ s, X s ≤ 990) (hX : ∀ s, s < 6 → h 276 s = .inl (Int32.ofNat (X s))) : ∀ u m : Nat, M - m = u → m ≤ M → kc_Ev g (d + 1) wk_m262 (fun rv h' => rv = some (.inl (kp_b (fk_so (fs_ev B) M X))) ∧ h' = h) 4 [(2, .inl (Int32.ofNat m)), (1, .inl (kp_b (fk_so (fs_ev B) m X))), (0, .inr (.inr (.inl (some 259))))] [] h := by
  intro u
  induction u with
  | zero =>
    intro m hu hm
    refine kx_go 2 (pc' := 6) (L' := [(2, .inl (Int32.ofNat m)), (1, .inl (kp_b (fk_so (fs_ev B) m X))), (0, .inr (.inr (.inl (some 259))))]) (S' := [.inr (.inr (.inl (some 259))), .inl (Int32.ofNat m)]) (h' := h) (by with_unfolding_all rfl) ?_
    refine kx_getf (c := 259) (v := .inr (.inr (.inl (some 260)))) rfl (by decide) (kx_ofr (hw _ _ _ fs_k259_0)) ?_
    refine kx_go 1 (pc' := 10) (L' := [(2, .inl (Int32.ofNat m)), (1, .inl (kp_b (fk_so (fs_ev B) m X))), (0, .inr (.inr (.inl (some 259))))]) (S' := [.inl (Int32.ofNat 1), .inr (.inr (.inl (some 260))), .inl (Int32.ofNat m)]) (h' := h) (by with_unfolding_all rfl) ?_
    refine kx_iald (c := 260) (j := 1) (m := 650) (v := .inl (Int32.ofNat M)) rfl rfl (by decide) (by decide) (by omega) ((hC 1 (by decide) (by decide)).trans (by rw [eM])) ?_
    refine kx_go 1 (pc' := (if kc_cnd .ge (Int32.ofNat m).toInt (Int32.ofNat M).toInt then 43 else 14)) (L' := [(2, .inl (Int32.ofNat m)), (1, .inl (kp_b (fk_so (fs_ev B) m X))), (0, .inr (.inr (.inl (some 259))))]) (S' := []) (h' := h) (by with_unfolding_all rfl) ?_
    rw [if_pos ((kx_ge (by omega) (by omega)).mpr (by omega))]
    obtain rfl : m = M := by omega
    refine kx_go 1 (pc' := 44) (L' := [(2, .inl (Int32.ofNat m)), (1, .inl (kp_b (fk_so (fs_ev B) m X))), (0, .inr (.inr (.inl (some 259))))]) (S' := [.inl (kp_b (fk_so (fs_ev B) m X))]) (h' := h) (by with_unfolding_all rfl) ?_
    cases e9 : fk_so (fs_ev B) m X with
    | false => exact kc_ret_ok rfl (rv := some (.inl (kp_b false))) rfl ⟨rfl, rfl⟩
    | true => exact kc_ret_ok rfl (rv := some (.inl (kp_b true))) rfl ⟨rfl, rfl⟩
  | succ u ih =>
    intro m hu hm
    refine kx_go 2 (pc' := 6) (L' := [(2, .inl (Int32.ofNat m)), (1, .inl (kp_b (fk_so (fs_ev B) m X))), (0, .inr (.inr (.inl (some 259))))]) (S' := [.inr (.inr (.inl (some 259))), .inl (Int32.ofNat m)]) (h' := h) (by with_unfolding_all rfl) ?_
    refine kx_getf (c := 259) (v := .inr (.inr (.inl (some 260)))) rfl (by decide) (kx_ofr (hw _ _ _ fs_k259_0)) ?_
    refine kx_go 1 (pc' := 10) (L' := [(2, .inl (Int32.ofNat m)), (1, .inl (kp_b (fk_so (fs_ev B) m X))), (0, .inr (.inr (.inl (some 259))))]) (S' := [.inl (Int32.ofNat 1), .inr (.inr (.inl (some 260))), .inl (Int32.ofNat m)]) (h' := h) (by with_unfolding_all rfl) ?_
    refine kx_iald (c := 260) (j := 1) (m := 650) (v := .inl (Int32.ofNat M)) rfl rfl (by decide) (by decide) (by omega) ((hC 1 (by decide) (by decide)).trans (by rw [eM])) ?_
    refine kx_go 1 (pc' := (if kc_cnd .ge (Int32.ofNat m).toInt (Int32.ofNat M).toInt then 43 else 14)) (L' := [(2, .inl (Int32.ofNat m)), (1, .inl (kp_b (fk_so (fs_ev B) m X))), (0, .inr (.inr (.inl (some 259))))]) (S' := []) (h' := h) (by with_unfolding_all rfl) ?_
    rw [if_neg (fun q => by have := (kx_ge (by omega) (by omega)).mp q; omega)]
    have hm3 : m < 3 := by omega
    have eN : fk_so (fs_ev B) (m + 1) X = (fk_so (fs_ev B) m X || decide (fs_ev B m < ms_d (X (2 * m)) (X (2 * m + 1)))) := rfl
    have next : ∀ b : Bool, b = fk_so (fs_ev B) (m + 1) X → kc_Ev g (d + 1) wk_m262 (fun rv h' => rv = some (.inl (kp_b (fk_so (fs_ev B) M X))) ∧ h' = h) 36 [(2, .inl (Int32.ofNat m)), (1, .inl (kp_b (fk_so (fs_ev B) m X))), (0, .inr (.inr (.inl (some 259))))] [.inl (kp_b b)] h := by
      intro b eb
      refine kx_go 3 (pc' := 4) (L' := [(2, .inl ((Int32.ofNat m) + Int32.ofInt 1)), (1, .inl (kp_b b)), (0, .inr (.inr (.inl (some 259))))]) (S' := []) (h' := h) (by with_unfolding_all rfl) ?_
      rw [kx_inc, eb]
      refine kf_lo (L := [(2, .inl (Int32.ofNat (m + 1))), (1, .inl (kp_b (fk_so (fs_ev B) (m + 1) X))), (0, .inr (.inr (.inl (some 259))))]) (by intro q hq; simp only [List.mem_cons, List.not_mem_nil, or_false] at hq; rcases hq with rfl | rfl | rfl <;> rfl) ?_
      exact ih (m + 1) (by omega) (by omega)
    refine kx_go 2 (pc' := (if kc_cnd .ne (kp_b (fk_so (fs_ev B) m X)).toInt 0 then 31 else 18)) (L' := [(2, .inl (Int32.ofNat m)), (1, .inl (kp_b (fk_so (fs_ev B) m X))), (0, .inr (.inr (.inl (some 259))))]) (S' := []) (h' := h) (by with_unfolding_all rfl) ?_
    cases eS : fk_so (fs_ev B) m X with
    | true =>
      rw [if_pos (kx_b1.mpr rfl)]
      have k9 := next true (by rw [eN, eS, Bool.true_or])
      rw [eS] at k9
      refine kx_go 2 (pc' := 36) (L' := [(2, .inl (Int32.ofNat m)), (1, .inl (kp_b (true))), (0, .inr (.inr (.inl (some 259))))]) (S' := [.inl (Int32.ofNat 1)]) (h' := h) (by with_unfolding_all rfl) ?_
      exact k9
    | false =>
      rw [if_neg (show ¬ (kc_cnd .ne (kp_b false).toInt 0 = true) from fun q => by have := kx_b1.mp q; cases this)]
      refine kx_go 2 (pc' := 20) (L' := [(2, .inl (Int32.ofNat m)), (1, .inl (kp_b (false))), (0, .inr (.inr (.inl (some 259))))]) (S' := [.inl (Int32.ofNat m), .inr (.inr (.inl (some 259)))]) (h' := h) (by with_unfolding_all rfl) ?_
      refine kc_call_rule (M2 := wk_m261) (av := [.inr (.inr (.inl (some 259))), .inl (Int32.ofNat m)]) (r := []) rfl rfl (kc_Con_le (fs_r261 (d := d) (a := X (2 * m)) (b := X (2 * m + 1)) hg hw hm3 (hXl _) (hXl _) (hX (2 * m) (by omega)) (hX (2 * m + 1) (by omega))) (by omega)) (fun rv hcc hq => ?_)
      obtain ⟨rfl, e9⟩ := hq
      rw [e9]
      clear e9
      show kc_Ev g (d + 1) wk_m262 _ 23 [(2, .inl (Int32.ofNat m)), (1, .inl (kp_b (false))), (0, .inr (.inr (.inl (some 259))))] [.inl (Int32.ofNat (ms_d (X (2 * m)) (X (2 * m + 1))))] h
      refine kx_go 2 (pc' := 25) (L' := [(2, .inl (Int32.ofNat m)), (1, .inl (kp_b (false))), (0, .inr (.inr (.inl (some 259))))]) (S' := [.inl (Int32.ofNat m), .inr (.inr (.inl (some 259))), .inl (Int32.ofNat (ms_d (X (2 * m)) (X (2 * m + 1))))]) (h' := h) (by with_unfolding_all rfl) ?_
      refine kc_call_rule (M2 := wk_m256) (av := [.inr (.inr (.inl (some 259))), .inl (Int32.ofNat m)]) (r := [.inl (Int32.ofNat (ms_d (X (2 * m)) (X (2 * m + 1))))]) rfl rfl (kc_Con_le (fa_r256 (d := d) hg hw hC hB hm3) (by omega)) (fun rv hcc hq => ?_)
      obtain ⟨rfl, e9⟩ := hq
      rw [e9]
      clear e9
      show kc_Ev g (d + 1) wk_m262 _ 28 [(2, .inl (Int32.ofNat m)), (1, .inl (kp_b (false))), (0, .inr (.inr (.inl (some 259))))] [.inl (Int32.ofNat (fs_ev B m)), .inl (Int32.ofNat (ms_d (X (2 * m)) (X (2 * m + 1))))] h
      refine kx_go 1 (pc' := (if kc_cnd .le (Int32.ofNat (ms_d (X (2 * m)) (X (2 * m + 1)))).toInt (Int32.ofNat (fs_ev B m)).toInt then 35 else 31)) (L' := [(2, .inl (Int32.ofNat m)), (1, .inl (kp_b (false))), (0, .inr (.inr (.inl (some 259))))]) (S' := []) (h' := h) (by with_unfolding_all rfl) ?_
      have l0 := hXl (2 * m)
      have l1 := hXl (2 * m + 1)
      have l2 := fs_evl hB hm3
      have l3 : ms_d (X (2 * m)) (X (2 * m + 1)) ≤ 1980 := by unfold ms_d; omega
      by_cases c : fs_ev B m < ms_d (X (2 * m)) (X (2 * m + 1))
      · rw [if_neg (fun q => by have := (kx_le (by omega) (by omega)).mp q; omega)]
        have k9 := next true (by rw [eN, decide_eq_true c, Bool.or_true])
        rw [eS] at k9
        refine kx_go 2 (pc' := 36) (L' := [(2, .inl (Int32.ofNat m)), (1, .inl (kp_b (false))), (0, .inr (.inr (.inl (some 259))))]) (S' := [.inl (Int32.ofNat 1)]) (h' := h) (by with_unfolding_all rfl) ?_
        exact k9
      · rw [if_pos ((kx_le (by omega) (by omega)).mpr (by omega))]
        have k9 := next false (by rw [eN, eS, decide_eq_false c, Bool.false_or])
        rw [eS] at k9
        refine kx_go 1 (pc' := 36) (L' := [(2, .inl (Int32.ofNat m)), (1, .inl (kp_b (false))), (0, .inr (.inr (.inl (some 259))))]) (S' := [.inl (Int32.ofNat 0)]) (h' := h) (by with_unfolding_all rfl) ?_
        exact k9
set_option maxRecDepth 20000 in
theorem fk_r262 {g : kc_G} {d : Nat} {h : kc_H} {B : Nat → Int32} {M : Nat} {X : Nat → Nat} (hg : kc_ok g) (hw : kd_wt kd_ty h) (hC : fu_B B h) (hB : fu_BT B) (hM : M ≤ 3) (eM : B 1 = Int32.ofNat M) (hXl : ∀ s, X s ≤ 990) (hX : ∀ s, s < 6 → h 276 s = .inl (Int32.ofNat (X s))) : kc_Con g (d + 2) 262 [.inr (.inr (.inl (some 259)))] h (fun rv h' => rv = some (.inl (kp_b (fk_so (fs_ev B) M X))) ∧ h' = h) := by
  refine kc_Con_new hg (M := wk_m262) rfl rfl rfl (show 1 ≤ 3 by decide) ?_
  refine kx_go 4 (pc' := 4) (L' := [(2, .inl (Int32.ofNat 0)), (1, .inl (Int32.ofNat 0)), (0, .inr (.inr (.inl (some 259))))]) (S' := []) (h' := h) (by with_unfolding_all rfl) ?_
  exact fk_r262l hg hw hC hB hM eM hXl hX M 0 (by omega) (by omega)
def fk_AS (B : Nat → Int32) (D : Nat → Nat) (n l : Nat) (h : kc_H) : Prop := (∃ z, h 259 45 = .inl (Int32.ofNat z) ∧ fk_ms z (mk_A (fs_co B D n) (fs_as B) l)) ∧ h 259 47 = .inl (Int32.ofNat (mk_k (fs_co B D n) (fs_as B) l)) ∧ ∀ j, j < l → mk_is (fs_co B D n) (fs_as B) j = true → h 287 (mk_k (fs_co B D n) (fs_as B) j) = .inl (Int32.ofNat j)
def fk_af (h0 h : kc_H) : Prop := ∀ a x, ¬ (a = 259 ∧ 45 ≤ x ∧ x ≤ 47) → ¬ (273 ≤ a ∧ a ≤ 275) → ¬ a = 287 → h a x = h0 a x
set_option maxRecDepth 20000 in
theorem fk_r146l {g : kc_G} {d : Nat} {h0 : kc_H} {B : Nat → Int32} {D : Nat → Nat} {n L : Nat} (hg : kc_ok g) (hB : fu_BT B) (hC0 : fu_B B h0) (hL : L ≤ 10) (eL : B 2 = Int32.ofNat L) : ∀ (u l : Nat) (h : kc_H), L - l = u → l ≤ L → kd_wt kd_ty h → fs_sp (fs_F B D n) (fs_E B D n) (fs_co B D n) L h → fk_AS B D n l h → fk_af h0 h → kc_Ev g (d + 3) wk_m146 (fun rv h' => rv = some (.inl (kp_b (decide (mk_k (fs_co B D n) (fs_as B) L < 7)))) ∧ kd_wt kd_ty h' ∧ fs_sp (fs_F B D n) (fs_E B D n) (fs_co B D n) L h' ∧ fk_AS B D n L h' ∧ fk_af h0 h') 16 [(1, .inl (Int32.ofNat l)), (0, .inr (.inr (.inl (some 259))))] [] h := by
  intro u
  induction u with
  | zero =>
    intro l h hu hl hw hsp hA hF
    have hC : fu_B B h := fs_B_f (fun x => hF 260 x (by omega) (by omega) (by omega)) hC0
    have kb := mk_k_b (co := fs_co B D n) (as := fs_as B) l
    obtain ⟨⟨z, e45, hz⟩, e47, hq⟩ := hA
    refine kx_go 2 (pc' := 18) (L' := [(1, .inl (Int32.ofNat l)), (0, .inr (.inr (.inl (some 259))))]) (S' := [.inr (.inr (.inl (some 259))), .inl (Int32.ofNat l)]) (h' := h) (by with_unfolding_all rfl) ?_
    refine kx_getf (c := 259) (v := .inr (.inr (.inl (some 260)))) rfl (by decide) (kx_ofr (hw _ _ _ fs_k259_0)) ?_
    refine kx_go 1 (pc' := 22) (L' := [(1, .inl (Int32.ofNat l)), (0, .inr (.inr (.inl (some 259))))]) (S' := [.inl (Int32.ofNat 2), .inr (.inr (.inl (some 260))), .inl (Int32.ofNat l)]) (h' := h) (by with_unfolding_all rfl) ?_
    refine kx_iald (c := 260) (j := 2) (m := 650) (v := .inl (Int32.ofNat L)) rfl rfl (by decide) (by decide) (by omega) ((hC 2 (by decide) (by decide)).trans (by rw [eL])) ?_
    refine kx_go 1 (pc' := (if kc_cnd .ge (Int32.ofNat l).toInt (Int32.ofNat L).toInt then 105 else 26)) (L' := [(1, .inl (Int32.ofNat l)), (0, .inr (.inr (.inl (some 259))))]) (S' := []) (h' := h) (by with_unfolding_all rfl) ?_
    rw [if_pos ((kx_ge (by omega) (by omega)).mpr (by omega))]
    obtain rfl : l = L := by omega
    refine kx_go 1 (pc' := 106) (L' := [(1, .inl (Int32.ofNat l)), (0, .inr (.inr (.inl (some 259))))]) (S' := [.inr (.inr (.inl (some 259)))]) (h' := h) (by with_unfolding_all rfl) ?_
    refine kx_getf (c := 259) (v := .inl (Int32.ofNat (mk_k (fs_co B D n) (fs_as B) l))) rfl (by decide) e47 ?_
    refine kx_go 2 (pc' := (if kc_cnd .ge (Int32.ofNat (mk_k (fs_co B D n) (fs_as B) l)).toInt (Int32.ofNat 7).toInt then 118 else 114)) (L' := [(1, .inl (Int32.ofNat l)), (0, .inr (.inr (.inl (some 259))))]) (S' := []) (h' := h) (by with_unfolding_all rfl) ?_
    by_cases c : mk_k (fs_co B D n) (fs_as B) l < 7
    · rw [if_neg (fun q => by have := (kx_ge (by omega) (by omega)).mp q; omega), decide_eq_true c]
      refine kx_go 2 (pc' := 119) (L' := [(1, .inl (Int32.ofNat l)), (0, .inr (.inr (.inl (some 259))))]) (S' := [.inl (Int32.ofNat 1)]) (h' := h) (by with_unfolding_all rfl) ?_
      exact kc_ret_ok rfl (rv := some (.inl (Int32.ofNat 1))) rfl ⟨rfl, hw, hsp, ⟨⟨z, e45, hz⟩, e47, hq⟩, hF⟩
    · rw [if_pos ((kx_ge (by omega) (by omega)).mpr (by omega)), decide_eq_false c]
      refine kx_go 1 (pc' := 119) (L' := [(1, .inl (Int32.ofNat l)), (0, .inr (.inr (.inl (some 259))))]) (S' := [.inl (Int32.ofNat 0)]) (h' := h) (by with_unfolding_all rfl) ?_
      exact kc_ret_ok rfl (rv := some (.inl (Int32.ofNat 0))) rfl ⟨rfl, hw, hsp, ⟨⟨z, e45, hz⟩, e47, hq⟩, hF⟩
  | succ u ih =>
    intro l h hu hl hw hsp hA hF
    have hC : fu_B B h := fs_B_f (fun x => hF 260 x (by omega) (by omega) (by omega)) hC0
    have kb := mk_k_b (co := fs_co B D n) (as := fs_as B) l
    obtain ⟨⟨z, e45, hz⟩, e47, hq⟩ := hA
    refine kx_go 2 (pc' := 18) (L' := [(1, .inl (Int32.ofNat l)), (0, .inr (.inr (.inl (some 259))))]) (S' := [.inr (.inr (.inl (some 259))), .inl (Int32.ofNat l)]) (h' := h) (by with_unfolding_all rfl) ?_
    refine kx_getf (c := 259) (v := .inr (.inr (.inl (some 260)))) rfl (by decide) (kx_ofr (hw _ _ _ fs_k259_0)) ?_
    refine kx_go 1 (pc' := 22) (L' := [(1, .inl (Int32.ofNat l)), (0, .inr (.inr (.inl (some 259))))]) (S' := [.inl (Int32.ofNat 2), .inr (.inr (.inl (some 260))), .inl (Int32.ofNat l)]) (h' := h) (by with_unfolding_all rfl) ?_
    refine kx_iald (c := 260) (j := 2) (m := 650) (v := .inl (Int32.ofNat L)) rfl rfl (by decide) (by decide) (by omega) ((hC 2 (by decide) (by decide)).trans (by rw [eL])) ?_
    refine kx_go 1 (pc' := (if kc_cnd .ge (Int32.ofNat l).toInt (Int32.ofNat L).toInt then 105 else 26)) (L' := [(1, .inl (Int32.ofNat l)), (0, .inr (.inr (.inl (some 259))))]) (S' := []) (h' := h) (by with_unfolding_all rfl) ?_
    rw [if_neg (fun q => by have := (kx_ge (by omega) (by omega)).mp q; omega)]
    have hl10 : l < 10 := by omega
    have hlL : l < L := by omega
    have asl := fs_asl hB l
    have ec := hsp.2.2 l hlL
    have eKs : mk_k (fs_co B D n) (fs_as B) (l + 1) = mk_k (fs_co B D n) (fs_as B) l + (if mk_is (fs_co B D n) (fs_as B) l = true then 1 else 0) := rfl
    have next : ∀ h : kc_H, kd_wt kd_ty h → fs_sp (fs_F B D n) (fs_E B D n) (fs_co B D n) L h → fk_AS B D n (l + 1) h → fk_af h0 h → kc_Ev g (d + 3) wk_m146 (fun rv h' => rv = some (.inl (kp_b (decide (mk_k (fs_co B D n) (fs_as B) L < 7)))) ∧ kd_wt kd_ty h' ∧ fs_sp (fs_F B D n) (fs_E B D n) (fs_co B D n) L h' ∧ fk_AS B D n L h' ∧ fk_af h0 h') 99 [(2, .inl (Int32.ofNat (fs_as B l))), (1, .inl (Int32.ofNat l)), (0, .inr (.inr (.inl (some 259))))] [] h := by
      intro h hw hsp hA hF
      refine kx_go 2 (pc' := 16) (L' := [(1, .inl ((Int32.ofNat l) + Int32.ofInt 1)), (2, .inl (Int32.ofNat (fs_as B l))), (0, .inr (.inr (.inl (some 259))))]) (S' := []) (h' := h) (by with_unfolding_all rfl) ?_
      rw [kx_inc]
      refine kf_lo (L := [(1, .inl (Int32.ofNat (l + 1))), (0, .inr (.inr (.inl (some 259))))]) (by intro q hq; simp only [List.mem_cons, List.not_mem_nil, or_false] at hq; rcases hq with rfl | rfl <;> rfl) ?_
      exact ih (l + 1) h (by omega) (by omega) hw hsp hA hF
    have mid : ∀ (h : kc_H) (z : Nat), kd_wt kd_ty h → fs_sp (fs_F B D n) (fs_E B D n) (fs_co B D n) L h → h 259 45 = .inl (Int32.ofNat z) → fk_ms z (mk_A (fs_co B D n) (fs_as B) (l + 1)) → h 259 47 = .inl (Int32.ofNat (mk_k (fs_co B D n) (fs_as B) l)) → (∀ j, j < l → mk_is (fs_co B D n) (fs_as B) j = true → h 287 (mk_k (fs_co B D n) (fs_as B) j) = .inl (Int32.ofNat j)) → fk_af h0 h → kc_Ev g (d + 3) wk_m146 (fun rv h' => rv = some (.inl (kp_b (decide (mk_k (fs_co B D n) (fs_as B) L < 7)))) ∧ kd_wt kd_ty h' ∧ fs_sp (fs_F B D n) (fs_E B D n) (fs_co B D n) L h' ∧ fk_AS B D n L h' ∧ fk_af h0 h') 58 [(2, .inl (Int32.ofNat (fs_as B l))), (1, .inl (Int32.ofNat l)), (0, .inr (.inr (.inl (some 259))))] [] h := by
      intro h z hw hsp e45 hz e47 hq hF
      have ec := hsp.2.2 l hlL
      have skip : mk_is (fs_co B D n) (fs_as B) l = false → kc_Ev g (d + 3) wk_m146 (fun rv h' => rv = some (.inl (kp_b (decide (mk_k (fs_co B D n) (fs_as B) L < 7)))) ∧ kd_wt kd_ty h' ∧ fs_sp (fs_F B D n) (fs_E B D n) (fs_co B D n) L h' ∧ fk_AS B D n L h' ∧ fk_af h0 h') 99 [(2, .inl (Int32.ofNat (fs_as B l))), (1, .inl (Int32.ofNat l)), (0, .inr (.inr (.inl (some 259))))] [] h := by
        intro ni
        refine next h hw hsp ⟨⟨z, e45, hz⟩, by rw [eKs, if_neg (by rw [ni]; decide), Nat.add_zero]; exact e47, fun j hj hi => hq j (by
          by_cases e : j = l
          · rw [e, ni] at hi; cases hi
          · omega) hi⟩ hF
      refine kx_go 1 (pc' := 59) (L' := [(2, .inl (Int32.ofNat (fs_as B l))), (1, .inl (Int32.ofNat l)), (0, .inr (.inr (.inl (some 259))))]) (S' := [.inr (.inr (.inl (some 259)))]) (h' := h) (by with_unfolding_all rfl) ?_
      refine kx_getf (c := 259) (v := .inr (.inr (.inl (some 275)))) rfl (by decide) (kx_ofr (hw _ _ _ fs_k259_29)) ?_
      refine kx_go 1 (pc' := 63) (L' := [(2, .inl (Int32.ofNat (fs_as B l))), (1, .inl (Int32.ofNat l)), (0, .inr (.inr (.inl (some 259))))]) (S' := [.inl (Int32.ofNat l), .inr (.inr (.inl (some 275)))]) (h' := h) (by with_unfolding_all rfl) ?_
      refine kx_bald (c := 275) (j := l) (m := 10) (v := .inl (kp_b (fs_co B D n l))) rfl rfl (by decide) (by decide) (by omega) ec ?_
      refine kx_go 1 (pc' := (if kc_cnd .eq (kp_b (fs_co B D n l)).toInt 0 then 99 else 67)) (L' := [(2, .inl (Int32.ofNat (fs_as B l))), (1, .inl (Int32.ofNat l)), (0, .inr (.inr (.inl (some 259))))]) (S' := []) (h' := h) (by with_unfolding_all rfl) ?_
      cases b : fs_co B D n l with
      | false =>
        rw [if_pos (kx_b0.mpr rfl)]
        exact skip (by unfold mk_is; rw [b, Bool.false_and])
      | true =>
        rw [if_neg fa_b0t]
        refine kx_go 4 (pc' := 73) (L' := [(2, .inl (Int32.ofNat (fs_as B l))), (1, .inl (Int32.ofNat l)), (0, .inr (.inr (.inl (some 259))))]) (S' := [.inr (.inl (Int64.ofNat 99)), .inr (.inl (Int64.ofNat 1)), .inr (.inl ((Int32.ofNat (fs_as B l)).toInt64))]) (h' := h) (by with_unfolding_all rfl) ?_
        refine kc_call_rule (M2 := wk_m22) (av := [.inr (.inl ((Int32.ofNat (fs_as B l)).toInt64)), .inr (.inl (Int64.ofNat 1)), .inr (.inl (Int64.ofNat 99))]) (r := []) rfl rfl (kc_Con_le (fu_li (d := d) (a := Int32.ofNat (fs_as B l)) (lo := ((1 : Nat) : Int)) (hi := ((99 : Nat) : Int)) hg rfl rfl) (by omega)) (fun rv hcc hq => ?_)
        obtain ⟨rfl, e9⟩ := hq
        rw [e9]
        clear e9
        rw [fs_inn (by omega), show (decide (1 ≤ fs_as B l) && decide (fs_as B l ≤ 99)) = mk_is (fs_co B D n) (fs_as B) l from by unfold mk_is; rw [b, Bool.true_and]]
        show kc_Ev g (d + 3) wk_m146 _ 76 [(2, .inl (Int32.ofNat (fs_as B l))), (1, .inl (Int32.ofNat l)), (0, .inr (.inr (.inl (some 259))))] [.inl (kp_b (mk_is (fs_co B D n) (fs_as B) l))] h
        refine kx_go 1 (pc' := (if kc_cnd .eq (kp_b (mk_is (fs_co B D n) (fs_as B) l)).toInt 0 then 99 else 79)) (L' := [(2, .inl (Int32.ofNat (fs_as B l))), (1, .inl (Int32.ofNat l)), (0, .inr (.inr (.inl (some 259))))]) (S' := []) (h' := h) (by with_unfolding_all rfl) ?_
        cases i9 : mk_is (fs_co B D n) (fs_as B) l with
        | false =>
          rw [if_pos (kx_b0.mpr rfl)]
          exact skip i9
        | true =>
          rw [if_neg fa_b0t]
          refine kx_go 1 (pc' := 80) (L' := [(2, .inl (Int32.ofNat (fs_as B l))), (1, .inl (Int32.ofNat l)), (0, .inr (.inr (.inl (some 259))))]) (S' := [.inr (.inr (.inl (some 259)))]) (h' := h) (by with_unfolding_all rfl) ?_
          refine kx_getf (c := 259) (v := .inr (.inr (.inl (some 287)))) rfl (by decide) (kx_ofr (hw _ _ _ fs_k259_46)) ?_
          refine kx_go 1 (pc' := 84) (L' := [(2, .inl (Int32.ofNat (fs_as B l))), (1, .inl (Int32.ofNat l)), (0, .inr (.inr (.inl (some 259))))]) (S' := [.inr (.inr (.inl (some 259))), .inr (.inr (.inl (some 287)))]) (h' := h) (by with_unfolding_all rfl) ?_
          refine kx_getf (c := 259) (v := .inl (Int32.ofNat (mk_k (fs_co B D n) (fs_as B) l))) rfl (by decide) e47 ?_
          refine kx_go 1 (pc' := 88) (L' := [(2, .inl (Int32.ofNat (fs_as B l))), (1, .inl (Int32.ofNat l)), (0, .inr (.inr (.inl (some 259))))]) (S' := [.inl (Int32.ofNat l), .inl (Int32.ofNat (mk_k (fs_co B D n) (fs_as B) l)), .inr (.inr (.inl (some 287)))]) (h' := h) (by with_unfolding_all rfl) ?_
          refine kx_iast (c := 287) (j := mk_k (fs_co B D n) (fs_as B) l) (m := 10) rfl rfl (by decide) (by decide) (by omega) ?_
          have hw1 : kd_wt kd_ty (kc_upd h 287 (mk_k (fs_co B D n) (fs_as B) l) (.inl (Int32.ofNat l))) := fa_wn (fk_k2.2.2 (mk_k (fs_co B D n) (fs_as B) l) (by omega)) (show l ≤ 9 by omega) (by decide) hw
          have e47b : (kc_upd h 287 (mk_k (fs_co B D n) (fs_as B) l) (.inl (Int32.ofNat l))) 259 47 = .inl (Int32.ofNat (mk_k (fs_co B D n) (fs_as B) l)) := (fu_ne (by omega)).trans e47
          refine kx_go 2 (pc' := 91) (L' := [(2, .inl (Int32.ofNat (fs_as B l))), (1, .inl (Int32.ofNat l)), (0, .inr (.inr (.inl (some 259))))]) (S' := [.inr (.inr (.inl (some 259))), .inr (.inr (.inl (some 259)))]) (h' := (kc_upd h 287 (mk_k (fs_co B D n) (fs_as B) l) (.inl (Int32.ofNat l)))) (by with_unfolding_all rfl) ?_
          refine kx_getf (c := 259) (v := .inl (Int32.ofNat (mk_k (fs_co B D n) (fs_as B) l))) rfl (by decide) e47b ?_
          refine kx_go 2 (pc' := 96) (L' := [(2, .inl (Int32.ofNat (fs_as B l))), (1, .inl (Int32.ofNat l)), (0, .inr (.inr (.inl (some 259))))]) (S' := [.inl ((Int32.ofNat (mk_k (fs_co B D n) (fs_as B) l)) + (Int32.ofNat 1)), .inr (.inr (.inl (some 259)))]) (h' := (kc_upd h 287 (mk_k (fs_co B D n) (fs_as B) l) (.inl (Int32.ofNat l)))) (by with_unfolding_all rfl) ?_
          rw [kx_add]
          have hw2 : kd_wt kd_ty (kc_upd (kc_upd h 287 (mk_k (fs_co B D n) (fs_as B) l) (.inl (Int32.ofNat l))) 259 47 (.inl (Int32.ofNat (mk_k (fs_co B D n) (fs_as B) l + 1)))) := fa_wn fk_k2.2.1 (show mk_k (fs_co B D n) (fs_as B) l + 1 ≤ 10 by omega) (by decide) hw1
          refine kx_go 1 (pc' := 99) (L' := [(2, .inl (Int32.ofNat (fs_as B l))), (1, .inl (Int32.ofNat l)), (0, .inr (.inr (.inl (some 259))))]) (S' := []) (h' := (kc_upd (kc_upd h 287 (mk_k (fs_co B D n) (fs_as B) l) (.inl (Int32.ofNat l))) 259 47 (.inl (Int32.ofNat (mk_k (fs_co B D n) (fs_as B) l + 1))))) (by with_unfolding_all rfl) ?_
          refine next _ hw2 (fs_sp_f (fun a y q1 q2 => (fu_ne (by omega)).trans (fu_ne (by omega))) hsp) ⟨⟨z, (fu_ne (by omega)).trans ((fu_ne (by omega)).trans e45), hz⟩, fu_eq.trans (by rw [eKs, if_pos i9]), fun j hj hi => ?_⟩ (fun a y q1 q2 q3 => (fu_ne (fun q => q1 ⟨q.1, by omega, by omega⟩)).trans ((fu_ne (fun q => q3 q.1)).trans (hF a y q1 q2 q3)))
          by_cases e : j = l
          · rw [e]
            exact (fu_ne (by omega)).trans fu_eq
          · have := mk_k_le l (show j < l by omega) hi
            exact (fu_ne (by omega)).trans ((fu_ne (by omega)).trans (hq j (by omega) hi))
    refine kx_go 3 (pc' := 29) (L' := [(1, .inl (Int32.ofNat l)), (0, .inr (.inr (.inl (some 259))))]) (S' := [.inl (Int32.ofNat 4), .inl (Int32.ofNat l), .inr (.inr (.inl (some 259)))]) (h' := h) (by with_unfolding_all rfl) ?_
    refine kc_call_rule (M2 := wk_m237) (av := [.inr (.inr (.inl (some 259))), .inl (Int32.ofNat l), .inl (Int32.ofNat 4)]) (r := []) rfl rfl (kc_Con_le (fh_r237 (d := d) (e := 4) hg hw hC hl10 (by decide)) (by omega)) (fun rv hcc hq => ?_)
    obtain ⟨rfl, e9⟩ := hq
    rw [e9]
    clear e9
    rw [fs_asB hB hl10]
    show kc_Ev g (d + 3) wk_m146 _ 32 [(1, .inl (Int32.ofNat l)), (0, .inr (.inr (.inl (some 259))))] [.inl (Int32.ofNat (fs_as B l))] h
    refine kx_go 2 (pc' := 34) (L' := [(2, .inl (Int32.ofNat (fs_as B l))), (1, .inl (Int32.ofNat l)), (0, .inr (.inr (.inl (some 259))))]) (S' := [.inr (.inr (.inl (some 259)))]) (h' := h) (by with_unfolding_all rfl) ?_
    refine kx_getf (c := 259) (v := .inr (.inr (.inl (some 275)))) rfl (by decide) (kx_ofr (hw _ _ _ fs_k259_29)) ?_
    refine kx_go 1 (pc' := 38) (L' := [(2, .inl (Int32.ofNat (fs_as B l))), (1, .inl (Int32.ofNat l)), (0, .inr (.inr (.inl (some 259))))]) (S' := [.inl (Int32.ofNat l), .inr (.inr (.inl (some 275)))]) (h' := h) (by with_unfolding_all rfl) ?_
    refine kx_bald (c := 275) (j := l) (m := 10) (v := .inl (kp_b (fs_co B D n l))) rfl rfl (by decide) (by decide) (by omega) ec ?_
    refine kx_go 1 (pc' := (if kc_cnd .eq (kp_b (fs_co B D n l)).toInt 0 then 58 else 42)) (L' := [(2, .inl (Int32.ofNat (fs_as B l))), (1, .inl (Int32.ofNat l)), (0, .inr (.inr (.inl (some 259))))]) (S' := []) (h' := h) (by with_unfolding_all rfl) ?_
    have eA := mk_A_s (co := fs_co B D n) (as := fs_as B) (l := l)
    cases b : fs_co B D n l with
    | false =>
      rw [if_pos (kx_b0.mpr rfl)]
      rw [if_neg (fun q => by rw [b] at q; cases q.1)] at eA
      exact mid h z hw hsp e45 (by rw [eA]; exact hz) e47 hq hF
    | true =>
      rw [if_neg fa_b0t]
      refine kx_go 2 (pc' := (if kc_cnd .ne (Int32.ofNat (fs_as B l)).toInt 0 then 58 else 46)) (L' := [(2, .inl (Int32.ofNat (fs_as B l))), (1, .inl (Int32.ofNat l)), (0, .inr (.inr (.inl (some 259))))]) (S' := []) (h' := h) (by with_unfolding_all rfl) ?_
      by_cases z0 : fs_as B l = 0
      · rw [if_neg (fa_z (by omega) z0)]
        rw [if_pos ⟨b, z0⟩] at eA
        refine kx_go 2 (pc' := 48) (L' := [(2, .inl (Int32.ofNat (fs_as B l))), (1, .inl (Int32.ofNat l)), (0, .inr (.inr (.inl (some 259))))]) (S' := [.inr (.inr (.inl (some 259))), .inr (.inr (.inl (some 259)))]) (h' := h) (by with_unfolding_all rfl) ?_
        refine kx_getf (c := 259) (v := .inl (Int32.ofNat z)) rfl (by decide) e45 ?_
        refine kx_go 4 (pc' := 55) (L' := [(2, .inl (Int32.ofNat (fs_as B l))), (1, .inl (Int32.ofNat l)), (0, .inr (.inr (.inl (some 259))))]) (S' := [.inl ((Int32.ofNat z) ||| ((Int32.ofNat 1) <<< ((Int32.ofNat l) &&& 31))), .inr (.inr (.inl (some 259)))]) (h' := h) (by with_unfolding_all rfl) ?_
        rw [fk_or hz.1 hl10]
        have hw1 : kd_wt kd_ty (kc_upd h 259 45 (.inl (Int32.ofNat (z ||| 2 ^ l)))) := fa_wa fk_k2.1 hw
        refine kx_go 1 (pc' := 58) (L' := [(2, .inl (Int32.ofNat (fs_as B l))), (1, .inl (Int32.ofNat l)), (0, .inr (.inr (.inl (some 259))))]) (S' := []) (h' := (kc_upd h 259 45 (.inl (Int32.ofNat (z ||| 2 ^ l))))) (by with_unfolding_all rfl) ?_
        exact mid _ (z ||| 2 ^ l) hw1 (fs_sp_f (fun a y q1 q2 => fu_ne (by omega)) hsp) fu_eq (by rw [eA]; exact fk_ms_or hz hl10) ((fu_ne (by omega)).trans e47) (fun j hj hi => (fu_ne (by omega)).trans (hq j hj hi)) (fun a y q1 q2 q3 => (fu_ne (fun q => q1 ⟨q.1, by omega, by omega⟩)).trans (hF a y q1 q2 q3))
      · rw [if_pos (fa_nz (by omega) z0)]
        rw [if_neg (fun q => z0 q.2)] at eA
        exact mid h z hw hsp e45 (by rw [eA]; exact hz) e47 hq hF
set_option maxRecDepth 20000 in
theorem fk_r146 {g : kc_G} {d : Nat} {h0 : kc_H} {B : Nat → Int32} {D : Nat → Nat} {n L : Nat} (hw0 : kd_wt kd_ty h0) (hg : kc_ok g) (hB : fu_BT B) (hC0 : fu_B B h0) (hL : L ≤ 10) (eL : B 2 = Int32.ofNat L) (hn : n ≤ 5) (en : B 3 = Int32.ofNat n) (hD : ∀ k, k < n → B (150 + k) = Int32.ofNat (D k)) (hl : ∀ k, D k < 6) (hdl : ∀ i j, i < n → j < n → D i = D j → i = j) : kc_Con g (d + 4) 146 [.inr (.inr (.inl (some 259)))] h0 (fun rv h' => rv = some (.inl (kp_b (decide (mk_k (fs_co B D n) (fs_as B) L < 7)))) ∧ kd_wt kd_ty h' ∧ fs_sp (fs_F B D n) (fs_E B D n) (fs_co B D n) L h' ∧ fk_AS B D n L h' ∧ fk_af h0 h') := by
  refine kc_Con_new hg (M := wk_m146) rfl rfl rfl (show 1 ≤ 3 by decide) ?_
  refine kx_go 1 (pc' := 1) (L' := [(0, .inr (.inr (.inl (some 259))))]) (S' := [.inr (.inr (.inl (some 259)))]) (h' := h0) (by with_unfolding_all rfl) ?_
  refine kc_call_rule (M2 := wk_m105) (av := [.inr (.inr (.inl (some 259)))]) (r := []) rfl rfl (kc_Con_le (fs_r105 (d := d) (D := D) hw0 hg hB hC0 en eL hL hn hD hl hdl) (by omega)) (fun rv h2 hq => ?_)
  obtain ⟨rfl, hw2, hsp2, hF2⟩ := hq
  show kc_Ev g (d + 3) wk_m146 _ 4 [(0, .inr (.inr (.inl (some 259))))] [] h2
  refine kx_go 2 (pc' := 6) (L' := [(0, .inr (.inr (.inl (some 259))))]) (S' := [.inl (Int32.ofNat 0), .inr (.inr (.inl (some 259)))]) (h' := h2) (by with_unfolding_all rfl) ?_
  have hw3 : kd_wt kd_ty (kc_upd h2 259 45 (.inl (Int32.ofNat 0))) := fa_wa fk_k2.1 hw2
  refine kx_go 1 (pc' := 9) (L' := [(0, .inr (.inr (.inl (some 259))))]) (S' := []) (h' := (kc_upd h2 259 45 (.inl (Int32.ofNat 0)))) (by with_unfolding_all rfl) ?_
  refine kx_go 2 (pc' := 11) (L' := [(0, .inr (.inr (.inl (some 259))))]) (S' := [.inl (Int32.ofNat 0), .inr (.inr (.inl (some 259)))]) (h' := (kc_upd h2 259 45 (.inl (Int32.ofNat 0)))) (by with_unfolding_all rfl) ?_
  have hw4 : kd_wt kd_ty (kc_upd (kc_upd h2 259 45 (.inl (Int32.ofNat 0))) 259 47 (.inl (Int32.ofNat 0))) := fa_wn fk_k2.2.1 (Nat.zero_le 10) (by decide) hw3
  refine kx_go 1 (pc' := 14) (L' := [(0, .inr (.inr (.inl (some 259))))]) (S' := []) (h' := (kc_upd (kc_upd h2 259 45 (.inl (Int32.ofNat 0))) 259 47 (.inl (Int32.ofNat 0)))) (by with_unfolding_all rfl) ?_
  refine kx_go 2 (pc' := 16) (L' := [(1, .inl (Int32.ofNat 0)), (0, .inr (.inr (.inl (some 259))))]) (S' := []) (h' := (kc_upd (kc_upd h2 259 45 (.inl (Int32.ofNat 0))) 259 47 (.inl (Int32.ofNat 0)))) (by with_unfolding_all rfl) ?_
  refine fk_r146l hg hB hC0 hL eL L 0 _ (by omega) (by omega) hw4 (fs_sp_f (fun a y q1 q2 => (fu_ne (by omega)).trans (fu_ne (by omega))) hsp2) ⟨⟨0, (fu_ne (by omega)).trans fu_eq, by decide, fun j hj => ?_⟩, fu_eq, fun j hj => by omega⟩ (fun a y q1 q2 q3 => (fu_ne (fun q => q1 ⟨q.1, by omega, by omega⟩)).trans ((fu_ne (fun q => q1 ⟨q.1, by omega, by omega⟩)).trans (hF2 a y q2)))
  unfold mk_A
  rw [Nat.zero_div, decide_eq_false (Nat.not_lt_zero j), Bool.false_and]
  exact ⟨fun q => by omega, fun q => by cases q⟩
set_option maxRecDepth 20000 in
theorem fk_r148 {g : kc_G} {d : Nat} {h : kc_H} {K : Nat} (hg : kc_ok g) (hk : K ≤ 10) (e47 : h 259 47 = .inl (Int32.ofNat K)) : kc_Con g (d + 1) 148 [.inr (.inr (.inl (some 259)))] h (fun rv h' => rv = some (.inr (.inl (Int64.ofNat (100 ^ K)))) ∧ h' = h) := by
  refine kc_Con_new hg (M := wk_m148) rfl rfl rfl (show 1 ≤ 4 by decide) ?_
  refine kx_go 4 (pc' := 4) (L' := [(3, .inl (Int32.ofNat 0)), (1, .inr (.inl (Int64.ofNat 1))), (0, .inr (.inr (.inl (some 259))))]) (S' := []) (h' := h) (by with_unfolding_all rfl) ?_
  refine kf_lo (L := [(3, .inl (Int32.ofNat 0)), (1, .inr (.inl (Int64.ofNat (100 ^ 0)))), (0, .inr (.inr (.inl (some 259))))]) (by intro q hq; simp only [List.mem_cons, List.not_mem_nil, or_false] at hq; rcases hq with rfl | rfl | rfl <;> rfl) ?_
  exact km_whl hk e47 ⟨rfl, rfl⟩ K 0 (by omega) (by omega)
end
section
-- 99.zqp
/-! ===== KEEP, reference: chanceNow ===== -/
set_option maxRecDepth 20000 in
theorem fk_r147l {g : kc_G} {d : Nat} {h0 : kc_H} {B : Nat → Int32} {D : Nat → Nat} {c : Nat → Nat} {n L M : Nat} {K P : Nat} {SM : Nat → Nat} {wf : Nat → Nat → Nat} (hg : kc_ok g) (hB : fu_BT B) (hC0 : fu_B B h0) (hn : n ≤ 5) (en : B 3 = Int32.ofNat n) (hL : L ≤ 10) (eL : B 2 = Int32.ofNat L) (hM : M ≤ 3) (eM : B 1 = Int32.ofNat M) (hsp : fs_sp (fs_F B D n) (fs_E B D n) (fs_co B D n) L h0) (hc : ∀ l, l < L → h0 272 l = .inl (Int32.ofNat (c l)) ∧ c l < 6) (hA : fk_AS B D n L h0) (eK : mk_k (fs_co B D n) (fs_as B) L = K) (hK : K ≤ 6) (eW : ∀ s l, wf s l = mk_w (fs_co B D n) (fs_as B) s l) (eSS : ∀ s, SM (s + 1) = SM s + wf s L * mk_f (fs_F B D n) (fs_E B D n) (fun l i => fa_w B l i) L M n (fs_ev B) c (mk_T (fs_co B D n) (fs_as B) L s (fun _ => false))) (eP : P = 2 ^ K) (eSM : SM P = mk_ch (fs_co B D n) (fs_as B) (fs_F B D n) (fs_E B D n) (fun l i => fa_w B l i) L M n (fs_ev B) c) : ∀ (u s : Nat) (h : kc_H), P - s = u → s ≤ P → kd_wt kd_ty h → fs_rx h0 h → kc_Ev g (d + 4) wk_m147 (fun rv h' => rv = some (.inr (.inl (Int64.ofNat (mk_ch (fs_co B D n) (fs_as B) (fs_F B D n) (fs_E B D n) (fun l i => fa_w B l i) L M n (fs_ev B) c)))) ∧ kd_wt kd_ty h' ∧ fs_rx h0 h') 4 [(3, .inl (Int32.ofNat s)), (1, .inr (.inl (Int64.ofNat (SM s)))), (0, .inr (.inr (.inl (some 259))))] [] h := by
  obtain ⟨⟨z0, e45, hz0⟩, e47, hq⟩ := hA
  rw [eK] at e47
  have has := fs_asl hB
  have hE : ∀ l, l < L → fs_F B D n l ≤ 5 ∧ fs_E B D n l ≤ 5 := fun l hl => by
    have := (fs_gb (D := D) (L := L) hB hn hL).2.2.1 l hl
    omega
  have p64 : P ≤ 64 := by rw [eP]; exact Nat.le_trans (Nat.pow_le_pow_right (show 0 < 2 by decide) hK) (show 2 ^ 6 ≤ 64 by decide)
  intro u
  induction u with
  | zero =>
    intro s h hu hs hw hF
    have e47h := (hF 259 47 (by decide)).trans e47
    refine kx_go 3 (pc' := 7) (L' := [(3, .inl (Int32.ofNat s)), (1, .inr (.inl (Int64.ofNat (SM s)))), (0, .inr (.inr (.inl (some 259))))]) (S' := [.inr (.inr (.inl (some 259))), .inl (Int32.ofNat 1), .inl (Int32.ofNat s)]) (h' := h) (by with_unfolding_all rfl) ?_
    refine kx_getf (c := 259) (v := .inl (Int32.ofNat (K))) rfl (by decide) e47h ?_
    refine kx_go 1 (pc' := 11) (L' := [(3, .inl (Int32.ofNat s)), (1, .inr (.inl (Int64.ofNat (SM s)))), (0, .inr (.inr (.inl (some 259))))]) (S' := [.inl ((Int32.ofNat 1) <<< ((Int32.ofNat (K)) &&& 31)), .inl (Int32.ofNat s)]) (h' := h) (by with_unfolding_all rfl) ?_
    rw [fk_shl (show K < 10 by omega), ← eP]
    refine kx_go 1 (pc' := (if kc_cnd .ge (Int32.ofNat s).toInt (Int32.ofNat P).toInt then 179 else 14)) (L' := [(3, .inl (Int32.ofNat s)), (1, .inr (.inl (Int64.ofNat (SM s)))), (0, .inr (.inr (.inl (some 259))))]) (S' := []) (h' := h) (by with_unfolding_all rfl) ?_
    rw [if_pos ((kx_ge (by omega) (by omega)).mpr (by omega))]
    have es : s = P := by omega
    rw [es, eSM]
    refine kx_go 1 (pc' := 180) (L' := [(3, .inl (Int32.ofNat P)), (1, .inr (.inl (Int64.ofNat (mk_ch (fs_co B D n) (fs_as B) (fs_F B D n) (fs_E B D n) (fun l i => fa_w B l i) L M n (fs_ev B) c)))), (0, .inr (.inr (.inl (some 259))))]) (S' := [.inr (.inl (Int64.ofNat (mk_ch (fs_co B D n) (fs_as B) (fs_F B D n) (fs_E B D n) (fun l i => fa_w B l i) L M n (fs_ev B) c)))]) (h' := h) (by with_unfolding_all rfl) ?_
    exact kc_ret_ok rfl (rv := some (.inr (.inl (Int64.ofNat (mk_ch (fs_co B D n) (fs_as B) (fs_F B D n) (fs_E B D n) (fun l i => fa_w B l i) L M n (fs_ev B) c))))) rfl ⟨rfl, hw, hF⟩
  | succ u ih =>
    intro s h hu hs hw hF
    have e47h := (hF 259 47 (by decide)).trans e47
    refine kx_go 3 (pc' := 7) (L' := [(3, .inl (Int32.ofNat s)), (1, .inr (.inl (Int64.ofNat (SM s)))), (0, .inr (.inr (.inl (some 259))))]) (S' := [.inr (.inr (.inl (some 259))), .inl (Int32.ofNat 1), .inl (Int32.ofNat s)]) (h' := h) (by with_unfolding_all rfl) ?_
    refine kx_getf (c := 259) (v := .inl (Int32.ofNat (K))) rfl (by decide) e47h ?_
    refine kx_go 1 (pc' := 11) (L' := [(3, .inl (Int32.ofNat s)), (1, .inr (.inl (Int64.ofNat (SM s)))), (0, .inr (.inr (.inl (some 259))))]) (S' := [.inl ((Int32.ofNat 1) <<< ((Int32.ofNat (K)) &&& 31)), .inl (Int32.ofNat s)]) (h' := h) (by with_unfolding_all rfl) ?_
    rw [fk_shl (show K < 10 by omega), ← eP]
    refine kx_go 1 (pc' := (if kc_cnd .ge (Int32.ofNat s).toInt (Int32.ofNat P).toInt then 179 else 14)) (L' := [(3, .inl (Int32.ofNat s)), (1, .inr (.inl (Int64.ofNat (SM s)))), (0, .inr (.inr (.inl (some 259))))]) (S' := []) (h' := h) (by with_unfolding_all rfl) ?_
    rw [if_neg (fun q => by have := (kx_ge (by omega) (by omega)).mp q; omega)]
    have e45h := (hF 259 45 (by decide)).trans e45
    have hC : fu_B B h := fs_B_f (fun x => hF 260 x (by decide)) hC0
    have eT : mk_M (fs_co B D n) (fs_as B) L L s = mk_T (fs_co B D n) (fs_as B) L s (fun _ => false) := mk_M_T
    have eSs := eSS s
    have fin : ∀ (z i : Nat) (b : Bool) (h : kc_H), fk_ms z (mk_M (fs_co B D n) (fs_as B) L L s) → kd_wt kd_ty h → fs_rx h0 h → b = ms_any (fun i => fk_so (fs_ev B) M (fun s => ms_s (ms_v (fun l i => fa_w B l i) (fs_Ot (fs_F B D n) (fs_E B D n) z)) c s i L)) n → kc_Ev g (d + 4) wk_m147 (fun rv h' => rv = some (.inr (.inl (Int64.ofNat (mk_ch (fs_co B D n) (fs_as B) (fs_F B D n) (fs_E B D n) (fun l i => fa_w B l i) L M n (fs_ev B) c)))) ∧ kd_wt kd_ty h' ∧ fs_rx h0 h') 159 [(8, .inl (Int32.ofNat i)), (7, .inl (kp_b (b))), (5, .inr (.inl (Int64.ofNat (wf s L)))), (4, .inl (Int32.ofNat z)), (3, .inl (Int32.ofNat s)), (1, .inr (.inl (Int64.ofNat (SM s)))), (0, .inr (.inr (.inl (some 259))))] [] h := by
      intro z i b h hz hw hF eb
      have so := fk_sore (F := (fs_F B D n)) (E := (fs_E B D n)) (W := (fun l i => fa_w B l i)) (L := L) (M := M) (n := n) (even := fs_ev B) (c := c) hz hL
      rw [← eb, eT] at so
      have go : ∀ v : Nat, v = wf s L * mk_f (fs_F B D n) (fs_E B D n) (fun l i => fa_w B l i) L M n (fs_ev B) c (mk_T (fs_co B D n) (fs_as B) L s (fun _ => false)) → kc_Ev g (d + 4) wk_m147 (fun rv h' => rv = some (.inr (.inl (Int64.ofNat (mk_ch (fs_co B D n) (fs_as B) (fs_F B D n) (fs_E B D n) (fun l i => fa_w B l i) L M n (fs_ev B) c)))) ∧ kd_wt kd_ty h' ∧ fs_rx h0 h') 171 [(8, .inl (Int32.ofNat i)), (7, .inl (kp_b (b))), (5, .inr (.inl (Int64.ofNat (wf s L)))), (4, .inl (Int32.ofNat z)), (3, .inl (Int32.ofNat s)), (1, .inr (.inl (Int64.ofNat (SM s)))), (0, .inr (.inr (.inl (some 259))))] [.inr (.inl (Int64.ofNat v)), .inr (.inl (Int64.ofNat (SM s)))] h := by
        intro v ev
        refine kx_go 4 (pc' := 4) (L' := [(3, .inl ((Int32.ofNat s) + Int32.ofInt 1)), (1, .inr (.inl ((Int64.ofNat (SM s)) + (Int64.ofNat v)))), (8, .inl (Int32.ofNat i)), (7, .inl (kp_b (b))), (5, .inr (.inl (Int64.ofNat (wf s L)))), (4, .inl (Int32.ofNat z)), (0, .inr (.inr (.inl (some 259))))]) (S' := []) (h' := h) (by with_unfolding_all rfl) ?_
        rw [kx_inc, fs_ja, ev, ← eSs]
        refine kf_lo (L := [(3, .inl (Int32.ofNat (s + 1))), (1, .inr (.inl (Int64.ofNat (SM (s + 1))))), (0, .inr (.inr (.inl (some 259))))]) (by intro q hq; simp only [List.mem_cons, List.not_mem_nil, or_false] at hq; rcases hq with rfl | rfl | rfl <;> rfl) ?_
        exact ih (s + 1) h (by omega) (by omega) hw hF
      refine kx_go 3 (pc' := (if kc_cnd .eq (kp_b (b)).toInt 0 then 169 else 165)) (L' := [(8, .inl (Int32.ofNat i)), (7, .inl (kp_b (b))), (5, .inr (.inl (Int64.ofNat (wf s L)))), (4, .inl (Int32.ofNat z)), (3, .inl (Int32.ofNat s)), (1, .inr (.inl (Int64.ofNat (SM s)))), (0, .inr (.inr (.inl (some 259))))]) (S' := [.inr (.inl (Int64.ofNat (SM s)))]) (h' := h) (by with_unfolding_all rfl) ?_
      cases b with
      | true =>
        rw [if_neg fa_b0t]
        refine kx_go 2 (pc' := 171) (L' := [(8, .inl (Int32.ofNat i)), (7, .inl (kp_b (true))), (5, .inr (.inl (Int64.ofNat (wf s L)))), (4, .inl (Int32.ofNat z)), (3, .inl (Int32.ofNat s)), (1, .inr (.inl (Int64.ofNat (SM s)))), (0, .inr (.inr (.inl (some 259))))]) (S' := [.inr (.inl (Int64.ofNat 0)), .inr (.inl (Int64.ofNat (SM s)))]) (h' := h) (by with_unfolding_all rfl) ?_
        exact go 0 (by unfold mk_f; rw [if_neg (so.mp rfl), Nat.mul_zero])
      | false =>
        rw [if_pos (kx_b0.mpr rfl)]
        refine kx_go 1 (pc' := 171) (L' := [(8, .inl (Int32.ofNat i)), (7, .inl (kp_b (false))), (5, .inr (.inl (Int64.ofNat (wf s L)))), (4, .inl (Int32.ofNat z)), (3, .inl (Int32.ofNat s)), (1, .inr (.inl (Int64.ofNat (SM s)))), (0, .inr (.inr (.inl (some 259))))]) (S' := [.inr (.inl (Int64.ofNat (wf s L))), .inr (.inl (Int64.ofNat (SM s)))]) (h' := h) (by with_unfolding_all rfl) ?_
        exact go _ (by unfold mk_f; rw [if_pos (Decidable.byContradiction (fun q => by have := so.mpr q; cases this)), Nat.mul_one])
    have legs : ∀ (z : Nat), fk_ms z (mk_M (fs_co B D n) (fs_as B) L L s) → ∀ (v i : Nat) (h : kc_H), n - i = v → i ≤ n → kd_wt kd_ty h → fs_rx h0 h → kc_Ev g (d + 4) wk_m147 (fun rv h' => rv = some (.inr (.inl (Int64.ofNat (mk_ch (fs_co B D n) (fs_as B) (fs_F B D n) (fs_E B D n) (fun l i => fa_w B l i) L M n (fs_ev B) c)))) ∧ kd_wt kd_ty h' ∧ fs_rx h0 h') 123 [(8, .inl (Int32.ofNat i)), (7, .inl (kp_b (ms_any (fun i => fk_so (fs_ev B) M (fun s => ms_s (ms_v (fun l i => fa_w B l i) (fs_Ot (fs_F B D n) (fs_E B D n) z)) c s i L)) i))), (5, .inr (.inl (Int64.ofNat (wf s L)))), (4, .inl (Int32.ofNat z)), (3, .inl (Int32.ofNat s)), (1, .inr (.inl (Int64.ofNat (SM s)))), (0, .inr (.inr (.inl (some 259))))] [] h := by
      intro z hz v
      induction v with
      | zero =>
        intro i h hv hi hw hF
        have hC : fu_B B h := fs_B_f (fun x => hF 260 x (by decide)) hC0
        refine kx_go 2 (pc' := 126) (L' := [(8, .inl (Int32.ofNat i)), (7, .inl (kp_b (ms_any (fun i => fk_so (fs_ev B) M (fun s => ms_s (ms_v (fun l i => fa_w B l i) (fs_Ot (fs_F B D n) (fs_E B D n) z)) c s i L)) i))), (5, .inr (.inl (Int64.ofNat (wf s L)))), (4, .inl (Int32.ofNat z)), (3, .inl (Int32.ofNat s)), (1, .inr (.inl (Int64.ofNat (SM s)))), (0, .inr (.inr (.inl (some 259))))]) (S' := [.inr (.inr (.inl (some 259))), .inl (Int32.ofNat i)]) (h' := h) (by with_unfolding_all rfl) ?_
        refine kx_getf (c := 259) (v := .inr (.inr (.inl (some 260)))) rfl (by decide) (kx_ofr (hw _ _ _ fs_k259_0)) ?_
        refine kx_go 1 (pc' := 130) (L' := [(8, .inl (Int32.ofNat i)), (7, .inl (kp_b (ms_any (fun i => fk_so (fs_ev B) M (fun s => ms_s (ms_v (fun l i => fa_w B l i) (fs_Ot (fs_F B D n) (fs_E B D n) z)) c s i L)) i))), (5, .inr (.inl (Int64.ofNat (wf s L)))), (4, .inl (Int32.ofNat z)), (3, .inl (Int32.ofNat s)), (1, .inr (.inl (Int64.ofNat (SM s)))), (0, .inr (.inr (.inl (some 259))))]) (S' := [.inl (Int32.ofNat 3), .inr (.inr (.inl (some 260))), .inl (Int32.ofNat i)]) (h' := h) (by with_unfolding_all rfl) ?_
        refine kx_iald (c := 260) (j := 3) (m := 650) (v := .inl (Int32.ofNat n)) rfl rfl (by decide) (by decide) (by omega) ((hC 3 (by decide) (by decide)).trans (by rw [en])) ?_
        refine kx_go 1 (pc' := (if kc_cnd .ge (Int32.ofNat i).toInt (Int32.ofNat n).toInt then 159 else 134)) (L' := [(8, .inl (Int32.ofNat i)), (7, .inl (kp_b (ms_any (fun i => fk_so (fs_ev B) M (fun s => ms_s (ms_v (fun l i => fa_w B l i) (fs_Ot (fs_F B D n) (fs_E B D n) z)) c s i L)) i))), (5, .inr (.inl (Int64.ofNat (wf s L)))), (4, .inl (Int32.ofNat z)), (3, .inl (Int32.ofNat s)), (1, .inr (.inl (Int64.ofNat (SM s)))), (0, .inr (.inr (.inl (some 259))))]) (S' := []) (h' := h) (by with_unfolding_all rfl) ?_
        rw [if_pos ((kx_ge (by omega) (by omega)).mpr (by omega))]
        obtain rfl : i = n := by omega
        exact fin z i _ h hz hw hF rfl
      | succ v ihv =>
        intro i h hv hi hw hF
        have hC : fu_B B h := fs_B_f (fun x => hF 260 x (by decide)) hC0
        refine kx_go 2 (pc' := 126) (L' := [(8, .inl (Int32.ofNat i)), (7, .inl (kp_b (ms_any (fun i => fk_so (fs_ev B) M (fun s => ms_s (ms_v (fun l i => fa_w B l i) (fs_Ot (fs_F B D n) (fs_E B D n) z)) c s i L)) i))), (5, .inr (.inl (Int64.ofNat (wf s L)))), (4, .inl (Int32.ofNat z)), (3, .inl (Int32.ofNat s)), (1, .inr (.inl (Int64.ofNat (SM s)))), (0, .inr (.inr (.inl (some 259))))]) (S' := [.inr (.inr (.inl (some 259))), .inl (Int32.ofNat i)]) (h' := h) (by with_unfolding_all rfl) ?_
        refine kx_getf (c := 259) (v := .inr (.inr (.inl (some 260)))) rfl (by decide) (kx_ofr (hw _ _ _ fs_k259_0)) ?_
        refine kx_go 1 (pc' := 130) (L' := [(8, .inl (Int32.ofNat i)), (7, .inl (kp_b (ms_any (fun i => fk_so (fs_ev B) M (fun s => ms_s (ms_v (fun l i => fa_w B l i) (fs_Ot (fs_F B D n) (fs_E B D n) z)) c s i L)) i))), (5, .inr (.inl (Int64.ofNat (wf s L)))), (4, .inl (Int32.ofNat z)), (3, .inl (Int32.ofNat s)), (1, .inr (.inl (Int64.ofNat (SM s)))), (0, .inr (.inr (.inl (some 259))))]) (S' := [.inl (Int32.ofNat 3), .inr (.inr (.inl (some 260))), .inl (Int32.ofNat i)]) (h' := h) (by with_unfolding_all rfl) ?_
        refine kx_iald (c := 260) (j := 3) (m := 650) (v := .inl (Int32.ofNat n)) rfl rfl (by decide) (by decide) (by omega) ((hC 3 (by decide) (by decide)).trans (by rw [en])) ?_
        refine kx_go 1 (pc' := (if kc_cnd .ge (Int32.ofNat i).toInt (Int32.ofNat n).toInt then 159 else 134)) (L' := [(8, .inl (Int32.ofNat i)), (7, .inl (kp_b (ms_any (fun i => fk_so (fs_ev B) M (fun s => ms_s (ms_v (fun l i => fa_w B l i) (fs_Ot (fs_F B D n) (fs_E B D n) z)) c s i L)) i))), (5, .inr (.inl (Int64.ofNat (wf s L)))), (4, .inl (Int32.ofNat z)), (3, .inl (Int32.ofNat s)), (1, .inr (.inl (Int64.ofNat (SM s)))), (0, .inr (.inr (.inl (some 259))))]) (S' := []) (h' := h) (by with_unfolding_all rfl) ?_
        rw [if_neg (fun q => by have := (kx_ge (by omega) (by omega)).mp q; omega)]
        refine kx_go 2 (pc' := (if kc_cnd .ne (kp_b (ms_any (fun i => fk_so (fs_ev B) M (fun s => ms_s (ms_v (fun l i => fa_w B l i) (fs_Ot (fs_F B D n) (fs_E B D n) z)) c s i L)) i)).toInt 0 then 159 else 139)) (L' := [(8, .inl (Int32.ofNat i)), (7, .inl (kp_b (ms_any (fun i => fk_so (fs_ev B) M (fun s => ms_s (ms_v (fun l i => fa_w B l i) (fs_Ot (fs_F B D n) (fs_E B D n) z)) c s i L)) i))), (5, .inr (.inl (Int64.ofNat (wf s L)))), (4, .inl (Int32.ofNat z)), (3, .inl (Int32.ofNat s)), (1, .inr (.inl (Int64.ofNat (SM s)))), (0, .inr (.inr (.inl (some 259))))]) (S' := []) (h' := h) (by with_unfolding_all rfl) ?_
        cases eA : ms_any (fun i => fk_so (fs_ev B) M (fun s => ms_s (ms_v (fun l i => fa_w B l i) (fs_Ot (fs_F B D n) (fs_E B D n) z)) c s i L)) i with
        | true =>
          rw [if_pos (kx_b1.mpr rfl)]
          exact fin z i true h hz hw hF (by
            have := ms_any_st eA (n - i)
            rw [show i + (n - i) = n by omega] at this
            exact this.symm)
        | false =>
          rw [if_neg (show ¬ (kc_cnd .ne (kp_b false).toInt 0 = true) from fun q => by have := kx_b1.mp q; cases this)]
          refine kx_go 3 (pc' := 144) (L' := [(8, .inl (Int32.ofNat i)), (7, .inl (kp_b (false))), (5, .inr (.inl (Int64.ofNat (wf s L)))), (4, .inl (Int32.ofNat z)), (3, .inl (Int32.ofNat s)), (1, .inr (.inl (Int64.ofNat (SM s)))), (0, .inr (.inr (.inl (some 259))))]) (S' := [.inl (Int32.ofNat z), .inl (Int32.ofNat i), .inr (.inr (.inl (some 259)))]) (h' := h) (by with_unfolding_all rfl) ?_
          have hsp2 := fs_sp_f (h' := h) (fun a y q1 q2 => hF a y (by omega)) hsp
          have hc2 : ∀ l, l < L → h 272 l = .inl (Int32.ofNat (c l)) ∧ c l < 6 := fun l hl => ⟨(hF 272 l (by decide)).trans (hc l hl).1, (hc l hl).2⟩
          refine kc_call_rule (M2 := wk_m260) (av := [.inr (.inr (.inl (some 259))), .inl (Int32.ofNat i), .inl (Int32.ofNat z)]) (r := []) rfl rfl (kc_Con_le (fs_r260 (d := d) (i := i) (t := z) (c := c) hw hg hB hC eL hL (show i < 5 by omega) hz.1 hE hsp2 hc2) (by omega)) (fun rv h2 hq => ?_)
          obtain ⟨rfl, hw2, hr2, hF2⟩ := hq
          show kc_Ev g (d + 4) wk_m147 _ 147 [(8, .inl (Int32.ofNat i)), (7, .inl (kp_b (false))), (5, .inr (.inl (Int64.ofNat (wf s L)))), (4, .inl (Int32.ofNat z)), (3, .inl (Int32.ofNat s)), (1, .inr (.inl (Int64.ofNat (SM s)))), (0, .inr (.inr (.inl (some 259))))] [] h2
          have hC2 : fu_B B h2 := fs_B_f (fun x => hF2 260 x (by decide)) hC
          refine kx_go 1 (pc' := 148) (L' := [(8, .inl (Int32.ofNat i)), (7, .inl (kp_b (false))), (5, .inr (.inl (Int64.ofNat (wf s L)))), (4, .inl (Int32.ofNat z)), (3, .inl (Int32.ofNat s)), (1, .inr (.inl (Int64.ofNat (SM s)))), (0, .inr (.inr (.inl (some 259))))]) (S' := [.inr (.inr (.inl (some 259)))]) (h' := h2) (by with_unfolding_all rfl) ?_
          refine kc_call_rule (M2 := wk_m262) (av := [.inr (.inr (.inl (some 259)))]) (r := []) rfl rfl (kc_Con_le (fk_r262 (d := d) (X := fun s => ms_s (ms_v (fun l i => fa_w B l i) (fs_Ot (fs_F B D n) (fs_E B D n) z)) c s i L) hg hw2 hC2 hB hM eM (fun s => (fs_sbt hB hL (Nat.le_refl L)).1) (fun s hs => (hr2 s hs).1)) (by omega)) (fun rv hcc hq => ?_)
          obtain ⟨rfl, e9⟩ := hq
          rw [e9]
          clear e9
          show kc_Ev g (d + 4) wk_m147 _ 151 [(8, .inl (Int32.ofNat i)), (7, .inl (kp_b (false))), (5, .inr (.inl (Int64.ofNat (wf s L)))), (4, .inl (Int32.ofNat z)), (3, .inl (Int32.ofNat s)), (1, .inr (.inl (Int64.ofNat (SM s)))), (0, .inr (.inr (.inl (some 259))))] [.inl (kp_b (fk_so (fs_ev B) M (fun s => ms_s (ms_v (fun l i => fa_w B l i) (fs_Ot (fs_F B D n) (fs_E B D n) z)) c s i L)))] h2
          refine kx_go 3 (pc' := 123) (L' := [(8, .inl ((Int32.ofNat i) + Int32.ofInt 1)), (7, .inl (kp_b (fk_so (fs_ev B) M (fun s => ms_s (ms_v (fun l i => fa_w B l i) (fs_Ot (fs_F B D n) (fs_E B D n) z)) c s i L)))), (5, .inr (.inl (Int64.ofNat (wf s L)))), (4, .inl (Int32.ofNat z)), (3, .inl (Int32.ofNat s)), (1, .inr (.inl (Int64.ofNat (SM s)))), (0, .inr (.inr (.inl (some 259))))]) (S' := []) (h' := h2) (by with_unfolding_all rfl) ?_
          have eN : ms_any (fun i => fk_so (fs_ev B) M (fun s => ms_s (ms_v (fun l i => fa_w B l i) (fs_Ot (fs_F B D n) (fs_E B D n) z)) c s i L)) (i + 1) = fk_so (fs_ev B) M (fun s => ms_s (ms_v (fun l i => fa_w B l i) (fs_Ot (fs_F B D n) (fs_E B D n) z)) c s i L) := by
            show (ms_any (fun i => fk_so (fs_ev B) M (fun s => ms_s (ms_v (fun l i => fa_w B l i) (fs_Ot (fs_F B D n) (fs_E B D n) z)) c s i L)) i || fk_so (fs_ev B) M (fun s => ms_s (ms_v (fun l i => fa_w B l i) (fs_Ot (fs_F B D n) (fs_E B D n) z)) c s i L)) = _
            rw [eA, Bool.false_or]
          rw [kx_inc, ← eN]
          refine kf_lo (L := [(8, .inl (Int32.ofNat (i + 1))), (7, .inl (kp_b (ms_any (fun i => fk_so (fs_ev B) M (fun s => ms_s (ms_v (fun l i => fa_w B l i) (fs_Ot (fs_F B D n) (fs_E B D n) z)) c s i L)) (i + 1)))), (5, .inr (.inl (Int64.ofNat (wf s L)))), (4, .inl (Int32.ofNat z)), (3, .inl (Int32.ofNat s)), (1, .inr (.inl (Int64.ofNat (SM s)))), (0, .inr (.inr (.inl (some 259))))]) (by intro q hq; simp only [List.mem_cons, List.not_mem_nil, or_false] at hq; rcases hq with rfl | rfl | rfl | rfl | rfl | rfl | rfl <;> rfl) ?_
          exact ihv (i + 1) h2 (by omega) (by omega) hw2 (fun a y ha => (hF2 a y ha).trans (hF a y ha))
    have inner : ∀ (v k z l : Nat), K - k = v → k ≤ K → mk_k (fs_co B D n) (fs_as B) l = k → fk_ms z (mk_M (fs_co B D n) (fs_as B) L l s) → kc_Ev g (d + 4) wk_m147 (fun rv h' => rv = some (.inr (.inl (Int64.ofNat (mk_ch (fs_co B D n) (fs_as B) (fs_F B D n) (fs_E B D n) (fun l i => fa_w B l i) L M n (fs_ev B) c)))) ∧ kd_wt kd_ty h' ∧ fs_rx h0 h') 26 [(7, .inl (Int32.ofNat k)), (5, .inr (.inl (Int64.ofNat (wf s l)))), (4, .inl (Int32.ofNat z)), (3, .inl (Int32.ofNat s)), (1, .inr (.inl (Int64.ofNat (SM s)))), (0, .inr (.inr (.inl (some 259))))] [] h := by
      intro v
      induction v with
      | zero =>
        intro k z l hv hk ek hz
        refine kx_go 2 (pc' := 29) (L' := [(7, .inl (Int32.ofNat k)), (5, .inr (.inl (Int64.ofNat (wf s l)))), (4, .inl (Int32.ofNat z)), (3, .inl (Int32.ofNat s)), (1, .inr (.inl (Int64.ofNat (SM s)))), (0, .inr (.inr (.inl (some 259))))]) (S' := [.inr (.inr (.inl (some 259))), .inl (Int32.ofNat k)]) (h' := h) (by with_unfolding_all rfl) ?_
        refine kx_getf (c := 259) (v := .inl (Int32.ofNat (K))) rfl (by decide) e47h ?_
        refine kx_go 1 (pc' := (if kc_cnd .ge (Int32.ofNat k).toInt (Int32.ofNat (K)).toInt then 117 else 35)) (L' := [(7, .inl (Int32.ofNat k)), (5, .inr (.inl (Int64.ofNat (wf s l)))), (4, .inl (Int32.ofNat z)), (3, .inl (Int32.ofNat s)), (1, .inr (.inl (Int64.ofNat (SM s)))), (0, .inr (.inr (.inl (some 259))))]) (S' := []) (h' := h) (by with_unfolding_all rfl) ?_
        rw [if_pos ((kx_ge (by omega) (by omega)).mpr (by omega))]
        have ek2 : mk_k (fs_co B D n) (fs_as B) l = K := by omega
        have ek2 : mk_k (fs_co B D n) (fs_as B) l = mk_k (fs_co B D n) (fs_as B) L := by omega
        rw [show wf s l = wf s L from by rw [eW, eW, mk_w_e ek2]]
        rw [mk_M_e ek2] at hz
        refine kx_go 4 (pc' := 123) (L' := [(8, .inl (Int32.ofNat 0)), (7, .inl (Int32.ofNat 0)), (5, .inr (.inl (Int64.ofNat (wf s L)))), (4, .inl (Int32.ofNat z)), (3, .inl (Int32.ofNat s)), (1, .inr (.inl (Int64.ofNat (SM s)))), (0, .inr (.inr (.inl (some 259))))]) (S' := []) (h' := h) (by with_unfolding_all rfl) ?_
        refine kf_lo (L := [(8, .inl (Int32.ofNat 0)), (7, .inl (kp_b (ms_any (fun i => fk_so (fs_ev B) M (fun s => ms_s (ms_v (fun l i => fa_w B l i) (fs_Ot (fs_F B D n) (fs_E B D n) z)) c s i L)) 0))), (5, .inr (.inl (Int64.ofNat (wf s L)))), (4, .inl (Int32.ofNat z)), (3, .inl (Int32.ofNat s)), (1, .inr (.inl (Int64.ofNat (SM s)))), (0, .inr (.inr (.inl (some 259))))]) (by intro q hq; simp only [List.mem_cons, List.not_mem_nil, or_false] at hq; rcases hq with rfl | rfl | rfl | rfl | rfl | rfl | rfl <;> rfl) ?_
        exact legs z hz n 0 h (by omega) (by omega) hw hF
      | succ v ihv =>
        intro k z l hv hk ek hz
        refine kx_go 2 (pc' := 29) (L' := [(7, .inl (Int32.ofNat k)), (5, .inr (.inl (Int64.ofNat (wf s l)))), (4, .inl (Int32.ofNat z)), (3, .inl (Int32.ofNat s)), (1, .inr (.inl (Int64.ofNat (SM s)))), (0, .inr (.inr (.inl (some 259))))]) (S' := [.inr (.inr (.inl (some 259))), .inl (Int32.ofNat k)]) (h' := h) (by with_unfolding_all rfl) ?_
        refine kx_getf (c := 259) (v := .inl (Int32.ofNat (K))) rfl (by decide) e47h ?_
        refine kx_go 1 (pc' := (if kc_cnd .ge (Int32.ofNat k).toInt (Int32.ofNat (K)).toInt then 117 else 35)) (L' := [(7, .inl (Int32.ofNat k)), (5, .inr (.inl (Int64.ofNat (wf s l)))), (4, .inl (Int32.ofNat z)), (3, .inl (Int32.ofNat s)), (1, .inr (.inl (Int64.ofNat (SM s)))), (0, .inr (.inr (.inl (some 259))))]) (S' := []) (h' := h) (by with_unfolding_all rfl) ?_
        rw [if_neg (fun q => by have := (kx_ge (by omega) (by omega)).mp q; omega)]
        obtain ⟨j, hj, ij, kj⟩ := mk_k_ex (co := (fs_co B D n)) (as := (fs_as B)) (k := k) L (by omega)
        have ek2 : mk_k (fs_co B D n) (fs_as B) l = mk_k (fs_co B D n) (fs_as B) j := by omega
        rw [show wf s l = wf s j from by rw [eW, eW, mk_w_e ek2]]
        rw [mk_M_e ek2] at hz
        have hj10 : j < 10 := by omega
        have e287 : h 287 k = .inl (Int32.ofNat j) := (hF 287 k (by decide)).trans (by rw [← kj]; exact hq j hj ij)
        have asj := has j
        have eks : mk_k (fs_co B D n) (fs_as B) (j + 1) = k + 1 := by
          show mk_k (fs_co B D n) (fs_as B) j + (if mk_is (fs_co B D n) (fs_as B) j = true then 1 else 0) = k + 1
          rw [if_pos ij, kj]
        have eMs := mk_M_t (s := s) ij hj
        rw [kj] at eMs
        have eWs : wf s (j + 1) = wf s j * (if mk_bit s k = true then 100 - fs_as B j else fs_as B j) := by
          rw [eW, eW]
          show mk_w (fs_co B D n) (fs_as B) s j * (if mk_is (fs_co B D n) (fs_as B) j = true then (if mk_bit s (mk_k (fs_co B D n) (fs_as B) j) = true then 100 - fs_as B j else fs_as B j) else 1) = _
          rw [if_pos ij, kj]
        refine kx_go 7 (pc' := (if kc_cnd .ne (((Int32.ofNat s) >>> ((Int32.ofNat k) &&& 31)) &&& (Int32.ofNat 1)).toInt (Int32.ofNat 1).toInt then 49 else 45)) (L' := [(7, .inl (Int32.ofNat k)), (5, .inr (.inl (Int64.ofNat (wf s j)))), (4, .inl (Int32.ofNat z)), (3, .inl (Int32.ofNat s)), (1, .inr (.inl (Int64.ofNat (SM s)))), (0, .inr (.inr (.inl (some 259))))]) (S' := []) (h' := h) (by with_unfolding_all rfl) ?_
        rw [fh_bit (show s < 1024 by omega) (show k < 10 by omega)]
        by_cases cb : s / 2 ^ k % 2 = 1
        · rw [if_neg (fun q => (kx_ne fh_m2 (by decide)).mp q cb)]
          have bt : mk_bit s k = true := decide_eq_true cb
          rw [if_pos bt] at eMs eWs
          refine kx_go 5 (pc' := 54) (L' := [(8, .inl (Int32.ofNat 1)), (7, .inl (Int32.ofNat k)), (5, .inr (.inl (Int64.ofNat (wf s j)))), (4, .inl (Int32.ofNat z)), (3, .inl (Int32.ofNat s)), (1, .inr (.inl (Int64.ofNat (SM s)))), (0, .inr (.inr (.inl (some 259))))]) (S' := [.inr (.inr (.inl (some 259))), .inr (.inr (.inl (some 259)))]) (h' := h) (by with_unfolding_all rfl) ?_
          refine kx_getf (c := 259) (v := .inr (.inr (.inl (some 287)))) rfl (by decide) (kx_ofr (hw _ _ _ fs_k259_46)) ?_
          refine kx_go 1 (pc' := 59) (L' := [(8, .inl (Int32.ofNat 1)), (7, .inl (Int32.ofNat k)), (5, .inr (.inl (Int64.ofNat (wf s j)))), (4, .inl (Int32.ofNat z)), (3, .inl (Int32.ofNat s)), (1, .inr (.inl (Int64.ofNat (SM s)))), (0, .inr (.inr (.inl (some 259))))]) (S' := [.inl (Int32.ofNat k), .inr (.inr (.inl (some 287))), .inr (.inr (.inl (some 259)))]) (h' := h) (by with_unfolding_all rfl) ?_
          refine kx_iald (c := 287) (j := k) (m := 10) (v := .inl (Int32.ofNat j)) rfl rfl (by decide) (by decide) (by omega) e287 ?_
          refine kx_go 1 (pc' := 61) (L' := [(8, .inl (Int32.ofNat 1)), (7, .inl (Int32.ofNat k)), (5, .inr (.inl (Int64.ofNat (wf s j)))), (4, .inl (Int32.ofNat z)), (3, .inl (Int32.ofNat s)), (1, .inr (.inl (Int64.ofNat (SM s)))), (0, .inr (.inr (.inl (some 259))))]) (S' := [.inl (Int32.ofNat 4), .inl (Int32.ofNat j), .inr (.inr (.inl (some 259)))]) (h' := h) (by with_unfolding_all rfl) ?_
          refine kc_call_rule (M2 := wk_m237) (av := [.inr (.inr (.inl (some 259))), .inl (Int32.ofNat j), .inl (Int32.ofNat 4)]) (r := []) rfl rfl (kc_Con_le (fh_r237 (d := d) (e := 4) hg hw hC hj10 (by decide)) (by omega)) (fun rv hcc hq => ?_)
          obtain ⟨rfl, e9⟩ := hq
          rw [e9]
          clear e9
          rw [fs_asB hB hj10]
          show kc_Ev g (d + 4) wk_m147 _ 64 [(8, .inl (Int32.ofNat 1)), (7, .inl (Int32.ofNat k)), (5, .inr (.inl (Int64.ofNat (wf s j)))), (4, .inl (Int32.ofNat z)), (3, .inl (Int32.ofNat s)), (1, .inr (.inl (Int64.ofNat (SM s)))), (0, .inr (.inr (.inl (some 259))))] [.inl (Int32.ofNat (fs_as B j))] h
          refine kx_go 4 (pc' := (if kc_cnd .eq (Int32.ofNat 1).toInt 0 then 85 else 73)) (L' := [(9, .inl (Int32.ofNat (fs_as B j))), (8, .inl (Int32.ofNat 1)), (7, .inl (Int32.ofNat k)), (5, .inr (.inl (Int64.ofNat (wf s j)))), (4, .inl (Int32.ofNat z)), (3, .inl (Int32.ofNat s)), (1, .inr (.inl (Int64.ofNat (SM s)))), (0, .inr (.inr (.inl (some 259))))]) (S' := [.inl (Int32.ofNat z)]) (h' := h) (by with_unfolding_all rfl) ?_
          rw [if_neg (fun q => absurd (fu_ieq.mp q) (by decide))]
          refine kx_go 2 (pc' := 75) (L' := [(9, .inl (Int32.ofNat (fs_as B j))), (8, .inl (Int32.ofNat 1)), (7, .inl (Int32.ofNat k)), (5, .inr (.inl (Int64.ofNat (wf s j)))), (4, .inl (Int32.ofNat z)), (3, .inl (Int32.ofNat s)), (1, .inr (.inl (Int64.ofNat (SM s)))), (0, .inr (.inr (.inl (some 259))))]) (S' := [.inr (.inr (.inl (some 259))), .inl (Int32.ofNat 1), .inl (Int32.ofNat z)]) (h' := h) (by with_unfolding_all rfl) ?_
          refine kx_getf (c := 259) (v := .inr (.inr (.inl (some 287)))) rfl (by decide) (kx_ofr (hw _ _ _ fs_k259_46)) ?_
          refine kx_go 1 (pc' := 80) (L' := [(9, .inl (Int32.ofNat (fs_as B j))), (8, .inl (Int32.ofNat 1)), (7, .inl (Int32.ofNat k)), (5, .inr (.inl (Int64.ofNat (wf s j)))), (4, .inl (Int32.ofNat z)), (3, .inl (Int32.ofNat s)), (1, .inr (.inl (Int64.ofNat (SM s)))), (0, .inr (.inr (.inl (some 259))))]) (S' := [.inl (Int32.ofNat k), .inr (.inr (.inl (some 287))), .inl (Int32.ofNat 1), .inl (Int32.ofNat z)]) (h' := h) (by with_unfolding_all rfl) ?_
          refine kx_iald (c := 287) (j := k) (m := 10) (v := .inl (Int32.ofNat j)) rfl rfl (by decide) (by decide) (by omega) e287 ?_
          refine kx_go 7 (pc' := (if kc_cnd .eq (Int32.ofNat 1).toInt 0 then 105 else 96)) (L' := [(4, .inl ((Int32.ofNat z) ||| ((Int32.ofNat 1) <<< ((Int32.ofNat j) &&& 31)))), (9, .inl (Int32.ofNat (fs_as B j))), (8, .inl (Int32.ofNat 1)), (7, .inl (Int32.ofNat k)), (5, .inr (.inl (Int64.ofNat (wf s j)))), (3, .inl (Int32.ofNat s)), (1, .inr (.inl (Int64.ofNat (SM s)))), (0, .inr (.inr (.inl (some 259))))]) (S' := [.inr (.inl (Int64.ofNat (wf s j)))]) (h' := h) (by with_unfolding_all rfl) ?_
          rw [if_neg (fun q => absurd (fu_ieq.mp q) (by decide))]
          refine kx_go 9 (pc' := 26) (L' := [(7, .inl ((Int32.ofNat k) + Int32.ofInt 1)), (5, .inr (.inl ((Int64.ofNat (wf s j)) * (((Int32.ofNat 100) - (Int32.ofNat (fs_as B j))).toInt64)))), (4, .inl ((Int32.ofNat z) ||| ((Int32.ofNat 1) <<< ((Int32.ofNat j) &&& 31)))), (9, .inl (Int32.ofNat (fs_as B j))), (8, .inl (Int32.ofNat 1)), (3, .inl (Int32.ofNat s)), (1, .inr (.inl (Int64.ofNat (SM s)))), (0, .inr (.inr (.inl (some 259))))]) (S' := []) (h' := h) (by with_unfolding_all rfl) ?_
          rw [kx_inc, fk_or hz.1 hj10, kx_sub (by omega), kx_i2l (by omega), fs_jm, ← eWs]
          refine kf_lo (L := [(7, .inl (Int32.ofNat (k + 1))), (5, .inr (.inl (Int64.ofNat (wf s (j + 1))))), (4, .inl (Int32.ofNat (z ||| 2 ^ j))), (3, .inl (Int32.ofNat s)), (1, .inr (.inl (Int64.ofNat (SM s)))), (0, .inr (.inr (.inl (some 259))))]) (by intro q hq; simp only [List.mem_cons, List.not_mem_nil, or_false] at hq; rcases hq with rfl | rfl | rfl | rfl | rfl | rfl <;> rfl) ?_
          exact ihv (k + 1) (z ||| 2 ^ j) (j + 1) (by omega) (by omega) eks (by rw [eMs]; exact fk_ms_or hz hj10)
        · rw [if_pos ((kx_ne fh_m2 (by decide)).mpr cb)]
          have bt : ¬ mk_bit s k = true := fun q => cb (of_decide_eq_true q)
          rw [if_neg bt] at eMs eWs
          refine kx_go 4 (pc' := 54) (L' := [(8, .inl (Int32.ofNat 0)), (7, .inl (Int32.ofNat k)), (5, .inr (.inl (Int64.ofNat (wf s j)))), (4, .inl (Int32.ofNat z)), (3, .inl (Int32.ofNat s)), (1, .inr (.inl (Int64.ofNat (SM s)))), (0, .inr (.inr (.inl (some 259))))]) (S' := [.inr (.inr (.inl (some 259))), .inr (.inr (.inl (some 259)))]) (h' := h) (by with_unfolding_all rfl) ?_
          refine kx_getf (c := 259) (v := .inr (.inr (.inl (some 287)))) rfl (by decide) (kx_ofr (hw _ _ _ fs_k259_46)) ?_
          refine kx_go 1 (pc' := 59) (L' := [(8, .inl (Int32.ofNat 0)), (7, .inl (Int32.ofNat k)), (5, .inr (.inl (Int64.ofNat (wf s j)))), (4, .inl (Int32.ofNat z)), (3, .inl (Int32.ofNat s)), (1, .inr (.inl (Int64.ofNat (SM s)))), (0, .inr (.inr (.inl (some 259))))]) (S' := [.inl (Int32.ofNat k), .inr (.inr (.inl (some 287))), .inr (.inr (.inl (some 259)))]) (h' := h) (by with_unfolding_all rfl) ?_
          refine kx_iald (c := 287) (j := k) (m := 10) (v := .inl (Int32.ofNat j)) rfl rfl (by decide) (by decide) (by omega) e287 ?_
          refine kx_go 1 (pc' := 61) (L' := [(8, .inl (Int32.ofNat 0)), (7, .inl (Int32.ofNat k)), (5, .inr (.inl (Int64.ofNat (wf s j)))), (4, .inl (Int32.ofNat z)), (3, .inl (Int32.ofNat s)), (1, .inr (.inl (Int64.ofNat (SM s)))), (0, .inr (.inr (.inl (some 259))))]) (S' := [.inl (Int32.ofNat 4), .inl (Int32.ofNat j), .inr (.inr (.inl (some 259)))]) (h' := h) (by with_unfolding_all rfl) ?_
          refine kc_call_rule (M2 := wk_m237) (av := [.inr (.inr (.inl (some 259))), .inl (Int32.ofNat j), .inl (Int32.ofNat 4)]) (r := []) rfl rfl (kc_Con_le (fh_r237 (d := d) (e := 4) hg hw hC hj10 (by decide)) (by omega)) (fun rv hcc hq => ?_)
          obtain ⟨rfl, e9⟩ := hq
          rw [e9]
          clear e9
          rw [fs_asB hB hj10]
          show kc_Ev g (d + 4) wk_m147 _ 64 [(8, .inl (Int32.ofNat 0)), (7, .inl (Int32.ofNat k)), (5, .inr (.inl (Int64.ofNat (wf s j)))), (4, .inl (Int32.ofNat z)), (3, .inl (Int32.ofNat s)), (1, .inr (.inl (Int64.ofNat (SM s)))), (0, .inr (.inr (.inl (some 259))))] [.inl (Int32.ofNat (fs_as B j))] h
          refine kx_go 4 (pc' := (if kc_cnd .eq (Int32.ofNat 0).toInt 0 then 85 else 73)) (L' := [(9, .inl (Int32.ofNat (fs_as B j))), (8, .inl (Int32.ofNat 0)), (7, .inl (Int32.ofNat k)), (5, .inr (.inl (Int64.ofNat (wf s j)))), (4, .inl (Int32.ofNat z)), (3, .inl (Int32.ofNat s)), (1, .inr (.inl (Int64.ofNat (SM s)))), (0, .inr (.inr (.inl (some 259))))]) (S' := [.inl (Int32.ofNat z)]) (h' := h) (by with_unfolding_all rfl) ?_
          rw [if_pos (fu_ieq.mpr (by decide))]
          refine kx_go 6 (pc' := (if kc_cnd .eq (Int32.ofNat 0).toInt 0 then 105 else 96)) (L' := [(4, .inl ((Int32.ofNat z) ||| (Int32.ofNat 0))), (9, .inl (Int32.ofNat (fs_as B j))), (8, .inl (Int32.ofNat 0)), (7, .inl (Int32.ofNat k)), (5, .inr (.inl (Int64.ofNat (wf s j)))), (3, .inl (Int32.ofNat s)), (1, .inr (.inl (Int64.ofNat (SM s)))), (0, .inr (.inr (.inl (some 259))))]) (S' := [.inr (.inl (Int64.ofNat (wf s j)))]) (h' := h) (by with_unfolding_all rfl) ?_
          rw [if_pos (fu_ieq.mpr (by decide))]
          refine kx_go 6 (pc' := 26) (L' := [(7, .inl ((Int32.ofNat k) + Int32.ofInt 1)), (5, .inr (.inl ((Int64.ofNat (wf s j)) * ((Int32.ofNat (fs_as B j)).toInt64)))), (4, .inl ((Int32.ofNat z) ||| (Int32.ofNat 0))), (9, .inl (Int32.ofNat (fs_as B j))), (8, .inl (Int32.ofNat 0)), (3, .inl (Int32.ofNat s)), (1, .inr (.inl (Int64.ofNat (SM s)))), (0, .inr (.inr (.inl (some 259))))]) (S' := []) (h' := h) (by with_unfolding_all rfl) ?_
          rw [kx_inc, fk_or0 hz.1, kx_i2l (by omega), fs_jm, ← eWs]
          refine kf_lo (L := [(7, .inl (Int32.ofNat (k + 1))), (5, .inr (.inl (Int64.ofNat (wf s (j + 1))))), (4, .inl (Int32.ofNat z)), (3, .inl (Int32.ofNat s)), (1, .inr (.inl (Int64.ofNat (SM s)))), (0, .inr (.inr (.inl (some 259))))]) (by intro q hq; simp only [List.mem_cons, List.not_mem_nil, or_false] at hq; rcases hq with rfl | rfl | rfl | rfl | rfl | rfl <;> rfl) ?_
          exact ihv (k + 1) z (j + 1) (by omega) (by omega) eks (by rw [eMs]; exact hz)
    refine kx_go 1 (pc' := 15) (L' := [(3, .inl (Int32.ofNat s)), (1, .inr (.inl (Int64.ofNat (SM s)))), (0, .inr (.inr (.inl (some 259))))]) (S' := [.inr (.inr (.inl (some 259)))]) (h' := h) (by with_unfolding_all rfl) ?_
    refine kx_getf (c := 259) (v := .inl (Int32.ofNat z0)) rfl (by decide) e45h ?_
    refine kx_go 5 (pc' := 26) (L' := [(7, .inl (Int32.ofNat 0)), (5, .inr (.inl (Int64.ofNat 1))), (4, .inl (Int32.ofNat z0)), (3, .inl (Int32.ofNat s)), (1, .inr (.inl (Int64.ofNat (SM s)))), (0, .inr (.inr (.inl (some 259))))]) (S' := []) (h' := h) (by with_unfolding_all rfl) ?_
    rw [show Int64.ofNat 1 = Int64.ofNat (wf s 0) from by rw [eW]; rfl]
    refine kf_lo (L := [(7, .inl (Int32.ofNat 0)), (5, .inr (.inl (Int64.ofNat (wf s 0)))), (4, .inl (Int32.ofNat z0)), (3, .inl (Int32.ofNat s)), (1, .inr (.inl (Int64.ofNat (SM s)))), (0, .inr (.inr (.inl (some 259))))]) (by intro q hq; simp only [List.mem_cons, List.not_mem_nil, or_false] at hq; rcases hq with rfl | rfl | rfl | rfl | rfl | rfl <;> rfl) ?_
    exact inner (K) 0 z0 0 (by omega) (by omega) rfl (by rw [mk_M_0]; exact hz0)
set_option maxRecDepth 20000 in
theorem fk_r147 {g : kc_G} {d : Nat} {h0 : kc_H} {B : Nat → Int32} {D : Nat → Nat} {c : Nat → Nat} {n L M : Nat} (hw0 : kd_wt kd_ty h0) (hg : kc_ok g) (hB : fu_BT B) (hC0 : fu_B B h0) (hn : n ≤ 5) (en : B 3 = Int32.ofNat n) (hL : L ≤ 10) (eL : B 2 = Int32.ofNat L) (hM : M ≤ 3) (eM : B 1 = Int32.ofNat M) (hsp : fs_sp (fs_F B D n) (fs_E B D n) (fs_co B D n) L h0) (hc : ∀ l, l < L → h0 272 l = .inl (Int32.ofNat (c l)) ∧ c l < 6) (hA : fk_AS B D n L h0) (hK : mk_k (fs_co B D n) (fs_as B) L ≤ 6) : kc_Con g (d + 5) 147 [.inr (.inr (.inl (some 259)))] h0 (fun rv h' => rv = some (.inr (.inl (Int64.ofNat (mk_ch (fs_co B D n) (fs_as B) (fs_F B D n) (fs_E B D n) (fun l i => fa_w B l i) L M n (fs_ev B) c)))) ∧ kd_wt kd_ty h' ∧ fs_rx h0 h') := by
  refine kc_Con_new hg (M := wk_m147) rfl rfl rfl (show 1 ≤ 10 by decide) ?_
  have has := fs_asl hB
  obtain ⟨SM, e1⟩ : ∃ f, f = mk_sm (fun s => mk_w (fs_co B D n) (fs_as B) s L * mk_f (fs_F B D n) (fs_E B D n) (fun l i => fa_w B l i) L M n (fs_ev B) c (mk_T (fs_co B D n) (fs_as B) L s (fun _ => false))) := ⟨_, rfl⟩
  obtain ⟨wf, e2⟩ : ∃ f : Nat → Nat → Nat, f = fun s l => mk_w (fs_co B D n) (fs_as B) s l := ⟨_, rfl⟩
  obtain ⟨K, eK⟩ : ∃ k, mk_k (fs_co B D n) (fs_as B) L = k := ⟨_, rfl⟩
  have H := fk_r147l (g := g) (d := d) (SM := SM) (wf := wf) hg hB hC0 hn en hL eL hM eM hsp hc hA eK (by rw [← eK]; exact hK) (fun s l => by rw [e2]) (fun s => by rw [e1, e2]; rfl) rfl (by rw [e1, ← eK]; exact mk_ch_s has) (2 ^ K) 0 h0 (Nat.sub_zero _) (Nat.zero_le _) hw0 (fun _ _ _ => rfl)
  have e3 : SM 0 = 0 := by rw [e1]; rfl
  rw [e3] at H
  refine kx_go 4 (pc' := 4) (L' := [(3, .inl (Int32.ofNat 0)), (1, .inr (.inl (Int64.ofNat 0))), (0, .inr (.inr (.inl (some 259))))]) (S' := []) (h' := h0) (by with_unfolding_all rfl) ?_
  refine kf_lo (L := [(3, .inl (Int32.ofNat 0)), (1, .inr (.inl (Int64.ofNat (0)))), (0, .inr (.inr (.inl (some 259))))]) (by intro q hq; simp only [List.mem_cons, List.not_mem_nil, or_false] at hq; rcases hq with rfl | rfl | rfl <;> rfl) ?_
  exact H
end
section
-- 99.zqq
/-! ===== KEEP, reference: keep ===== -/
def fk_RS (h0 : kc_H) (F E : Nat → Nat) (co : Nat → Bool) (C L M : Nat) (c : Nat → Nat) (S : ms_S) (h : kc_H) : Prop := kd_wt kd_ty h ∧ (∀ l, l < L → h 272 l = .inl (Int32.ofNat (c l))) ∧ (0 < M → ∀ l, l < L → c l < 2 * M) ∧ S.1 ≤ C + 1 ∧ (∀ l, l < L → h 278 l = .inl (Int32.ofNat (S.2 l))) ∧ ∀ a x, ¬ (a = 272 ∨ 276 ≤ a ∧ a ≤ 278) → h a x = h0 a x
theorem fk_RS_x {h0 : kc_H} {F E : Nat → Nat} {co : Nat → Bool} {C L M : Nat} {c : Nat → Nat} {S : ms_S} {h h2 : kc_H} (hw2 : kd_wt kd_ty h2) (hF : fs_rx h h2) (hR : fk_RS h0 F E co C L M c S h) : fk_RS h0 F E co C L M c S h2 := by
  obtain ⟨hw, hcd, hc6, hb, hf, hF0⟩ := hR
  exact ⟨hw2, fun l hl => (hF _ _ (by decide)).trans (hcd l hl), hc6, hb, fun l hl => (hF _ _ (by decide)).trans (hf l hl), fun a y q1 => (hF a y (by omega)).trans (hF0 a y q1)⟩
theorem fk_AS_f {B : Nat → Int32} {D : Nat → Nat} {n l : Nat} {h h' : kc_H} (hF : ∀ a x, a = 259 ∨ a = 287 → h' a x = h a x) (hA : fk_AS B D n l h) : fk_AS B D n l h' := by
  obtain ⟨⟨z, e45, hz⟩, e47, hq⟩ := hA
  exact ⟨⟨z, (hF _ _ (Or.inl rfl)).trans e45, hz⟩, (hF _ _ (Or.inl rfl)).trans e47, fun j hj hi => (hF _ _ (Or.inr rfl)).trans (hq j hj hi)⟩
theorem fk_v1 {C : Nat} : Int64.ofInt (-1) = fk_v C (C + 1) := by
  unfold fk_v
  rw [show (C : Int) - ((C + 1 : Nat) : Int) = -1 by omega]
def fk_rv (B : Nat → Int32) (D : Nat → Nat) (n L M N a C : Nat) (f : Nat → Nat) : Int32 := if (ms_it (2 * M) L (ms_J (fs_bor B D n L M) (fk_va B D n L M)) N ((fun _ => 0), (C + 1, f))).2.1 < C + 1 then Int32.ofNat ((ms_it (2 * M) L (ms_J (fs_bor B D n L M) (fk_va B D n L M)) N ((fun _ => 0), (C + 1, f))).2.2 a) else Int32.ofInt (-5)
set_option maxRecDepth 20000 in
theorem fk_r152l {C : Nat} {g : kc_G} {d : Nat} {Q : Option kc_V → kc_H → Prop} {h0 : kc_H} {B : Nat → Int32} {D : Nat → Nat} {n L M N a : Nat} {f : Nat → Nat} (eC : C = 100 ^ fk_K B D n L) (hg : kc_ok g) (hB : fu_BT B) (hC0 : fu_B B h0) (hn : n ≤ 5) (en : B 3 = Int32.ofNat n) (hL : L ≤ 10) (eL : B 2 = Int32.ofNat L) (hM : M ≤ 3) (eM : B 1 = Int32.ofNat M) (hN : N ≤ 5000) (hml : 0 < N → 0 < M ∨ L = 0) (hsp0 : fs_sp (fs_F B D n) (fs_E B D n) (fs_co B D n) L h0) (hA0 : fk_AS B D n L h0) (hK : fk_K B D n L ≤ 6) (ha : a < L) (hQ : ∀ h2 : kc_H, kd_wt kd_ty h2 → (∀ a x, ¬ a = 259 → ¬ (272 ≤ a ∧ a ≤ 278) → h2 a x = h0 a x) → Q (some (.inl (fk_rv B D n L M N a C f))) h2) : ∀ (u k : Nat) (h : kc_H), N - k = u → k ≤ N → fk_RS h0 (fs_F B D n) (fs_E B D n) (fs_co B D n) (C) L M ((ms_it (2 * M) L (ms_J (fs_bor B D n L M) (fk_va B D n L M)) k ((fun _ => 0), (C + 1, f))).1) ((ms_it (2 * M) L (ms_J (fs_bor B D n L M) (fk_va B D n L M)) k ((fun _ => 0), (C + 1, f))).2) h → kc_Ev g (d + 7) wk_m152 Q 42 [(5, .inl (Int32.ofNat k)), (3, .inr (.inl (fk_v (C) (ms_it (2 * M) L (ms_J (fs_bor B D n L M) (fk_va B D n L M)) k ((fun _ => 0), (C + 1, f))).2.1))), (2, .inl (Int32.ofNat N)), (1, .inl (Int32.ofNat a)), (0, .inr (.inr (.inl (some 259))))] [] h := by
  have hE : ∀ l, l < L → (fs_F B D n) l ≤ 5 ∧ (fs_E B D n) l ≤ 5 := fun l hl => by
    have := (fs_gb (D := D) (L := L) hB hn hL).2.2.1 l hl
    omega
  have hC12 : C ≤ 1000000000000 := by
    rw [eC]
    exact Nat.le_trans (Nat.pow_le_pow_right (by decide) hK) (by decide)
  have hCp : 0 < C := by rw [eC]; exact Nat.pow_pos (by decide)
  unfold fk_rv at hQ
  intro u
  induction u with
  | zero =>
    intro k h hu hk hR
    obtain rfl : k = N := by omega
    generalize ms_it (2 * M) L (ms_J (fs_bor B D n L M) (fk_va B D n L M)) k ((fun _ => 0), (C + 1, f)) = p0 at hR hQ ⊢
    have hw := hR.1
    have hC : fu_B B h := fs_B_f (fun x => hR.2.2.2.2.2 260 x (by omega)) hC0
    have l33 := hR.2.2.2.1
    have hv := fk_vt hC12 l33
    refine kx_go 3 (pc' := (if kc_cnd .ge (Int32.ofNat k).toInt (Int32.ofNat k).toInt then 121 else 48)) (L' := [(5, .inl (Int32.ofNat k)), (3, .inr (.inl (fk_v (C) p0.2.1))), (2, .inl (Int32.ofNat k)), (1, .inl (Int32.ofNat a)), (0, .inr (.inr (.inl (some 259))))]) (S' := []) (h' := h) (by with_unfolding_all rfl) ?_
    rw [if_pos ((kx_ge (by omega) (by omega)).mpr (by omega))]
    have z0 : (Int64.ofNat 0).toInt = 0 := by decide
    refine kx_go 4 (pc' := (if kc_cnd .ge (kc_lcmp (fk_v (C) p0.2.1) (Int64.ofNat 0)).toInt 0 then 130 else 127)) (L' := [(5, .inl (Int32.ofNat k)), (3, .inr (.inl (fk_v (C) p0.2.1))), (2, .inl (Int32.ofNat k)), (1, .inl (Int32.ofNat a)), (0, .inr (.inr (.inl (some 259))))]) (S' := []) (h' := h) (by with_unfolding_all rfl) ?_
    by_cases c : p0.2.1 < C + 1
    · rw [if_pos (fs_lge.mpr (by rw [hv, z0]; omega))]
      refine kx_go 3 (pc' := 133) (L' := [(5, .inl (Int32.ofNat k)), (3, .inr (.inl (fk_v (C) p0.2.1))), (2, .inl (Int32.ofNat k)), (1, .inl (Int32.ofNat a)), (0, .inr (.inr (.inl (some 259))))]) (S' := [.inr (.inr (.inl (some 259))), .inr (.inl (fk_v (C) p0.2.1)), .inr (.inr (.inl (some 259)))]) (h' := h) (by with_unfolding_all rfl) ?_
      have e47 : h 259 47 = .inl (Int32.ofNat (fk_K B D n L)) := (hR.2.2.2.2.2 259 47 (by omega)).trans hA0.2.1
      refine kc_call_rule (M2 := wk_m148) (av := [.inr (.inr (.inl (some 259)))]) (r := [.inr (.inl (fk_v (C) p0.2.1)), .inr (.inr (.inl (some 259)))]) rfl rfl (kc_Con_le (fk_r148 (d := d) hg (show fk_K B D n L ≤ 10 by omega) e47) (by omega)) (fun rv hcc hq => ?_)
      obtain ⟨rfl, e9⟩ := hq
      rw [e9]
      clear e9
      rw [← eC]
      show kc_Ev g (d + 7) wk_m152 _ 136 [(5, .inl (Int32.ofNat k)), (3, .inr (.inl (fk_v (C) p0.2.1))), (2, .inl (Int32.ofNat k)), (1, .inl (Int32.ofNat a)), (0, .inr (.inr (.inl (some 259))))] [.inr (.inl (Int64.ofNat (C))), .inr (.inl (fk_v (C) p0.2.1)), .inr (.inr (.inl (some 259)))] h
      have hb : ¬ Int64.ofNat (C) = 0 := fun q => by
        have q2 := congrArg Int64.toInt q
        rw [kx_tj (by omega), show (0 : Int64).toInt = 0 by decide] at q2
        omega
      refine kc_call_rule (M2 := wk_m149) (av := [.inr (.inr (.inl (some 259))), .inr (.inl (fk_v (C) p0.2.1)), .inr (.inl (Int64.ofNat (C)))]) (r := []) rfl rfl (kc_Con_le (km_tells (d := d) hg hb) (by omega)) (fun rv h4 hq => ?_)
      obtain ⟨x9, y9, rfl, e9⟩ := hq
      have hw4 : kd_wt kd_ty h4 := by rw [e9]; exact kf_wtJ (by decide +kernel) (kf_wtJ (by decide +kernel) hw)
      have hF4 : ∀ a x, ¬ a = 259 → h4 a x = h a x := fun a y q => by rw [e9]; exact (fu_ne (fun z => q z.1)).trans (fu_ne (fun z => q z.1))
      show kc_Ev g (d + 7) wk_m152 _ 139 [(5, .inl (Int32.ofNat k)), (3, .inr (.inl (fk_v (C) p0.2.1))), (2, .inl (Int32.ofNat k)), (1, .inl (Int32.ofNat a)), (0, .inr (.inr (.inl (some 259))))] [.inl (Int32.ofNat 1)] h4
      refine kx_go 2 (pc' := 141) (L' := [(5, .inl (Int32.ofNat k)), (3, .inr (.inl (fk_v (C) p0.2.1))), (2, .inl (Int32.ofNat k)), (1, .inl (Int32.ofNat a)), (0, .inr (.inr (.inl (some 259))))]) (S' := [.inr (.inr (.inl (some 259)))]) (h' := h4) (by with_unfolding_all rfl) ?_
      refine kx_getf (c := 259) (v := .inr (.inr (.inl (some 278)))) rfl (by decide) (kx_ofr (hw4 _ _ _ fs_k259_32)) ?_
      refine kx_go 1 (pc' := 145) (L' := [(5, .inl (Int32.ofNat k)), (3, .inr (.inl (fk_v (C) p0.2.1))), (2, .inl (Int32.ofNat k)), (1, .inl (Int32.ofNat a)), (0, .inr (.inr (.inl (some 259))))]) (S' := [.inl (Int32.ofNat a), .inr (.inr (.inl (some 278)))]) (h' := h4) (by with_unfolding_all rfl) ?_
      refine kx_iald (c := 278) (j := a) (m := 10) (v := .inl (Int32.ofNat (p0.2.2 a))) rfl rfl (by decide) (by decide) (by omega) ((hF4 278 a (by decide)).trans (hR.2.2.2.2.1 a ha)) ?_
      have k9 := hQ h4 hw4 (fun a y q1 q2 => (hF4 a y q1).trans (hR.2.2.2.2.2 a y (by omega)))
      rw [if_pos c] at k9
      exact kc_ret_ok rfl (rv := some (.inl (Int32.ofNat (p0.2.2 a)))) rfl k9
    · rw [if_neg (fun q => (fs_lge.mp q) (by rw [hv, z0]; omega))]
      refine kx_go 1 (pc' := 129) (L' := [(5, .inl (Int32.ofNat k)), (3, .inr (.inl (fk_v (C) p0.2.1))), (2, .inl (Int32.ofNat k)), (1, .inl (Int32.ofNat a)), (0, .inr (.inr (.inl (some 259))))]) (S' := [.inl (Int32.ofInt (-5))]) (h' := h) (by with_unfolding_all rfl) ?_
      have k9 := hQ h hw (fun a y q1 q2 => hR.2.2.2.2.2 a y (by omega))
      rw [if_neg c] at k9
      exact kc_ret_ok rfl (rv := some (.inl (Int32.ofInt (-5)))) rfl k9
  | succ u ih =>
    intro k h hu hk hR
    have est : ms_it (2 * M) L (ms_J (fs_bor B D n L M) (fk_va B D n L M)) (k + 1) ((fun _ => 0), (C + 1, f)) = (ms_nx (2 * M) L (ms_it (2 * M) L (ms_J (fs_bor B D n L M) (fk_va B D n L M)) k ((fun _ => 0), (C + 1, f))).1, (ms_J (fs_bor B D n L M) (fk_va B D n L M)) (ms_it (2 * M) L (ms_J (fs_bor B D n L M) (fk_va B D n L M)) k ((fun _ => 0), (C + 1, f))).1 (ms_it (2 * M) L (ms_J (fs_bor B D n L M) (fk_va B D n L M)) k ((fun _ => 0), (C + 1, f))).2) := ms_it_add k 1 _
    generalize ms_it (2 * M) L (ms_J (fs_bor B D n L M) (fk_va B D n L M)) k ((fun _ => 0), (C + 1, f)) = p0 at hR est ⊢
    have hw := hR.1
    have hC : fu_B B h := fs_B_f (fun x => hR.2.2.2.2.2 260 x (by omega)) hC0
    have l33 := hR.2.2.2.1
    have hv := fk_vt hC12 l33
    refine kx_go 3 (pc' := (if kc_cnd .ge (Int32.ofNat k).toInt (Int32.ofNat N).toInt then 121 else 48)) (L' := [(5, .inl (Int32.ofNat k)), (3, .inr (.inl (fk_v (C) p0.2.1))), (2, .inl (Int32.ofNat N)), (1, .inl (Int32.ofNat a)), (0, .inr (.inr (.inl (some 259))))]) (S' := []) (h' := h) (by with_unfolding_all rfl) ?_
    rw [if_neg (fun q => by have := (kx_ge (by omega) (by omega)).mp q; omega)]
    have hkp := hR
    obtain ⟨c, S⟩ := p0
    obtain ⟨-, hcd, hc6, hb, hf, hF0⟩ := hR
    have hcM : ∀ l, l < L → c l < 2 * M := fun l hl => (hml (by omega)).elim (fun q => hc6 q l hl) (fun q => by omega)
    have hc : ∀ l, l < L → h 272 l = .inl (Int32.ofNat (c l)) ∧ c l < 6 := fun l hl => ⟨hcd l hl, by have := hcM l hl; omega⟩
    have hsp := fs_sp_f (h' := h) (fun a y q1 q2 => hF0 a y (by omega)) hsp0
    have hch : mk_ch (fs_co B D n) (fs_as B) (fs_F B D n) (fs_E B D n) (fun l i => fa_w B l i) L M n (fs_ev B) c ≤ C := by rw [eC]; exact mk_ch_b (fs_asl hB)
    have eva : fk_va B D n L M c = C - mk_ch (fs_co B D n) (fs_as B) (fs_F B D n) (fs_E B D n) (fun l i => fa_w B l i) L M n (fs_ev B) c := by rw [eC]; rfl
    have l9 : S.1 ≤ C + 1 := l33
    have hv : (fk_v (C) S.1).toInt = ((C : Nat) : Int) - (S.1 : Int) := hv
    have next : ∀ (S2 : ms_S) (h : kc_H), fk_RS h0 (fs_F B D n) (fs_E B D n) (fs_co B D n) (C) L M (c) (S2) h → S2 = (ms_J (fs_bor B D n L M) (fk_va B D n L M)) c S → kc_Ev g (d + 7) wk_m152 Q 111 [(5, .inl (Int32.ofNat k)), (3, .inr (.inl (fk_v (C) S2.1))), (2, .inl (Int32.ofNat N)), (1, .inl (Int32.ofNat a)), (0, .inr (.inr (.inl (some 259))))] [] h := by
      intro S2 h hR eS
      obtain ⟨hw, hcd, hc6, hb, hf, hF0⟩ := hR
      have hC : fu_B B h := fs_B_f (fun x => hF0 260 x (by omega)) hC0
      refine kx_go 1 (pc' := 112) (L' := [(5, .inl (Int32.ofNat k)), (3, .inr (.inl (fk_v (C) S2.1))), (2, .inl (Int32.ofNat N)), (1, .inl (Int32.ofNat a)), (0, .inr (.inr (.inl (some 259))))]) (S' := [.inr (.inr (.inl (some 259)))]) (h' := h) (by with_unfolding_all rfl) ?_
      refine kc_call_rule (M2 := wk_m124) (av := [.inr (.inr (.inl (some 259)))]) (r := []) rfl rfl (kc_Con_le (fs_r124 (d := d) (c := c) hg hw hC hL hM eM eL hcd hcM) (by omega)) (fun rv h2 hq => ?_)
      obtain ⟨rfl, hw2, hcd2, hF2⟩ := hq
      show kc_Ev g (d + 7) wk_m152 _ 115 [(5, .inl (Int32.ofNat k)), (3, .inr (.inl (fk_v (C) S2.1))), (2, .inl (Int32.ofNat N)), (1, .inl (Int32.ofNat a)), (0, .inr (.inr (.inl (some 259))))] [] h2
      refine kx_go 2 (pc' := 42) (L' := [(5, .inl ((Int32.ofNat k) + Int32.ofInt 1)), (3, .inr (.inl (fk_v (C) S2.1))), (2, .inl (Int32.ofNat N)), (1, .inl (Int32.ofNat a)), (0, .inr (.inr (.inl (some 259))))]) (S' := []) (h' := h2) (by with_unfolding_all rfl) ?_
      rw [kx_inc]
      have k9 := ih (k + 1) h2 (by omega) (by omega) (by
        rw [est, ← eS]
        exact ⟨hw2, hcd2, fun q => ms_nx_lt L c (Nat.le_refl _) hcM, hb, fun l hl => (hF2 _ _ (by decide)).trans (hf l hl), fun a y q1 => (hF2 a y (by omega)).trans (hF0 a y q1)⟩)
      rw [est, ← eS] at k9
      exact k9
    refine kx_go 1 (pc' := 49) (L' := [(5, .inl (Int32.ofNat k)), (3, .inr (.inl (fk_v (C) S.1))), (2, .inl (Int32.ofNat N)), (1, .inl (Int32.ofNat a)), (0, .inr (.inr (.inl (some 259))))]) (S' := [.inr (.inr (.inl (some 259)))]) (h' := h) (by with_unfolding_all rfl) ?_
    refine kc_call_rule (M2 := wk_m106) (av := [.inr (.inr (.inl (some 259)))]) (r := []) rfl rfl (kc_Con_le (fs_r106 (d := d) (c := c) (F := (fs_F B D n)) (E := (fs_E B D n)) (co := (fs_co B D n)) hw hg hB hC hn en hL eL hM eM hE hsp hc) (by omega)) (fun rv h2 hq => ?_)
    obtain ⟨rfl, hw2, hF2⟩ := hq
    show kc_Ev g (d + 7) wk_m152 _ 52 [(5, .inl (Int32.ofNat k)), (3, .inr (.inl (fk_v (C) S.1))), (2, .inl (Int32.ofNat N)), (1, .inl (Int32.ofNat a)), (0, .inr (.inr (.inl (some 259))))] [.inl (kp_b (fs_bor B D n L M c))] h2
    have R2 := fk_RS_x hw2 hF2 hkp
    refine kx_go 1 (pc' := (if kc_cnd .eq (kp_b (fs_bor B D n L M c)).toInt 0 then 62 else 55)) (L' := [(5, .inl (Int32.ofNat k)), (3, .inr (.inl (fk_v (C) S.1))), (2, .inl (Int32.ofNat N)), (1, .inl (Int32.ofNat a)), (0, .inr (.inr (.inl (some 259))))]) (S' := []) (h' := h2) (by with_unfolding_all rfl) ?_
    cases eb : fs_bor B D n L M c with
    | false =>
      rw [if_pos (kx_b0.mpr rfl)]
      have hm1 : (Int64.ofInt (-1)).toInt = -1 := by decide
      refine kx_go 6 (pc' := (if kc_cnd .le (kc_lcmp (Int64.ofInt (-1)) (fk_v (C) S.1)).toInt 0 then 111 else 74)) (L' := [(6, .inr (.inl (Int64.ofInt (-1)))), (5, .inl (Int32.ofNat k)), (3, .inr (.inl (fk_v (C) S.1))), (2, .inl (Int32.ofNat N)), (1, .inl (Int32.ofNat a)), (0, .inr (.inr (.inl (some 259))))]) (S' := []) (h' := h2) (by with_unfolding_all rfl) ?_
      rw [if_pos (fs_lle.mpr (by rw [hv, hm1]; omega))]
      refine kf_lo (L := [(5, .inl (Int32.ofNat k)), (3, .inr (.inl (fk_v (C) S.1))), (2, .inl (Int32.ofNat N)), (1, .inl (Int32.ofNat a)), (0, .inr (.inr (.inl (some 259))))]) (by intro q hq; simp only [List.mem_cons, List.not_mem_nil, or_false] at hq; rcases hq with rfl | rfl | rfl | rfl | rfl <;> rfl) ?_
      exact next S h2 R2 (by
        unfold ms_J ms_j
        rw [if_neg (fun q => by rw [eb] at q; cases q.1)])
    | true =>
      rw [if_neg fa_b0t]
      have hC2 : fu_B B h2 := fs_B_f (fun x => hF2 260 x (by decide)) hC
      have hc2 : ∀ l, l < L → h2 272 l = .inl (Int32.ofNat (c l)) ∧ c l < 6 := fun l hl => ⟨R2.2.1 l hl, (hc l hl).2⟩
      have hsp2 := fs_sp_f (h' := h2) (fun a y q1 q2 => R2.2.2.2.2.2 a y (by omega)) hsp0
      have hA2 := fk_AS_f (h' := h2) (fun a y q => R2.2.2.2.2.2 a y (by omega)) hA0
      refine kx_go 1 (pc' := 56) (L' := [(5, .inl (Int32.ofNat k)), (3, .inr (.inl (fk_v (C) S.1))), (2, .inl (Int32.ofNat N)), (1, .inl (Int32.ofNat a)), (0, .inr (.inr (.inl (some 259))))]) (S' := [.inr (.inr (.inl (some 259)))]) (h' := h2) (by with_unfolding_all rfl) ?_
      refine kc_call_rule (M2 := wk_m147) (av := [.inr (.inr (.inl (some 259)))]) (r := []) rfl rfl (kc_Con_le (fk_r147 (d := d) (c := c) (D := D) hw2 hg hB hC2 hn en hL eL hM eM hsp2 hc2 hA2 hK) (by omega)) (fun rv h3 hq => ?_)
      obtain ⟨rfl, hw3, hF3⟩ := hq
      show kc_Ev g (d + 7) wk_m152 _ 59 [(5, .inl (Int32.ofNat k)), (3, .inr (.inl (fk_v (C) S.1))), (2, .inl (Int32.ofNat N)), (1, .inl (Int32.ofNat a)), (0, .inr (.inr (.inl (some 259))))] [.inr (.inl (Int64.ofNat (mk_ch (fs_co B D n) (fs_as B) (fs_F B D n) (fs_E B D n) (fun l i => fa_w B l i) L M n (fs_ev B) c)))] h3
      have R3 := fk_RS_x hw3 hF3 R2
      have hct : (Int64.ofNat (mk_ch (fs_co B D n) (fs_as B) (fs_F B D n) (fs_E B D n) (fun l i => fa_w B l i) L M n (fs_ev B) c)).toInt = ((mk_ch (fs_co B D n) (fs_as B) (fs_F B D n) (fs_E B D n) (fun l i => fa_w B l i) L M n (fs_ev B) c : Nat) : Int) := kx_tj (by omega)
      refine kx_go 6 (pc' := (if kc_cnd .le (kc_lcmp (Int64.ofNat (mk_ch (fs_co B D n) (fs_as B) (fs_F B D n) (fs_E B D n) (fun l i => fa_w B l i) L M n (fs_ev B) c)) (fk_v (C) S.1)).toInt 0 then 111 else 74)) (L' := [(6, .inr (.inl (Int64.ofNat (mk_ch (fs_co B D n) (fs_as B) (fs_F B D n) (fs_E B D n) (fun l i => fa_w B l i) L M n (fs_ev B) c)))), (5, .inl (Int32.ofNat k)), (3, .inr (.inl (fk_v (C) S.1))), (2, .inl (Int32.ofNat N)), (1, .inl (Int32.ofNat a)), (0, .inr (.inr (.inl (some 259))))]) (S' := []) (h' := h3) (by with_unfolding_all rfl) ?_
      by_cases cw : fk_va B D n L M c < S.1
      · rw [if_neg (fun q => (fs_lle.mp q) (by rw [hv, hct]; omega))]
        have eJ : (ms_J (fs_bor B D n L M) (fk_va B D n L M)) c S = (fk_va B D n L M c, c) := if_pos ⟨eb, cw⟩
        obtain ⟨-, hcd3, -, -, -, hF30⟩ := R3
        have cpy : ∀ (v l : Nat) (h : kc_H), L - l = v → l ≤ L → kd_wt kd_ty h → (∀ j, j < l → h 278 j = .inl (Int32.ofNat (c j))) → (∀ a x, ¬ a = 278 → h a x = h3 a x) → kc_Ev g (d + 7) wk_m152 Q 80 [(8, .inl (Int32.ofNat l)), (3, .inr (.inl (Int64.ofNat (mk_ch (fs_co B D n) (fs_as B) (fs_F B D n) (fs_E B D n) (fun l i => fa_w B l i) L M n (fs_ev B) c)))), (5, .inl (Int32.ofNat k)), (2, .inl (Int32.ofNat N)), (1, .inl (Int32.ofNat a)), (0, .inr (.inr (.inl (some 259))))] [] h := by
          intro v
          induction v with
          | zero =>
            intro l h hv hl hw hz hF
            have hC : fu_B B h := fs_B_f (fun x => (hF 260 x (by decide)).trans (hF30 260 x (by omega))) hC0
            refine kx_go 2 (pc' := 83) (L' := [(8, .inl (Int32.ofNat l)), (3, .inr (.inl (Int64.ofNat (mk_ch (fs_co B D n) (fs_as B) (fs_F B D n) (fs_E B D n) (fun l i => fa_w B l i) L M n (fs_ev B) c)))), (5, .inl (Int32.ofNat k)), (2, .inl (Int32.ofNat N)), (1, .inl (Int32.ofNat a)), (0, .inr (.inr (.inl (some 259))))]) (S' := [.inr (.inr (.inl (some 259))), .inl (Int32.ofNat l)]) (h' := h) (by with_unfolding_all rfl) ?_
            refine kx_getf (c := 259) (v := .inr (.inr (.inl (some 260)))) rfl (by decide) (kx_ofr (hw _ _ _ fs_k259_0)) ?_
            refine kx_go 1 (pc' := 87) (L' := [(8, .inl (Int32.ofNat l)), (3, .inr (.inl (Int64.ofNat (mk_ch (fs_co B D n) (fs_as B) (fs_F B D n) (fs_E B D n) (fun l i => fa_w B l i) L M n (fs_ev B) c)))), (5, .inl (Int32.ofNat k)), (2, .inl (Int32.ofNat N)), (1, .inl (Int32.ofNat a)), (0, .inr (.inr (.inl (some 259))))]) (S' := [.inl (Int32.ofNat 2), .inr (.inr (.inl (some 260))), .inl (Int32.ofNat l)]) (h' := h) (by with_unfolding_all rfl) ?_
            refine kx_iald (c := 260) (j := 2) (m := 650) (v := .inl (Int32.ofNat L)) rfl rfl (by decide) (by decide) (by omega) ((hC 2 (by decide) (by decide)).trans (by rw [eL])) ?_
            refine kx_go 1 (pc' := (if kc_cnd .ge (Int32.ofNat l).toInt (Int32.ofNat L).toInt then 111 else 91)) (L' := [(8, .inl (Int32.ofNat l)), (3, .inr (.inl (Int64.ofNat (mk_ch (fs_co B D n) (fs_as B) (fs_F B D n) (fs_E B D n) (fun l i => fa_w B l i) L M n (fs_ev B) c)))), (5, .inl (Int32.ofNat k)), (2, .inl (Int32.ofNat N)), (1, .inl (Int32.ofNat a)), (0, .inr (.inr (.inl (some 259))))]) (S' := []) (h' := h) (by with_unfolding_all rfl) ?_
            rw [if_pos ((kx_ge (by omega) (by omega)).mpr (by omega)), show Int64.ofNat (mk_ch (fs_co B D n) (fs_as B) (fs_F B D n) (fs_E B D n) (fun l i => fa_w B l i) L M n (fs_ev B) c) = fk_v (C) (fk_va B D n L M c) from by rw [eva, fk_vv hch]]
            refine kf_lo (L := [(5, .inl (Int32.ofNat k)), (3, .inr (.inl (fk_v (C) (fk_va B D n L M c)))), (2, .inl (Int32.ofNat N)), (1, .inl (Int32.ofNat a)), (0, .inr (.inr (.inl (some 259))))]) (by intro q hq; simp only [List.mem_cons, List.not_mem_nil, or_false] at hq; rcases hq with rfl | rfl | rfl | rfl | rfl <;> rfl) ?_
            refine next (fk_va B D n L M c, c) h ⟨hw, fun j hj => (hF 272 j (by omega)).trans (hcd3 j hj), hc6, ?_, fun j hj => hz j (by omega), fun a y q1 => (hF a y (by omega)).trans (hF30 a y q1)⟩ eJ.symm
            show fk_va B D n L M c ≤ C + 1
            omega
          | succ v ihv =>
            intro l h hv hl hw hz hF
            have hC : fu_B B h := fs_B_f (fun x => (hF 260 x (by decide)).trans (hF30 260 x (by omega))) hC0
            refine kx_go 2 (pc' := 83) (L' := [(8, .inl (Int32.ofNat l)), (3, .inr (.inl (Int64.ofNat (mk_ch (fs_co B D n) (fs_as B) (fs_F B D n) (fs_E B D n) (fun l i => fa_w B l i) L M n (fs_ev B) c)))), (5, .inl (Int32.ofNat k)), (2, .inl (Int32.ofNat N)), (1, .inl (Int32.ofNat a)), (0, .inr (.inr (.inl (some 259))))]) (S' := [.inr (.inr (.inl (some 259))), .inl (Int32.ofNat l)]) (h' := h) (by with_unfolding_all rfl) ?_
            refine kx_getf (c := 259) (v := .inr (.inr (.inl (some 260)))) rfl (by decide) (kx_ofr (hw _ _ _ fs_k259_0)) ?_
            refine kx_go 1 (pc' := 87) (L' := [(8, .inl (Int32.ofNat l)), (3, .inr (.inl (Int64.ofNat (mk_ch (fs_co B D n) (fs_as B) (fs_F B D n) (fs_E B D n) (fun l i => fa_w B l i) L M n (fs_ev B) c)))), (5, .inl (Int32.ofNat k)), (2, .inl (Int32.ofNat N)), (1, .inl (Int32.ofNat a)), (0, .inr (.inr (.inl (some 259))))]) (S' := [.inl (Int32.ofNat 2), .inr (.inr (.inl (some 260))), .inl (Int32.ofNat l)]) (h' := h) (by with_unfolding_all rfl) ?_
            refine kx_iald (c := 260) (j := 2) (m := 650) (v := .inl (Int32.ofNat L)) rfl rfl (by decide) (by decide) (by omega) ((hC 2 (by decide) (by decide)).trans (by rw [eL])) ?_
            refine kx_go 1 (pc' := (if kc_cnd .ge (Int32.ofNat l).toInt (Int32.ofNat L).toInt then 111 else 91)) (L' := [(8, .inl (Int32.ofNat l)), (3, .inr (.inl (Int64.ofNat (mk_ch (fs_co B D n) (fs_as B) (fs_F B D n) (fs_E B D n) (fun l i => fa_w B l i) L M n (fs_ev B) c)))), (5, .inl (Int32.ofNat k)), (2, .inl (Int32.ofNat N)), (1, .inl (Int32.ofNat a)), (0, .inr (.inr (.inl (some 259))))]) (S' := []) (h' := h) (by with_unfolding_all rfl) ?_
            rw [if_neg (fun q => by have := (kx_ge (by omega) (by omega)).mp q; omega)]
            have e72 : h 272 l = .inl (Int32.ofNat (c l)) := (hF 272 l (by omega)).trans (hcd3 l (by omega))
            refine kx_go 1 (pc' := 92) (L' := [(8, .inl (Int32.ofNat l)), (3, .inr (.inl (Int64.ofNat (mk_ch (fs_co B D n) (fs_as B) (fs_F B D n) (fs_E B D n) (fun l i => fa_w B l i) L M n (fs_ev B) c)))), (5, .inl (Int32.ofNat k)), (2, .inl (Int32.ofNat N)), (1, .inl (Int32.ofNat a)), (0, .inr (.inr (.inl (some 259))))]) (S' := [.inr (.inr (.inl (some 259)))]) (h' := h) (by with_unfolding_all rfl) ?_
            refine kx_getf (c := 259) (v := .inr (.inr (.inl (some 278)))) rfl (by decide) (kx_ofr (hw _ _ _ fs_k259_32)) ?_
            refine kx_go 2 (pc' := 98) (L' := [(8, .inl (Int32.ofNat l)), (3, .inr (.inl (Int64.ofNat (mk_ch (fs_co B D n) (fs_as B) (fs_F B D n) (fs_E B D n) (fun l i => fa_w B l i) L M n (fs_ev B) c)))), (5, .inl (Int32.ofNat k)), (2, .inl (Int32.ofNat N)), (1, .inl (Int32.ofNat a)), (0, .inr (.inr (.inl (some 259))))]) (S' := [.inr (.inr (.inl (some 259))), .inl (Int32.ofNat l), .inr (.inr (.inl (some 278)))]) (h' := h) (by with_unfolding_all rfl) ?_
            refine kx_getf (c := 259) (v := .inr (.inr (.inl (some 272)))) rfl (by decide) (kx_ofr (hw _ _ _ fs_k259_26)) ?_
            refine kx_go 1 (pc' := 103) (L' := [(8, .inl (Int32.ofNat l)), (3, .inr (.inl (Int64.ofNat (mk_ch (fs_co B D n) (fs_as B) (fs_F B D n) (fs_E B D n) (fun l i => fa_w B l i) L M n (fs_ev B) c)))), (5, .inl (Int32.ofNat k)), (2, .inl (Int32.ofNat N)), (1, .inl (Int32.ofNat a)), (0, .inr (.inr (.inl (some 259))))]) (S' := [.inl (Int32.ofNat l), .inr (.inr (.inl (some 272))), .inl (Int32.ofNat l), .inr (.inr (.inl (some 278)))]) (h' := h) (by with_unfolding_all rfl) ?_
            refine kx_iald (c := 272) (j := l) (m := 10) (v := .inl (Int32.ofNat (c l))) rfl rfl (by decide) (by decide) (by omega) e72 ?_
            refine kx_iast (c := 278) (j := l) (m := 10) rfl rfl (by decide) (by decide) (by omega) ?_
            refine kx_go 2 (pc' := 80) (L' := [(8, .inl ((Int32.ofNat l) + Int32.ofInt 1)), (3, .inr (.inl (Int64.ofNat (mk_ch (fs_co B D n) (fs_as B) (fs_F B D n) (fs_E B D n) (fun l i => fa_w B l i) L M n (fs_ev B) c)))), (5, .inl (Int32.ofNat k)), (2, .inl (Int32.ofNat N)), (1, .inl (Int32.ofNat a)), (0, .inr (.inr (.inl (some 259))))]) (S' := []) (h' := (kc_upd h 278 l (.inl (Int32.ofNat (c l))))) (by with_unfolding_all rfl) ?_
            rw [kx_inc]
            refine kf_lo (L := [(8, .inl (Int32.ofNat (l + 1))), (3, .inr (.inl (Int64.ofNat (mk_ch (fs_co B D n) (fs_as B) (fs_F B D n) (fs_E B D n) (fun l i => fa_w B l i) L M n (fs_ev B) c)))), (5, .inl (Int32.ofNat k)), (2, .inl (Int32.ofNat N)), (1, .inl (Int32.ofNat a)), (0, .inr (.inr (.inl (some 259))))]) (by intro q hq; simp only [List.mem_cons, List.not_mem_nil, or_false] at hq; rcases hq with rfl | rfl | rfl | rfl | rfl | rfl <;> rfl) ?_
            refine ihv (l + 1) _ (by omega) (by omega) (fs_w1 (v := some (c l)) (fs_k273.2.2.2.2.2.2.1 l (by omega)) (fun k' q => by cases q; have := hc l (by omega); omega) (by decide) hw) (fun j hj => ?_) (fun a y ha => (fu_ne (fun q => ha q.1)).trans (hF a y ha))
            by_cases e : j = l
            · rw [e]; exact fu_eq
            · exact (fu_ne (fun q => e q.2)).trans (hz j (by omega))
        refine kx_go 4 (pc' := 80) (L' := [(8, .inl (Int32.ofNat 0)), (3, .inr (.inl (Int64.ofNat (mk_ch (fs_co B D n) (fs_as B) (fs_F B D n) (fs_E B D n) (fun l i => fa_w B l i) L M n (fs_ev B) c)))), (6, .inr (.inl (Int64.ofNat (mk_ch (fs_co B D n) (fs_as B) (fs_F B D n) (fs_E B D n) (fun l i => fa_w B l i) L M n (fs_ev B) c)))), (5, .inl (Int32.ofNat k)), (2, .inl (Int32.ofNat N)), (1, .inl (Int32.ofNat a)), (0, .inr (.inr (.inl (some 259))))]) (S' := []) (h' := h3) (by with_unfolding_all rfl) ?_
        refine kf_lo (L := [(8, .inl (Int32.ofNat 0)), (3, .inr (.inl (Int64.ofNat (mk_ch (fs_co B D n) (fs_as B) (fs_F B D n) (fs_E B D n) (fun l i => fa_w B l i) L M n (fs_ev B) c)))), (5, .inl (Int32.ofNat k)), (2, .inl (Int32.ofNat N)), (1, .inl (Int32.ofNat a)), (0, .inr (.inr (.inl (some 259))))]) (by intro q hq; simp only [List.mem_cons, List.not_mem_nil, or_false] at hq; rcases hq with rfl | rfl | rfl | rfl | rfl | rfl <;> rfl) ?_
        exact cpy L 0 h3 (by omega) (by omega) hw3 (fun j hj => by omega) (fun _ _ _ => rfl)
      · rw [if_pos (fs_lle.mpr (by rw [hv, hct]; omega))]
        refine kf_lo (L := [(5, .inl (Int32.ofNat k)), (3, .inr (.inl (fk_v (C) S.1))), (2, .inl (Int32.ofNat N)), (1, .inl (Int32.ofNat a)), (0, .inr (.inr (.inl (some 259))))]) (by intro q hq; simp only [List.mem_cons, List.not_mem_nil, or_false] at hq; rcases hq with rfl | rfl | rfl | rfl | rfl <;> rfl) ?_
        exact next S h3 R3 (by
          unfold ms_J ms_j
          rw [if_neg (fun q => cw q.2)])
set_option maxRecDepth 20000 in
theorem fk_r152 {g : kc_G} {d : Nat} {h : kc_H} {B : Nat → Int32} {n L M : Nat} {a : Int32} (hg : kc_ok g) (hw : kd_wt kd_ty h) (hC : fu_B B h) (hB : fu_BT B) (hn : n ≤ 5) (en : B 3 = Int32.ofNat n) (hM : M ≤ 3) (eM : B 1 = Int32.ofNat M) (hL : L ≤ 10) (eL : B 2 = Int32.ofNat L) (hdl : ∀ i j, i < n → j < n → fs_D B n i = fs_D B n j → i = j) : kc_Con g (d + 8) 152 [.inr (.inr (.inl (some 259))), .inl a] h (fun rv h' => rv = some (.inl (fk_kp B (fs_D B n) n L M a)) ∧ kd_wt kd_ty h' ∧ ∀ a x, ¬ a = 259 → ¬ (272 ≤ a ∧ a ≤ 278) → ¬ a = 287 → h' a x = h a x) := by
  have z2 : (B 2).toInt - 1 = (L : Int) - 1 := by rw [eL, kx_ti (by omega)]
  unfold fk_kp
  refine kc_Con_new hg (M := wk_m152) rfl rfl rfl (show 2 ≤ 9 by decide) ?_
  refine kx_go 2 (pc' := 2) (L' := [(0, .inr (.inr (.inl (some 259)))), (1, .inl (a))]) (S' := [.inl (a), .inr (.inr (.inl (some 259)))]) (h' := h) (by with_unfolding_all rfl) ?_
  refine kc_call_rule (M2 := wk_m48) (av := [.inr (.inr (.inl (some 259))), .inl (a)]) (r := []) rfl rfl (kc_Con_le (fu_r48 (d := 0) hg hw hC hB) (by omega)) (fun rv hcc hq => ?_)
  obtain ⟨rfl, e9⟩ := hq
  rw [e9]
  clear e9
  show kc_Ev g (d + 7) wk_m152 _ 5 [(0, .inr (.inr (.inl (some 259)))), (1, .inl (a))] [.inl (kp_b (fu_in a 0 ((B 2).toInt - 1)))] h
  refine kx_go 1 (pc' := (if kc_cnd .ne (kp_b (fu_in a 0 ((B 2).toInt - 1))).toInt 0 then 11 else 8)) (L' := [(0, .inr (.inr (.inl (some 259)))), (1, .inl (a))]) (S' := []) (h' := h) (by with_unfolding_all rfl) ?_
  rw [z2]
  cases e2 : fu_in a 0 ((L : Int) - 1) with
  | false =>
    rw [if_neg (show ¬ (kc_cnd .ne (kp_b false).toInt 0 = true) from fun q => by have := kx_b1.mp q; cases this), if_neg Bool.false_ne_true]
    refine kx_go 1 (pc' := 10) (L' := [(0, .inr (.inr (.inl (some 259)))), (1, .inl (a))]) (S' := [.inl (Int32.ofInt (-10))]) (h' := h) (by with_unfolding_all rfl) ?_
    exact kc_ret_ok rfl (rv := some (.inl (Int32.ofInt (-10)))) rfl ⟨rfl, hw, fun _ _ _ _ _ => rfl⟩
  | true =>
    rw [if_pos (kx_b1.mpr rfl), if_pos rfl]
    obtain ⟨l, hl9, el, -, hl⟩ := fu_in_n (u := 9) e2 (Int.le_refl 0) (by omega)
    subst el
    rw [kx_ti (show l < 2147483648 by omega), Int.toNat_natCast]
    unfold fk_kv
    have b := fs_hn_b hM L
    refine kx_go 1 (pc' := 12) (L' := [(0, .inr (.inr (.inl (some 259)))), (1, .inl (Int32.ofNat l))]) (S' := [.inr (.inr (.inl (some 259)))]) (h' := h) (by with_unfolding_all rfl) ?_
    refine kc_call_rule (M2 := wk_m121) (av := [.inr (.inr (.inl (some 259)))]) (r := []) rfl rfl (kc_Con_le (fs_r121 (d := d) hg hw hC hM eM hL eL) (by omega)) (fun rv hcc hq => ?_)
    obtain ⟨rfl, e9⟩ := hq
    rw [e9]
    clear e9
    show kc_Ev g (d + 7) wk_m152 _ 15 [(0, .inr (.inr (.inl (some 259)))), (1, .inl (Int32.ofNat l))] [.inl (fs_hv M L)] h
    refine kx_go 4 (pc' := (if kc_cnd .eq (fs_hv M L).toInt (Int32.ofInt (-1)).toInt then 28 else 21)) (L' := [(2, .inl (fs_hv M L)), (0, .inr (.inr (.inl (some 259)))), (1, .inl (Int32.ofNat l))]) (S' := []) (h' := h) (by with_unfolding_all rfl) ?_
    by_cases c : 5000 < fs_hn M L
    · rw [show fs_hv M L = Int32.ofInt (-1) from if_pos c, if_pos kx_m1, if_pos c]
      refine kx_go 1 (pc' := 30) (L' := [(2, .inl (Int32.ofInt (-1))), (0, .inr (.inr (.inl (some 259)))), (1, .inl (Int32.ofNat l))]) (S' := [.inl (Int32.ofInt (-20))]) (h' := h) (by with_unfolding_all rfl) ?_
      exact kc_ret_ok rfl (rv := some (.inl (Int32.ofInt (-20)))) rfl ⟨rfl, hw, fun _ _ _ _ _ => rfl⟩
    · rw [show fs_hv M L = Int32.ofNat (fs_hn M L) from if_neg c, if_neg (kx_nm1 (by omega)), if_neg c]
      refine kx_go 1 (pc' := 22) (L' := [(2, .inl (Int32.ofNat (fs_hn M L))), (0, .inr (.inr (.inl (some 259)))), (1, .inl (Int32.ofNat l))]) (S' := [.inr (.inr (.inl (some 259)))]) (h' := h) (by with_unfolding_all rfl) ?_
      refine kc_call_rule (M2 := wk_m146) (av := [.inr (.inr (.inl (some 259)))]) (r := []) rfl rfl (kc_Con_le (fk_r146 (d := d) (D := fs_D B n) (n := n) hw hg hB hC hL eL hn en (fun k hk => fs_Dv hB hn hk) (fun k => fs_Dl hB hn k) hdl) (by omega)) (fun rv h1 hq => ?_)
      obtain ⟨rfl, hw1, hsp1, hA1, hF1⟩ := hq
      show kc_Ev g (d + 7) wk_m152 _ 25 [(2, .inl (Int32.ofNat (fs_hn M L))), (0, .inr (.inr (.inl (some 259)))), (1, .inl (Int32.ofNat l))] [.inl (kp_b (decide (mk_k (fs_co B (fs_D B n) n) (fs_as B) L < 7)))] h1
      refine kx_go 1 (pc' := (if kc_cnd .ne (kp_b (decide (mk_k (fs_co B (fs_D B n) n) (fs_as B) L < 7))).toInt 0 then 31 else 28)) (L' := [(2, .inl (Int32.ofNat (fs_hn M L))), (0, .inr (.inr (.inl (some 259)))), (1, .inl (Int32.ofNat l))]) (S' := []) (h' := h1) (by with_unfolding_all rfl) ?_
      by_cases c6 : 6 < fk_K B (fs_D B n) n L
      · rw [decide_eq_false (show ¬ mk_k (fs_co B (fs_D B n) n) (fs_as B) L < 7 from fun q => by have c6 : 6 < mk_k (fs_co B (fs_D B n) n) (fs_as B) L := c6; omega), if_neg (show ¬ (kc_cnd .ne (kp_b false).toInt 0 = true) from fun q => by have := kx_b1.mp q; cases this), if_pos c6]
        refine kx_go 1 (pc' := 30) (L' := [(2, .inl (Int32.ofNat (fs_hn M L))), (0, .inr (.inr (.inl (some 259)))), (1, .inl (Int32.ofNat l))]) (S' := [.inl (Int32.ofInt (-20))]) (h' := h1) (by with_unfolding_all rfl) ?_
        exact kc_ret_ok rfl (rv := some (.inl (Int32.ofInt (-20)))) rfl ⟨rfl, hw1, fun a y q1 q2 q3 => hF1 a y (fun q => q1 q.1) (by omega) q3⟩
      · rw [decide_eq_true (show mk_k (fs_co B (fs_D B n) n) (fs_as B) L < 7 from Nat.lt_succ_of_le (Nat.le_of_not_lt c6)), if_pos (kx_b1.mpr rfl), if_neg c6]
        have hC1 : fu_B B h1 := fs_B_f (fun x => hF1 260 x (by omega) (by omega) (by omega)) hC
        obtain ⟨f, hf⟩ := fs_fnd2 (c := 278) hw1 hL fs_k273.2.2.2.2.2.2.1
        have ep := fs_hn_pow L (show fs_hn M L ≤ 5000 by omega)
        have hml : 0 < fs_hn M L → 0 < M ∨ L = 0 := fun q => by
          rcases Nat.eq_zero_or_pos M with e | e
          · rw [ep, e] at q
            cases L with
            | zero => exact Or.inr rfl
            | succ L => rw [Nat.mul_zero, Nat.zero_pow (Nat.succ_pos L)] at q; omega
          · exact Or.inl e
        have h22 := fk_T_2 (B := B) (D := fs_D B n) (n := n) (L := L) (M := M) (v := 100 ^ fk_K B (fs_D B n) n L + 1) (f := f) (g := fun _ => 0)
        have eT : (ms_it (2 * M) L (ms_J (fs_bor B (fs_D B n) n L M) (fk_va B (fs_D B n) n L M)) (fs_hn M L) ((fun _ => 0), (100 ^ fk_K B (fs_D B n) n L + 1, f))).2 = fk_T B (fs_D B n) n L M (100 ^ fk_K B (fs_D B n) n L + 1) f := by
          rw [ep]
          exact ms_it_all
        refine kx_go 3 (pc' := 36) (L' := [(3, .inr (.inl (Int64.ofInt (-1)))), (2, .inl (Int32.ofNat (fs_hn M L))), (0, .inr (.inr (.inl (some 259)))), (1, .inl (Int32.ofNat l))]) (S' := [.inr (.inr (.inl (some 259)))]) (h' := h1) (by with_unfolding_all rfl) ?_
        refine kc_call_rule (M2 := wk_m123) (av := [.inr (.inr (.inl (some 259)))]) (r := []) rfl rfl (kc_Con_le (fs_r123 (d := d) hg hw1 hC1 hL eL) (by omega)) (fun rv h3 hq => ?_)
        obtain ⟨rfl, hw3, hz3, hF3⟩ := hq
        show kc_Ev g (d + 7) wk_m152 _ 39 [(3, .inr (.inl (Int64.ofInt (-1)))), (2, .inl (Int32.ofNat (fs_hn M L))), (0, .inr (.inr (.inl (some 259)))), (1, .inl (Int32.ofNat l))] [] h3
        refine kx_go 2 (pc' := 42) (L' := [(5, .inl (Int32.ofNat 0)), (3, .inr (.inl (Int64.ofInt (-1)))), (2, .inl (Int32.ofNat (fs_hn M L))), (0, .inr (.inr (.inl (some 259)))), (1, .inl (Int32.ofNat l))]) (S' := []) (h' := h3) (by with_unfolding_all rfl) ?_
        rw [fk_v1 (C := 100 ^ fk_K B (fs_D B n) n L)]
        refine kf_lo (L := [(5, .inl (Int32.ofNat 0)), (3, .inr (.inl (fk_v (100 ^ fk_K B (fs_D B n) n L) (100 ^ fk_K B (fs_D B n) n L + 1)))), (2, .inl (Int32.ofNat (fs_hn M L))), (1, .inl (Int32.ofNat l)), (0, .inr (.inr (.inl (some 259))))]) (by intro q hq; simp only [List.mem_cons, List.not_mem_nil, or_false] at hq; rcases hq with rfl | rfl | rfl | rfl | rfl <;> rfl) ?_
        have hC3 : fu_B B h3 := fs_B_f (fun x => hF3 260 x (by omega)) hC1
        have er : fk_rv B (fs_D B n) n L M (fs_hn M L) l (100 ^ fk_K B (fs_D B n) n L) f = if (fk_T B (fs_D B n) n L M (100 ^ fk_K B (fs_D B n) n L + 1) (fun _ => 0)).1 < 100 ^ fk_K B (fs_D B n) n L + 1 then Int32.ofNat ((fk_T B (fs_D B n) n L M (100 ^ fk_K B (fs_D B n) n L + 1) (fun _ => 0)).2 l) else Int32.ofInt (-5) := by
          unfold fk_rv
          rw [eT, ← h22.1]
          by_cases q : (fk_T B (fs_D B n) n L M (100 ^ fk_K B (fs_D B n) n L + 1) f).1 < 100 ^ fk_K B (fs_D B n) n L + 1
          · rw [if_pos q, if_pos q, h22.2 q]
          · rw [if_neg q, if_neg q]
        rw [← er]
        refine fk_r152l (g := g) (d := d) (h0 := h3) (D := fs_D B n) (N := fs_hn M L) (a := l) (f := f) (C := 100 ^ fk_K B (fs_D B n) n L) rfl hg hB hC3 hn en hL eL hM eM (by omega) hml (fs_sp_f (fun a y q1 q2 => hF3 a y (by omega)) hsp1) (fk_AS_f (fun a y q => hF3 a y (by omega)) hA1) (Nat.le_of_not_lt c6) (by omega) ?_ (fs_hn M L) 0 h3 (by omega) (by omega) ⟨hw3, fun l hl => hz3 l hl, fun q l hl => by show 0 < 2 * M; omega, Nat.le_refl _, fun l hl => (hF3 278 l (by omega)).trans (hf l hl), fun _ _ _ => rfl⟩
        intro h9 w9 f9
        exact ⟨rfl, w9, fun a y q1 q2 q3 => (f9 a y q1 q2).trans ((hF3 a y (by omega)).trans (hF1 a y (fun q => q1 q.1) (by omega) q3))⟩
theorem fk_keep {h h' : kc_H} (hI : fu_I h) (hw : kd_wt kd_ty h') (e : ∀ c x, ¬ (204 ≤ c ∧ c ≤ 252) → ¬ (264 ≤ c ∧ c ≤ 288) → ¬ c = 259 → ¬ c = 0 → h' c x = h c x) : fu_I h' := by
  obtain ⟨B, hC, hR⟩ := hI.2.1
  exact fu_now hI hw ⟨B, fun j hj ht => (e _ _ (by have := fs_p31 j hj; omega) (by have := fs_p31 j hj; omega) (by have := fs_p31 j hj; omega) (by omega)).trans (hC j hj ht), fun j hj ht => (e 260 _ (by decide) (by decide) (by decide) (by decide)).trans (hR j hj ht)⟩ (fun c i c1 c2 => e c i (by omega) (by omega) (by omega) (by omega)) (fun c i q => e c i (by omega) (by omega) (by omega) (by omega)) (kI_eq (e 260 _ (by decide) (by decide) (by decide) (by decide)) (fun i _ => e 260 _ (by decide) (by decide) (by decide) (by decide)) hI.2.2.2.2.2.1)
theorem fU_Xkeep {g : kc_G} {h : kc_H} {a : Int32} (hg : kc_ok g) (hI : fu_I h) : kc_Con g 30 151 [.inr (.inr (.inl (some 0))), .inl a] h (fun rv h1 => ∃ z : Int32, rv = some (.inl z) ∧ kc_Con g 30 152 [.inr (.inr (.inl (some 259))), .inl a] h1 (fun rv2 h2 => rv2 = some (.inl z) ∧ fu_I h2)) := by
  obtain ⟨B, hC, hR⟩ := hI.2.1
  have hB := fu_C_T hI.1 hC
  obtain ⟨n, hn, en⟩ := fu_n3 hB
  obtain ⟨M, hM, eM⟩ := fu_n1 hB
  obtain ⟨L, hL, eL⟩ := fu_n2 hB
  have hdl := (fs_dis hB hR hn en hI.2.2.2.2.2.1).1
  refine kc_Con_mono (kc_Con_le (fk_c151 (d := 0) hg hI.1 hC hB hn en hM eM hL eL) (by decide)) (fun rv h1 hq => ?_)
  obtain ⟨rfl, w1, f1⟩ := hq
  have R1 : fu_B B h1 := fun j hj ht => (f1 260 j (by omega) (by omega)).trans (hR j hj ht)
  refine ⟨_, rfl, kc_Con_mono (kc_Con_le (fk_r152 (d := 0) hg w1 R1 hB hn en hM eM hL eL hdl) (by decide)) (fun rv2 h2 hq => ?_)⟩
  obtain ⟨rfl, w2, f2⟩ := hq
  exact ⟨rfl, fk_keep hI w2 (fun c x q1 q2 q3 q4 => (f2 c x q3 (by omega) (by omega)).trans (f1 c x (by omega) q4))⟩
end
section
-- 99.zr
/-! ===== the law's body: cells have been made ===== -/
def kL_Ev (g : kc_G) (M : wk_M) (p : Program) (e : Env) (R : Room) (s : State) (m : MethodId) (args : Array Value) (below : List Frame) (meth : Method) (c : Code) (as : List Nat) (nc ns : Nat) (Z : State → Prop) (pc : Nat) (AL : kc_L) (AS : List kc_V) (h : kc_H) : Prop :=
  ∀ (H : Heap) (locs : List Loc) (ws : va_W) (ls : Array Slot) (lv : List (Nat × Value)) (st : List Value), va_S (kc_gA g) s.heap H locs → wk_hr (kc_gD g) (kc_gA g) s as (kc_gz g) (kc_gs g) (kc_A h) ws H → lv_has ls (wk_Ml M) lv → wk_f2 (wk_rl as (kc_gz g) (kc_gs g)) (kc_el AL) lv → wk_f2 (wk_r as (kc_gz g) (kc_gs g)) (AS.map kc_e) st → W p g.1 e R s m args below meth c H locs nc ns Z (F0 m pc ls st)
section KLE
variable {g : kc_G} {d : Nat} {M : wk_M} {p : Program} {e : Env} {R : Room} {s : State} {m : MethodId} {args : Array Value} {below : List Frame} {meth : Method} {c : Code} {as : List Nat} {nc ns : Nat} {Z : State → Prop} {pc : Nat} {AL : kc_L} {AS : List kc_V} {h : kc_H} {i : Instr} {n : Nat} {x : Nat × Nat × Int} {wd : List Nat} {t : Nat} {a : Int}
set_option maxHeartbeats 1000000 in
theorem kL_pure (hF : kc_fix g d M p R s m args meth c) (hf : wk_fetch M pc = some (pc, i, n, x, wd, t, a)) {P : kc_P} (hp : kc_pure (wk_Ml M) i x.2.2 pc AL AS = some P) (k : kL_Ev g M p e R s m args below meth c as nc ns Z P.1 P.2.1 P.2.2 h) : kL_Ev g M p e R s m args below meth c as nc ns Z pc AL AS h := by
  intro H locs ws ls lv st hS hr hl ha hs
  obtain ⟨hd, hlk, hw, hot, hoc⟩ := kc_row hF hf
  have C := hF.1
  obtain ⟨hx, hb, hml, hown, hts, hK, hA, hname, hX, hz, hzA, hLz⟩ := id C
  have hc1 : ∀ idx, i = .ldc idx ∨ i = .ldc_w idx → (Jvm.Cond.constant (wk_My M).cls idx (Int32.ofInt x.2.2)).before args s = true := by
    intro idx hi
    rcases hi with rfl | rfl
    · match wd, hw with
      | [q1], hw => exact hts _ (wk_has_in hw)
      | [], hw => cases hw
      | _ :: _ :: _, hw => cases hw
    · match wd, hw with
      | [q1], hw => exact hts _ (wk_has_in hw)
      | [], hw => cases hw
      | _ :: _ :: _, hw => cases hw
  have hc2 : ∀ idx, i = .ldc2_w idx → (Jvm.Cond.constantLong (wk_My M).cls idx (Int64.ofInt x.2.2)).before args s = true := by
    rintro idx rfl
    match wd, hw with
    | [q1], hw => exact hts _ (wk_has_in hw)
    | [], hw => cases hw
    | _ :: _ :: _, hw => cases hw
  have hbx : wk_bx (fun _ => 0) ([] : wk_I) := fun j q hj => by simp at hj
  exact wk_pure_ok (ρ := fun _ => 0) (iv := []) hx hb hown hd hlk hc1 hc2 hbx (by decide) (kc_pure_e hp) hl (kc_rhoL ha) (kc_rhoS hs) (fun ls' lv' st' hl' ha' hs' => k H locs ws ls' lv' st' hS hr hl' (kc_rhoL ha') (kc_rhoS hs'))
theorem kL_hp (hF : kc_fix g d M p R s m args meth c) (hnc : nc ≤ R.cells) (hns : ns ≤ R.slots) (hf : wk_fetch M pc = some (pc, i, n, x, wd, t, a)) {dd : Nat} {AS2 : List wk_V} (hp : wk_hp (kc_gL g) [] i x (AS.map kc_e) (kc_A h) = some (dd, AS2, none, [], 0, 0)) {AS' : List kc_V}
    (hA2 : ∀ st : List Value, wk_f2 (wk_r as (kc_gz g) (kc_gs g)) AS2 st → wk_f2 (wk_r as (kc_gz g) (kc_gs g)) (AS'.map kc_e) st) (k : kL_Ev g M p e R s m args below meth c as nc ns Z (pc + dd) AL AS' h) : kL_Ev g M p e R s m args below meth c as nc ns Z pc AL AS h := by
  intro H locs ws ls lv st hS hr hl ha hs
  obtain ⟨hd, hlk, hw, hot, hoc⟩ := kc_row hF hf
  have hbx : wk_bx (kc_gs g) ([] : wk_I) := fun j q hj => by simp at hj
  refine wk_hp_ok hF.1 hbx hd hlk hw hp hl (Nat.le_trans (by omega) hF.2.2.2.1) (Nat.le_trans (by omega) hF.2.2.2.2.1) rfl (by omega) (by omega) hr hS hs (fun H' locs' more ws' st' hS' hr' hs' hsame => ?_)
  have hmore : more = [] := kc_same hr hr' rfl
  subst hmore
  rw [List.append_nil] at hr' hs'
  exact k H' locs' ws' ls lv st' hS' hr' hl ha (hA2 st' hs')
theorem kL_call (hF : kc_fix g d M p R s m args meth c) (hnc : nc ≤ R.cells) (hns : ns ≤ R.slots) (hf : wk_fetch M pc = some (pc, i, n, x, wd, t, a)) {M2 : wk_M} {av r : List kc_V} {Q2 : Option kc_V → kc_H → Prop} (hc : kc_cl i x AS = some (M2, av, r)) (hCon : kc_Con g d x.2.1 av h Q2) (k : ∀ rv h', Q2 rv h' → kL_Ev g M p e R s m args below meth c as nc ns Z (pc + 3) AL (rv.toList ++ r) h') : kL_Ev g M p e R s m args below meth c as nc ns Z pc AL AS h := by
  intro H locs ws ls lv st hS hr hl ha hs
  obtain ⟨hd, hlk, hw, hot, hoc⟩ := kc_row hF hf
  obtain ⟨M3, m1, m2, m3, d2, hd2, hMet⟩ := hCon
  cases (kc_cl_m hc).symm.trans m1
  have key := kc_call_ok (l := g.1) (e := e) (R := R) (below := below) (cells := nc) (slots := ns) (Q := Z) (d := d2) (B := kc_Bq g Q2 as) (AH := kc_A h) hF.1 wk_mt_ok hd hlk hw hoc (kc_cl_e hc) hl (fun vals hv => by rw [m2, m3]; exact hMet as ws vals hv) (by have := hF.2.2.2.1; omega) (by have := hF.2.2.2.2.1; omega) (by rw [m2]; exact hnc) (by rw [m3]; exact hns) hr hS hs
  rw [m2, m3] at key
  refine key (fun rx t locs1 rest hrest hB hal hS1 => ?_)
  obtain ⟨rv, h1, ws1, q1, q2, q3⟩ := hB
  refine k rv h1 q1 t.heap locs1 ws1 ls lv _ hS1 (wk_hr_moved hal q3) hl ha ?_
  cases rv with
  | none =>
    cases rx with
    | none => exact hrest
    | some _ => exact q2.elim
  | some v =>
    cases rx with
    | none => exact q2.elim
    | some xv => exact ⟨q2, hrest⟩
theorem kL_pop2 (hF : kc_fix g d M p R s m args meth c) {y : Int64} (hd : decode (wk_Mb M) pc = .ok (.pop2, 1)) (k : kL_Ev g M p e R s m args below meth c as nc ns Z (pc + 1) AL AS h) : kL_Ev g M p e R s m args below meth c as nc ns Z pc AL (.inr (.inl y) :: AS) h := by
  intro H locs ws ls lv st hS hr hl ha hs
  obtain ⟨hx, hb, hml, hown, hts, hK, hA, hname, hX, hz, hzA, hLz⟩ := hF.1
  obtain ⟨y1, st0, rfl, hj1, hs0⟩ := wk_f2_cons hs
  obtain ⟨j1, rfl, a1, a2⟩ := hj1
  exact lv_pop2_2 hx hb hd rfl (k H locs ws ls lv _ hS hr hl ha hs0)
theorem kL_sc (hF : kc_fix g d M p R s m args meth c) (hnc : nc ≤ R.cells) (hns : ns ≤ R.slots) {j : Nat} (hf : wk_fetch M pc = some (pc, .iaload, n, x, wd, t, a)) (hj : j < kc_gL g) (hL : kc_gL g < 2147483648) (k : kL_Ev g M p e R s m args below meth c as nc ns Z (pc + 1) AL (.inl (kc_gs g j) :: AS) h) : kL_Ev g M p e R s m args below meth c as nc ns Z pc AL (.inl (Int32.ofNat j) :: .inr (.inr (.inr 0)) :: AS) h := by
  obtain ⟨h1, h2⟩ := kc_ix_e (kx_ix hL hj)
  refine kL_hp hF hnc hns hf (dd := 1) (AS2 := .inr (.inr (.inr (0, j))) :: AS.map kc_e) ?_ (AS' := .inl (kc_gs g j) :: AS) (fun st hst => ?_) k
  · show wk_ild (kc_gL g) [] (kc_e (.inl (Int32.ofNat j))) (.inr (.inr (.inr (2, 0)))) (AS.map kc_e) (kc_A h) = _
    unfold wk_ild
    rw [h1]
    simp only [wk_scr, cond_true, kc_blt h2]
    rfl
  · obtain ⟨y0, st1, rfl, hv, hs1⟩ := wk_f2_cons hst
    have hv : y0 = .int (kc_gs g j) := hv
    subst hv
    exact ⟨⟨_, rfl, Int.le_refl _, Int.le_refl _⟩, hs1⟩
theorem kL_len (hF : kc_fix g d M p R s m args meth c) (hnc : nc ≤ R.cells) (hns : ns ≤ R.slots) (hf : wk_fetch M pc = some (pc, .arraylength, n, x, wd, t, a)) (k : kL_Ev g M p e R s m args below meth c as nc ns Z (pc + 1) AL (.inl (Int32.ofNat (kc_gL g)) :: AS) h) : kL_Ev g M p e R s m args below meth c as nc ns Z pc AL (.inr (.inr (.inr 0)) :: AS) h := by
  refine kL_hp hF hnc hns hf (dd := 1) (AS2 := wk_sI (Int32.ofNat (kc_gL g)) :: AS.map kc_e) ?_ (AS' := .inl (Int32.ofNat (kc_gL g)) :: AS) (fun st hst => hst) k
  show wk_aln (kc_gL g) (.inr (.inr (.inr (2, 0)))) (AS.map kc_e) (kc_A h) = _
  rfl
theorem kL_lo {L : kc_L} (hs : ∀ q ∈ L, kc_get AL q.1 = some q.2) (k : kL_Ev g M p e R s m args below meth c as nc ns Z pc L AS h) : kL_Ev g M p e R s m args below meth c as nc ns Z pc AL AS h := by
  intro H locs ws ls lv st hS hr hl ha hst
  obtain ⟨lv2, h1, h2⟩ := kf_sub_f2 ha L hs
  exact k H locs ws ls lv2 st hS hr ⟨hl.1, hl.2.1, fun q hq => hl.2.2 q (h2 q hq)⟩ h1 hst
def kL_one (M : wk_M) (pc : Nat) (L : kc_L) (S : List kc_V) : Option kc_P := match wk_fetch M pc with
  | some (pc0, i, _, x, _, _, _) => if pc0 = pc then kc_pure (wk_Ml M) i x.2.2 pc L S else none
  | none => none
def kL_run (M : wk_M) : Nat → Nat → kc_L → List kc_V → Option kc_P
  | 0, pc, L, S => some (pc, L, S)
  | n + 1, pc, L, S => match kL_one M pc L S with
    | some (pc', L', S') => kL_run M n pc' L' S'
    | none => none
theorem kL_one_r (hF : kc_fix g d M p R s m args meth c) {P : kc_P} (e0 : kL_one M pc AL AS = some P) (k : kL_Ev g M p e R s m args below meth c as nc ns Z P.1 P.2.1 P.2.2 h) : kL_Ev g M p e R s m args below meth c as nc ns Z pc AL AS h := by
  unfold kL_one at e0
  split at e0
  · rename_i pc0 i n x wd t a hf
    split at e0
    · rename_i hpc
      subst hpc
      exact kL_pure hF hf e0 k
    · cases e0
  · cases e0
end KLE
theorem kL_go {g : kc_G} {d : Nat} {M : wk_M} {p : Program} {e : Env} {R : Room} {s : State} {m : MethodId} {args : Array Value} {below : List Frame} {meth : Method} {c : Code} {as : List Nat} {nc ns : Nat} {Z : State → Prop} {h : kc_H} (hF : kc_fix g d M p R s m args meth c) : ∀ (n : Nat) {pc pc' : Nat} {L L' : kc_L} {S S' : List kc_V}, kL_run M n pc L S = some (pc', L', S') → kL_Ev g M p e R s m args below meth c as nc ns Z pc' L' S' h → kL_Ev g M p e R s m args below meth c as nc ns Z pc L S h
  | 0, _, _, _, _, _, _, e0, k => by cases e0; exact k
  | n + 1, pc, pc', L, L', S, S', e0, k => by
    have e0 : (match kL_one M pc L S with
      | some (pc', L', S') => kL_run M n pc' L' S'
      | none => none) = some (pc', L', S') := e0
    cases h1 : kL_one M pc L S with
    | none => rw [h1] at e0; cases e0
    | some q =>
      obtain ⟨p1, L1, S1⟩ := q
      rw [h1] at e0
      exact kL_one_r hF h1 (kL_go hF n e0 k)
theorem kL_ret {g : kc_G} {d : Nat} {M : wk_M} {p : Program} {e : Env} {R : Room} {s : State} {m : MethodId} {args : Array Value} {below : List Frame} {meth : Method} {c : Code} {as : List Nat} {nc ns : Nat} {h : kc_H} {pc : Nat} {AL : kc_L} {n : Nat} {x : Nat × Nat × Int} {wd : List Nat} {t : Nat} {a : Int} (hF : kc_fix g d M p R s m args meth c) (hf : wk_fetch M pc = some (pc, .ireturn, n, x, wd, t, a)) (hm : wk_Mr M = some .boolean) : kL_Ev g M p e R s m args below meth c as nc ns (MQ below (kc_B (fun rx _ => rx = some (.int 1)) (kc_gA g)) args s nc ns (kc_gA g)) pc AL [.inl (Int32.ofNat 1)] h := by
  intro H locs ws ls lv st hS hr hl ha hs
  obtain ⟨hd, hlk, hw, hot, hoc⟩ := kc_row hF hf
  obtain ⟨⟨hx, hb, -⟩, hret, hlocks, -⟩ := hF
  obtain ⟨y0, st1, rfl, hv, hs1⟩ := wk_f2_cons hs
  have := wk_f2_nil hs1
  subst this
  obtain ⟨i0, rfl, a1, a2⟩ := hv
  have e1 : i0 = 1 := Int32.toInt_inj.mp (by
    have : (Int32.ofNat 1).toInt = (1 : Int32).toInt := by decide
    simp only at a1 a2
    omega)
  subst e1
  obtain rfl := Nat.eq_of_beq_eq_true hlk
  exact W.zret hx hb (hret.trans hm) rfl (fun t ht hW => ⟨⟨_, rfl, rfl⟩, hS.F ht⟩) hS.2.2 hd hlocks
end
