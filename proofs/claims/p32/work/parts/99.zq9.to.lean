section
-- 99.zq9
/-! ===== the search, reference: leg, isBorne, worstNow, codes ===== -/
/-- ON, or stays on by a bit of t -/
def fs_Ot (F E : Nat → Nat) (t l i : Nat) : Bool := decide (F l ≤ i ∧ (i < E l ∨ t / 2 ^ l % 2 = 1))
theorem fs_Ot0 {F E : Nat → Nat} : fs_Ot F E 0 = fs_O F E := by
  funext l i
  unfold fs_Ot fs_O
  rw [Nat.zero_div]
  exact decide_eq_decide.mpr ⟨fun q => ⟨q.1, q.2.elim id (fun q => by omega)⟩, fun q => ⟨q.1, Or.inl q.2⟩⟩
def fs_rc (V K : Nat → Nat → Nat) (c : Nat → Nat) (i l : Nat) (h : kc_H) : Prop := ∀ s, s < 6 → h 276 s = .inl (Int32.ofNat (ms_s V c s i l)) ∧ h 277 s = .inl (Int32.ofNat (ms_s K c s i l))
def fs_rx (h0 h : kc_H) : Prop := ∀ a x, ¬ (276 ≤ a ∧ a ≤ 277) → h a x = h0 a x
theorem fs_B_f {B : Nat → Int32} {h h' : kc_H} (hF : ∀ x, h' 260 x = h 260 x) (hC : fu_B B h) : fu_B B h' := fun j hj ht => (hF j).trans (hC j hj ht)
theorem fs_sp_f {F E : Nat → Nat} {co : Nat → Bool} {L : Nat} {h h' : kc_H} (hF : ∀ a x, 273 ≤ a → a ≤ 275 → h' a x = h a x) (hs : fs_sp F E co L h) : fs_sp F E co L h' := ⟨fun l hl => (hF _ _ (by omega) (by omega)).trans (hs.1 l hl), fun l hl => (hF _ _ (by omega) (by omega)).trans (hs.2.1 l hl), fun l hl => (hF _ _ (by omega) (by omega)).trans (hs.2.2 l hl)⟩
theorem fs_sbt {F E : Nat → Nat} {B : Nat → Int32} (hB : fu_BT B) {c : Nat → Nat} {t l s i L : Nat} (hL : L ≤ 10) (hl : l ≤ L) : ms_s (ms_v (fun l i => fa_w B l i) (fs_Ot F E t)) c s i l ≤ 990 ∧ ms_s (ms_v (fun _ _ => 1) (fs_Ot F E t)) c s i l ≤ 10 := by
  have h1 := ms_s_b (V := ms_v (fun l i => fa_w B l i) (fs_Ot F E t)) (c := c) (s := s) (i := i) (b := 99) l (fun j hj => by
    unfold ms_v
    by_cases e : fs_Ot F E t j i = true
    · rw [if_pos e]; exact fa_wl hB (by omega)
    · rw [if_neg e]; exact Nat.zero_le _)
  have h2 := ms_s_b (V := ms_v (fun _ _ => 1) (fs_Ot F E t)) (c := c) (s := s) (i := i) (b := 1) l (fun j hj => by
    unfold ms_v
    by_cases e : fs_Ot F E t j i = true
    · rw [if_pos e]; exact Nat.le_refl _
    · rw [if_neg e]; exact Nat.zero_le _)
  omega
set_option maxRecDepth 20000 in
theorem fs_r260l {g : kc_G} {d : Nat} {h0 : kc_H} {B : Nat → Int32} {F E : Nat → Nat} {co : Nat → Bool} {c : Nat → Nat} {L i t : Nat} (hg : kc_ok g) (hB : fu_BT B) (hC0 : fu_B B h0) (eL : B 2 = Int32.ofNat L) (hL : L ≤ 10) (hi : i < 5) (ht : t < 1024) (hE : ∀ l, l < L → F l ≤ 5 ∧ E l ≤ 5) (hsp : fs_sp F E co L h0) (hc : ∀ l, l < L → h0 272 l = .inl (Int32.ofNat (c l)) ∧ c l < 6) : ∀ (u l : Nat) (h : kc_H), L - l = u → l ≤ L → kd_wt kd_ty h → fs_rc (ms_v (fun l i => fa_w B l i) (fs_Ot F E t)) (ms_v (fun _ _ => 1) (fs_Ot F E t)) c i l h → fs_rx h0 h → kc_Ev g (d + 3) wk_m260 (fun rv h' => rv = none ∧ kd_wt kd_ty h' ∧ fs_rc (ms_v (fun l i => fa_w B l i) (fs_Ot F E t)) (ms_v (fun _ _ => 1) (fs_Ot F E t)) c i L h' ∧ fs_rx h0 h') 30 [(3, .inl (Int32.ofNat l)), (0, .inr (.inr (.inl (some 259)))), (1, .inl (Int32.ofNat i)), (2, .inl (Int32.ofNat t))] [] h := by
  intro u
  induction u with
  | zero =>
    intro l h hu hl hw hr hF
    have hC : fu_B B h := fs_B_f (fun x => hF 260 x (by decide)) hC0
    have en : True := trivial
    refine kx_go 2 (pc' := 32) (L' := [(3, .inl (Int32.ofNat l)), (0, .inr (.inr (.inl (some 259)))), (1, .inl (Int32.ofNat i)), (2, .inl (Int32.ofNat t))]) (S' := [.inr (.inr (.inl (some 259))), .inl (Int32.ofNat l)]) (h' := h) (by with_unfolding_all rfl) ?_
    refine kx_getf (c := 259) (v := .inr (.inr (.inl (some 260)))) rfl (by decide) (kx_ofr (hw _ _ _ fs_k259_0)) ?_
    refine kx_go 1 (pc' := 36) (L' := [(3, .inl (Int32.ofNat l)), (0, .inr (.inr (.inl (some 259)))), (1, .inl (Int32.ofNat i)), (2, .inl (Int32.ofNat t))]) (S' := [.inl (Int32.ofNat 2), .inr (.inr (.inl (some 260))), .inl (Int32.ofNat l)]) (h' := h) (by with_unfolding_all rfl) ?_
    refine kx_iald (c := 260) (j := 2) (m := 650) (v := .inl (Int32.ofNat L)) rfl rfl (by decide) (by decide) (by omega) ((hC 2 (by decide) (by decide)).trans (by rw [eL])) ?_
    refine kx_go 1 (pc' := (if kc_cnd .ge (Int32.ofNat l).toInt (Int32.ofNat L).toInt then 122 else 40)) (L' := [(3, .inl (Int32.ofNat l)), (0, .inr (.inr (.inl (some 259)))), (1, .inl (Int32.ofNat i)), (2, .inl (Int32.ofNat t))]) (S' := []) (h' := h) (by with_unfolding_all rfl) ?_
    rw [if_pos ((kx_ge (by omega) (by omega)).mpr (by omega))]
    obtain rfl : l = L := by omega
    exact kc_ret_ok rfl (rv := none) rfl ⟨rfl, hw, hr, hF⟩
  | succ u ih =>
    intro l h hu hl hw hr hF
    have hC : fu_B B h := fs_B_f (fun x => hF 260 x (by decide)) hC0
    have en : True := trivial
    refine kx_go 2 (pc' := 32) (L' := [(3, .inl (Int32.ofNat l)), (0, .inr (.inr (.inl (some 259)))), (1, .inl (Int32.ofNat i)), (2, .inl (Int32.ofNat t))]) (S' := [.inr (.inr (.inl (some 259))), .inl (Int32.ofNat l)]) (h' := h) (by with_unfolding_all rfl) ?_
    refine kx_getf (c := 259) (v := .inr (.inr (.inl (some 260)))) rfl (by decide) (kx_ofr (hw _ _ _ fs_k259_0)) ?_
    refine kx_go 1 (pc' := 36) (L' := [(3, .inl (Int32.ofNat l)), (0, .inr (.inr (.inl (some 259)))), (1, .inl (Int32.ofNat i)), (2, .inl (Int32.ofNat t))]) (S' := [.inl (Int32.ofNat 2), .inr (.inr (.inl (some 260))), .inl (Int32.ofNat l)]) (h' := h) (by with_unfolding_all rfl) ?_
    refine kx_iald (c := 260) (j := 2) (m := 650) (v := .inl (Int32.ofNat L)) rfl rfl (by decide) (by decide) (by omega) ((hC 2 (by decide) (by decide)).trans (by rw [eL])) ?_
    refine kx_go 1 (pc' := (if kc_cnd .ge (Int32.ofNat l).toInt (Int32.ofNat L).toInt then 122 else 40)) (L' := [(3, .inl (Int32.ofNat l)), (0, .inr (.inr (.inl (some 259)))), (1, .inl (Int32.ofNat i)), (2, .inl (Int32.ofNat t))]) (S' := []) (h' := h) (by with_unfolding_all rfl) ?_
    rw [if_neg (fun q => by have := (kx_ge (by omega) (by omega)).mp q; omega)]
    have hlL : l < L := by omega
    have hEl := hE l hlL
    obtain ⟨hc1, hc6⟩ := hc l hlL
    have e72 : h 272 l = .inl (Int32.ofNat (c l)) := (hF 272 l (by decide)).trans hc1
    have e73 : h 273 l = .inl (Int32.ofNat (F l)) := (hF 273 l (by decide)).trans (hsp.1 l hlL)
    have e74 : h 274 l = .inl (Int32.ofInt ((E l : Int) - 1)) := (hF 274 l (by decide)).trans (hsp.2.1 l hlL)
    have b0 := hr (c l) hc6
    have sb := fs_sbt (F := F) (E := E) (t := t) (c := c) (s := c l) (i := i) hB hL (show l ≤ L by omega)
    have tz := fs_ti (z := (E l : Int) - 1) (by omega) (by omega)
    have on : fs_Ot F E t l i = true → kc_Ev g (d + 3) wk_m260 (fun rv h' => rv = none ∧ kd_wt kd_ty h' ∧ fs_rc (ms_v (fun l i => fa_w B l i) (fs_Ot F E t)) (ms_v (fun _ _ => 1) (fs_Ot F E t)) c i L h' ∧ fs_rx h0 h') 76 [(4, .inl (Int32.ofNat 1)), (3, .inl (Int32.ofNat l)), (0, .inr (.inr (.inl (some 259)))), (1, .inl (Int32.ofNat i)), (2, .inl (Int32.ofNat t))] [] h := by
      intro eo
      have hon : ∀ W : Nat → Nat → Nat, ms_s (ms_v W (fs_Ot F E t)) c (c l) i (l + 1) = ms_s (ms_v W (fs_Ot F E t)) c (c l) i l + W l i := fun W => by
        show ms_s (ms_v W (fs_Ot F E t)) c (c l) i l + (if c l = c l then ms_v W (fs_Ot F E t) l i else 0) = _
        rw [if_pos rfl]
        unfold ms_v
        rw [if_pos eo]
      refine kx_go 2 (pc' := (if kc_cnd .eq (Int32.ofNat 1).toInt 0 then 116 else 81)) (L' := [(4, .inl (Int32.ofNat 1)), (3, .inl (Int32.ofNat l)), (0, .inr (.inr (.inl (some 259)))), (1, .inl (Int32.ofNat i)), (2, .inl (Int32.ofNat t))]) (S' := []) (h' := h) (by with_unfolding_all rfl) ?_
      rw [if_neg (fun q => by have := fu_ieq.mp q; revert this; decide)]
      refine kx_go 1 (pc' := 82) (L' := [(4, .inl (Int32.ofNat 1)), (3, .inl (Int32.ofNat l)), (0, .inr (.inr (.inl (some 259)))), (1, .inl (Int32.ofNat i)), (2, .inl (Int32.ofNat t))]) (S' := [.inr (.inr (.inl (some 259)))]) (h' := h) (by with_unfolding_all rfl) ?_
      refine kx_getf (c := 259) (v := .inr (.inr (.inl (some 276)))) rfl (by decide) (kx_ofr (hw _ _ _ fs_k259_30)) ?_
      refine kx_go 1 (pc' := 86) (L' := [(4, .inl (Int32.ofNat 1)), (3, .inl (Int32.ofNat l)), (0, .inr (.inr (.inl (some 259)))), (1, .inl (Int32.ofNat i)), (2, .inl (Int32.ofNat t))]) (S' := [.inr (.inr (.inl (some 259))), .inr (.inr (.inl (some 276)))]) (h' := h) (by with_unfolding_all rfl) ?_
      refine kx_getf (c := 259) (v := .inr (.inr (.inl (some 272)))) rfl (by decide) (kx_ofr (hw _ _ _ fs_k259_26)) ?_
      refine kx_go 1 (pc' := 90) (L' := [(4, .inl (Int32.ofNat 1)), (3, .inl (Int32.ofNat l)), (0, .inr (.inr (.inl (some 259)))), (1, .inl (Int32.ofNat i)), (2, .inl (Int32.ofNat t))]) (S' := [.inl (Int32.ofNat l), .inr (.inr (.inl (some 272))), .inr (.inr (.inl (some 276)))]) (h' := h) (by with_unfolding_all rfl) ?_
      refine kx_iald (c := 272) (j := l) (m := 10) (v := .inl (Int32.ofNat (c l))) rfl rfl (by decide) (by decide) (by omega) e72 ?_
      refine kx_go 1 (pc' := 92) (L' := [(4, .inl (Int32.ofNat 1)), (3, .inl (Int32.ofNat l)), (0, .inr (.inr (.inl (some 259)))), (1, .inl (Int32.ofNat i)), (2, .inl (Int32.ofNat t))]) (S' := [.inl (Int32.ofNat (c l)), .inr (.inr (.inl (some 276))), .inl (Int32.ofNat (c l)), .inr (.inr (.inl (some 276)))]) (h' := h) (by with_unfolding_all rfl) ?_
      refine kx_iald (c := 276) (j := c l) (m := 6) (v := .inl (Int32.ofNat (ms_s (ms_v (fun l i => fa_w B l i) (fs_Ot F E t)) c (c l) i l))) rfl rfl (by decide) (by decide) (by omega) b0.1 ?_
      refine kx_go 3 (pc' := 96) (L' := [(4, .inl (Int32.ofNat 1)), (3, .inl (Int32.ofNat l)), (0, .inr (.inr (.inl (some 259)))), (1, .inl (Int32.ofNat i)), (2, .inl (Int32.ofNat t))]) (S' := [.inl (Int32.ofNat i), .inl (Int32.ofNat l), .inr (.inr (.inl (some 259))), .inl (Int32.ofNat (ms_s (ms_v (fun l i => fa_w B l i) (fs_Ot F E t)) c (c l) i l)), .inl (Int32.ofNat (c l)), .inr (.inr (.inl (some 276)))]) (h' := h) (by with_unfolding_all rfl) ?_
      refine kc_call_rule (M2 := wk_m243) (av := [.inr (.inr (.inl (some 259))), .inl (Int32.ofNat l), .inl (Int32.ofNat i)]) (r := [.inl (Int32.ofNat (ms_s (ms_v (fun l i => fa_w B l i) (fs_Ot F E t)) c (c l) i l)), .inl (Int32.ofNat (c l)), .inr (.inr (.inl (some 276)))]) rfl rfl (kc_Con_le (fa_r243 (d := d) hg hw hC hB (show l < 10 by omega) (show i ≤ 60 by omega)) (by omega)) (fun rv hcc hq => ?_)
      obtain ⟨rfl, e9⟩ := hq
      rw [e9]
      clear e9
      show kc_Ev g (d + 3) wk_m260 _ 99 [(4, .inl (Int32.ofNat 1)), (3, .inl (Int32.ofNat l)), (0, .inr (.inr (.inl (some 259)))), (1, .inl (Int32.ofNat i)), (2, .inl (Int32.ofNat t))] [.inl (Int32.ofNat (fa_w B l i)), .inl (Int32.ofNat (ms_s (ms_v (fun l i => fa_w B l i) (fs_Ot F E t)) c (c l) i l)), .inl (Int32.ofNat (c l)), .inr (.inr (.inl (some 276)))] h
      refine kx_go 1 (pc' := 100) (L' := [(4, .inl (Int32.ofNat 1)), (3, .inl (Int32.ofNat l)), (0, .inr (.inr (.inl (some 259)))), (1, .inl (Int32.ofNat i)), (2, .inl (Int32.ofNat t))]) (S' := [.inl ((Int32.ofNat (ms_s (ms_v (fun l i => fa_w B l i) (fs_Ot F E t)) c (c l) i l)) + (Int32.ofNat (fa_w B l i))), .inl (Int32.ofNat (c l)), .inr (.inr (.inl (some 276)))]) (h' := h) (by with_unfolding_all rfl) ?_
      rw [kx_add, ← hon (fun l i => fa_w B l i)]
      refine kx_iast (c := 276) (j := c l) (m := 6) rfl rfl (by decide) (by decide) (by omega) ?_
      have hw1 : kd_wt kd_ty (kc_upd h 276 (c l) (.inl (Int32.ofNat (ms_s (ms_v (fun l i => fa_w B l i) (fs_Ot F E t)) c (c l) i (l + 1))))) := fa_wa (fs_k273.2.2.2.1 (c l) hc6) hw
      refine kx_go 1 (pc' := 102) (L' := [(4, .inl (Int32.ofNat 1)), (3, .inl (Int32.ofNat l)), (0, .inr (.inr (.inl (some 259)))), (1, .inl (Int32.ofNat i)), (2, .inl (Int32.ofNat t))]) (S' := [.inr (.inr (.inl (some 259)))]) (h' := (kc_upd h 276 (c l) (.inl (Int32.ofNat (ms_s (ms_v (fun l i => fa_w B l i) (fs_Ot F E t)) c (c l) i (l + 1)))))) (by with_unfolding_all rfl) ?_
      refine kx_getf (c := 259) (v := .inr (.inr (.inl (some 277)))) rfl (by decide) (kx_ofr (hw1 _ _ _ fs_k259_31)) ?_
      refine kx_go 1 (pc' := 106) (L' := [(4, .inl (Int32.ofNat 1)), (3, .inl (Int32.ofNat l)), (0, .inr (.inr (.inl (some 259)))), (1, .inl (Int32.ofNat i)), (2, .inl (Int32.ofNat t))]) (S' := [.inr (.inr (.inl (some 259))), .inr (.inr (.inl (some 277)))]) (h' := (kc_upd h 276 (c l) (.inl (Int32.ofNat (ms_s (ms_v (fun l i => fa_w B l i) (fs_Ot F E t)) c (c l) i (l + 1)))))) (by with_unfolding_all rfl) ?_
      refine kx_getf (c := 259) (v := .inr (.inr (.inl (some 272)))) rfl (by decide) (kx_ofr (hw1 _ _ _ fs_k259_26)) ?_
      refine kx_go 1 (pc' := 110) (L' := [(4, .inl (Int32.ofNat 1)), (3, .inl (Int32.ofNat l)), (0, .inr (.inr (.inl (some 259)))), (1, .inl (Int32.ofNat i)), (2, .inl (Int32.ofNat t))]) (S' := [.inl (Int32.ofNat l), .inr (.inr (.inl (some 272))), .inr (.inr (.inl (some 277)))]) (h' := (kc_upd h 276 (c l) (.inl (Int32.ofNat (ms_s (ms_v (fun l i => fa_w B l i) (fs_Ot F E t)) c (c l) i (l + 1)))))) (by with_unfolding_all rfl) ?_
      refine kx_iald (c := 272) (j := l) (m := 10) (v := .inl (Int32.ofNat (c l))) rfl rfl (by decide) (by decide) (by omega) ((fu_ne (by omega)).trans e72) ?_
      refine kx_go 1 (pc' := 112) (L' := [(4, .inl (Int32.ofNat 1)), (3, .inl (Int32.ofNat l)), (0, .inr (.inr (.inl (some 259)))), (1, .inl (Int32.ofNat i)), (2, .inl (Int32.ofNat t))]) (S' := [.inl (Int32.ofNat (c l)), .inr (.inr (.inl (some 277))), .inl (Int32.ofNat (c l)), .inr (.inr (.inl (some 277)))]) (h' := (kc_upd h 276 (c l) (.inl (Int32.ofNat (ms_s (ms_v (fun l i => fa_w B l i) (fs_Ot F E t)) c (c l) i (l + 1)))))) (by with_unfolding_all rfl) ?_
      refine kx_iald (c := 277) (j := c l) (m := 6) (v := .inl (Int32.ofNat (ms_s (ms_v (fun _ _ => 1) (fs_Ot F E t)) c (c l) i l))) rfl rfl (by decide) (by decide) (by omega) ((fu_ne (by omega)).trans b0.2) ?_
      refine kx_go 2 (pc' := 115) (L' := [(4, .inl (Int32.ofNat 1)), (3, .inl (Int32.ofNat l)), (0, .inr (.inr (.inl (some 259)))), (1, .inl (Int32.ofNat i)), (2, .inl (Int32.ofNat t))]) (S' := [.inl ((Int32.ofNat (ms_s (ms_v (fun _ _ => 1) (fs_Ot F E t)) c (c l) i l)) + (Int32.ofNat 1)), .inl (Int32.ofNat (c l)), .inr (.inr (.inl (some 277)))]) (h' := (kc_upd h 276 (c l) (.inl (Int32.ofNat (ms_s (ms_v (fun l i => fa_w B l i) (fs_Ot F E t)) c (c l) i (l + 1)))))) (by with_unfolding_all rfl) ?_
      rw [kx_add, ← hon (fun _ _ => 1)]
      refine kx_iast (c := 277) (j := c l) (m := 6) rfl rfl (by decide) (by decide) (by omega) ?_
      refine kx_go 2 (pc' := 30) (L' := [(3, .inl ((Int32.ofNat l) + Int32.ofInt 1)), (4, .inl (Int32.ofNat 1)), (0, .inr (.inr (.inl (some 259)))), (1, .inl (Int32.ofNat i)), (2, .inl (Int32.ofNat t))]) (S' := []) (h' := (kc_upd (kc_upd h 276 (c l) (.inl (Int32.ofNat (ms_s (ms_v (fun l i => fa_w B l i) (fs_Ot F E t)) c (c l) i (l + 1))))) 277 (c l) (.inl (Int32.ofNat (ms_s (ms_v (fun _ _ => 1) (fs_Ot F E t)) c (c l) i (l + 1)))))) (by with_unfolding_all rfl) ?_
      rw [kx_inc]
      refine kf_lo (L := [(3, .inl (Int32.ofNat (l + 1))), (0, .inr (.inr (.inl (some 259)))), (1, .inl (Int32.ofNat i)), (2, .inl (Int32.ofNat t))]) (by intro q hq; simp only [List.mem_cons, List.not_mem_nil, or_false] at hq; rcases hq with rfl | rfl | rfl | rfl <;> rfl) ?_
      refine ih (l + 1) _ (by omega) (by omega) (fa_wa (fs_k273.2.2.2.2.1 (c l) hc6) hw1) (fun s hs => ?_) (fun a y ha => (fu_ne (by omega)).trans ((fu_ne (by omega)).trans (hF a y ha)))
      by_cases e : s = c l
      · rw [e]
        exact ⟨(fu_ne (by omega)).trans fu_eq, fu_eq⟩
      · rw [fs_oth e, fs_oth e]
        exact ⟨(fu_ne (by omega)).trans ((fu_ne (fun q => e q.2)).trans (hr s hs).1), (fu_ne (fun q => e q.2)).trans ((fu_ne (by omega)).trans (hr s hs).2)⟩
    have off : fs_Ot F E t l i = false → kc_Ev g (d + 3) wk_m260 (fun rv h' => rv = none ∧ kd_wt kd_ty h' ∧ fs_rc (ms_v (fun l i => fa_w B l i) (fs_Ot F E t)) (ms_v (fun _ _ => 1) (fs_Ot F E t)) c i L h' ∧ fs_rx h0 h') 76 [(4, .inl (Int32.ofNat 0)), (3, .inl (Int32.ofNat l)), (0, .inr (.inr (.inl (some 259)))), (1, .inl (Int32.ofNat i)), (2, .inl (Int32.ofNat t))] [] h := by
      intro eo
      have hoff : ∀ (W : Nat → Nat → Nat) (s : Nat), ms_s (ms_v W (fs_Ot F E t)) c s i (l + 1) = ms_s (ms_v W (fs_Ot F E t)) c s i l := fun W s => by
        show ms_s (ms_v W (fs_Ot F E t)) c s i l + (if c l = s then ms_v W (fs_Ot F E t) l i else 0) = _
        have z : ms_v W (fs_Ot F E t) l i = 0 := if_neg (by rw [eo]; decide)
        rw [z]
        by_cases e : c l = s
        · rw [if_pos e, Nat.add_zero]
        · rw [if_neg e, Nat.add_zero]
      refine kx_go 2 (pc' := (if kc_cnd .eq (Int32.ofNat 0).toInt 0 then 116 else 81)) (L' := [(4, .inl (Int32.ofNat 0)), (3, .inl (Int32.ofNat l)), (0, .inr (.inr (.inl (some 259)))), (1, .inl (Int32.ofNat i)), (2, .inl (Int32.ofNat t))]) (S' := []) (h' := h) (by with_unfolding_all rfl) ?_
      rw [if_pos (fu_ieq.mpr (by decide))]
      refine kx_go 2 (pc' := 30) (L' := [(3, .inl ((Int32.ofNat l) + Int32.ofInt 1)), (4, .inl (Int32.ofNat 0)), (0, .inr (.inr (.inl (some 259)))), (1, .inl (Int32.ofNat i)), (2, .inl (Int32.ofNat t))]) (S' := []) (h' := h) (by with_unfolding_all rfl) ?_
      rw [kx_inc]
      refine kf_lo (L := [(3, .inl (Int32.ofNat (l + 1))), (0, .inr (.inr (.inl (some 259)))), (1, .inl (Int32.ofNat i)), (2, .inl (Int32.ofNat t))]) (by intro q hq; simp only [List.mem_cons, List.not_mem_nil, or_false] at hq; rcases hq with rfl | rfl | rfl | rfl <;> rfl) ?_
      exact ih (l + 1) h (by omega) (by omega) hw (fun s hs => by rw [hoff, hoff]; exact hr s hs) hF
    refine kx_go 2 (pc' := 42) (L' := [(3, .inl (Int32.ofNat l)), (0, .inr (.inr (.inl (some 259)))), (1, .inl (Int32.ofNat i)), (2, .inl (Int32.ofNat t))]) (S' := [.inr (.inr (.inl (some 259))), .inl (Int32.ofNat i)]) (h' := h) (by with_unfolding_all rfl) ?_
    refine kx_getf (c := 259) (v := .inr (.inr (.inl (some 273)))) rfl (by decide) (kx_ofr (hw _ _ _ fs_k259_27)) ?_
    refine kx_go 1 (pc' := 46) (L' := [(3, .inl (Int32.ofNat l)), (0, .inr (.inr (.inl (some 259)))), (1, .inl (Int32.ofNat i)), (2, .inl (Int32.ofNat t))]) (S' := [.inl (Int32.ofNat l), .inr (.inr (.inl (some 273))), .inl (Int32.ofNat i)]) (h' := h) (by with_unfolding_all rfl) ?_
    refine kx_iald (c := 273) (j := l) (m := 10) (v := .inl (Int32.ofNat (F l))) rfl rfl (by decide) (by decide) (by omega) e73 ?_
    refine kx_go 1 (pc' := (if kc_cnd .lt (Int32.ofNat i).toInt (Int32.ofNat (F l)).toInt then 73 else 50)) (L' := [(3, .inl (Int32.ofNat l)), (0, .inr (.inr (.inl (some 259)))), (1, .inl (Int32.ofNat i)), (2, .inl (Int32.ofNat t))]) (S' := []) (h' := h) (by with_unfolding_all rfl) ?_
    by_cases c1 : F l ≤ i
    · rw [if_neg (fun q => by have := (kx_lt (by omega) (by omega)).mp q; omega)]
      refine kx_go 2 (pc' := 52) (L' := [(3, .inl (Int32.ofNat l)), (0, .inr (.inr (.inl (some 259)))), (1, .inl (Int32.ofNat i)), (2, .inl (Int32.ofNat t))]) (S' := [.inr (.inr (.inl (some 259))), .inl (Int32.ofNat i)]) (h' := h) (by with_unfolding_all rfl) ?_
      refine kx_getf (c := 259) (v := .inr (.inr (.inl (some 274)))) rfl (by decide) (kx_ofr (hw _ _ _ fs_k259_28)) ?_
      refine kx_go 1 (pc' := 56) (L' := [(3, .inl (Int32.ofNat l)), (0, .inr (.inr (.inl (some 259)))), (1, .inl (Int32.ofNat i)), (2, .inl (Int32.ofNat t))]) (S' := [.inl (Int32.ofNat l), .inr (.inr (.inl (some 274))), .inl (Int32.ofNat i)]) (h' := h) (by with_unfolding_all rfl) ?_
      refine kx_iald (c := 274) (j := l) (m := 10) (v := .inl (Int32.ofInt ((E l : Int) - 1))) rfl rfl (by decide) (by decide) (by omega) e74 ?_
      refine kx_go 1 (pc' := (if kc_cnd .le (Int32.ofNat i).toInt (Int32.ofInt ((E l : Int) - 1)).toInt then 69 else 60)) (L' := [(3, .inl (Int32.ofNat l)), (0, .inr (.inr (.inl (some 259)))), (1, .inl (Int32.ofNat i)), (2, .inl (Int32.ofNat t))]) (S' := []) (h' := h) (by with_unfolding_all rfl) ?_
      by_cases c2 : i < E l
      · rw [if_pos (fu_ile.mpr (by rw [tz, kx_ti (by omega)]; omega))]
        refine kx_go 3 (pc' := 76) (L' := [(4, .inl (Int32.ofNat 1)), (3, .inl (Int32.ofNat l)), (0, .inr (.inr (.inl (some 259)))), (1, .inl (Int32.ofNat i)), (2, .inl (Int32.ofNat t))]) (S' := []) (h' := h) (by with_unfolding_all rfl) ?_
        exact on (decide_eq_true ⟨c1, Or.inl c2⟩)
      · rw [if_neg (fun q => (fu_ile.mp q) (by rw [tz, kx_ti (by omega)]; omega))]
        refine kx_go 7 (pc' := (if kc_cnd .ne (((Int32.ofNat t) >>> ((Int32.ofNat l) &&& 31)) &&& (Int32.ofNat 1)).toInt (Int32.ofNat 1).toInt then 73 else 69)) (L' := [(3, .inl (Int32.ofNat l)), (0, .inr (.inr (.inl (some 259)))), (1, .inl (Int32.ofNat i)), (2, .inl (Int32.ofNat t))]) (S' := []) (h' := h) (by with_unfolding_all rfl) ?_
        rw [fh_bit ht (by omega)]
        by_cases c3 : t / 2 ^ l % 2 = 1
        · rw [if_neg (fun q => (kx_ne fh_m2 (by decide)).mp q c3)]
          refine kx_go 3 (pc' := 76) (L' := [(4, .inl (Int32.ofNat 1)), (3, .inl (Int32.ofNat l)), (0, .inr (.inr (.inl (some 259)))), (1, .inl (Int32.ofNat i)), (2, .inl (Int32.ofNat t))]) (S' := []) (h' := h) (by with_unfolding_all rfl) ?_
          exact on (decide_eq_true ⟨c1, Or.inr c3⟩)
        · rw [if_pos ((kx_ne fh_m2 (by decide)).mpr c3)]
          refine kx_go 2 (pc' := 76) (L' := [(4, .inl (Int32.ofNat 0)), (3, .inl (Int32.ofNat l)), (0, .inr (.inr (.inl (some 259)))), (1, .inl (Int32.ofNat i)), (2, .inl (Int32.ofNat t))]) (S' := []) (h' := h) (by with_unfolding_all rfl) ?_
          exact off (decide_eq_false (fun q => q.2.elim c2 c3))
    · rw [if_pos ((kx_lt (by omega) (by omega)).mpr (by omega))]
      refine kx_go 2 (pc' := 76) (L' := [(4, .inl (Int32.ofNat 0)), (3, .inl (Int32.ofNat l)), (0, .inr (.inr (.inl (some 259)))), (1, .inl (Int32.ofNat i)), (2, .inl (Int32.ofNat t))]) (S' := []) (h' := h) (by with_unfolding_all rfl) ?_
      exact off (decide_eq_false (fun q => c1 q.1))
set_option maxRecDepth 20000 in
theorem fs_r260z {g : kc_G} {d : Nat} {h0 : kc_H} {B : Nat → Int32} {F E : Nat → Nat} {co : Nat → Bool} {c : Nat → Nat} {L i t : Nat} (hg : kc_ok g) (hB : fu_BT B) (hC0 : fu_B B h0) (eL : B 2 = Int32.ofNat L) (hL : L ≤ 10) (hi : i < 5) (ht : t < 1024) (hE : ∀ l, l < L → F l ≤ 5 ∧ E l ≤ 5) (hsp : fs_sp F E co L h0) (hc : ∀ l, l < L → h0 272 l = .inl (Int32.ofNat (c l)) ∧ c l < 6) : ∀ (u k : Nat) (h : kc_H), 6 - k = u → k ≤ 6 → kd_wt kd_ty h → (∀ s, s < k → h 276 s = .inl (Int32.ofNat 0) ∧ h 277 s = .inl (Int32.ofNat 0)) → fs_rx h0 h → kc_Ev g (d + 3) wk_m260 (fun rv h' => rv = none ∧ kd_wt kd_ty h' ∧ fs_rc (ms_v (fun l i => fa_w B l i) (fs_Ot F E t)) (ms_v (fun _ _ => 1) (fs_Ot F E t)) c i L h' ∧ fs_rx h0 h') 2 [(3, .inl (Int32.ofNat k)), (0, .inr (.inr (.inl (some 259)))), (1, .inl (Int32.ofNat i)), (2, .inl (Int32.ofNat t))] [] h := by
  intro u
  induction u with
  | zero =>
    intro k h hu hk hw hz hF
    refine kx_go 3 (pc' := (if kc_cnd .ge (Int32.ofNat k).toInt (Int32.ofNat 6).toInt then 28 else 8)) (L' := [(3, .inl (Int32.ofNat k)), (0, .inr (.inr (.inl (some 259)))), (1, .inl (Int32.ofNat i)), (2, .inl (Int32.ofNat t))]) (S' := []) (h' := h) (by with_unfolding_all rfl) ?_
    rw [if_pos ((kx_ge (by omega) (by omega)).mpr (by omega))]
    refine kx_go 2 (pc' := 30) (L' := [(3, .inl (Int32.ofNat 0)), (0, .inr (.inr (.inl (some 259)))), (1, .inl (Int32.ofNat i)), (2, .inl (Int32.ofNat t))]) (S' := []) (h' := h) (by with_unfolding_all rfl) ?_
    exact fs_r260l hg hB hC0 eL hL hi ht hE hsp hc L 0 h (by omega) (by omega) hw (fun s hs => hz s (by omega)) hF
  | succ u ih =>
    intro k h hu hk hw hz hF
    refine kx_go 3 (pc' := (if kc_cnd .ge (Int32.ofNat k).toInt (Int32.ofNat 6).toInt then 28 else 8)) (L' := [(3, .inl (Int32.ofNat k)), (0, .inr (.inr (.inl (some 259)))), (1, .inl (Int32.ofNat i)), (2, .inl (Int32.ofNat t))]) (S' := []) (h' := h) (by with_unfolding_all rfl) ?_
    rw [if_neg (fun q => by have := (kx_ge (by omega) (by omega)).mp q; omega)]
    refine kx_go 1 (pc' := 9) (L' := [(3, .inl (Int32.ofNat k)), (0, .inr (.inr (.inl (some 259)))), (1, .inl (Int32.ofNat i)), (2, .inl (Int32.ofNat t))]) (S' := [.inr (.inr (.inl (some 259)))]) (h' := h) (by with_unfolding_all rfl) ?_
    refine kx_getf (c := 259) (v := .inr (.inr (.inl (some 276)))) rfl (by decide) (kx_ofr (hw _ _ _ fs_k259_30)) ?_
    refine kx_go 2 (pc' := 14) (L' := [(3, .inl (Int32.ofNat k)), (0, .inr (.inr (.inl (some 259)))), (1, .inl (Int32.ofNat i)), (2, .inl (Int32.ofNat t))]) (S' := [.inl (Int32.ofNat 0), .inl (Int32.ofNat k), .inr (.inr (.inl (some 276)))]) (h' := h) (by with_unfolding_all rfl) ?_
    refine kx_iast (c := 276) (j := k) (m := 6) rfl rfl (by decide) (by decide) (by omega) ?_
    have hw1 : kd_wt kd_ty (kc_upd h 276 k (.inl (Int32.ofNat 0))) := fa_wa (fs_k273.2.2.2.1 k (by omega)) hw
    refine kx_go 1 (pc' := 16) (L' := [(3, .inl (Int32.ofNat k)), (0, .inr (.inr (.inl (some 259)))), (1, .inl (Int32.ofNat i)), (2, .inl (Int32.ofNat t))]) (S' := [.inr (.inr (.inl (some 259)))]) (h' := (kc_upd h 276 k (.inl (Int32.ofNat 0)))) (by with_unfolding_all rfl) ?_
    refine kx_getf (c := 259) (v := .inr (.inr (.inl (some 277)))) rfl (by decide) (kx_ofr (hw1 _ _ _ fs_k259_31)) ?_
    refine kx_go 2 (pc' := 21) (L' := [(3, .inl (Int32.ofNat k)), (0, .inr (.inr (.inl (some 259)))), (1, .inl (Int32.ofNat i)), (2, .inl (Int32.ofNat t))]) (S' := [.inl (Int32.ofNat 0), .inl (Int32.ofNat k), .inr (.inr (.inl (some 277)))]) (h' := (kc_upd h 276 k (.inl (Int32.ofNat 0)))) (by with_unfolding_all rfl) ?_
    refine kx_iast (c := 277) (j := k) (m := 6) rfl rfl (by decide) (by decide) (by omega) ?_
    refine kx_go 2 (pc' := 2) (L' := [(3, .inl ((Int32.ofNat k) + Int32.ofInt 1)), (0, .inr (.inr (.inl (some 259)))), (1, .inl (Int32.ofNat i)), (2, .inl (Int32.ofNat t))]) (S' := []) (h' := (kc_upd (kc_upd h 276 k (.inl (Int32.ofNat 0))) 277 k (.inl (Int32.ofNat 0)))) (by with_unfolding_all rfl) ?_
    rw [kx_inc]
    refine ih (k + 1) _ (by omega) (by omega) (fa_wa (fs_k273.2.2.2.2.1 k (by omega)) hw1) (fun s hs => ?_) (fun a y ha => (fu_ne (by omega)).trans ((fu_ne (by omega)).trans (hF a y ha)))
    by_cases e : s = k
    · rw [e]
      exact ⟨(fu_ne (by omega)).trans fu_eq, fu_eq⟩
    · exact ⟨(fu_ne (by omega)).trans ((fu_ne (fun q => e q.2)).trans (hz s (by omega)).1), (fu_ne (fun q => e q.2)).trans ((fu_ne (by omega)).trans (hz s (by omega)).2)⟩
set_option maxRecDepth 20000 in
theorem fs_r260 {g : kc_G} {d : Nat} {h0 : kc_H} {B : Nat → Int32} {F E : Nat → Nat} {co : Nat → Bool} {c : Nat → Nat} {L i t : Nat} (hw0 : kd_wt kd_ty h0) (hg : kc_ok g) (hB : fu_BT B) (hC0 : fu_B B h0) (eL : B 2 = Int32.ofNat L) (hL : L ≤ 10) (hi : i < 5) (ht : t < 1024) (hE : ∀ l, l < L → F l ≤ 5 ∧ E l ≤ 5) (hsp : fs_sp F E co L h0) (hc : ∀ l, l < L → h0 272 l = .inl (Int32.ofNat (c l)) ∧ c l < 6) : kc_Con g (d + 4) 260 [.inr (.inr (.inl (some 259))), .inl (Int32.ofNat i), .inl (Int32.ofNat t)] h0 (fun rv h' => rv = none ∧ kd_wt kd_ty h' ∧ fs_rc (ms_v (fun l i => fa_w B l i) (fs_Ot F E t)) (ms_v (fun _ _ => 1) (fs_Ot F E t)) c i L h' ∧ fs_rx h0 h') := by
  refine kc_Con_new hg (M := wk_m260) rfl rfl rfl (show 3 ≤ 5 by decide) ?_
  refine kx_go 2 (pc' := 2) (L' := [(3, .inl (Int32.ofNat 0)), (0, .inr (.inr (.inl (some 259)))), (1, .inl (Int32.ofNat i)), (2, .inl (Int32.ofNat t))]) (S' := []) (h' := h0) (by with_unfolding_all rfl) ?_
  exact fs_r260z hg hB hC0 eL hL hi ht hE hsp hc 6 0 h0 (by omega) (by omega) hw0 (fun s hs => by omega) (fun _ _ _ => rfl)
set_option maxRecDepth 20000 in
theorem fs_r261 {g : kc_G} {d : Nat} {h : kc_H} {m a b : Nat} (hg : kc_ok g) (hw : kd_wt kd_ty h) (hm : m < 3) (ha : a ≤ 990) (hb : b ≤ 990) (e0 : h 276 (2 * m) = .inl (Int32.ofNat a)) (e1 : h 276 (2 * m + 1) = .inl (Int32.ofNat b)) : kc_Con g (d + 1) 261 [.inr (.inr (.inl (some 259))), .inl (Int32.ofNat m)] h (fun rv h' => rv = some (.inl (Int32.ofNat (ms_d a b))) ∧ h' = h) := by
  refine kc_Con_new hg (M := wk_m261) rfl rfl rfl (show 2 ≤ 3 by decide) ?_
  refine kx_go 1 (pc' := 1) (L' := [(0, .inr (.inr (.inl (some 259)))), (1, .inl (Int32.ofNat m))]) (S' := [.inr (.inr (.inl (some 259)))]) (h' := h) (by with_unfolding_all rfl) ?_
  refine kx_getf (c := 259) (v := .inr (.inr (.inl (some 276)))) rfl (by decide) (kx_ofr (hw _ _ _ fs_k259_30)) ?_
  refine kx_go 3 (pc' := 7) (L' := [(0, .inr (.inr (.inl (some 259)))), (1, .inl (Int32.ofNat m))]) (S' := [.inl ((Int32.ofNat 2) * (Int32.ofNat m)), .inr (.inr (.inl (some 276)))]) (h' := h) (by with_unfolding_all rfl) ?_
  rw [kx_mul]
  refine kx_iald (c := 276) (j := 2 * m) (m := 6) (v := .inl (Int32.ofNat a)) rfl rfl (by decide) (by decide) (by omega) e0 ?_
  refine kx_go 1 (pc' := 9) (L' := [(0, .inr (.inr (.inl (some 259)))), (1, .inl (Int32.ofNat m))]) (S' := [.inr (.inr (.inl (some 259))), .inl (Int32.ofNat a)]) (h' := h) (by with_unfolding_all rfl) ?_
  refine kx_getf (c := 259) (v := .inr (.inr (.inl (some 276)))) rfl (by decide) (kx_ofr (hw _ _ _ fs_k259_30)) ?_
  refine kx_go 5 (pc' := 17) (L' := [(0, .inr (.inr (.inl (some 259)))), (1, .inl (Int32.ofNat m))]) (S' := [.inl (((Int32.ofNat 2) * (Int32.ofNat m)) + (Int32.ofNat 1)), .inr (.inr (.inl (some 276))), .inl (Int32.ofNat a)]) (h' := h) (by with_unfolding_all rfl) ?_
  rw [kx_mul, kx_add]
  refine kx_iald (c := 276) (j := 2 * m + 1) (m := 6) (v := .inl (Int32.ofNat b)) rfl rfl (by decide) (by decide) (by omega) e1 ?_
  refine kx_go 4 (pc' := (if kc_cnd .ge ((Int32.ofNat a) - (Int32.ofNat b)).toInt 0 then 29 else 24)) (L' := [(2, .inl ((Int32.ofNat a) - (Int32.ofNat b))), (0, .inr (.inr (.inl (some 259)))), (1, .inl (Int32.ofNat m))]) (S' := []) (h' := h) (by with_unfolding_all rfl) ?_
  have e := fh_si (a := a) (b := b) (by omega) (by omega)
  by_cases c : a < b
  · rw [if_neg (fun q => (fu_ige.mp q) (by rw [e]; omega))]
    refine kx_go 3 (pc' := 30) (L' := [(2, .inl ((Int32.ofNat a) - (Int32.ofNat b))), (0, .inr (.inr (.inl (some 259)))), (1, .inl (Int32.ofNat m))]) (S' := [.inl (-((Int32.ofNat a) - (Int32.ofNat b)))]) (h' := h) (by with_unfolding_all rfl) ?_
    have e2 : -(Int32.ofNat a - Int32.ofNat b) = Int32.ofNat (ms_d a b) := by
      rw [Int32.neg_sub, kx_sub (by omega)]
      unfold ms_d
      rw [show a - b + (b - a) = b - a by omega]
    rw [e2]
    exact kc_ret_ok rfl (rv := some (.inl (Int32.ofNat (ms_d a b)))) rfl ⟨rfl, rfl⟩
  · rw [if_pos (fu_ige.mpr (by rw [e]; omega))]
    refine kx_go 1 (pc' := 30) (L' := [(2, .inl ((Int32.ofNat a) - (Int32.ofNat b))), (0, .inr (.inr (.inl (some 259)))), (1, .inl (Int32.ofNat m))]) (S' := [.inl ((Int32.ofNat a) - (Int32.ofNat b))]) (h' := h) (by with_unfolding_all rfl) ?_
    have e2 : Int32.ofNat a - Int32.ofNat b = Int32.ofNat (ms_d a b) := by
      rw [kx_sub (by omega)]
      unfold ms_d
      rw [show a - b + (b - a) = a - b by omega]
    rw [e2]
    exact kc_ret_ok rfl (rv := some (.inl (Int32.ofNat (ms_d a b)))) rfl ⟨rfl, rfl⟩
end
section
-- 99.zqa
/-! ===== the search, reference: isBorne, worstNow, codes ===== -/
theorem fs_sb0 {F E : Nat → Nat} {B : Nat → Int32} (hB : fu_BT B) {c : Nat → Nat} {s i L : Nat} (hL : L ≤ 10) : ms_s (ms_v (fun l i => fa_w B l i) (fs_O F E)) c s i L ≤ 990 ∧ ms_s (ms_v (fun _ _ => 1) (fs_O F E)) c s i L ≤ 10 := by
  have := fs_sbt (F := F) (E := E) (t := 0) (c := c) (s := s) (i := i) hB hL (Nat.le_refl L)
  rw [fs_Ot0] at this
  exact this
theorem ms_all_st {p : Nat → Bool} {k : Nat} (h : ms_all p k = false) : ∀ j, ms_all p (k + j) = false
  | 0 => h
  | j + 1 => by
    show (ms_all p (k + j) && p (k + j)) = false
    rw [ms_all_st h j, Bool.false_and]
set_option maxRecDepth 20000 in
theorem fs_r106l {g : kc_G} {d : Nat} {h0 : kc_H} {B : Nat → Int32} {F E : Nat → Nat} {co : Nat → Bool} {c : Nat → Nat} {n L M : Nat} (hg : kc_ok g) (hB : fu_BT B) (hC0 : fu_B B h0) (hn : n ≤ 5) (en : B 3 = Int32.ofNat n) (hL : L ≤ 10) (eL : B 2 = Int32.ofNat L) (hM : M ≤ 3) (eM : B 1 = Int32.ofNat M) (hE : ∀ l, l < L → F l ≤ 5 ∧ E l ≤ 5) (hsp : fs_sp F E co L h0) (hc : ∀ l, l < L → h0 272 l = .inl (Int32.ofNat (c l)) ∧ c l < 6) : ∀ (u i : Nat) (h : kc_H), n - i = u → i ≤ n → kd_wt kd_ty h → fs_rx h0 h → kc_Ev g (d + 5) wk_m106 (fun rv h' => rv = some (.inl (kp_b (ms_bor (ms_v (fun l i => fa_w B l i) (fs_O F E)) (ms_v (fun _ _ => 1) (fs_O F E)) (fs_cap B) (fs_most B) L M n c))) ∧ kd_wt kd_ty h' ∧ fs_rx h0 h') 4 [(2, .inl (Int32.ofNat i)), (1, .inl (kp_b (ms_all (fun i => ms_all (ms_bm (ms_v (fun l i => fa_w B l i) (fs_O F E)) (ms_v (fun _ _ => 1) (fs_O F E)) (fs_cap B) (fs_most B) L c i) M) i))), (0, .inr (.inr (.inl (some 259))))] [] h := by
  have out : ∀ (i : Nat) (h : kc_H), i ≤ n → kd_wt kd_ty h → fs_rx h0 h → (i = n ∨ ms_all (fun i => ms_all (ms_bm (ms_v (fun l i => fa_w B l i) (fs_O F E)) (ms_v (fun _ _ => 1) (fs_O F E)) (fs_cap B) (fs_most B) L c i) M) i = false) → kc_Ev g (d + 5) wk_m106 (fun rv h' => rv = some (.inl (kp_b (ms_bor (ms_v (fun l i => fa_w B l i) (fs_O F E)) (ms_v (fun _ _ => 1) (fs_O F E)) (fs_cap B) (fs_most B) L M n c))) ∧ kd_wt kd_ty h' ∧ fs_rx h0 h') 147 [(2, .inl (Int32.ofNat i)), (1, .inl (kp_b (ms_all (fun i => ms_all (ms_bm (ms_v (fun l i => fa_w B l i) (fs_O F E)) (ms_v (fun _ _ => 1) (fs_O F E)) (fs_cap B) (fs_most B) L c i) M) i))), (0, .inr (.inr (.inl (some 259))))] [] h := by
    intro i h hi hw hF h1
    have e : ms_bor (ms_v (fun l i => fa_w B l i) (fs_O F E)) (ms_v (fun _ _ => 1) (fs_O F E)) (fs_cap B) (fs_most B) L M n c = ms_all (fun i => ms_all (ms_bm (ms_v (fun l i => fa_w B l i) (fs_O F E)) (ms_v (fun _ _ => 1) (fs_O F E)) (fs_cap B) (fs_most B) L c i) M) i := by
      rcases h1 with rfl | h1
      · rfl
      · have := ms_all_st h1 (n - i)
        rw [show i + (n - i) = n by omega] at this
        exact this.trans h1.symm
    rw [e]
    refine kx_go 1 (pc' := 148) (L' := [(2, .inl (Int32.ofNat i)), (1, .inl (kp_b (ms_all (fun i => ms_all (ms_bm (ms_v (fun l i => fa_w B l i) (fs_O F E)) (ms_v (fun _ _ => 1) (fs_O F E)) (fs_cap B) (fs_most B) L c i) M) i))), (0, .inr (.inr (.inl (some 259))))]) (S' := [.inl (kp_b (ms_all (fun i => ms_all (ms_bm (ms_v (fun l i => fa_w B l i) (fs_O F E)) (ms_v (fun _ _ => 1) (fs_O F E)) (fs_cap B) (fs_most B) L c i) M) i))]) (h' := h) (by with_unfolding_all rfl) ?_
    cases e9 : ms_all (fun i => ms_all (ms_bm (ms_v (fun l i => fa_w B l i) (fs_O F E)) (ms_v (fun _ _ => 1) (fs_O F E)) (fs_cap B) (fs_most B) L c i) M) i with
    | false => exact kc_ret_ok rfl (rv := some (.inl (kp_b false))) rfl ⟨rfl, hw, hF⟩
    | true => exact kc_ret_ok rfl (rv := some (.inl (kp_b true))) rfl ⟨rfl, hw, hF⟩
  intro u
  induction u with
  | zero =>
    intro i h hu hi hw hF
    have hC : fu_B B h := fs_B_f (fun x => hF 260 x (by decide)) hC0
    refine kx_go 2 (pc' := 6) (L' := [(2, .inl (Int32.ofNat i)), (1, .inl (kp_b (ms_all (fun i => ms_all (ms_bm (ms_v (fun l i => fa_w B l i) (fs_O F E)) (ms_v (fun _ _ => 1) (fs_O F E)) (fs_cap B) (fs_most B) L c i) M) i))), (0, .inr (.inr (.inl (some 259))))]) (S' := [.inr (.inr (.inl (some 259))), .inl (Int32.ofNat i)]) (h' := h) (by with_unfolding_all rfl) ?_
    refine kx_getf (c := 259) (v := .inr (.inr (.inl (some 260)))) rfl (by decide) (kx_ofr (hw _ _ _ fs_k259_0)) ?_
    refine kx_go 1 (pc' := 10) (L' := [(2, .inl (Int32.ofNat i)), (1, .inl (kp_b (ms_all (fun i => ms_all (ms_bm (ms_v (fun l i => fa_w B l i) (fs_O F E)) (ms_v (fun _ _ => 1) (fs_O F E)) (fs_cap B) (fs_most B) L c i) M) i))), (0, .inr (.inr (.inl (some 259))))]) (S' := [.inl (Int32.ofNat 3), .inr (.inr (.inl (some 260))), .inl (Int32.ofNat i)]) (h' := h) (by with_unfolding_all rfl) ?_
    refine kx_iald (c := 260) (j := 3) (m := 650) (v := .inl (Int32.ofNat n)) rfl rfl (by decide) (by decide) (by omega) ((hC 3 (by decide) (by decide)).trans (by rw [en])) ?_
    refine kx_go 1 (pc' := (if kc_cnd .ge (Int32.ofNat i).toInt (Int32.ofNat n).toInt then 147 else 14)) (L' := [(2, .inl (Int32.ofNat i)), (1, .inl (kp_b (ms_all (fun i => ms_all (ms_bm (ms_v (fun l i => fa_w B l i) (fs_O F E)) (ms_v (fun _ _ => 1) (fs_O F E)) (fs_cap B) (fs_most B) L c i) M) i))), (0, .inr (.inr (.inl (some 259))))]) (S' := []) (h' := h) (by with_unfolding_all rfl) ?_
    rw [if_pos ((kx_ge (by omega) (by omega)).mpr (by omega))]
    exact out i h hi hw hF (Or.inl (by omega))
  | succ u ih =>
    intro i h hu hi hw hF
    have hC : fu_B B h := fs_B_f (fun x => hF 260 x (by decide)) hC0
    refine kx_go 2 (pc' := 6) (L' := [(2, .inl (Int32.ofNat i)), (1, .inl (kp_b (ms_all (fun i => ms_all (ms_bm (ms_v (fun l i => fa_w B l i) (fs_O F E)) (ms_v (fun _ _ => 1) (fs_O F E)) (fs_cap B) (fs_most B) L c i) M) i))), (0, .inr (.inr (.inl (some 259))))]) (S' := [.inr (.inr (.inl (some 259))), .inl (Int32.ofNat i)]) (h' := h) (by with_unfolding_all rfl) ?_
    refine kx_getf (c := 259) (v := .inr (.inr (.inl (some 260)))) rfl (by decide) (kx_ofr (hw _ _ _ fs_k259_0)) ?_
    refine kx_go 1 (pc' := 10) (L' := [(2, .inl (Int32.ofNat i)), (1, .inl (kp_b (ms_all (fun i => ms_all (ms_bm (ms_v (fun l i => fa_w B l i) (fs_O F E)) (ms_v (fun _ _ => 1) (fs_O F E)) (fs_cap B) (fs_most B) L c i) M) i))), (0, .inr (.inr (.inl (some 259))))]) (S' := [.inl (Int32.ofNat 3), .inr (.inr (.inl (some 260))), .inl (Int32.ofNat i)]) (h' := h) (by with_unfolding_all rfl) ?_
    refine kx_iald (c := 260) (j := 3) (m := 650) (v := .inl (Int32.ofNat n)) rfl rfl (by decide) (by decide) (by omega) ((hC 3 (by decide) (by decide)).trans (by rw [en])) ?_
    refine kx_go 1 (pc' := (if kc_cnd .ge (Int32.ofNat i).toInt (Int32.ofNat n).toInt then 147 else 14)) (L' := [(2, .inl (Int32.ofNat i)), (1, .inl (kp_b (ms_all (fun i => ms_all (ms_bm (ms_v (fun l i => fa_w B l i) (fs_O F E)) (ms_v (fun _ _ => 1) (fs_O F E)) (fs_cap B) (fs_most B) L c i) M) i))), (0, .inr (.inr (.inl (some 259))))]) (S' := []) (h' := h) (by with_unfolding_all rfl) ?_
    rw [if_neg (fun q => by have := (kx_ge (by omega) (by omega)).mp q; omega)]
    refine kx_go 2 (pc' := (if kc_cnd .eq (kp_b (ms_all (fun i => ms_all (ms_bm (ms_v (fun l i => fa_w B l i) (fs_O F E)) (ms_v (fun _ _ => 1) (fs_O F E)) (fs_cap B) (fs_most B) L c i) M) i)).toInt 0 then 147 else 18)) (L' := [(2, .inl (Int32.ofNat i)), (1, .inl (kp_b (ms_all (fun i => ms_all (ms_bm (ms_v (fun l i => fa_w B l i) (fs_O F E)) (ms_v (fun _ _ => 1) (fs_O F E)) (fs_cap B) (fs_most B) L c i) M) i))), (0, .inr (.inr (.inl (some 259))))]) (S' := []) (h' := h) (by with_unfolding_all rfl) ?_
    cases eA : ms_all (fun i => ms_all (ms_bm (ms_v (fun l i => fa_w B l i) (fs_O F E)) (ms_v (fun _ _ => 1) (fs_O F E)) (fs_cap B) (fs_most B) L c i) M) i with
    | false =>
      have k9 := out i h hi hw hF (Or.inr eA)
      rw [eA] at k9
      rw [if_pos (kx_b0.mpr rfl)]
      exact k9
    | true =>
      rw [if_neg fa_b0t, ← eA]
      refine kx_go 3 (pc' := 21) (L' := [(2, .inl (Int32.ofNat i)), (1, .inl (kp_b (ms_all (fun i => ms_all (ms_bm (ms_v (fun l i => fa_w B l i) (fs_O F E)) (ms_v (fun _ _ => 1) (fs_O F E)) (fs_cap B) (fs_most B) L c i) M) i))), (0, .inr (.inr (.inl (some 259))))]) (S' := [.inl (Int32.ofNat 0), .inl (Int32.ofNat i), .inr (.inr (.inl (some 259)))]) (h' := h) (by with_unfolding_all rfl) ?_
      have hsp2 := fs_sp_f (h' := h) (fun a y q1 q2 => hF a y (by omega)) hsp
      have hc2 : ∀ l, l < L → h 272 l = .inl (Int32.ofNat (c l)) ∧ c l < 6 := fun l hl => ⟨(hF 272 l (by decide)).trans (hc l hl).1, (hc l hl).2⟩
      refine kc_call_rule (M2 := wk_m260) (av := [.inr (.inr (.inl (some 259))), .inl (Int32.ofNat i), .inl (Int32.ofNat 0)]) (r := []) rfl rfl (kc_Con_le (fs_r260 (d := d) (i := i) (t := 0) (c := c) hw hg hB hC eL hL (show i < 5 by omega) (by decide) hE hsp2 hc2) (by omega)) (fun rv h2 hq => ?_)
      obtain ⟨rfl, hw2, hr2, hF2⟩ := hq
      show kc_Ev g (d + 5) wk_m106 _ 24 [(2, .inl (Int32.ofNat i)), (1, .inl (kp_b (ms_all (fun i => ms_all (ms_bm (ms_v (fun l i => fa_w B l i) (fs_O F E)) (ms_v (fun _ _ => 1) (fs_O F E)) (fs_cap B) (fs_most B) L c i) M) i))), (0, .inr (.inr (.inl (some 259))))] [] h2
      rw [fs_Ot0] at hr2
      have hF3 : fs_rx h0 h2 := fun a y ha => (hF2 a y ha).trans (hF a y ha)
      have hC2 : fu_B B h2 := fs_B_f (fun x => hF3 260 x (by decide)) hC0
      have inner : ∀ (v m : Nat), M - m = v → m ≤ M → kc_Ev g (d + 5) wk_m106 (fun rv h' => rv = some (.inl (kp_b (ms_bor (ms_v (fun l i => fa_w B l i) (fs_O F E)) (ms_v (fun _ _ => 1) (fs_O F E)) (fs_cap B) (fs_most B) L M n c))) ∧ kd_wt kd_ty h' ∧ fs_rx h0 h') 26 [(3, .inl (Int32.ofNat m)), (2, .inl (Int32.ofNat i)), (1, .inl (kp_b ((ms_all (fun i => ms_all (ms_bm (ms_v (fun l i => fa_w B l i) (fs_O F E)) (ms_v (fun _ _ => 1) (fs_O F E)) (fs_cap B) (fs_most B) L c i) M) i && ms_all (ms_bm (ms_v (fun l i => fa_w B l i) (fs_O F E)) (ms_v (fun _ _ => 1) (fs_O F E)) (fs_cap B) (fs_most B) L c i) m)))), (0, .inr (.inr (.inl (some 259))))] [] h2 := by
        intro v
        induction v with
        | zero =>
          intro m hv hm
          refine kx_go 2 (pc' := 28) (L' := [(3, .inl (Int32.ofNat m)), (2, .inl (Int32.ofNat i)), (1, .inl (kp_b ((ms_all (fun i => ms_all (ms_bm (ms_v (fun l i => fa_w B l i) (fs_O F E)) (ms_v (fun _ _ => 1) (fs_O F E)) (fs_cap B) (fs_most B) L c i) M) i && ms_all (ms_bm (ms_v (fun l i => fa_w B l i) (fs_O F E)) (ms_v (fun _ _ => 1) (fs_O F E)) (fs_cap B) (fs_most B) L c i) m)))), (0, .inr (.inr (.inl (some 259))))]) (S' := [.inr (.inr (.inl (some 259))), .inl (Int32.ofNat m)]) (h' := h2) (by with_unfolding_all rfl) ?_
          refine kx_getf (c := 259) (v := .inr (.inr (.inl (some 260)))) rfl (by decide) (kx_ofr (hw2 _ _ _ fs_k259_0)) ?_
          refine kx_go 1 (pc' := 32) (L' := [(3, .inl (Int32.ofNat m)), (2, .inl (Int32.ofNat i)), (1, .inl (kp_b ((ms_all (fun i => ms_all (ms_bm (ms_v (fun l i => fa_w B l i) (fs_O F E)) (ms_v (fun _ _ => 1) (fs_O F E)) (fs_cap B) (fs_most B) L c i) M) i && ms_all (ms_bm (ms_v (fun l i => fa_w B l i) (fs_O F E)) (ms_v (fun _ _ => 1) (fs_O F E)) (fs_cap B) (fs_most B) L c i) m)))), (0, .inr (.inr (.inl (some 259))))]) (S' := [.inl (Int32.ofNat 1), .inr (.inr (.inl (some 260))), .inl (Int32.ofNat m)]) (h' := h2) (by with_unfolding_all rfl) ?_
          refine kx_iald (c := 260) (j := 1) (m := 650) (v := .inl (Int32.ofNat M)) rfl rfl (by decide) (by decide) (by omega) ((hC2 1 (by decide) (by decide)).trans (by rw [eM])) ?_
          refine kx_go 1 (pc' := (if kc_cnd .ge (Int32.ofNat m).toInt (Int32.ofNat M).toInt then 141 else 36)) (L' := [(3, .inl (Int32.ofNat m)), (2, .inl (Int32.ofNat i)), (1, .inl (kp_b ((ms_all (fun i => ms_all (ms_bm (ms_v (fun l i => fa_w B l i) (fs_O F E)) (ms_v (fun _ _ => 1) (fs_O F E)) (fs_cap B) (fs_most B) L c i) M) i && ms_all (ms_bm (ms_v (fun l i => fa_w B l i) (fs_O F E)) (ms_v (fun _ _ => 1) (fs_O F E)) (fs_cap B) (fs_most B) L c i) m)))), (0, .inr (.inr (.inl (some 259))))]) (S' := []) (h' := h2) (by with_unfolding_all rfl) ?_
          rw [if_pos ((kx_ge (by omega) (by omega)).mpr (by omega))]
          have em : m = M := by omega
          rw [em]
          refine kx_go 2 (pc' := 4) (L' := [(2, .inl ((Int32.ofNat i) + Int32.ofInt 1)), (3, .inl (Int32.ofNat M)), (1, .inl (kp_b ((ms_all (fun i => ms_all (ms_bm (ms_v (fun l i => fa_w B l i) (fs_O F E)) (ms_v (fun _ _ => 1) (fs_O F E)) (fs_cap B) (fs_most B) L c i) M) i && ms_all (ms_bm (ms_v (fun l i => fa_w B l i) (fs_O F E)) (ms_v (fun _ _ => 1) (fs_O F E)) (fs_cap B) (fs_most B) L c i) M)))), (0, .inr (.inr (.inl (some 259))))]) (S' := []) (h' := h2) (by with_unfolding_all rfl) ?_
          rw [kx_inc]
          refine kf_lo (L := [(2, .inl (Int32.ofNat (i + 1))), (1, .inl (kp_b ((ms_all (fun i => ms_all (ms_bm (ms_v (fun l i => fa_w B l i) (fs_O F E)) (ms_v (fun _ _ => 1) (fs_O F E)) (fs_cap B) (fs_most B) L c i) M) i && ms_all (ms_bm (ms_v (fun l i => fa_w B l i) (fs_O F E)) (ms_v (fun _ _ => 1) (fs_O F E)) (fs_cap B) (fs_most B) L c i) M)))), (0, .inr (.inr (.inl (some 259))))]) (by intro q hq; simp only [List.mem_cons, List.not_mem_nil, or_false] at hq; rcases hq with rfl | rfl | rfl <;> rfl) ?_
          exact ih (i + 1) h2 (by omega) (by omega) hw2 hF3
        | succ v ihv =>
          intro m hv hm
          refine kx_go 2 (pc' := 28) (L' := [(3, .inl (Int32.ofNat m)), (2, .inl (Int32.ofNat i)), (1, .inl (kp_b ((ms_all (fun i => ms_all (ms_bm (ms_v (fun l i => fa_w B l i) (fs_O F E)) (ms_v (fun _ _ => 1) (fs_O F E)) (fs_cap B) (fs_most B) L c i) M) i && ms_all (ms_bm (ms_v (fun l i => fa_w B l i) (fs_O F E)) (ms_v (fun _ _ => 1) (fs_O F E)) (fs_cap B) (fs_most B) L c i) m)))), (0, .inr (.inr (.inl (some 259))))]) (S' := [.inr (.inr (.inl (some 259))), .inl (Int32.ofNat m)]) (h' := h2) (by with_unfolding_all rfl) ?_
          refine kx_getf (c := 259) (v := .inr (.inr (.inl (some 260)))) rfl (by decide) (kx_ofr (hw2 _ _ _ fs_k259_0)) ?_
          refine kx_go 1 (pc' := 32) (L' := [(3, .inl (Int32.ofNat m)), (2, .inl (Int32.ofNat i)), (1, .inl (kp_b ((ms_all (fun i => ms_all (ms_bm (ms_v (fun l i => fa_w B l i) (fs_O F E)) (ms_v (fun _ _ => 1) (fs_O F E)) (fs_cap B) (fs_most B) L c i) M) i && ms_all (ms_bm (ms_v (fun l i => fa_w B l i) (fs_O F E)) (ms_v (fun _ _ => 1) (fs_O F E)) (fs_cap B) (fs_most B) L c i) m)))), (0, .inr (.inr (.inl (some 259))))]) (S' := [.inl (Int32.ofNat 1), .inr (.inr (.inl (some 260))), .inl (Int32.ofNat m)]) (h' := h2) (by with_unfolding_all rfl) ?_
          refine kx_iald (c := 260) (j := 1) (m := 650) (v := .inl (Int32.ofNat M)) rfl rfl (by decide) (by decide) (by omega) ((hC2 1 (by decide) (by decide)).trans (by rw [eM])) ?_
          refine kx_go 1 (pc' := (if kc_cnd .ge (Int32.ofNat m).toInt (Int32.ofNat M).toInt then 141 else 36)) (L' := [(3, .inl (Int32.ofNat m)), (2, .inl (Int32.ofNat i)), (1, .inl (kp_b ((ms_all (fun i => ms_all (ms_bm (ms_v (fun l i => fa_w B l i) (fs_O F E)) (ms_v (fun _ _ => 1) (fs_O F E)) (fs_cap B) (fs_most B) L c i) M) i && ms_all (ms_bm (ms_v (fun l i => fa_w B l i) (fs_O F E)) (ms_v (fun _ _ => 1) (fs_O F E)) (fs_cap B) (fs_most B) L c i) m)))), (0, .inr (.inr (.inl (some 259))))]) (S' := []) (h' := h2) (by with_unfolding_all rfl) ?_
          rw [if_neg (fun q => by have := (kx_ge (by omega) (by omega)).mp q; omega)]
          have hm3 : m < 3 := by omega
          have x0 := hr2 (2 * m) (by omega)
          have x1 := hr2 (2 * m + 1) (by omega)
          have l0 := fs_sb0 (F := F) (E := E) (c := c) (s := 2 * m) (i := i) hB hL
          have l1 := fs_sb0 (F := F) (E := E) (c := c) (s := 2 * m + 1) (i := i) hB hL
          have u0 := fs_capl hB (show 2 * m < 6 by omega)
          have u1 := fs_capl hB (show 2 * m + 1 < 6 by omega)
          have u2 := fs_mostl hB hm3
          have eb0 : fa_n B (60 + 5 * m + (3 + 0)) = fs_cap B (2 * m) := fs_cap0.1.symm
          have eb1 : fa_n B (60 + 5 * m + (3 + 1)) = fs_cap B (2 * m + 1) := fs_cap0.2.symm
          have em0 : fa_n B (60 + 5 * m + 0) = fs_most B m := rfl
          have next : ∀ b : Bool, b = (ms_all (fun i => ms_all (ms_bm (ms_v (fun l i => fa_w B l i) (fs_O F E)) (ms_v (fun _ _ => 1) (fs_O F E)) (fs_cap B) (fs_most B) L c i) M) i && ms_all (ms_bm (ms_v (fun l i => fa_w B l i) (fs_O F E)) (ms_v (fun _ _ => 1) (fs_O F E)) (fs_cap B) (fs_most B) L c i) (m + 1)) → kc_Ev g (d + 5) wk_m106 (fun rv h' => rv = some (.inl (kp_b (ms_bor (ms_v (fun l i => fa_w B l i) (fs_O F E)) (ms_v (fun _ _ => 1) (fs_O F E)) (fs_cap B) (fs_most B) L M n c))) ∧ kd_wt kd_ty h' ∧ fs_rx h0 h') 134 [(3, .inl (Int32.ofNat m)), (2, .inl (Int32.ofNat i)), (1, .inl (kp_b ((ms_all (fun i => ms_all (ms_bm (ms_v (fun l i => fa_w B l i) (fs_O F E)) (ms_v (fun _ _ => 1) (fs_O F E)) (fs_cap B) (fs_most B) L c i) M) i && ms_all (ms_bm (ms_v (fun l i => fa_w B l i) (fs_O F E)) (ms_v (fun _ _ => 1) (fs_O F E)) (fs_cap B) (fs_most B) L c i) m)))), (0, .inr (.inr (.inl (some 259))))] [.inl (kp_b b)] h2 := by
            intro b eb
            refine kx_go 3 (pc' := 26) (L' := [(3, .inl ((Int32.ofNat m) + Int32.ofInt 1)), (1, .inl (kp_b b)), (2, .inl (Int32.ofNat i)), (0, .inr (.inr (.inl (some 259))))]) (S' := []) (h' := h2) (by with_unfolding_all rfl) ?_
            rw [kx_inc, eb]
            refine kf_lo (L := [(3, .inl (Int32.ofNat (m + 1))), (2, .inl (Int32.ofNat i)), (1, .inl (kp_b ((ms_all (fun i => ms_all (ms_bm (ms_v (fun l i => fa_w B l i) (fs_O F E)) (ms_v (fun _ _ => 1) (fs_O F E)) (fs_cap B) (fs_most B) L c i) M) i && ms_all (ms_bm (ms_v (fun l i => fa_w B l i) (fs_O F E)) (ms_v (fun _ _ => 1) (fs_O F E)) (fs_cap B) (fs_most B) L c i) (m + 1))))), (0, .inr (.inr (.inl (some 259))))]) (by intro q hq; simp only [List.mem_cons, List.not_mem_nil, or_false] at hq; rcases hq with rfl | rfl | rfl | rfl <;> rfl) ?_
            exact ihv (m + 1) (by omega) (by omega)
          have eN : (ms_all (fun i => ms_all (ms_bm (ms_v (fun l i => fa_w B l i) (fs_O F E)) (ms_v (fun _ _ => 1) (fs_O F E)) (fs_cap B) (fs_most B) L c i) M) i && ms_all (ms_bm (ms_v (fun l i => fa_w B l i) (fs_O F E)) (ms_v (fun _ _ => 1) (fs_O F E)) (fs_cap B) (fs_most B) L c i) (m + 1)) = ((ms_all (fun i => ms_all (ms_bm (ms_v (fun l i => fa_w B l i) (fs_O F E)) (ms_v (fun _ _ => 1) (fs_O F E)) (fs_cap B) (fs_most B) L c i) M) i && ms_all (ms_bm (ms_v (fun l i => fa_w B l i) (fs_O F E)) (ms_v (fun _ _ => 1) (fs_O F E)) (fs_cap B) (fs_most B) L c i) m) && ms_bm (ms_v (fun l i => fa_w B l i) (fs_O F E)) (ms_v (fun _ _ => 1) (fs_O F E)) (fs_cap B) (fs_most B) L c i m) := by
            show (ms_all (fun i => ms_all (ms_bm (ms_v (fun l i => fa_w B l i) (fs_O F E)) (ms_v (fun _ _ => 1) (fs_O F E)) (fs_cap B) (fs_most B) L c i) M) i && (ms_all (ms_bm (ms_v (fun l i => fa_w B l i) (fs_O F E)) (ms_v (fun _ _ => 1) (fs_O F E)) (fs_cap B) (fs_most B) L c i) m && ms_bm (ms_v (fun l i => fa_w B l i) (fs_O F E)) (ms_v (fun _ _ => 1) (fs_O F E)) (fs_cap B) (fs_most B) L c i m)) = _
            rw [Bool.and_assoc]
          have no : ((ms_all (fun i => ms_all (ms_bm (ms_v (fun l i => fa_w B l i) (fs_O F E)) (ms_v (fun _ _ => 1) (fs_O F E)) (fs_cap B) (fs_most B) L c i) M) i && ms_all (ms_bm (ms_v (fun l i => fa_w B l i) (fs_O F E)) (ms_v (fun _ _ => 1) (fs_O F E)) (fs_cap B) (fs_most B) L c i) m) && ms_bm (ms_v (fun l i => fa_w B l i) (fs_O F E)) (ms_v (fun _ _ => 1) (fs_O F E)) (fs_cap B) (fs_most B) L c i m) = false → kc_Ev g (d + 5) wk_m106 (fun rv h' => rv = some (.inl (kp_b (ms_bor (ms_v (fun l i => fa_w B l i) (fs_O F E)) (ms_v (fun _ _ => 1) (fs_O F E)) (fs_cap B) (fs_most B) L M n c))) ∧ kd_wt kd_ty h' ∧ fs_rx h0 h') 133 [(3, .inl (Int32.ofNat m)), (2, .inl (Int32.ofNat i)), (1, .inl (kp_b ((ms_all (fun i => ms_all (ms_bm (ms_v (fun l i => fa_w B l i) (fs_O F E)) (ms_v (fun _ _ => 1) (fs_O F E)) (fs_cap B) (fs_most B) L c i) M) i && ms_all (ms_bm (ms_v (fun l i => fa_w B l i) (fs_O F E)) (ms_v (fun _ _ => 1) (fs_O F E)) (fs_cap B) (fs_most B) L c i) m)))), (0, .inr (.inr (.inl (some 259))))] [] h2 := by
            intro ef
            refine kx_go 1 (pc' := 134) (L' := [(3, .inl (Int32.ofNat m)), (2, .inl (Int32.ofNat i)), (1, .inl (kp_b ((ms_all (fun i => ms_all (ms_bm (ms_v (fun l i => fa_w B l i) (fs_O F E)) (ms_v (fun _ _ => 1) (fs_O F E)) (fs_cap B) (fs_most B) L c i) M) i && ms_all (ms_bm (ms_v (fun l i => fa_w B l i) (fs_O F E)) (ms_v (fun _ _ => 1) (fs_O F E)) (fs_cap B) (fs_most B) L c i) m)))), (0, .inr (.inr (.inl (some 259))))]) (S' := [.inl (Int32.ofNat 0)]) (h' := h2) (by with_unfolding_all rfl) ?_
            exact next false (by rw [eN, ef])
          refine kx_go 2 (pc' := (if kc_cnd .eq (kp_b ((ms_all (fun i => ms_all (ms_bm (ms_v (fun l i => fa_w B l i) (fs_O F E)) (ms_v (fun _ _ => 1) (fs_O F E)) (fs_cap B) (fs_most B) L c i) M) i && ms_all (ms_bm (ms_v (fun l i => fa_w B l i) (fs_O F E)) (ms_v (fun _ _ => 1) (fs_O F E)) (fs_cap B) (fs_most B) L c i) m))).toInt 0 then 133 else 40)) (L' := [(3, .inl (Int32.ofNat m)), (2, .inl (Int32.ofNat i)), (1, .inl (kp_b ((ms_all (fun i => ms_all (ms_bm (ms_v (fun l i => fa_w B l i) (fs_O F E)) (ms_v (fun _ _ => 1) (fs_O F E)) (fs_cap B) (fs_most B) L c i) M) i && ms_all (ms_bm (ms_v (fun l i => fa_w B l i) (fs_O F E)) (ms_v (fun _ _ => 1) (fs_O F E)) (fs_cap B) (fs_most B) L c i) m)))), (0, .inr (.inr (.inl (some 259))))]) (S' := []) (h' := h2) (by with_unfolding_all rfl) ?_
          cases eI : (ms_all (fun i => ms_all (ms_bm (ms_v (fun l i => fa_w B l i) (fs_O F E)) (ms_v (fun _ _ => 1) (fs_O F E)) (fs_cap B) (fs_most B) L c i) M) i && ms_all (ms_bm (ms_v (fun l i => fa_w B l i) (fs_O F E)) (ms_v (fun _ _ => 1) (fs_O F E)) (fs_cap B) (fs_most B) L c i) m) with
          | false =>
            rw [if_pos (kx_b0.mpr rfl)]
            have k9 := no (by rw [eI, Bool.false_and])
            rw [eI] at k9
            exact k9
          | true =>
            rw [if_neg fa_b0t, ← eI]
            refine kx_go 1 (pc' := 41) (L' := [(3, .inl (Int32.ofNat m)), (2, .inl (Int32.ofNat i)), (1, .inl (kp_b ((ms_all (fun i => ms_all (ms_bm (ms_v (fun l i => fa_w B l i) (fs_O F E)) (ms_v (fun _ _ => 1) (fs_O F E)) (fs_cap B) (fs_most B) L c i) M) i && ms_all (ms_bm (ms_v (fun l i => fa_w B l i) (fs_O F E)) (ms_v (fun _ _ => 1) (fs_O F E)) (fs_cap B) (fs_most B) L c i) m)))), (0, .inr (.inr (.inl (some 259))))]) (S' := [.inr (.inr (.inl (some 259)))]) (h' := h2) (by with_unfolding_all rfl) ?_
            refine kx_getf (c := 259) (v := .inr (.inr (.inl (some 276)))) rfl (by decide) (kx_ofr (hw2 _ _ _ fs_k259_30)) ?_
            refine kx_go 3 (pc' := 47) (L' := [(3, .inl (Int32.ofNat m)), (2, .inl (Int32.ofNat i)), (1, .inl (kp_b ((ms_all (fun i => ms_all (ms_bm (ms_v (fun l i => fa_w B l i) (fs_O F E)) (ms_v (fun _ _ => 1) (fs_O F E)) (fs_cap B) (fs_most B) L c i) M) i && ms_all (ms_bm (ms_v (fun l i => fa_w B l i) (fs_O F E)) (ms_v (fun _ _ => 1) (fs_O F E)) (fs_cap B) (fs_most B) L c i) m)))), (0, .inr (.inr (.inl (some 259))))]) (S' := [.inl ((Int32.ofNat 2) * (Int32.ofNat m)), .inr (.inr (.inl (some 276)))]) (h' := h2) (by with_unfolding_all rfl) ?_
            rw [kx_mul]
            refine kx_iald (c := 276) (j := 2 * m) (m := 6) (v := .inl (Int32.ofNat (ms_s (ms_v (fun l i => fa_w B l i) (fs_O F E)) c (2 * m) i L))) rfl rfl (by decide) (by decide) (by omega) x0.1 ?_
            refine kx_go 3 (pc' := 51) (L' := [(3, .inl (Int32.ofNat m)), (2, .inl (Int32.ofNat i)), (1, .inl (kp_b ((ms_all (fun i => ms_all (ms_bm (ms_v (fun l i => fa_w B l i) (fs_O F E)) (ms_v (fun _ _ => 1) (fs_O F E)) (fs_cap B) (fs_most B) L c i) M) i && ms_all (ms_bm (ms_v (fun l i => fa_w B l i) (fs_O F E)) (ms_v (fun _ _ => 1) (fs_O F E)) (fs_cap B) (fs_most B) L c i) m)))), (0, .inr (.inr (.inl (some 259))))]) (S' := [.inl (Int32.ofNat 0), .inl (Int32.ofNat m), .inr (.inr (.inl (some 259))), .inl (Int32.ofNat (ms_s (ms_v (fun l i => fa_w B l i) (fs_O F E)) c (2 * m) i L))]) (h' := h2) (by with_unfolding_all rfl) ?_
            refine kc_call_rule (M2 := wk_m246) (av := [.inr (.inr (.inl (some 259))), .inl (Int32.ofNat m), .inl (Int32.ofNat 0)]) (r := [.inl (Int32.ofNat (ms_s (ms_v (fun l i => fa_w B l i) (fs_O F E)) c (2 * m) i L))]) rfl rfl (kc_Con_le (fa_r246 (d := d) (t := 0) hg hw2 hC2 hB hm3 (by decide)) (by omega)) (fun rv hcc hq => ?_)
            obtain ⟨rfl, e9⟩ := hq
            rw [e9]
            clear e9
            rw [eb0]
            show kc_Ev g (d + 5) wk_m106 _ 54 [(3, .inl (Int32.ofNat m)), (2, .inl (Int32.ofNat i)), (1, .inl (kp_b ((ms_all (fun i => ms_all (ms_bm (ms_v (fun l i => fa_w B l i) (fs_O F E)) (ms_v (fun _ _ => 1) (fs_O F E)) (fs_cap B) (fs_most B) L c i) M) i && ms_all (ms_bm (ms_v (fun l i => fa_w B l i) (fs_O F E)) (ms_v (fun _ _ => 1) (fs_O F E)) (fs_cap B) (fs_most B) L c i) m)))), (0, .inr (.inr (.inl (some 259))))] [.inl (Int32.ofNat (fs_cap B (2 * m))), .inl (Int32.ofNat (ms_s (ms_v (fun l i => fa_w B l i) (fs_O F E)) c (2 * m) i L))] h2
            refine kx_go 1 (pc' := (if kc_cnd .gt (Int32.ofNat (ms_s (ms_v (fun l i => fa_w B l i) (fs_O F E)) c (2 * m) i L)).toInt (Int32.ofNat (fs_cap B (2 * m))).toInt then 133 else 57)) (L' := [(3, .inl (Int32.ofNat m)), (2, .inl (Int32.ofNat i)), (1, .inl (kp_b ((ms_all (fun i => ms_all (ms_bm (ms_v (fun l i => fa_w B l i) (fs_O F E)) (ms_v (fun _ _ => 1) (fs_O F E)) (fs_cap B) (fs_most B) L c i) M) i && ms_all (ms_bm (ms_v (fun l i => fa_w B l i) (fs_O F E)) (ms_v (fun _ _ => 1) (fs_O F E)) (fs_cap B) (fs_most B) L c i) m)))), (0, .inr (.inr (.inl (some 259))))]) (S' := []) (h' := h2) (by with_unfolding_all rfl) ?_
            by_cases d0 : ms_s (ms_v (fun l i => fa_w B l i) (fs_O F E)) c (2 * m) i L ≤ fs_cap B (2 * m)
            · rw [if_neg (fun q => by have := (kx_gt (by omega) (by omega)).mp q; omega)]
              refine kx_go 1 (pc' := 58) (L' := [(3, .inl (Int32.ofNat m)), (2, .inl (Int32.ofNat i)), (1, .inl (kp_b ((ms_all (fun i => ms_all (ms_bm (ms_v (fun l i => fa_w B l i) (fs_O F E)) (ms_v (fun _ _ => 1) (fs_O F E)) (fs_cap B) (fs_most B) L c i) M) i && ms_all (ms_bm (ms_v (fun l i => fa_w B l i) (fs_O F E)) (ms_v (fun _ _ => 1) (fs_O F E)) (fs_cap B) (fs_most B) L c i) m)))), (0, .inr (.inr (.inl (some 259))))]) (S' := [.inr (.inr (.inl (some 259)))]) (h' := h2) (by with_unfolding_all rfl) ?_
              refine kx_getf (c := 259) (v := .inr (.inr (.inl (some 276)))) rfl (by decide) (kx_ofr (hw2 _ _ _ fs_k259_30)) ?_
              refine kx_go 5 (pc' := 66) (L' := [(3, .inl (Int32.ofNat m)), (2, .inl (Int32.ofNat i)), (1, .inl (kp_b ((ms_all (fun i => ms_all (ms_bm (ms_v (fun l i => fa_w B l i) (fs_O F E)) (ms_v (fun _ _ => 1) (fs_O F E)) (fs_cap B) (fs_most B) L c i) M) i && ms_all (ms_bm (ms_v (fun l i => fa_w B l i) (fs_O F E)) (ms_v (fun _ _ => 1) (fs_O F E)) (fs_cap B) (fs_most B) L c i) m)))), (0, .inr (.inr (.inl (some 259))))]) (S' := [.inl (((Int32.ofNat 2) * (Int32.ofNat m)) + (Int32.ofNat 1)), .inr (.inr (.inl (some 276)))]) (h' := h2) (by with_unfolding_all rfl) ?_
              rw [kx_mul, kx_add]
              refine kx_iald (c := 276) (j := 2 * m + 1) (m := 6) (v := .inl (Int32.ofNat (ms_s (ms_v (fun l i => fa_w B l i) (fs_O F E)) c (2 * m + 1) i L))) rfl rfl (by decide) (by decide) (by omega) x1.1 ?_
              refine kx_go 3 (pc' := 70) (L' := [(3, .inl (Int32.ofNat m)), (2, .inl (Int32.ofNat i)), (1, .inl (kp_b ((ms_all (fun i => ms_all (ms_bm (ms_v (fun l i => fa_w B l i) (fs_O F E)) (ms_v (fun _ _ => 1) (fs_O F E)) (fs_cap B) (fs_most B) L c i) M) i && ms_all (ms_bm (ms_v (fun l i => fa_w B l i) (fs_O F E)) (ms_v (fun _ _ => 1) (fs_O F E)) (fs_cap B) (fs_most B) L c i) m)))), (0, .inr (.inr (.inl (some 259))))]) (S' := [.inl (Int32.ofNat 1), .inl (Int32.ofNat m), .inr (.inr (.inl (some 259))), .inl (Int32.ofNat (ms_s (ms_v (fun l i => fa_w B l i) (fs_O F E)) c (2 * m + 1) i L))]) (h' := h2) (by with_unfolding_all rfl) ?_
              refine kc_call_rule (M2 := wk_m246) (av := [.inr (.inr (.inl (some 259))), .inl (Int32.ofNat m), .inl (Int32.ofNat 1)]) (r := [.inl (Int32.ofNat (ms_s (ms_v (fun l i => fa_w B l i) (fs_O F E)) c (2 * m + 1) i L))]) rfl rfl (kc_Con_le (fa_r246 (d := d) (t := 1) hg hw2 hC2 hB hm3 (by decide)) (by omega)) (fun rv hcc hq => ?_)
              obtain ⟨rfl, e9⟩ := hq
              rw [e9]
              clear e9
              rw [eb1]
              show kc_Ev g (d + 5) wk_m106 _ 73 [(3, .inl (Int32.ofNat m)), (2, .inl (Int32.ofNat i)), (1, .inl (kp_b ((ms_all (fun i => ms_all (ms_bm (ms_v (fun l i => fa_w B l i) (fs_O F E)) (ms_v (fun _ _ => 1) (fs_O F E)) (fs_cap B) (fs_most B) L c i) M) i && ms_all (ms_bm (ms_v (fun l i => fa_w B l i) (fs_O F E)) (ms_v (fun _ _ => 1) (fs_O F E)) (fs_cap B) (fs_most B) L c i) m)))), (0, .inr (.inr (.inl (some 259))))] [.inl (Int32.ofNat (fs_cap B (2 * m + 1))), .inl (Int32.ofNat (ms_s (ms_v (fun l i => fa_w B l i) (fs_O F E)) c (2 * m + 1) i L))] h2
              refine kx_go 1 (pc' := (if kc_cnd .gt (Int32.ofNat (ms_s (ms_v (fun l i => fa_w B l i) (fs_O F E)) c (2 * m + 1) i L)).toInt (Int32.ofNat (fs_cap B (2 * m + 1))).toInt then 133 else 76)) (L' := [(3, .inl (Int32.ofNat m)), (2, .inl (Int32.ofNat i)), (1, .inl (kp_b ((ms_all (fun i => ms_all (ms_bm (ms_v (fun l i => fa_w B l i) (fs_O F E)) (ms_v (fun _ _ => 1) (fs_O F E)) (fs_cap B) (fs_most B) L c i) M) i && ms_all (ms_bm (ms_v (fun l i => fa_w B l i) (fs_O F E)) (ms_v (fun _ _ => 1) (fs_O F E)) (fs_cap B) (fs_most B) L c i) m)))), (0, .inr (.inr (.inl (some 259))))]) (S' := []) (h' := h2) (by with_unfolding_all rfl) ?_
              by_cases d1 : ms_s (ms_v (fun l i => fa_w B l i) (fs_O F E)) c (2 * m + 1) i L ≤ fs_cap B (2 * m + 1)
              · rw [if_neg (fun q => by have := (kx_gt (by omega) (by omega)).mp q; omega)]
                refine kx_go 1 (pc' := 77) (L' := [(3, .inl (Int32.ofNat m)), (2, .inl (Int32.ofNat i)), (1, .inl (kp_b ((ms_all (fun i => ms_all (ms_bm (ms_v (fun l i => fa_w B l i) (fs_O F E)) (ms_v (fun _ _ => 1) (fs_O F E)) (fs_cap B) (fs_most B) L c i) M) i && ms_all (ms_bm (ms_v (fun l i => fa_w B l i) (fs_O F E)) (ms_v (fun _ _ => 1) (fs_O F E)) (fs_cap B) (fs_most B) L c i) m)))), (0, .inr (.inr (.inl (some 259))))]) (S' := [.inr (.inr (.inl (some 259)))]) (h' := h2) (by with_unfolding_all rfl) ?_
                refine kx_getf (c := 259) (v := .inr (.inr (.inl (some 277)))) rfl (by decide) (kx_ofr (hw2 _ _ _ fs_k259_31)) ?_
                refine kx_go 3 (pc' := 83) (L' := [(3, .inl (Int32.ofNat m)), (2, .inl (Int32.ofNat i)), (1, .inl (kp_b ((ms_all (fun i => ms_all (ms_bm (ms_v (fun l i => fa_w B l i) (fs_O F E)) (ms_v (fun _ _ => 1) (fs_O F E)) (fs_cap B) (fs_most B) L c i) M) i && ms_all (ms_bm (ms_v (fun l i => fa_w B l i) (fs_O F E)) (ms_v (fun _ _ => 1) (fs_O F E)) (fs_cap B) (fs_most B) L c i) m)))), (0, .inr (.inr (.inl (some 259))))]) (S' := [.inl ((Int32.ofNat 2) * (Int32.ofNat m)), .inr (.inr (.inl (some 277)))]) (h' := h2) (by with_unfolding_all rfl) ?_
                rw [kx_mul]
                refine kx_iald (c := 277) (j := 2 * m) (m := 6) (v := .inl (Int32.ofNat (ms_s (ms_v (fun _ _ => 1) (fs_O F E)) c (2 * m) i L))) rfl rfl (by decide) (by decide) (by omega) x0.2 ?_
                refine kx_go 2 (pc' := (if kc_cnd .ge (Int32.ofNat (ms_s (ms_v (fun _ _ => 1) (fs_O F E)) c (2 * m) i L)).toInt (Int32.ofNat 4).toInt then 133 else 88)) (L' := [(3, .inl (Int32.ofNat m)), (2, .inl (Int32.ofNat i)), (1, .inl (kp_b ((ms_all (fun i => ms_all (ms_bm (ms_v (fun l i => fa_w B l i) (fs_O F E)) (ms_v (fun _ _ => 1) (fs_O F E)) (fs_cap B) (fs_most B) L c i) M) i && ms_all (ms_bm (ms_v (fun l i => fa_w B l i) (fs_O F E)) (ms_v (fun _ _ => 1) (fs_O F E)) (fs_cap B) (fs_most B) L c i) m)))), (0, .inr (.inr (.inl (some 259))))]) (S' := []) (h' := h2) (by with_unfolding_all rfl) ?_
                by_cases d2 : ms_s (ms_v (fun _ _ => 1) (fs_O F E)) c (2 * m) i L < 4
                · rw [if_neg (fun q => by have := (kx_ge (by omega) (by omega)).mp q; omega)]
                  refine kx_go 1 (pc' := 89) (L' := [(3, .inl (Int32.ofNat m)), (2, .inl (Int32.ofNat i)), (1, .inl (kp_b ((ms_all (fun i => ms_all (ms_bm (ms_v (fun l i => fa_w B l i) (fs_O F E)) (ms_v (fun _ _ => 1) (fs_O F E)) (fs_cap B) (fs_most B) L c i) M) i && ms_all (ms_bm (ms_v (fun l i => fa_w B l i) (fs_O F E)) (ms_v (fun _ _ => 1) (fs_O F E)) (fs_cap B) (fs_most B) L c i) m)))), (0, .inr (.inr (.inl (some 259))))]) (S' := [.inr (.inr (.inl (some 259)))]) (h' := h2) (by with_unfolding_all rfl) ?_
                  refine kx_getf (c := 259) (v := .inr (.inr (.inl (some 277)))) rfl (by decide) (kx_ofr (hw2 _ _ _ fs_k259_31)) ?_
                  refine kx_go 5 (pc' := 97) (L' := [(3, .inl (Int32.ofNat m)), (2, .inl (Int32.ofNat i)), (1, .inl (kp_b ((ms_all (fun i => ms_all (ms_bm (ms_v (fun l i => fa_w B l i) (fs_O F E)) (ms_v (fun _ _ => 1) (fs_O F E)) (fs_cap B) (fs_most B) L c i) M) i && ms_all (ms_bm (ms_v (fun l i => fa_w B l i) (fs_O F E)) (ms_v (fun _ _ => 1) (fs_O F E)) (fs_cap B) (fs_most B) L c i) m)))), (0, .inr (.inr (.inl (some 259))))]) (S' := [.inl (((Int32.ofNat 2) * (Int32.ofNat m)) + (Int32.ofNat 1)), .inr (.inr (.inl (some 277)))]) (h' := h2) (by with_unfolding_all rfl) ?_
                  rw [kx_mul, kx_add]
                  refine kx_iald (c := 277) (j := 2 * m + 1) (m := 6) (v := .inl (Int32.ofNat (ms_s (ms_v (fun _ _ => 1) (fs_O F E)) c (2 * m + 1) i L))) rfl rfl (by decide) (by decide) (by omega) x1.2 ?_
                  refine kx_go 2 (pc' := (if kc_cnd .ge (Int32.ofNat (ms_s (ms_v (fun _ _ => 1) (fs_O F E)) c (2 * m + 1) i L)).toInt (Int32.ofNat 4).toInt then 133 else 102)) (L' := [(3, .inl (Int32.ofNat m)), (2, .inl (Int32.ofNat i)), (1, .inl (kp_b ((ms_all (fun i => ms_all (ms_bm (ms_v (fun l i => fa_w B l i) (fs_O F E)) (ms_v (fun _ _ => 1) (fs_O F E)) (fs_cap B) (fs_most B) L c i) M) i && ms_all (ms_bm (ms_v (fun l i => fa_w B l i) (fs_O F E)) (ms_v (fun _ _ => 1) (fs_O F E)) (fs_cap B) (fs_most B) L c i) m)))), (0, .inr (.inr (.inl (some 259))))]) (S' := []) (h' := h2) (by with_unfolding_all rfl) ?_
                  by_cases d3 : ms_s (ms_v (fun _ _ => 1) (fs_O F E)) c (2 * m + 1) i L < 4
                  · rw [if_neg (fun q => by have := (kx_ge (by omega) (by omega)).mp q; omega)]
                    refine kx_go 1 (pc' := 103) (L' := [(3, .inl (Int32.ofNat m)), (2, .inl (Int32.ofNat i)), (1, .inl (kp_b ((ms_all (fun i => ms_all (ms_bm (ms_v (fun l i => fa_w B l i) (fs_O F E)) (ms_v (fun _ _ => 1) (fs_O F E)) (fs_cap B) (fs_most B) L c i) M) i && ms_all (ms_bm (ms_v (fun l i => fa_w B l i) (fs_O F E)) (ms_v (fun _ _ => 1) (fs_O F E)) (fs_cap B) (fs_most B) L c i) m)))), (0, .inr (.inr (.inl (some 259))))]) (S' := [.inr (.inr (.inl (some 259)))]) (h' := h2) (by with_unfolding_all rfl) ?_
                    refine kx_getf (c := 259) (v := .inr (.inr (.inl (some 276)))) rfl (by decide) (kx_ofr (hw2 _ _ _ fs_k259_30)) ?_
                    refine kx_go 3 (pc' := 109) (L' := [(3, .inl (Int32.ofNat m)), (2, .inl (Int32.ofNat i)), (1, .inl (kp_b ((ms_all (fun i => ms_all (ms_bm (ms_v (fun l i => fa_w B l i) (fs_O F E)) (ms_v (fun _ _ => 1) (fs_O F E)) (fs_cap B) (fs_most B) L c i) M) i && ms_all (ms_bm (ms_v (fun l i => fa_w B l i) (fs_O F E)) (ms_v (fun _ _ => 1) (fs_O F E)) (fs_cap B) (fs_most B) L c i) m)))), (0, .inr (.inr (.inl (some 259))))]) (S' := [.inl ((Int32.ofNat 2) * (Int32.ofNat m)), .inr (.inr (.inl (some 276)))]) (h' := h2) (by with_unfolding_all rfl) ?_
                    rw [kx_mul]
                    refine kx_iald (c := 276) (j := 2 * m) (m := 6) (v := .inl (Int32.ofNat (ms_s (ms_v (fun l i => fa_w B l i) (fs_O F E)) c (2 * m) i L))) rfl rfl (by decide) (by decide) (by omega) x0.1 ?_
                    refine kx_go 1 (pc' := 111) (L' := [(3, .inl (Int32.ofNat m)), (2, .inl (Int32.ofNat i)), (1, .inl (kp_b ((ms_all (fun i => ms_all (ms_bm (ms_v (fun l i => fa_w B l i) (fs_O F E)) (ms_v (fun _ _ => 1) (fs_O F E)) (fs_cap B) (fs_most B) L c i) M) i && ms_all (ms_bm (ms_v (fun l i => fa_w B l i) (fs_O F E)) (ms_v (fun _ _ => 1) (fs_O F E)) (fs_cap B) (fs_most B) L c i) m)))), (0, .inr (.inr (.inl (some 259))))]) (S' := [.inr (.inr (.inl (some 259))), .inl (Int32.ofNat (ms_s (ms_v (fun l i => fa_w B l i) (fs_O F E)) c (2 * m) i L))]) (h' := h2) (by with_unfolding_all rfl) ?_
                    refine kx_getf (c := 259) (v := .inr (.inr (.inl (some 276)))) rfl (by decide) (kx_ofr (hw2 _ _ _ fs_k259_30)) ?_
                    refine kx_go 5 (pc' := 119) (L' := [(3, .inl (Int32.ofNat m)), (2, .inl (Int32.ofNat i)), (1, .inl (kp_b ((ms_all (fun i => ms_all (ms_bm (ms_v (fun l i => fa_w B l i) (fs_O F E)) (ms_v (fun _ _ => 1) (fs_O F E)) (fs_cap B) (fs_most B) L c i) M) i && ms_all (ms_bm (ms_v (fun l i => fa_w B l i) (fs_O F E)) (ms_v (fun _ _ => 1) (fs_O F E)) (fs_cap B) (fs_most B) L c i) m)))), (0, .inr (.inr (.inl (some 259))))]) (S' := [.inl (((Int32.ofNat 2) * (Int32.ofNat m)) + (Int32.ofNat 1)), .inr (.inr (.inl (some 276))), .inl (Int32.ofNat (ms_s (ms_v (fun l i => fa_w B l i) (fs_O F E)) c (2 * m) i L))]) (h' := h2) (by with_unfolding_all rfl) ?_
                    rw [kx_mul, kx_add]
                    refine kx_iald (c := 276) (j := 2 * m + 1) (m := 6) (v := .inl (Int32.ofNat (ms_s (ms_v (fun l i => fa_w B l i) (fs_O F E)) c (2 * m + 1) i L))) rfl rfl (by decide) (by decide) (by omega) x1.1 ?_
                    refine kx_go 3 (pc' := 123) (L' := [(3, .inl (Int32.ofNat m)), (2, .inl (Int32.ofNat i)), (1, .inl (kp_b ((ms_all (fun i => ms_all (ms_bm (ms_v (fun l i => fa_w B l i) (fs_O F E)) (ms_v (fun _ _ => 1) (fs_O F E)) (fs_cap B) (fs_most B) L c i) M) i && ms_all (ms_bm (ms_v (fun l i => fa_w B l i) (fs_O F E)) (ms_v (fun _ _ => 1) (fs_O F E)) (fs_cap B) (fs_most B) L c i) m)))), (0, .inr (.inr (.inl (some 259))))]) (S' := [.inl (Int32.ofNat m), .inr (.inr (.inl (some 259))), .inl ((Int32.ofNat (ms_s (ms_v (fun l i => fa_w B l i) (fs_O F E)) c (2 * m) i L)) + (Int32.ofNat (ms_s (ms_v (fun l i => fa_w B l i) (fs_O F E)) c (2 * m + 1) i L)))]) (h' := h2) (by with_unfolding_all rfl) ?_
                    rw [kx_add]
                    refine kc_call_rule (M2 := wk_m247) (av := [.inr (.inr (.inl (some 259))), .inl (Int32.ofNat m)]) (r := [.inl (Int32.ofNat (ms_s (ms_v (fun l i => fa_w B l i) (fs_O F E)) c (2 * m) i L + ms_s (ms_v (fun l i => fa_w B l i) (fs_O F E)) c (2 * m + 1) i L))]) rfl rfl (kc_Con_le (fa_r247 (d := d) hg hw2 hC2 hB hm3) (by omega)) (fun rv hcc hq => ?_)
                    obtain ⟨rfl, e9⟩ := hq
                    rw [e9]
                    clear e9
                    rw [em0]
                    show kc_Ev g (d + 5) wk_m106 _ 126 [(3, .inl (Int32.ofNat m)), (2, .inl (Int32.ofNat i)), (1, .inl (kp_b ((ms_all (fun i => ms_all (ms_bm (ms_v (fun l i => fa_w B l i) (fs_O F E)) (ms_v (fun _ _ => 1) (fs_O F E)) (fs_cap B) (fs_most B) L c i) M) i && ms_all (ms_bm (ms_v (fun l i => fa_w B l i) (fs_O F E)) (ms_v (fun _ _ => 1) (fs_O F E)) (fs_cap B) (fs_most B) L c i) m)))), (0, .inr (.inr (.inl (some 259))))] [.inl (Int32.ofNat (fs_most B m)), .inl (Int32.ofNat (ms_s (ms_v (fun l i => fa_w B l i) (fs_O F E)) c (2 * m) i L + ms_s (ms_v (fun l i => fa_w B l i) (fs_O F E)) c (2 * m + 1) i L))] h2
                    refine kx_go 1 (pc' := (if kc_cnd .gt (Int32.ofNat (ms_s (ms_v (fun l i => fa_w B l i) (fs_O F E)) c (2 * m) i L + ms_s (ms_v (fun l i => fa_w B l i) (fs_O F E)) c (2 * m + 1) i L)).toInt (Int32.ofNat (fs_most B m)).toInt then 133 else 129)) (L' := [(3, .inl (Int32.ofNat m)), (2, .inl (Int32.ofNat i)), (1, .inl (kp_b ((ms_all (fun i => ms_all (ms_bm (ms_v (fun l i => fa_w B l i) (fs_O F E)) (ms_v (fun _ _ => 1) (fs_O F E)) (fs_cap B) (fs_most B) L c i) M) i && ms_all (ms_bm (ms_v (fun l i => fa_w B l i) (fs_O F E)) (ms_v (fun _ _ => 1) (fs_O F E)) (fs_cap B) (fs_most B) L c i) m)))), (0, .inr (.inr (.inl (some 259))))]) (S' := []) (h' := h2) (by with_unfolding_all rfl) ?_
                    by_cases d4 : ms_s (ms_v (fun l i => fa_w B l i) (fs_O F E)) c (2 * m) i L + ms_s (ms_v (fun l i => fa_w B l i) (fs_O F E)) c (2 * m + 1) i L ≤ fs_most B m
                    · rw [if_neg (fun q => by have := (kx_gt (by omega) (by omega)).mp q; omega)]
                      refine kx_go 2 (pc' := 134) (L' := [(3, .inl (Int32.ofNat m)), (2, .inl (Int32.ofNat i)), (1, .inl (kp_b ((ms_all (fun i => ms_all (ms_bm (ms_v (fun l i => fa_w B l i) (fs_O F E)) (ms_v (fun _ _ => 1) (fs_O F E)) (fs_cap B) (fs_most B) L c i) M) i && ms_all (ms_bm (ms_v (fun l i => fa_w B l i) (fs_O F E)) (ms_v (fun _ _ => 1) (fs_O F E)) (fs_cap B) (fs_most B) L c i) m)))), (0, .inr (.inr (.inl (some 259))))]) (S' := [.inl (Int32.ofNat 1)]) (h' := h2) (by with_unfolding_all rfl) ?_
                      exact next true (by rw [eN, eI, show ms_bm (ms_v (fun l i => fa_w B l i) (fs_O F E)) (ms_v (fun _ _ => 1) (fs_O F E)) (fs_cap B) (fs_most B) L c i m = true from decide_eq_true ⟨d0, d1, d2, d3, d4⟩]; rfl)
                    · rw [if_pos ((kx_gt (by omega) (by omega)).mpr (by omega))]
                      exact no (by rw [show ms_bm (ms_v (fun l i => fa_w B l i) (fs_O F E)) (ms_v (fun _ _ => 1) (fs_O F E)) (fs_cap B) (fs_most B) L c i m = false from decide_eq_false (fun q => d4 q.2.2.2.2), Bool.and_false])
                  · rw [if_pos ((kx_ge (by omega) (by omega)).mpr (by omega))]
                    exact no (by rw [show ms_bm (ms_v (fun l i => fa_w B l i) (fs_O F E)) (ms_v (fun _ _ => 1) (fs_O F E)) (fs_cap B) (fs_most B) L c i m = false from decide_eq_false (fun q => d3 q.2.2.2.1), Bool.and_false])
                · rw [if_pos ((kx_ge (by omega) (by omega)).mpr (by omega))]
                  exact no (by rw [show ms_bm (ms_v (fun l i => fa_w B l i) (fs_O F E)) (ms_v (fun _ _ => 1) (fs_O F E)) (fs_cap B) (fs_most B) L c i m = false from decide_eq_false (fun q => d2 q.2.2.1), Bool.and_false])
              · rw [if_pos ((kx_gt (by omega) (by omega)).mpr (by omega))]
                exact no (by rw [show ms_bm (ms_v (fun l i => fa_w B l i) (fs_O F E)) (ms_v (fun _ _ => 1) (fs_O F E)) (fs_cap B) (fs_most B) L c i m = false from decide_eq_false (fun q => d1 q.2.1), Bool.and_false])
            · rw [if_pos ((kx_gt (by omega) (by omega)).mpr (by omega))]
              exact no (by rw [show ms_bm (ms_v (fun l i => fa_w B l i) (fs_O F E)) (ms_v (fun _ _ => 1) (fs_O F E)) (fs_cap B) (fs_most B) L c i m = false from decide_eq_false (fun q => d0 q.1), Bool.and_false])
      refine kx_go 2 (pc' := 26) (L' := [(3, .inl (Int32.ofNat 0)), (2, .inl (Int32.ofNat i)), (1, .inl (kp_b (ms_all (fun i => ms_all (ms_bm (ms_v (fun l i => fa_w B l i) (fs_O F E)) (ms_v (fun _ _ => 1) (fs_O F E)) (fs_cap B) (fs_most B) L c i) M) i))), (0, .inr (.inr (.inl (some 259))))]) (S' := []) (h' := h2) (by with_unfolding_all rfl) ?_
      have k9 := inner M 0 (by omega) (by omega)
      rw [show (ms_all (fun i => ms_all (ms_bm (ms_v (fun l i => fa_w B l i) (fs_O F E)) (ms_v (fun _ _ => 1) (fs_O F E)) (fs_cap B) (fs_most B) L c i) M) i && ms_all (ms_bm (ms_v (fun l i => fa_w B l i) (fs_O F E)) (ms_v (fun _ _ => 1) (fs_O F E)) (fs_cap B) (fs_most B) L c i) 0) = ms_all (fun i => ms_all (ms_bm (ms_v (fun l i => fa_w B l i) (fs_O F E)) (ms_v (fun _ _ => 1) (fs_O F E)) (fs_cap B) (fs_most B) L c i) M) i from Bool.and_true _] at k9
      exact k9
set_option maxRecDepth 20000 in
theorem fs_r106 {g : kc_G} {d : Nat} {h0 : kc_H} {B : Nat → Int32} {F E : Nat → Nat} {co : Nat → Bool} {c : Nat → Nat} {n L M : Nat} (hw0 : kd_wt kd_ty h0) (hg : kc_ok g) (hB : fu_BT B) (hC0 : fu_B B h0) (hn : n ≤ 5) (en : B 3 = Int32.ofNat n) (hL : L ≤ 10) (eL : B 2 = Int32.ofNat L) (hM : M ≤ 3) (eM : B 1 = Int32.ofNat M) (hE : ∀ l, l < L → F l ≤ 5 ∧ E l ≤ 5) (hsp : fs_sp F E co L h0) (hc : ∀ l, l < L → h0 272 l = .inl (Int32.ofNat (c l)) ∧ c l < 6) : kc_Con g (d + 6) 106 [.inr (.inr (.inl (some 259)))] h0 (fun rv h' => rv = some (.inl (kp_b (ms_bor (ms_v (fun l i => fa_w B l i) (fs_O F E)) (ms_v (fun _ _ => 1) (fs_O F E)) (fs_cap B) (fs_most B) L M n c))) ∧ kd_wt kd_ty h' ∧ fs_rx h0 h') := by
  refine kc_Con_new hg (M := wk_m106) rfl rfl rfl (show 1 ≤ 4 by decide) ?_
  refine kx_go 4 (pc' := 4) (L' := [(2, .inl (Int32.ofNat 0)), (1, .inl (Int32.ofNat 1)), (0, .inr (.inr (.inl (some 259))))]) (S' := []) (h' := h0) (by with_unfolding_all rfl) ?_
  exact fs_r106l hg hB hC0 hn en hL eL hM eM hE hsp hc n 0 h0 (by omega) (by omega) hw0 (fun _ _ _ => rfl)
set_option maxRecDepth 20000 in
theorem fs_r110l {g : kc_G} {d : Nat} {h0 : kc_H} {B : Nat → Int32} {F E : Nat → Nat} {co : Nat → Bool} {c : Nat → Nat} {n L M : Nat} (hg : kc_ok g) (hB : fu_BT B) (hC0 : fu_B B h0) (hn : n ≤ 5) (en : B 3 = Int32.ofNat n) (hL : L ≤ 10) (eL : B 2 = Int32.ofNat L) (hM : M ≤ 3) (eM : B 1 = Int32.ofNat M) (hE : ∀ l, l < L → F l ≤ 5 ∧ E l ≤ 5) (hsp : fs_sp F E co L h0) (hc : ∀ l, l < L → h0 272 l = .inl (Int32.ofNat (c l)) ∧ c l < 6) : ∀ (u i : Nat) (h : kc_H), n - i = u → i ≤ n → kd_wt kd_ty h → fs_rx h0 h → kc_Ev g (d + 5) wk_m110 (fun rv h' => rv = some (.inl (Int32.ofNat (ms_wo (ms_v (fun l i => fa_w B l i) (fs_O F E)) L M n c))) ∧ kd_wt kd_ty h' ∧ fs_rx h0 h') 4 [(2, .inl (Int32.ofNat i)), (1, .inl (Int32.ofNat (ms_max (ms_wl (ms_v (fun l i => fa_w B l i) (fs_O F E)) L M c) i))), (0, .inr (.inr (.inl (some 259))))] [] h := by
  have wlb : ∀ i, ms_wl (ms_v (fun l i => fa_w B l i) (fs_O F E)) L M c i ≤ 990 := fun i => ms_max_b M (fun m _ => ms_d_b (fs_sb0 hB hL).1 (fs_sb0 hB hL).1)
  intro u
  induction u with
  | zero =>
    intro i h hu hi hw hF
    have hC : fu_B B h := fs_B_f (fun x => hF 260 x (by decide)) hC0
    refine kx_go 2 (pc' := 6) (L' := [(2, .inl (Int32.ofNat i)), (1, .inl (Int32.ofNat (ms_max (ms_wl (ms_v (fun l i => fa_w B l i) (fs_O F E)) L M c) i))), (0, .inr (.inr (.inl (some 259))))]) (S' := [.inr (.inr (.inl (some 259))), .inl (Int32.ofNat i)]) (h' := h) (by with_unfolding_all rfl) ?_
    refine kx_getf (c := 259) (v := .inr (.inr (.inl (some 260)))) rfl (by decide) (kx_ofr (hw _ _ _ fs_k259_0)) ?_
    refine kx_go 1 (pc' := 10) (L' := [(2, .inl (Int32.ofNat i)), (1, .inl (Int32.ofNat (ms_max (ms_wl (ms_v (fun l i => fa_w B l i) (fs_O F E)) L M c) i))), (0, .inr (.inr (.inl (some 259))))]) (S' := [.inl (Int32.ofNat 3), .inr (.inr (.inl (some 260))), .inl (Int32.ofNat i)]) (h' := h) (by with_unfolding_all rfl) ?_
    refine kx_iald (c := 260) (j := 3) (m := 650) (v := .inl (Int32.ofNat n)) rfl rfl (by decide) (by decide) (by omega) ((hC 3 (by decide) (by decide)).trans (by rw [en])) ?_
    refine kx_go 1 (pc' := (if kc_cnd .ge (Int32.ofNat i).toInt (Int32.ofNat n).toInt then 64 else 14)) (L' := [(2, .inl (Int32.ofNat i)), (1, .inl (Int32.ofNat (ms_max (ms_wl (ms_v (fun l i => fa_w B l i) (fs_O F E)) L M c) i))), (0, .inr (.inr (.inl (some 259))))]) (S' := []) (h' := h) (by with_unfolding_all rfl) ?_
    rw [if_pos ((kx_ge (by omega) (by omega)).mpr (by omega))]
    obtain rfl : i = n := by omega
    refine kx_go 1 (pc' := 65) (L' := [(2, .inl (Int32.ofNat i)), (1, .inl (Int32.ofNat (ms_max (ms_wl (ms_v (fun l i => fa_w B l i) (fs_O F E)) L M c) i))), (0, .inr (.inr (.inl (some 259))))]) (S' := [.inl (Int32.ofNat (ms_max (ms_wl (ms_v (fun l i => fa_w B l i) (fs_O F E)) L M c) i))]) (h' := h) (by with_unfolding_all rfl) ?_
    exact kc_ret_ok rfl (rv := some (.inl (Int32.ofNat (ms_wo (ms_v (fun l i => fa_w B l i) (fs_O F E)) L M i c)))) rfl ⟨rfl, hw, hF⟩
  | succ u ih =>
    intro i h hu hi hw hF
    have hC : fu_B B h := fs_B_f (fun x => hF 260 x (by decide)) hC0
    refine kx_go 2 (pc' := 6) (L' := [(2, .inl (Int32.ofNat i)), (1, .inl (Int32.ofNat (ms_max (ms_wl (ms_v (fun l i => fa_w B l i) (fs_O F E)) L M c) i))), (0, .inr (.inr (.inl (some 259))))]) (S' := [.inr (.inr (.inl (some 259))), .inl (Int32.ofNat i)]) (h' := h) (by with_unfolding_all rfl) ?_
    refine kx_getf (c := 259) (v := .inr (.inr (.inl (some 260)))) rfl (by decide) (kx_ofr (hw _ _ _ fs_k259_0)) ?_
    refine kx_go 1 (pc' := 10) (L' := [(2, .inl (Int32.ofNat i)), (1, .inl (Int32.ofNat (ms_max (ms_wl (ms_v (fun l i => fa_w B l i) (fs_O F E)) L M c) i))), (0, .inr (.inr (.inl (some 259))))]) (S' := [.inl (Int32.ofNat 3), .inr (.inr (.inl (some 260))), .inl (Int32.ofNat i)]) (h' := h) (by with_unfolding_all rfl) ?_
    refine kx_iald (c := 260) (j := 3) (m := 650) (v := .inl (Int32.ofNat n)) rfl rfl (by decide) (by decide) (by omega) ((hC 3 (by decide) (by decide)).trans (by rw [en])) ?_
    refine kx_go 1 (pc' := (if kc_cnd .ge (Int32.ofNat i).toInt (Int32.ofNat n).toInt then 64 else 14)) (L' := [(2, .inl (Int32.ofNat i)), (1, .inl (Int32.ofNat (ms_max (ms_wl (ms_v (fun l i => fa_w B l i) (fs_O F E)) L M c) i))), (0, .inr (.inr (.inl (some 259))))]) (S' := []) (h' := h) (by with_unfolding_all rfl) ?_
    rw [if_neg (fun q => by have := (kx_ge (by omega) (by omega)).mp q; omega)]
    refine kx_go 3 (pc' := 17) (L' := [(2, .inl (Int32.ofNat i)), (1, .inl (Int32.ofNat (ms_max (ms_wl (ms_v (fun l i => fa_w B l i) (fs_O F E)) L M c) i))), (0, .inr (.inr (.inl (some 259))))]) (S' := [.inl (Int32.ofNat 0), .inl (Int32.ofNat i), .inr (.inr (.inl (some 259)))]) (h' := h) (by with_unfolding_all rfl) ?_
    have hsp2 := fs_sp_f (h' := h) (fun a y q1 q2 => hF a y (by omega)) hsp
    have hc2 : ∀ l, l < L → h 272 l = .inl (Int32.ofNat (c l)) ∧ c l < 6 := fun l hl => ⟨(hF 272 l (by decide)).trans (hc l hl).1, (hc l hl).2⟩
    refine kc_call_rule (M2 := wk_m260) (av := [.inr (.inr (.inl (some 259))), .inl (Int32.ofNat i), .inl (Int32.ofNat 0)]) (r := []) rfl rfl (kc_Con_le (fs_r260 (d := d) (i := i) (t := 0) (c := c) hw hg hB hC eL hL (show i < 5 by omega) (by decide) hE hsp2 hc2) (by omega)) (fun rv h2 hq => ?_)
    obtain ⟨rfl, hw2, hr2, hF2⟩ := hq
    show kc_Ev g (d + 5) wk_m110 _ 20 [(2, .inl (Int32.ofNat i)), (1, .inl (Int32.ofNat (ms_max (ms_wl (ms_v (fun l i => fa_w B l i) (fs_O F E)) L M c) i))), (0, .inr (.inr (.inl (some 259))))] [] h2
    rw [fs_Ot0] at hr2
    have hF3 : fs_rx h0 h2 := fun a y ha => (hF2 a y ha).trans (hF a y ha)
    have hC2 : fu_B B h2 := fs_B_f (fun x => hF3 260 x (by decide)) hC0
    have inner : ∀ (v m : Nat), M - m = v → m ≤ M → kc_Ev g (d + 5) wk_m110 (fun rv h' => rv = some (.inl (Int32.ofNat (ms_wo (ms_v (fun l i => fa_w B l i) (fs_O F E)) L M n c))) ∧ kd_wt kd_ty h' ∧ fs_rx h0 h') 22 [(3, .inl (Int32.ofNat m)), (2, .inl (Int32.ofNat i)), (1, .inl (Int32.ofNat (Nat.max (ms_max (ms_wl (ms_v (fun l i => fa_w B l i) (fs_O F E)) L M c) i) (ms_max (fun m => ms_d (ms_s (ms_v (fun l i => fa_w B l i) (fs_O F E)) c (2 * m) i L) (ms_s (ms_v (fun l i => fa_w B l i) (fs_O F E)) c (2 * m + 1) i L)) m)))), (0, .inr (.inr (.inl (some 259))))] [] h2 := by
      intro v
      induction v with
      | zero =>
        intro m hv hm
        refine kx_go 2 (pc' := 24) (L' := [(3, .inl (Int32.ofNat m)), (2, .inl (Int32.ofNat i)), (1, .inl (Int32.ofNat (Nat.max (ms_max (ms_wl (ms_v (fun l i => fa_w B l i) (fs_O F E)) L M c) i) (ms_max (fun m => ms_d (ms_s (ms_v (fun l i => fa_w B l i) (fs_O F E)) c (2 * m) i L) (ms_s (ms_v (fun l i => fa_w B l i) (fs_O F E)) c (2 * m + 1) i L)) m)))), (0, .inr (.inr (.inl (some 259))))]) (S' := [.inr (.inr (.inl (some 259))), .inl (Int32.ofNat m)]) (h' := h2) (by with_unfolding_all rfl) ?_
        refine kx_getf (c := 259) (v := .inr (.inr (.inl (some 260)))) rfl (by decide) (kx_ofr (hw2 _ _ _ fs_k259_0)) ?_
        refine kx_go 1 (pc' := 28) (L' := [(3, .inl (Int32.ofNat m)), (2, .inl (Int32.ofNat i)), (1, .inl (Int32.ofNat (Nat.max (ms_max (ms_wl (ms_v (fun l i => fa_w B l i) (fs_O F E)) L M c) i) (ms_max (fun m => ms_d (ms_s (ms_v (fun l i => fa_w B l i) (fs_O F E)) c (2 * m) i L) (ms_s (ms_v (fun l i => fa_w B l i) (fs_O F E)) c (2 * m + 1) i L)) m)))), (0, .inr (.inr (.inl (some 259))))]) (S' := [.inl (Int32.ofNat 1), .inr (.inr (.inl (some 260))), .inl (Int32.ofNat m)]) (h' := h2) (by with_unfolding_all rfl) ?_
        refine kx_iald (c := 260) (j := 1) (m := 650) (v := .inl (Int32.ofNat M)) rfl rfl (by decide) (by decide) (by omega) ((hC2 1 (by decide) (by decide)).trans (by rw [eM])) ?_
        refine kx_go 1 (pc' := (if kc_cnd .ge (Int32.ofNat m).toInt (Int32.ofNat M).toInt then 58 else 32)) (L' := [(3, .inl (Int32.ofNat m)), (2, .inl (Int32.ofNat i)), (1, .inl (Int32.ofNat (Nat.max (ms_max (ms_wl (ms_v (fun l i => fa_w B l i) (fs_O F E)) L M c) i) (ms_max (fun m => ms_d (ms_s (ms_v (fun l i => fa_w B l i) (fs_O F E)) c (2 * m) i L) (ms_s (ms_v (fun l i => fa_w B l i) (fs_O F E)) c (2 * m + 1) i L)) m)))), (0, .inr (.inr (.inl (some 259))))]) (S' := []) (h' := h2) (by with_unfolding_all rfl) ?_
        rw [if_pos ((kx_ge (by omega) (by omega)).mpr (by omega))]
        have em : m = M := by omega
        rw [em]
        refine kx_go 2 (pc' := 4) (L' := [(2, .inl ((Int32.ofNat i) + Int32.ofInt 1)), (3, .inl (Int32.ofNat M)), (1, .inl (Int32.ofNat (Nat.max (ms_max (ms_wl (ms_v (fun l i => fa_w B l i) (fs_O F E)) L M c) i) (ms_max (fun m => ms_d (ms_s (ms_v (fun l i => fa_w B l i) (fs_O F E)) c (2 * m) i L) (ms_s (ms_v (fun l i => fa_w B l i) (fs_O F E)) c (2 * m + 1) i L)) M)))), (0, .inr (.inr (.inl (some 259))))]) (S' := []) (h' := h2) (by with_unfolding_all rfl) ?_
        rw [kx_inc]
        refine kf_lo (L := [(2, .inl (Int32.ofNat (i + 1))), (1, .inl (Int32.ofNat (Nat.max (ms_max (ms_wl (ms_v (fun l i => fa_w B l i) (fs_O F E)) L M c) i) (ms_max (fun m => ms_d (ms_s (ms_v (fun l i => fa_w B l i) (fs_O F E)) c (2 * m) i L) (ms_s (ms_v (fun l i => fa_w B l i) (fs_O F E)) c (2 * m + 1) i L)) M)))), (0, .inr (.inr (.inl (some 259))))]) (by intro q hq; simp only [List.mem_cons, List.not_mem_nil, or_false] at hq; rcases hq with rfl | rfl | rfl <;> rfl) ?_
        exact ih (i + 1) h2 (by omega) (by omega) hw2 hF3
      | succ v ihv =>
        intro m hv hm
        refine kx_go 2 (pc' := 24) (L' := [(3, .inl (Int32.ofNat m)), (2, .inl (Int32.ofNat i)), (1, .inl (Int32.ofNat (Nat.max (ms_max (ms_wl (ms_v (fun l i => fa_w B l i) (fs_O F E)) L M c) i) (ms_max (fun m => ms_d (ms_s (ms_v (fun l i => fa_w B l i) (fs_O F E)) c (2 * m) i L) (ms_s (ms_v (fun l i => fa_w B l i) (fs_O F E)) c (2 * m + 1) i L)) m)))), (0, .inr (.inr (.inl (some 259))))]) (S' := [.inr (.inr (.inl (some 259))), .inl (Int32.ofNat m)]) (h' := h2) (by with_unfolding_all rfl) ?_
        refine kx_getf (c := 259) (v := .inr (.inr (.inl (some 260)))) rfl (by decide) (kx_ofr (hw2 _ _ _ fs_k259_0)) ?_
        refine kx_go 1 (pc' := 28) (L' := [(3, .inl (Int32.ofNat m)), (2, .inl (Int32.ofNat i)), (1, .inl (Int32.ofNat (Nat.max (ms_max (ms_wl (ms_v (fun l i => fa_w B l i) (fs_O F E)) L M c) i) (ms_max (fun m => ms_d (ms_s (ms_v (fun l i => fa_w B l i) (fs_O F E)) c (2 * m) i L) (ms_s (ms_v (fun l i => fa_w B l i) (fs_O F E)) c (2 * m + 1) i L)) m)))), (0, .inr (.inr (.inl (some 259))))]) (S' := [.inl (Int32.ofNat 1), .inr (.inr (.inl (some 260))), .inl (Int32.ofNat m)]) (h' := h2) (by with_unfolding_all rfl) ?_
        refine kx_iald (c := 260) (j := 1) (m := 650) (v := .inl (Int32.ofNat M)) rfl rfl (by decide) (by decide) (by omega) ((hC2 1 (by decide) (by decide)).trans (by rw [eM])) ?_
        refine kx_go 1 (pc' := (if kc_cnd .ge (Int32.ofNat m).toInt (Int32.ofNat M).toInt then 58 else 32)) (L' := [(3, .inl (Int32.ofNat m)), (2, .inl (Int32.ofNat i)), (1, .inl (Int32.ofNat (Nat.max (ms_max (ms_wl (ms_v (fun l i => fa_w B l i) (fs_O F E)) L M c) i) (ms_max (fun m => ms_d (ms_s (ms_v (fun l i => fa_w B l i) (fs_O F E)) c (2 * m) i L) (ms_s (ms_v (fun l i => fa_w B l i) (fs_O F E)) c (2 * m + 1) i L)) m)))), (0, .inr (.inr (.inl (some 259))))]) (S' := []) (h' := h2) (by with_unfolding_all rfl) ?_
        rw [if_neg (fun q => by have := (kx_ge (by omega) (by omega)).mp q; omega)]
        have x0 := (hr2 (2 * m) (by omega)).1
        have x1 := (hr2 (2 * m + 1) (by omega)).1
        have l0 := (fs_sb0 (F := F) (E := E) (c := c) (s := 2 * m) (i := i) hB hL).1
        have l1 := (fs_sb0 (F := F) (E := E) (c := c) (s := 2 * m + 1) (i := i) hB hL).1
        have l2 : ms_max (ms_wl (ms_v (fun l i => fa_w B l i) (fs_O F E)) L M c) i ≤ 990 := ms_max_b _ (fun j _ => wlb j)
        have l3 : ms_max (fun m => ms_d (ms_s (ms_v (fun l i => fa_w B l i) (fs_O F E)) c (2 * m) i L) (ms_s (ms_v (fun l i => fa_w B l i) (fs_O F E)) c (2 * m + 1) i L)) m ≤ 990 := ms_max_b _ (fun j _ => ms_d_b (fs_sb0 hB hL).1 (fs_sb0 hB hL).1)
        have l4 := fs_nmax l2 l3
        have l5 : ms_d (ms_s (ms_v (fun l i => fa_w B l i) (fs_O F E)) c (2 * m) i L) (ms_s (ms_v (fun l i => fa_w B l i) (fs_O F E)) c (2 * m + 1) i L) ≤ 990 := ms_d_b l0 l1
        refine kx_go 2 (pc' := 34) (L' := [(3, .inl (Int32.ofNat m)), (2, .inl (Int32.ofNat i)), (1, .inl (Int32.ofNat (Nat.max (ms_max (ms_wl (ms_v (fun l i => fa_w B l i) (fs_O F E)) L M c) i) (ms_max (fun m => ms_d (ms_s (ms_v (fun l i => fa_w B l i) (fs_O F E)) c (2 * m) i L) (ms_s (ms_v (fun l i => fa_w B l i) (fs_O F E)) c (2 * m + 1) i L)) m)))), (0, .inr (.inr (.inl (some 259))))]) (S' := [.inl (Int32.ofNat m), .inr (.inr (.inl (some 259)))]) (h' := h2) (by with_unfolding_all rfl) ?_
        refine kc_call_rule (M2 := wk_m261) (av := [.inr (.inr (.inl (some 259))), .inl (Int32.ofNat m)]) (r := []) rfl rfl (kc_Con_le (fs_r261 (d := d) hg hw2 (show m < 3 by omega) l0 l1 x0 x1) (by omega)) (fun rv hcc hq => ?_)
        obtain ⟨rfl, e9⟩ := hq
        rw [e9]
        clear e9
        show kc_Ev g (d + 5) wk_m110 _ 37 [(3, .inl (Int32.ofNat m)), (2, .inl (Int32.ofNat i)), (1, .inl (Int32.ofNat (Nat.max (ms_max (ms_wl (ms_v (fun l i => fa_w B l i) (fs_O F E)) L M c) i) (ms_max (fun m => ms_d (ms_s (ms_v (fun l i => fa_w B l i) (fs_O F E)) c (2 * m) i L) (ms_s (ms_v (fun l i => fa_w B l i) (fs_O F E)) c (2 * m + 1) i L)) m)))), (0, .inr (.inr (.inl (some 259))))] [.inl (Int32.ofNat (ms_d (ms_s (ms_v (fun l i => fa_w B l i) (fs_O F E)) c (2 * m) i L) (ms_s (ms_v (fun l i => fa_w B l i) (fs_O F E)) c (2 * m + 1) i L)))] h2
        refine kx_go 4 (pc' := (if kc_cnd .le (Int32.ofNat (ms_d (ms_s (ms_v (fun l i => fa_w B l i) (fs_O F E)) c (2 * m) i L) (ms_s (ms_v (fun l i => fa_w B l i) (fs_O F E)) c (2 * m + 1) i L))).toInt (Int32.ofNat (Nat.max (ms_max (ms_wl (ms_v (fun l i => fa_w B l i) (fs_O F E)) L M c) i) (ms_max (fun m => ms_d (ms_s (ms_v (fun l i => fa_w B l i) (fs_O F E)) c (2 * m) i L) (ms_s (ms_v (fun l i => fa_w B l i) (fs_O F E)) c (2 * m + 1) i L)) m))).toInt then 50 else 45)) (L' := [(4, .inl (Int32.ofNat (ms_d (ms_s (ms_v (fun l i => fa_w B l i) (fs_O F E)) c (2 * m) i L) (ms_s (ms_v (fun l i => fa_w B l i) (fs_O F E)) c (2 * m + 1) i L)))), (3, .inl (Int32.ofNat m)), (2, .inl (Int32.ofNat i)), (1, .inl (Int32.ofNat (Nat.max (ms_max (ms_wl (ms_v (fun l i => fa_w B l i) (fs_O F E)) L M c) i) (ms_max (fun m => ms_d (ms_s (ms_v (fun l i => fa_w B l i) (fs_O F E)) c (2 * m) i L) (ms_s (ms_v (fun l i => fa_w B l i) (fs_O F E)) c (2 * m + 1) i L)) m)))), (0, .inr (.inr (.inl (some 259))))]) (S' := []) (h' := h2) (by with_unfolding_all rfl) ?_
        by_cases c1 : Nat.max (ms_max (ms_wl (ms_v (fun l i => fa_w B l i) (fs_O F E)) L M c) i) (ms_max (fun m => ms_d (ms_s (ms_v (fun l i => fa_w B l i) (fs_O F E)) c (2 * m) i L) (ms_s (ms_v (fun l i => fa_w B l i) (fs_O F E)) c (2 * m + 1) i L)) m) < ms_d (ms_s (ms_v (fun l i => fa_w B l i) (fs_O F E)) c (2 * m) i L) (ms_s (ms_v (fun l i => fa_w B l i) (fs_O F E)) c (2 * m + 1) i L)
        · rw [if_neg (fun q => by have := (kx_le (by omega) (by omega)).mp q; omega)]
          have e9 : ms_d (ms_s (ms_v (fun l i => fa_w B l i) (fs_O F E)) c (2 * m) i L) (ms_s (ms_v (fun l i => fa_w B l i) (fs_O F E)) c (2 * m + 1) i L) = Nat.max (ms_max (ms_wl (ms_v (fun l i => fa_w B l i) (fs_O F E)) L M c) i) (ms_max (fun m => ms_d (ms_s (ms_v (fun l i => fa_w B l i) (fs_O F E)) c (2 * m) i L) (ms_s (ms_v (fun l i => fa_w B l i) (fs_O F E)) c (2 * m + 1) i L)) (m + 1)) := by
            show _ = Nat.max (ms_max (ms_wl (ms_v (fun l i => fa_w B l i) (fs_O F E)) L M c) i) (Nat.max (ms_max (fun m => ms_d (ms_s (ms_v (fun l i => fa_w B l i) (fs_O F E)) c (2 * m) i L) (ms_s (ms_v (fun l i => fa_w B l i) (fs_O F E)) c (2 * m + 1) i L)) m) (ms_d (ms_s (ms_v (fun l i => fa_w B l i) (fs_O F E)) c (2 * m) i L) (ms_s (ms_v (fun l i => fa_w B l i) (fs_O F E)) c (2 * m + 1) i L)))
            have e8 : Nat.max (Nat.max (ms_max (ms_wl (ms_v (fun l i => fa_w B l i) (fs_O F E)) L M c) i) (ms_max (fun m => ms_d (ms_s (ms_v (fun l i => fa_w B l i) (fs_O F E)) c (2 * m) i L) (ms_s (ms_v (fun l i => fa_w B l i) (fs_O F E)) c (2 * m + 1) i L)) m)) (ms_d (ms_s (ms_v (fun l i => fa_w B l i) (fs_O F E)) c (2 * m) i L) (ms_s (ms_v (fun l i => fa_w B l i) (fs_O F E)) c (2 * m + 1) i L)) = ms_d (ms_s (ms_v (fun l i => fa_w B l i) (fs_O F E)) c (2 * m) i L) (ms_s (ms_v (fun l i => fa_w B l i) (fs_O F E)) c (2 * m + 1) i L) := Nat.max_eq_right (Nat.le_of_lt c1)
            exact e8.symm.trans (Nat.max_assoc _ _ _)
          refine kx_go 5 (pc' := 22) (L' := [(3, .inl ((Int32.ofNat m) + Int32.ofInt 1)), (1, .inl (Int32.ofNat (ms_d (ms_s (ms_v (fun l i => fa_w B l i) (fs_O F E)) c (2 * m) i L) (ms_s (ms_v (fun l i => fa_w B l i) (fs_O F E)) c (2 * m + 1) i L)))), (4, .inl (Int32.ofNat (ms_d (ms_s (ms_v (fun l i => fa_w B l i) (fs_O F E)) c (2 * m) i L) (ms_s (ms_v (fun l i => fa_w B l i) (fs_O F E)) c (2 * m + 1) i L)))), (2, .inl (Int32.ofNat i)), (0, .inr (.inr (.inl (some 259))))]) (S' := []) (h' := h2) (by with_unfolding_all rfl) ?_
          rw [kx_inc]
          refine kf_lo (L := [(3, .inl (Int32.ofNat (m + 1))), (2, .inl (Int32.ofNat i)), (1, .inl (Int32.ofNat (ms_d (ms_s (ms_v (fun l i => fa_w B l i) (fs_O F E)) c (2 * m) i L) (ms_s (ms_v (fun l i => fa_w B l i) (fs_O F E)) c (2 * m + 1) i L)))), (0, .inr (.inr (.inl (some 259))))]) (by intro q hq; simp only [List.mem_cons, List.not_mem_nil, or_false] at hq; rcases hq with rfl | rfl | rfl | rfl <;> rfl) ?_
          rw [e9]
          exact ihv (m + 1) (by omega) (by omega)
        · rw [if_pos ((kx_le (by omega) (by omega)).mpr (by omega))]
          have e9 : Nat.max (ms_max (ms_wl (ms_v (fun l i => fa_w B l i) (fs_O F E)) L M c) i) (ms_max (fun m => ms_d (ms_s (ms_v (fun l i => fa_w B l i) (fs_O F E)) c (2 * m) i L) (ms_s (ms_v (fun l i => fa_w B l i) (fs_O F E)) c (2 * m + 1) i L)) m) = Nat.max (ms_max (ms_wl (ms_v (fun l i => fa_w B l i) (fs_O F E)) L M c) i) (ms_max (fun m => ms_d (ms_s (ms_v (fun l i => fa_w B l i) (fs_O F E)) c (2 * m) i L) (ms_s (ms_v (fun l i => fa_w B l i) (fs_O F E)) c (2 * m + 1) i L)) (m + 1)) := by
            show _ = Nat.max (ms_max (ms_wl (ms_v (fun l i => fa_w B l i) (fs_O F E)) L M c) i) (Nat.max (ms_max (fun m => ms_d (ms_s (ms_v (fun l i => fa_w B l i) (fs_O F E)) c (2 * m) i L) (ms_s (ms_v (fun l i => fa_w B l i) (fs_O F E)) c (2 * m + 1) i L)) m) (ms_d (ms_s (ms_v (fun l i => fa_w B l i) (fs_O F E)) c (2 * m) i L) (ms_s (ms_v (fun l i => fa_w B l i) (fs_O F E)) c (2 * m + 1) i L)))
            have e8 : Nat.max (Nat.max (ms_max (ms_wl (ms_v (fun l i => fa_w B l i) (fs_O F E)) L M c) i) (ms_max (fun m => ms_d (ms_s (ms_v (fun l i => fa_w B l i) (fs_O F E)) c (2 * m) i L) (ms_s (ms_v (fun l i => fa_w B l i) (fs_O F E)) c (2 * m + 1) i L)) m)) (ms_d (ms_s (ms_v (fun l i => fa_w B l i) (fs_O F E)) c (2 * m) i L) (ms_s (ms_v (fun l i => fa_w B l i) (fs_O F E)) c (2 * m + 1) i L)) = Nat.max (ms_max (ms_wl (ms_v (fun l i => fa_w B l i) (fs_O F E)) L M c) i) (ms_max (fun m => ms_d (ms_s (ms_v (fun l i => fa_w B l i) (fs_O F E)) c (2 * m) i L) (ms_s (ms_v (fun l i => fa_w B l i) (fs_O F E)) c (2 * m + 1) i L)) m) := Nat.max_eq_left (Nat.le_of_not_lt c1)
            exact e8.symm.trans (Nat.max_assoc _ _ _)
          refine kx_go 4 (pc' := 22) (L' := [(3, .inl ((Int32.ofNat m) + Int32.ofInt 1)), (1, .inl (Int32.ofNat (Nat.max (ms_max (ms_wl (ms_v (fun l i => fa_w B l i) (fs_O F E)) L M c) i) (ms_max (fun m => ms_d (ms_s (ms_v (fun l i => fa_w B l i) (fs_O F E)) c (2 * m) i L) (ms_s (ms_v (fun l i => fa_w B l i) (fs_O F E)) c (2 * m + 1) i L)) m)))), (4, .inl (Int32.ofNat (ms_d (ms_s (ms_v (fun l i => fa_w B l i) (fs_O F E)) c (2 * m) i L) (ms_s (ms_v (fun l i => fa_w B l i) (fs_O F E)) c (2 * m + 1) i L)))), (2, .inl (Int32.ofNat i)), (0, .inr (.inr (.inl (some 259))))]) (S' := []) (h' := h2) (by with_unfolding_all rfl) ?_
          rw [kx_inc]
          refine kf_lo (L := [(3, .inl (Int32.ofNat (m + 1))), (2, .inl (Int32.ofNat i)), (1, .inl (Int32.ofNat (Nat.max (ms_max (ms_wl (ms_v (fun l i => fa_w B l i) (fs_O F E)) L M c) i) (ms_max (fun m => ms_d (ms_s (ms_v (fun l i => fa_w B l i) (fs_O F E)) c (2 * m) i L) (ms_s (ms_v (fun l i => fa_w B l i) (fs_O F E)) c (2 * m + 1) i L)) m)))), (0, .inr (.inr (.inl (some 259))))]) (by intro q hq; simp only [List.mem_cons, List.not_mem_nil, or_false] at hq; rcases hq with rfl | rfl | rfl | rfl <;> rfl) ?_
          rw [e9]
          exact ihv (m + 1) (by omega) (by omega)
    refine kx_go 2 (pc' := 22) (L' := [(3, .inl (Int32.ofNat 0)), (2, .inl (Int32.ofNat i)), (1, .inl (Int32.ofNat (ms_max (ms_wl (ms_v (fun l i => fa_w B l i) (fs_O F E)) L M c) i))), (0, .inr (.inr (.inl (some 259))))]) (S' := []) (h' := h2) (by with_unfolding_all rfl) ?_
    have e0 : ms_max (ms_wl (ms_v (fun l i => fa_w B l i) (fs_O F E)) L M c) i = Nat.max (ms_max (ms_wl (ms_v (fun l i => fa_w B l i) (fs_O F E)) L M c) i) (ms_max (fun m => ms_d (ms_s (ms_v (fun l i => fa_w B l i) (fs_O F E)) c (2 * m) i L) (ms_s (ms_v (fun l i => fa_w B l i) (fs_O F E)) c (2 * m + 1) i L)) 0) := (Nat.max_zero _).symm
    rw [e0]
    exact inner M 0 (by omega) (by omega)
set_option maxRecDepth 20000 in
theorem fs_r110 {g : kc_G} {d : Nat} {h0 : kc_H} {B : Nat → Int32} {F E : Nat → Nat} {co : Nat → Bool} {c : Nat → Nat} {n L M : Nat} (hw0 : kd_wt kd_ty h0) (hg : kc_ok g) (hB : fu_BT B) (hC0 : fu_B B h0) (hn : n ≤ 5) (en : B 3 = Int32.ofNat n) (hL : L ≤ 10) (eL : B 2 = Int32.ofNat L) (hM : M ≤ 3) (eM : B 1 = Int32.ofNat M) (hE : ∀ l, l < L → F l ≤ 5 ∧ E l ≤ 5) (hsp : fs_sp F E co L h0) (hc : ∀ l, l < L → h0 272 l = .inl (Int32.ofNat (c l)) ∧ c l < 6) : kc_Con g (d + 6) 110 [.inr (.inr (.inl (some 259)))] h0 (fun rv h' => rv = some (.inl (Int32.ofNat (ms_wo (ms_v (fun l i => fa_w B l i) (fs_O F E)) L M n c))) ∧ kd_wt kd_ty h' ∧ fs_rx h0 h') := by
  refine kc_Con_new hg (M := wk_m110) rfl rfl rfl (show 1 ≤ 5 by decide) ?_
  refine kx_go 4 (pc' := 4) (L' := [(2, .inl (Int32.ofNat 0)), (1, .inl (Int32.ofNat 0)), (0, .inr (.inr (.inl (some 259))))]) (S' := []) (h' := h0) (by with_unfolding_all rfl) ?_
  exact fs_r110l hg hB hC0 hn en hL eL hM eM hE hsp hc n 0 h0 (by omega) (by omega) hw0 (fun _ _ _ => rfl)
set_option maxRecDepth 20000 in
theorem fs_r123l {g : kc_G} {d : Nat} {h0 : kc_H} {B : Nat → Int32} {L : Nat} (hC0 : fu_B B h0) (hL : L ≤ 10) (eL : B 2 = Int32.ofNat L) : ∀ (u l : Nat) (h : kc_H), L - l = u → l ≤ L → kd_wt kd_ty h → (∀ j, j < l → h 272 j = .inl (Int32.ofNat 0)) → (∀ a x, ¬ a = 272 → h a x = h0 a x) → kc_Ev g d wk_m123 (fun rv h' => rv = none ∧ kd_wt kd_ty h' ∧ (∀ l, l < L → h' 272 l = .inl (Int32.ofNat 0)) ∧ ∀ a x, ¬ a = 272 → h' a x = h0 a x) 2 [(1, .inl (Int32.ofNat l)), (0, .inr (.inr (.inl (some 259))))] [] h := by
  intro u
  induction u with
  | zero =>
    intro l h hu hl hw hz hF
    have hC : fu_B B h := fs_B_f (fun x => hF 260 x (by decide)) hC0
    refine kx_go 2 (pc' := 4) (L' := [(1, .inl (Int32.ofNat l)), (0, .inr (.inr (.inl (some 259))))]) (S' := [.inr (.inr (.inl (some 259))), .inl (Int32.ofNat l)]) (h' := h) (by with_unfolding_all rfl) ?_
    refine kx_getf (c := 259) (v := .inr (.inr (.inl (some 260)))) rfl (by decide) (kx_ofr (hw _ _ _ fs_k259_0)) ?_
    refine kx_go 1 (pc' := 8) (L' := [(1, .inl (Int32.ofNat l)), (0, .inr (.inr (.inl (some 259))))]) (S' := [.inl (Int32.ofNat 2), .inr (.inr (.inl (some 260))), .inl (Int32.ofNat l)]) (h' := h) (by with_unfolding_all rfl) ?_
    refine kx_iald (c := 260) (j := 2) (m := 650) (v := .inl (Int32.ofNat L)) rfl rfl (by decide) (by decide) (by omega) ((hC 2 (by decide) (by decide)).trans (by rw [eL])) ?_
    refine kx_go 1 (pc' := (if kc_cnd .ge (Int32.ofNat l).toInt (Int32.ofNat L).toInt then 25 else 12)) (L' := [(1, .inl (Int32.ofNat l)), (0, .inr (.inr (.inl (some 259))))]) (S' := []) (h' := h) (by with_unfolding_all rfl) ?_
    rw [if_pos ((kx_ge (by omega) (by omega)).mpr (by omega))]
    exact kc_ret_ok rfl (rv := none) rfl ⟨rfl, hw, fun j hj => hz j (by omega), hF⟩
  | succ u ih =>
    intro l h hu hl hw hz hF
    have hC : fu_B B h := fs_B_f (fun x => hF 260 x (by decide)) hC0
    refine kx_go 2 (pc' := 4) (L' := [(1, .inl (Int32.ofNat l)), (0, .inr (.inr (.inl (some 259))))]) (S' := [.inr (.inr (.inl (some 259))), .inl (Int32.ofNat l)]) (h' := h) (by with_unfolding_all rfl) ?_
    refine kx_getf (c := 259) (v := .inr (.inr (.inl (some 260)))) rfl (by decide) (kx_ofr (hw _ _ _ fs_k259_0)) ?_
    refine kx_go 1 (pc' := 8) (L' := [(1, .inl (Int32.ofNat l)), (0, .inr (.inr (.inl (some 259))))]) (S' := [.inl (Int32.ofNat 2), .inr (.inr (.inl (some 260))), .inl (Int32.ofNat l)]) (h' := h) (by with_unfolding_all rfl) ?_
    refine kx_iald (c := 260) (j := 2) (m := 650) (v := .inl (Int32.ofNat L)) rfl rfl (by decide) (by decide) (by omega) ((hC 2 (by decide) (by decide)).trans (by rw [eL])) ?_
    refine kx_go 1 (pc' := (if kc_cnd .ge (Int32.ofNat l).toInt (Int32.ofNat L).toInt then 25 else 12)) (L' := [(1, .inl (Int32.ofNat l)), (0, .inr (.inr (.inl (some 259))))]) (S' := []) (h' := h) (by with_unfolding_all rfl) ?_
    rw [if_neg (fun q => by have := (kx_ge (by omega) (by omega)).mp q; omega)]
    refine kx_go 1 (pc' := 13) (L' := [(1, .inl (Int32.ofNat l)), (0, .inr (.inr (.inl (some 259))))]) (S' := [.inr (.inr (.inl (some 259)))]) (h' := h) (by with_unfolding_all rfl) ?_
    refine kx_getf (c := 259) (v := .inr (.inr (.inl (some 272)))) rfl (by decide) (kx_ofr (hw _ _ _ fs_k259_26)) ?_
    refine kx_go 2 (pc' := 18) (L' := [(1, .inl (Int32.ofNat l)), (0, .inr (.inr (.inl (some 259))))]) (S' := [.inl (Int32.ofNat 0), .inl (Int32.ofNat l), .inr (.inr (.inl (some 272)))]) (h' := h) (by with_unfolding_all rfl) ?_
    refine kx_iast (c := 272) (j := l) (m := 10) rfl rfl (by decide) (by decide) (by omega) ?_
    refine kx_go 2 (pc' := 2) (L' := [(1, .inl ((Int32.ofNat l) + Int32.ofInt 1)), (0, .inr (.inr (.inl (some 259))))]) (S' := []) (h' := (kc_upd h 272 l (.inl (Int32.ofNat 0)))) (by with_unfolding_all rfl) ?_
    rw [kx_inc]
    refine ih (l + 1) _ (by omega) (by omega) (fs_w1 (v := some 0) (fs_k273.2.2.2.2.2.1 l (by omega)) (fun k q => by cases q; omega) (by decide) hw) (fun j hj => ?_) (fun a y ha => (fu_ne (fun q => ha q.1)).trans (hF a y ha))
    by_cases e : j = l
    · rw [e]; exact fu_eq
    · exact (fu_ne (fun q => e q.2)).trans (hz j (by omega))
set_option maxRecDepth 20000 in
theorem fs_r123 {g : kc_G} {d : Nat} {h0 : kc_H} {B : Nat → Int32} {L : Nat} (hg : kc_ok g) (hw0 : kd_wt kd_ty h0) (hC0 : fu_B B h0) (hL : L ≤ 10) (eL : B 2 = Int32.ofNat L) : kc_Con g (d + 1) 123 [.inr (.inr (.inl (some 259)))] h0 (fun rv h' => rv = none ∧ kd_wt kd_ty h' ∧ (∀ l, l < L → h' 272 l = .inl (Int32.ofNat 0)) ∧ ∀ a x, ¬ a = 272 → h' a x = h0 a x) := by
  refine kc_Con_new hg (M := wk_m123) rfl rfl rfl (show 1 ≤ 2 by decide) ?_
  refine kx_go 2 (pc' := 2) (L' := [(1, .inl (Int32.ofNat 0)), (0, .inr (.inr (.inl (some 259))))]) (S' := []) (h' := h0) (by with_unfolding_all rfl) ?_
  exact fs_r123l hC0 hL eL L 0 h0 (by omega) (by omega) hw0 (fun j hj => by omega) (fun _ _ _ => rfl)
theorem ms_nx_lt {Q L : Nat} : ∀ (k : Nat) (c : Nat → Nat), k ≤ L → (∀ j, j < L → c j < Q) → ∀ j, j < L → ms_nx Q k c j < Q
  | 0, c, _, hc => hc
  | k + 1, c, hk, hc => by
    have h := hc k (by omega)
    show ∀ j, j < L → (if c k = Q - 1 then ms_nx Q k (ms_u c k 0) else ms_u c k (c k + 1)) j < Q
    by_cases e : c k = Q - 1
    · rw [if_pos e]
      refine ms_nx_lt k (ms_u c k 0) (by omega) (fun j hj => ?_)
      by_cases e2 : j = k
      · rw [e2, ms_ue]; omega
      · rw [ms_un e2]; exact hc j hj
    · rw [if_neg e]
      intro j hj
      by_cases e2 : j = k
      · rw [e2, ms_ue]; omega
      · rw [ms_un e2]; exact hc j hj
set_option maxRecDepth 20000 in
theorem fs_r124l {g : kc_G} {d : Nat} {h0 : kc_H} {B : Nat → Int32} {L M : Nat} (hC0 : fu_B B h0) (hL : L ≤ 10) (hM : M ≤ 3) (eM : B 1 = Int32.ofNat M) : ∀ (k : Nat) (c : Nat → Nat) (h : kc_H), k ≤ L → kd_wt kd_ty h → (∀ j, j < L → h 272 j = .inl (Int32.ofNat (c j))) → (∀ j, j < L → c j < 2 * M) → (∀ a x, ¬ a = 272 → h a x = h0 a x) → kc_Ev g d wk_m124 (fun rv h' => rv = none ∧ kd_wt kd_ty h' ∧ (∀ j, j < L → h' 272 j = .inl (Int32.ofNat (ms_nx (2 * M) (k) c j))) ∧ ∀ a x, ¬ a = 272 → h' a x = h0 a x) 9 [(1, .inl (Int32.ofInt ((k : Int) - 1))), (0, .inr (.inr (.inl (some 259))))] [] h := by
  intro k
  induction k with
  | zero =>
    intro c h hk hw hcd hc6 hF
    refine kx_go 2 (pc' := (if kc_cnd .lt (Int32.ofInt (((0 : Nat) : Int) - 1)).toInt 0 then 45 else 13)) (L' := [(1, .inl (Int32.ofInt (((0 : Nat) : Int) - 1))), (0, .inr (.inr (.inl (some 259))))]) (S' := []) (h' := h) (by with_unfolding_all rfl) ?_
    rw [if_pos (fu_ilt.mpr (by decide))]
    refine kx_go 2 (pc' := (if kc_cnd .lt (Int32.ofInt (((0 : Nat) : Int) - 1)).toInt 0 then 59 else 49)) (L' := [(1, .inl (Int32.ofInt (((0 : Nat) : Int) - 1))), (0, .inr (.inr (.inl (some 259))))]) (S' := []) (h' := h) (by with_unfolding_all rfl) ?_
    rw [if_pos (fu_ilt.mpr (by decide))]
    exact kc_ret_ok rfl (rv := none) rfl ⟨rfl, hw, hcd, hF⟩
  | succ k ih =>
    intro c h hk hw hcd hc6 hF
    have hC : fu_B B h := fs_B_f (fun x => hF 260 x (by decide)) hC0
    have hck := hc6 k (by omega)
    rw [fs_im1]
    refine kx_go 2 (pc' := (if kc_cnd .lt (Int32.ofNat k).toInt 0 then 45 else 13)) (L' := [(1, .inl (Int32.ofNat k)), (0, .inr (.inr (.inl (some 259))))]) (S' := []) (h' := h) (by with_unfolding_all rfl) ?_
    rw [if_neg (fun q => by have := fu_ilt.mp q; rw [kx_ti (by omega)] at this; omega)]
    refine kx_go 1 (pc' := 14) (L' := [(1, .inl (Int32.ofNat k)), (0, .inr (.inr (.inl (some 259))))]) (S' := [.inr (.inr (.inl (some 259)))]) (h' := h) (by with_unfolding_all rfl) ?_
    refine kx_getf (c := 259) (v := .inr (.inr (.inl (some 272)))) rfl (by decide) (kx_ofr (hw _ _ _ fs_k259_26)) ?_
    refine kx_go 1 (pc' := 18) (L' := [(1, .inl (Int32.ofNat k)), (0, .inr (.inr (.inl (some 259))))]) (S' := [.inl (Int32.ofNat k), .inr (.inr (.inl (some 272)))]) (h' := h) (by with_unfolding_all rfl) ?_
    refine kx_iald (c := 272) (j := k) (m := 10) (v := .inl (Int32.ofNat (c k))) rfl rfl (by decide) (by decide) (by omega) (hcd k (by omega)) ?_
    refine kx_go 2 (pc' := 21) (L' := [(1, .inl (Int32.ofNat k)), (0, .inr (.inr (.inl (some 259))))]) (S' := [.inr (.inr (.inl (some 259))), .inl (Int32.ofNat 2), .inl (Int32.ofNat (c k))]) (h' := h) (by with_unfolding_all rfl) ?_
    refine kx_getf (c := 259) (v := .inr (.inr (.inl (some 260)))) rfl (by decide) (kx_ofr (hw _ _ _ fs_k259_0)) ?_
    refine kx_go 1 (pc' := 25) (L' := [(1, .inl (Int32.ofNat k)), (0, .inr (.inr (.inl (some 259))))]) (S' := [.inl (Int32.ofNat 1), .inr (.inr (.inl (some 260))), .inl (Int32.ofNat 2), .inl (Int32.ofNat (c k))]) (h' := h) (by with_unfolding_all rfl) ?_
    refine kx_iald (c := 260) (j := 1) (m := 650) (v := .inl (Int32.ofNat M)) rfl rfl (by decide) (by decide) (by omega) ((hC 1 (by decide) (by decide)).trans (by rw [eM])) ?_
    refine kx_go 4 (pc' := (if kc_cnd .ne (Int32.ofNat (c k)).toInt (((Int32.ofNat 2) * (Int32.ofNat M)) - (Int32.ofNat 1)).toInt then 45 else 32)) (L' := [(1, .inl (Int32.ofNat k)), (0, .inr (.inr (.inl (some 259))))]) (S' := []) (h' := h) (by with_unfolding_all rfl) ?_
    rw [kx_mul, kx_sub (by omega)]
    by_cases e : c k = 2 * M - 1
    · rw [if_neg (fun q => (kx_ne (by omega) (by omega)).mp q e)]
      refine kx_go 1 (pc' := 33) (L' := [(1, .inl (Int32.ofNat k)), (0, .inr (.inr (.inl (some 259))))]) (S' := [.inr (.inr (.inl (some 259)))]) (h' := h) (by with_unfolding_all rfl) ?_
      refine kx_getf (c := 259) (v := .inr (.inr (.inl (some 272)))) rfl (by decide) (kx_ofr (hw _ _ _ fs_k259_26)) ?_
      refine kx_go 2 (pc' := 38) (L' := [(1, .inl (Int32.ofNat k)), (0, .inr (.inr (.inl (some 259))))]) (S' := [.inl (Int32.ofNat 0), .inl (Int32.ofNat k), .inr (.inr (.inl (some 272)))]) (h' := h) (by with_unfolding_all rfl) ?_
      refine kx_iast (c := 272) (j := k) (m := 10) rfl rfl (by decide) (by decide) (by omega) ?_
      refine kx_go 2 (pc' := 9) (L' := [(1, .inl ((Int32.ofNat k) + Int32.ofInt (-1))), (0, .inr (.inr (.inl (some 259))))]) (S' := []) (h' := (kc_upd h 272 k (.inl (Int32.ofNat 0)))) (by with_unfolding_all rfl) ?_
      rw [fs_im2]
      refine kf_lo (L := [(1, .inl (Int32.ofInt ((k : Int) - 1))), (0, .inr (.inr (.inl (some 259))))]) (by intro q hq; simp only [List.mem_cons, List.not_mem_nil, or_false] at hq; rcases hq with rfl | rfl <;> rfl) ?_
      have e9 : ms_nx (2 * M) (k + 1) c = ms_nx (2 * M) k (ms_u c k 0) := if_pos e
      rw [e9]
      refine ih (ms_u c k 0) _ (by omega) (fs_w1 (v := some 0) (fs_k273.2.2.2.2.2.1 k (by omega)) (fun k q => by cases q; omega) (by decide) hw) (fun j hj => ?_) (fun j hj => ?_) (fun a y ha => (fu_ne (fun q => ha q.1)).trans (hF a y ha))
      · by_cases c9 : j = k
        · rw [c9, ms_ue]; exact fu_eq
        · rw [ms_un c9]; exact (fu_ne (fun q => c9 q.2)).trans (hcd j hj)
      · by_cases c9 : j = k
        · rw [c9, ms_ue]; omega
        · rw [ms_un c9]; exact hc6 j hj
    · rw [if_pos ((kx_ne (by omega) (by omega)).mpr e)]
      refine kx_go 2 (pc' := (if kc_cnd .lt (Int32.ofNat k).toInt 0 then 59 else 49)) (L' := [(1, .inl (Int32.ofNat k)), (0, .inr (.inr (.inl (some 259))))]) (S' := []) (h' := h) (by with_unfolding_all rfl) ?_
      rw [if_neg (fun q => by have := fu_ilt.mp q; rw [kx_ti (by omega)] at this; omega)]
      refine kx_go 1 (pc' := 50) (L' := [(1, .inl (Int32.ofNat k)), (0, .inr (.inr (.inl (some 259))))]) (S' := [.inr (.inr (.inl (some 259)))]) (h' := h) (by with_unfolding_all rfl) ?_
      refine kx_getf (c := 259) (v := .inr (.inr (.inl (some 272)))) rfl (by decide) (kx_ofr (hw _ _ _ fs_k259_26)) ?_
      refine kx_go 2 (pc' := 55) (L' := [(1, .inl (Int32.ofNat k)), (0, .inr (.inr (.inl (some 259))))]) (S' := [.inl (Int32.ofNat k), .inr (.inr (.inl (some 272))), .inl (Int32.ofNat k), .inr (.inr (.inl (some 272)))]) (h' := h) (by with_unfolding_all rfl) ?_
      refine kx_iald (c := 272) (j := k) (m := 10) (v := .inl (Int32.ofNat (c k))) rfl rfl (by decide) (by decide) (by omega) (hcd k (by omega)) ?_
      refine kx_go 2 (pc' := 58) (L' := [(1, .inl (Int32.ofNat k)), (0, .inr (.inr (.inl (some 259))))]) (S' := [.inl ((Int32.ofNat (c k)) + (Int32.ofNat 1)), .inl (Int32.ofNat k), .inr (.inr (.inl (some 272)))]) (h' := h) (by with_unfolding_all rfl) ?_
      rw [kx_add]
      refine kx_iast (c := 272) (j := k) (m := 10) rfl rfl (by decide) (by decide) (by omega) ?_
      have e9 : ms_nx (2 * M) (k + 1) c = ms_u c k (c k + 1) := if_neg e
      rw [e9]
      refine kc_ret_ok rfl (rv := none) rfl ⟨rfl, fs_w1 (v := some (c k + 1)) (fs_k273.2.2.2.2.2.1 k (by omega)) (fun k' q => by cases q; omega) (by decide) hw, fun j hj => ?_, fun a y ha => (fu_ne (fun q => ha q.1)).trans (hF a y ha)⟩
      by_cases c9 : j = k
      · rw [c9, ms_ue]; exact fu_eq
      · rw [ms_un c9]; exact (fu_ne (fun q => c9 q.2)).trans (hcd j hj)
set_option maxRecDepth 20000 in
theorem fs_r124 {g : kc_G} {d : Nat} {h0 : kc_H} {B : Nat → Int32} {L M : Nat} {c : Nat → Nat} (hg : kc_ok g) (hw0 : kd_wt kd_ty h0) (hC0 : fu_B B h0) (hL : L ≤ 10) (hM : M ≤ 3) (eM : B 1 = Int32.ofNat M) (eL : B 2 = Int32.ofNat L) (hcd : ∀ j, j < L → h0 272 j = .inl (Int32.ofNat (c j))) (hc6 : ∀ j, j < L → c j < 2 * M) : kc_Con g (d + 1) 124 [.inr (.inr (.inl (some 259)))] h0 (fun rv h' => rv = none ∧ kd_wt kd_ty h' ∧ (∀ j, j < L → h' 272 j = .inl (Int32.ofNat (ms_nx (2 * M) (L) c j))) ∧ ∀ a x, ¬ a = 272 → h' a x = h0 a x) := by
  have hC := hC0
  refine kc_Con_new hg (M := wk_m124) rfl rfl rfl (show 1 ≤ 2 by decide) ?_
  refine kx_go 1 (pc' := 1) (L' := [(0, .inr (.inr (.inl (some 259))))]) (S' := [.inr (.inr (.inl (some 259)))]) (h' := h0) (by with_unfolding_all rfl) ?_
  refine kx_getf (c := 259) (v := .inr (.inr (.inl (some 260)))) rfl (by decide) (kx_ofr (hw0 _ _ _ fs_k259_0)) ?_
  refine kx_go 1 (pc' := 5) (L' := [(0, .inr (.inr (.inl (some 259))))]) (S' := [.inl (Int32.ofNat 2), .inr (.inr (.inl (some 260)))]) (h' := h0) (by with_unfolding_all rfl) ?_
  refine kx_iald (c := 260) (j := 2) (m := 650) (v := .inl (Int32.ofNat L)) rfl rfl (by decide) (by decide) (by omega) ((hC 2 (by decide) (by decide)).trans (by rw [eL])) ?_
  refine kx_go 3 (pc' := 9) (L' := [(1, .inl ((Int32.ofNat L) - (Int32.ofNat 1))), (0, .inr (.inr (.inl (some 259))))]) (S' := []) (h' := h0) (by with_unfolding_all rfl) ?_
  rw [fs_im3]
  exact fs_r124l hC0 hL hM eM L c h0 (Nat.le_refl _) hw0 hcd hc6 (fun _ _ _ => rfl)
end
