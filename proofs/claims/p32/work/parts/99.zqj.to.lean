section
-- 99.zqj
/-! ===== KEEP, class: chanceOfMule, chanceOfRow ===== -/
theorem fs_lle {x y : Int64} : (kc_cnd .le (kc_lcmp x y).toInt 0 = true) ↔ ¬ y.toInt < x.toInt := by
  unfold kc_lcmp
  by_cases h1 : y.toInt < x.toInt
  · rw [if_pos h1]
    exact ⟨fun q => absurd q (by decide), fun q => absurd h1 q⟩
  · rw [if_neg h1]
    by_cases h2 : x.toInt < y.toInt
    · rw [if_pos h2]
      exact ⟨fun _ => h1, fun _ => by decide⟩
    · rw [if_neg h2]
      exact ⟨fun _ => h1, fun _ => by decide⟩
theorem fs_lgt {x y : Int64} : (kc_cnd .gt (kc_lcmp x y).toInt 0 = true) ↔ y.toInt < x.toInt := by
  unfold kc_lcmp
  by_cases h1 : y.toInt < x.toInt
  · rw [if_pos h1]
    exact ⟨fun _ => h1, fun _ => by decide⟩
  · rw [if_neg h1]
    by_cases h2 : x.toInt < y.toInt
    · rw [if_pos h2]
      exact ⟨fun q => absurd q (by decide), fun q => absurd q h1⟩
    · rw [if_neg h2]
      exact ⟨fun q => absurd q (by decide), fun q => absurd q h1⟩
theorem fs_lge {x y : Int64} : (kc_cnd .ge (kc_lcmp x y).toInt 0 = true) ↔ ¬ x.toInt < y.toInt := by
  unfold kc_lcmp
  by_cases h1 : y.toInt < x.toInt
  · rw [if_pos h1]
    exact ⟨fun _ => by omega, fun _ => by decide⟩
  · rw [if_neg h1]
    by_cases h2 : x.toInt < y.toInt
    · rw [if_pos h2]
      exact ⟨fun q => absurd q (by decide), fun q => absurd h2 q⟩
    · rw [if_neg h2]
      exact ⟨fun _ => h2, fun _ => by decide⟩
theorem fs_leq {x y : Int64} : (kc_cnd .eq (kc_lcmp x y).toInt 0 = true) ↔ x.toInt = y.toInt := by
  unfold kc_lcmp
  by_cases h1 : y.toInt < x.toInt
  · rw [if_pos h1]
    exact ⟨fun q => absurd q (by decide), fun q => by omega⟩
  · rw [if_neg h1]
    by_cases h2 : x.toInt < y.toInt
    · rw [if_pos h2]
      exact ⟨fun q => absurd q (by decide), fun q => by omega⟩
    · rw [if_neg h2]
      exact ⟨fun _ => by omega, fun _ => by decide⟩
theorem ms_s_at {V V' : Nat → Nat → Nat} {c : Nat → Nat} {s i l w : Nat} (ho : ∀ j, ¬ j = l → V' j i = V j i) (hl : V' l i = V l i + w) : ∀ k, ms_s V' c s i k = ms_s V c s i k + (if l < k ∧ s = c l then w else 0)
  | 0 => by
    rw [if_neg (fun q => by omega)]
    rfl
  | k + 1 => by
    show ms_s V' c s i k + (if c k = s then V' k i else 0) = ms_s V c s i k + (if c k = s then V k i else 0) + _
    rw [ms_s_at ho hl k]
    by_cases e : k = l
    · subst e
      rw [if_neg (fun q => by omega), hl]
      by_cases e2 : s = c k
      · rw [if_pos e2.symm, if_pos e2.symm, if_pos ⟨by omega, e2⟩]; omega
      · rw [if_neg (fun q => e2 q.symm), if_neg (fun q => e2 q.symm), if_neg (fun q => e2 q.2)]
    · rw [ho k e]
      by_cases e2 : l < k ∧ s = c l
      · rw [if_pos e2, if_pos (show l < k + 1 ∧ s = c l from ⟨by omega, e2.2⟩)]; omega
      · rw [if_neg e2, if_neg (show ¬ (l < k + 1 ∧ s = c l) from fun q => e2 ⟨by omega, q.2⟩)]; omega
/-- one more LOAD stays -/
theorem mk_st {F E : Nat → Nat} {W : Nat → Nat → Nat} {n l i : Nat} {T : Nat → Bool} (hT : T l = false) (hFE : F l ≤ E l) : (∀ j, ¬ j = l → ms_v W (mk_O F E n (mk_t T l)) j i = ms_v W (mk_O F E n T) j i) ∧ ms_v W (mk_O F E n (mk_t T l)) l i = ms_v W (mk_O F E n T) l i + (if E l ≤ i ∧ i < n then W l i else 0) := by
  refine ⟨fun j hj => ?_, ?_⟩
  · unfold ms_v mk_O
    rw [mk_tn hj]
  · unfold ms_v mk_O
    rw [mk_te, hT]
    by_cases c1 : E l ≤ i ∧ i < n
    · rw [if_pos c1, decide_eq_true (show F l ≤ i ∧ (i < E l ∨ (true = true ∧ i < n)) from ⟨by omega, Or.inr ⟨rfl, c1.2⟩⟩), decide_eq_false (show ¬ (F l ≤ i ∧ (i < E l ∨ (false = true ∧ i < n))) from fun q => q.2.elim (fun q => by omega) (fun q => by cases q.1)), if_pos rfl, if_neg (by decide), Nat.zero_add]
    · rw [if_neg c1, Nat.add_zero]
      have e : decide (F l ≤ i ∧ (i < E l ∨ (true = true ∧ i < n))) = decide (F l ≤ i ∧ (i < E l ∨ (false = true ∧ i < n))) := decide_eq_decide.mpr ⟨fun q => ⟨q.1, q.2.elim Or.inl (fun q2 => Or.inl (by omega))⟩, fun q => ⟨q.1, q.2.elim Or.inl (fun q2 => by cases q2.1)⟩⟩
      rw [e]
theorem mk_stX {F E : Nat → Nat} {W : Nat → Nat → Nat} {c : Nat → Nat} {n l L : Nat} {T : Nat → Bool} (hT : T l = false) (hFE : F l ≤ E l) (hl : l < L) : ∀ i, i < 5 → ∀ s, s < 6 → ms_s (ms_v W (mk_O F E n (mk_t T l))) c s i L = ms_s (ms_v W (mk_O F E n T)) c s i L + (if E l ≤ i ∧ i < n ∧ s = c l then W l i else 0) := fun i _ s _ => by
  have q := mk_st (W := W) (n := n) (i := i) hT hFE
  rw [ms_s_at q.1 q.2 L]
  by_cases e : E l ≤ i ∧ i < n
  · rw [if_pos e]
    by_cases e2 : s = c l
    · rw [if_pos ⟨hl, e2⟩, if_pos ⟨e.1, e.2, e2⟩]
    · rw [if_neg (fun q => e2 q.2), if_neg (fun q => e2 q.2.2)]
  · rw [if_neg e, if_neg (show ¬ (E l ≤ i ∧ i < n ∧ s = c l) from fun q => e ⟨q.1, q.2.1⟩)]
    by_cases e2 : l < L ∧ s = c l
    · rw [if_pos e2]
    · rw [if_neg e2]
theorem mk_Xl {F E : Nat → Nat} {co : Nat → Bool} {W : Nat → Nat → Nat} {L n : Nat} (hb : fs_Gb F E co W L n) {c : Nat → Nat} {T : Nat → Bool} (i s : Nat) : ms_s (ms_v W (mk_O F E n T)) c s i L ≤ 990 := by
  have h1 := ms_s_b (V := ms_v W (mk_O F E n T)) (c := c) (s := s) (i := i) (b := 99) L (fun j hj => by
    unfold ms_v
    cases e : mk_O F E n T j i with
    | false => exact Nat.zero_le _
    | true =>
      have q := of_decide_eq_true e
      have k := hb.2.2.1 j hj
      rw [if_pos rfl]
      exact hb.2.2.2 j hj i (by omega))
  have := hb.2.1
  omega
set_option maxRecDepth 20000 in
theorem fs_c208 {g : kc_G} {d : Nat} {B : Nat → Int32} {F E : Nat → Nat} {co : Nat → Bool} {W : Nat → Nat → Nat} {L n : Nat} {c : Nat → Nat} {m : Nat} (hg : kc_ok g) (hB : fu_BT B) (hb : fs_Gb F E co W L n) (eL : B 2 = Int32.ofNat L) (hm : m < 3) : ∀ (k l : Nat) (T : Nat → Bool) (h : kc_H), l + k = L → (∀ j, l ≤ j → T j = false) → kd_wt kd_ty h → fu_C B 1 h → fs_G F E co W L n h → (∀ j, j < L → h 222 j = .inl (Int32.ofNat (c j)) ∧ c j < 6) → fs_bq (fun i s => ms_s (ms_v W (mk_O F E n T)) c s i L) (fun i s => ms_s (ms_v (fun _ _ => 1) (mk_O F E n T)) c s i L) h → kc_Con g (d + k + 3) 208 [.inr (.inr (.inl (some 220))), .inl (Int32.ofNat m), .inl (Int32.ofNat l)] h (fun rv h' => rv = some (.inr (.inl (Int64.ofNat (mk_c co (fs_as B) c (mk_ev F E W L n (fs_ev B) c) m k l T)))) ∧ kd_wt kd_ty h' ∧ fs_bq (fun i s => ms_s (ms_v W (mk_O F E n T)) c s i L) (fun i s => ms_s (ms_v (fun _ _ => 1) (mk_O F E n T)) c s i L) h' ∧ ∀ a x, ¬ (225 ≤ a ∧ a ≤ 235) → h' a x = h a x) := by
  have hn := hb.1
  have hL := hb.2.1
  intro k
  induction k with
  | zero =>
    intro l T h hl hT hw hC hG hrow hbo
    have el : l = L := by omega
    refine kc_Con_new hg (M := wk_m208) rfl rfl rfl (show 3 ≤ 6 by decide) ?_
    refine kx_go 2 (pc' := 2) (L' := [(0, .inr (.inr (.inl (some 220)))), (1, .inl (Int32.ofNat m)), (2, .inl (Int32.ofNat l))]) (S' := [.inr (.inr (.inl (some 220))), .inl (Int32.ofNat l)]) (h' := h) (by with_unfolding_all rfl) ?_
    refine kx_getf (c := 220) (v := .inr (.inr (.inl (some 1)))) rfl (by decide) (kx_ofr (hw _ _ _ fs_k220_0)) ?_
    refine kx_getf (c := 1) (v := .inl (Int32.ofNat L)) rfl (by decide) ((fu_C0 hC).2.2.1.trans (by rw [eL])) ?_
    refine kx_go 1 (pc' := (if kc_cnd .lt (Int32.ofNat l).toInt (Int32.ofNat L).toInt then 25 else 11)) (L' := [(0, .inr (.inr (.inl (some 220)))), (1, .inl (Int32.ofNat m)), (2, .inl (Int32.ofNat l))]) (S' := []) (h' := h) (by with_unfolding_all rfl) ?_
    rw [if_neg (fun q => by have := (kx_lt (by omega) (by omega)).mp q; omega)]
    refine kx_go 2 (pc' := 13) (L' := [(0, .inr (.inr (.inl (some 220)))), (1, .inl (Int32.ofNat m)), (2, .inl (Int32.ofNat l))]) (S' := [.inl (Int32.ofNat m), .inr (.inr (.inl (some 220)))]) (h' := h) (by with_unfolding_all rfl) ?_
    refine kc_call_rule (M2 := wk_m209) (av := [.inr (.inr (.inl (some 220))), .inl (Int32.ofNat m)]) (r := []) rfl rfl (kc_Con_le (fs_c209 (d := d) hg hC hw hB hn hG.1 hm (fun i s => mk_Xl hb i s) hbo) (by omega)) (fun rv hcc hq => ?_)
    obtain ⟨rfl, e9⟩ := hq
    rw [e9]
    clear e9
    show kc_Ev g (d + 0 + 2) wk_m208 _ 16 [(0, .inr (.inr (.inl (some 220)))), (1, .inl (Int32.ofNat m)), (2, .inl (Int32.ofNat l))] [.inl (kp_b (mk_ev F E W L n (fs_ev B) c m T))] h
    refine kx_go 1 (pc' := (if kc_cnd .eq (kp_b (mk_ev F E W L n (fs_ev B) c m T)).toInt 0 then 23 else 19)) (L' := [(0, .inr (.inr (.inl (some 220)))), (1, .inl (Int32.ofNat m)), (2, .inl (Int32.ofNat l))]) (S' := []) (h' := h) (by with_unfolding_all rfl) ?_
    have eV : mk_c co (fs_as B) c (mk_ev F E W L n (fs_ev B) c) m 0 l T = if mk_ev F E W L n (fs_ev B) c m T = true then 1 else 0 := rfl
    rw [eV]
    cases e : mk_ev F E W L n (fs_ev B) c m T with
    | true =>
      rw [if_neg fa_b0t]
      refine kx_go 2 (pc' := 24) (L' := [(0, .inr (.inr (.inl (some 220)))), (1, .inl (Int32.ofNat m)), (2, .inl (Int32.ofNat l))]) (S' := [.inr (.inl (Int64.ofNat 1))]) (h' := h) (by with_unfolding_all rfl) ?_
      exact kc_ret_ok rfl (rv := some (.inr (.inl (Int64.ofNat 1)))) rfl ⟨rfl, hw, hbo, fun _ _ _ => rfl⟩
    | false =>
      rw [if_pos (kx_b0.mpr rfl)]
      refine kx_go 1 (pc' := 24) (L' := [(0, .inr (.inr (.inl (some 220)))), (1, .inl (Int32.ofNat m)), (2, .inl (Int32.ofNat l))]) (S' := [.inr (.inl (Int64.ofNat 0))]) (h' := h) (by with_unfolding_all rfl) ?_
      exact kc_ret_ok rfl (rv := some (.inr (.inl (Int64.ofNat 0)))) rfl ⟨rfl, hw, hbo, fun _ _ _ => rfl⟩
  | succ k ih =>
    intro l T h hl hT hw hC hG hrow hbo
    have hlL : l < L := by omega
    have kl := hb.2.2.1 l hlL
    have hTl := hT l (Nat.le_refl _)
    obtain ⟨hr, hc6⟩ := hrow l hlL
    have asl := fs_asl hB l
    have u4 := fs_asC hC hB (show l < 10 by omega)
    have eV : mk_c co (fs_as B) c (mk_ev F E W L n (fs_ev B) c) m (k + 1) l T = if c l / 2 = m ∧ co l = true then mk_a (fs_as B l) * mk_c co (fs_as B) c (mk_ev F E W L n (fs_ev B) c) m k (l + 1) T + mk_b (fs_as B l) * mk_c co (fs_as B) c (mk_ev F E W L n (fs_ev B) c) m k (l + 1) (mk_t T l) else mk_c co (fs_as B) c (mk_ev F E W L n (fs_ev B) c) m k (l + 1) T := rfl
    refine kc_Con_new hg (M := wk_m208) rfl rfl rfl (show 3 ≤ 6 by decide) ?_
    refine kx_go 2 (pc' := 2) (L' := [(0, .inr (.inr (.inl (some 220)))), (1, .inl (Int32.ofNat m)), (2, .inl (Int32.ofNat l))]) (S' := [.inr (.inr (.inl (some 220))), .inl (Int32.ofNat l)]) (h' := h) (by with_unfolding_all rfl) ?_
    refine kx_getf (c := 220) (v := .inr (.inr (.inl (some 1)))) rfl (by decide) (kx_ofr (hw _ _ _ fs_k220_0)) ?_
    refine kx_getf (c := 1) (v := .inl (Int32.ofNat L)) rfl (by decide) ((fu_C0 hC).2.2.1.trans (by rw [eL])) ?_
    refine kx_go 1 (pc' := (if kc_cnd .lt (Int32.ofNat l).toInt (Int32.ofNat L).toInt then 25 else 11)) (L' := [(0, .inr (.inr (.inl (some 220)))), (1, .inl (Int32.ofNat m)), (2, .inl (Int32.ofNat l))]) (S' := []) (h' := h) (by with_unfolding_all rfl) ?_
    rw [if_pos ((kx_lt (by omega) (by omega)).mpr hlL)]
    have over : ¬ (c l / 2 = m ∧ co l = true) → kc_Ev g (d + (k + 1) + 2) wk_m208 (fun rv h' => rv = some (.inr (.inl (Int64.ofNat (mk_c co (fs_as B) c (mk_ev F E W L n (fs_ev B) c) m (k + 1) l T)))) ∧ kd_wt kd_ty h' ∧ fs_bq (fun i s => ms_s (ms_v W (mk_O F E n T)) c s i L) (fun i s => ms_s (ms_v (fun _ _ => 1) (mk_O F E n T)) c s i L) h' ∧ ∀ a x, ¬ (225 ≤ a ∧ a ≤ 235) → h' a x = h a x) 50 [(0, .inr (.inr (.inl (some 220)))), (1, .inl (Int32.ofNat m)), (2, .inl (Int32.ofNat l))] [] h := by
      intro hno
      rw [eV, if_neg hno]
      refine kx_go 5 (pc' := 55) (L' := [(0, .inr (.inr (.inl (some 220)))), (1, .inl (Int32.ofNat m)), (2, .inl (Int32.ofNat l))]) (S' := [.inl ((Int32.ofNat l) + (Int32.ofNat 1)), .inl (Int32.ofNat m), .inr (.inr (.inl (some 220)))]) (h' := h) (by with_unfolding_all rfl) ?_
      rw [kx_add]
      refine kc_call_rule (M2 := wk_m208) (av := [.inr (.inr (.inl (some 220))), .inl (Int32.ofNat m), .inl (Int32.ofNat (l + 1))]) (r := []) rfl rfl (kc_Con_le (ih (l + 1) (T) h (by omega) (fun j hj => hT j (by omega)) hw hC hG hrow hbo) (by omega)) (fun rv h2 hq => ?_)
      obtain ⟨rfl, hw2, hbo2, hF2⟩ := hq
      show kc_Ev g (d + (k + 1) + 2) wk_m208 _ 58 [(0, .inr (.inr (.inl (some 220)))), (1, .inl (Int32.ofNat m)), (2, .inl (Int32.ofNat l))] [.inr (.inl (Int64.ofNat (mk_c co (fs_as B) c (mk_ev F E W L n (fs_ev B) c) m k (l + 1) T)))] h2
      exact kc_ret_ok rfl (rv := some (.inr (.inl (Int64.ofNat (mk_c co (fs_as B) c (mk_ev F E W L n (fs_ev B) c) m k (l + 1) T))))) rfl ⟨rfl, hw2, hbo2, hF2⟩
    refine kx_go 1 (pc' := 26) (L' := [(0, .inr (.inr (.inl (some 220)))), (1, .inl (Int32.ofNat m)), (2, .inl (Int32.ofNat l))]) (S' := [.inr (.inr (.inl (some 220)))]) (h' := h) (by with_unfolding_all rfl) ?_
    refine kx_getf (c := 220) (v := .inr (.inr (.inl (some 222)))) rfl (by decide) (kx_ofr (hw _ _ _ fs_k220_7)) ?_
    refine kx_go 1 (pc' := 30) (L' := [(0, .inr (.inr (.inl (some 220)))), (1, .inl (Int32.ofNat m)), (2, .inl (Int32.ofNat l))]) (S' := [.inl (Int32.ofNat l), .inr (.inr (.inl (some 222)))]) (h' := h) (by with_unfolding_all rfl) ?_
    refine kx_iald (c := 222) (j := l) (m := 10) (v := .inl (Int32.ofNat (c l))) rfl rfl (by decide) (by decide) (by omega) hr ?_
    refine kx_go 4 (pc' := (if kc_cnd .ne ((Int32.ofNat (c l)) >>> ((Int32.ofNat 1) &&& 31)).toInt (Int32.ofNat m).toInt then 50 else 37)) (L' := [(0, .inr (.inr (.inl (some 220)))), (1, .inl (Int32.ofNat m)), (2, .inl (Int32.ofNat l))]) (S' := []) (h' := h) (by with_unfolding_all rfl) ?_
    rw [fs_shr (c l) hc6]
    by_cases c1 : c l / 2 = m
    · rw [if_neg (fun q => (kx_ne (by omega) (by omega)).mp q c1)]
      by_cases c2 : co l = true
      · have e6 : h 207 l = .inl (Int32.ofNat (E l)) := (hG.2.2.1 l hlL).trans (by rw [if_pos c2])
        refine kx_go 1 (pc' := 38) (L' := [(0, .inr (.inr (.inl (some 220)))), (1, .inl (Int32.ofNat m)), (2, .inl (Int32.ofNat l))]) (S' := [.inr (.inr (.inl (some 220)))]) (h' := h) (by with_unfolding_all rfl) ?_
        refine kx_getf (c := 220) (v := .inr (.inr (.inl (some 204)))) rfl (by decide) (kx_ofr (hw _ _ _ fs_k220_1)) ?_
        refine kx_getf (c := 204) (v := .inr (.inr (.inl (some 207)))) rfl (by decide) (kx_ofr (hw _ _ _ fs_k204_5)) ?_
        refine kx_go 1 (pc' := 45) (L' := [(0, .inr (.inr (.inl (some 220)))), (1, .inl (Int32.ofNat m)), (2, .inl (Int32.ofNat l))]) (S' := [.inl (Int32.ofNat l), .inr (.inr (.inl (some 207)))]) (h' := h) (by with_unfolding_all rfl) ?_
        refine kx_iald (c := 207) (j := l) (m := 10) (v := .inl (Int32.ofNat (E l))) rfl rfl (by decide) (by decide) (by omega) e6 ?_
        refine kx_go 2 (pc' := (if kc_cnd .ne (Int32.ofNat (E l)).toInt (Int32.ofInt (-1)).toInt then 59 else 50)) (L' := [(0, .inr (.inr (.inl (some 220)))), (1, .inl (Int32.ofNat m)), (2, .inl (Int32.ofNat l))]) (S' := []) (h' := h) (by with_unfolding_all rfl) ?_
        rw [if_pos (kx_nm2 (by omega)), eV, if_pos ⟨c1, c2⟩]
        have second : ∀ (v : Nat) (h1 : kc_H), kd_wt kd_ty h1 → fs_bq (fun i s => ms_s (ms_v W (mk_O F E n T)) c s i L) (fun i s => ms_s (ms_v (fun _ _ => 1) (mk_O F E n T)) c s i L) h1 → (∀ a x, ¬ (225 ≤ a ∧ a ≤ 235) → h1 a x = h a x) → v = mk_a (fs_as B l) * mk_c co (fs_as B) c (mk_ev F E W L n (fs_ev B) c) m k (l + 1) T → kc_Ev g (d + (k + 1) + 2) wk_m208 (fun rv h' => rv = some (.inr (.inl (Int64.ofNat (mk_a (fs_as B l) * mk_c co (fs_as B) c (mk_ev F E W L n (fs_ev B) c) m k (l + 1) T + mk_b (fs_as B l) * mk_c co (fs_as B) c (mk_ev F E W L n (fs_ev B) c) m k (l + 1) (mk_t T l))))) ∧ kd_wt kd_ty h' ∧ fs_bq (fun i s => ms_s (ms_v W (mk_O F E n T)) c s i L) (fun i s => ms_s (ms_v (fun _ _ => 1) (mk_O F E n T)) c s i L) h' ∧ ∀ a x, ¬ (225 ≤ a ∧ a ≤ 235) → h' a x = h a x) 101 [(4, .inr (.inl (Int64.ofNat (v)))), (3, .inl (Int32.ofNat (fs_as B l))), (0, .inr (.inr (.inl (some 220)))), (1, .inl (Int32.ofNat m)), (2, .inl (Int32.ofNat l))] [] h1 := by
          intro v h1 hw1 hbo1 hF1 ev
          refine kx_go 3 (pc' := (if kc_cnd .ge (Int32.ofNat (fs_as B l)).toInt (Int32.ofNat 100).toInt then 176 else 107)) (L' := [(4, .inr (.inl (Int64.ofNat (v)))), (3, .inl (Int32.ofNat (fs_as B l))), (0, .inr (.inr (.inl (some 220)))), (1, .inl (Int32.ofNat m)), (2, .inl (Int32.ofNat l))]) (S' := []) (h' := h1) (by with_unfolding_all rfl) ?_
          by_cases c3 : 100 ≤ fs_as B l
          · rw [if_pos ((kx_ge (by omega) (by omega)).mpr c3)]
            refine kx_go 1 (pc' := 178) (L' := [(4, .inr (.inl (Int64.ofNat (v)))), (3, .inl (Int32.ofNat (fs_as B l))), (0, .inr (.inr (.inl (some 220)))), (1, .inl (Int32.ofNat m)), (2, .inl (Int32.ofNat l))]) (S' := [.inr (.inl (Int64.ofNat (v)))]) (h' := h1) (by with_unfolding_all rfl) ?_
            have e9 : v = mk_a (fs_as B l) * mk_c co (fs_as B) c (mk_ev F E W L n (fs_ev B) c) m k (l + 1) T + mk_b (fs_as B l) * mk_c co (fs_as B) c (mk_ev F E W L n (fs_ev B) c) m k (l + 1) (mk_t T l) := by rw [show mk_b (fs_as B l) = 0 from if_pos (by omega), Nat.zero_mul, Nat.add_zero]; exact ev
            rw [← e9]
            exact kc_ret_ok rfl (rv := some (.inr (.inl (Int64.ofNat v)))) rfl ⟨rfl, hw1, hbo1, hF1⟩
          · rw [if_neg (fun q => c3 ((kx_ge (by omega) (by omega)).mp q))]
            have hC1 := fs_C_f (h' := h1) (fun a x q => hF1 a x (by omega)) hC
            have hG1 := fs_G_f (h' := h1) hL (fun a x q1 q2 => hF1 a x (by omega)) hG
            refine kx_go 3 (pc' := 110) (L' := [(4, .inr (.inl (Int64.ofNat (v)))), (3, .inl (Int32.ofNat (fs_as B l))), (0, .inr (.inr (.inl (some 220)))), (1, .inl (Int32.ofNat m)), (2, .inl (Int32.ofNat l))]) (S' := [.inr (.inr (.inl (some 220))), .inl (Int32.ofNat l), .inr (.inr (.inl (some 220)))]) (h' := h1) (by with_unfolding_all rfl) ?_
            refine kx_getf (c := 220) (v := .inr (.inr (.inl (some 204)))) rfl (by decide) (kx_ofr (hw1 _ _ _ fs_k220_1)) ?_
            refine kx_go 1 (pc' := 114) (L' := [(4, .inr (.inl (Int64.ofNat (v)))), (3, .inl (Int32.ofNat (fs_as B l))), (0, .inr (.inr (.inl (some 220)))), (1, .inl (Int32.ofNat m)), (2, .inl (Int32.ofNat l))]) (S' := [.inl (Int32.ofNat l), .inr (.inr (.inl (some 204))), .inl (Int32.ofNat l), .inr (.inr (.inl (some 220)))]) (h' := h1) (by with_unfolding_all rfl) ?_
            refine kc_call_rule (M2 := wk_m204) (av := [.inr (.inr (.inl (some 204))), .inl (Int32.ofNat l)]) (r := [.inl (Int32.ofNat l), .inr (.inr (.inl (some 220)))]) rfl rfl (kc_Con_le (fs_c204 (d := d) hg hw1 hb hG1 hlL) (by omega)) (fun rv hcc hq => ?_)
            obtain ⟨rfl, e9⟩ := hq
            rw [e9]
            clear e9
            show kc_Ev g (d + (k + 1) + 2) wk_m208 _ 117 [(4, .inr (.inl (Int64.ofNat (v)))), (3, .inl (Int32.ofNat (fs_as B l))), (0, .inr (.inr (.inl (some 220)))), (1, .inl (Int32.ofNat m)), (2, .inl (Int32.ofNat l))] [.inl (Int32.ofNat (E l)), .inl (Int32.ofNat l), .inr (.inr (.inl (some 220)))] h1
            refine kx_go 1 (pc' := 118) (L' := [(4, .inr (.inl (Int64.ofNat (v)))), (3, .inl (Int32.ofNat (fs_as B l))), (0, .inr (.inr (.inl (some 220)))), (1, .inl (Int32.ofNat m)), (2, .inl (Int32.ofNat l))]) (S' := [.inr (.inr (.inl (some 220))), .inl (Int32.ofNat (E l)), .inl (Int32.ofNat l), .inr (.inr (.inl (some 220)))]) (h' := h1) (by with_unfolding_all rfl) ?_
            refine kx_getf (c := 220) (v := .inr (.inr (.inl (some 204)))) rfl (by decide) (kx_ofr (hw1 _ _ _ fs_k220_1)) ?_
            refine kx_getf (c := 204) (v := .inl (Int32.ofNat n)) rfl (by decide) hG1.1 ?_
            refine kx_go 1 (pc' := 125) (L' := [(4, .inr (.inl (Int64.ofNat (v)))), (3, .inl (Int32.ofNat (fs_as B l))), (0, .inr (.inr (.inl (some 220)))), (1, .inl (Int32.ofNat m)), (2, .inl (Int32.ofNat l))]) (S' := [.inl (Int32.ofNat 1), .inl (Int32.ofNat n), .inl (Int32.ofNat (E l)), .inl (Int32.ofNat l), .inr (.inr (.inl (some 220)))]) (h' := h1) (by with_unfolding_all rfl) ?_
            refine kc_call_rule (M2 := wk_m205) (av := [.inr (.inr (.inl (some 220))), .inl (Int32.ofNat l), .inl (Int32.ofNat (E l)), .inl (Int32.ofNat n), .inl (Int32.ofNat 1)]) (r := []) rfl rfl (kc_Con_le (fs_g205u (d := d) (cl := c l) hg hw1 hb hG1 hlL hc6 kl.2.1 (Nat.le_refl n) (mk_stX (W := W) hTl kl.2.2.1 hlL) (mk_stX (W := fun _ _ => 1) hTl kl.2.2.1 hlL) ((hF1 _ _ (by decide)).trans hr) hbo1) (by omega)) (fun rv h2 hq => ?_)
            obtain ⟨rfl, hw2, hbo2, hF2⟩ := hq
            show kc_Ev g (d + (k + 1) + 2) wk_m208 _ 128 [(4, .inr (.inl (Int64.ofNat (v)))), (3, .inl (Int32.ofNat (fs_as B l))), (0, .inr (.inr (.inl (some 220)))), (1, .inl (Int32.ofNat m)), (2, .inl (Int32.ofNat l))] [] h2
            have hC2 := fs_C_f (h' := h2) (fun a x q => hF2 a x (by omega)) hC1
            have hG2 := fs_G_f (h' := h2) hL (fun a x q1 q2 => hF2 a x (by omega)) hG1
            have hrow2 : ∀ j, j < L → h2 222 j = .inl (Int32.ofNat (c j)) ∧ c j < 6 := fun j hj => ⟨(hF2 _ _ (by decide)).trans ((hF1 _ _ (by decide)).trans (hrow j hj).1), (hrow j hj).2⟩
            refine kx_go 3 (pc' := (if kc_cnd .ne (Int32.ofNat (fs_as B l)).toInt 0 then 138 else 134)) (L' := [(4, .inr (.inl (Int64.ofNat (v)))), (3, .inl (Int32.ofNat (fs_as B l))), (0, .inr (.inr (.inl (some 220)))), (1, .inl (Int32.ofNat m)), (2, .inl (Int32.ofNat l))]) (S' := [.inr (.inl (Int64.ofNat (v)))]) (h' := h2) (by with_unfolding_all rfl) ?_
            have third : ∀ x9 : Nat, x9 = mk_b (fs_as B l) → kc_Ev g (d + (k + 1) + 2) wk_m208 (fun rv h' => rv = some (.inr (.inl (Int64.ofNat (mk_a (fs_as B l) * mk_c co (fs_as B) c (mk_ev F E W L n (fs_ev B) c) m k (l + 1) T + mk_b (fs_as B l) * mk_c co (fs_as B) c (mk_ev F E W L n (fs_ev B) c) m k (l + 1) (mk_t T l))))) ∧ kd_wt kd_ty h' ∧ fs_bq (fun i s => ms_s (ms_v W (mk_O F E n T)) c s i L) (fun i s => ms_s (ms_v (fun _ _ => 1) (mk_O F E n T)) c s i L) h' ∧ ∀ a x, ¬ (225 ≤ a ∧ a ≤ 235) → h' a x = h a x) 142 [(4, .inr (.inl (Int64.ofNat (v)))), (3, .inl (Int32.ofNat (fs_as B l))), (0, .inr (.inr (.inl (some 220)))), (1, .inl (Int32.ofNat m)), (2, .inl (Int32.ofNat l))] [.inl (Int32.ofNat x9), .inr (.inl (Int64.ofNat (v)))] h2 := by
              intro x9 ex9
              rw [ex9]
              refine kx_go 6 (pc' := 148) (L' := [(4, .inr (.inl (Int64.ofNat (v)))), (3, .inl (Int32.ofNat (fs_as B l))), (0, .inr (.inr (.inl (some 220)))), (1, .inl (Int32.ofNat m)), (2, .inl (Int32.ofNat l))]) (S' := [.inl ((Int32.ofNat l) + (Int32.ofNat 1)), .inl (Int32.ofNat m), .inr (.inr (.inl (some 220))), .inr (.inl ((Int32.ofNat (mk_b (fs_as B l))).toInt64)), .inr (.inl (Int64.ofNat (v)))]) (h' := h2) (by with_unfolding_all rfl) ?_
              rw [kx_add]
              refine kc_call_rule (M2 := wk_m208) (av := [.inr (.inr (.inl (some 220))), .inl (Int32.ofNat m), .inl (Int32.ofNat (l + 1))]) (r := [.inr (.inl ((Int32.ofNat (mk_b (fs_as B l))).toInt64)), .inr (.inl (Int64.ofNat (v)))]) rfl rfl (kc_Con_le (ih (l + 1) (mk_t T l) h2 (by omega) (fun j hj => by rw [mk_tn (by omega)]; exact hT j (by omega)) hw2 hC2 hG2 hrow2 hbo2) (by omega)) (fun rv h3 hq => ?_)
              obtain ⟨rfl, hw3, hbo3, hF3⟩ := hq
              show kc_Ev g (d + (k + 1) + 2) wk_m208 _ 151 [(4, .inr (.inl (Int64.ofNat (v)))), (3, .inl (Int32.ofNat (fs_as B l))), (0, .inr (.inr (.inl (some 220)))), (1, .inl (Int32.ofNat m)), (2, .inl (Int32.ofNat l))] [.inr (.inl (Int64.ofNat (mk_c co (fs_as B) c (mk_ev F E W L n (fs_ev B) c) m k (l + 1) (mk_t T l)))), .inr (.inl ((Int32.ofNat (mk_b (fs_as B l))).toInt64)), .inr (.inl (Int64.ofNat (v)))] h3
              refine kx_go 6 (pc' := 158) (L' := [(4, .inr (.inl ((Int64.ofNat (v)) + (((Int32.ofNat (mk_b (fs_as B l))).toInt64) * (Int64.ofNat (mk_c co (fs_as B) c (mk_ev F E W L n (fs_ev B) c) m k (l + 1) (mk_t T l))))))), (3, .inl (Int32.ofNat (fs_as B l))), (0, .inr (.inr (.inl (some 220)))), (1, .inl (Int32.ofNat m)), (2, .inl (Int32.ofNat l))]) (S' := [.inr (.inr (.inl (some 220))), .inl (Int32.ofNat l), .inr (.inr (.inl (some 220)))]) (h' := h3) (by with_unfolding_all rfl) ?_
              have hbl : mk_b (fs_as B l) ≤ 100 := by
                unfold mk_b
                by_cases z1 : fs_as B l = 100
                · rw [if_pos z1]; omega
                · rw [if_neg z1]
                  by_cases z2 : fs_as B l = 0
                  · rw [if_pos z2]; omega
                  · rw [if_neg z2]; omega
              rw [kx_i2l (by omega), fs_jm, fs_ja, ev]
              have hC3 := fs_C_f (h' := h3) (fun a x q => hF3 a x (by omega)) hC2
              have hG3 := fs_G_f (h' := h3) hL (fun a x q1 q2 => hF3 a x (by omega)) hG2
              refine kx_getf (c := 220) (v := .inr (.inr (.inl (some 204)))) rfl (by decide) (kx_ofr (hw3 _ _ _ fs_k220_1)) ?_
              refine kx_go 1 (pc' := 162) (L' := [(4, .inr (.inl (Int64.ofNat (mk_a (fs_as B l) * mk_c co (fs_as B) c (mk_ev F E W L n (fs_ev B) c) m k (l + 1) T + mk_b (fs_as B l) * mk_c co (fs_as B) c (mk_ev F E W L n (fs_ev B) c) m k (l + 1) (mk_t T l))))), (3, .inl (Int32.ofNat (fs_as B l))), (0, .inr (.inr (.inl (some 220)))), (1, .inl (Int32.ofNat m)), (2, .inl (Int32.ofNat l))]) (S' := [.inl (Int32.ofNat l), .inr (.inr (.inl (some 204))), .inl (Int32.ofNat l), .inr (.inr (.inl (some 220)))]) (h' := h3) (by with_unfolding_all rfl) ?_
              refine kc_call_rule (M2 := wk_m204) (av := [.inr (.inr (.inl (some 204))), .inl (Int32.ofNat l)]) (r := [.inl (Int32.ofNat l), .inr (.inr (.inl (some 220)))]) rfl rfl (kc_Con_le (fs_c204 (d := d) hg hw3 hb hG3 hlL) (by omega)) (fun rv hcc hq => ?_)
              obtain ⟨rfl, e9⟩ := hq
              rw [e9]
              clear e9
              show kc_Ev g (d + (k + 1) + 2) wk_m208 _ 165 [(4, .inr (.inl (Int64.ofNat (mk_a (fs_as B l) * mk_c co (fs_as B) c (mk_ev F E W L n (fs_ev B) c) m k (l + 1) T + mk_b (fs_as B l) * mk_c co (fs_as B) c (mk_ev F E W L n (fs_ev B) c) m k (l + 1) (mk_t T l))))), (3, .inl (Int32.ofNat (fs_as B l))), (0, .inr (.inr (.inl (some 220)))), (1, .inl (Int32.ofNat m)), (2, .inl (Int32.ofNat l))] [.inl (Int32.ofNat (E l)), .inl (Int32.ofNat l), .inr (.inr (.inl (some 220)))] h3
              refine kx_go 1 (pc' := 166) (L' := [(4, .inr (.inl (Int64.ofNat (mk_a (fs_as B l) * mk_c co (fs_as B) c (mk_ev F E W L n (fs_ev B) c) m k (l + 1) T + mk_b (fs_as B l) * mk_c co (fs_as B) c (mk_ev F E W L n (fs_ev B) c) m k (l + 1) (mk_t T l))))), (3, .inl (Int32.ofNat (fs_as B l))), (0, .inr (.inr (.inl (some 220)))), (1, .inl (Int32.ofNat m)), (2, .inl (Int32.ofNat l))]) (S' := [.inr (.inr (.inl (some 220))), .inl (Int32.ofNat (E l)), .inl (Int32.ofNat l), .inr (.inr (.inl (some 220)))]) (h' := h3) (by with_unfolding_all rfl) ?_
              refine kx_getf (c := 220) (v := .inr (.inr (.inl (some 204)))) rfl (by decide) (kx_ofr (hw3 _ _ _ fs_k220_1)) ?_
              refine kx_getf (c := 204) (v := .inl (Int32.ofNat n)) rfl (by decide) hG3.1 ?_
              refine kx_go 1 (pc' := 173) (L' := [(4, .inr (.inl (Int64.ofNat (mk_a (fs_as B l) * mk_c co (fs_as B) c (mk_ev F E W L n (fs_ev B) c) m k (l + 1) T + mk_b (fs_as B l) * mk_c co (fs_as B) c (mk_ev F E W L n (fs_ev B) c) m k (l + 1) (mk_t T l))))), (3, .inl (Int32.ofNat (fs_as B l))), (0, .inr (.inr (.inl (some 220)))), (1, .inl (Int32.ofNat m)), (2, .inl (Int32.ofNat l))]) (S' := [.inl (Int32.ofInt (-1)), .inl (Int32.ofNat n), .inl (Int32.ofNat (E l)), .inl (Int32.ofNat l), .inr (.inr (.inl (some 220)))]) (h' := h3) (by with_unfolding_all rfl) ?_
              refine kc_call_rule (M2 := wk_m205) (av := [.inr (.inr (.inl (some 220))), .inl (Int32.ofNat l), .inl (Int32.ofNat (E l)), .inl (Int32.ofNat n), .inl (Int32.ofInt (-1))]) (r := []) rfl rfl (kc_Con_le (fs_g205d (d := d) (cl := c l) hg hw3 hb hG3 hlL hc6 kl.2.1 (Nat.le_refl n) (mk_stX (W := W) hTl kl.2.2.1 hlL) (mk_stX (W := fun _ _ => 1) hTl kl.2.2.1 hlL) ((hF3 _ _ (by decide)).trans (hrow2 l hlL).1) hbo3) (by omega)) (fun rv h4 hq => ?_)
              obtain ⟨rfl, hw4, hbo4, hF4⟩ := hq
              show kc_Ev g (d + (k + 1) + 2) wk_m208 _ 176 [(4, .inr (.inl (Int64.ofNat (mk_a (fs_as B l) * mk_c co (fs_as B) c (mk_ev F E W L n (fs_ev B) c) m k (l + 1) T + mk_b (fs_as B l) * mk_c co (fs_as B) c (mk_ev F E W L n (fs_ev B) c) m k (l + 1) (mk_t T l))))), (3, .inl (Int32.ofNat (fs_as B l))), (0, .inr (.inr (.inl (some 220)))), (1, .inl (Int32.ofNat m)), (2, .inl (Int32.ofNat l))] [] h4
              refine kx_go 1 (pc' := 178) (L' := [(4, .inr (.inl (Int64.ofNat (mk_a (fs_as B l) * mk_c co (fs_as B) c (mk_ev F E W L n (fs_ev B) c) m k (l + 1) T + mk_b (fs_as B l) * mk_c co (fs_as B) c (mk_ev F E W L n (fs_ev B) c) m k (l + 1) (mk_t T l))))), (3, .inl (Int32.ofNat (fs_as B l))), (0, .inr (.inr (.inl (some 220)))), (1, .inl (Int32.ofNat m)), (2, .inl (Int32.ofNat l))]) (S' := [.inr (.inl (Int64.ofNat (mk_a (fs_as B l) * mk_c co (fs_as B) c (mk_ev F E W L n (fs_ev B) c) m k (l + 1) T + mk_b (fs_as B l) * mk_c co (fs_as B) c (mk_ev F E W L n (fs_ev B) c) m k (l + 1) (mk_t T l))))]) (h' := h4) (by with_unfolding_all rfl) ?_
              exact kc_ret_ok rfl (rv := some (.inr (.inl (Int64.ofNat (mk_a (fs_as B l) * mk_c co (fs_as B) c (mk_ev F E W L n (fs_ev B) c) m k (l + 1) T + mk_b (fs_as B l) * mk_c co (fs_as B) c (mk_ev F E W L n (fs_ev B) c) m k (l + 1) (mk_t T l)))))) rfl ⟨rfl, hw4, hbo4, fun a x q => (hF4 a x q).trans ((hF3 a x q).trans ((hF2 a x q).trans (hF1 a x q)))⟩
            by_cases z0 : fs_as B l = 0
            · rw [if_neg (fa_z (by omega) z0)]
              have eb : mk_b (fs_as B l) = 1 := by rw [z0]; rfl
              refine kx_go 2 (pc' := 142) (L' := [(4, .inr (.inl (Int64.ofNat (v)))), (3, .inl (Int32.ofNat (fs_as B l))), (0, .inr (.inr (.inl (some 220)))), (1, .inl (Int32.ofNat m)), (2, .inl (Int32.ofNat l))]) (S' := [.inl (Int32.ofNat 1), .inr (.inl (Int64.ofNat (v)))]) (h' := h2) (by with_unfolding_all rfl) ?_
              exact third _ eb.symm
            · rw [if_pos (fa_nz (by omega) z0)]
              have eb : mk_b (fs_as B l) = 100 - fs_as B l := by unfold mk_b; rw [if_neg (by omega), if_neg z0]
              refine kx_go 3 (pc' := 142) (L' := [(4, .inr (.inl (Int64.ofNat (v)))), (3, .inl (Int32.ofNat (fs_as B l))), (0, .inr (.inr (.inl (some 220)))), (1, .inl (Int32.ofNat m)), (2, .inl (Int32.ofNat l))]) (S' := [.inl ((Int32.ofNat 100) - (Int32.ofNat (fs_as B l))), .inr (.inl (Int64.ofNat (v)))]) (h' := h2) (by with_unfolding_all rfl) ?_
              rw [kx_sub (by omega)]
              exact third _ eb.symm
        refine kx_go 1 (pc' := 60) (L' := [(0, .inr (.inr (.inl (some 220)))), (1, .inl (Int32.ofNat m)), (2, .inl (Int32.ofNat l))]) (S' := [.inr (.inr (.inl (some 220)))]) (h' := h) (by with_unfolding_all rfl) ?_
        refine kx_getf (c := 220) (v := .inr (.inr (.inl (some 1)))) rfl (by decide) (kx_ofr (hw _ _ _ fs_k220_0)) ?_
        refine kx_getf (c := 1) (v := .inr (.inr (.inl (some 15)))) rfl (by decide) (kx_ofr (hw _ _ _ fs_k1_8)) ?_
        refine kx_go 1 (pc' := 67) (L' := [(0, .inr (.inr (.inl (some 220)))), (1, .inl (Int32.ofNat m)), (2, .inl (Int32.ofNat l))]) (S' := [.inl (Int32.ofNat l), .inr (.inr (.inl (some 15)))]) (h' := h) (by with_unfolding_all rfl) ?_
        refine kx_aald rfl (c := 15) (j := l) (m := 10) (t0 := 2) (v := .inr (.inr (.inl (some (1 + (15 + l)))))) rfl (by decide) (by decide) (by decide) (by omega) (kx_ofr (hw _ _ _ (fu_slo l (by omega)).2)) ?_
        refine kx_go 1 (pc' := 69) (L' := [(0, .inr (.inr (.inl (some 220)))), (1, .inl (Int32.ofNat m)), (2, .inl (Int32.ofNat l))]) (S' := [.inl (Int32.ofNat 4), .inr (.inr (.inl (some (1 + (15 + l)))))]) (h' := h) (by with_unfolding_all rfl) ?_
        refine kx_iald (c := 1 + (15 + l)) (j := 4) (m := 7) (v := .inl (Int32.ofNat (fs_as B l))) rfl (fu_slo l (by omega)).1.1 (fu_slo l (by omega)).1.2 (by decide) (by omega) u4 ?_
        refine kx_go 5 (pc' := (if kc_cnd .le (Int32.ofNat (fs_as B l)).toInt 0 then 101 else 78)) (L' := [(4, .inr (.inl (Int64.ofNat 0))), (3, .inl (Int32.ofNat (fs_as B l))), (0, .inr (.inr (.inl (some 220)))), (1, .inl (Int32.ofNat m)), (2, .inl (Int32.ofNat l))]) (S' := []) (h' := h) (by with_unfolding_all rfl) ?_
        by_cases z0 : fs_as B l = 0
        · rw [if_pos (fu_ile.mpr (by rw [kx_ti (by omega)]; omega))]
          exact second 0 h hw hbo (fun _ _ _ => rfl) (by rw [z0]; rw [show mk_a 0 = 0 from rfl, Nat.zero_mul])
        · rw [if_neg (fun q => (fu_ile.mp q) (by rw [kx_ti (by omega)]; omega))]
          refine kx_go 3 (pc' := (if kc_cnd .ne (Int32.ofNat (fs_as B l)).toInt (Int32.ofNat 100).toInt then 88 else 84)) (L' := [(4, .inr (.inl (Int64.ofNat 0))), (3, .inl (Int32.ofNat (fs_as B l))), (0, .inr (.inr (.inl (some 220)))), (1, .inl (Int32.ofNat m)), (2, .inl (Int32.ofNat l))]) (S' := []) (h' := h) (by with_unfolding_all rfl) ?_
          have first : ∀ x9 : Nat, x9 = mk_a (fs_as B l) → kc_Ev g (d + (k + 1) + 2) wk_m208 (fun rv h' => rv = some (.inr (.inl (Int64.ofNat (mk_a (fs_as B l) * mk_c co (fs_as B) c (mk_ev F E W L n (fs_ev B) c) m k (l + 1) T + mk_b (fs_as B l) * mk_c co (fs_as B) c (mk_ev F E W L n (fs_ev B) c) m k (l + 1) (mk_t T l))))) ∧ kd_wt kd_ty h' ∧ fs_bq (fun i s => ms_s (ms_v W (mk_O F E n T)) c s i L) (fun i s => ms_s (ms_v (fun _ _ => 1) (mk_O F E n T)) c s i L) h' ∧ ∀ a x, ¬ (225 ≤ a ∧ a ≤ 235) → h' a x = h a x) 89 [(4, .inr (.inl (Int64.ofNat 0))), (3, .inl (Int32.ofNat (fs_as B l))), (0, .inr (.inr (.inl (some 220)))), (1, .inl (Int32.ofNat m)), (2, .inl (Int32.ofNat l))] [.inl (Int32.ofNat x9)] h := by
            intro x9 ex9
            rw [ex9]
            refine kx_go 6 (pc' := 95) (L' := [(4, .inr (.inl (Int64.ofNat 0))), (3, .inl (Int32.ofNat (fs_as B l))), (0, .inr (.inr (.inl (some 220)))), (1, .inl (Int32.ofNat m)), (2, .inl (Int32.ofNat l))]) (S' := [.inl ((Int32.ofNat l) + (Int32.ofNat 1)), .inl (Int32.ofNat m), .inr (.inr (.inl (some 220))), .inr (.inl ((Int32.ofNat (mk_a (fs_as B l))).toInt64))]) (h' := h) (by with_unfolding_all rfl) ?_
            rw [kx_add]
            refine kc_call_rule (M2 := wk_m208) (av := [.inr (.inr (.inl (some 220))), .inl (Int32.ofNat m), .inl (Int32.ofNat (l + 1))]) (r := [.inr (.inl ((Int32.ofNat (mk_a (fs_as B l))).toInt64))]) rfl rfl (kc_Con_le (ih (l + 1) (T) h (by omega) (fun j hj => hT j (by omega)) hw hC hG hrow hbo) (by omega)) (fun rv h2 hq => ?_)
            obtain ⟨rfl, hw2, hbo2, hF2⟩ := hq
            show kc_Ev g (d + (k + 1) + 2) wk_m208 _ 98 [(4, .inr (.inl (Int64.ofNat 0))), (3, .inl (Int32.ofNat (fs_as B l))), (0, .inr (.inr (.inl (some 220)))), (1, .inl (Int32.ofNat m)), (2, .inl (Int32.ofNat l))] [.inr (.inl (Int64.ofNat (mk_c co (fs_as B) c (mk_ev F E W L n (fs_ev B) c) m k (l + 1) T))), .inr (.inl ((Int32.ofNat (mk_a (fs_as B l))).toInt64))] h2
            refine kx_go 2 (pc' := 101) (L' := [(4, .inr (.inl (((Int32.ofNat (mk_a (fs_as B l))).toInt64) * (Int64.ofNat (mk_c co (fs_as B) c (mk_ev F E W L n (fs_ev B) c) m k (l + 1) T))))), (3, .inl (Int32.ofNat (fs_as B l))), (0, .inr (.inr (.inl (some 220)))), (1, .inl (Int32.ofNat m)), (2, .inl (Int32.ofNat l))]) (S' := []) (h' := h2) (by with_unfolding_all rfl) ?_
            have hal : mk_a (fs_as B l) ≤ 100 := by
              unfold mk_a
              rw [if_neg z0]
              by_cases z1 : fs_as B l = 100
              · rw [if_pos z1]; omega
              · rw [if_neg z1]; omega
            rw [kx_i2l (by omega), fs_jm]
            refine kf_lo (L := [(4, .inr (.inl (Int64.ofNat (mk_a (fs_as B l) * mk_c co (fs_as B) c (mk_ev F E W L n (fs_ev B) c) m k (l + 1) T)))), (3, .inl (Int32.ofNat (fs_as B l))), (0, .inr (.inr (.inl (some 220)))), (1, .inl (Int32.ofNat m)), (2, .inl (Int32.ofNat l))]) (by intro q hq; simp only [List.mem_cons, List.not_mem_nil, or_false] at hq; rcases hq with rfl | rfl | rfl | rfl | rfl <;> rfl) ?_
            exact second _ h2 hw2 hbo2 hF2 rfl
          by_cases z1 : fs_as B l = 100
          · rw [if_neg (fun q => (kx_ne (by omega) (by omega)).mp q z1)]
            have ea : mk_a (fs_as B l) = 1 := by rw [z1]; rfl
            refine kx_go 2 (pc' := 89) (L' := [(4, .inr (.inl (Int64.ofNat 0))), (3, .inl (Int32.ofNat (fs_as B l))), (0, .inr (.inr (.inl (some 220)))), (1, .inl (Int32.ofNat m)), (2, .inl (Int32.ofNat l))]) (S' := [.inl (Int32.ofNat 1)]) (h' := h) (by with_unfolding_all rfl) ?_
            exact first _ ea.symm
          · rw [if_pos ((kx_ne (by omega) (by omega)).mpr z1)]
            have ea : mk_a (fs_as B l) = fs_as B l := by unfold mk_a; rw [if_neg z0, if_neg z1]
            refine kx_go 1 (pc' := 89) (L' := [(4, .inr (.inl (Int64.ofNat 0))), (3, .inl (Int32.ofNat (fs_as B l))), (0, .inr (.inr (.inl (some 220)))), (1, .inl (Int32.ofNat m)), (2, .inl (Int32.ofNat l))]) (S' := [.inl (Int32.ofNat (fs_as B l))]) (h' := h) (by with_unfolding_all rfl) ?_
            exact first _ ea.symm
      · have e6 : h 207 l = .inl (Int32.ofInt (-1)) := (hG.2.2.1 l hlL).trans (by rw [if_neg c2])
        refine kx_go 1 (pc' := 38) (L' := [(0, .inr (.inr (.inl (some 220)))), (1, .inl (Int32.ofNat m)), (2, .inl (Int32.ofNat l))]) (S' := [.inr (.inr (.inl (some 220)))]) (h' := h) (by with_unfolding_all rfl) ?_
        refine kx_getf (c := 220) (v := .inr (.inr (.inl (some 204)))) rfl (by decide) (kx_ofr (hw _ _ _ fs_k220_1)) ?_
        refine kx_getf (c := 204) (v := .inr (.inr (.inl (some 207)))) rfl (by decide) (kx_ofr (hw _ _ _ fs_k204_5)) ?_
        refine kx_go 1 (pc' := 45) (L' := [(0, .inr (.inr (.inl (some 220)))), (1, .inl (Int32.ofNat m)), (2, .inl (Int32.ofNat l))]) (S' := [.inl (Int32.ofNat l), .inr (.inr (.inl (some 207)))]) (h' := h) (by with_unfolding_all rfl) ?_
        refine kx_iald (c := 207) (j := l) (m := 10) (v := .inl (Int32.ofInt (-1))) rfl rfl (by decide) (by decide) (by omega) e6 ?_
        refine kx_go 2 (pc' := (if kc_cnd .ne (Int32.ofInt (-1)).toInt (Int32.ofInt (-1)).toInt then 59 else 50)) (L' := [(0, .inr (.inr (.inl (some 220)))), (1, .inl (Int32.ofNat m)), (2, .inl (Int32.ofNat l))]) (S' := []) (h' := h) (by with_unfolding_all rfl) ?_
        rw [if_neg kx_m2]
        exact over (fun q => c2 q.2)
    · rw [if_pos ((kx_ne (by omega) (by omega)).mpr c1)]
      exact over (fun q => c1 q.1)
theorem mk_p_0 {f : Nat → Nat} {m : Nat} (h : mk_p f m = 0) : ∀ k, mk_p f (m + k) = 0
  | 0 => h
  | k + 1 => by
    show mk_p f (m + k) * f (m + k) = 0
    rw [mk_p_0 h k, Nat.zero_mul]
set_option maxRecDepth 20000 in
theorem fs_c141l {g : kc_G} {d : Nat} {h0 : kc_H} {B : Nat → Int32} {M : Nat} {F E : Nat → Nat} {co : Nat → Bool} {W : Nat → Nat → Nat} {L n : Nat} {c : Nat → Nat} (hg : kc_ok g) (hB : fu_BT B) (hb : fs_Gb F E co W L n) (eL : B 2 = Int32.ofNat L) (hM : M ≤ 3) (eM : B 1 = Int32.ofNat M) (hC0 : fu_C B 1 h0) (hG0 : fs_G F E co W L n h0) (hrow : ∀ j, j < L → h0 222 j = .inl (Int32.ofNat (c j)) ∧ c j < 6) (hpb : ∀ m, m ≤ M → mk_p (fun m => mk_c co (fs_as B) c (mk_ev F E W L n (fs_ev B) c) m L 0 (fun _ => false)) m < 9223372036854775808) : ∀ (u m : Nat) (h : kc_H), M - m = u → m ≤ M → kd_wt kd_ty h → fs_bq (fun i s => ms_s (ms_v W (mk_O F E n (fun _ => false))) c s i L) (fun i s => ms_s (ms_v (fun _ _ => 1) (mk_O F E n (fun _ => false))) c s i L) h → (∀ a x, ¬ (225 ≤ a ∧ a ≤ 235) → h a x = h0 a x) → kc_Ev g (d + L + 3) wk_m141 (fun rv h' => rv = some (.inr (.inl (Int64.ofNat (mk_p (fun m => mk_c co (fs_as B) c (mk_ev F E W L n (fs_ev B) c) m L 0 (fun _ => false)) M)))) ∧ kd_wt kd_ty h' ∧ fs_bq (fun i s => ms_s (ms_v W (mk_O F E n (fun _ => false))) c s i L) (fun i s => ms_s (ms_v (fun _ _ => 1) (mk_O F E n (fun _ => false))) c s i L) h' ∧ ∀ a x, ¬ (225 ≤ a ∧ a ≤ 235) → h' a x = h0 a x) 4 [(3, .inl (Int32.ofNat m)), (1, .inr (.inl (Int64.ofNat (mk_p (fun m => mk_c co (fs_as B) c (mk_ev F E W L n (fs_ev B) c) m L 0 (fun _ => false)) m)))), (0, .inr (.inr (.inl (some 220))))] [] h := by
  have hL := hb.2.1
  have out : ∀ (m : Nat) (h : kc_H), m ≤ M → kd_wt kd_ty h → fs_bq (fun i s => ms_s (ms_v W (mk_O F E n (fun _ => false))) c s i L) (fun i s => ms_s (ms_v (fun _ _ => 1) (mk_O F E n (fun _ => false))) c s i L) h → (∀ a x, ¬ (225 ≤ a ∧ a ≤ 235) → h a x = h0 a x) → (m = M ∨ mk_p (fun m => mk_c co (fs_as B) c (mk_ev F E W L n (fs_ev B) c) m L 0 (fun _ => false)) m = 0) → kc_Ev g (d + L + 3) wk_m141 (fun rv h' => rv = some (.inr (.inl (Int64.ofNat (mk_p (fun m => mk_c co (fs_as B) c (mk_ev F E W L n (fs_ev B) c) m L 0 (fun _ => false)) M)))) ∧ kd_wt kd_ty h' ∧ fs_bq (fun i s => ms_s (ms_v W (mk_O F E n (fun _ => false))) c s i L) (fun i s => ms_s (ms_v (fun _ _ => 1) (mk_O F E n (fun _ => false))) c s i L) h' ∧ ∀ a x, ¬ (225 ≤ a ∧ a ≤ 235) → h' a x = h0 a x) 36 [(3, .inl (Int32.ofNat m)), (1, .inr (.inl (Int64.ofNat (mk_p (fun m => mk_c co (fs_as B) c (mk_ev F E W L n (fs_ev B) c) m L 0 (fun _ => false)) m)))), (0, .inr (.inr (.inl (some 220))))] [] h := by
    intro m h hm hw hbo hF h1
    have e : mk_p (fun m => mk_c co (fs_as B) c (mk_ev F E W L n (fs_ev B) c) m L 0 (fun _ => false)) M = mk_p (fun m => mk_c co (fs_as B) c (mk_ev F E W L n (fs_ev B) c) m L 0 (fun _ => false)) m := by
      rcases h1 with rfl | h1
      · rfl
      · have := mk_p_0 h1 (M - m)
        rw [show m + (M - m) = M by omega] at this
        rw [this, h1]
    rw [e]
    refine kx_go 1 (pc' := 37) (L' := [(3, .inl (Int32.ofNat m)), (1, .inr (.inl (Int64.ofNat (mk_p (fun m => mk_c co (fs_as B) c (mk_ev F E W L n (fs_ev B) c) m L 0 (fun _ => false)) m)))), (0, .inr (.inr (.inl (some 220))))]) (S' := [.inr (.inl (Int64.ofNat (mk_p (fun m => mk_c co (fs_as B) c (mk_ev F E W L n (fs_ev B) c) m L 0 (fun _ => false)) m)))]) (h' := h) (by with_unfolding_all rfl) ?_
    exact kc_ret_ok rfl (rv := some (.inr (.inl (Int64.ofNat (mk_p (fun m => mk_c co (fs_as B) c (mk_ev F E W L n (fs_ev B) c) m L 0 (fun _ => false)) m))))) rfl ⟨rfl, hw, hbo, hF⟩
  intro u
  induction u with
  | zero =>
    intro m h hu hm hw hbo hF
    have hC := fs_C_f (h' := h) (fun a x q => hF a x (by omega)) hC0
    refine kx_go 2 (pc' := 6) (L' := [(3, .inl (Int32.ofNat m)), (1, .inr (.inl (Int64.ofNat (mk_p (fun m => mk_c co (fs_as B) c (mk_ev F E W L n (fs_ev B) c) m L 0 (fun _ => false)) m)))), (0, .inr (.inr (.inl (some 220))))]) (S' := [.inr (.inr (.inl (some 220))), .inl (Int32.ofNat m)]) (h' := h) (by with_unfolding_all rfl) ?_
    refine kx_getf (c := 220) (v := .inr (.inr (.inl (some 1)))) rfl (by decide) (kx_ofr (hw _ _ _ fs_k220_0)) ?_
    refine kx_getf (c := 1) (v := .inl (Int32.ofNat M)) rfl (by decide) ((fu_C0 hC).2.1.trans (by rw [eM])) ?_
    refine kx_go 1 (pc' := (if kc_cnd .ge (Int32.ofNat m).toInt (Int32.ofNat M).toInt then 36 else 15)) (L' := [(3, .inl (Int32.ofNat m)), (1, .inr (.inl (Int64.ofNat (mk_p (fun m => mk_c co (fs_as B) c (mk_ev F E W L n (fs_ev B) c) m L 0 (fun _ => false)) m)))), (0, .inr (.inr (.inl (some 220))))]) (S' := []) (h' := h) (by with_unfolding_all rfl) ?_
    rw [if_pos ((kx_ge (by omega) (by omega)).mpr (by omega))]
    exact out m h hm hw hbo hF (Or.inl (by omega))
  | succ u ih =>
    intro m h hu hm hw hbo hF
    have hC := fs_C_f (h' := h) (fun a x q => hF a x (by omega)) hC0
    refine kx_go 2 (pc' := 6) (L' := [(3, .inl (Int32.ofNat m)), (1, .inr (.inl (Int64.ofNat (mk_p (fun m => mk_c co (fs_as B) c (mk_ev F E W L n (fs_ev B) c) m L 0 (fun _ => false)) m)))), (0, .inr (.inr (.inl (some 220))))]) (S' := [.inr (.inr (.inl (some 220))), .inl (Int32.ofNat m)]) (h' := h) (by with_unfolding_all rfl) ?_
    refine kx_getf (c := 220) (v := .inr (.inr (.inl (some 1)))) rfl (by decide) (kx_ofr (hw _ _ _ fs_k220_0)) ?_
    refine kx_getf (c := 1) (v := .inl (Int32.ofNat M)) rfl (by decide) ((fu_C0 hC).2.1.trans (by rw [eM])) ?_
    refine kx_go 1 (pc' := (if kc_cnd .ge (Int32.ofNat m).toInt (Int32.ofNat M).toInt then 36 else 15)) (L' := [(3, .inl (Int32.ofNat m)), (1, .inr (.inl (Int64.ofNat (mk_p (fun m => mk_c co (fs_as B) c (mk_ev F E W L n (fs_ev B) c) m L 0 (fun _ => false)) m)))), (0, .inr (.inr (.inl (some 220))))]) (S' := []) (h' := h) (by with_unfolding_all rfl) ?_
    rw [if_neg (fun q => by have := (kx_ge (by omega) (by omega)).mp q; omega)]
    have pb := hpb m hm
    refine kx_go 4 (pc' := (if kc_cnd .le (kc_lcmp (Int64.ofNat (mk_p (fun m => mk_c co (fs_as B) c (mk_ev F E W L n (fs_ev B) c) m L 0 (fun _ => false)) m)) (Int64.ofNat 0)).toInt 0 then 36 else 21)) (L' := [(3, .inl (Int32.ofNat m)), (1, .inr (.inl (Int64.ofNat (mk_p (fun m => mk_c co (fs_as B) c (mk_ev F E W L n (fs_ev B) c) m L 0 (fun _ => false)) m)))), (0, .inr (.inr (.inl (some 220))))]) (S' := []) (h' := h) (by with_unfolding_all rfl) ?_
    by_cases c0 : mk_p (fun m => mk_c co (fs_as B) c (mk_ev F E W L n (fs_ev B) c) m L 0 (fun _ => false)) m = 0
    · rw [if_pos (fs_lle.mpr (by rw [kx_tj (by omega), kx_tj (by omega)]; omega))]
      exact out m h hm hw hbo hF (Or.inr c0)
    · rw [if_neg (fun q => (fs_lle.mp q) (by rw [kx_tj (by omega), kx_tj (by omega)]; omega))]
      have hG := fs_G_f (h' := h) hL (fun a x q1 q2 => hF a x (by omega)) hG0
      have hrow2 : ∀ j, j < L → h 222 j = .inl (Int32.ofNat (c j)) ∧ c j < 6 := fun j hj => ⟨(hF _ _ (by decide)).trans (hrow j hj).1, (hrow j hj).2⟩
      refine kx_go 4 (pc' := 25) (L' := [(3, .inl (Int32.ofNat m)), (1, .inr (.inl (Int64.ofNat (mk_p (fun m => mk_c co (fs_as B) c (mk_ev F E W L n (fs_ev B) c) m L 0 (fun _ => false)) m)))), (0, .inr (.inr (.inl (some 220))))]) (S' := [.inl (Int32.ofNat 0), .inl (Int32.ofNat m), .inr (.inr (.inl (some 220))), .inr (.inl (Int64.ofNat (mk_p (fun m => mk_c co (fs_as B) c (mk_ev F E W L n (fs_ev B) c) m L 0 (fun _ => false)) m)))]) (h' := h) (by with_unfolding_all rfl) ?_
      refine kc_call_rule (M2 := wk_m208) (av := [.inr (.inr (.inl (some 220))), .inl (Int32.ofNat m), .inl (Int32.ofNat 0)]) (r := [.inr (.inl (Int64.ofNat (mk_p (fun m => mk_c co (fs_as B) c (mk_ev F E W L n (fs_ev B) c) m L 0 (fun _ => false)) m)))]) rfl rfl (kc_Con_le (fs_c208 (d := d) (m := m) hg hB hb eL (by omega) L 0 (fun _ => false) h (by omega) (fun _ _ => rfl) hw hC hG hrow2 hbo) (by omega)) (fun rv h2 hq => ?_)
      obtain ⟨rfl, hw2, hbo2, hF2⟩ := hq
      show kc_Ev g (d + L + 3) wk_m141 _ 28 [(3, .inl (Int32.ofNat m)), (1, .inr (.inl (Int64.ofNat (mk_p (fun m => mk_c co (fs_as B) c (mk_ev F E W L n (fs_ev B) c) m L 0 (fun _ => false)) m)))), (0, .inr (.inr (.inl (some 220))))] [.inr (.inl (Int64.ofNat (mk_c co (fs_as B) c (mk_ev F E W L n (fs_ev B) c) m L 0 (fun _ => false)))), .inr (.inl (Int64.ofNat (mk_p (fun m => mk_c co (fs_as B) c (mk_ev F E W L n (fs_ev B) c) m L 0 (fun _ => false)) m)))] h2
      refine kx_go 4 (pc' := 4) (L' := [(3, .inl ((Int32.ofNat m) + Int32.ofInt 1)), (1, .inr (.inl ((Int64.ofNat (mk_p (fun m => mk_c co (fs_as B) c (mk_ev F E W L n (fs_ev B) c) m L 0 (fun _ => false)) m)) * (Int64.ofNat (mk_c co (fs_as B) c (mk_ev F E W L n (fs_ev B) c) m L 0 (fun _ => false)))))), (0, .inr (.inr (.inl (some 220))))]) (S' := []) (h' := h2) (by with_unfolding_all rfl) ?_
      rw [kx_inc, fs_jm]
      refine kf_lo (L := [(3, .inl (Int32.ofNat (m + 1))), (1, .inr (.inl (Int64.ofNat (mk_p (fun m => mk_c co (fs_as B) c (mk_ev F E W L n (fs_ev B) c) m L 0 (fun _ => false)) (m + 1))))), (0, .inr (.inr (.inl (some 220))))]) (by intro q hq; simp only [List.mem_cons, List.not_mem_nil, or_false] at hq; rcases hq with rfl | rfl | rfl <;> rfl) ?_
      exact ih (m + 1) h2 (by omega) (by omega) hw2 hbo2 (fun a x q => (hF2 a x q).trans (hF a x q))
set_option maxRecDepth 20000 in
theorem fs_c141 {g : kc_G} {d : Nat} {h0 : kc_H} {B : Nat → Int32} {M : Nat} {F E : Nat → Nat} {co : Nat → Bool} {W : Nat → Nat → Nat} {L n : Nat} {c : Nat → Nat} (hg : kc_ok g) (hB : fu_BT B) (hb : fs_Gb F E co W L n) (eL : B 2 = Int32.ofNat L) (hM : M ≤ 3) (eM : B 1 = Int32.ofNat M) (hC0 : fu_C B 1 h0) (hG0 : fs_G F E co W L n h0) (hrow : ∀ j, j < L → h0 222 j = .inl (Int32.ofNat (c j)) ∧ c j < 6) (hpb : ∀ m, m ≤ M → mk_p (fun m => mk_c co (fs_as B) c (mk_ev F E W L n (fs_ev B) c) m L 0 (fun _ => false)) m < 9223372036854775808) (hw0 : kd_wt kd_ty h0) (hbo0 : fs_bq (fun i s => ms_s (ms_v W (mk_O F E n (fun _ => false))) c s i L) (fun i s => ms_s (ms_v (fun _ _ => 1) (mk_O F E n (fun _ => false))) c s i L) h0) : kc_Con g (d + L + 4) 141 [.inr (.inr (.inl (some 220)))] h0 (fun rv h' => rv = some (.inr (.inl (Int64.ofNat (mk_p (fun m => mk_c co (fs_as B) c (mk_ev F E W L n (fs_ev B) c) m L 0 (fun _ => false)) M)))) ∧ kd_wt kd_ty h' ∧ fs_bq (fun i s => ms_s (ms_v W (mk_O F E n (fun _ => false))) c s i L) (fun i s => ms_s (ms_v (fun _ _ => 1) (mk_O F E n (fun _ => false))) c s i L) h' ∧ ∀ a x, ¬ (225 ≤ a ∧ a ≤ 235) → h' a x = h0 a x) := by
  refine kc_Con_new hg (M := wk_m141) rfl rfl rfl (show 1 ≤ 4 by decide) ?_
  refine kx_go 4 (pc' := 4) (L' := [(3, .inl (Int32.ofNat 0)), (1, .inr (.inl (Int64.ofNat 1))), (0, .inr (.inr (.inl (some 220))))]) (S' := []) (h' := h0) (by with_unfolding_all rfl) ?_
  exact fs_c141l hg hB hb eL hM eM hC0 hG0 hrow hpb M 0 h0 (by omega) (by omega) hw0 hbo0 (fun _ _ _ => rfl)
end
section
-- 99.zqk
/-! ===== KEEP: bounds of chances; who may change places ===== -/
theorem mk_dsc_b {co : Nat → Bool} {as : Nat → Nat} {f : (Nat → Bool) → Nat} (has : ∀ l, as l ≤ 100) (hf : ∀ T, f T ≤ 1) : ∀ (l : Nat) (T : Nat → Bool), mk_dsc co as l f T ≤ 100 ^ mk_k co as l
  | 0, T => hf T
  | l + 1, T => by
    refine Nat.le_trans (mk_op_b has (mk_dsc_b has hf l) T) ?_
    show (if mk_is co as l = true then 100 else 1) * 100 ^ mk_k co as l ≤ 100 ^ (mk_k co as l + (if mk_is co as l = true then 1 else 0))
    by_cases e : mk_is co as l = true
    · rw [if_pos e, if_pos e, Nat.pow_succ, Nat.mul_comm]
      exact Nat.le_refl _
    · rw [if_neg e, if_neg e, Nat.one_mul, Nat.add_zero]
      exact Nat.le_refl _
/-! one MULE alone -/
def mk_km (co : Nat → Bool) (as : Nat → Nat) (c : Nat → Nat) (m : Nat) : Nat → Nat → Nat
  | 0, _ => 0
  | k + 1, l => mk_km co as c m k (l + 1) + (if mk_is co as l = true ∧ c l / 2 = m then 1 else 0)
def mk_ks (co : Nat → Bool) (as : Nat → Nat) : Nat → Nat → Nat
  | 0, _ => 0
  | k + 1, l => mk_ks co as k (l + 1) + (if mk_is co as l = true then 1 else 0)
theorem mk_ks_t {co : Nat → Bool} {as : Nat → Nat} : ∀ k l, mk_ks co as (k + 1) l = mk_ks co as k l + (if mk_is co as (l + k) = true then 1 else 0)
  | 0, l => rfl
  | k + 1, l => by
    show mk_ks co as (k + 1) (l + 1) + (if mk_is co as l = true then 1 else 0) = mk_ks co as k (l + 1) + (if mk_is co as l = true then 1 else 0) + (if mk_is co as (l + (k + 1)) = true then 1 else 0)
    rw [mk_ks_t k (l + 1), show l + 1 + k = l + (k + 1) by omega]
    omega
theorem mk_ks_k {co : Nat → Bool} {as : Nat → Nat} : ∀ L, mk_ks co as L 0 = mk_k co as L
  | 0 => rfl
  | L + 1 => by
    rw [mk_ks_t L 0, mk_ks_k L, Nat.zero_add]
    rfl
theorem mk_sm_p {f g : Nat → Nat} : ∀ n, mk_sm (fun m => f m + g m) n = mk_sm f n + mk_sm g n
  | 0 => rfl
  | n + 1 => by
    show mk_sm (fun m => f m + g m) n + (f n + g n) = mk_sm f n + f n + (mk_sm g n + g n)
    rw [mk_sm_p n]
    omega
theorem mk_sm_1 {p : Prop} [Decidable p] {x : Nat} : ∀ n, mk_sm (fun m => if p ∧ x = m then 1 else 0) n ≤ (if p then 1 else 0) ∧ (n ≤ x → mk_sm (fun m => if p ∧ x = m then 1 else 0) n = 0)
  | 0 => ⟨Nat.zero_le _, fun _ => rfl⟩
  | n + 1 => by
    have ih := mk_sm_1 (p := p) (x := x) n
    refine ⟨?_, fun q => ?_⟩
    · show mk_sm (fun m => if p ∧ x = m then 1 else 0) n + (if p ∧ x = n then 1 else 0) ≤ _
      by_cases e : p ∧ x = n
      · rw [if_pos e, ih.2 (by omega), if_pos e.1]
        exact Nat.le_refl _
      · rw [if_neg e]
        exact ih.1
    · show mk_sm (fun m => if p ∧ x = m then 1 else 0) n + (if p ∧ x = n then 1 else 0) = 0
      rw [ih.2 (by omega), if_neg (fun z => by omega)]
theorem mk_km_s {co : Nat → Bool} {as : Nat → Nat} {c : Nat → Nat} {M : Nat} : ∀ k l, mk_sm (fun m => mk_km co as c m k l) M ≤ mk_ks co as k l
  | 0, l => by
    have : ∀ M, mk_sm (fun m => mk_km co as c m 0 l) M = 0 := fun M => by
      induction M with
      | zero => rfl
      | succ M ih => exact ih
    rw [this]
    exact Nat.zero_le _
  | k + 1, l => by
    have ih := mk_km_s (co := co) (as := as) (c := c) (M := M) k (l + 1)
    have e := mk_sm_p (f := fun m => mk_km co as c m k (l + 1)) (g := fun m => if mk_is co as l = true ∧ c l / 2 = m then 1 else 0) M
    have b := (mk_sm_1 (p := mk_is co as l = true) (x := c l / 2) M).1
    show mk_sm (fun m => mk_km co as c m k (l + 1) + (if mk_is co as l = true ∧ c l / 2 = m then 1 else 0)) M ≤ mk_ks co as k (l + 1) + (if mk_is co as l = true then 1 else 0)
    rw [e]
    exact Nat.add_le_add ih b
theorem mk_c_b {co : Nat → Bool} {as : Nat → Nat} {c : Nat → Nat} {ev : Nat → (Nat → Bool) → Bool} {m : Nat} (has : ∀ l, as l ≤ 100) : ∀ (k l : Nat) (T : Nat → Bool), mk_c co as c ev m k l T ≤ 100 ^ mk_km co as c m k l
  | 0, l, T => by
    show (if ev m T = true then 1 else 0) ≤ 1
    by_cases e : ev m T = true
    · rw [if_pos e]; exact Nat.le_refl _
    · rw [if_neg e]; exact Nat.zero_le _
  | k + 1, l, T => by
    have ih := mk_c_b (co := co) (as := as) (c := c) (ev := ev) (m := m) has k (l + 1)
    show (if c l / 2 = m ∧ co l = true then mk_a (as l) * mk_c co as c ev m k (l + 1) T + mk_b (as l) * mk_c co as c ev m k (l + 1) (mk_t T l) else mk_c co as c ev m k (l + 1) T) ≤ 100 ^ (mk_km co as c m k (l + 1) + (if mk_is co as l = true ∧ c l / 2 = m then 1 else 0))
    by_cases e : c l / 2 = m ∧ co l = true
    · rw [if_pos e]
      have q := mk_op_b (co := co) (l := l) has ih T
      unfold mk_op at q
      rw [if_pos e.2] at q
      refine Nat.le_trans q ?_
      by_cases e2 : mk_is co as l = true
      · rw [if_pos e2, if_pos ⟨e2, e.1⟩, Nat.pow_succ, Nat.mul_comm]
        exact Nat.le_refl _
      · rw [if_neg e2, if_neg (fun z => e2 z.1), Nat.one_mul, Nat.add_zero]
        exact Nat.le_refl _
    · rw [if_neg e]
      exact Nat.le_trans (ih T) (Nat.pow_le_pow_right (by decide) (Nat.le_add_right _ _))
theorem mk_p_b {f k : Nat → Nat} (h : ∀ m, f m ≤ 100 ^ k m) : ∀ M, mk_p f M ≤ 100 ^ mk_sm k M
  | 0 => Nat.le_refl _
  | M + 1 => by
    show mk_p f M * f M ≤ 100 ^ (mk_sm k M + k M)
    rw [Nat.pow_add]
    exact Nat.mul_le_mul (mk_p_b h M) (h M)
theorem mk_pc_b {co : Nat → Bool} {as : Nat → Nat} {c : Nat → Nat} {ev : Nat → (Nat → Bool) → Bool} {L M : Nat} {T : Nat → Bool} (has : ∀ l, as l ≤ 100) : mk_p (fun m => mk_c co as c ev m L 0 T) M ≤ 100 ^ mk_k co as L := by
  refine Nat.le_trans (mk_p_b (k := fun m => mk_km co as c m L 0) (fun m => mk_c_b has L 0 T) M) (Nat.pow_le_pow_right (by decide) ?_)
  rw [← mk_ks_k L]
  exact mk_km_s L 0
/-! the chance of a row -/
def mk_f (F E : Nat → Nat) (W : Nat → Nat → Nat) (L M n : Nat) (even : Nat → Nat) (c : Nat → Nat) (T : Nat → Bool) : Nat := if ms_all (fun m => mk_ev F E W L n even c m T) M = true then 1 else 0
def mk_ch (co : Nat → Bool) (as : Nat → Nat) (F E : Nat → Nat) (W : Nat → Nat → Nat) (L M n : Nat) (even : Nat → Nat) (c : Nat → Nat) : Nat := mk_R co as (mk_f F E W L M n even c) L 0 (fun _ => false)
def mk_va (co : Nat → Bool) (as : Nat → Nat) (F E : Nat → Nat) (W : Nat → Nat → Nat) (L M n : Nat) (even : Nat → Nat) (c : Nat → Nat) : Nat := 100 ^ mk_k co as L - mk_ch co as F E W L M n even c
theorem mk_f_1 {F E : Nat → Nat} {W : Nat → Nat → Nat} {L M n : Nat} {even c : Nat → Nat} (T : Nat → Bool) : mk_f F E W L M n even c T ≤ 1 := by
  unfold mk_f
  by_cases e : ms_all (fun m => mk_ev F E W L n even c m T) M = true
  · rw [if_pos e]; exact Nat.le_refl _
  · rw [if_neg e]; exact Nat.zero_le _
theorem mk_ch_b {co : Nat → Bool} {as : Nat → Nat} {F E : Nat → Nat} {W : Nat → Nat → Nat} {L M n : Nat} {even c : Nat → Nat} (has : ∀ l, as l ≤ 100) : mk_ch co as F E W L M n even c ≤ 100 ^ mk_k co as L := by
  unfold mk_ch
  rw [mk_R_asc, mk_asc_dsc]
  exact mk_dsc_b has mk_f_1 L _
/-- what a MULE bears hangs on its own LOADS alone -/
theorem mk_s_T {F E : Nat → Nat} {W : Nat → Nat → Nat} {n s i : Nat} {c : Nat → Nat} {T T' : Nat → Bool} : ∀ k, (∀ j, j < k → c j / 2 = s / 2 → T j = T' j) → ms_s (ms_v W (mk_O F E n T)) c s i k = ms_s (ms_v W (mk_O F E n T')) c s i k
  | 0, _ => rfl
  | k + 1, h => by
    show ms_s (ms_v W (mk_O F E n T)) c s i k + (if c k = s then ms_v W (mk_O F E n T) k i else 0) = ms_s (ms_v W (mk_O F E n T')) c s i k + (if c k = s then ms_v W (mk_O F E n T') k i else 0)
    rw [mk_s_T k (fun j hj => h j (by omega))]
    by_cases e : c k = s
    · have q := h k (by omega) (by rw [e])
      rw [if_pos e, if_pos e]
      unfold ms_v mk_O
      rw [q]
    · rw [if_neg e, if_neg e]
theorem mk_ev_T {F E : Nat → Nat} {W : Nat → Nat → Nat} {L n m : Nat} {even c : Nat → Nat} {T T' : Nat → Bool} (h : ∀ j, j < L → c j / 2 = m → T j = T' j) : mk_ev F E W L n even c m T = mk_ev F E W L n even c m T' := by
  unfold mk_ev
  have e0 : ∀ i, ms_s (ms_v W (mk_O F E n T)) c (2 * m) i L = ms_s (ms_v W (mk_O F E n T')) c (2 * m) i L := fun i => mk_s_T L (fun j hj hm => h j hj (by omega))
  have e1 : ∀ i, ms_s (ms_v W (mk_O F E n T)) c (2 * m + 1) i L = ms_s (ms_v W (mk_O F E n T')) c (2 * m + 1) i L := fun i => mk_s_T L (fun j hj hm => h j hj (by omega))
  have e : (fun i => decide (ms_d (ms_s (ms_v W (mk_O F E n T)) c (2 * m) i L) (ms_s (ms_v W (mk_O F E n T)) c (2 * m + 1) i L) ≤ even m)) = (fun i => decide (ms_d (ms_s (ms_v W (mk_O F E n T')) c (2 * m) i L) (ms_s (ms_v W (mk_O F E n T')) c (2 * m + 1) i L) ≤ even m)) := by
    funext i
    rw [e0, e1]
  rw [e]
theorem mk_ch_p {co : Nat → Bool} {as : Nat → Nat} {F E : Nat → Nat} {W : Nat → Nat → Nat} {L M n : Nat} {even c : Nat → Nat} (hc : ∀ l, l < L → c l < 2 * M) : mk_p (fun m => mk_c co as c (mk_ev F E W L n even c) m L 0 (fun _ => false)) M = mk_ch co as F E W L M n even c := (mk_prod (co := co) (as := as) (ev := mk_ev F E W L n even c) hc (fun m _ T T' h => mk_ev_T h) L 0 (fun _ => false) (Nat.zero_add L)).symm
/-- the reference's sum -/
theorem mk_ch_s {co : Nat → Bool} {as : Nat → Nat} {F E : Nat → Nat} {W : Nat → Nat → Nat} {L M n : Nat} {even c : Nat → Nat} (has : ∀ l, as l ≤ 100) : mk_sm (fun s => mk_w co as s L * mk_f F E W L M n even c (mk_T co as L s (fun _ => false))) (2 ^ mk_k co as L) = mk_ch co as F E W L M n even c := by
  rw [mk_sum (co := co) (as := as) (f := mk_f F E W L M n even c) has L (fun _ => false)]
  unfold mk_ch
  rw [mk_R_asc, mk_asc_dsc]
theorem mk_ch_c {co : Nat → Bool} {as : Nat → Nat} {F E : Nat → Nat} {W : Nat → Nat → Nat} {L M n : Nat} {even c r : Nat → Nat} (h : ∀ j, j < L → r j = c j) : mk_ch co as F E W L M n even r = mk_ch co as F E W L M n even c := by
  have e : mk_f F E W L M n even r = mk_f F E W L M n even c := by
    funext T
    unfold mk_f
    have e : (fun m => mk_ev F E W L n even r m T) = (fun m => mk_ev F E W L n even c m T) := by
      funext m
      unfold mk_ev
      have e : (fun i => decide (ms_d (ms_s (ms_v W (mk_O F E n T)) r (2 * m) i L) (ms_s (ms_v W (mk_O F E n T)) r (2 * m + 1) i L) ≤ even m)) = (fun i => decide (ms_d (ms_s (ms_v W (mk_O F E n T)) c (2 * m) i L) (ms_s (ms_v W (mk_O F E n T)) c (2 * m + 1) i L) ≤ even m)) := by
        funext i
        rw [ms_s_c L h, ms_s_c L h]
      rw [e]
    rw [e]
  unfold mk_ch
  rw [e]
theorem mk_al_iff {F E : Nat → Nat} {W : Nat → Nat → Nat} {L M n : Nat} {even c : Nat → Nat} {T : Nat → Bool} : ms_all (fun m => mk_ev F E W L n even c m T) M = true ↔ ∀ i, i < n → ∀ s, s < 2 * M → ms_s (ms_v W (mk_O F E n T)) c s i L ≤ ms_s (ms_v W (mk_O F E n T)) c (ms_f s) i L + even (s / 2) := by
  rw [ms_all_iff]
  constructor
  · intro h i hi s hs
    refine ms_sd (P := fun s => ms_s (ms_v W (mk_O F E n T)) c s i L ≤ ms_s (ms_v W (mk_O F E n T)) c (ms_f s) i L + even (s / 2)) (fun m hm => ?_) hs
    have q := of_decide_eq_true ((ms_all_iff n).mp (h m hm) i hi)
    unfold ms_d at q
    show ms_s (ms_v W (mk_O F E n T)) c (2 * m) i L ≤ ms_s (ms_v W (mk_O F E n T)) c (ms_f (2 * m)) i L + even (2 * m / 2) ∧ ms_s (ms_v W (mk_O F E n T)) c (2 * m + 1) i L ≤ ms_s (ms_v W (mk_O F E n T)) c (ms_f (2 * m + 1)) i L + even ((2 * m + 1) / 2)
    rw [ms_f_e, ms_f_o, show 2 * m / 2 = m by omega, show (2 * m + 1) / 2 = m by omega]
    omega
  · intro h m hm
    refine (ms_all_iff n).mpr (fun i hi => decide_eq_true ?_)
    have h0 := h i hi (2 * m) (by omega)
    have h1 := h i hi (2 * m + 1) (by omega)
    rw [ms_f_e, show 2 * m / 2 = m by omega] at h0
    rw [ms_f_o, show (2 * m + 1) / 2 = m by omega] at h1
    unfold ms_d
    omega
def mk_sym (cap most even : Nat → Nat) (M : Nat) (σ : Nat → Nat) : Prop := ms_sym cap most M σ ∧ ∀ s, s < 2 * M → even (σ s / 2) = even (s / 2)
theorem mk_al_g {cap most even : Nat → Nat} {F E : Nat → Nat} {W : Nat → Nat → Nat} {L M n : Nat} {c σ : Nat → Nat} {T : Nat → Bool} (h : mk_sym cap most even M σ) (q : ms_all (fun m => mk_ev F E W L n even c m T) M = true) : ms_all (fun m => mk_ev F E W L n even (fun j => σ (c j)) m T) M = true := by
  rw [mk_al_iff] at q ⊢
  intro i hi s hs
  have z := q i hi (σ s) (h.1.2.2.1 s hs)
  rw [ms_s_g h.1.1, ms_s_g h.1.1, h.1.2.1, ← h.2 s hs]
  exact z
theorem mk_ch_g {cap most even : Nat → Nat} {co : Nat → Bool} {as : Nat → Nat} {F E : Nat → Nat} {W : Nat → Nat → Nat} {L M n : Nat} {c σ : Nat → Nat} (h : mk_sym cap most even M σ) : mk_ch co as F E W L M n even (fun j => σ (c j)) = mk_ch co as F E W L M n even c := by
  have e : mk_f F E W L M n even (fun j => σ (c j)) = mk_f F E W L M n even c := by
    funext T
    unfold mk_f
    by_cases e : ms_all (fun m => mk_ev F E W L n even c m T) M = true
    · rw [if_pos e, if_pos (mk_al_g h e)]
    · rw [if_neg e, if_neg (fun q => e (by
        have := mk_al_g (c := fun j => σ (c j)) h q
        rw [ms_gg h.1.1] at this
        exact this))]
  unfold mk_ch
  rw [e]
theorem mk_rep_ok {cap most even : Nat → Nat} {L M : Nat} {al : Nat → Nat → Bool} (hal : ∀ k m, k < m → m < M → al k m = true → (cap (2 * k) = cap (2 * m) ∧ cap (2 * k + 1) = cap (2 * m + 1) ∧ most k = most m) ∧ even k = even m) (hev : ∀ m, m < M → even m ≤ 99) {l x : Nat} {c r : Nat → Nat} (hr : ms_rep cap al l c x = true) (hx : ms_x (2 * M) L (l + 1) (ms_u c l x) r) (hl : l < L) : ∃ r', ms_x (2 * M) L l c r' ∧ r' l < x ∧ ∃ σ, mk_sym cap most even M σ ∧ r' = fun j => σ (r j) := by
  obtain ⟨r', q1, q2, σ, q3, q4⟩ := ms_rep_ok (most := fun m => 100 * most m + even m) (fun k m h1 h2 h3 => by
    have := hal k m h1 h2 h3
    refine ⟨this.1.1, this.1.2.1, ?_⟩
    show 100 * most k + even k = 100 * most m + even m
    rw [this.1.2.2, this.2]) hr hx hl
  obtain ⟨s1, s2, s3, s4, s5⟩ := q3
  have key : ∀ s, s < 2 * M → most (σ s / 2) = most (s / 2) ∧ even (σ s / 2) = even (s / 2) := fun s hs => by
    have z := s5 s hs
    have h1 := hev (s / 2) (by omega)
    have h2 := hev (σ s / 2) (by have := s3 s hs; omega)
    have z2 : 100 * most (σ s / 2) + even (σ s / 2) = 100 * most (s / 2) + even (s / 2) := z
    omega
  exact ⟨r', q1, q2, σ, ⟨⟨s1, s2, s3, s4, fun s hs => (key s hs).1⟩, fun s hs => (key s hs).2⟩, q4⟩
/-- KEEP: the class's search and the reference's -/
theorem mk_keeps {co : Nat → Bool} {as : Nat → Nat} {F E : Nat → Nat} {W : Nat → Nat → Nat} {L M n : Nat} {cap most even : Nat → Nat} {al : Nat → Nat → Bool} {Jc : (Nat → Nat) → ms_S → ms_S} (hal : ∀ k m, k < m → m < M → al k m = true → (cap (2 * k) = cap (2 * m) ∧ cap (2 * k + 1) = cap (2 * m + 1) ∧ most k = most m) ∧ even k = even m) (hev : ∀ m, m < M → even m ≤ 99)
    (hJ : ∀ c s, Jc c s = ms_j true (mk_va co as F E W L M n even c) c s) (s : ms_S) (c : Nat → Nat) : ms_sk (2 * M) (ms_rep cap al) (ms_ok W (fs_O F E) cap most n) (fun _ _ b => decide (0 < b)) Jc L 0 c s = ms_tree (2 * M) (ms_J (ms_bor (ms_v W (fs_O F E)) (ms_v (fun _ _ => 1) (fs_O F E)) cap most L M n) (mk_va co as F E W L M n even)) L 0 c s := by
  refine ms_search (bor := ms_bor (ms_v W (fs_O F E)) (ms_v (fun _ _ => 1) (fs_O F E)) cap most L M n) (val := mk_va co as F E W L M n even) (fun c r h => ⟨ms_bor_c h, by unfold mk_va; rw [mk_ch_c h]⟩) (fun l c x r hl hr hx => ?_) (fun l c r hl h hx => ms_ok_no hl h hx) (fun l c b r hl h hx => ?_) (fun c h => ms_ok_all h) (fun l c c' h => ms_ok_c h) (fun c s hb => ?_) L 0 c s (by omega) (fun j hj => by omega) (fun j hj => by omega) (fun p r hp => by omega)
  · obtain ⟨r', q1, q2, σ, q3, rfl⟩ := mk_rep_ok (most := most) hal hev hr hx hl
    exact ⟨_, q1, q2, ms_bor_g q3.1, by unfold mk_va; rw [mk_ch_g q3]⟩
  · have := of_decide_eq_false h
    have : b = 0 := by omega
    rw [this]
    exact Nat.zero_le _
  · rw [hJ]
    unfold ms_J
    rw [hb]
end
section
-- 99.zql
/-! ===== KEEP, class: the search by chance ===== -/
def fk_v (C s : Nat) : Int64 := Int64.ofInt ((C : Int) - (s : Int))
theorem fk_vt {C s : Nat} (hC : C ≤ 1000000000000) (hs : s ≤ C + 1) : (fk_v C s).toInt = (C : Int) - (s : Int) := Int64.toInt_ofInt_of_le (by omega) (by omega)
theorem fk_vv {C a : Nat} (h : a ≤ C) : fk_v C (C - a) = Int64.ofNat a := by
  unfold fk_v
  rw [show (C : Int) - ((C - a : Nat) : Int) = ((a : Nat) : Int) by omega]
  exact Int64.ofInt_eq_ofNat
theorem fk_k3 : kd_rn (kd_ty 220) 3 = some kd_tJ ∧ kd_rn (kd_ty 220) 6 = some kd_tJ := ⟨by decide +kernel, by decide +kernel⟩
def fk_fr (h0 h : kc_H) : Prop := ∀ a x, ¬ (a = 220 ∧ x = 3) → ¬ (221 ≤ a ∧ a ≤ 235) → h a x = h0 a x
def fk_Z (B : Nat → Int32) (F E : Nat → Nat) (co : Nat → Bool) (W : Nat → Nat → Nat) (C L n : Nat) (h : kc_H) : Prop := fu_C B 1 h ∧ fs_G F E co W L n h ∧ h 220 5 = .inl (Int32.ofNat 1) ∧ h 220 6 = .inr (.inl (Int64.ofNat C))
def fk_H (h0 : kc_H) (F E : Nat → Nat) (W : Nat → Nat → Nat) (C L : Nat) (c : Nat → Nat) (l : Nat) (S : ms_S) (h : kc_H) : Prop := kd_wt kd_ty h ∧ fk_fr h0 h ∧ fs_bo (ms_v W (fs_O F E)) (ms_v (fun _ _ => 1) (fs_O F E)) c (fun _ => l) h ∧ (∀ j, j < l → h 222 j = .inl (Int32.ofNat (c j))) ∧ (∀ m, m < 3 → h 223 m = .inl (Int32.ofNat (ms_h c m l))) ∧ h 220 3 = .inr (.inl (fk_v C S.1)) ∧ ∀ j, j < L → h 221 j = .inl (Int32.ofNat (S.2 j))
theorem fk_Z_f {B : Nat → Int32} {F E : Nat → Nat} {co : Nat → Bool} {W : Nat → Nat → Nat} {C L n : Nat} {h0 h : kc_H} (hL : L ≤ 10) (hF : fk_fr h0 h) (hZ : fk_Z B F E co W C L n h0) : fk_Z B F E co W C L n h := ⟨fs_C_f (fun a x q => hF a x (by omega) (by omega)) hZ.1, fs_G_f hL (fun a x q1 q2 => hF a x (by omega) (by omega)) hZ.2.1, (hF 220 5 (by decide) (by decide)).trans hZ.2.2.1, (hF 220 6 (by decide) (by decide)).trans hZ.2.2.2⟩
theorem fk_H_c {h0 : kc_H} {F E : Nat → Nat} {W : Nat → Nat → Nat} {L : Nat} {c c' : Nat → Nat} {l : Nat} {S : ms_S} {C : Nat} {h : kc_H} (hc : ∀ j, j < l → c' j = c j) (hH : fk_H h0 F E W C L c l S h) : fk_H h0 F E W C L c' l S h := by
  obtain ⟨hw, hF, hbo, hr, hh, hbe, hfo⟩ := hH
  exact ⟨hw, hF, fs_bo_c hc hbo, fun j hj => by rw [hc j hj]; exact hr j hj, fun m hm => by rw [ms_h_c l hc]; exact hh m hm, hbe, hfo⟩
theorem fk_H_row {h0 : kc_H} {F E : Nat → Nat} {W : Nat → Nat → Nat} {L : Nat} {c : Nat → Nat} {l x : Nat} {S : ms_S} {C : Nat} {h : kc_H} (hl : l < 10) (hx : x < 6) (hH : fk_H h0 F E W C L c l S h) : fk_H h0 F E W C L (ms_u c l x) l S (kc_upd h 222 l (.inl (Int32.ofNat x))) := by
  obtain ⟨hw, hF, hbo, hr, hh, hbe, hfo⟩ := fk_H_c (c' := ms_u c l x) (fun j hj => ms_un (by omega)) hH
  exact ⟨fa_wn (fs_k2x.2.1 l hl) (show x ≤ 5 by omega) (by decide) hw, fun a y h1 h2 => (fu_ne (by omega)).trans (hF a y h1 h2), fs_bo_f (fun a y h1 h2 => fu_ne (by omega)) hbo, fun j hj => (fu_ne (by omega)).trans (hr j hj), fun m hm => (fu_ne (by omega)).trans (hh m hm), (fu_ne (by omega)).trans hbe, fun j hj => (fu_ne (by omega)).trans (hfo j hj)⟩
theorem fk_H_on {h0 : kc_H} {F E : Nat → Nat} {W : Nat → Nat → Nat} {L : Nat} {c : Nat → Nat} {l x : Nat} {S : ms_S} {C : Nat} {h h2 : kc_H} (hl : l < 10) (hcx : c l = x) (hx : x < 6) (hr0 : h 222 l = .inl (Int32.ofNat x)) (hH : fk_H h0 F E W C L c l S h) (hw2 : kd_wt kd_ty h2) (hbo2 : fs_bo (ms_v W (fs_O F E)) (ms_v (fun _ _ => 1) (fs_O F E)) c (fun _ => l + 1) h2) (hF2 : ∀ a y, ¬ (225 ≤ a ∧ a ≤ 235) → h2 a y = h a y) : fk_H h0 F E W C L c (l + 1) S (kc_upd h2 223 (x / 2) (.inl (Int32.ofNat (ms_h c (x / 2) (l + 1))))) := by
  obtain ⟨hw, hF, hbo, hr, hh, hbe, hfo⟩ := hH
  refine ⟨fa_wa (fs_k2x.2.2.1 (x / 2) (by omega)) hw2, fun a y h1 h3 => (fu_ne (by omega)).trans ((hF2 a y (by omega)).trans (hF a y h1 h3)), fs_bo_f (fun a y h1 h3 => fu_ne (by omega)) hbo2, fun j hj => ?_, fun m hm => ?_, (fu_ne (by omega)).trans ((hF2 _ _ (by decide)).trans hbe), fun j hj => (fu_ne (by omega)).trans ((hF2 _ _ (by decide)).trans (hfo j hj))⟩
  · rw [fu_ne (by omega), hF2 _ _ (by decide)]
    by_cases e : j = l
    · rw [e, hr0, hcx]
    · exact hr j (by omega)
  · by_cases e : m = x / 2
    · rw [e, fu_eq]
    · rw [fu_ne (fun q => e q.2), hF2 _ _ (by decide), hh m hm]
      have : ms_h c m (l + 1) = ms_h c m l := by
        show ms_h c m l + (if c l / 2 = m then 1 else 0) = _
        rw [if_neg (by rw [hcx]; omega), Nat.add_zero]
      rw [this]
theorem fk_H_off {h0 : kc_H} {F E : Nat → Nat} {W : Nat → Nat → Nat} {L : Nat} {c : Nat → Nat} {l x : Nat} {S : ms_S} {C : Nat} {h h2 : kc_H} (hcx : c l = x) (hx : x < 6) (hH : fk_H h0 F E W C L c (l + 1) S h) (hw2 : kd_wt kd_ty h2) (hbo2 : fs_bo (ms_v W (fs_O F E)) (ms_v (fun _ _ => 1) (fs_O F E)) c (fun _ => l) h2) (hF2 : ∀ a y, ¬ (225 ≤ a ∧ a ≤ 235) → h2 a y = kc_upd h 223 (x / 2) (.inl (Int32.ofNat (ms_h c (x / 2) l))) a y) : fk_H h0 F E W C L c l S h2 := by
  obtain ⟨hw, hF, hbo, hr, hh, hbe, hfo⟩ := hH
  refine ⟨hw2, fun a y h1 h3 => (hF2 a y (by omega)).trans ((fu_ne (by omega)).trans (hF a y h1 h3)), hbo2, fun j hj => (hF2 _ _ (by decide)).trans ((fu_ne (by omega)).trans (hr j (by omega))), fun m hm => ?_, (hF2 _ _ (by decide)).trans ((fu_ne (by omega)).trans hbe), fun j hj => (hF2 _ _ (by decide)).trans ((fu_ne (by omega)).trans (hfo j hj))⟩
  rw [hF2 _ _ (by decide)]
  by_cases e : m = x / 2
  · rw [e, fu_eq]
  · rw [fu_ne (fun q => e q.2), hh m hm]
    have : ms_h c m (l + 1) = ms_h c m l := by
      show ms_h c m l + (if c l / 2 = m then 1 else 0) = _
      rw [if_neg (by rw [hcx]; omega), Nat.add_zero]
    rw [this]
def fk_Jc (B : Nat → Int32) (F E : Nat → Nat) (co : Nat → Bool) (W : Nat → Nat → Nat) (L M n : Nat) (c : Nat → Nat) (S : ms_S) : ms_S := ms_j true (mk_va co (fs_as B) F E W L M n (fs_ev B) c) c S
def fk_sk (B : Nat → Int32) (F E : Nat → Nat) (co : Nat → Bool) (W : Nat → Nat → Nat) (L M n : Nat) : Nat → Nat → (Nat → Nat) → ms_S → ms_S := ms_sk (2 * M) (ms_rep (fs_cap B) (fs_al B)) (ms_ok W (fs_O F E) (fs_cap B) (fs_most B) n) (fun _ _ b => decide (0 < b)) (fk_Jc B F E co W L M n)
def fk_sb1 (B : Nat → Int32) (F E : Nat → Nat) (co : Nat → Bool) (W : Nat → Nat → Nat) (L M n k l : Nat) (c : Nat → Nat) (x : Nat) (s : ms_S) : ms_S := if ms_rep (fs_cap B) (fs_al B) l c x = true then s else if ms_ok W (fs_O F E) (fs_cap B) (fs_most B) n l (ms_u c l x) = true ∧ decide (0 < s.1) = true then fk_sk B F E co W L M n k (l + 1) (ms_u c l x) s else s
theorem fk_sb1_r {B : Nat → Int32} {F E : Nat → Nat} {co : Nat → Bool} {W : Nat → Nat → Nat} {L M n k l : Nat} {c : Nat → Nat} {x : Nat} {s : ms_S} (e : ms_rep (fs_cap B) (fs_al B) l c x = true) : fk_sb1 B F E co W L M n k l c x s = s := if_pos e
theorem fk_sb1_n {B : Nat → Int32} {F E : Nat → Nat} {co : Nat → Bool} {W : Nat → Nat → Nat} {L M n k l : Nat} {c : Nat → Nat} {x : Nat} {s : ms_S} (e : ms_rep (fs_cap B) (fs_al B) l c x = false) (e2 : ¬ (ms_ok W (fs_O F E) (fs_cap B) (fs_most B) n l (ms_u c l x) = true ∧ decide (0 < s.1) = true)) : fk_sb1 B F E co W L M n k l c x s = s := by
  unfold fk_sb1
  rw [if_neg (by rw [e]; decide), if_neg e2]
theorem fk_sb1_g {B : Nat → Int32} {F E : Nat → Nat} {co : Nat → Bool} {W : Nat → Nat → Nat} {L M n k l : Nat} {c : Nat → Nat} {x : Nat} {s : ms_S} (e : ms_rep (fs_cap B) (fs_al B) l c x = false) (e2 : ms_ok W (fs_O F E) (fs_cap B) (fs_most B) n l (ms_u c l x) = true ∧ decide (0 < s.1) = true) : fk_sb1 B F E co W L M n k l c x s = fk_sk B F E co W L M n k (l + 1) (ms_u c l x) s := by
  unfold fk_sb1
  rw [if_neg (by rw [e]; decide), if_pos e2]
theorem fk_sb1_le {B : Nat → Int32} {F E : Nat → Nat} {co : Nat → Bool} {W : Nat → Nat → Nat} {L M n k l : Nat} {c : Nat → Nat} {x : Nat} {s : ms_S} : (fk_sb1 B F E co W L M n k l c x s).1 ≤ s.1 := by
  unfold fk_sb1
  by_cases e1 : ms_rep (fs_cap B) (fs_al B) l c x = true
  · rw [if_pos e1]; exact Nat.le_refl _
  · rw [if_neg e1]
    by_cases e2 : ms_ok W (fs_O F E) (fs_cap B) (fs_most B) n l (ms_u c l x) = true ∧ decide (0 < s.1) = true
    · rw [if_pos e2]; exact ms_sk_le (fun _ _ => ms_j_le) k (l + 1) _ s
    · rw [if_neg e2]; exact Nat.le_refl _
set_option maxRecDepth 20000 in
theorem fk_c119 {g : kc_G} {d : Nat} {h0 : kc_H} {h : kc_H} {B : Nat → Int32} {M C : Nat} {F E : Nat → Nat} {co : Nat → Bool} {W : Nat → Nat → Nat} {L n : Nat} {c : Nat → Nat} {S : ms_S} (hg : kc_ok g) (hB : fu_BT B) (hb : fs_Gb F E co W L n) (eL : B 2 = Int32.ofNat L) (hZ : fk_Z B F E co W C L n h0) (hM : M ≤ 3) (eM : B 1 = Int32.ofNat M) (eC : C = 100 ^ mk_k co (fs_as B) L) (hC12 : C ≤ 1000000000000) (hS : S.1 ≤ C + 1) (hcM : ∀ j, j < L → c j < 2 * M) (hH : fk_H h0 F E W C L c L S h) : kc_Con g (d + L + 5) 119 [.inr (.inr (.inl (some 220)))] h (fun rv h' => rv = none ∧ fk_H h0 F E W C L c L (fk_Jc B F E co W L M n c S) h') := by
  have hn := hb.1
  have hL := hb.2.1
  have hZ2 := fk_Z_f hL hH.2.1 hZ
  obtain ⟨hw, hF, hbo, hr, hh, hbe, hfo⟩ := hH
  have hch : mk_ch co (fs_as B) F E W L M n (fs_ev B) c ≤ C := by rw [eC]; exact mk_ch_b (fs_asl hB)
  have eva : mk_va co (fs_as B) F E W L M n (fs_ev B) c = C - mk_ch co (fs_as B) F E W L M n (fs_ev B) c := by unfold mk_va; rw [eC]
  have hv := fk_vt hC12 hS
  have hct : (Int64.ofNat (mk_ch co (fs_as B) F E W L M n (fs_ev B) c)).toInt = ((mk_ch co (fs_as B) F E W L M n (fs_ev B) c : Nat) : Int) := kx_tj (by omega)
  have hbq : fs_bq (fun i s => ms_s (ms_v W (mk_O F E n (fun _ => false))) c s i L) (fun i s => ms_s (ms_v (fun _ _ => 1) (mk_O F E n (fun _ => false))) c s i L) h := by
    rw [mk_O0]
    exact fun i hi s hs => hbo i hi s hs
  have hrow : ∀ j, j < L → h 222 j = .inl (Int32.ofNat (c j)) ∧ c j < 6 := fun j hj => ⟨hr j hj, by have := hcM j hj; omega⟩
  have H141 := fs_c141 (g := g) (d := d) (M := M) hg hB hb eL hM eM hZ2.1 hZ2.2.1 hrow (fun m _ => by
    have := mk_pc_b (co := co) (c := c) (ev := mk_ev F E W L n (fs_ev B) c) (L := L) (M := m) (T := fun _ => false) (fs_asl hB)
    rw [← eC] at this
    omega) hw hbq
  rw [mk_ch_p hcM, mk_O0] at H141
  refine kc_Con_new hg (M := wk_m119) rfl rfl rfl (show 1 ≤ 3 by decide) ?_
  refine kx_go 1 (pc' := 1) (L' := [(0, .inr (.inr (.inl (some 220))))]) (S' := [.inr (.inr (.inl (some 220)))]) (h' := h) (by with_unfolding_all rfl) ?_
  refine kx_getf (c := 220) (v := .inl (Int32.ofNat 1)) rfl (by decide) hZ2.2.2.1 ?_
  refine kx_go 1 (pc' := (if kc_cnd .eq (Int32.ofNat 1).toInt 0 then 30 else 7)) (L' := [(0, .inr (.inr (.inl (some 220))))]) (S' := []) (h' := h) (by with_unfolding_all rfl) ?_
  rw [if_neg (fun q => absurd (fu_ieq.mp q) (by decide))]
  refine kx_go 1 (pc' := 8) (L' := [(0, .inr (.inr (.inl (some 220))))]) (S' := [.inr (.inr (.inl (some 220)))]) (h' := h) (by with_unfolding_all rfl) ?_
  refine kc_call_rule (M2 := wk_m141) (av := [.inr (.inr (.inl (some 220)))]) (r := []) rfl rfl (kc_Con_le (H141) (by omega)) (fun rv h2 hq => ?_)
  obtain ⟨rfl, hw2, hbq2, hF2⟩ := hq
  show kc_Ev g (d + L + 4) wk_m119 _ 11 [(0, .inr (.inr (.inl (some 220))))] [.inr (.inl (Int64.ofNat (mk_ch co (fs_as B) F E W L M n (fs_ev B) c)))] h2
  have hbe2 : h2 220 3 = .inr (.inl (fk_v C S.1)) := (hF2 _ _ (by decide)).trans hbe
  have hbo2 : fs_bo (ms_v W (fs_O F E)) (ms_v (fun _ _ => 1) (fs_O F E)) c (fun _ => L) h2 := fun i hi s hs => hbq2 i hi s hs
  have hH2 : fk_H h0 F E W C L c L S h2 := ⟨hw2, fun a x h1 h3 => (hF2 a x (by omega)).trans (hF a x h1 h3), hbo2, fun j hj => (hF2 _ _ (by decide)).trans (hr j hj), fun m hm => (hF2 _ _ (by decide)).trans (hh m hm), hbe2, fun j hj => (hF2 _ _ (by decide)).trans (hfo j hj)⟩
  refine kx_go 3 (pc' := 14) (L' := [(1, .inr (.inl (Int64.ofNat (mk_ch co (fs_as B) F E W L M n (fs_ev B) c)))), (0, .inr (.inr (.inl (some 220))))]) (S' := [.inr (.inr (.inl (some 220))), .inr (.inl (Int64.ofNat (mk_ch co (fs_as B) F E W L M n (fs_ev B) c)))]) (h' := h2) (by with_unfolding_all rfl) ?_
  refine kx_getf (c := 220) (v := .inr (.inl (fk_v C S.1))) rfl (by decide) hbe2 ?_
  refine kx_go 2 (pc' := (if kc_cnd .gt (kc_lcmp (Int64.ofNat (mk_ch co (fs_as B) F E W L M n (fs_ev B) c)) (fk_v C S.1)).toInt 0 then 22 else 21)) (L' := [(1, .inr (.inl (Int64.ofNat (mk_ch co (fs_as B) F E W L M n (fs_ev B) c)))), (0, .inr (.inr (.inl (some 220))))]) (S' := []) (h' := h2) (by with_unfolding_all rfl) ?_
  by_cases q0 : mk_va co (fs_as B) F E W L M n (fs_ev B) c < S.1
  · rw [if_pos (fs_lgt.mpr (by rw [hv, hct]; omega))]
    refine kx_go 2 (pc' := 24) (L' := [(1, .inr (.inl (Int64.ofNat (mk_ch co (fs_as B) F E W L M n (fs_ev B) c)))), (0, .inr (.inr (.inl (some 220))))]) (S' := [.inr (.inl (Int64.ofNat (mk_ch co (fs_as B) F E W L M n (fs_ev B) c))), .inr (.inr (.inl (some 220)))]) (h' := h2) (by with_unfolding_all rfl) ?_
    have hw3 : kd_wt kd_ty (kc_upd h2 220 3 (.inr (.inl (Int64.ofNat (mk_ch co (fs_as B) F E W L M n (fs_ev B) c))))) := kf_wtJ fk_k3.1 hw2
    refine kx_go 1 (pc' := 27) (L' := [(1, .inr (.inl (Int64.ofNat (mk_ch co (fs_as B) F E W L M n (fs_ev B) c)))), (0, .inr (.inr (.inl (some 220))))]) (S' := []) (h' := (kc_upd h2 220 3 (.inr (.inl (Int64.ofNat (mk_ch co (fs_as B) F E W L M n (fs_ev B) c)))))) (by with_unfolding_all rfl) ?_
    refine kx_go 2 (pc' := 50) (L' := [(1, .inr (.inl (Int64.ofNat (mk_ch co (fs_as B) F E W L M n (fs_ev B) c)))), (0, .inr (.inr (.inl (some 220))))]) (S' := [.inr (.inr (.inl (some 220)))]) (h' := (kc_upd h2 220 3 (.inr (.inl (Int64.ofNat (mk_ch co (fs_as B) F E W L M n (fs_ev B) c)))))) (by with_unfolding_all rfl) ?_
    refine kx_getf (c := 220) (v := .inr (.inr (.inl (some 222)))) rfl (by decide) (kx_ofr (hw3 _ _ _ fs_k220_7)) ?_
    refine kx_go 2 (pc' := 55) (L' := [(1, .inr (.inl (Int64.ofNat (mk_ch co (fs_as B) F E W L M n (fs_ev B) c)))), (0, .inr (.inr (.inl (some 220))))]) (S' := [.inr (.inr (.inl (some 220))), .inl (Int32.ofNat 0), .inr (.inr (.inl (some 222)))]) (h' := (kc_upd h2 220 3 (.inr (.inl (Int64.ofNat (mk_ch co (fs_as B) F E W L M n (fs_ev B) c)))))) (by with_unfolding_all rfl) ?_
    refine kx_getf (c := 220) (v := .inr (.inr (.inl (some 221)))) rfl (by decide) (kx_ofr (hw3 _ _ _ fs_k220_4)) ?_
    refine kx_go 2 (pc' := 61) (L' := [(1, .inr (.inl (Int64.ofNat (mk_ch co (fs_as B) F E W L M n (fs_ev B) c)))), (0, .inr (.inr (.inl (some 220))))]) (S' := [.inl (Int32.ofNat 10), .inl (Int32.ofNat 0), .inr (.inr (.inl (some 221))), .inl (Int32.ofNat 0), .inr (.inr (.inl (some 222)))]) (h' := (kc_upd h2 220 3 (.inr (.inl (Int64.ofNat (mk_ch co (fs_as B) F E W L M n (fs_ev B) c)))))) (by with_unfolding_all rfl) ?_
    refine kc_heap_ok rfl (dd := 3) (AS' := []) (h' := kc_cpy (kc_upd h2 220 3 (.inr (.inl (Int64.ofNat (mk_ch co (fs_as B) F E W L M n (fs_ev B) c))))) 221 222 10) (by with_unfolding_all rfl) ?_
    have eS : fk_Jc B F E co W L M n c S = (mk_va co (fs_as B) F E W L M n (fs_ev B) c, c) := if_pos ⟨rfl, q0⟩
    obtain ⟨-, hF2', -, hr2, hh2, -, hfo2⟩ := hH2
    refine kc_ret_ok rfl (rv := none) rfl ⟨rfl, ?_⟩
    rw [eS]
    refine ⟨fs_cp_wt hw3 (fun i hi => by rw [fs_k2x.1 i hi, fs_k2x.2.1 i hi]), fun a x h1 h3 => (fs_cp_o (by omega)).trans ((fu_ne h1).trans (hF2' a x h1 h3)), fs_bo_f (fun a x h1 h3 => (fs_cp_o (by omega)).trans (fu_ne (by omega))) hbo2, fun j hj => (fs_cp_o (by decide)).trans ((fu_ne (by omega)).trans (hr2 j hj)), fun m hm => (fs_cp_o (by decide)).trans ((fu_ne (by omega)).trans (hh2 m hm)), (fs_cp_o (by decide)).trans (fu_eq.trans ?_), fun j hj => (fs_cp_i (by omega)).trans ((fu_ne (by omega)).trans (hr2 j hj))⟩
    show _ = Sum.inr (Sum.inl (fk_v C (mk_va co (fs_as B) F E W L M n (fs_ev B) c)))
    rw [eva, fk_vv hch]
  · rw [if_neg (fun q => q0 (by have := fs_lgt.mp q; rw [hv, hct] at this; omega))]
    have eS : fk_Jc B F E co W L M n c S = S := if_neg (fun q => q0 q.2)
    refine kc_ret_ok rfl (rv := none) rfl ⟨rfl, ?_⟩
    rw [eS]
    exact hH2
set_option maxRecDepth 20000 in
theorem fk_c212 {g : kc_G} {d : Nat} {h : kc_H} {C s : Nat} {a : Int32} (hg : kc_ok g) (h5 : h 220 5 = .inl (Int32.ofNat 1)) (h3 : h 220 3 = .inr (.inl (fk_v C s))) (h6 : h 220 6 = .inr (.inl (Int64.ofNat C))) (hC12 : C ≤ 1000000000000) (hs : s ≤ C + 1) : kc_Con g (d + 1) 212 [.inr (.inr (.inl (some 220))), .inl a] h (fun rv h' => rv = some (.inl (kp_b (decide (0 < s)))) ∧ h' = h) := by
  have hv := fk_vt hC12 hs
  have hct : (Int64.ofNat C).toInt = ((C : Nat) : Int) := kx_tj (by omega)
  refine kc_Con_new hg (M := wk_m212) rfl rfl rfl (show 2 ≤ 6 by decide) ?_
  refine kx_go 1 (pc' := 1) (L' := [(0, .inr (.inr (.inl (some 220)))), (1, .inl (a))]) (S' := [.inr (.inr (.inl (some 220)))]) (h' := h) (by with_unfolding_all rfl) ?_
  refine kx_getf (c := 220) (v := .inl (Int32.ofNat 1)) rfl (by decide) h5 ?_
  refine kx_go 1 (pc' := (if kc_cnd .eq (Int32.ofNat 1).toInt 0 then 25 else 7)) (L' := [(0, .inr (.inr (.inl (some 220)))), (1, .inl (a))]) (S' := []) (h' := h) (by with_unfolding_all rfl) ?_
  rw [if_neg (fun q => absurd (fu_ieq.mp q) (by decide))]
  refine kx_go 1 (pc' := 8) (L' := [(0, .inr (.inr (.inl (some 220)))), (1, .inl (a))]) (S' := [.inr (.inr (.inl (some 220)))]) (h' := h) (by with_unfolding_all rfl) ?_
  refine kx_getf (c := 220) (v := .inr (.inl (fk_v C s))) rfl (by decide) h3 ?_
  refine kx_go 1 (pc' := 12) (L' := [(0, .inr (.inr (.inl (some 220)))), (1, .inl (a))]) (S' := [.inr (.inr (.inl (some 220))), .inr (.inl (fk_v C s))]) (h' := h) (by with_unfolding_all rfl) ?_
  refine kx_getf (c := 220) (v := .inr (.inl (Int64.ofNat C))) rfl (by decide) h6 ?_
  refine kx_go 2 (pc' := (if kc_cnd .ge (kc_lcmp (fk_v C s) (Int64.ofNat C)).toInt 0 then 23 else 19)) (L' := [(0, .inr (.inr (.inl (some 220)))), (1, .inl (a))]) (S' := []) (h' := h) (by with_unfolding_all rfl) ?_
  by_cases c : 0 < s
  · rw [decide_eq_true c, if_neg (fun q => (fs_lge.mp q) (by rw [hv, hct]; omega))]
    refine kx_go 2 (pc' := 24) (L' := [(0, .inr (.inr (.inl (some 220)))), (1, .inl (a))]) (S' := [.inl (Int32.ofNat 1)]) (h' := h) (by with_unfolding_all rfl) ?_
    exact kc_ret_ok rfl (rv := some (.inl (Int32.ofNat 1))) rfl ⟨rfl, rfl⟩
  · rw [decide_eq_false c, if_pos (fs_lge.mpr (by rw [hv, hct]; omega))]
    refine kx_go 1 (pc' := 24) (L' := [(0, .inr (.inr (.inl (some 220)))), (1, .inl (a))]) (S' := [.inl (Int32.ofNat 0)]) (h' := h) (by with_unfolding_all rfl) ?_
    exact kc_ret_ok rfl (rv := some (.inl (Int32.ofNat 0))) rfl ⟨rfl, rfl⟩
set_option maxRecDepth 20000 in
theorem fk_c118 {g : kc_G} {d : Nat} {h0 : kc_H} {B : Nat → Int32} {M C : Nat} {F E : Nat → Nat} {co : Nat → Bool} {W : Nat → Nat → Nat} {L n : Nat} (hg : kc_ok g) (hB : fu_BT B) (hb : fs_Gb F E co W L n) (hZ : fk_Z B F E co W C L n h0) (hM : M ≤ 3) (eM : B 1 = Int32.ofNat M) (eC : C = 100 ^ mk_k co (fs_as B) L) (hC12 : C ≤ 1000000000000) (eL : B 2 = Int32.ofNat L) : ∀ (k l : Nat) (c : Nat → Nat) (S : ms_S) (h : kc_H), l + k = L → (∀ j, j < l → c j < 2 * M) → S.1 ≤ C + 1 → fk_H h0 F E W C L c l S h → kc_Con g (d + L + k + 6) 118 [.inr (.inr (.inl (some 220))), .inl (Int32.ofNat l)] h (fun rv h' => rv = none ∧ fk_H h0 F E W C L c l (fk_sk B F E co W L M n k l c S) h') := by
  intro k
  induction k with
  | zero =>
    intro l c S h hl hc hS hH
    obtain rfl : l = L := by omega
    have hL := hb.2.1
    have hZ2 := fk_Z_f hL hH.2.1 hZ
    have hw := hH.1
    refine kc_Con_new hg (M := wk_m118) rfl rfl rfl (show 2 ≤ 5 by decide) ?_
    refine kx_go 2 (pc' := 2) (L' := [(0, .inr (.inr (.inl (some 220)))), (1, .inl (Int32.ofNat l))]) (S' := [.inr (.inr (.inl (some 220))), .inl (Int32.ofNat l)]) (h' := h) (by with_unfolding_all rfl) ?_
    refine kx_getf (c := 220) (v := .inr (.inr (.inl (some 1)))) rfl (by decide) (kx_ofr (hw _ _ _ fs_k220_0)) ?_
    refine kx_getf (c := 1) (v := .inl (Int32.ofNat l)) rfl (by decide) ((fu_C0 hZ2.1).2.2.1.trans (by rw [eL])) ?_
    refine kx_go 1 (pc' := (if kc_cnd .lt (Int32.ofNat l).toInt (Int32.ofNat l).toInt then 16 else 11)) (L' := [(0, .inr (.inr (.inl (some 220)))), (1, .inl (Int32.ofNat l))]) (S' := []) (h' := h) (by with_unfolding_all rfl) ?_
    rw [if_neg (fun q => by have := (kx_lt (by omega) (by omega)).mp q; omega)]
    refine kx_go 1 (pc' := 12) (L' := [(0, .inr (.inr (.inl (some 220)))), (1, .inl (Int32.ofNat l))]) (S' := [.inr (.inr (.inl (some 220)))]) (h' := h) (by with_unfolding_all rfl) ?_
    refine kc_call_rule (M2 := wk_m119) (av := [.inr (.inr (.inl (some 220)))]) (r := []) rfl rfl (kc_Con_le (fk_c119 (d := d) hg hB hb eL hZ hM eM eC hC12 hS hc hH) (by omega)) (fun rv h2 hq => ?_)
    obtain ⟨rfl, H2⟩ := hq
    show kc_Ev g (d + l + 0 + 5) wk_m118 _ 15 [(0, .inr (.inr (.inl (some 220)))), (1, .inl (Int32.ofNat l))] [] h2
    exact kc_ret_ok rfl (rv := none) rfl ⟨rfl, H2⟩
  | succ k ih =>
    intro l c S h hl hc hS hH
    have hL := hb.2.1
    have hlL : l < L := by omega
    have kl := hb.2.2.1 l hlL
    have hn := hb.1
    have loop : ∀ (u x : Nat) (h : kc_H), 2 * M - x = u → x ≤ 2 * M → fk_H h0 F E W C L c l (ms_for (fk_sb1 B F E co W L M n k l c) x S) h → kc_Ev g (d + L + (k + 1) + 5) wk_m118 (fun rv h' => rv = none ∧ fk_H h0 F E W C L c l (fk_sk B F E co W L M n (k + 1) l c S) h') 37 [(4, .inl (Int32.ofNat x)), (3, .inl (Int32.ofNat (E l))), (2, .inl (Int32.ofNat (F l))), (0, .inr (.inr (.inl (some 220)))), (1, .inl (Int32.ofNat l))] [] h := by
      intro u
      induction u with
      | zero =>
        intro x h hu hx hH
        have hZ2 := fk_Z_f hL hH.2.1 hZ
        have hw := hH.1
        refine kx_go 3 (pc' := 41) (L' := [(4, .inl (Int32.ofNat x)), (3, .inl (Int32.ofNat (E l))), (2, .inl (Int32.ofNat (F l))), (0, .inr (.inr (.inl (some 220)))), (1, .inl (Int32.ofNat l))]) (S' := [.inr (.inr (.inl (some 220))), .inl (Int32.ofNat 2), .inl (Int32.ofNat x)]) (h' := h) (by with_unfolding_all rfl) ?_
        refine kx_getf (c := 220) (v := .inr (.inr (.inl (some 1)))) rfl (by decide) (kx_ofr (hw _ _ _ fs_k220_0)) ?_
        refine kx_getf (c := 1) (v := .inl (Int32.ofNat M)) rfl (by decide) ((fu_C0 hZ2.1).2.1.trans (by rw [eM])) ?_
        refine kx_go 2 (pc' := (if kc_cnd .ge (Int32.ofNat x).toInt ((Int32.ofNat 2) * (Int32.ofNat M)).toInt then 142 else 51)) (L' := [(4, .inl (Int32.ofNat x)), (3, .inl (Int32.ofNat (E l))), (2, .inl (Int32.ofNat (F l))), (0, .inr (.inr (.inl (some 220)))), (1, .inl (Int32.ofNat l))]) (S' := []) (h' := h) (by with_unfolding_all rfl) ?_
        rw [kx_mul]
        rw [if_pos ((kx_ge (by omega) (by omega)).mpr (by omega))]
        have ex : x = 2 * M := by omega
        rw [ex] at hH
        exact kc_ret_ok rfl (rv := none) rfl ⟨rfl, hH⟩
      | succ u ihu =>
        intro x h hu hx hH
        have hZ2 := fk_Z_f hL hH.2.1 hZ
        have hw := hH.1
        refine kx_go 3 (pc' := 41) (L' := [(4, .inl (Int32.ofNat x)), (3, .inl (Int32.ofNat (E l))), (2, .inl (Int32.ofNat (F l))), (0, .inr (.inr (.inl (some 220)))), (1, .inl (Int32.ofNat l))]) (S' := [.inr (.inr (.inl (some 220))), .inl (Int32.ofNat 2), .inl (Int32.ofNat x)]) (h' := h) (by with_unfolding_all rfl) ?_
        refine kx_getf (c := 220) (v := .inr (.inr (.inl (some 1)))) rfl (by decide) (kx_ofr (hw _ _ _ fs_k220_0)) ?_
        refine kx_getf (c := 1) (v := .inl (Int32.ofNat M)) rfl (by decide) ((fu_C0 hZ2.1).2.1.trans (by rw [eM])) ?_
        refine kx_go 2 (pc' := (if kc_cnd .ge (Int32.ofNat x).toInt ((Int32.ofNat 2) * (Int32.ofNat M)).toInt then 142 else 51)) (L' := [(4, .inl (Int32.ofNat x)), (3, .inl (Int32.ofNat (E l))), (2, .inl (Int32.ofNat (F l))), (0, .inr (.inr (.inl (some 220)))), (1, .inl (Int32.ofNat l))]) (S' := []) (h' := h) (by with_unfolding_all rfl) ?_
        rw [kx_mul]
        rw [if_neg (fun q => by have := (kx_ge (by omega) (by omega)).mp q; omega)]
        have hx6 : x < 6 := by omega
        have hSx : (ms_for (fk_sb1 B F E co W L M n k l c) x S).1 ≤ C + 1 := Nat.le_trans (ms_for_ind (fun _ t => t.1 ≤ S.1) S (Nat.le_refl _) x (fun y t _ hP => Nat.le_trans fk_sb1_le hP)) hS
        have hhl := ms_h_le (c := c) (m := x / 2) l
        have next : ∀ (h : kc_H), fk_H h0 F E W C L c l (fk_sb1 B F E co W L M n k l c x (ms_for (fk_sb1 B F E co W L M n k l c) x S)) h → kc_Ev g (d + L + (k + 1) + 5) wk_m118 (fun rv h' => rv = none ∧ fk_H h0 F E W C L c l (fk_sk B F E co W L M n (k + 1) l c S) h') 136 [(4, .inl (Int32.ofNat x)), (3, .inl (Int32.ofNat (E l))), (2, .inl (Int32.ofNat (F l))), (0, .inr (.inr (.inl (some 220)))), (1, .inl (Int32.ofNat l))] [] h := by
          intro h hH
          refine kx_go 2 (pc' := 37) (L' := [(4, .inl ((Int32.ofNat x) + Int32.ofInt 1)), (3, .inl (Int32.ofNat (E l))), (2, .inl (Int32.ofNat (F l))), (0, .inr (.inr (.inl (some 220)))), (1, .inl (Int32.ofNat l))]) (S' := []) (h' := h) (by with_unfolding_all rfl) ?_
          rw [kx_inc]
          exact ihu (x + 1) h (by omega) (by omega) hH
        refine kx_go 2 (pc' := 54) (L' := [(4, .inl (Int32.ofNat x)), (3, .inl (Int32.ofNat (E l))), (2, .inl (Int32.ofNat (F l))), (0, .inr (.inr (.inl (some 220)))), (1, .inl (Int32.ofNat l))]) (S' := [.inl (Int32.ofNat x), .inr (.inr (.inl (some 220)))]) (h' := h) (by with_unfolding_all rfl) ?_
        refine kc_call_rule (M2 := wk_m210) (av := [.inr (.inr (.inl (some 220))), .inl (Int32.ofNat x)]) (r := []) rfl rfl (kc_Con_le (fs_c210 (d := d) hg hw hZ2.1 hB hx6 (show l ≤ 10 by omega) hH.2.2.2.2.1) (by omega)) (fun rv hcc hq => ?_)
        obtain ⟨rfl, e9⟩ := hq
        rw [e9]
        clear e9
        show kc_Ev g (d + L + (k + 1) + 5) wk_m118 _ 57 [(4, .inl (Int32.ofNat x)), (3, .inl (Int32.ofNat (E l))), (2, .inl (Int32.ofNat (F l))), (0, .inr (.inr (.inl (some 220)))), (1, .inl (Int32.ofNat l))] [.inl (kp_b (ms_rep (fs_cap B) (fs_al B) l c x))] h
        refine kx_go 1 (pc' := (if kc_cnd .eq (kp_b (ms_rep (fs_cap B) (fs_al B) l c x)).toInt 0 then 63 else 60)) (L' := [(4, .inl (Int32.ofNat x)), (3, .inl (Int32.ofNat (E l))), (2, .inl (Int32.ofNat (F l))), (0, .inr (.inr (.inl (some 220)))), (1, .inl (Int32.ofNat l))]) (S' := []) (h' := h) (by with_unfolding_all rfl) ?_
        cases e1 : ms_rep (fs_cap B) (fs_al B) l c x with
        | true =>
          rw [if_neg fa_b0t]
          refine kx_go 1 (pc' := 136) (L' := [(4, .inl (Int32.ofNat x)), (3, .inl (Int32.ofNat (E l))), (2, .inl (Int32.ofNat (F l))), (0, .inr (.inr (.inl (some 220)))), (1, .inl (Int32.ofNat l))]) (S' := []) (h' := h) (by with_unfolding_all rfl) ?_
          exact next h (by rw [fk_sb1_r e1]; exact hH)
        | false =>
          rw [if_pos (kx_b0.mpr rfl)]
          have off : ∀ (h : kc_H) (S2 : ms_S), fk_H h0 F E W C L (ms_u c l x) (l + 1) S2 h → fk_sb1 B F E co W L M n k l c x (ms_for (fk_sb1 B F E co W L M n k l c) x S) = S2 → kc_Ev g (d + L + (k + 1) + 5) wk_m118 (fun rv h' => rv = none ∧ fk_H h0 F E W C L c l (fk_sk B F E co W L M n (k + 1) l c S) h') 115 [(4, .inl (Int32.ofNat x)), (3, .inl (Int32.ofNat (E l))), (2, .inl (Int32.ofNat (F l))), (0, .inr (.inr (.inl (some 220)))), (1, .inl (Int32.ofNat l))] [] h := by
            intro h S2 hH eS
            have hw := hH.1
            have e5 : ms_u c l x l = x := ms_ue
            have hin := ms_h_in (c := ms_u c l x) (l := l) e5
            have hhl2 := ms_h_le (c := ms_u c l x) (m := x / 2) (l + 1)
            have hrl : h 222 l = .inl (Int32.ofNat (ms_u c l x l)) := hH.2.2.2.1 l (by omega)
            have hm3 : x / 2 < 3 := by omega
            refine kx_go 1 (pc' := 116) (L' := [(4, .inl (Int32.ofNat x)), (3, .inl (Int32.ofNat (E l))), (2, .inl (Int32.ofNat (F l))), (0, .inr (.inr (.inl (some 220)))), (1, .inl (Int32.ofNat l))]) (S' := [.inr (.inr (.inl (some 220)))]) (h' := h) (by with_unfolding_all rfl) ?_
            refine kx_getf (c := 220) (v := .inr (.inr (.inl (some 223)))) rfl (by decide) (kx_ofr (hw _ _ _ fs_k220_8)) ?_
            refine kx_go 4 (pc' := 124) (L' := [(4, .inl (Int32.ofNat x)), (3, .inl (Int32.ofNat (E l))), (2, .inl (Int32.ofNat (F l))), (0, .inr (.inr (.inl (some 220)))), (1, .inl (Int32.ofNat l))]) (S' := [.inl ((Int32.ofNat x) >>> ((Int32.ofNat 1) &&& 31)), .inr (.inr (.inl (some 223))), .inl ((Int32.ofNat x) >>> ((Int32.ofNat 1) &&& 31)), .inr (.inr (.inl (some 223)))]) (h' := h) (by with_unfolding_all rfl) ?_
            rw [fs_shr x hx6]
            refine kx_iald (c := 223) (j := x / 2) (m := 3) (v := .inl (Int32.ofNat (ms_h (ms_u c l x) (x / 2) (l + 1)))) rfl rfl (by decide) (by decide) (by omega) (hH.2.2.2.2.1 (x / 2) hm3) ?_
            refine kx_go 2 (pc' := 127) (L' := [(4, .inl (Int32.ofNat x)), (3, .inl (Int32.ofNat (E l))), (2, .inl (Int32.ofNat (F l))), (0, .inr (.inr (.inl (some 220)))), (1, .inl (Int32.ofNat l))]) (S' := [.inl ((Int32.ofNat (ms_h (ms_u c l x) (x / 2) (l + 1))) - (Int32.ofNat 1)), .inl (Int32.ofNat (x / 2)), .inr (.inr (.inl (some 223)))]) (h' := h) (by with_unfolding_all rfl) ?_
            rw [hin, kx_sub (by omega), Nat.add_sub_cancel]
            refine kx_iast (c := 223) (j := x / 2) (m := 3) rfl rfl (by decide) (by decide) (by omega) ?_
            have hw1 : kd_wt kd_ty (kc_upd h 223 (x / 2) (.inl (Int32.ofNat (ms_h (ms_u c l x) (x / 2) l)))) := fa_wa (fs_k2x.2.2.1 (x / 2) hm3) hw
            have hZ3 : fk_Z B F E co W C L n (kc_upd h 223 (x / 2) (.inl (Int32.ofNat (ms_h (ms_u c l x) (x / 2) l)))) := fk_Z_f hL (fun a y h1 h2 => (fu_ne (by omega)).trans (hH.2.1 a y h1 h2)) hZ
            have hbo1 : fs_bo (ms_v W (fs_O F E)) (ms_v (fun _ _ => 1) (fs_O F E)) (ms_u c l x) (fun _ => l + 1) (kc_upd h 223 (x / 2) (.inl (Int32.ofNat (ms_h (ms_u c l x) (x / 2) l)))) := fs_bo_f (fun a y h1 h2 => fu_ne (by omega)) hH.2.2.1
            refine kx_go 5 (pc' := 133) (L' := [(4, .inl (Int32.ofNat x)), (3, .inl (Int32.ofNat (E l))), (2, .inl (Int32.ofNat (F l))), (0, .inr (.inr (.inl (some 220)))), (1, .inl (Int32.ofNat l))]) (S' := [.inl (Int32.ofInt (-1)), .inl (Int32.ofNat (E l)), .inl (Int32.ofNat (F l)), .inl (Int32.ofNat l), .inr (.inr (.inl (some 220)))]) (h' := (kc_upd h 223 (x / 2) (.inl (Int32.ofNat (ms_h (ms_u c l x) (x / 2) l))))) (by with_unfolding_all rfl) ?_
            refine kc_call_rule (M2 := wk_m205) (av := [.inr (.inr (.inl (some 220))), .inl (Int32.ofNat l), .inl (Int32.ofNat (F l)), .inl (Int32.ofNat (E l)), .inl (Int32.ofInt (-1))]) (r := []) rfl rfl (kc_Con_le (fs_c205d (d := d) (c := ms_u c l x) hg hw1 hb hZ3.2.1 hlL (by rw [e5]; exact hx6) ((fu_ne (by omega)).trans hrl) hbo1) (by omega)) (fun rv h2 hq => ?_)
            obtain ⟨rfl, hw2, hbo2, hF2⟩ := hq
            show kc_Ev g (d + L + (k + 1) + 5) wk_m118 _ 136 [(4, .inl (Int32.ofNat x)), (3, .inl (Int32.ofNat (E l))), (2, .inl (Int32.ofNat (F l))), (0, .inr (.inr (.inl (some 220)))), (1, .inl (Int32.ofNat l))] [] h2
            exact next h2 (by
              rw [eS]
              exact fk_H_c (c := ms_u c l x) (fun j hj => (ms_un (by omega)).symm) (fk_H_off e5 hx6 hH hw2 hbo2 hF2))
          refine kx_go 1 (pc' := 64) (L' := [(4, .inl (Int32.ofNat x)), (3, .inl (Int32.ofNat (E l))), (2, .inl (Int32.ofNat (F l))), (0, .inr (.inr (.inl (some 220)))), (1, .inl (Int32.ofNat l))]) (S' := [.inr (.inr (.inl (some 220)))]) (h' := h) (by with_unfolding_all rfl) ?_
          refine kx_getf (c := 220) (v := .inr (.inr (.inl (some 222)))) rfl (by decide) (kx_ofr (hw _ _ _ fs_k220_7)) ?_
          refine kx_go 2 (pc' := 70) (L' := [(4, .inl (Int32.ofNat x)), (3, .inl (Int32.ofNat (E l))), (2, .inl (Int32.ofNat (F l))), (0, .inr (.inr (.inl (some 220)))), (1, .inl (Int32.ofNat l))]) (S' := [.inl (Int32.ofNat x), .inl (Int32.ofNat l), .inr (.inr (.inl (some 222)))]) (h' := h) (by with_unfolding_all rfl) ?_
          refine kx_iast (c := 222) (j := l) (m := 10) rfl rfl (by decide) (by decide) (by omega) ?_
          have e5 : ms_u c l x l = x := ms_ue
          have H1 := fk_H_row (show l < 10 by omega) hx6 hH
          have er : (kc_upd h 222 l (.inl (Int32.ofNat x))) 222 l = .inl (Int32.ofNat x) := fu_eq
          generalize kc_upd h 222 l (.inl (Int32.ofNat x)) = h1 at H1 er ⊢
          have hw1 := H1.1
          have hZ3 := fk_Z_f hL H1.2.1 hZ
          refine kx_go 5 (pc' := 76) (L' := [(4, .inl (Int32.ofNat x)), (3, .inl (Int32.ofNat (E l))), (2, .inl (Int32.ofNat (F l))), (0, .inr (.inr (.inl (some 220)))), (1, .inl (Int32.ofNat l))]) (S' := [.inl (Int32.ofNat 1), .inl (Int32.ofNat (E l)), .inl (Int32.ofNat (F l)), .inl (Int32.ofNat l), .inr (.inr (.inl (some 220)))]) (h' := h1) (by with_unfolding_all rfl) ?_
          refine kc_call_rule (M2 := wk_m205) (av := [.inr (.inr (.inl (some 220))), .inl (Int32.ofNat l), .inl (Int32.ofNat (F l)), .inl (Int32.ofNat (E l)), .inl (Int32.ofNat 1)]) (r := []) rfl rfl (kc_Con_le (fs_c205u (d := d) (c := ms_u c l x) hg hw1 hb hZ3.2.1 hlL (by rw [e5]; exact hx6) (by rw [e5]; exact er) H1.2.2.1) (by omega)) (fun rv h2 hq => ?_)
          obtain ⟨rfl, hw2, hbo2, hF2⟩ := hq
          show kc_Ev g (d + L + (k + 1) + 5) wk_m118 _ 79 [(4, .inl (Int32.ofNat x)), (3, .inl (Int32.ofNat (E l))), (2, .inl (Int32.ofNat (F l))), (0, .inr (.inr (.inl (some 220)))), (1, .inl (Int32.ofNat l))] [] h2
          have hin := ms_h_in (c := ms_u c l x) (l := l) e5
          have hhl2 := ms_h_le (c := ms_u c l x) (m := x / 2) (l + 1)
          have hm3 : x / 2 < 3 := by omega
          have e223 : h2 223 (x / 2) = .inl (Int32.ofNat (ms_h (ms_u c l x) (x / 2) l)) := (hF2 _ _ (by decide)).trans (H1.2.2.2.2.1 (x / 2) hm3)
          refine kx_go 1 (pc' := 80) (L' := [(4, .inl (Int32.ofNat x)), (3, .inl (Int32.ofNat (E l))), (2, .inl (Int32.ofNat (F l))), (0, .inr (.inr (.inl (some 220)))), (1, .inl (Int32.ofNat l))]) (S' := [.inr (.inr (.inl (some 220)))]) (h' := h2) (by with_unfolding_all rfl) ?_
          refine kx_getf (c := 220) (v := .inr (.inr (.inl (some 223)))) rfl (by decide) (kx_ofr (hw2 _ _ _ fs_k220_8)) ?_
          refine kx_go 4 (pc' := 88) (L' := [(4, .inl (Int32.ofNat x)), (3, .inl (Int32.ofNat (E l))), (2, .inl (Int32.ofNat (F l))), (0, .inr (.inr (.inl (some 220)))), (1, .inl (Int32.ofNat l))]) (S' := [.inl ((Int32.ofNat x) >>> ((Int32.ofNat 1) &&& 31)), .inr (.inr (.inl (some 223))), .inl ((Int32.ofNat x) >>> ((Int32.ofNat 1) &&& 31)), .inr (.inr (.inl (some 223)))]) (h' := h2) (by with_unfolding_all rfl) ?_
          rw [fs_shr x hx6]
          refine kx_iald (c := 223) (j := x / 2) (m := 3) (v := .inl (Int32.ofNat (ms_h (ms_u c l x) (x / 2) l))) rfl rfl (by decide) (by decide) (by omega) e223 ?_
          refine kx_go 2 (pc' := 91) (L' := [(4, .inl (Int32.ofNat x)), (3, .inl (Int32.ofNat (E l))), (2, .inl (Int32.ofNat (F l))), (0, .inr (.inr (.inl (some 220)))), (1, .inl (Int32.ofNat l))]) (S' := [.inl ((Int32.ofNat (ms_h (ms_u c l x) (x / 2) l)) + (Int32.ofNat 1)), .inl (Int32.ofNat (x / 2)), .inr (.inr (.inl (some 223)))]) (h' := h2) (by with_unfolding_all rfl) ?_
          rw [kx_add, ← hin]
          refine kx_iast (c := 223) (j := x / 2) (m := 3) rfl rfl (by decide) (by decide) (by omega) ?_
          have H3 := fk_H_on (show l < 10 by omega) e5 hx6 er H1 hw2 hbo2 hF2
          generalize (kc_upd h2 223 (x / 2) (.inl (Int32.ofNat (ms_h (ms_u c l x) (x / 2) (l + 1))))) = h3 at H3 ⊢
          have hw3 := H3.1
          have hZ4 := fk_Z_f hL H3.2.1 hZ
          have hr3 : h3 222 l = .inl (Int32.ofNat (ms_u c l x l)) := H3.2.2.2.1 l (by omega)
          refine kx_go 2 (pc' := 94) (L' := [(4, .inl (Int32.ofNat x)), (3, .inl (Int32.ofNat (E l))), (2, .inl (Int32.ofNat (F l))), (0, .inr (.inr (.inl (some 220)))), (1, .inl (Int32.ofNat l))]) (S' := [.inl (Int32.ofNat l), .inr (.inr (.inl (some 220)))]) (h' := h3) (by with_unfolding_all rfl) ?_
          refine kc_call_rule (M2 := wk_m206) (av := [.inr (.inr (.inl (some 220))), .inl (Int32.ofNat l)]) (r := []) rfl rfl (kc_Con_le (fs_c206 (d := d) (c := ms_u c l x) hg hw3 hZ4.1 hB hb hZ4.2.1 hlL (by rw [e5]; exact hx6) hr3 H3.2.2.1) (by omega)) (fun rv hcc hq => ?_)
          obtain ⟨rfl, e9⟩ := hq
          rw [e9]
          clear e9
          show kc_Ev g (d + L + (k + 1) + 5) wk_m118 _ 97 [(4, .inl (Int32.ofNat x)), (3, .inl (Int32.ofNat (E l))), (2, .inl (Int32.ofNat (F l))), (0, .inr (.inr (.inl (some 220)))), (1, .inl (Int32.ofNat l))] [.inl (kp_b (ms_ok W (fs_O F E) (fs_cap B) (fs_most B) n l (ms_u c l x)))] h3
          refine kx_go 1 (pc' := (if kc_cnd .eq (kp_b (ms_ok W (fs_O F E) (fs_cap B) (fs_most B) n l (ms_u c l x))).toInt 0 then 115 else 100)) (L' := [(4, .inl (Int32.ofNat x)), (3, .inl (Int32.ofNat (E l))), (2, .inl (Int32.ofNat (F l))), (0, .inr (.inr (.inl (some 220)))), (1, .inl (Int32.ofNat l))]) (S' := []) (h' := h3) (by with_unfolding_all rfl) ?_
          cases e2 : ms_ok W (fs_O F E) (fs_cap B) (fs_most B) n l (ms_u c l x) with
          | false =>
            rw [if_pos (kx_b0.mpr rfl)]
            exact off h3 _ H3 (fk_sb1_n e1 (fun q => by rw [e2] at q; cases q.1))
          | true =>
            rw [if_neg fa_b0t]
            refine kx_go 2 (pc' := 102) (L' := [(4, .inl (Int32.ofNat x)), (3, .inl (Int32.ofNat (E l))), (2, .inl (Int32.ofNat (F l))), (0, .inr (.inr (.inl (some 220)))), (1, .inl (Int32.ofNat l))]) (S' := [.inl (Int32.ofNat l), .inr (.inr (.inl (some 220)))]) (h' := h3) (by with_unfolding_all rfl) ?_
            refine kc_call_rule (M2 := wk_m212) (av := [.inr (.inr (.inl (some 220))), .inl (Int32.ofNat l)]) (r := []) rfl rfl (kc_Con_le (fk_c212 (d := d) hg hZ4.2.2.1 H3.2.2.2.2.2.1 hZ4.2.2.2 hC12 hSx) (by omega)) (fun rv hcc hq => ?_)
            obtain ⟨rfl, e9⟩ := hq
            rw [e9]
            clear e9
            show kc_Ev g (d + L + (k + 1) + 5) wk_m118 _ 105 [(4, .inl (Int32.ofNat x)), (3, .inl (Int32.ofNat (E l))), (2, .inl (Int32.ofNat (F l))), (0, .inr (.inr (.inl (some 220)))), (1, .inl (Int32.ofNat l))] [.inl (kp_b (decide (0 < (ms_for (fk_sb1 B F E co W L M n k l c) x S).1)))] h3
            refine kx_go 1 (pc' := (if kc_cnd .eq (kp_b (decide (0 < (ms_for (fk_sb1 B F E co W L M n k l c) x S).1))).toInt 0 then 115 else 108)) (L' := [(4, .inl (Int32.ofNat x)), (3, .inl (Int32.ofNat (E l))), (2, .inl (Int32.ofNat (F l))), (0, .inr (.inr (.inl (some 220)))), (1, .inl (Int32.ofNat l))]) (S' := []) (h' := h3) (by with_unfolding_all rfl) ?_
            cases e3 : decide (0 < (ms_for (fk_sb1 B F E co W L M n k l c) x S).1) with
            | false =>
              rw [if_pos (kx_b0.mpr rfl)]
              exact off h3 _ H3 (fk_sb1_n e1 (fun q => by rw [e3] at q; cases q.2))
            | true =>
              rw [if_neg fa_b0t]
              refine kx_go 4 (pc' := 112) (L' := [(4, .inl (Int32.ofNat x)), (3, .inl (Int32.ofNat (E l))), (2, .inl (Int32.ofNat (F l))), (0, .inr (.inr (.inl (some 220)))), (1, .inl (Int32.ofNat l))]) (S' := [.inl ((Int32.ofNat l) + (Int32.ofNat 1)), .inr (.inr (.inl (some 220)))]) (h' := h3) (by with_unfolding_all rfl) ?_
              rw [kx_add]
              refine kc_call_rule (M2 := wk_m118) (av := [.inr (.inr (.inl (some 220))), .inl (Int32.ofNat (l + 1))]) (r := []) rfl rfl (kc_Con_le (ih (l + 1) (ms_u c l x) (ms_for (fk_sb1 B F E co W L M n k l c) x S) h3 (by omega) (fun j hj => by
                  by_cases e : j = l
                  · rw [e, e5]; omega
                  · rw [ms_un e]; exact hc j (by omega)) hSx H3) (by omega)) (fun rv h4 hq => ?_)
              obtain ⟨rfl, H4⟩ := hq
              show kc_Ev g (d + L + (k + 1) + 5) wk_m118 _ 115 [(4, .inl (Int32.ofNat x)), (3, .inl (Int32.ofNat (E l))), (2, .inl (Int32.ofNat (F l))), (0, .inr (.inr (.inl (some 220)))), (1, .inl (Int32.ofNat l))] [] h4
              exact off h4 _ H4 (fk_sb1_g e1 ⟨e2, e3⟩)
    have hZ2 := fk_Z_f hL hH.2.1 hZ
    have hw := hH.1
    refine kc_Con_new hg (M := wk_m118) rfl rfl rfl (show 2 ≤ 5 by decide) ?_
    refine kx_go 2 (pc' := 2) (L' := [(0, .inr (.inr (.inl (some 220)))), (1, .inl (Int32.ofNat l))]) (S' := [.inr (.inr (.inl (some 220))), .inl (Int32.ofNat l)]) (h' := h) (by with_unfolding_all rfl) ?_
    refine kx_getf (c := 220) (v := .inr (.inr (.inl (some 1)))) rfl (by decide) (kx_ofr (hw _ _ _ fs_k220_0)) ?_
    refine kx_getf (c := 1) (v := .inl (Int32.ofNat L)) rfl (by decide) ((fu_C0 hZ2.1).2.2.1.trans (by rw [eL])) ?_
    refine kx_go 1 (pc' := (if kc_cnd .lt (Int32.ofNat l).toInt (Int32.ofNat L).toInt then 16 else 11)) (L' := [(0, .inr (.inr (.inl (some 220)))), (1, .inl (Int32.ofNat l))]) (S' := []) (h' := h) (by with_unfolding_all rfl) ?_
    rw [if_pos ((kx_lt (by omega) (by omega)).mpr hlL)]
    refine kx_go 1 (pc' := 17) (L' := [(0, .inr (.inr (.inl (some 220)))), (1, .inl (Int32.ofNat l))]) (S' := [.inr (.inr (.inl (some 220)))]) (h' := h) (by with_unfolding_all rfl) ?_
    refine kx_getf (c := 220) (v := .inr (.inr (.inl (some 204)))) rfl (by decide) (kx_ofr (hw _ _ _ fs_k220_1)) ?_
    refine kx_go 1 (pc' := 21) (L' := [(0, .inr (.inr (.inl (some 220)))), (1, .inl (Int32.ofNat l))]) (S' := [.inl (Int32.ofNat l), .inr (.inr (.inl (some 204)))]) (h' := h) (by with_unfolding_all rfl) ?_
    refine kc_call_rule (M2 := wk_m203) (av := [.inr (.inr (.inl (some 204))), .inl (Int32.ofNat l)]) (r := []) rfl rfl (kc_Con_le (fs_c203 (d := d) hg hw hb hZ2.2.1 hlL) (by omega)) (fun rv hcc hq => ?_)
    obtain ⟨rfl, e9⟩ := hq
    rw [e9]
    clear e9
    show kc_Ev g (d + L + (k + 1) + 5) wk_m118 _ 24 [(0, .inr (.inr (.inl (some 220)))), (1, .inl (Int32.ofNat l))] [.inl (Int32.ofNat (F l))] h
    refine kx_go 2 (pc' := 26) (L' := [(2, .inl (Int32.ofNat (F l))), (0, .inr (.inr (.inl (some 220)))), (1, .inl (Int32.ofNat l))]) (S' := [.inr (.inr (.inl (some 220)))]) (h' := h) (by with_unfolding_all rfl) ?_
    refine kx_getf (c := 220) (v := .inr (.inr (.inl (some 204)))) rfl (by decide) (kx_ofr (hw _ _ _ fs_k220_1)) ?_
    refine kx_go 1 (pc' := 30) (L' := [(2, .inl (Int32.ofNat (F l))), (0, .inr (.inr (.inl (some 220)))), (1, .inl (Int32.ofNat l))]) (S' := [.inl (Int32.ofNat l), .inr (.inr (.inl (some 204)))]) (h' := h) (by with_unfolding_all rfl) ?_
    refine kc_call_rule (M2 := wk_m204) (av := [.inr (.inr (.inl (some 204))), .inl (Int32.ofNat l)]) (r := []) rfl rfl (kc_Con_le (fs_c204 (d := d) hg hw hb hZ2.2.1 hlL) (by omega)) (fun rv hcc hq => ?_)
    obtain ⟨rfl, e9⟩ := hq
    rw [e9]
    clear e9
    show kc_Ev g (d + L + (k + 1) + 5) wk_m118 _ 33 [(2, .inl (Int32.ofNat (F l))), (0, .inr (.inr (.inl (some 220)))), (1, .inl (Int32.ofNat l))] [.inl (Int32.ofNat (E l))] h
    refine kx_go 3 (pc' := 37) (L' := [(4, .inl (Int32.ofNat 0)), (3, .inl (Int32.ofNat (E l))), (2, .inl (Int32.ofNat (F l))), (0, .inr (.inr (.inl (some 220)))), (1, .inl (Int32.ofNat l))]) (S' := []) (h' := h) (by with_unfolding_all rfl) ?_
    exact loop (2 * M) 0 h (by omega) (by omega) hH
set_option maxRecDepth 20000 in
theorem fk_c225 {g : kc_G} {d : Nat} {h : kc_H} {B : Nat → Int32} {M C : Nat} {F E : Nat → Nat} {co : Nat → Bool} {W : Nat → Nat → Nat} {L n : Nat} {f : Nat → Nat} (hg : kc_ok g) (hw : kd_wt kd_ty h) (hB : fu_BT B) (hC : fu_C B 1 h) (hb : fs_Gb F E co W L n) (hG : fs_G F E co W L n h) (hM : M ≤ 3) (eM : B 1 = Int32.ofNat M) (eL : B 2 = Int32.ofNat L) (eC : C = 100 ^ mk_k co (fs_as B) L) (hC12 : C ≤ 1000000000000) (hf : ∀ j, j < L → h 221 j = .inl (Int32.ofNat (f j))) : kc_Con g (d + L + L + 7) 225 [.inr (.inr (.inl (some 220)))] h (fun rv h' => rv = some (.inl (kp_b (decide ((fk_sk B F E co W L M n L 0 (fun _ => 0) (C + 1, f)).1 < C + 1)))) ∧ kd_wt kd_ty h' ∧ (∀ a x, ¬ (220 ≤ a ∧ a ≤ 247) → h' a x = h a x) ∧ h' 220 3 = .inr (.inl (fk_v C (fk_sk B F E co W L M n L 0 (fun _ => 0) (C + 1, f)).1)) ∧ ∀ j, j < L → h' 221 j = .inl (Int32.ofNat ((fk_sk B F E co W L M n L 0 (fun _ => 0) (C + 1, f)).2 j))) := by
  have hL := hb.2.1
  have hn := hb.1
  have hle : (fk_sk B F E co W L M n L 0 (fun _ => 0) (C + 1, f)).1 ≤ C + 1 := ms_sk_le (fun _ _ => ms_j_le) L 0 _ _
  have hv := fk_vt hC12 hle
  refine kc_Con_new hg (M := wk_m225) rfl rfl rfl (show 1 ≤ 1 by decide) ?_
  refine kx_go 2 (pc' := 2) (L' := [(0, .inr (.inr (.inl (some 220))))]) (S' := [.inl (Int32.ofNat 1), .inr (.inr (.inl (some 220)))]) (h' := h) (by with_unfolding_all rfl) ?_
  have hw1 : kd_wt kd_ty (kc_upd h 220 5 (.inl (Int32.ofNat 1))) := fa_wn (u := 1) fs_k2205 (by omega) (by decide) hw
  refine kx_go 1 (pc' := 5) (L' := [(0, .inr (.inr (.inl (some 220))))]) (S' := []) (h' := (kc_upd h 220 5 (.inl (Int32.ofNat 1)))) (by with_unfolding_all rfl) ?_
  refine kx_go 2 (pc' := 9) (L' := [(0, .inr (.inr (.inl (some 220))))]) (S' := [.inr (.inl (Int64.ofInt (-1))), .inr (.inr (.inl (some 220)))]) (h' := (kc_upd h 220 5 (.inl (Int32.ofNat 1)))) (by with_unfolding_all rfl) ?_
  have hw2 : kd_wt kd_ty (kc_upd (kc_upd h 220 5 (.inl (Int32.ofNat 1))) 220 3 (.inr (.inl (Int64.ofInt (-1))))) := kf_wtJ fk_k3.1 hw1
  refine kx_go 1 (pc' := 12) (L' := [(0, .inr (.inr (.inl (some 220))))]) (S' := []) (h' := (kc_upd (kc_upd h 220 5 (.inl (Int32.ofNat 1))) 220 3 (.inr (.inl (Int64.ofInt (-1)))))) (by with_unfolding_all rfl) ?_
  have hF2 : ∀ a x, ¬ a = 220 → (kc_upd (kc_upd h 220 5 (.inl (Int32.ofNat 1))) 220 3 (.inr (.inl (Int64.ofInt (-1))))) a x = h a x := fun a y ha => (fu_ne (by omega)).trans (fu_ne (by omega))
  have e5 : (kc_upd (kc_upd h 220 5 (.inl (Int32.ofNat 1))) 220 3 (.inr (.inl (Int64.ofInt (-1))))) 220 5 = .inl (Int32.ofNat 1) := (fu_ne (by omega)).trans fu_eq
  have e3 : (kc_upd (kc_upd h 220 5 (.inl (Int32.ofNat 1))) 220 3 (.inr (.inl (Int64.ofInt (-1))))) 220 3 = .inr (.inl (Int64.ofInt (-1))) := fu_eq
  generalize (kc_upd (kc_upd h 220 5 (.inl (Int32.ofNat 1))) 220 3 (.inr (.inl (Int64.ofInt (-1))))) = h2 at hw2 hF2 e5 e3 ⊢
  have hC2 := fs_C_f (h' := h2) (fun a y q => hF2 a y (by omega)) hC
  have hG2 := fs_G_f (h' := h2) hL (fun a y q1 q2 => hF2 a y (by omega)) hG
  have H142 := fs_c142 (g := g) (d := d) hg hw2 hC2 hB hb hG2 eL
  rw [← eC] at H142
  refine kx_go 2 (pc' := 14) (L' := [(0, .inr (.inr (.inl (some 220))))]) (S' := [.inr (.inr (.inl (some 220))), .inr (.inr (.inl (some 220)))]) (h' := h2) (by with_unfolding_all rfl) ?_
  refine kx_getf (c := 220) (v := .inr (.inr (.inl (some 204)))) rfl (by decide) (kx_ofr (hw2 _ _ _ fs_k220_1)) ?_
  refine kc_call_rule (M2 := wk_m142) (av := [.inr (.inr (.inl (some 204)))]) (r := [.inr (.inr (.inl (some 220)))]) rfl rfl (kc_Con_le (H142) (by omega)) (fun rv hcc hq => ?_)
  obtain ⟨rfl, e9⟩ := hq
  rw [e9]
  clear e9
  show kc_Ev g (d + L + L + 6) wk_m225 _ 20 [(0, .inr (.inr (.inl (some 220))))] [.inr (.inl (Int64.ofNat C)), .inr (.inr (.inl (some 220)))] h2
  have hw3 : kd_wt kd_ty (kc_upd h2 220 6 (.inr (.inl (Int64.ofNat C)))) := kf_wtJ fk_k3.2 hw2
  refine kx_go 1 (pc' := 23) (L' := [(0, .inr (.inr (.inl (some 220))))]) (S' := []) (h' := (kc_upd h2 220 6 (.inr (.inl (Int64.ofNat C))))) (by with_unfolding_all rfl) ?_
  have hF4 : ∀ a x, ¬ a = 220 → (kc_upd h2 220 6 (.inr (.inl (Int64.ofNat C)))) a x = h a x := fun a y ha => (fu_ne (by omega)).trans (hF2 a y ha)
  have e54 : (kc_upd h2 220 6 (.inr (.inl (Int64.ofNat C)))) 220 5 = .inl (Int32.ofNat 1) := (fu_ne (by omega)).trans e5
  have e34 : (kc_upd h2 220 6 (.inr (.inl (Int64.ofNat C)))) 220 3 = .inr (.inl (Int64.ofInt (-1))) := (fu_ne (by omega)).trans e3
  have e64 : (kc_upd h2 220 6 (.inr (.inl (Int64.ofNat C)))) 220 6 = .inr (.inl (Int64.ofNat C)) := fu_eq
  generalize (kc_upd h2 220 6 (.inr (.inl (Int64.ofNat C)))) = h4 at hw3 hF4 e54 e34 e64 ⊢
  have hC4 := fs_C_f (h' := h4) (fun a y q => hF4 a y (by omega)) hC
  have hG4 := fs_G_f (h' := h4) hL (fun a y q1 q2 => hF4 a y (by omega)) hG
  refine kx_go 1 (pc' := 24) (L' := [(0, .inr (.inr (.inl (some 220))))]) (S' := [.inr (.inr (.inl (some 220)))]) (h' := h4) (by with_unfolding_all rfl) ?_
  refine kc_call_rule (M2 := wk_m117) (av := [.inr (.inr (.inl (some 220)))]) (r := []) rfl rfl (kc_Con_le (fs_c117 (d := d) hg hw3 hC4 hb hG4 eL) (by omega)) (fun rv h5 hq => ?_)
  obtain ⟨rfl, hw5, hz5, hs5, hF5⟩ := hq
  show kc_Ev g (d + L + L + 6) wk_m225 _ 27 [(0, .inr (.inr (.inl (some 220))))] [] h5
  have hZ : fk_Z B F E co W C L n h5 := ⟨fs_C_f (fun a y q => hF5 a y (by omega)) hC4, fs_G_f hL (fun a y q1 q2 => hF5 a y (by omega)) hG4, (hF5 220 5 (by decide)).trans e54, (hF5 220 6 (by decide)).trans e64⟩
  have e35 : h5 220 3 = .inr (.inl (fk_v C (C + 1))) := (hF5 220 3 (by decide)).trans (e34.trans (by unfold fk_v; rw [show (C : Int) - ((C + 1 : Nat) : Int) = -1 by omega]))
  have H3 : fk_H h5 F E W C L (fun _ => 0) 0 (C + 1, f) h5 := ⟨hw5, fun _ _ _ _ => rfl, fun i hi s hs => hz5.1 i hi s hs, fun j hj => by omega, fun m hm => hz5.2 m hm, e35, fun j hj => (hF5 221 j (by decide)).trans ((hF4 221 j (by decide)).trans (hf j hj))⟩
  refine kx_go 2 (pc' := 29) (L' := [(0, .inr (.inr (.inl (some 220))))]) (S' := [.inl (Int32.ofNat 0), .inr (.inr (.inl (some 220)))]) (h' := h5) (by with_unfolding_all rfl) ?_
  refine kc_call_rule (M2 := wk_m118) (av := [.inr (.inr (.inl (some 220))), .inl (Int32.ofNat 0)]) (r := []) rfl rfl (kc_Con_le (fk_c118 (d := d) hg hB hb hZ hM eM eC hC12 eL L 0 (fun _ => 0) (C + 1, f) h5 (by omega) (fun j hj => by omega) (Nat.le_refl _) H3) (by omega)) (fun rv h6 hq => ?_)
  obtain ⟨rfl, H4⟩ := hq
  show kc_Ev g (d + L + L + 6) wk_m225 _ 32 [(0, .inr (.inr (.inl (some 220))))] [] h6
  have e36 : h6 220 3 = .inr (.inl (fk_v C (fk_sk B F E co W L M n L 0 (fun _ => 0) (C + 1, f)).1)) := H4.2.2.2.2.2.1
  have hF6 : ∀ a x, ¬ (220 ≤ a ∧ a ≤ 247) → h6 a x = h a x := fun a y ha => (H4.2.1 a y (by omega) (by omega)).trans ((hF5 a y (by omega)).trans (hF4 a y (by omega)))
  have hfo : ∀ j, j < L → h6 221 j = .inl (Int32.ofNat ((fk_sk B F E co W L M n L 0 (fun _ => 0) (C + 1, f)).2 j)) := H4.2.2.2.2.2.2
  have hw6 := H4.1
  have hm1 : (Int64.ofInt (-1)).toInt = -1 := by decide
  refine kx_go 1 (pc' := 33) (L' := [(0, .inr (.inr (.inl (some 220))))]) (S' := [.inr (.inr (.inl (some 220)))]) (h' := h6) (by with_unfolding_all rfl) ?_
  refine kx_getf (c := 220) (v := .inr (.inl (fk_v C (fk_sk B F E co W L M n L 0 (fun _ => 0) (C + 1, f)).1))) rfl (by decide) e36 ?_
  refine kx_go 3 (pc' := (if kc_cnd .eq (kc_lcmp (fk_v C (fk_sk B F E co W L M n L 0 (fun _ => 0) (C + 1, f)).1) (Int64.ofInt (-1))).toInt 0 then 47 else 43)) (L' := [(0, .inr (.inr (.inl (some 220))))]) (S' := []) (h' := h6) (by with_unfolding_all rfl) ?_
  by_cases c : (fk_sk B F E co W L M n L 0 (fun _ => 0) (C + 1, f)).1 < C + 1
  · rw [if_neg (fun q => by have := fs_leq.mp q; rw [hv, hm1] at this; omega), decide_eq_true c]
    refine kx_go 2 (pc' := 48) (L' := [(0, .inr (.inr (.inl (some 220))))]) (S' := [.inl (Int32.ofNat 1)]) (h' := h6) (by with_unfolding_all rfl) ?_
    exact kc_ret_ok rfl (rv := some (.inl (Int32.ofNat 1))) rfl ⟨rfl, hw6, hF6, e36, hfo⟩
  · rw [if_pos (fs_leq.mpr (by rw [hv, hm1]; omega)), decide_eq_false c]
    refine kx_go 1 (pc' := 48) (L' := [(0, .inr (.inr (.inl (some 220))))]) (S' := [.inl (Int32.ofNat 0)]) (h' := h6) (by with_unfolding_all rfl) ?_
    exact kc_ret_ok rfl (rv := some (.inl (Int32.ofNat 0))) rfl ⟨rfl, hw6, hF6, e36, hfo⟩
end
section
-- 99.zqm
/-! ===== KEEP, class: keep ===== -/
def fk_va (B : Nat → Int32) (D : Nat → Nat) (n L M : Nat) : (Nat → Nat) → Nat := mk_va (fs_co B D n) (fs_as B) (fs_F B D n) (fs_E B D n) (fun l i => fa_w B l i) L M n (fs_ev B)
def fk_K (B : Nat → Int32) (D : Nat → Nat) (n L : Nat) : Nat := mk_k (fs_co B D n) (fs_as B) L
def fk_T (B : Nat → Int32) (D : Nat → Nat) (n L M v : Nat) (f : Nat → Nat) : ms_S := ms_tree (2 * M) (ms_J (fs_bor B D n L M) (fk_va B D n L M)) L 0 (fun _ => 0) (v, f)
theorem fk_al_ev {B : Nat → Int32} {k m : Nat} (h : fs_al B k m = true) : fs_ev B k = fs_ev B m := by
  unfold fs_al at h
  exact of_decide_eq_true ((ms_all_iff 5).mp h 1 (by decide))
theorem fk_T_c {B : Nat → Int32} {D : Nat → Nat} {n L M v : Nat} {f : Nat → Nat} (hB : fu_BT B) (hM : M ≤ 3) : fk_sk B (fs_F B D n) (fs_E B D n) (fs_co B D n) (fun l i => fa_w B l i) L M n L 0 (fun _ => 0) (v, f) = fk_T B D n L M v f := mk_keeps (fun k m _ _ h => ⟨fs_al_ok h, fk_al_ev h⟩) (fun m hm => fs_evl hB (by omega)) (fun c s => rfl) (v, f) (fun _ => 0)
theorem fk_T_2 {B : Nat → Int32} {D : Nat → Nat} {n L M v : Nat} {f g : Nat → Nat} : (fk_T B D n L M v f).1 = (fk_T B D n L M v g).1 ∧ ((fk_T B D n L M v f).1 < v → (fk_T B D n L M v f).2 = (fk_T B D n L M v g).2) := by
  have h := ms_tree_2 (Q := 2 * M) (J := ms_J (fs_bor B D n L M) (fk_va B D n L M)) (s := (v, f)) (t := (v, g)) (fun c => ms_J_2 c) L 0 (fun _ => 0) (v, f) (v, g) (Or.inr ⟨rfl, rfl⟩)
  unfold fk_T
  rcases h with h | ⟨h1, h2⟩
  · rw [h]; exact ⟨rfl, fun _ => rfl⟩
  · rw [h1, h2]; exact ⟨rfl, fun q => absurd q (Nat.lt_irrefl v)⟩
def fk_kv (B : Nat → Int32) (D : Nat → Nat) (n L M l : Nat) : Int32 := if 5000 < fs_hn M L then Int32.ofInt (-20) else if 6 < fk_K B D n L then Int32.ofInt (-20) else if (fk_T B D n L M (100 ^ fk_K B D n L + 1) (fun _ => 0)).1 < 100 ^ fk_K B D n L + 1 then Int32.ofNat ((fk_T B D n L M (100 ^ fk_K B D n L + 1) (fun _ => 0)).2 l) else Int32.ofInt (-5)
def fk_kp (B : Nat → Int32) (D : Nat → Nat) (n L M : Nat) (a : Int32) : Int32 := if fu_in a 0 ((L : Int) - 1) = true then fk_kv B D n L M a.toInt.toNat else Int32.ofInt (-10)
theorem fk_c143 {g : kc_G} {d : Nat} {h : kc_H} {x y : Int64} (hg : kc_ok g) (hw : kd_wt kd_ty h) : kc_Con g (d + 2) 143 [.inr (.inr (.inl (some 0))), .inr (.inl x), .inr (.inl y)] h (fun rv h' => rv = none ∧ kd_wt kd_ty h' ∧ ∀ c i, ¬ c = 0 → h' c i = h c i) := by
  refine kc_Con_le (kc_Con_mono (kd_h143 hg [.inr (.inr (.inl (some 0))), .inr (.inl x), .inr (.inl y)] h hw ⟨⟨0, rfl, by decide, by decide⟩, ⟨x, rfl, Nat.zero_le _, kd_nj_J x⟩, ⟨y, rfl, Nat.zero_le _, kd_nj_J y⟩, trivial⟩ (fun q hq => by cases hq)) (fun rv h' hq => ?_)) (Nat.le_add_left 2 d)
  obtain ⟨p, hp, hv, -, hw', hF⟩ := hq
  rcases List.mem_cons.mp hp with rfl | hp
  · cases rv with
    | some v => exact hv.elim
    | none =>
      refine ⟨rfl, hw', fun c i hc => hF c i (fun q hq => ?_)⟩
      rcases List.mem_cons.mp hq with rfl | hq
      · show kd_inr c 0 0 i 11 12 = false
        unfold kd_inr
        have e : Nat.ble c 0 = false := Bool.eq_false_iff.mpr (fun q => hc (Nat.le_zero.mp (Nat.le_of_ble_eq_true q)))
        rw [e, Bool.false_and, Bool.and_false]
      · cases hq
  · cases hp
set_option maxRecDepth 20000 in
theorem fk_c151 {g : kc_G} {d : Nat} {h : kc_H} {B : Nat → Int32} {n L M : Nat} {a : Int32} (hg : kc_ok g) (hw : kd_wt kd_ty h) (hC : fu_C B 1 h) (hB : fu_BT B) (hn : n ≤ 5) (en : B 3 = Int32.ofNat n) (hM : M ≤ 3) (eM : B 1 = Int32.ofNat M) (hL : L ≤ 10) (eL : B 2 = Int32.ofNat L) : kc_Con g (d + 28) 151 [.inr (.inr (.inl (some 0))), .inl a] h (fun rv h' => rv = some (.inl (fk_kp B (fs_D B n) n L M a)) ∧ kd_wt kd_ty h' ∧ (∀ c x, ¬ (204 ≤ c ∧ c ≤ 247) → ¬ c = 0 → h' c x = h c x)) := by
  have hfl : ∀ k, k < n → h 27 k = .inl (Int32.ofNat (fs_D B n k)) := fun k hk => (fu_Cj (c := 26) (i := k) hC (by omega) (fu_fli k (by omega)).2.1 (fu_fli k (by omega)).1).trans (by rw [fs_Dv hB hn hk])
  have z2 : (B 2).toInt - 1 = (L : Int) - 1 := by rw [eL, kx_ti (by omega)]
  unfold fk_kp
  refine kc_Con_new hg (M := wk_m151) rfl rfl rfl (show 2 ≤ 2 by decide) ?_
  refine kx_go 1 (pc' := 1) (L' := [(0, .inr (.inr (.inl (some 0)))), (1, .inl (a))]) (S' := [.inr (.inr (.inl (some 0)))]) (h' := h) (by with_unfolding_all rfl) ?_
  refine kx_getf (c := 0) (v := .inr (.inr (.inl (some 1)))) rfl (by decide) (kx_ofr (hw _ _ _ fs_k0_0)) ?_
  refine kx_go 1 (pc' := 5) (L' := [(0, .inr (.inr (.inl (some 0)))), (1, .inl (a))]) (S' := [.inl (a), .inr (.inr (.inl (some 1)))]) (h' := h) (by with_unfolding_all rfl) ?_
  refine kc_call_rule (M2 := wk_m46) (av := [.inr (.inr (.inl (some 1))), .inl (a)]) (r := []) rfl rfl (kc_Con_le (fu_c46 (d := 0) hg hC hB) (by omega)) (fun rv hcc hq => ?_)
  obtain ⟨rfl, e9⟩ := hq
  rw [e9]
  clear e9
  show kc_Ev g (d + 27) wk_m151 _ 8 [(0, .inr (.inr (.inl (some 0)))), (1, .inl (a))] [.inl (kp_b (fu_in a 0 ((B 2).toInt - 1)))] h
  refine kx_go 1 (pc' := (if kc_cnd .ne (kp_b (fu_in a 0 ((B 2).toInt - 1))).toInt 0 then 14 else 11)) (L' := [(0, .inr (.inr (.inl (some 0)))), (1, .inl (a))]) (S' := []) (h' := h) (by with_unfolding_all rfl) ?_
  rw [z2]
  cases e2 : fu_in a 0 ((L : Int) - 1) with
  | false =>
    rw [if_neg (show ¬ (kc_cnd .ne (kp_b false).toInt 0 = true) from fun q => by have := kx_b1.mp q; cases this), if_neg Bool.false_ne_true]
    refine kx_go 1 (pc' := 13) (L' := [(0, .inr (.inr (.inl (some 0)))), (1, .inl (a))]) (S' := [.inl (Int32.ofInt (-10))]) (h' := h) (by with_unfolding_all rfl) ?_
    exact kc_ret_ok rfl (rv := some (.inl (Int32.ofInt (-10)))) rfl ⟨rfl, hw, fun _ _ _ _ => rfl⟩
  | true =>
    rw [if_pos (kx_b1.mpr rfl), if_pos rfl]
    obtain ⟨l, hl9, el, -, hl⟩ := fu_in_n (u := 9) e2 (Int.le_refl 0) (by omega)
    subst el
    rw [kx_ti (show l < 2147483648 by omega), Int.toNat_natCast]
    unfold fk_kv
    refine kx_go 1 (pc' := 15) (L' := [(0, .inr (.inr (.inl (some 0)))), (1, .inl (Int32.ofNat l))]) (S' := [.inr (.inr (.inl (some 0)))]) (h' := h) (by with_unfolding_all rfl) ?_
    refine kx_getf (c := 0) (v := .inr (.inr (.inl (some 204)))) rfl (by decide) (kx_ofr (hw _ _ _ fs_k0_6)) ?_
    refine kx_go 1 (pc' := 19) (L' := [(0, .inr (.inr (.inl (some 0)))), (1, .inl (Int32.ofNat l))]) (S' := [.inr (.inr (.inl (some 0))), .inr (.inr (.inl (some 204)))]) (h' := h) (by with_unfolding_all rfl) ?_
    refine kx_getf (c := 0) (v := .inr (.inr (.inl (some 1)))) rfl (by decide) (kx_ofr (hw _ _ _ fs_k0_0)) ?_
    refine kx_getf (c := 1) (v := .inr (.inr (.inl (some 27)))) rfl (by decide) (kx_ofr (hw _ _ _ fs_k1_10)) ?_
    refine kx_go 1 (pc' := 26) (L' := [(0, .inr (.inr (.inl (some 0)))), (1, .inl (Int32.ofNat l))]) (S' := [.inr (.inr (.inl (some 0))), .inr (.inr (.inl (some 27))), .inr (.inr (.inl (some 204)))]) (h' := h) (by with_unfolding_all rfl) ?_
    refine kx_getf (c := 0) (v := .inr (.inr (.inl (some 1)))) rfl (by decide) (kx_ofr (hw _ _ _ fs_k0_0)) ?_
    refine kx_getf (c := 1) (v := .inl (Int32.ofNat n)) rfl (by decide) ((fu_C0 hC).2.2.2.trans (by rw [en])) ?_
    refine kc_call_rule (M2 := wk_m100) (av := [.inr (.inr (.inl (some 204))), .inr (.inr (.inl (some 27))), .inl (Int32.ofNat n)]) (r := []) rfl rfl (kc_Con_le (fs_c100x27 (d := d) hw hg hB hC hn hL eL hfl (fun j => fs_Dl hB hn j)) (by omega)) (fun rv h2 hq => ?_)
    obtain ⟨rfl, hP, hQ⟩ := hq
    show kc_Ev g (d + 27) wk_m151 _ 35 [(0, .inr (.inr (.inl (some 0)))), (1, .inl (Int32.ofNat l))] [] h2
    have hw2 := hP.1
    have hF2 := hP.2.2.2.2
    have hC2 := fs_C_f (h' := h2) (fun a y q => hF2 a y (by omega)) hC
    have hG2 := fs_Q_G hP.2.1 hQ
    have Gb := fs_gb (D := fs_D B n) (L := L) hB hn hL
    refine kx_go 1 (pc' := 36) (L' := [(0, .inr (.inr (.inl (some 0)))), (1, .inl (Int32.ofNat l))]) (S' := [.inr (.inr (.inl (some 0)))]) (h' := h2) (by with_unfolding_all rfl) ?_
    refine kx_getf (c := 0) (v := .inr (.inr (.inl (some 1)))) rfl (by decide) (kx_ofr (hw2 _ _ _ fs_k0_0)) ?_
    refine kc_call_rule (M2 := wk_m115) (av := [.inr (.inr (.inl (some 1)))]) (r := []) rfl rfl (kc_Con_le (fs_c115 (d := d) hg hC2 hM eM hL eL) (by omega)) (fun rv hcc hq => ?_)
    obtain ⟨rfl, e9⟩ := hq
    rw [e9]
    clear e9
    show kc_Ev g (d + 27) wk_m151 _ 42 [(0, .inr (.inr (.inl (some 0)))), (1, .inl (Int32.ofNat l))] [.inl (kp_b (decide (5000 < fs_hn M L)))] h2
    refine kx_go 1 (pc' := (if kc_cnd .ne (kp_b (decide (5000 < fs_hn M L))).toInt 0 then 57 else 45)) (L' := [(0, .inr (.inr (.inl (some 0)))), (1, .inl (Int32.ofNat l))]) (S' := []) (h' := h2) (by with_unfolding_all rfl) ?_
    by_cases c : 5000 < fs_hn M L
    · rw [decide_eq_true c, if_pos (kx_b1.mpr rfl), if_pos c]
      refine kx_go 1 (pc' := 59) (L' := [(0, .inr (.inr (.inl (some 0)))), (1, .inl (Int32.ofNat l))]) (S' := [.inl (Int32.ofInt (-20))]) (h' := h2) (by with_unfolding_all rfl) ?_
      exact kc_ret_ok rfl (rv := some (.inl (Int32.ofInt (-20)))) rfl ⟨rfl, hw2, fun c x q1 q2 => hF2 c x (by omega)⟩
    · rw [decide_eq_false c, if_neg (show ¬ (kc_cnd .ne (kp_b false).toInt 0 = true) from fun q => by have := kx_b1.mp q; cases this), if_neg c]
      refine kx_go 1 (pc' := 46) (L' := [(0, .inr (.inr (.inl (some 0)))), (1, .inl (Int32.ofNat l))]) (S' := [.inr (.inr (.inl (some 0)))]) (h' := h2) (by with_unfolding_all rfl) ?_
      refine kx_getf (c := 0) (v := .inr (.inr (.inl (some 204)))) rfl (by decide) (kx_ofr (hw2 _ _ _ fs_k0_6)) ?_
      have kb := mk_k_b (co := fs_co B (fs_D B n) n) (as := fs_as B) L
      have H140 := fs_c140 (g := g) (d := d) hg hw2 hC2 hB Gb hG2 eL
      rw [show mk_k (fs_co B (fs_D B n) n) (fs_as B) L = fk_K B (fs_D B n) n L from rfl] at H140 kb
      refine kc_call_rule (M2 := wk_m140) (av := [.inr (.inr (.inl (some 204)))]) (r := []) rfl rfl (kc_Con_le (H140) (by omega)) (fun rv hcc hq => ?_)
      obtain ⟨rfl, e9⟩ := hq
      rw [e9]
      clear e9
      show kc_Ev g (d + 27) wk_m151 _ 52 [(0, .inr (.inr (.inl (some 0)))), (1, .inl (Int32.ofNat l))] [.inl (Int32.ofNat (fk_K B (fs_D B n) n L))] h2
      refine kx_go 2 (pc' := (if kc_cnd .le (Int32.ofNat (fk_K B (fs_D B n) n L)).toInt (Int32.ofNat 6).toInt then 60 else 57)) (L' := [(0, .inr (.inr (.inl (some 0)))), (1, .inl (Int32.ofNat l))]) (S' := []) (h' := h2) (by with_unfolding_all rfl) ?_
      by_cases c6 : 6 < fk_K B (fs_D B n) n L
      · rw [if_neg (show ¬ (kc_cnd .le (Int32.ofNat (fk_K B (fs_D B n) n L)).toInt (Int32.ofNat 6).toInt = true) from fun q => by have := (kx_le (by omega) (by omega)).mp q; omega), if_pos c6]
        refine kx_go 1 (pc' := 59) (L' := [(0, .inr (.inr (.inl (some 0)))), (1, .inl (Int32.ofNat l))]) (S' := [.inl (Int32.ofInt (-20))]) (h' := h2) (by with_unfolding_all rfl) ?_
        exact kc_ret_ok rfl (rv := some (.inl (Int32.ofInt (-20)))) rfl ⟨rfl, hw2, fun c x q1 q2 => hF2 c x (by omega)⟩
      · rw [if_pos ((kx_le (by omega) (by omega)).mpr (by omega)), if_neg c6]
        have hC12 : 100 ^ fk_K B (fs_D B n) n L ≤ 1000000000000 := Nat.le_trans (Nat.pow_le_pow_right (by decide) (show fk_K B (fs_D B n) n L ≤ 6 by omega)) (by decide)
        obtain ⟨f, hf⟩ := fs_fnd (c := 221) hw2 hL fs_k2x.1
        have hT := fk_T_c (B := B) (D := fs_D B n) (n := n) (L := L) (M := M) (v := 100 ^ fk_K B (fs_D B n) n L + 1) (f := f) hB hM
        have h22 := fk_T_2 (B := B) (D := fs_D B n) (n := n) (L := L) (M := M) (v := 100 ^ fk_K B (fs_D B n) n L + 1) (f := f) (g := fun _ => 0)
        have H225 := fk_c225 (g := g) (d := d) (f := f) (C := 100 ^ fk_K B (fs_D B n) n L) hg hw2 hB hC2 Gb hG2 hM eM eL rfl hC12 hf
        rw [hT] at H225
        refine kx_go 1 (pc' := 61) (L' := [(0, .inr (.inr (.inl (some 0)))), (1, .inl (Int32.ofNat l))]) (S' := [.inr (.inr (.inl (some 0)))]) (h' := h2) (by with_unfolding_all rfl) ?_
        refine kx_getf (c := 0) (v := .inr (.inr (.inl (some 220)))) rfl (by decide) (kx_ofr (hw2 _ _ _ fs_k0_7)) ?_
        refine kc_call_rule (M2 := wk_m225) (av := [.inr (.inr (.inl (some 220)))]) (r := []) rfl rfl (kc_Con_le (H225) (by omega)) (fun rv h3 hq => ?_)
        obtain ⟨rfl, hw3, hF3, e3, hfo⟩ := hq
        show kc_Ev g (d + 27) wk_m151 _ 67 [(0, .inr (.inr (.inl (some 0)))), (1, .inl (Int32.ofNat l))] [.inl (kp_b (decide ((fk_T B (fs_D B n) n L M (100 ^ fk_K B (fs_D B n) n L + 1) f).1 < 100 ^ fk_K B (fs_D B n) n L + 1)))] h3
        have hFF : ∀ c x, ¬ (204 ≤ c ∧ c ≤ 247) → h3 c x = h c x := fun c y q => (hF3 c y (by omega)).trans (hF2 c y (by omega))
        have hC3 := fs_C_f (h' := h3) (fun a y q => hF3 a y (by omega)) hC2
        have hG3 := fs_G_f (h' := h3) hL (fun a y q1 q2 => hF3 a y (by omega)) hG2
        refine kx_go 1 (pc' := (if kc_cnd .ne (kp_b (decide ((fk_T B (fs_D B n) n L M (100 ^ fk_K B (fs_D B n) n L + 1) f).1 < 100 ^ fk_K B (fs_D B n) n L + 1))).toInt 0 then 73 else 70)) (L' := [(0, .inr (.inr (.inl (some 0)))), (1, .inl (Int32.ofNat l))]) (S' := []) (h' := h3) (by with_unfolding_all rfl) ?_
        rw [← h22.1]
        by_cases c2 : (fk_T B (fs_D B n) n L M (100 ^ fk_K B (fs_D B n) n L + 1) f).1 < 100 ^ fk_K B (fs_D B n) n L + 1
        · rw [decide_eq_true c2, if_pos (kx_b1.mpr rfl), if_pos c2, ← h22.2 c2]
          refine kx_go 2 (pc' := 75) (L' := [(0, .inr (.inr (.inl (some 0)))), (1, .inl (Int32.ofNat l))]) (S' := [.inr (.inr (.inl (some 0))), .inr (.inr (.inl (some 0)))]) (h' := h3) (by with_unfolding_all rfl) ?_
          refine kx_getf (c := 0) (v := .inr (.inr (.inl (some 220)))) rfl (by decide) (kx_ofr (hw3 _ _ _ fs_k0_7)) ?_
          refine kx_getf (c := 220) (v := .inr (.inl (fk_v (100 ^ fk_K B (fs_D B n) n L) (fk_T B (fs_D B n) n L M (100 ^ fk_K B (fs_D B n) n L + 1) f).1))) rfl (by decide) e3 ?_
          refine kx_go 1 (pc' := 82) (L' := [(0, .inr (.inr (.inl (some 0)))), (1, .inl (Int32.ofNat l))]) (S' := [.inr (.inr (.inl (some 0))), .inr (.inl (fk_v (100 ^ fk_K B (fs_D B n) n L) (fk_T B (fs_D B n) n L M (100 ^ fk_K B (fs_D B n) n L + 1) f).1)), .inr (.inr (.inl (some 0)))]) (h' := h3) (by with_unfolding_all rfl) ?_
          refine kx_getf (c := 0) (v := .inr (.inr (.inl (some 204)))) rfl (by decide) (kx_ofr (hw3 _ _ _ fs_k0_6)) ?_
          refine kc_call_rule (M2 := wk_m142) (av := [.inr (.inr (.inl (some 204)))]) (r := [.inr (.inl (fk_v (100 ^ fk_K B (fs_D B n) n L) (fk_T B (fs_D B n) n L M (100 ^ fk_K B (fs_D B n) n L + 1) f).1)), .inr (.inr (.inl (some 0)))]) rfl rfl (kc_Con_le (fs_c142 (d := d) hg hw3 hC3 hB Gb hG3 eL) (by omega)) (fun rv hcc hq => ?_)
          obtain ⟨rfl, e9⟩ := hq
          rw [e9]
          clear e9
          show kc_Ev g (d + 27) wk_m151 _ 88 [(0, .inr (.inr (.inl (some 0)))), (1, .inl (Int32.ofNat l))] [.inr (.inl (Int64.ofNat (100 ^ mk_k (fs_co B (fs_D B n) n) (fs_as B) L))), .inr (.inl (fk_v (100 ^ fk_K B (fs_D B n) n L) (fk_T B (fs_D B n) n L M (100 ^ fk_K B (fs_D B n) n L + 1) f).1)), .inr (.inr (.inl (some 0)))] h3
          refine kc_call_rule (M2 := wk_m143) (av := [.inr (.inr (.inl (some 0))), .inr (.inl (fk_v (100 ^ fk_K B (fs_D B n) n L) (fk_T B (fs_D B n) n L M (100 ^ fk_K B (fs_D B n) n L + 1) f).1)), .inr (.inl (Int64.ofNat (100 ^ mk_k (fs_co B (fs_D B n) n) (fs_as B) L)))]) (r := []) rfl rfl (kc_Con_le (fk_c143 (d := d) hg hw3) (by omega)) (fun rv h4 hq => ?_)
          obtain ⟨rfl, hw4, hF4⟩ := hq
          show kc_Ev g (d + 27) wk_m151 _ 91 [(0, .inr (.inr (.inl (some 0)))), (1, .inl (Int32.ofNat l))] [] h4
          refine kx_go 1 (pc' := 92) (L' := [(0, .inr (.inr (.inl (some 0)))), (1, .inl (Int32.ofNat l))]) (S' := [.inr (.inr (.inl (some 0)))]) (h' := h4) (by with_unfolding_all rfl) ?_
          refine kx_getf (c := 0) (v := .inr (.inr (.inl (some 220)))) rfl (by decide) (kx_ofr (hw4 _ _ _ fs_k0_7)) ?_
          refine kx_getf (c := 220) (v := .inr (.inr (.inl (some 221)))) rfl (by decide) (kx_ofr (hw4 _ _ _ fs_k220_4)) ?_
          refine kx_go 1 (pc' := 99) (L' := [(0, .inr (.inr (.inl (some 0)))), (1, .inl (Int32.ofNat l))]) (S' := [.inl (Int32.ofNat l), .inr (.inr (.inl (some 221)))]) (h' := h4) (by with_unfolding_all rfl) ?_
          refine kx_iald (c := 221) (j := l) (m := 10) (v := .inl (Int32.ofNat ((fk_T B (fs_D B n) n L M (100 ^ fk_K B (fs_D B n) n L + 1) f).2 l))) rfl rfl (by decide) (by decide) (by omega) ((hF4 221 l (by decide)).trans (hfo l (by omega))) ?_
          exact kc_ret_ok rfl (rv := some (.inl (Int32.ofNat ((fk_T B (fs_D B n) n L M (100 ^ fk_K B (fs_D B n) n L + 1) f).2 l)))) rfl ⟨rfl, hw4, fun c x q1 q2 => (hF4 c x q2).trans (hFF c x q1)⟩
        · rw [decide_eq_false c2, if_neg (show ¬ (kc_cnd .ne (kp_b false).toInt 0 = true) from fun q => by have := kx_b1.mp q; cases this), if_neg c2]
          refine kx_go 1 (pc' := 72) (L' := [(0, .inr (.inr (.inl (some 0)))), (1, .inl (Int32.ofNat l))]) (S' := [.inl (Int32.ofInt (-5))]) (h' := h3) (by with_unfolding_all rfl) ?_
          exact kc_ret_ok rfl (rv := some (.inl (Int32.ofInt (-5)))) rfl ⟨rfl, hw3, fun c x q1 q2 => hFF c x q1⟩
end
section
-- 99.zqn
/-! ===== KEEP, reference: sets as ints, those that may be asked for ===== -/
def fk_obk (l : Nat) : Nat → Bool
  | 0 => true
  | z + 1 => decide (Int32.ofNat z ||| (Int32.ofNat 1 <<< (Int32.ofNat l &&& 31)) = Int32.ofNat (z ||| 2 ^ l)) && fk_obk l z
theorem fk_obk_r {l : Nat} : ∀ n, fk_obk l n = true → ∀ z, z < n → Int32.ofNat z ||| (Int32.ofNat 1 <<< (Int32.ofNat l &&& 31)) = Int32.ofNat (z ||| 2 ^ l)
  | 0, _, z, hz => by omega
  | n + 1, h, z, hz => by
    have h : (decide (Int32.ofNat n ||| (Int32.ofNat 1 <<< (Int32.ofNat l &&& 31)) = Int32.ofNat (n ||| 2 ^ l)) && fk_obk l n) = true := h
    rw [Bool.and_eq_true] at h
    by_cases e : z = n
    · rw [e]; exact of_decide_eq_true h.1
    · exact fk_obk_r n h.2 z (by omega)
set_option maxRecDepth 100000 in
theorem fk_ob0 : fk_obk 0 1024 = true := by decide +kernel
set_option maxRecDepth 100000 in
theorem fk_ob1 : fk_obk 1 1024 = true := by decide +kernel
set_option maxRecDepth 100000 in
theorem fk_ob2 : fk_obk 2 1024 = true := by decide +kernel
set_option maxRecDepth 100000 in
theorem fk_ob3 : fk_obk 3 1024 = true := by decide +kernel
set_option maxRecDepth 100000 in
theorem fk_ob4 : fk_obk 4 1024 = true := by decide +kernel
set_option maxRecDepth 100000 in
theorem fk_ob5 : fk_obk 5 1024 = true := by decide +kernel
set_option maxRecDepth 100000 in
theorem fk_ob6 : fk_obk 6 1024 = true := by decide +kernel
set_option maxRecDepth 100000 in
theorem fk_ob7 : fk_obk 7 1024 = true := by decide +kernel
set_option maxRecDepth 100000 in
theorem fk_ob8 : fk_obk 8 1024 = true := by decide +kernel
set_option maxRecDepth 100000 in
theorem fk_ob9 : fk_obk 9 1024 = true := by decide +kernel
theorem fk_or {z l : Nat} (hz : z < 1024) (hl : l < 10) : Int32.ofNat z ||| (Int32.ofNat 1 <<< (Int32.ofNat l &&& 31)) = Int32.ofNat (z ||| 2 ^ l) := by
  rcases (show l = 0 ∨ l = 1 ∨ l = 2 ∨ l = 3 ∨ l = 4 ∨ l = 5 ∨ l = 6 ∨ l = 7 ∨ l = 8 ∨ l = 9 by omega) with rfl | rfl | rfl | rfl | rfl | rfl | rfl | rfl | rfl | rfl
  · exact fk_obk_r 1024 fk_ob0 z hz
  · exact fk_obk_r 1024 fk_ob1 z hz
  · exact fk_obk_r 1024 fk_ob2 z hz
  · exact fk_obk_r 1024 fk_ob3 z hz
  · exact fk_obk_r 1024 fk_ob4 z hz
  · exact fk_obk_r 1024 fk_ob5 z hz
  · exact fk_obk_r 1024 fk_ob6 z hz
  · exact fk_obk_r 1024 fk_ob7 z hz
  · exact fk_obk_r 1024 fk_ob8 z hz
  · exact fk_obk_r 1024 fk_ob9 z hz
def fk_ozk : Nat → Bool
  | 0 => true
  | z + 1 => decide (Int32.ofNat z ||| Int32.ofNat 0 = Int32.ofNat z) && fk_ozk z
theorem fk_ozk_r : ∀ n, fk_ozk n = true → ∀ z, z < n → Int32.ofNat z ||| Int32.ofNat 0 = Int32.ofNat z
  | 0, _, z, hz => by omega
  | n + 1, h, z, hz => by
    have h : (decide (Int32.ofNat n ||| Int32.ofNat 0 = Int32.ofNat n) && fk_ozk n) = true := h
    rw [Bool.and_eq_true] at h
    by_cases e : z = n
    · rw [e]; exact of_decide_eq_true h.1
    · exact fk_ozk_r n h.2 z (by omega)
set_option maxRecDepth 100000 in
theorem fk_oz : fk_ozk 1024 = true := by decide +kernel
theorem fk_or0 {z : Nat} (hz : z < 1024) : Int32.ofNat z ||| Int32.ofNat 0 = Int32.ofNat z := fk_ozk_r 1024 fk_oz z hz
theorem fk_shl {k : Nat} (hk : k < 10) : Int32.ofNat 1 <<< (Int32.ofNat k &&& 31) = Int32.ofNat (2 ^ k) := by
  have : ∀ k, k < 10 → Int32.ofNat 1 <<< (Int32.ofNat k &&& 31) = Int32.ofNat (2 ^ k) := by decide +kernel
  exact this k hk
def fk_ms (z : Nat) (T : Nat → Bool) : Prop := z < 1024 ∧ ∀ j, j < 10 → (z / 2 ^ j % 2 = 1 ↔ T j = true)
theorem fk_ms_or {z l : Nat} {T : Nat → Bool} (h : fk_ms z T) (hl : l < 10) : fk_ms (z ||| 2 ^ l) (mk_t T l) := by
  refine ⟨Nat.or_lt_two_pow (n := 10) h.1 (Nat.pow_lt_pow_right (by decide) hl), fun j hj => ?_⟩
  have q := h.2 j hj
  have e : ∀ x, (x / 2 ^ j % 2 = 1) ↔ Nat.testBit x j = true := fun x => by rw [Nat.testBit_eq_decide_div_mod_eq, decide_eq_true_eq]
  rw [e] at q ⊢
  rw [Nat.testBit_or, Nat.testBit_two_pow, Bool.or_eq_true, decide_eq_true_eq, q]
  unfold mk_t
  by_cases c : j = l
  · rw [if_pos c]
    exact ⟨fun _ => rfl, fun _ => Or.inr c.symm⟩
  · rw [if_neg c]
    exact ⟨fun z => z.elim id (fun z => absurd z.symm c), Or.inl⟩
def mk_M (co : Nat → Bool) (as : Nat → Nat) (L l s : Nat) : Nat → Bool := fun j => decide (j < L) && (co j && (decide (as j = 0) || (decide (j < l) && (mk_is co as j && mk_bit s (mk_k co as j)))))
def mk_A (co : Nat → Bool) (as : Nat → Nat) (l : Nat) : Nat → Bool := fun j => decide (j < l) && (co j && decide (as j = 0))
theorem mk_M_0 {co : Nat → Bool} {as : Nat → Nat} {L s : Nat} : mk_M co as L 0 s = mk_A co as L := by
  funext j
  unfold mk_M mk_A
  rw [decide_eq_false (Nat.not_lt_zero j), Bool.false_and, Bool.or_false]
theorem mk_k_mono {co : Nat → Bool} {as : Nat → Nat} {l : Nat} : ∀ e, mk_k co as l ≤ mk_k co as (l + e)
  | 0 => Nat.le_refl _
  | e + 1 => Nat.le_trans (mk_k_mono e) (Nat.le_add_right _ _)
theorem mk_w_gap {co : Nat → Bool} {as : Nat → Nat} {s l : Nat} : ∀ e, mk_k co as (l + e) = mk_k co as l → mk_w co as s (l + e) = mk_w co as s l
  | 0, _ => rfl
  | e + 1, h => by
    have m := mk_k_mono (co := co) (as := as) (l := l) e
    have h : mk_k co as (l + e) + (if mk_is co as (l + e) = true then 1 else 0) = mk_k co as l := h
    have ni : ¬ mk_is co as (l + e) = true := fun q => by
      rw [if_pos q] at h
      omega
    rw [if_neg ni] at h
    show mk_w co as s (l + e) * (if mk_is co as (l + e) = true then (if mk_bit s (mk_k co as (l + e)) = true then 100 - as (l + e) else as (l + e)) else 1) = _
    rw [if_neg ni, Nat.mul_one]
    exact mk_w_gap e h
theorem mk_w_e {co : Nat → Bool} {as : Nat → Nat} {s l l' : Nat} (h : mk_k co as l = mk_k co as l') : mk_w co as s l = mk_w co as s l' := by
  rcases Nat.le_total l l' with q | q
  · obtain ⟨e, rfl⟩ := Nat.exists_eq_add_of_le q
    exact (mk_w_gap e h.symm).symm
  · obtain ⟨e, rfl⟩ := Nat.exists_eq_add_of_le q
    exact mk_w_gap e h
theorem mk_k_lt {co : Nat → Bool} {as : Nat → Nat} {l l' j : Nat} (h : mk_k co as l = mk_k co as l') (i : mk_is co as j = true) (q : j < l) : j < l' := by
  refine Decidable.byContradiction (fun z => ?_)
  have h1 := mk_k_le l q i
  obtain ⟨e, he⟩ := Nat.exists_eq_add_of_le (show l' ≤ j by omega)
  have h2 := mk_k_mono (co := co) (as := as) (l := l') e
  rw [← he] at h2
  omega
theorem mk_M_e {co : Nat → Bool} {as : Nat → Nat} {L s l l' : Nat} (h : mk_k co as l = mk_k co as l') : mk_M co as L l s = mk_M co as L l' s := by
  funext j
  unfold mk_M
  by_cases i : mk_is co as j = true
  · rw [show decide (j < l) = decide (j < l') from decide_eq_decide.mpr ⟨mk_k_lt h i, mk_k_lt h.symm i⟩]
  · rw [Bool.eq_false_iff.mpr i, Bool.false_and, Bool.and_false, Bool.and_false]
theorem mk_M_t {co : Nat → Bool} {as : Nat → Nat} {L s q : Nat} (hi : mk_is co as q = true) (hq : q < L) : mk_M co as L (q + 1) s = if mk_bit s (mk_k co as q) = true then mk_t (mk_M co as L q s) q else mk_M co as L q s := by
  have hc : co q = true := by
    unfold mk_is at hi
    rw [Bool.and_eq_true] at hi
    exact hi.1
  have ne : ∀ j, ¬ j = q → mk_M co as L (q + 1) s j = mk_M co as L q s j := fun j hj => by
    unfold mk_M
    rw [show decide (j < q + 1) = decide (j < q) from decide_eq_decide.mpr (by omega)]
  by_cases b : mk_bit s (mk_k co as q) = true
  · rw [if_pos b]
    funext j
    by_cases e : j = q
    · rw [e, mk_te]
      unfold mk_M
      rw [decide_eq_true hq, hc, decide_eq_true (Nat.lt_succ_self q), hi, b]
      cases decide (as q = 0) <;> rfl
    · rw [mk_tn e]; exact ne j e
  · rw [if_neg b]
    funext j
    by_cases e : j = q
    · rw [e]
      unfold mk_M
      rw [decide_eq_true hq, hc, Bool.eq_false_iff.mpr b, Bool.and_false, Bool.and_false, Bool.and_false]
    · exact ne j e
theorem mk_M_T {co : Nat → Bool} {as : Nat → Nat} {L s : Nat} : mk_M co as L L s = mk_T co as L s (fun _ => false) := by
  funext j
  unfold mk_M mk_T
  by_cases e : j < L
  · simp only [decide_eq_true e, Bool.true_and, Bool.false_or]
  · simp only [decide_eq_false e, Bool.false_and, Bool.false_or]
theorem mk_A_s {co : Nat → Bool} {as : Nat → Nat} {l : Nat} : mk_A co as (l + 1) = if co l = true ∧ as l = 0 then mk_t (mk_A co as l) l else mk_A co as l := by
  have ne : ∀ j, ¬ j = l → mk_A co as (l + 1) j = mk_A co as l j := fun j hj => by
    unfold mk_A
    rw [show decide (j < l + 1) = decide (j < l) from decide_eq_decide.mpr (by omega)]
  by_cases b : co l = true ∧ as l = 0
  · rw [if_pos b]
    funext j
    by_cases e : j = l
    · rw [e, mk_te]
      unfold mk_A
      rw [decide_eq_true (Nat.lt_succ_self l), b.1, decide_eq_true b.2]
      rfl
    · rw [mk_tn e]; exact ne j e
  · rw [if_neg b]
    funext j
    by_cases e : j = l
    · rw [e]
      unfold mk_A
      rw [decide_eq_false (Nat.lt_irrefl l), Bool.false_and]
      have : (co l && decide (as l = 0)) = false := Bool.eq_false_iff.mpr (fun q => b (by
        rw [Bool.and_eq_true, decide_eq_true_eq] at q
        exact q))
      rw [this, Bool.and_false]
    · exact ne j e
theorem mk_k_ex {co : Nat → Bool} {as : Nat → Nat} {k : Nat} : ∀ L, k < mk_k co as L → ∃ j, j < L ∧ mk_is co as j = true ∧ mk_k co as j = k
  | 0, h => absurd h (Nat.not_lt_zero k)
  | L + 1, h => by
    have h : k < mk_k co as L + (if mk_is co as L = true then 1 else 0) := h
    by_cases e : k < mk_k co as L
    · obtain ⟨j, h1, h2, h3⟩ := mk_k_ex L e
      exact ⟨j, by omega, h2, h3⟩
    · by_cases i : mk_is co as L = true
      · rw [if_pos i] at h
        exact ⟨L, Nat.lt_succ_self L, i, by omega⟩
      · rw [if_neg i] at h
        omega
theorem mk_s_V {V V' : Nat → Nat → Nat} {c : Nat → Nat} {s i : Nat} : ∀ k, (∀ j, j < k → V j i = V' j i) → ms_s V c s i k = ms_s V' c s i k
  | 0, _ => rfl
  | k + 1, h => by
    show ms_s V c s i k + (if c k = s then V k i else 0) = ms_s V' c s i k + (if c k = s then V' k i else 0)
    rw [mk_s_V k (fun j hj => h j (by omega)), h k (by omega)]
def fk_so (even : Nat → Nat) (M : Nat) (X : Nat → Nat) : Bool := ms_any (fun m => decide (even m < ms_d (X (2 * m)) (X (2 * m + 1)))) M
theorem fk_sore {F E : Nat → Nat} {W : Nat → Nat → Nat} {L M n t : Nat} {even c : Nat → Nat} {T : Nat → Bool} (ht : fk_ms t T) (hL : L ≤ 10) : ms_any (fun i => fk_so even M (fun s => ms_s (ms_v W (fs_Ot F E t)) c s i L)) n = true ↔ ¬ ms_all (fun m => mk_ev F E W L n even c m T) M = true := by
  have e : ∀ i, i < n → ∀ s, ms_s (ms_v W (fs_Ot F E t)) c s i L = ms_s (ms_v W (mk_O F E n T)) c s i L := fun i hi s => mk_s_V L (fun j hj => by
    have q := ht.2 j (by omega)
    have o : fs_Ot F E t j i = mk_O F E n T j i := by
      unfold fs_Ot mk_O
      refine decide_eq_decide.mpr ⟨fun z => ⟨z.1, z.2.elim Or.inl (fun z => Or.inr ⟨q.mp z, hi⟩)⟩, fun z => ⟨z.1, z.2.elim Or.inl (fun z => Or.inr (q.mpr z.1))⟩⟩
    unfold ms_v
    rw [o])
  rw [ms_any_iff]
  constructor
  · rintro ⟨i, hi, h⟩ all
    obtain ⟨m, hm, q⟩ := (ms_any_iff M).mp h
    have q : even m < ms_d (ms_s (ms_v W (fs_Ot F E t)) c (2 * m) i L) (ms_s (ms_v W (fs_Ot F E t)) c (2 * m + 1) i L) := of_decide_eq_true q
    have z := of_decide_eq_true ((ms_all_iff n).mp ((ms_all_iff M).mp all m hm) i hi)
    rw [e i hi, e i hi] at q
    omega
  · intro h
    obtain ⟨m, hm, q⟩ := ms_all_not (Bool.eq_false_iff.mpr h)
    unfold mk_ev at q
    obtain ⟨i, hi, q2⟩ := ms_all_not q
    have q2 := of_decide_eq_false q2
    refine ⟨i, hi, (ms_any_iff M).mpr ⟨m, hm, decide_eq_true ?_⟩⟩
    show even m < ms_d (ms_s (ms_v W (fs_Ot F E t)) c (2 * m) i L) (ms_s (ms_v W (fs_Ot F E t)) c (2 * m + 1) i L)
    rw [e i hi, e i hi]
    omega
theorem ms_any_st {p : Nat → Bool} {k : Nat} (h : ms_any p k = true) : ∀ j, ms_any p (k + j) = true
  | 0 => h
  | j + 1 => by
    show (ms_any p (k + j) || p (k + j)) = true
    rw [ms_any_st h j, Bool.true_or]
end
