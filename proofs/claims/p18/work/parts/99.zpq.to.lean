section
-- 99.zpq
/-! ===== one number of the acts anew ===== -/
def fa_s (A : Nat → Nat) (p v : Nat) : Nat → Nat := fun j => if j = p then v else A j
theorem fa_se {A : Nat → Nat} {p v : Nat} : fa_s A p v p = v := if_pos rfl
theorem fa_sn {A : Nat → Nat} {p v j : Nat} (h : ¬ j = p) : fa_s A p v j = A j := if_neg h
theorem fa_sc {A : Nat → Nat} {p q v u : Nat} (h : ¬ p = q) : fa_s (fa_s A p v) q u = fa_s (fa_s A q u) p v := by
  funext j
  unfold fa_s
  by_cases h1 : j = q
  · rw [if_pos h1, if_neg (fun e => h (e.symm.trans h1)), if_pos h1]
  · rw [if_neg h1, if_neg h1]
theorem fa_wa {h : kc_H} {c x : Nat} {v : Int32} (ht : kd_rn (kd_ty c) x = some (0, 0, 4294967295)) (hw : kd_wt kd_ty h) : kd_wt kd_ty (kc_upd h c x (.inl v)) := fu_wtu ht ⟨Nat.zero_le _, kd_nb_M v⟩ hw
theorem fa_nbn {k : Nat} (hk : k < 2147483648) : kd_nb (Int32.ofNat k) = k + 2147483648 := by
  have h1 := kd_nb_i (Int32.ofNat k)
  rw [kx_ti hk] at h1
  omega
theorem fa_wn {h : kc_H} {c x v u : Nat} (ht : kd_rn (kd_ty c) x = some (0, 2147483648, 2147483648 + u)) (hv : v ≤ u) (hu : u < 2147483648) (hw : kd_wt kd_ty h) : kd_wt kd_ty (kc_upd h c x (.inl (Int32.ofNat v))) := by
  refine fu_wtu ht ⟨?_, ?_⟩ hw
  · rw [fa_nbn (by omega)]; exact Nat.le_add_left _ _
  · rw [fa_nbn (by omega), Nat.add_comm]; exact Nat.add_le_add_left hv _
theorem fa_W_s {B : Nat → Int32} {A : Nat → Nat} {L : Nat} {h : kc_H} {p v c x : Nat} {w : kc_V} (hc : ¬ c = 203) (hp : ¬ p = 5) (hW : fa_W B A L h) : fa_W B (fa_s A p v) L (kc_upd h c x w) := fun l hl => (fu_ne (fun q => hc q.1.symm)).trans ((hW l hl).trans (by rw [fa_sn (fun q => hp q.symm)]))
theorem fa_W_h {B : Nat → Int32} {A : Nat → Nat} {L : Nat} {h : kc_H} {c x : Nat} {w : kc_V} (hc : ¬ c = 203) (hW : fa_W B A L h) : fa_W B A L (kc_upd h c x w) := fun l hl => (fu_ne (fun q => hc q.1.symm)).trans (hW l hl)
theorem fa_W_p {B : Nat → Int32} {A : Nat → Nat} {L : Nat} {h : kc_H} {p v : Nat} (hp : ¬ p = 5) (hW : fa_W B A L h) : fa_W B (fa_s A p v) L h := fun l hl => (hW l hl).trans (by rw [fa_sn (fun q => hp q.symm)])
/-- the heap while one side acts: what it was, but for the acts' own cells -/
def fa_Hc (h0 : kc_H) (A : Nat → Nat) (L : Nat) (h : kc_H) : Prop := kd_wt kd_ty h ∧ fa_C A L h ∧ ∀ c x, ¬ (190 ≤ c ∧ c ≤ 203) → h c x = h0 c x
def fa_Hr (h0 : kc_H) (A : Nat → Nat) (L : Nat) (h : kc_H) : Prop := kd_wt kd_ty h ∧ fa_R A L h ∧ ∀ c x, ¬ (266 ≤ c ∧ c ≤ 271) → ¬ (c = 259 ∧ 20 ≤ x ∧ x ≤ 25) → h c x = h0 c x
theorem fa_k2 : (∀ l, l < 10 → kd_rn (kd_ty 191) l = some (0, 0, 4294967295)) ∧ (∀ s, s < 6 → kd_rn (kd_ty 192) s = some (0, 2147483648, 2147483648 + 3)) ∧ (∀ s, s < 6 → kd_rn (kd_ty 193) s = some (0, 0, 4294967295)) ∧ (∀ s, s < 6 → ∀ k, k < 3 → kd_rn (kd_ty (195 + s)) k = some (0, 2147483648, 2147483648 + 9)) ∧ (∀ p, p < 6 → kd_rn (kd_ty 201) p = some (0, 0, 4294967295)) ∧ (∀ m, m < 3 → kd_rn (kd_ty 202) m = some (0, 0, 4294967295)) ∧ (∀ l, l < 10 → kd_rn (kd_ty 203) l = some (0, 0, 4294967295)) := ⟨by decide +kernel, by decide +kernel, by decide +kernel, by decide +kernel, by decide +kernel, by decide +kernel, by decide +kernel⟩
theorem fa_k3 : kd_rn (kd_ty 190) 2 = some (0, 0, 4294967295) ∧ kd_rn (kd_ty 190) 3 = some (0, 0, 4294967295) ∧ kd_rn (kd_ty 190) 4 = some (0, 0, 4294967295) ∧ kd_rn (kd_ty 190) 5 = some (0, 0, 4294967295) ∧ kd_rn (kd_ty 190) 6 = some (0, 2147483648, 2147483648 + 5) ∧ kd_rn (kd_ty 190) 14 = some (0, 0, 4294967295) := by decide +kernel
theorem fa_k4 : (∀ l, l < 10 → kd_rn (kd_ty 266) l = some (0, 0, 4294967295)) ∧ (∀ s, s < 6 → kd_rn (kd_ty 268) s = some (0, 2147483648, 2147483648 + 3)) ∧ (∀ s, s < 6 → kd_rn (kd_ty 269) s = some (0, 0, 4294967295)) ∧ (∀ s, s < 6 → ∀ k, k < 3 → kd_rn (kd_ty 267) (3 * s + k) = some (0, 2147483648, 2147483648 + 9)) ∧ (∀ p, p < 6 → kd_rn (kd_ty 270) p = some (0, 0, 4294967295)) ∧ (∀ m, m < 3 → kd_rn (kd_ty 271) m = some (0, 0, 4294967295)) := ⟨by decide +kernel, by decide +kernel, by decide +kernel, by decide +kernel, by decide +kernel, by decide +kernel⟩
theorem fa_k5 : kd_rn (kd_ty 259) 24 = some (0, 2147483648, 2147483648 + 240) ∧ kd_rn (kd_ty 259) 25 = some (0, 0, 4294967295) ∧ kd_rn (kd_ty 259) 22 = some (0, 0, 4294967295) ∧ kd_rn (kd_ty 259) 23 = some (0, 0, 4294967295) ∧ kd_rn (kd_ty 259) 20 = some (0, 2147483648, 2147483648 + 5) ∧ kd_rn (kd_ty 259) 21 = some (0, 0, 4294967295) := by decide +kernel
theorem fa_at_c {h0 : kc_H} {A : Nat → Nat} {L : Nat} {h : kc_H} {l v : Nat} (hl : l < L) (hL : L ≤ 10) (h3 : ∀ s, s < 6 → A (20 + s) ≤ 3) (hH : fa_Hc h0 A L h) : fa_Hc h0 (fa_s A (10 + l) v) L (kc_upd h (191) (l) (.inl (Int32.ofNat v))) := by
  obtain ⟨hw, hC, hF⟩ := hH
  refine ⟨fa_wa (fa_k2.1 l (by omega)) hw, ⟨⟨(fu_ne (fun q => by omega)).trans (hC.1.1.trans (by rw [fa_sn (by omega)])), (fu_ne (fun q => by omega)).trans (hC.1.2.1.trans (by rw [fa_sn (by omega)])), (fu_ne (fun q => by omega)).trans (hC.1.2.2.1.trans (by rw [fa_sn (by omega)])), (fu_ne (fun q => by omega)).trans (hC.1.2.2.2.1.trans (by rw [fa_sn (by omega)])), (fu_ne (fun q => by omega)).trans (hC.1.2.2.2.2.1.trans (by rw [fa_sn (by omega)])), (fu_ne (fun q => by omega)).trans (hC.1.2.2.2.2.2.trans (by rw [fa_sn (by omega)]))⟩,
    fun l' hl' => by
      by_cases e : l' = l
      · subst e; rw [fu_eq, fa_se]
      · rw [fu_ne (fun q => e q.2), fa_sn (by omega)]; exact hC.2.1 l' hl',
    fun s' hs' => (fu_ne (fun q => by omega)).trans ((hC.2.2.1 s' hs').trans (by rw [fa_sn (by omega)])),
    fun s' hs' => (fu_ne (fun q => by omega)).trans ((hC.2.2.2.1 s' hs').trans (by rw [fa_sn (by omega)])),
    fun s' hs' k' hk' => by
      have h5 := h3 s' hs'
      rw [fa_sn (by omega)] at hk'
      rw [fu_ne (fun q => by omega), fa_sn (by omega)]
      exact hC.2.2.2.2.1 s' hs' k' hk',
    fun p' hp' => (fu_ne (fun q => by omega)).trans ((hC.2.2.2.2.2.1 p' hp').trans (by rw [fa_sn (by omega)])),
    fun m' hm' => (fu_ne (fun q => by omega)).trans ((hC.2.2.2.2.2.2 m' hm').trans (by rw [fa_sn (by omega)]))⟩, fun c' x' hn => (fu_ne (fun q => by omega)).trans (hF c' x' hn)⟩
theorem fa_lo_c {h0 : kc_H} {A : Nat → Nat} {L : Nat} {h : kc_H} {s v : Nat} (hs : s < 6) (hv : v ≤ A (20 + s)) (hL : L ≤ 10) (h3 : ∀ s, s < 6 → A (20 + s) ≤ 3) (hH : fa_Hc h0 A L h) : fa_Hc h0 (fa_s A (20 + s) v) L (kc_upd h (192) (s) (.inl (Int32.ofNat v))) := by
  obtain ⟨hw, hC, hF⟩ := hH
  refine ⟨fa_wn (fa_k2.2.1 s hs) (Nat.le_trans hv (h3 s hs)) (by decide) hw, ⟨⟨(fu_ne (fun q => by omega)).trans (hC.1.1.trans (by rw [fa_sn (by omega)])), (fu_ne (fun q => by omega)).trans (hC.1.2.1.trans (by rw [fa_sn (by omega)])), (fu_ne (fun q => by omega)).trans (hC.1.2.2.1.trans (by rw [fa_sn (by omega)])), (fu_ne (fun q => by omega)).trans (hC.1.2.2.2.1.trans (by rw [fa_sn (by omega)])), (fu_ne (fun q => by omega)).trans (hC.1.2.2.2.2.1.trans (by rw [fa_sn (by omega)])), (fu_ne (fun q => by omega)).trans (hC.1.2.2.2.2.2.trans (by rw [fa_sn (by omega)]))⟩,
    fun l' hl' => (fu_ne (fun q => by omega)).trans ((hC.2.1 l' hl').trans (by rw [fa_sn (by omega)])),
    fun s' hs' => by
      by_cases e : s' = s
      · subst e; rw [fu_eq, fa_se]
      · rw [fu_ne (fun q => e q.2), fa_sn (by omega)]; exact hC.2.2.1 s' hs',
    fun s' hs' => (fu_ne (fun q => by omega)).trans ((hC.2.2.2.1 s' hs').trans (by rw [fa_sn (by omega)])),
    fun s' hs' k' hk' => by
      have h5 := h3 s' hs'
      have h6 : k' < A (20 + s') := by
        by_cases e : s' = s
        · subst e; rw [fa_se] at hk'; omega
        · rw [fa_sn (by omega)] at hk'; exact hk'
      rw [fu_ne (fun q => by omega), fa_sn (by omega)]
      exact hC.2.2.2.2.1 s' hs' k' h6,
    fun p' hp' => (fu_ne (fun q => by omega)).trans ((hC.2.2.2.2.2.1 p' hp').trans (by rw [fa_sn (by omega)])),
    fun m' hm' => (fu_ne (fun q => by omega)).trans ((hC.2.2.2.2.2.2 m' hm').trans (by rw [fa_sn (by omega)]))⟩, fun c' x' hn => (fu_ne (fun q => by omega)).trans (hF c' x' hn)⟩
theorem fa_st_c {h0 : kc_H} {A : Nat → Nat} {L : Nat} {h : kc_H} {s v : Nat} (hs : s < 6) (hL : L ≤ 10) (h3 : ∀ s, s < 6 → A (20 + s) ≤ 3) (hH : fa_Hc h0 A L h) : fa_Hc h0 (fa_s A (30 + s) v) L (kc_upd h (193) (s) (.inl (Int32.ofNat v))) := by
  obtain ⟨hw, hC, hF⟩ := hH
  refine ⟨fa_wa (fa_k2.2.2.1 s hs) hw, ⟨⟨(fu_ne (fun q => by omega)).trans (hC.1.1.trans (by rw [fa_sn (by omega)])), (fu_ne (fun q => by omega)).trans (hC.1.2.1.trans (by rw [fa_sn (by omega)])), (fu_ne (fun q => by omega)).trans (hC.1.2.2.1.trans (by rw [fa_sn (by omega)])), (fu_ne (fun q => by omega)).trans (hC.1.2.2.2.1.trans (by rw [fa_sn (by omega)])), (fu_ne (fun q => by omega)).trans (hC.1.2.2.2.2.1.trans (by rw [fa_sn (by omega)])), (fu_ne (fun q => by omega)).trans (hC.1.2.2.2.2.2.trans (by rw [fa_sn (by omega)]))⟩,
    fun l' hl' => (fu_ne (fun q => by omega)).trans ((hC.2.1 l' hl').trans (by rw [fa_sn (by omega)])),
    fun s' hs' => (fu_ne (fun q => by omega)).trans ((hC.2.2.1 s' hs').trans (by rw [fa_sn (by omega)])),
    fun s' hs' => by
      by_cases e : s' = s
      · subst e; rw [fu_eq, fa_se]
      · rw [fu_ne (fun q => e q.2), fa_sn (by omega)]; exact hC.2.2.2.1 s' hs',
    fun s' hs' k' hk' => by
      have h5 := h3 s' hs'
      rw [fa_sn (by omega)] at hk'
      rw [fu_ne (fun q => by omega), fa_sn (by omega)]
      exact hC.2.2.2.2.1 s' hs' k' hk',
    fun p' hp' => (fu_ne (fun q => by omega)).trans ((hC.2.2.2.2.2.1 p' hp').trans (by rw [fa_sn (by omega)])),
    fun m' hm' => (fu_ne (fun q => by omega)).trans ((hC.2.2.2.2.2.2 m' hm').trans (by rw [fa_sn (by omega)]))⟩, fun c' x' hn => (fu_ne (fun q => by omega)).trans (hF c' x' hn)⟩
theorem fa_li_c {h0 : kc_H} {A : Nat → Nat} {L : Nat} {h : kc_H} {p v : Nat} (hp : p < 6) (hL : L ≤ 10) (h3 : ∀ s, s < 6 → A (20 + s) ≤ 3) (hH : fa_Hc h0 A L h) : fa_Hc h0 (fa_s A (60 + p) v) L (kc_upd h (201) (p) (.inl (Int32.ofNat v))) := by
  obtain ⟨hw, hC, hF⟩ := hH
  refine ⟨fa_wa (fa_k2.2.2.2.2.1 p hp) hw, ⟨⟨(fu_ne (fun q => by omega)).trans (hC.1.1.trans (by rw [fa_sn (by omega)])), (fu_ne (fun q => by omega)).trans (hC.1.2.1.trans (by rw [fa_sn (by omega)])), (fu_ne (fun q => by omega)).trans (hC.1.2.2.1.trans (by rw [fa_sn (by omega)])), (fu_ne (fun q => by omega)).trans (hC.1.2.2.2.1.trans (by rw [fa_sn (by omega)])), (fu_ne (fun q => by omega)).trans (hC.1.2.2.2.2.1.trans (by rw [fa_sn (by omega)])), (fu_ne (fun q => by omega)).trans (hC.1.2.2.2.2.2.trans (by rw [fa_sn (by omega)]))⟩,
    fun l' hl' => (fu_ne (fun q => by omega)).trans ((hC.2.1 l' hl').trans (by rw [fa_sn (by omega)])),
    fun s' hs' => (fu_ne (fun q => by omega)).trans ((hC.2.2.1 s' hs').trans (by rw [fa_sn (by omega)])),
    fun s' hs' => (fu_ne (fun q => by omega)).trans ((hC.2.2.2.1 s' hs').trans (by rw [fa_sn (by omega)])),
    fun s' hs' k' hk' => by
      have h5 := h3 s' hs'
      rw [fa_sn (by omega)] at hk'
      rw [fu_ne (fun q => by omega), fa_sn (by omega)]
      exact hC.2.2.2.2.1 s' hs' k' hk',
    fun p' hp' => by
      by_cases e : p' = p
      · subst e; rw [fu_eq, fa_se]
      · rw [fu_ne (fun q => e q.2), fa_sn (by omega)]; exact hC.2.2.2.2.2.1 p' hp',
    fun m' hm' => (fu_ne (fun q => by omega)).trans ((hC.2.2.2.2.2.2 m' hm').trans (by rw [fa_sn (by omega)]))⟩, fun c' x' hn => (fu_ne (fun q => by omega)).trans (hF c' x' hn)⟩
theorem fa_so_c {h0 : kc_H} {A : Nat → Nat} {L : Nat} {h : kc_H} {m v : Nat} (hm : m < 3) (hL : L ≤ 10) (h3 : ∀ s, s < 6 → A (20 + s) ≤ 3) (hH : fa_Hc h0 A L h) : fa_Hc h0 (fa_s A (70 + m) v) L (kc_upd h (202) (m) (.inl (Int32.ofNat v))) := by
  obtain ⟨hw, hC, hF⟩ := hH
  refine ⟨fa_wa (fa_k2.2.2.2.2.2.1 m hm) hw, ⟨⟨(fu_ne (fun q => by omega)).trans (hC.1.1.trans (by rw [fa_sn (by omega)])), (fu_ne (fun q => by omega)).trans (hC.1.2.1.trans (by rw [fa_sn (by omega)])), (fu_ne (fun q => by omega)).trans (hC.1.2.2.1.trans (by rw [fa_sn (by omega)])), (fu_ne (fun q => by omega)).trans (hC.1.2.2.2.1.trans (by rw [fa_sn (by omega)])), (fu_ne (fun q => by omega)).trans (hC.1.2.2.2.2.1.trans (by rw [fa_sn (by omega)])), (fu_ne (fun q => by omega)).trans (hC.1.2.2.2.2.2.trans (by rw [fa_sn (by omega)]))⟩,
    fun l' hl' => (fu_ne (fun q => by omega)).trans ((hC.2.1 l' hl').trans (by rw [fa_sn (by omega)])),
    fun s' hs' => (fu_ne (fun q => by omega)).trans ((hC.2.2.1 s' hs').trans (by rw [fa_sn (by omega)])),
    fun s' hs' => (fu_ne (fun q => by omega)).trans ((hC.2.2.2.1 s' hs').trans (by rw [fa_sn (by omega)])),
    fun s' hs' k' hk' => by
      have h5 := h3 s' hs'
      rw [fa_sn (by omega)] at hk'
      rw [fu_ne (fun q => by omega), fa_sn (by omega)]
      exact hC.2.2.2.2.1 s' hs' k' hk',
    fun p' hp' => (fu_ne (fun q => by omega)).trans ((hC.2.2.2.2.2.1 p' hp').trans (by rw [fa_sn (by omega)])),
    fun m' hm' => by
      by_cases e : m' = m
      · subst e; rw [fu_eq, fa_se]
      · rw [fu_ne (fun q => e q.2), fa_sn (by omega)]; exact hC.2.2.2.2.2.2 m' hm'⟩, fun c' x' hn => (fu_ne (fun q => by omega)).trans (hF c' x' hn)⟩
theorem fa_n0_c {h0 : kc_H} {A : Nat → Nat} {L : Nat} {h : kc_H} {v : Nat} (hL : L ≤ 10) (h3 : ∀ s, s < 6 → A (20 + s) ≤ 3) (hH : fa_Hc h0 A L h) : fa_Hc h0 (fa_s A (0) v) L (kc_upd h (190) (2) (.inl (Int32.ofNat v))) := by
  obtain ⟨hw, hC, hF⟩ := hH
  refine ⟨fa_wa fa_k3.1 hw, ⟨⟨by rw [fu_eq, fa_se], (fu_ne (fun q => by omega)).trans (hC.1.2.1.trans (by rw [fa_sn (by omega)])), (fu_ne (fun q => by omega)).trans (hC.1.2.2.1.trans (by rw [fa_sn (by omega)])), (fu_ne (fun q => by omega)).trans (hC.1.2.2.2.1.trans (by rw [fa_sn (by omega)])), (fu_ne (fun q => by omega)).trans (hC.1.2.2.2.2.1.trans (by rw [fa_sn (by omega)])), (fu_ne (fun q => by omega)).trans (hC.1.2.2.2.2.2.trans (by rw [fa_sn (by omega)]))⟩,
    fun l' hl' => (fu_ne (fun q => by omega)).trans ((hC.2.1 l' hl').trans (by rw [fa_sn (by omega)])),
    fun s' hs' => (fu_ne (fun q => by omega)).trans ((hC.2.2.1 s' hs').trans (by rw [fa_sn (by omega)])),
    fun s' hs' => (fu_ne (fun q => by omega)).trans ((hC.2.2.2.1 s' hs').trans (by rw [fa_sn (by omega)])),
    fun s' hs' k' hk' => by
      have h5 := h3 s' hs'
      rw [fa_sn (by omega)] at hk'
      rw [fu_ne (fun q => by omega), fa_sn (by omega)]
      exact hC.2.2.2.2.1 s' hs' k' hk',
    fun p' hp' => (fu_ne (fun q => by omega)).trans ((hC.2.2.2.2.2.1 p' hp').trans (by rw [fa_sn (by omega)])),
    fun m' hm' => (fu_ne (fun q => by omega)).trans ((hC.2.2.2.2.2.2 m' hm').trans (by rw [fa_sn (by omega)]))⟩, fun c' x' hn => (fu_ne (fun q => by omega)).trans (hF c' x' hn)⟩
theorem fa_n1_c {h0 : kc_H} {A : Nat → Nat} {L : Nat} {h : kc_H} {v : Nat} (hL : L ≤ 10) (h3 : ∀ s, s < 6 → A (20 + s) ≤ 3) (hH : fa_Hc h0 A L h) : fa_Hc h0 (fa_s A (1) v) L (kc_upd h (190) (3) (.inl (Int32.ofNat v))) := by
  obtain ⟨hw, hC, hF⟩ := hH
  refine ⟨fa_wa fa_k3.2.1 hw, ⟨⟨(fu_ne (fun q => by omega)).trans (hC.1.1.trans (by rw [fa_sn (by omega)])), by rw [fu_eq, fa_se], (fu_ne (fun q => by omega)).trans (hC.1.2.2.1.trans (by rw [fa_sn (by omega)])), (fu_ne (fun q => by omega)).trans (hC.1.2.2.2.1.trans (by rw [fa_sn (by omega)])), (fu_ne (fun q => by omega)).trans (hC.1.2.2.2.2.1.trans (by rw [fa_sn (by omega)])), (fu_ne (fun q => by omega)).trans (hC.1.2.2.2.2.2.trans (by rw [fa_sn (by omega)]))⟩,
    fun l' hl' => (fu_ne (fun q => by omega)).trans ((hC.2.1 l' hl').trans (by rw [fa_sn (by omega)])),
    fun s' hs' => (fu_ne (fun q => by omega)).trans ((hC.2.2.1 s' hs').trans (by rw [fa_sn (by omega)])),
    fun s' hs' => (fu_ne (fun q => by omega)).trans ((hC.2.2.2.1 s' hs').trans (by rw [fa_sn (by omega)])),
    fun s' hs' k' hk' => by
      have h5 := h3 s' hs'
      rw [fa_sn (by omega)] at hk'
      rw [fu_ne (fun q => by omega), fa_sn (by omega)]
      exact hC.2.2.2.2.1 s' hs' k' hk',
    fun p' hp' => (fu_ne (fun q => by omega)).trans ((hC.2.2.2.2.2.1 p' hp').trans (by rw [fa_sn (by omega)])),
    fun m' hm' => (fu_ne (fun q => by omega)).trans ((hC.2.2.2.2.2.2 m' hm').trans (by rw [fa_sn (by omega)]))⟩, fun c' x' hn => (fu_ne (fun q => by omega)).trans (hF c' x' hn)⟩
theorem fa_n2_c {h0 : kc_H} {A : Nat → Nat} {L : Nat} {h : kc_H} {v : Nat} (hL : L ≤ 10) (h3 : ∀ s, s < 6 → A (20 + s) ≤ 3) (hH : fa_Hc h0 A L h) : fa_Hc h0 (fa_s A (2) v) L (kc_upd h (190) (4) (.inl (Int32.ofNat v))) := by
  obtain ⟨hw, hC, hF⟩ := hH
  refine ⟨fa_wa fa_k3.2.2.1 hw, ⟨⟨(fu_ne (fun q => by omega)).trans (hC.1.1.trans (by rw [fa_sn (by omega)])), (fu_ne (fun q => by omega)).trans (hC.1.2.1.trans (by rw [fa_sn (by omega)])), by rw [fu_eq, fa_se], (fu_ne (fun q => by omega)).trans (hC.1.2.2.2.1.trans (by rw [fa_sn (by omega)])), (fu_ne (fun q => by omega)).trans (hC.1.2.2.2.2.1.trans (by rw [fa_sn (by omega)])), (fu_ne (fun q => by omega)).trans (hC.1.2.2.2.2.2.trans (by rw [fa_sn (by omega)]))⟩,
    fun l' hl' => (fu_ne (fun q => by omega)).trans ((hC.2.1 l' hl').trans (by rw [fa_sn (by omega)])),
    fun s' hs' => (fu_ne (fun q => by omega)).trans ((hC.2.2.1 s' hs').trans (by rw [fa_sn (by omega)])),
    fun s' hs' => (fu_ne (fun q => by omega)).trans ((hC.2.2.2.1 s' hs').trans (by rw [fa_sn (by omega)])),
    fun s' hs' k' hk' => by
      have h5 := h3 s' hs'
      rw [fa_sn (by omega)] at hk'
      rw [fu_ne (fun q => by omega), fa_sn (by omega)]
      exact hC.2.2.2.2.1 s' hs' k' hk',
    fun p' hp' => (fu_ne (fun q => by omega)).trans ((hC.2.2.2.2.2.1 p' hp').trans (by rw [fa_sn (by omega)])),
    fun m' hm' => (fu_ne (fun q => by omega)).trans ((hC.2.2.2.2.2.2 m' hm').trans (by rw [fa_sn (by omega)]))⟩, fun c' x' hn => (fu_ne (fun q => by omega)).trans (hF c' x' hn)⟩
theorem fa_n3_c {h0 : kc_H} {A : Nat → Nat} {L : Nat} {h : kc_H} {v : Nat} (hL : L ≤ 10) (h3 : ∀ s, s < 6 → A (20 + s) ≤ 3) (hH : fa_Hc h0 A L h) : fa_Hc h0 (fa_s A (3) v) L (kc_upd h (190) (5) (.inl (Int32.ofNat v))) := by
  obtain ⟨hw, hC, hF⟩ := hH
  refine ⟨fa_wa fa_k3.2.2.2.1 hw, ⟨⟨(fu_ne (fun q => by omega)).trans (hC.1.1.trans (by rw [fa_sn (by omega)])), (fu_ne (fun q => by omega)).trans (hC.1.2.1.trans (by rw [fa_sn (by omega)])), (fu_ne (fun q => by omega)).trans (hC.1.2.2.1.trans (by rw [fa_sn (by omega)])), by rw [fu_eq, fa_se], (fu_ne (fun q => by omega)).trans (hC.1.2.2.2.2.1.trans (by rw [fa_sn (by omega)])), (fu_ne (fun q => by omega)).trans (hC.1.2.2.2.2.2.trans (by rw [fa_sn (by omega)]))⟩,
    fun l' hl' => (fu_ne (fun q => by omega)).trans ((hC.2.1 l' hl').trans (by rw [fa_sn (by omega)])),
    fun s' hs' => (fu_ne (fun q => by omega)).trans ((hC.2.2.1 s' hs').trans (by rw [fa_sn (by omega)])),
    fun s' hs' => (fu_ne (fun q => by omega)).trans ((hC.2.2.2.1 s' hs').trans (by rw [fa_sn (by omega)])),
    fun s' hs' k' hk' => by
      have h5 := h3 s' hs'
      rw [fa_sn (by omega)] at hk'
      rw [fu_ne (fun q => by omega), fa_sn (by omega)]
      exact hC.2.2.2.2.1 s' hs' k' hk',
    fun p' hp' => (fu_ne (fun q => by omega)).trans ((hC.2.2.2.2.2.1 p' hp').trans (by rw [fa_sn (by omega)])),
    fun m' hm' => (fu_ne (fun q => by omega)).trans ((hC.2.2.2.2.2.2 m' hm').trans (by rw [fa_sn (by omega)]))⟩, fun c' x' hn => (fu_ne (fun q => by omega)).trans (hF c' x' hn)⟩
theorem fa_n4_c {h0 : kc_H} {A : Nat → Nat} {L : Nat} {h : kc_H} {v : Nat} (hv : v ≤ 5) (hL : L ≤ 10) (h3 : ∀ s, s < 6 → A (20 + s) ≤ 3) (hH : fa_Hc h0 A L h) : fa_Hc h0 (fa_s A (4) v) L (kc_upd h (190) (6) (.inl (Int32.ofNat v))) := by
  obtain ⟨hw, hC, hF⟩ := hH
  refine ⟨fa_wn fa_k3.2.2.2.2.1 hv (by decide) hw, ⟨⟨(fu_ne (fun q => by omega)).trans (hC.1.1.trans (by rw [fa_sn (by omega)])), (fu_ne (fun q => by omega)).trans (hC.1.2.1.trans (by rw [fa_sn (by omega)])), (fu_ne (fun q => by omega)).trans (hC.1.2.2.1.trans (by rw [fa_sn (by omega)])), (fu_ne (fun q => by omega)).trans (hC.1.2.2.2.1.trans (by rw [fa_sn (by omega)])), by rw [fu_eq, fa_se], (fu_ne (fun q => by omega)).trans (hC.1.2.2.2.2.2.trans (by rw [fa_sn (by omega)]))⟩,
    fun l' hl' => (fu_ne (fun q => by omega)).trans ((hC.2.1 l' hl').trans (by rw [fa_sn (by omega)])),
    fun s' hs' => (fu_ne (fun q => by omega)).trans ((hC.2.2.1 s' hs').trans (by rw [fa_sn (by omega)])),
    fun s' hs' => (fu_ne (fun q => by omega)).trans ((hC.2.2.2.1 s' hs').trans (by rw [fa_sn (by omega)])),
    fun s' hs' k' hk' => by
      have h5 := h3 s' hs'
      rw [fa_sn (by omega)] at hk'
      rw [fu_ne (fun q => by omega), fa_sn (by omega)]
      exact hC.2.2.2.2.1 s' hs' k' hk',
    fun p' hp' => (fu_ne (fun q => by omega)).trans ((hC.2.2.2.2.2.1 p' hp').trans (by rw [fa_sn (by omega)])),
    fun m' hm' => (fu_ne (fun q => by omega)).trans ((hC.2.2.2.2.2.2 m' hm').trans (by rw [fa_sn (by omega)]))⟩, fun c' x' hn => (fu_ne (fun q => by omega)).trans (hF c' x' hn)⟩
theorem fa_n5_c {h0 : kc_H} {A : Nat → Nat} {L : Nat} {h : kc_H} {v : Nat} (hL : L ≤ 10) (h3 : ∀ s, s < 6 → A (20 + s) ≤ 3) (hH : fa_Hc h0 A L h) : fa_Hc h0 (fa_s A (5) v) L (kc_upd h (190) (14) (.inl (Int32.ofNat v))) := by
  obtain ⟨hw, hC, hF⟩ := hH
  refine ⟨fa_wa fa_k3.2.2.2.2.2 hw, ⟨⟨(fu_ne (fun q => by omega)).trans (hC.1.1.trans (by rw [fa_sn (by omega)])), (fu_ne (fun q => by omega)).trans (hC.1.2.1.trans (by rw [fa_sn (by omega)])), (fu_ne (fun q => by omega)).trans (hC.1.2.2.1.trans (by rw [fa_sn (by omega)])), (fu_ne (fun q => by omega)).trans (hC.1.2.2.2.1.trans (by rw [fa_sn (by omega)])), (fu_ne (fun q => by omega)).trans (hC.1.2.2.2.2.1.trans (by rw [fa_sn (by omega)])), by rw [fu_eq, fa_se]⟩,
    fun l' hl' => (fu_ne (fun q => by omega)).trans ((hC.2.1 l' hl').trans (by rw [fa_sn (by omega)])),
    fun s' hs' => (fu_ne (fun q => by omega)).trans ((hC.2.2.1 s' hs').trans (by rw [fa_sn (by omega)])),
    fun s' hs' => (fu_ne (fun q => by omega)).trans ((hC.2.2.2.1 s' hs').trans (by rw [fa_sn (by omega)])),
    fun s' hs' k' hk' => by
      have h5 := h3 s' hs'
      rw [fa_sn (by omega)] at hk'
      rw [fu_ne (fun q => by omega), fa_sn (by omega)]
      exact hC.2.2.2.2.1 s' hs' k' hk',
    fun p' hp' => (fu_ne (fun q => by omega)).trans ((hC.2.2.2.2.2.1 p' hp').trans (by rw [fa_sn (by omega)])),
    fun m' hm' => (fu_ne (fun q => by omega)).trans ((hC.2.2.2.2.2.2 m' hm').trans (by rw [fa_sn (by omega)]))⟩, fun c' x' hn => (fu_ne (fun q => by omega)).trans (hF c' x' hn)⟩
theorem fa_pu_c {h0 : kc_H} {A : Nat → Nat} {L : Nat} {h : kc_H} {s k v : Nat} (hs : s < 6) (hk : A (20 + s) = k) (h4 : k < 3) (hv : v ≤ 9) (hL : L ≤ 10) (h3 : ∀ s, s < 6 → A (20 + s) ≤ 3) (hH : fa_Hc h0 A L h) : fa_Hc h0 (fa_s (fa_s A (40 + 3 * s + k) v) (20 + s) (k + 1)) L (kc_upd (kc_upd h (195 + s) (k) (.inl (Int32.ofNat v))) (192) (s) (.inl (Int32.ofNat (k + 1)))) := by
  obtain ⟨hw, hC, hF⟩ := hH
  refine ⟨fa_wn (fa_k2.2.1 s hs) (show k + 1 ≤ 3 by omega) (by decide) (fa_wn (fa_k2.2.2.2.1 s hs k h4) hv (by decide) hw), ⟨⟨by rw [fu_ne (fun q => by omega), fu_ne (fun q => by omega), fa_sn (by omega), fa_sn (by omega)]; exact hC.1.1, by rw [fu_ne (fun q => by omega), fu_ne (fun q => by omega), fa_sn (by omega), fa_sn (by omega)]; exact hC.1.2.1, by rw [fu_ne (fun q => by omega), fu_ne (fun q => by omega), fa_sn (by omega), fa_sn (by omega)]; exact hC.1.2.2.1, by rw [fu_ne (fun q => by omega), fu_ne (fun q => by omega), fa_sn (by omega), fa_sn (by omega)]; exact hC.1.2.2.2.1, by rw [fu_ne (fun q => by omega), fu_ne (fun q => by omega), fa_sn (by omega), fa_sn (by omega)]; exact hC.1.2.2.2.2.1, by rw [fu_ne (fun q => by omega), fu_ne (fun q => by omega), fa_sn (by omega), fa_sn (by omega)]; exact hC.1.2.2.2.2.2⟩,
    fun l' hl' => by rw [fu_ne (fun q => by omega), fu_ne (fun q => by omega), fa_sn (by omega), fa_sn (by omega)]; exact hC.2.1 l' hl',
    fun s' hs' => by
      by_cases e : s' = s
      · subst e; rw [fu_eq, fa_se]
      · rw [fu_ne (fun q => e q.2), fu_ne (fun q => by omega), fa_sn (by omega), fa_sn (by omega)]; exact hC.2.2.1 s' hs',
    fun s' hs' => by rw [fu_ne (fun q => by omega), fu_ne (fun q => by omega), fa_sn (by omega), fa_sn (by omega)]; exact hC.2.2.2.1 s' hs',
    fun s' hs' k' hk' => by
      have h5 := h3 s' hs'
      by_cases e : s' = s
      · subst e
        rw [fa_se] at hk'
        rw [fu_ne (fun q => by omega), fa_sn (by omega)]
        by_cases e2 : k' = k
        · subst e2; rw [fu_eq, fa_se]
        · rw [fu_ne (fun q => by omega), fa_sn (by omega)]; exact hC.2.2.2.2.1 s' hs' k' (by omega)
      · rw [fa_sn (by omega), fa_sn (by omega)] at hk'
        rw [fu_ne (fun q => by omega), fu_ne (fun q => by omega), fa_sn (by omega), fa_sn (by omega)]
        exact hC.2.2.2.2.1 s' hs' k' hk',
    fun p' hp' => by rw [fu_ne (fun q => by omega), fu_ne (fun q => by omega), fa_sn (by omega), fa_sn (by omega)]; exact hC.2.2.2.2.2.1 p' hp',
    fun m' hm' => by rw [fu_ne (fun q => by omega), fu_ne (fun q => by omega), fa_sn (by omega), fa_sn (by omega)]; exact hC.2.2.2.2.2.2 m' hm'⟩, fun c' x' hn => (fu_ne (fun q => by omega)).trans ((fu_ne (fun q => by omega)).trans (hF c' x' hn))⟩
theorem fa_at_r {h0 : kc_H} {A : Nat → Nat} {L : Nat} {h : kc_H} {l v : Nat} (hl : l < L) (hL : L ≤ 10) (h3 : ∀ s, s < 6 → A (20 + s) ≤ 3) (hH : fa_Hr h0 A L h) : fa_Hr h0 (fa_s A (10 + l) v) L (kc_upd h (266) (l) (.inl (Int32.ofNat v))) := by
  obtain ⟨hw, hC, hF⟩ := hH
  refine ⟨fa_wa (fa_k4.1 l (by omega)) hw, ⟨⟨(fu_ne (fun q => by omega)).trans (hC.1.1.trans (by rw [fa_sn (by omega)])), (fu_ne (fun q => by omega)).trans (hC.1.2.1.trans (by rw [fa_sn (by omega)])), (fu_ne (fun q => by omega)).trans (hC.1.2.2.1.trans (by rw [fa_sn (by omega)])), (fu_ne (fun q => by omega)).trans (hC.1.2.2.2.1.trans (by rw [fa_sn (by omega)])), (fu_ne (fun q => by omega)).trans (hC.1.2.2.2.2.1.trans (by rw [fa_sn (by omega)])), (fu_ne (fun q => by omega)).trans (hC.1.2.2.2.2.2.trans (by rw [fa_sn (by omega)]))⟩,
    fun l' hl' => by
      by_cases e : l' = l
      · subst e; rw [fu_eq, fa_se]
      · rw [fu_ne (fun q => e q.2), fa_sn (by omega)]; exact hC.2.1 l' hl',
    fun s' hs' => (fu_ne (fun q => by omega)).trans ((hC.2.2.1 s' hs').trans (by rw [fa_sn (by omega)])),
    fun s' hs' => (fu_ne (fun q => by omega)).trans ((hC.2.2.2.1 s' hs').trans (by rw [fa_sn (by omega)])),
    fun s' hs' k' hk' => by
      have h5 := h3 s' hs'
      rw [fa_sn (by omega)] at hk'
      rw [fu_ne (fun q => by omega), fa_sn (by omega)]
      exact hC.2.2.2.2.1 s' hs' k' hk',
    fun p' hp' => (fu_ne (fun q => by omega)).trans ((hC.2.2.2.2.2.1 p' hp').trans (by rw [fa_sn (by omega)])),
    fun m' hm' => (fu_ne (fun q => by omega)).trans ((hC.2.2.2.2.2.2 m' hm').trans (by rw [fa_sn (by omega)]))⟩, fun c' x' hn hm => (fu_ne (fun q => by omega)).trans (hF c' x' hn hm)⟩
theorem fa_lo_r {h0 : kc_H} {A : Nat → Nat} {L : Nat} {h : kc_H} {s v : Nat} (hs : s < 6) (hv : v ≤ A (20 + s)) (hL : L ≤ 10) (h3 : ∀ s, s < 6 → A (20 + s) ≤ 3) (hH : fa_Hr h0 A L h) : fa_Hr h0 (fa_s A (20 + s) v) L (kc_upd h (268) (s) (.inl (Int32.ofNat v))) := by
  obtain ⟨hw, hC, hF⟩ := hH
  refine ⟨fa_wn (fa_k4.2.1 s hs) (Nat.le_trans hv (h3 s hs)) (by decide) hw, ⟨⟨(fu_ne (fun q => by omega)).trans (hC.1.1.trans (by rw [fa_sn (by omega)])), (fu_ne (fun q => by omega)).trans (hC.1.2.1.trans (by rw [fa_sn (by omega)])), (fu_ne (fun q => by omega)).trans (hC.1.2.2.1.trans (by rw [fa_sn (by omega)])), (fu_ne (fun q => by omega)).trans (hC.1.2.2.2.1.trans (by rw [fa_sn (by omega)])), (fu_ne (fun q => by omega)).trans (hC.1.2.2.2.2.1.trans (by rw [fa_sn (by omega)])), (fu_ne (fun q => by omega)).trans (hC.1.2.2.2.2.2.trans (by rw [fa_sn (by omega)]))⟩,
    fun l' hl' => (fu_ne (fun q => by omega)).trans ((hC.2.1 l' hl').trans (by rw [fa_sn (by omega)])),
    fun s' hs' => by
      by_cases e : s' = s
      · subst e; rw [fu_eq, fa_se]
      · rw [fu_ne (fun q => e q.2), fa_sn (by omega)]; exact hC.2.2.1 s' hs',
    fun s' hs' => (fu_ne (fun q => by omega)).trans ((hC.2.2.2.1 s' hs').trans (by rw [fa_sn (by omega)])),
    fun s' hs' k' hk' => by
      have h5 := h3 s' hs'
      have h6 : k' < A (20 + s') := by
        by_cases e : s' = s
        · subst e; rw [fa_se] at hk'; omega
        · rw [fa_sn (by omega)] at hk'; exact hk'
      rw [fu_ne (fun q => by omega), fa_sn (by omega)]
      exact hC.2.2.2.2.1 s' hs' k' h6,
    fun p' hp' => (fu_ne (fun q => by omega)).trans ((hC.2.2.2.2.2.1 p' hp').trans (by rw [fa_sn (by omega)])),
    fun m' hm' => (fu_ne (fun q => by omega)).trans ((hC.2.2.2.2.2.2 m' hm').trans (by rw [fa_sn (by omega)]))⟩, fun c' x' hn hm => (fu_ne (fun q => by omega)).trans (hF c' x' hn hm)⟩
theorem fa_st_r {h0 : kc_H} {A : Nat → Nat} {L : Nat} {h : kc_H} {s v : Nat} (hs : s < 6) (hL : L ≤ 10) (h3 : ∀ s, s < 6 → A (20 + s) ≤ 3) (hH : fa_Hr h0 A L h) : fa_Hr h0 (fa_s A (30 + s) v) L (kc_upd h (269) (s) (.inl (Int32.ofNat v))) := by
  obtain ⟨hw, hC, hF⟩ := hH
  refine ⟨fa_wa (fa_k4.2.2.1 s hs) hw, ⟨⟨(fu_ne (fun q => by omega)).trans (hC.1.1.trans (by rw [fa_sn (by omega)])), (fu_ne (fun q => by omega)).trans (hC.1.2.1.trans (by rw [fa_sn (by omega)])), (fu_ne (fun q => by omega)).trans (hC.1.2.2.1.trans (by rw [fa_sn (by omega)])), (fu_ne (fun q => by omega)).trans (hC.1.2.2.2.1.trans (by rw [fa_sn (by omega)])), (fu_ne (fun q => by omega)).trans (hC.1.2.2.2.2.1.trans (by rw [fa_sn (by omega)])), (fu_ne (fun q => by omega)).trans (hC.1.2.2.2.2.2.trans (by rw [fa_sn (by omega)]))⟩,
    fun l' hl' => (fu_ne (fun q => by omega)).trans ((hC.2.1 l' hl').trans (by rw [fa_sn (by omega)])),
    fun s' hs' => (fu_ne (fun q => by omega)).trans ((hC.2.2.1 s' hs').trans (by rw [fa_sn (by omega)])),
    fun s' hs' => by
      by_cases e : s' = s
      · subst e; rw [fu_eq, fa_se]
      · rw [fu_ne (fun q => e q.2), fa_sn (by omega)]; exact hC.2.2.2.1 s' hs',
    fun s' hs' k' hk' => by
      have h5 := h3 s' hs'
      rw [fa_sn (by omega)] at hk'
      rw [fu_ne (fun q => by omega), fa_sn (by omega)]
      exact hC.2.2.2.2.1 s' hs' k' hk',
    fun p' hp' => (fu_ne (fun q => by omega)).trans ((hC.2.2.2.2.2.1 p' hp').trans (by rw [fa_sn (by omega)])),
    fun m' hm' => (fu_ne (fun q => by omega)).trans ((hC.2.2.2.2.2.2 m' hm').trans (by rw [fa_sn (by omega)]))⟩, fun c' x' hn hm => (fu_ne (fun q => by omega)).trans (hF c' x' hn hm)⟩
theorem fa_li_r {h0 : kc_H} {A : Nat → Nat} {L : Nat} {h : kc_H} {p v : Nat} (hp : p < 6) (hL : L ≤ 10) (h3 : ∀ s, s < 6 → A (20 + s) ≤ 3) (hH : fa_Hr h0 A L h) : fa_Hr h0 (fa_s A (60 + p) v) L (kc_upd h (270) (p) (.inl (Int32.ofNat v))) := by
  obtain ⟨hw, hC, hF⟩ := hH
  refine ⟨fa_wa (fa_k4.2.2.2.2.1 p hp) hw, ⟨⟨(fu_ne (fun q => by omega)).trans (hC.1.1.trans (by rw [fa_sn (by omega)])), (fu_ne (fun q => by omega)).trans (hC.1.2.1.trans (by rw [fa_sn (by omega)])), (fu_ne (fun q => by omega)).trans (hC.1.2.2.1.trans (by rw [fa_sn (by omega)])), (fu_ne (fun q => by omega)).trans (hC.1.2.2.2.1.trans (by rw [fa_sn (by omega)])), (fu_ne (fun q => by omega)).trans (hC.1.2.2.2.2.1.trans (by rw [fa_sn (by omega)])), (fu_ne (fun q => by omega)).trans (hC.1.2.2.2.2.2.trans (by rw [fa_sn (by omega)]))⟩,
    fun l' hl' => (fu_ne (fun q => by omega)).trans ((hC.2.1 l' hl').trans (by rw [fa_sn (by omega)])),
    fun s' hs' => (fu_ne (fun q => by omega)).trans ((hC.2.2.1 s' hs').trans (by rw [fa_sn (by omega)])),
    fun s' hs' => (fu_ne (fun q => by omega)).trans ((hC.2.2.2.1 s' hs').trans (by rw [fa_sn (by omega)])),
    fun s' hs' k' hk' => by
      have h5 := h3 s' hs'
      rw [fa_sn (by omega)] at hk'
      rw [fu_ne (fun q => by omega), fa_sn (by omega)]
      exact hC.2.2.2.2.1 s' hs' k' hk',
    fun p' hp' => by
      by_cases e : p' = p
      · subst e; rw [fu_eq, fa_se]
      · rw [fu_ne (fun q => e q.2), fa_sn (by omega)]; exact hC.2.2.2.2.2.1 p' hp',
    fun m' hm' => (fu_ne (fun q => by omega)).trans ((hC.2.2.2.2.2.2 m' hm').trans (by rw [fa_sn (by omega)]))⟩, fun c' x' hn hm => (fu_ne (fun q => by omega)).trans (hF c' x' hn hm)⟩
theorem fa_so_r {h0 : kc_H} {A : Nat → Nat} {L : Nat} {h : kc_H} {m v : Nat} (hm : m < 3) (hL : L ≤ 10) (h3 : ∀ s, s < 6 → A (20 + s) ≤ 3) (hH : fa_Hr h0 A L h) : fa_Hr h0 (fa_s A (70 + m) v) L (kc_upd h (271) (m) (.inl (Int32.ofNat v))) := by
  obtain ⟨hw, hC, hF⟩ := hH
  refine ⟨fa_wa (fa_k4.2.2.2.2.2 m hm) hw, ⟨⟨(fu_ne (fun q => by omega)).trans (hC.1.1.trans (by rw [fa_sn (by omega)])), (fu_ne (fun q => by omega)).trans (hC.1.2.1.trans (by rw [fa_sn (by omega)])), (fu_ne (fun q => by omega)).trans (hC.1.2.2.1.trans (by rw [fa_sn (by omega)])), (fu_ne (fun q => by omega)).trans (hC.1.2.2.2.1.trans (by rw [fa_sn (by omega)])), (fu_ne (fun q => by omega)).trans (hC.1.2.2.2.2.1.trans (by rw [fa_sn (by omega)])), (fu_ne (fun q => by omega)).trans (hC.1.2.2.2.2.2.trans (by rw [fa_sn (by omega)]))⟩,
    fun l' hl' => (fu_ne (fun q => by omega)).trans ((hC.2.1 l' hl').trans (by rw [fa_sn (by omega)])),
    fun s' hs' => (fu_ne (fun q => by omega)).trans ((hC.2.2.1 s' hs').trans (by rw [fa_sn (by omega)])),
    fun s' hs' => (fu_ne (fun q => by omega)).trans ((hC.2.2.2.1 s' hs').trans (by rw [fa_sn (by omega)])),
    fun s' hs' k' hk' => by
      have h5 := h3 s' hs'
      rw [fa_sn (by omega)] at hk'
      rw [fu_ne (fun q => by omega), fa_sn (by omega)]
      exact hC.2.2.2.2.1 s' hs' k' hk',
    fun p' hp' => (fu_ne (fun q => by omega)).trans ((hC.2.2.2.2.2.1 p' hp').trans (by rw [fa_sn (by omega)])),
    fun m' hm' => by
      by_cases e : m' = m
      · subst e; rw [fu_eq, fa_se]
      · rw [fu_ne (fun q => e q.2), fa_sn (by omega)]; exact hC.2.2.2.2.2.2 m' hm'⟩, fun c' x' hn hm => (fu_ne (fun q => by omega)).trans (hF c' x' hn hm)⟩
theorem fa_n0_r {h0 : kc_H} {A : Nat → Nat} {L : Nat} {h : kc_H} {v : Nat} (hv : v ≤ 240) (hL : L ≤ 10) (h3 : ∀ s, s < 6 → A (20 + s) ≤ 3) (hH : fa_Hr h0 A L h) : fa_Hr h0 (fa_s A (0) v) L (kc_upd h (259) (24) (.inl (Int32.ofNat v))) := by
  obtain ⟨hw, hC, hF⟩ := hH
  refine ⟨fa_wn fa_k5.1 hv (by decide) hw, ⟨⟨by rw [fu_eq, fa_se], (fu_ne (fun q => by omega)).trans (hC.1.2.1.trans (by rw [fa_sn (by omega)])), (fu_ne (fun q => by omega)).trans (hC.1.2.2.1.trans (by rw [fa_sn (by omega)])), (fu_ne (fun q => by omega)).trans (hC.1.2.2.2.1.trans (by rw [fa_sn (by omega)])), (fu_ne (fun q => by omega)).trans (hC.1.2.2.2.2.1.trans (by rw [fa_sn (by omega)])), (fu_ne (fun q => by omega)).trans (hC.1.2.2.2.2.2.trans (by rw [fa_sn (by omega)]))⟩,
    fun l' hl' => (fu_ne (fun q => by omega)).trans ((hC.2.1 l' hl').trans (by rw [fa_sn (by omega)])),
    fun s' hs' => (fu_ne (fun q => by omega)).trans ((hC.2.2.1 s' hs').trans (by rw [fa_sn (by omega)])),
    fun s' hs' => (fu_ne (fun q => by omega)).trans ((hC.2.2.2.1 s' hs').trans (by rw [fa_sn (by omega)])),
    fun s' hs' k' hk' => by
      have h5 := h3 s' hs'
      rw [fa_sn (by omega)] at hk'
      rw [fu_ne (fun q => by omega), fa_sn (by omega)]
      exact hC.2.2.2.2.1 s' hs' k' hk',
    fun p' hp' => (fu_ne (fun q => by omega)).trans ((hC.2.2.2.2.2.1 p' hp').trans (by rw [fa_sn (by omega)])),
    fun m' hm' => (fu_ne (fun q => by omega)).trans ((hC.2.2.2.2.2.2 m' hm').trans (by rw [fa_sn (by omega)]))⟩, fun c' x' hn hm => (fu_ne (fun q => by omega)).trans (hF c' x' hn hm)⟩
theorem fa_n1_r {h0 : kc_H} {A : Nat → Nat} {L : Nat} {h : kc_H} {v : Nat} (hL : L ≤ 10) (h3 : ∀ s, s < 6 → A (20 + s) ≤ 3) (hH : fa_Hr h0 A L h) : fa_Hr h0 (fa_s A (1) v) L (kc_upd h (259) (25) (.inl (Int32.ofNat v))) := by
  obtain ⟨hw, hC, hF⟩ := hH
  refine ⟨fa_wa fa_k5.2.1 hw, ⟨⟨(fu_ne (fun q => by omega)).trans (hC.1.1.trans (by rw [fa_sn (by omega)])), by rw [fu_eq, fa_se], (fu_ne (fun q => by omega)).trans (hC.1.2.2.1.trans (by rw [fa_sn (by omega)])), (fu_ne (fun q => by omega)).trans (hC.1.2.2.2.1.trans (by rw [fa_sn (by omega)])), (fu_ne (fun q => by omega)).trans (hC.1.2.2.2.2.1.trans (by rw [fa_sn (by omega)])), (fu_ne (fun q => by omega)).trans (hC.1.2.2.2.2.2.trans (by rw [fa_sn (by omega)]))⟩,
    fun l' hl' => (fu_ne (fun q => by omega)).trans ((hC.2.1 l' hl').trans (by rw [fa_sn (by omega)])),
    fun s' hs' => (fu_ne (fun q => by omega)).trans ((hC.2.2.1 s' hs').trans (by rw [fa_sn (by omega)])),
    fun s' hs' => (fu_ne (fun q => by omega)).trans ((hC.2.2.2.1 s' hs').trans (by rw [fa_sn (by omega)])),
    fun s' hs' k' hk' => by
      have h5 := h3 s' hs'
      rw [fa_sn (by omega)] at hk'
      rw [fu_ne (fun q => by omega), fa_sn (by omega)]
      exact hC.2.2.2.2.1 s' hs' k' hk',
    fun p' hp' => (fu_ne (fun q => by omega)).trans ((hC.2.2.2.2.2.1 p' hp').trans (by rw [fa_sn (by omega)])),
    fun m' hm' => (fu_ne (fun q => by omega)).trans ((hC.2.2.2.2.2.2 m' hm').trans (by rw [fa_sn (by omega)]))⟩, fun c' x' hn hm => (fu_ne (fun q => by omega)).trans (hF c' x' hn hm)⟩
theorem fa_n2_r {h0 : kc_H} {A : Nat → Nat} {L : Nat} {h : kc_H} {v : Nat} (hL : L ≤ 10) (h3 : ∀ s, s < 6 → A (20 + s) ≤ 3) (hH : fa_Hr h0 A L h) : fa_Hr h0 (fa_s A (2) v) L (kc_upd h (259) (22) (.inl (Int32.ofNat v))) := by
  obtain ⟨hw, hC, hF⟩ := hH
  refine ⟨fa_wa fa_k5.2.2.1 hw, ⟨⟨(fu_ne (fun q => by omega)).trans (hC.1.1.trans (by rw [fa_sn (by omega)])), (fu_ne (fun q => by omega)).trans (hC.1.2.1.trans (by rw [fa_sn (by omega)])), by rw [fu_eq, fa_se], (fu_ne (fun q => by omega)).trans (hC.1.2.2.2.1.trans (by rw [fa_sn (by omega)])), (fu_ne (fun q => by omega)).trans (hC.1.2.2.2.2.1.trans (by rw [fa_sn (by omega)])), (fu_ne (fun q => by omega)).trans (hC.1.2.2.2.2.2.trans (by rw [fa_sn (by omega)]))⟩,
    fun l' hl' => (fu_ne (fun q => by omega)).trans ((hC.2.1 l' hl').trans (by rw [fa_sn (by omega)])),
    fun s' hs' => (fu_ne (fun q => by omega)).trans ((hC.2.2.1 s' hs').trans (by rw [fa_sn (by omega)])),
    fun s' hs' => (fu_ne (fun q => by omega)).trans ((hC.2.2.2.1 s' hs').trans (by rw [fa_sn (by omega)])),
    fun s' hs' k' hk' => by
      have h5 := h3 s' hs'
      rw [fa_sn (by omega)] at hk'
      rw [fu_ne (fun q => by omega), fa_sn (by omega)]
      exact hC.2.2.2.2.1 s' hs' k' hk',
    fun p' hp' => (fu_ne (fun q => by omega)).trans ((hC.2.2.2.2.2.1 p' hp').trans (by rw [fa_sn (by omega)])),
    fun m' hm' => (fu_ne (fun q => by omega)).trans ((hC.2.2.2.2.2.2 m' hm').trans (by rw [fa_sn (by omega)]))⟩, fun c' x' hn hm => (fu_ne (fun q => by omega)).trans (hF c' x' hn hm)⟩
theorem fa_n3_r {h0 : kc_H} {A : Nat → Nat} {L : Nat} {h : kc_H} {v : Nat} (hL : L ≤ 10) (h3 : ∀ s, s < 6 → A (20 + s) ≤ 3) (hH : fa_Hr h0 A L h) : fa_Hr h0 (fa_s A (3) v) L (kc_upd h (259) (23) (.inl (Int32.ofNat v))) := by
  obtain ⟨hw, hC, hF⟩ := hH
  refine ⟨fa_wa fa_k5.2.2.2.1 hw, ⟨⟨(fu_ne (fun q => by omega)).trans (hC.1.1.trans (by rw [fa_sn (by omega)])), (fu_ne (fun q => by omega)).trans (hC.1.2.1.trans (by rw [fa_sn (by omega)])), (fu_ne (fun q => by omega)).trans (hC.1.2.2.1.trans (by rw [fa_sn (by omega)])), by rw [fu_eq, fa_se], (fu_ne (fun q => by omega)).trans (hC.1.2.2.2.2.1.trans (by rw [fa_sn (by omega)])), (fu_ne (fun q => by omega)).trans (hC.1.2.2.2.2.2.trans (by rw [fa_sn (by omega)]))⟩,
    fun l' hl' => (fu_ne (fun q => by omega)).trans ((hC.2.1 l' hl').trans (by rw [fa_sn (by omega)])),
    fun s' hs' => (fu_ne (fun q => by omega)).trans ((hC.2.2.1 s' hs').trans (by rw [fa_sn (by omega)])),
    fun s' hs' => (fu_ne (fun q => by omega)).trans ((hC.2.2.2.1 s' hs').trans (by rw [fa_sn (by omega)])),
    fun s' hs' k' hk' => by
      have h5 := h3 s' hs'
      rw [fa_sn (by omega)] at hk'
      rw [fu_ne (fun q => by omega), fa_sn (by omega)]
      exact hC.2.2.2.2.1 s' hs' k' hk',
    fun p' hp' => (fu_ne (fun q => by omega)).trans ((hC.2.2.2.2.2.1 p' hp').trans (by rw [fa_sn (by omega)])),
    fun m' hm' => (fu_ne (fun q => by omega)).trans ((hC.2.2.2.2.2.2 m' hm').trans (by rw [fa_sn (by omega)]))⟩, fun c' x' hn hm => (fu_ne (fun q => by omega)).trans (hF c' x' hn hm)⟩
theorem fa_n4_r {h0 : kc_H} {A : Nat → Nat} {L : Nat} {h : kc_H} {v : Nat} (hv : v ≤ 5) (hL : L ≤ 10) (h3 : ∀ s, s < 6 → A (20 + s) ≤ 3) (hH : fa_Hr h0 A L h) : fa_Hr h0 (fa_s A (4) v) L (kc_upd h (259) (20) (.inl (Int32.ofNat v))) := by
  obtain ⟨hw, hC, hF⟩ := hH
  refine ⟨fa_wn fa_k5.2.2.2.2.1 hv (by decide) hw, ⟨⟨(fu_ne (fun q => by omega)).trans (hC.1.1.trans (by rw [fa_sn (by omega)])), (fu_ne (fun q => by omega)).trans (hC.1.2.1.trans (by rw [fa_sn (by omega)])), (fu_ne (fun q => by omega)).trans (hC.1.2.2.1.trans (by rw [fa_sn (by omega)])), (fu_ne (fun q => by omega)).trans (hC.1.2.2.2.1.trans (by rw [fa_sn (by omega)])), by rw [fu_eq, fa_se], (fu_ne (fun q => by omega)).trans (hC.1.2.2.2.2.2.trans (by rw [fa_sn (by omega)]))⟩,
    fun l' hl' => (fu_ne (fun q => by omega)).trans ((hC.2.1 l' hl').trans (by rw [fa_sn (by omega)])),
    fun s' hs' => (fu_ne (fun q => by omega)).trans ((hC.2.2.1 s' hs').trans (by rw [fa_sn (by omega)])),
    fun s' hs' => (fu_ne (fun q => by omega)).trans ((hC.2.2.2.1 s' hs').trans (by rw [fa_sn (by omega)])),
    fun s' hs' k' hk' => by
      have h5 := h3 s' hs'
      rw [fa_sn (by omega)] at hk'
      rw [fu_ne (fun q => by omega), fa_sn (by omega)]
      exact hC.2.2.2.2.1 s' hs' k' hk',
    fun p' hp' => (fu_ne (fun q => by omega)).trans ((hC.2.2.2.2.2.1 p' hp').trans (by rw [fa_sn (by omega)])),
    fun m' hm' => (fu_ne (fun q => by omega)).trans ((hC.2.2.2.2.2.2 m' hm').trans (by rw [fa_sn (by omega)]))⟩, fun c' x' hn hm => (fu_ne (fun q => by omega)).trans (hF c' x' hn hm)⟩
theorem fa_n5_r {h0 : kc_H} {A : Nat → Nat} {L : Nat} {h : kc_H} {v : Nat} (hL : L ≤ 10) (h3 : ∀ s, s < 6 → A (20 + s) ≤ 3) (hH : fa_Hr h0 A L h) : fa_Hr h0 (fa_s A (5) v) L (kc_upd h (259) (21) (.inl (Int32.ofNat v))) := by
  obtain ⟨hw, hC, hF⟩ := hH
  refine ⟨fa_wa fa_k5.2.2.2.2.2 hw, ⟨⟨(fu_ne (fun q => by omega)).trans (hC.1.1.trans (by rw [fa_sn (by omega)])), (fu_ne (fun q => by omega)).trans (hC.1.2.1.trans (by rw [fa_sn (by omega)])), (fu_ne (fun q => by omega)).trans (hC.1.2.2.1.trans (by rw [fa_sn (by omega)])), (fu_ne (fun q => by omega)).trans (hC.1.2.2.2.1.trans (by rw [fa_sn (by omega)])), (fu_ne (fun q => by omega)).trans (hC.1.2.2.2.2.1.trans (by rw [fa_sn (by omega)])), by rw [fu_eq, fa_se]⟩,
    fun l' hl' => (fu_ne (fun q => by omega)).trans ((hC.2.1 l' hl').trans (by rw [fa_sn (by omega)])),
    fun s' hs' => (fu_ne (fun q => by omega)).trans ((hC.2.2.1 s' hs').trans (by rw [fa_sn (by omega)])),
    fun s' hs' => (fu_ne (fun q => by omega)).trans ((hC.2.2.2.1 s' hs').trans (by rw [fa_sn (by omega)])),
    fun s' hs' k' hk' => by
      have h5 := h3 s' hs'
      rw [fa_sn (by omega)] at hk'
      rw [fu_ne (fun q => by omega), fa_sn (by omega)]
      exact hC.2.2.2.2.1 s' hs' k' hk',
    fun p' hp' => (fu_ne (fun q => by omega)).trans ((hC.2.2.2.2.2.1 p' hp').trans (by rw [fa_sn (by omega)])),
    fun m' hm' => (fu_ne (fun q => by omega)).trans ((hC.2.2.2.2.2.2 m' hm').trans (by rw [fa_sn (by omega)]))⟩, fun c' x' hn hm => (fu_ne (fun q => by omega)).trans (hF c' x' hn hm)⟩
theorem fa_pu_r {h0 : kc_H} {A : Nat → Nat} {L : Nat} {h : kc_H} {s k v : Nat} (hs : s < 6) (hk : A (20 + s) = k) (h4 : k < 3) (hv : v ≤ 9) (hL : L ≤ 10) (h3 : ∀ s, s < 6 → A (20 + s) ≤ 3) (hH : fa_Hr h0 A L h) : fa_Hr h0 (fa_s (fa_s A (40 + 3 * s + k) v) (20 + s) (k + 1)) L (kc_upd (kc_upd h (267) (3 * s + k) (.inl (Int32.ofNat v))) (268) (s) (.inl (Int32.ofNat (k + 1)))) := by
  obtain ⟨hw, hC, hF⟩ := hH
  refine ⟨fa_wn (fa_k4.2.1 s hs) (show k + 1 ≤ 3 by omega) (by decide) (fa_wn (fa_k4.2.2.2.1 s hs k h4) hv (by decide) hw), ⟨⟨by rw [fu_ne (fun q => by omega), fu_ne (fun q => by omega), fa_sn (by omega), fa_sn (by omega)]; exact hC.1.1, by rw [fu_ne (fun q => by omega), fu_ne (fun q => by omega), fa_sn (by omega), fa_sn (by omega)]; exact hC.1.2.1, by rw [fu_ne (fun q => by omega), fu_ne (fun q => by omega), fa_sn (by omega), fa_sn (by omega)]; exact hC.1.2.2.1, by rw [fu_ne (fun q => by omega), fu_ne (fun q => by omega), fa_sn (by omega), fa_sn (by omega)]; exact hC.1.2.2.2.1, by rw [fu_ne (fun q => by omega), fu_ne (fun q => by omega), fa_sn (by omega), fa_sn (by omega)]; exact hC.1.2.2.2.2.1, by rw [fu_ne (fun q => by omega), fu_ne (fun q => by omega), fa_sn (by omega), fa_sn (by omega)]; exact hC.1.2.2.2.2.2⟩,
    fun l' hl' => by rw [fu_ne (fun q => by omega), fu_ne (fun q => by omega), fa_sn (by omega), fa_sn (by omega)]; exact hC.2.1 l' hl',
    fun s' hs' => by
      by_cases e : s' = s
      · subst e; rw [fu_eq, fa_se]
      · rw [fu_ne (fun q => e q.2), fu_ne (fun q => by omega), fa_sn (by omega), fa_sn (by omega)]; exact hC.2.2.1 s' hs',
    fun s' hs' => by rw [fu_ne (fun q => by omega), fu_ne (fun q => by omega), fa_sn (by omega), fa_sn (by omega)]; exact hC.2.2.2.1 s' hs',
    fun s' hs' k' hk' => by
      have h5 := h3 s' hs'
      by_cases e : s' = s
      · subst e
        rw [fa_se] at hk'
        rw [fu_ne (fun q => by omega), fa_sn (by omega)]
        by_cases e2 : k' = k
        · subst e2; rw [fu_eq, fa_se]
        · rw [fu_ne (fun q => by omega), fa_sn (by omega)]; exact hC.2.2.2.2.1 s' hs' k' (by omega)
      · rw [fa_sn (by omega), fa_sn (by omega)] at hk'
        rw [fu_ne (fun q => by omega), fu_ne (fun q => by omega), fa_sn (by omega), fa_sn (by omega)]
        exact hC.2.2.2.2.1 s' hs' k' hk',
    fun p' hp' => by rw [fu_ne (fun q => by omega), fu_ne (fun q => by omega), fa_sn (by omega), fa_sn (by omega)]; exact hC.2.2.2.2.2.1 p' hp',
    fun m' hm' => by rw [fu_ne (fun q => by omega), fu_ne (fun q => by omega), fa_sn (by omega), fa_sn (by omega)]; exact hC.2.2.2.2.2.2 m' hm'⟩, fun c' x' hn hm => (fu_ne (fun q => by omega)).trans ((fu_ne (fun q => by omega)).trans (hF c' x' hn hm))⟩
end
section
-- 99.zpr
/-! ===== the acts: what they do, and that both sides do it: hang, take ===== -/
def fa_BB (B : Nat → Int32) (D M L : Nat) : Prop := fu_BT B ∧ (B 0 = Int32.ofNat D ∧ D ≤ 5) ∧ (B 1 = Int32.ofNat M ∧ M ≤ 3) ∧ (B 2 = Int32.ofNat L ∧ L ≤ 10)
def fa_push (A : Nat → Nat) (c l : Nat) : Nat → Nat := fa_s (fa_s (fa_s A (40 + 3 * c + A (20 + c)) l) (20 + c) (A (20 + c) + 1)) (10 + l) (10 + c)
def fa_top (A : Nat → Nat) (c : Nat) : Nat := A (40 + 3 * c + (A (20 + c) - 1))
def fa_hang (B : Nat → Int32) (A : Nat → Nat) (L M l m s : Nat) : Nat × (Nat → Nat) := if l < L then (if m < M ∧ s < 2 then (if A (10 + l) = A 4 then (if fa_cm B A l (2 * m + s) m s true = 0 then (0, fa_push A (2 * m + s) l) else (fa_cm B A l (2 * m + s) m s true, A)) else (2, A)) else (1, A)) else (1, A)
def fa_take (A : Nat → Nat) (M m s : Nat) : Nat × (Nat → Nat) := if m < M ∧ s < 2 then (if A (20 + (2 * m + s)) = 0 then (2, A) else (0, fa_s (fa_s A (20 + (2 * m + s)) (A (20 + (2 * m + s)) - 1)) (10 + fa_top A (2 * m + s)) (A 4))) else (1, A)
theorem fa_inb {v u : Nat} {z : Int} (hv : v < 1000) (hz : z = (u : Int) - 1) : fu_in (Int32.ofNat v) 0 z = decide (v < u) := by
  unfold fu_in
  rw [kx_ti (by omega)]
  by_cases c : v < u
  · rw [decide_eq_true c, decide_eq_true (by omega)]
  · rw [decide_eq_false c, decide_eq_false (by omega)]
theorem fa_dn {a b c d : Nat} : (decide (a < b) && decide (c < d)) = decide (a < b ∧ c < d) := by
  by_cases h1 : a < b <;> by_cases h2 : c < d <;> simp [h1, h2]
theorem fa_hc {B : Nat → Int32} {h0 h : kc_H} (hF : ∀ c x, ¬ (190 ≤ c ∧ c ≤ 203) → h c x = h0 c x) (hC0 : fu_C B 1 h0) : fu_C B 1 h := fun j hj ht => (hF _ _ (by have := (fu_qp hj (fu_te ht)).2.1; omega)).trans (hC0 j hj ht)
theorem fa_hr {B : Nat → Int32} {h0 h : kc_H} (hF : ∀ c x, ¬ (266 ≤ c ∧ c ≤ 271) → ¬ (c = 259 ∧ 20 ≤ x ∧ x ≤ 25) → h c x = h0 c x) (hC0 : fu_B B h0) : fu_B B h := fun j hj ht => (hF _ _ (by omega) (by omega)).trans (hC0 j hj ht)
theorem fa_cml {B : Nat → Int32} {A : Nat → Nat} {l s m t : Nat} {nw : Bool} : fa_cm B A l s m t nw ≤ 5 := by
  unfold fa_cm
  split
  · decide
  · split
    · decide
    · split <;> decide
theorem fa_h3p {A : Nat → Nat} {s l : Nat} (h3 : ∀ s, s < 6 → A (20 + s) ≤ 3) (hk : A (20 + s) < 3) : ∀ t, t < 6 → fa_s (fa_s A (40 + 3 * s + A (20 + s)) l) (20 + s) (A (20 + s) + 1) (20 + t) ≤ 3 := fun t ht => by
  by_cases e : t = s
  · subst e; rw [fa_se]; omega
  · rw [fa_sn (by omega), fa_sn (by omega)]; exact h3 t ht
theorem fa_h3o {A : Nat → Nat} {s v : Nat} (h3 : ∀ s, s < 6 → A (20 + s) ≤ 3) (hv : v ≤ A (20 + s)) : ∀ t, t < 6 → fa_s A (20 + s) v (20 + t) ≤ 3 := fun t ht => by
  by_cases e : t = s
  · subst e; rw [fa_se]; exact Nat.le_trans hv (h3 t ht)
  · rw [fa_sn (by omega)]; exact h3 t ht
theorem fa_b0t : ¬ (kc_cnd .eq (kp_b true).toInt 0 = true) := fun q => by have := kx_b0.mp q; cases this
theorem fa_b0f : kc_cnd .eq (kp_b false).toInt 0 = true := kx_b0.mpr rfl
theorem fa_b1t : kc_cnd .ne (kp_b true).toInt 0 = true := kx_b1.mpr rfl
theorem fa_b1f : ¬ (kc_cnd .ne (kp_b false).toInt 0 = true) := fun q => by have := kx_b1.mp q; cases this
theorem fa_z {X : Nat} (h : X < 2147483648) (e : X = 0) : ¬ (kc_cnd .ne (Int32.ofNat X).toInt 0 = true) := fun q => (fu_ine.mp q) (by rw [kx_ti h]; omega)
theorem fa_nz {X : Nat} (h : X < 2147483648) (e : ¬ X = 0) : kc_cnd .ne (Int32.ofNat X).toInt 0 = true := fu_ine.mpr (by rw [kx_ti h]; omega)
theorem fa_ez {X : Nat} (h : X < 2147483648) (e : X = 0) : kc_cnd .eq (Int32.ofNat X).toInt 0 = true := fu_ieq.mpr (by rw [kx_ti h]; omega)
theorem fa_enz {X : Nat} (h : X < 2147483648) (e : ¬ X = 0) : ¬ (kc_cnd .eq (Int32.ofNat X).toInt 0 = true) := fun q => e (by have := fu_ieq.mp q; rw [kx_ti h] at this; omega)
theorem fa_lz {X : Nat} (h : X < 2147483648) (e : X = 0) : kc_cnd .le (Int32.ofNat X).toInt 0 = true := fu_ile.mpr (by rw [kx_ti h]; omega)
theorem fa_lnz {X : Nat} (h : X < 2147483648) (e : ¬ X = 0) : ¬ (kc_cnd .le (Int32.ofNat X).toInt 0 = true) := fun q => (fu_ile.mp q) (by rw [kx_ti h]; omega)
theorem fa_cm_lt {B : Nat → Int32} {A : Nat → Nat} {l s m t : Nat} {nw : Bool} (h3 : A (20 + s) ≤ 3) (h : fa_cm B A l s m t nw = 0) : A (20 + s) < 3 := by
  rcases Nat.lt_or_ge (A (20 + s)) 3 with c | c
  · exact c
  · rw [fa_cm3 (by omega)] at h; cases h
set_option maxRecDepth 20000 in
theorem fa_c190 {g : kc_G} {d : Nat} {h0 h : kc_H} {B : Nat → Int32} {A : Nat → Nat} {L : Nat} {l s : Nat} (hg : kc_ok g) (hL : L ≤ 10) (h3 : ∀ s, s < 6 → A (20 + s) ≤ 3) (hH : fa_Hc h0 A L h) (hW : fa_W B A L h) (hs : s < 6) (hl : l < L) (hk : A (20 + s) < 3) : kc_Con g (d + 1) 190 [.inr (.inr (.inl (some 190))), .inl (Int32.ofNat l), .inl (Int32.ofNat s)] h (fun rv h' => rv = none ∧ fa_Hc h0 (fa_push A s l) L h' ∧ fa_W B (fa_push A s l) L h') := by
  have hH1 := hH
  obtain ⟨hw, hA, hF⟩ := hH
  refine kc_Con_new hg (M := wk_m190) rfl rfl rfl (show 3 ≤ 3 by decide) ?_
  refine kx_go 1 (pc' := 1) (L' := [(0, .inr (.inr (.inl (some 190)))), (1, .inl (Int32.ofNat l)), (2, .inl (Int32.ofNat s))]) (S' := [.inr (.inr (.inl (some 190)))]) (h' := h) (by with_unfolding_all rfl) ?_
  refine kx_getf (c := 190) (v := .inr (.inr (.inl (some 192)))) rfl (by decide) (kx_ofr (hw _ _ _ fa_k.2.2.2.1)) ?_
  refine kx_go 1 (pc' := 5) (L' := [(0, .inr (.inr (.inl (some 190)))), (1, .inl (Int32.ofNat l)), (2, .inl (Int32.ofNat s))]) (S' := [.inl (Int32.ofNat s), .inr (.inr (.inl (some 192)))]) (h' := h) (by with_unfolding_all rfl) ?_
  refine kx_iald (c := 192) (j := s) (m := 6) (v := .inl (Int32.ofNat (A (20 + s)))) rfl rfl (by decide) (by decide) (by omega) (hA.2.2.1 s (by omega)) ?_
  refine kx_go 2 (pc' := (if kc_cnd .lt (Int32.ofNat (A (20 + s))).toInt (Int32.ofNat 3).toInt then 11 else 10)) (L' := [(0, .inr (.inr (.inl (some 190)))), (1, .inl (Int32.ofNat l)), (2, .inl (Int32.ofNat s))]) (S' := []) (h' := h) (by with_unfolding_all rfl) ?_
  rw [if_pos ((kx_lt (by omega) (by omega)).mpr hk)]
  refine kx_go 1 (pc' := 12) (L' := [(0, .inr (.inr (.inl (some 190)))), (1, .inl (Int32.ofNat l)), (2, .inl (Int32.ofNat s))]) (S' := [.inr (.inr (.inl (some 190)))]) (h' := h) (by with_unfolding_all rfl) ?_
  refine kx_getf (c := 190) (v := .inr (.inr (.inl (some 194)))) rfl (by decide) (kx_ofr (hw _ _ _ fa_k.2.2.2.2.2.1)) ?_
  refine kx_go 1 (pc' := 16) (L' := [(0, .inr (.inr (.inl (some 190)))), (1, .inl (Int32.ofNat l)), (2, .inl (Int32.ofNat s))]) (S' := [.inl (Int32.ofNat s), .inr (.inr (.inl (some 194)))]) (h' := h) (by with_unfolding_all rfl) ?_
  refine kx_aald rfl (c := 194) (j := s) (m := 6) (t0 := 2) (v := .inr (.inr (.inl (some (195 + s))))) rfl (by decide) (by decide) (by decide) (by omega) (kx_ofr (hw _ _ _ (fa_kp s (by omega)).1)) ?_
  refine kx_go 1 (pc' := 18) (L' := [(0, .inr (.inr (.inl (some 190)))), (1, .inl (Int32.ofNat l)), (2, .inl (Int32.ofNat s))]) (S' := [.inr (.inr (.inl (some 190))), .inr (.inr (.inl (some (195 + s))))]) (h' := h) (by with_unfolding_all rfl) ?_
  refine kx_getf (c := 190) (v := .inr (.inr (.inl (some 192)))) rfl (by decide) (kx_ofr (hw _ _ _ fa_k.2.2.2.1)) ?_
  refine kx_go 1 (pc' := 22) (L' := [(0, .inr (.inr (.inl (some 190)))), (1, .inl (Int32.ofNat l)), (2, .inl (Int32.ofNat s))]) (S' := [.inl (Int32.ofNat s), .inr (.inr (.inl (some 192))), .inr (.inr (.inl (some (195 + s))))]) (h' := h) (by with_unfolding_all rfl) ?_
  refine kx_iald (c := 192) (j := s) (m := 6) (v := .inl (Int32.ofNat (A (20 + s)))) rfl rfl (by decide) (by decide) (by omega) (hA.2.2.1 s (by omega)) ?_
  refine kx_go 1 (pc' := 24) (L' := [(0, .inr (.inr (.inl (some 190)))), (1, .inl (Int32.ofNat l)), (2, .inl (Int32.ofNat s))]) (S' := [.inl (Int32.ofNat l), .inl (Int32.ofNat (A (20 + s))), .inr (.inr (.inl (some (195 + s))))]) (h' := h) (by with_unfolding_all rfl) ?_
  refine kx_iast (c := 195 + s) (j := A (20 + s)) (m := 3) rfl (fa_kp s (by omega)).2.1 (fa_kp s (by omega)).2.2 (by decide) (by omega) ?_
  have hw1 : kd_wt kd_ty (kc_upd h (195 + s) (A (20 + s)) (.inl (Int32.ofNat l))) := fa_wn (fa_k2.2.2.2.1 s hs _ hk) (show l ≤ 9 by omega) (by decide) hw
  refine kx_go 1 (pc' := 26) (L' := [(0, .inr (.inr (.inl (some 190)))), (1, .inl (Int32.ofNat l)), (2, .inl (Int32.ofNat s))]) (S' := [.inr (.inr (.inl (some 190)))]) (h' := (kc_upd h (195 + s) (A (20 + s)) (.inl (Int32.ofNat l)))) (by with_unfolding_all rfl) ?_
  refine kx_getf (c := 190) (v := .inr (.inr (.inl (some 192)))) rfl (by decide) (kx_ofr (hw1 _ _ _ fa_k.2.2.2.1)) ?_
  refine kx_go 2 (pc' := 31) (L' := [(0, .inr (.inr (.inl (some 190)))), (1, .inl (Int32.ofNat l)), (2, .inl (Int32.ofNat s))]) (S' := [.inl (Int32.ofNat s), .inr (.inr (.inl (some 192))), .inl (Int32.ofNat s), .inr (.inr (.inl (some 192)))]) (h' := (kc_upd h (195 + s) (A (20 + s)) (.inl (Int32.ofNat l)))) (by with_unfolding_all rfl) ?_
  refine kx_iald (c := 192) (j := s) (m := 6) (v := .inl (Int32.ofNat (A (20 + s)))) rfl rfl (by decide) (by decide) (by omega) ((fu_ne (fun q => by omega)).trans (hA.2.2.1 s hs)) ?_
  refine kx_go 2 (pc' := 34) (L' := [(0, .inr (.inr (.inl (some 190)))), (1, .inl (Int32.ofNat l)), (2, .inl (Int32.ofNat s))]) (S' := [.inl ((Int32.ofNat (A (20 + s))) + (Int32.ofNat 1)), .inl (Int32.ofNat s), .inr (.inr (.inl (some 192)))]) (h' := (kc_upd h (195 + s) (A (20 + s)) (.inl (Int32.ofNat l)))) (by with_unfolding_all rfl) ?_
  rw [kx_add]
  refine kx_iast (c := 192) (j := s) (m := 6) rfl rfl (by decide) (by decide) (by omega) ?_
  have H2 := fa_pu_c hs rfl hk (show l ≤ 9 by omega) hL h3 hH1
  have W2 : fa_W B (fa_s (fa_s A (40 + 3 * s + A (20 + s)) l) (20 + s) (A (20 + s) + 1)) L (kc_upd (kc_upd h (195 + s) (A (20 + s)) (.inl (Int32.ofNat l))) 192 s (.inl (Int32.ofNat (A (20 + s) + 1)))) := fa_W_s (by decide) (by omega) (fa_W_s (by omega) (by omega) hW)
  generalize (kc_upd (kc_upd h (195 + s) (A (20 + s)) (.inl (Int32.ofNat l))) 192 s (.inl (Int32.ofNat (A (20 + s) + 1)))) = h2 at H2 W2 ⊢
  have hw2 := H2.1
  refine kx_go 1 (pc' := 36) (L' := [(0, .inr (.inr (.inl (some 190)))), (1, .inl (Int32.ofNat l)), (2, .inl (Int32.ofNat s))]) (S' := [.inr (.inr (.inl (some 190)))]) (h' := h2) (by with_unfolding_all rfl) ?_
  refine kx_getf (c := 190) (v := .inr (.inr (.inl (some 191)))) rfl (by decide) (kx_ofr (hw2 _ _ _ fa_k.2.2.1)) ?_
  refine kx_go 4 (pc' := 44) (L' := [(0, .inr (.inr (.inl (some 190)))), (1, .inl (Int32.ofNat l)), (2, .inl (Int32.ofNat s))]) (S' := [.inl ((Int32.ofNat 10) + (Int32.ofNat s)), .inl (Int32.ofNat l), .inr (.inr (.inl (some 191)))]) (h' := h2) (by with_unfolding_all rfl) ?_
  rw [kx_add]
  refine kx_iast (c := 191) (j := l) (m := 10) rfl rfl (by decide) (by decide) (by omega) ?_
  exact kc_ret_ok rfl (rv := none) rfl ⟨rfl, fa_at_c (v := 10 + s) hl hL (fa_h3p h3 hk) H2, fa_W_s (by decide) (by omega) W2⟩
set_option maxRecDepth 20000 in
theorem fa_r248 {g : kc_G} {d : Nat} {h0 h : kc_H} {A : Nat → Nat} {L : Nat} {l s : Nat} (hg : kc_ok g) (hL : L ≤ 10) (h3 : ∀ s, s < 6 → A (20 + s) ≤ 3) (hH : fa_Hr h0 A L h) (hs : s < 6) (hl : l < L) (hk : A (20 + s) < 3) : kc_Con g (d + 1) 248 [.inr (.inr (.inl (some 259))), .inl (Int32.ofNat l), .inl (Int32.ofNat s)] h (fun rv h' => rv = none ∧ fa_Hr h0 (fa_push A s l) L h') := by
  have hH1 := hH
  obtain ⟨hw, hA, hF⟩ := hH
  refine kc_Con_new hg (M := wk_m248) rfl rfl rfl (show 3 ≤ 3 by decide) ?_
  refine kx_go 1 (pc' := 1) (L' := [(0, .inr (.inr (.inl (some 259)))), (1, .inl (Int32.ofNat l)), (2, .inl (Int32.ofNat s))]) (S' := [.inr (.inr (.inl (some 259)))]) (h' := h) (by with_unfolding_all rfl) ?_
  refine kx_getf (c := 259) (v := .inr (.inr (.inl (some 267)))) rfl (by decide) (kx_ofr (hw _ _ _ fa_kr.2.1)) ?_
  refine kx_go 4 (pc' := 8) (L' := [(0, .inr (.inr (.inl (some 259)))), (1, .inl (Int32.ofNat l)), (2, .inl (Int32.ofNat s))]) (S' := [.inr (.inr (.inl (some 259))), .inl ((Int32.ofNat 3) * (Int32.ofNat s)), .inr (.inr (.inl (some 267)))]) (h' := h) (by with_unfolding_all rfl) ?_
  refine kx_getf (c := 259) (v := .inr (.inr (.inl (some 268)))) rfl (by decide) (kx_ofr (hw _ _ _ fa_kr.2.2.1)) ?_
  refine kx_go 1 (pc' := 12) (L' := [(0, .inr (.inr (.inl (some 259)))), (1, .inl (Int32.ofNat l)), (2, .inl (Int32.ofNat s))]) (S' := [.inl (Int32.ofNat s), .inr (.inr (.inl (some 268))), .inl ((Int32.ofNat 3) * (Int32.ofNat s)), .inr (.inr (.inl (some 267)))]) (h' := h) (by with_unfolding_all rfl) ?_
  refine kx_iald (c := 268) (j := s) (m := 6) (v := .inl (Int32.ofNat (A (20 + s)))) rfl rfl (by decide) (by decide) (by omega) (hA.2.2.1 s (by omega)) ?_
  refine kx_go 2 (pc' := 15) (L' := [(0, .inr (.inr (.inl (some 259)))), (1, .inl (Int32.ofNat l)), (2, .inl (Int32.ofNat s))]) (S' := [.inl (Int32.ofNat l), .inl (((Int32.ofNat 3) * (Int32.ofNat s)) + (Int32.ofNat (A (20 + s)))), .inr (.inr (.inl (some 267)))]) (h' := h) (by with_unfolding_all rfl) ?_
  rw [kx_mul, kx_add]
  refine kx_iast (c := 267) (j := 3 * s + A (20 + s)) (m := 18) rfl rfl (by decide) (by decide) (by omega) ?_
  have hw1 : kd_wt kd_ty (kc_upd h 267 (3 * s + A (20 + s)) (.inl (Int32.ofNat l))) := fa_wn (fa_k4.2.2.2.1 s hs _ hk) (show l ≤ 9 by omega) (by decide) hw
  refine kx_go 1 (pc' := 17) (L' := [(0, .inr (.inr (.inl (some 259)))), (1, .inl (Int32.ofNat l)), (2, .inl (Int32.ofNat s))]) (S' := [.inr (.inr (.inl (some 259)))]) (h' := (kc_upd h 267 (3 * s + A (20 + s)) (.inl (Int32.ofNat l)))) (by with_unfolding_all rfl) ?_
  refine kx_getf (c := 259) (v := .inr (.inr (.inl (some 268)))) rfl (by decide) (kx_ofr (hw1 _ _ _ fa_kr.2.2.1)) ?_
  refine kx_go 2 (pc' := 22) (L' := [(0, .inr (.inr (.inl (some 259)))), (1, .inl (Int32.ofNat l)), (2, .inl (Int32.ofNat s))]) (S' := [.inl (Int32.ofNat s), .inr (.inr (.inl (some 268))), .inl (Int32.ofNat s), .inr (.inr (.inl (some 268)))]) (h' := (kc_upd h 267 (3 * s + A (20 + s)) (.inl (Int32.ofNat l)))) (by with_unfolding_all rfl) ?_
  refine kx_iald (c := 268) (j := s) (m := 6) (v := .inl (Int32.ofNat (A (20 + s)))) rfl rfl (by decide) (by decide) (by omega) ((fu_ne (fun q => by omega)).trans (hA.2.2.1 s hs)) ?_
  refine kx_go 2 (pc' := 25) (L' := [(0, .inr (.inr (.inl (some 259)))), (1, .inl (Int32.ofNat l)), (2, .inl (Int32.ofNat s))]) (S' := [.inl ((Int32.ofNat (A (20 + s))) + (Int32.ofNat 1)), .inl (Int32.ofNat s), .inr (.inr (.inl (some 268)))]) (h' := (kc_upd h 267 (3 * s + A (20 + s)) (.inl (Int32.ofNat l)))) (by with_unfolding_all rfl) ?_
  rw [kx_add]
  refine kx_iast (c := 268) (j := s) (m := 6) rfl rfl (by decide) (by decide) (by omega) ?_
  have H2 := fa_pu_r hs rfl hk (show l ≤ 9 by omega) hL h3 hH1
  generalize (kc_upd (kc_upd h 267 (3 * s + A (20 + s)) (.inl (Int32.ofNat l))) 268 s (.inl (Int32.ofNat (A (20 + s) + 1)))) = h2 at H2 ⊢
  have hw2 := H2.1
  refine kx_go 1 (pc' := 27) (L' := [(0, .inr (.inr (.inl (some 259)))), (1, .inl (Int32.ofNat l)), (2, .inl (Int32.ofNat s))]) (S' := [.inr (.inr (.inl (some 259)))]) (h' := h2) (by with_unfolding_all rfl) ?_
  refine kx_getf (c := 259) (v := .inr (.inr (.inl (some 266)))) rfl (by decide) (kx_ofr (hw2 _ _ _ fa_kr.1)) ?_
  refine kx_go 4 (pc' := 35) (L' := [(0, .inr (.inr (.inl (some 259)))), (1, .inl (Int32.ofNat l)), (2, .inl (Int32.ofNat s))]) (S' := [.inl ((Int32.ofNat 10) + (Int32.ofNat s)), .inl (Int32.ofNat l), .inr (.inr (.inl (some 266)))]) (h' := h2) (by with_unfolding_all rfl) ?_
  rw [kx_add]
  refine kx_iast (c := 266) (j := l) (m := 10) rfl rfl (by decide) (by decide) (by omega) ?_
  exact kc_ret_ok rfl (rv := none) rfl ⟨rfl, fa_at_r (v := 10 + s) hl hL (fa_h3p h3 hk) H2⟩
set_option maxRecDepth 20000 in
theorem fa_r82 {g : kc_G} {d : Nat} {h : kc_H} {B : Nat → Int32} {D M L m s : Nat} (hg : kc_ok g) (hw : kd_wt kd_ty h) (hC : fu_B B h) (hBB : fa_BB B D M L) (hm : m < 1000) (hs : s < 1000) : kc_Con g (d + 3) 82 [.inr (.inr (.inl (some 259))), .inl (Int32.ofNat m), .inl (Int32.ofNat s)] h (fun rv h' => rv = some (.inl (kp_b (decide (m < M ∧ s < 2)))) ∧ h' = h) := by
  obtain ⟨hB, -, ⟨eM, hM⟩, -⟩ := hBB
  have z1 : (B 1).toInt - 1 = (M : Int) - 1 := by rw [eM, kx_ti (by omega)]
  refine kc_Con_new hg (M := wk_m82) rfl rfl rfl (show 3 ≤ 3 by decide) ?_
  refine kx_go 2 (pc' := 2) (L' := [(0, .inr (.inr (.inl (some 259)))), (1, .inl (Int32.ofNat m)), (2, .inl (Int32.ofNat s))]) (S' := [.inl (Int32.ofNat m), .inr (.inr (.inl (some 259)))]) (h' := h) (by with_unfolding_all rfl) ?_
  refine kc_call_rule (M2 := wk_m40) (av := [.inr (.inr (.inl (some 259))), .inl (Int32.ofNat m)]) (r := []) rfl rfl (kc_Con_le (fu_r40 (d := 0) hg hw hC hB) (by omega)) (fun rv h2 hq => ?_)
  obtain ⟨rfl, e9⟩ := hq
  rw [e9]
  clear e9
  rw [fa_inb hm z1]
  show kc_Ev g (d + 2) wk_m82 _ 5 [(0, .inr (.inr (.inl (some 259)))), (1, .inl (Int32.ofNat m)), (2, .inl (Int32.ofNat s))] [.inl (kp_b (decide (m < M)))] h
  refine kx_go 1 (pc' := (if kc_cnd .eq (kp_b (decide (m < M))).toInt 0 then 19 else 8)) (L' := [(0, .inr (.inr (.inl (some 259)))), (1, .inl (Int32.ofNat m)), (2, .inl (Int32.ofNat s))]) (S' := []) (h' := h) (by with_unfolding_all rfl) ?_
  by_cases c1 : m < M
  · rw [decide_eq_true c1, if_neg fa_b0t]
    refine kx_go 1 (pc' := 9) (L' := [(0, .inr (.inr (.inl (some 259)))), (1, .inl (Int32.ofNat m)), (2, .inl (Int32.ofNat s))]) (S' := [.inl (Int32.ofNat s)]) (h' := h) (by with_unfolding_all rfl) ?_
    refine kc_call_rule (M2 := wk_m231) (av := [.inl (Int32.ofNat s)]) (r := []) rfl rfl (kc_Con_le (fu_r231 (d := 0) hg) (by omega)) (fun rv h2 hq => ?_)
    obtain ⟨rfl, e9⟩ := hq
    rw [e9]
    clear e9
    rw [fa_inb (u := 2) (z := 1) hs rfl]
    show kc_Ev g (d + 2) wk_m82 _ 12 [(0, .inr (.inr (.inl (some 259)))), (1, .inl (Int32.ofNat m)), (2, .inl (Int32.ofNat s))] [.inl (kp_b (decide (s < 2)))] h
    refine kx_go 1 (pc' := (if kc_cnd .eq (kp_b (decide (s < 2))).toInt 0 then 19 else 15)) (L' := [(0, .inr (.inr (.inl (some 259)))), (1, .inl (Int32.ofNat m)), (2, .inl (Int32.ofNat s))]) (S' := []) (h' := h) (by with_unfolding_all rfl) ?_
    by_cases c2 : s < 2
    · rw [decide_eq_true c2, if_neg fa_b0t]
      refine kx_go 2 (pc' := 20) (L' := [(0, .inr (.inr (.inl (some 259)))), (1, .inl (Int32.ofNat m)), (2, .inl (Int32.ofNat s))]) (S' := [.inl (Int32.ofNat 1)]) (h' := h) (by with_unfolding_all rfl) ?_
      exact kc_ret_ok rfl (rv := some (.inl (Int32.ofNat 1))) rfl ⟨by rw [decide_eq_true (show m < M ∧ s < 2 from ⟨c1, c2⟩)]; rfl, rfl⟩
    · rw [decide_eq_false c2, if_pos fa_b0f]
      refine kx_go 1 (pc' := 20) (L' := [(0, .inr (.inr (.inl (some 259)))), (1, .inl (Int32.ofNat m)), (2, .inl (Int32.ofNat s))]) (S' := [.inl (Int32.ofNat 0)]) (h' := h) (by with_unfolding_all rfl) ?_
      exact kc_ret_ok rfl (rv := some (.inl (Int32.ofNat 0))) rfl ⟨by rw [decide_eq_false (fun q : m < M ∧ s < 2 => c2 q.2)]; rfl, rfl⟩
  · rw [decide_eq_false c1, if_pos fa_b0f]
    refine kx_go 1 (pc' := 20) (L' := [(0, .inr (.inr (.inl (some 259)))), (1, .inl (Int32.ofNat m)), (2, .inl (Int32.ofNat s))]) (S' := [.inl (Int32.ofNat 0)]) (h' := h) (by with_unfolding_all rfl) ?_
    exact kc_ret_ok rfl (rv := some (.inl (Int32.ofNat 0))) rfl ⟨by rw [decide_eq_false (fun q : m < M ∧ s < 2 => c1 q.1)]; rfl, rfl⟩
set_option maxRecDepth 20000 in
theorem fa_c184 {g : kc_G} {d : Nat} {h0 h : kc_H} {B : Nat → Int32} {A : Nat → Nat} {D M L i : Nat} {l m s : Nat} (hg : kc_ok g) (hBB : fa_BB B D M L) (hC0 : fu_C B 1 h0) (hi : i ≤ 60) (hI : fa_I B A L i) (hMx : fa_M B A M) (hH : fa_Hc h0 A L h) (hW : fa_W B A L h) (hl : l < 1000) (hm : m < 1000) (hs : s < 1000) : kc_Con g (d + 7) 184 [.inr (.inr (.inl (some 190))), .inl (Int32.ofNat l), .inl (Int32.ofNat m), .inl (Int32.ofNat s)] h (fun rv h' => rv = some (.inl (Int32.ofNat (fa_hang B A L M l m s).1)) ∧ fa_Hc h0 ((fa_hang B A L M l m s).2) L h' ∧ fa_W B ((fa_hang B A L M l m s).2) L h') := by
  have hBB1 := hBB
  obtain ⟨hB, ⟨eD, hD⟩, ⟨eM, hM⟩, eL, hL⟩ := hBB1
  have h3 := hI.2.2.2.2.2.2.1
  have hH1 := hH
  obtain ⟨hw, hA, hF⟩ := hH
  have hC := fa_hc hF hC0
  have a4 := hI.2.2.2.1
  have z1 : (B 1).toInt - 1 = (M : Int) - 1 := by rw [eM, kx_ti (by omega)]
  have z2 : (B 2).toInt - 1 = (L : Int) - 1 := by rw [eL, kx_ti (by omega)]
  unfold fa_hang
  refine kc_Con_new hg (M := wk_m184) rfl rfl rfl (show 4 ≤ 6 by decide) ?_
  refine kx_go 1 (pc' := 1) (L' := [(0, .inr (.inr (.inl (some 190)))), (1, .inl (Int32.ofNat l)), (2, .inl (Int32.ofNat m)), (3, .inl (Int32.ofNat s))]) (S' := [.inr (.inr (.inl (some 190)))]) (h' := h) (by with_unfolding_all rfl) ?_
  refine kx_getf (c := 190) (v := .inr (.inr (.inl (some 1)))) rfl (by decide) (kx_ofr (hw _ _ _ fa_k.1)) ?_
  refine kx_go 1 (pc' := 5) (L' := [(0, .inr (.inr (.inl (some 190)))), (1, .inl (Int32.ofNat l)), (2, .inl (Int32.ofNat m)), (3, .inl (Int32.ofNat s))]) (S' := [.inl (Int32.ofNat l), .inr (.inr (.inl (some 1)))]) (h' := h) (by with_unfolding_all rfl) ?_
  refine kc_call_rule (M2 := wk_m46) (av := [.inr (.inr (.inl (some 1))), .inl (Int32.ofNat l)]) (r := []) rfl rfl (kc_Con_le (fu_c46 (d := 0) hg hC hB) (by omega)) (fun rv h2 hq => ?_)
  obtain ⟨rfl, e9⟩ := hq
  rw [e9]
  clear e9
  rw [fa_inb hl z2]
  show kc_Ev g (d + 6) wk_m184 _ 8 [(0, .inr (.inr (.inl (some 190)))), (1, .inl (Int32.ofNat l)), (2, .inl (Int32.ofNat m)), (3, .inl (Int32.ofNat s))] [.inl (kp_b (decide (l < L)))] h
  refine kx_go 1 (pc' := (if kc_cnd .eq (kp_b (decide (l < L))).toInt 0 then 23 else 11)) (L' := [(0, .inr (.inr (.inl (some 190)))), (1, .inl (Int32.ofNat l)), (2, .inl (Int32.ofNat m)), (3, .inl (Int32.ofNat s))]) (S' := []) (h' := h) (by with_unfolding_all rfl) ?_
  by_cases c1 : l < L
  · rw [decide_eq_true c1, if_neg fa_b0t, if_pos c1]
    refine kx_go 1 (pc' := 12) (L' := [(0, .inr (.inr (.inl (some 190)))), (1, .inl (Int32.ofNat l)), (2, .inl (Int32.ofNat m)), (3, .inl (Int32.ofNat s))]) (S' := [.inr (.inr (.inl (some 190)))]) (h' := h) (by with_unfolding_all rfl) ?_
    refine kx_getf (c := 190) (v := .inr (.inr (.inl (some 1)))) rfl (by decide) (kx_ofr (hw _ _ _ fa_k.1)) ?_
    refine kx_go 2 (pc' := 17) (L' := [(0, .inr (.inr (.inl (some 190)))), (1, .inl (Int32.ofNat l)), (2, .inl (Int32.ofNat m)), (3, .inl (Int32.ofNat s))]) (S' := [.inl (Int32.ofNat s), .inl (Int32.ofNat m), .inr (.inr (.inl (some 1)))]) (h' := h) (by with_unfolding_all rfl) ?_
    refine kc_call_rule (M2 := wk_m37) (av := [.inr (.inr (.inl (some 1))), .inl (Int32.ofNat m), .inl (Int32.ofNat s)]) (r := []) rfl rfl (kc_Con_le (fu_c37 (d := 0) hg hC hB) (by omega)) (fun rv h2 hq => ?_)
    obtain ⟨rfl, e9⟩ := hq
    rw [e9]
    clear e9
    rw [fa_inb hm z1, fa_inb (u := 2) (z := 1) hs rfl, fa_dn]
    show kc_Ev g (d + 6) wk_m184 _ 20 [(0, .inr (.inr (.inl (some 190)))), (1, .inl (Int32.ofNat l)), (2, .inl (Int32.ofNat m)), (3, .inl (Int32.ofNat s))] [.inl (kp_b (decide (m < M ∧ s < 2)))] h
    refine kx_go 1 (pc' := (if kc_cnd .ne (kp_b (decide (m < M ∧ s < 2))).toInt 0 then 25 else 23)) (L' := [(0, .inr (.inr (.inl (some 190)))), (1, .inl (Int32.ofNat l)), (2, .inl (Int32.ofNat m)), (3, .inl (Int32.ofNat s))]) (S' := []) (h' := h) (by with_unfolding_all rfl) ?_
    by_cases c2 : m < M ∧ s < 2
    · rw [decide_eq_true c2, if_pos fa_b1t, if_pos c2]
      have s6 : 2 * m + s < 6 := by omega
      have a1 := hI.2.2.2.2.2.1 l c1
      refine kx_go 1 (pc' := 26) (L' := [(0, .inr (.inr (.inl (some 190)))), (1, .inl (Int32.ofNat l)), (2, .inl (Int32.ofNat m)), (3, .inl (Int32.ofNat s))]) (S' := [.inr (.inr (.inl (some 190)))]) (h' := h) (by with_unfolding_all rfl) ?_
      refine kx_getf (c := 190) (v := .inr (.inr (.inl (some 191)))) rfl (by decide) (kx_ofr (hw _ _ _ fa_k.2.2.1)) ?_
      refine kx_go 1 (pc' := 30) (L' := [(0, .inr (.inr (.inl (some 190)))), (1, .inl (Int32.ofNat l)), (2, .inl (Int32.ofNat m)), (3, .inl (Int32.ofNat s))]) (S' := [.inl (Int32.ofNat l), .inr (.inr (.inl (some 191)))]) (h' := h) (by with_unfolding_all rfl) ?_
      refine kx_iald (c := 191) (j := l) (m := 10) (v := .inl (Int32.ofNat (A (10 + l)))) rfl rfl (by decide) (by decide) (by omega) (hA.2.1 l (by omega)) ?_
      refine kx_go 1 (pc' := 32) (L' := [(0, .inr (.inr (.inl (some 190)))), (1, .inl (Int32.ofNat l)), (2, .inl (Int32.ofNat m)), (3, .inl (Int32.ofNat s))]) (S' := [.inr (.inr (.inl (some 190))), .inl (Int32.ofNat (A (10 + l)))]) (h' := h) (by with_unfolding_all rfl) ?_
      refine kx_getf (c := 190) (v := .inl (Int32.ofNat (A 4))) rfl (by decide) hA.1.2.2.2.2.1 ?_
      refine kx_go 1 (pc' := (if kc_cnd .eq (Int32.ofNat (A (10 + l))).toInt (Int32.ofNat (A 4)).toInt then 40 else 38)) (L' := [(0, .inr (.inr (.inl (some 190)))), (1, .inl (Int32.ofNat l)), (2, .inl (Int32.ofNat m)), (3, .inl (Int32.ofNat s))]) (S' := []) (h' := h) (by with_unfolding_all rfl) ?_
      by_cases c3 : A (10 + l) = A 4
      · rw [if_pos ((kx_eq (by omega) (by omega)).mpr c3), if_pos c3]
        refine kx_go 10 (pc' := 52) (L' := [(4, .inl (((Int32.ofNat 2) * (Int32.ofNat m)) + (Int32.ofNat s))), (0, .inr (.inr (.inl (some 190)))), (1, .inl (Int32.ofNat l)), (2, .inl (Int32.ofNat m)), (3, .inl (Int32.ofNat s))]) (S' := [.inl (Int32.ofNat 1), .inl (((Int32.ofNat 2) * (Int32.ofNat m)) + (Int32.ofNat s)), .inl (Int32.ofNat l), .inr (.inr (.inl (some 190)))]) (h' := h) (by with_unfolding_all rfl) ?_
        rw [kx_mul, kx_add]
        show kc_Ev g (d + 6) wk_m184 _ 52 [(4, .inl (Int32.ofNat (2 * m + s))), (0, .inr (.inr (.inl (some 190)))), (1, .inl (Int32.ofNat l)), (2, .inl (Int32.ofNat m)), (3, .inl (Int32.ofNat s))] [.inl (kp_b true), .inl (Int32.ofNat (2 * m + s)), .inl (Int32.ofNat l), .inr (.inr (.inl (some 190)))] h
        refine kc_call_rule (M2 := wk_m185) (av := [.inr (.inr (.inl (some 190))), .inl (Int32.ofNat l), .inl (Int32.ofNat (2 * m + s)), .inl (kp_b true)]) (r := []) rfl rfl (kc_Con_le (fa_c185 (d := 0) rfl (show m < 3 by omega) c2.2 hg hw hC hB hL hi hI hA hW hMx c2.1 c1) (by omega)) (fun rv h2 hq => ?_)
        obtain ⟨rfl, e9⟩ := hq
        rw [e9]
        clear e9
        show kc_Ev g (d + 6) wk_m184 _ 55 [(4, .inl (Int32.ofNat (2 * m + s))), (0, .inr (.inr (.inl (some 190)))), (1, .inl (Int32.ofNat l)), (2, .inl (Int32.ofNat m)), (3, .inl (Int32.ofNat s))] [.inl (Int32.ofNat (fa_cm B A l (2 * m + s) m s true))] h
        refine kx_go 3 (pc' := (if kc_cnd .ne (Int32.ofNat (fa_cm B A l (2 * m + s) m s true)).toInt 0 then 69 else 62)) (L' := [(5, .inl (Int32.ofNat (fa_cm B A l (2 * m + s) m s true))), (4, .inl (Int32.ofNat (2 * m + s))), (0, .inr (.inr (.inl (some 190)))), (1, .inl (Int32.ofNat l)), (2, .inl (Int32.ofNat m)), (3, .inl (Int32.ofNat s))]) (S' := []) (h' := h) (by with_unfolding_all rfl) ?_
        have cl := fa_cml (B := B) (A := A) (l := l) (s := 2 * m + s) (m := m) (t := s) (nw := true)
        by_cases c4 : fa_cm B A l (2 * m + s) m s true = 0
        · rw [if_neg (fa_z (by omega) c4), if_pos c4, c4]
          refine kx_go 3 (pc' := 66) (L' := [(5, .inl (Int32.ofNat 0)), (4, .inl (Int32.ofNat (2 * m + s))), (0, .inr (.inr (.inl (some 190)))), (1, .inl (Int32.ofNat l)), (2, .inl (Int32.ofNat m)), (3, .inl (Int32.ofNat s))]) (S' := [.inl (Int32.ofNat (2 * m + s)), .inl (Int32.ofNat l), .inr (.inr (.inl (some 190)))]) (h' := h) (by with_unfolding_all rfl) ?_
          refine kc_call_rule (M2 := wk_m190) (av := [.inr (.inr (.inl (some 190))), .inl (Int32.ofNat l), .inl (Int32.ofNat (2 * m + s))]) (r := []) rfl rfl (kc_Con_le (fa_c190 (d := 0) hg hL h3 hH1 hW s6 c1 (fa_cm_lt (h3 _ s6) c4)) (by omega)) (fun rv h2 hq => ?_)
          obtain ⟨rfl, H2⟩ := hq
          show kc_Ev g (d + 6) wk_m184 _ 69 [(5, .inl (Int32.ofNat 0)), (4, .inl (Int32.ofNat (2 * m + s))), (0, .inr (.inr (.inl (some 190)))), (1, .inl (Int32.ofNat l)), (2, .inl (Int32.ofNat m)), (3, .inl (Int32.ofNat s))] [] h2
          refine kx_go 1 (pc' := 71) (L' := [(5, .inl (Int32.ofNat 0)), (4, .inl (Int32.ofNat (2 * m + s))), (0, .inr (.inr (.inl (some 190)))), (1, .inl (Int32.ofNat l)), (2, .inl (Int32.ofNat m)), (3, .inl (Int32.ofNat s))]) (S' := [.inl (Int32.ofNat 0)]) (h' := h2) (by with_unfolding_all rfl) ?_
          exact kc_ret_ok rfl (rv := some (.inl (Int32.ofNat 0))) rfl ⟨rfl, H2⟩
        · rw [if_pos (fa_nz (by omega) c4), if_neg c4]
          refine kx_go 1 (pc' := 71) (L' := [(5, .inl (Int32.ofNat (fa_cm B A l (2 * m + s) m s true))), (4, .inl (Int32.ofNat (2 * m + s))), (0, .inr (.inr (.inl (some 190)))), (1, .inl (Int32.ofNat l)), (2, .inl (Int32.ofNat m)), (3, .inl (Int32.ofNat s))]) (S' := [.inl (Int32.ofNat (fa_cm B A l (2 * m + s) m s true))]) (h' := h) (by with_unfolding_all rfl) ?_
          exact kc_ret_ok rfl (rv := some (.inl (Int32.ofNat (fa_cm B A l (2 * m + s) m s true)))) rfl ⟨rfl, hH1, hW⟩
      · rw [if_neg (mt (kx_eq (by omega) (by omega)).mp c3), if_neg c3]
        refine kx_go 1 (pc' := 39) (L' := [(0, .inr (.inr (.inl (some 190)))), (1, .inl (Int32.ofNat l)), (2, .inl (Int32.ofNat m)), (3, .inl (Int32.ofNat s))]) (S' := [.inl (Int32.ofNat 2)]) (h' := h) (by with_unfolding_all rfl) ?_
        exact kc_ret_ok rfl (rv := some (.inl (Int32.ofNat 2))) rfl ⟨rfl, hH1, hW⟩
    · rw [decide_eq_false c2, if_neg fa_b1f, if_neg c2]
      refine kx_go 1 (pc' := 24) (L' := [(0, .inr (.inr (.inl (some 190)))), (1, .inl (Int32.ofNat l)), (2, .inl (Int32.ofNat m)), (3, .inl (Int32.ofNat s))]) (S' := [.inl (Int32.ofNat 1)]) (h' := h) (by with_unfolding_all rfl) ?_
      exact kc_ret_ok rfl (rv := some (.inl (Int32.ofNat 1))) rfl ⟨rfl, hH1, hW⟩
  · rw [decide_eq_false c1, if_pos fa_b0f, if_neg c1]
    refine kx_go 1 (pc' := 24) (L' := [(0, .inr (.inr (.inl (some 190)))), (1, .inl (Int32.ofNat l)), (2, .inl (Int32.ofNat m)), (3, .inl (Int32.ofNat s))]) (S' := [.inl (Int32.ofNat 1)]) (h' := h) (by with_unfolding_all rfl) ?_
    exact kc_ret_ok rfl (rv := some (.inl (Int32.ofNat 1))) rfl ⟨rfl, hH1, hW⟩
set_option maxRecDepth 20000 in
theorem fa_r239 {g : kc_G} {d : Nat} {h0 h : kc_H} {B : Nat → Int32} {A : Nat → Nat} {D M L i : Nat} {l m s : Nat} (hg : kc_ok g) (hBB : fa_BB B D M L) (hC0 : fu_B B h0) (hi : i ≤ 60) (hI : fa_I B A L i) (hH : fa_Hr h0 A L h) (hl : l < 1000) (hm : m < 1000) (hs : s < 1000) : kc_Con g (d + 9) 239 [.inr (.inr (.inl (some 259))), .inl (Int32.ofNat l), .inl (Int32.ofNat m), .inl (Int32.ofNat s)] h (fun rv h' => rv = some (.inl (Int32.ofNat (fa_hang B A L M l m s).1)) ∧ fa_Hr h0 ((fa_hang B A L M l m s).2) L h') := by
  have hBB1 := hBB
  obtain ⟨hB, ⟨eD, hD⟩, ⟨eM, hM⟩, eL, hL⟩ := hBB1
  have h3 := hI.2.2.2.2.2.2.1
  have hH1 := hH
  obtain ⟨hw, hA, hF⟩ := hH
  have hC := fa_hr hF hC0
  have a4 := hI.2.2.2.1
  have z1 : (B 1).toInt - 1 = (M : Int) - 1 := by rw [eM, kx_ti (by omega)]
  have z2 : (B 2).toInt - 1 = (L : Int) - 1 := by rw [eL, kx_ti (by omega)]
  unfold fa_hang
  refine kc_Con_new hg (M := wk_m239) rfl rfl rfl (show 4 ≤ 5 by decide) ?_
  refine kx_go 2 (pc' := 2) (L' := [(0, .inr (.inr (.inl (some 259)))), (1, .inl (Int32.ofNat l)), (2, .inl (Int32.ofNat m)), (3, .inl (Int32.ofNat s))]) (S' := [.inl (Int32.ofNat l), .inr (.inr (.inl (some 259)))]) (h' := h) (by with_unfolding_all rfl) ?_
  refine kc_call_rule (M2 := wk_m48) (av := [.inr (.inr (.inl (some 259))), .inl (Int32.ofNat l)]) (r := []) rfl rfl (kc_Con_le (fu_r48 (d := 0) hg hw hC hB) (by omega)) (fun rv h2 hq => ?_)
  obtain ⟨rfl, e9⟩ := hq
  rw [e9]
  clear e9
  rw [fa_inb hl z2]
  show kc_Ev g (d + 8) wk_m239 _ 5 [(0, .inr (.inr (.inl (some 259)))), (1, .inl (Int32.ofNat l)), (2, .inl (Int32.ofNat m)), (3, .inl (Int32.ofNat s))] [.inl (kp_b (decide (l < L)))] h
  refine kx_go 1 (pc' := (if kc_cnd .eq (kp_b (decide (l < L))).toInt 0 then 17 else 8)) (L' := [(0, .inr (.inr (.inl (some 259)))), (1, .inl (Int32.ofNat l)), (2, .inl (Int32.ofNat m)), (3, .inl (Int32.ofNat s))]) (S' := []) (h' := h) (by with_unfolding_all rfl) ?_
  by_cases c1 : l < L
  · rw [decide_eq_true c1, if_neg fa_b0t, if_pos c1]
    refine kx_go 3 (pc' := 11) (L' := [(0, .inr (.inr (.inl (some 259)))), (1, .inl (Int32.ofNat l)), (2, .inl (Int32.ofNat m)), (3, .inl (Int32.ofNat s))]) (S' := [.inl (Int32.ofNat s), .inl (Int32.ofNat m), .inr (.inr (.inl (some 259)))]) (h' := h) (by with_unfolding_all rfl) ?_
    refine kc_call_rule (M2 := wk_m82) (av := [.inr (.inr (.inl (some 259))), .inl (Int32.ofNat m), .inl (Int32.ofNat s)]) (r := []) rfl rfl (kc_Con_le (fa_r82 (d := 0) hg hw hC hBB hm hs) (by omega)) (fun rv h2 hq => ?_)
    obtain ⟨rfl, e9⟩ := hq
    rw [e9]
    clear e9
    show kc_Ev g (d + 8) wk_m239 _ 14 [(0, .inr (.inr (.inl (some 259)))), (1, .inl (Int32.ofNat l)), (2, .inl (Int32.ofNat m)), (3, .inl (Int32.ofNat s))] [.inl (kp_b (decide (m < M ∧ s < 2)))] h
    refine kx_go 1 (pc' := (if kc_cnd .ne (kp_b (decide (m < M ∧ s < 2))).toInt 0 then 19 else 17)) (L' := [(0, .inr (.inr (.inl (some 259)))), (1, .inl (Int32.ofNat l)), (2, .inl (Int32.ofNat m)), (3, .inl (Int32.ofNat s))]) (S' := []) (h' := h) (by with_unfolding_all rfl) ?_
    by_cases c2 : m < M ∧ s < 2
    · rw [decide_eq_true c2, if_pos fa_b1t, if_pos c2]
      have s6 : 2 * m + s < 6 := by omega
      have a1 := hI.2.2.2.2.2.1 l c1
      refine kx_go 1 (pc' := 20) (L' := [(0, .inr (.inr (.inl (some 259)))), (1, .inl (Int32.ofNat l)), (2, .inl (Int32.ofNat m)), (3, .inl (Int32.ofNat s))]) (S' := [.inr (.inr (.inl (some 259)))]) (h' := h) (by with_unfolding_all rfl) ?_
      refine kx_getf (c := 259) (v := .inr (.inr (.inl (some 266)))) rfl (by decide) (kx_ofr (hw _ _ _ fa_kr.1)) ?_
      refine kx_go 1 (pc' := 24) (L' := [(0, .inr (.inr (.inl (some 259)))), (1, .inl (Int32.ofNat l)), (2, .inl (Int32.ofNat m)), (3, .inl (Int32.ofNat s))]) (S' := [.inl (Int32.ofNat l), .inr (.inr (.inl (some 266)))]) (h' := h) (by with_unfolding_all rfl) ?_
      refine kx_iald (c := 266) (j := l) (m := 10) (v := .inl (Int32.ofNat (A (10 + l)))) rfl rfl (by decide) (by decide) (by omega) (hA.2.1 l (by omega)) ?_
      refine kx_go 1 (pc' := 26) (L' := [(0, .inr (.inr (.inl (some 259)))), (1, .inl (Int32.ofNat l)), (2, .inl (Int32.ofNat m)), (3, .inl (Int32.ofNat s))]) (S' := [.inr (.inr (.inl (some 259))), .inl (Int32.ofNat (A (10 + l)))]) (h' := h) (by with_unfolding_all rfl) ?_
      refine kx_getf (c := 259) (v := .inl (Int32.ofNat (A 4))) rfl (by decide) hA.1.2.2.2.2.1 ?_
      refine kx_go 1 (pc' := (if kc_cnd .eq (Int32.ofNat (A (10 + l))).toInt (Int32.ofNat (A 4)).toInt then 36 else 32)) (L' := [(0, .inr (.inr (.inl (some 259)))), (1, .inl (Int32.ofNat l)), (2, .inl (Int32.ofNat m)), (3, .inl (Int32.ofNat s))]) (S' := []) (h' := h) (by with_unfolding_all rfl) ?_
      by_cases c3 : A (10 + l) = A 4
      · rw [if_pos ((kx_eq (by omega) (by omega)).mpr c3), if_pos c3]
        refine kx_go 8 (pc' := 44) (L' := [(0, .inr (.inr (.inl (some 259)))), (1, .inl (Int32.ofNat l)), (2, .inl (Int32.ofNat m)), (3, .inl (Int32.ofNat s))]) (S' := [.inl (Int32.ofInt (-1)), .inl (((Int32.ofNat 2) * (Int32.ofNat m)) + (Int32.ofNat s)), .inl (Int32.ofNat l), .inr (.inr (.inl (some 259)))]) (h' := h) (by with_unfolding_all rfl) ?_
        rw [kx_mul, kx_add]
        refine kc_call_rule (M2 := wk_m240) (av := [.inr (.inr (.inl (some 259))), .inl (Int32.ofNat l), .inl (Int32.ofNat (2 * m + s)), .inl (Int32.ofInt (-1))]) (r := []) rfl rfl (kc_Con_le (fa_r240n (d := 0) rfl (show m < 3 by omega) c2.2 hg hw hC hB hL hi hI hA c1) (by omega)) (fun rv h2 hq => ?_)
        obtain ⟨rfl, e9⟩ := hq
        rw [e9]
        clear e9
        show kc_Ev g (d + 8) wk_m239 _ 47 [(0, .inr (.inr (.inl (some 259)))), (1, .inl (Int32.ofNat l)), (2, .inl (Int32.ofNat m)), (3, .inl (Int32.ofNat s))] [.inl (Int32.ofNat (fa_cm B A l (2 * m + s) m s true))] h
        refine kx_go 3 (pc' := (if kc_cnd .ne (Int32.ofNat (fa_cm B A l (2 * m + s) m s true)).toInt 0 then 64 else 54)) (L' := [(4, .inl (Int32.ofNat (fa_cm B A l (2 * m + s) m s true))), (0, .inr (.inr (.inl (some 259)))), (1, .inl (Int32.ofNat l)), (2, .inl (Int32.ofNat m)), (3, .inl (Int32.ofNat s))]) (S' := []) (h' := h) (by with_unfolding_all rfl) ?_
        have cl := fa_cml (B := B) (A := A) (l := l) (s := 2 * m + s) (m := m) (t := s) (nw := true)
        by_cases c4 : fa_cm B A l (2 * m + s) m s true = 0
        · rw [if_neg (fa_z (by omega) c4), if_pos c4, c4]
          refine kx_go 7 (pc' := 61) (L' := [(4, .inl (Int32.ofNat 0)), (0, .inr (.inr (.inl (some 259)))), (1, .inl (Int32.ofNat l)), (2, .inl (Int32.ofNat m)), (3, .inl (Int32.ofNat s))]) (S' := [.inl (((Int32.ofNat 2) * (Int32.ofNat m)) + (Int32.ofNat s)), .inl (Int32.ofNat l), .inr (.inr (.inl (some 259)))]) (h' := h) (by with_unfolding_all rfl) ?_
          rw [kx_mul, kx_add]
          refine kc_call_rule (M2 := wk_m248) (av := [.inr (.inr (.inl (some 259))), .inl (Int32.ofNat l), .inl (Int32.ofNat (2 * m + s))]) (r := []) rfl rfl (kc_Con_le (fa_r248 (d := 0) hg hL h3 hH1 s6 c1 (fa_cm_lt (h3 _ s6) c4)) (by omega)) (fun rv h2 hq => ?_)
          obtain ⟨rfl, H2⟩ := hq
          show kc_Ev g (d + 8) wk_m239 _ 64 [(4, .inl (Int32.ofNat 0)), (0, .inr (.inr (.inl (some 259)))), (1, .inl (Int32.ofNat l)), (2, .inl (Int32.ofNat m)), (3, .inl (Int32.ofNat s))] [] h2
          refine kx_go 1 (pc' := 66) (L' := [(4, .inl (Int32.ofNat 0)), (0, .inr (.inr (.inl (some 259)))), (1, .inl (Int32.ofNat l)), (2, .inl (Int32.ofNat m)), (3, .inl (Int32.ofNat s))]) (S' := [.inl (Int32.ofNat 0)]) (h' := h2) (by with_unfolding_all rfl) ?_
          exact kc_ret_ok rfl (rv := some (.inl (Int32.ofNat 0))) rfl ⟨rfl, H2⟩
        · rw [if_pos (fa_nz (by omega) c4), if_neg c4]
          refine kx_go 1 (pc' := 66) (L' := [(4, .inl (Int32.ofNat (fa_cm B A l (2 * m + s) m s true))), (0, .inr (.inr (.inl (some 259)))), (1, .inl (Int32.ofNat l)), (2, .inl (Int32.ofNat m)), (3, .inl (Int32.ofNat s))]) (S' := [.inl (Int32.ofNat (fa_cm B A l (2 * m + s) m s true))]) (h' := h) (by with_unfolding_all rfl) ?_
          exact kc_ret_ok rfl (rv := some (.inl (Int32.ofNat (fa_cm B A l (2 * m + s) m s true)))) rfl ⟨rfl, hH1⟩
      · rw [if_neg (mt (kx_eq (by omega) (by omega)).mp c3), if_neg c3]
        refine kx_go 5 (pc' := (if kc_cnd .ne (Int32.ofNat 2).toInt 0 then 64 else 54)) (L' := [(4, .inl (Int32.ofNat 2)), (0, .inr (.inr (.inl (some 259)))), (1, .inl (Int32.ofNat l)), (2, .inl (Int32.ofNat m)), (3, .inl (Int32.ofNat s))]) (S' := []) (h' := h) (by with_unfolding_all rfl) ?_
        rw [if_pos (fa_nz (X := 2) (by decide) (by decide))]
        refine kx_go 1 (pc' := 66) (L' := [(4, .inl (Int32.ofNat 2)), (0, .inr (.inr (.inl (some 259)))), (1, .inl (Int32.ofNat l)), (2, .inl (Int32.ofNat m)), (3, .inl (Int32.ofNat s))]) (S' := [.inl (Int32.ofNat 2)]) (h' := h) (by with_unfolding_all rfl) ?_
        exact kc_ret_ok rfl (rv := some (.inl (Int32.ofNat 2))) rfl ⟨rfl, hH1⟩
    · rw [decide_eq_false c2, if_neg fa_b1f, if_neg c2]
      refine kx_go 1 (pc' := 18) (L' := [(0, .inr (.inr (.inl (some 259)))), (1, .inl (Int32.ofNat l)), (2, .inl (Int32.ofNat m)), (3, .inl (Int32.ofNat s))]) (S' := [.inl (Int32.ofNat 1)]) (h' := h) (by with_unfolding_all rfl) ?_
      exact kc_ret_ok rfl (rv := some (.inl (Int32.ofNat 1))) rfl ⟨rfl, hH1⟩
  · rw [decide_eq_false c1, if_pos fa_b0f, if_neg c1]
    refine kx_go 1 (pc' := 18) (L' := [(0, .inr (.inr (.inl (some 259)))), (1, .inl (Int32.ofNat l)), (2, .inl (Int32.ofNat m)), (3, .inl (Int32.ofNat s))]) (S' := [.inl (Int32.ofNat 1)]) (h' := h) (by with_unfolding_all rfl) ?_
    exact kc_ret_ok rfl (rv := some (.inl (Int32.ofNat 1))) rfl ⟨rfl, hH1⟩
set_option maxRecDepth 20000 in
theorem fa_c191 {g : kc_G} {d : Nat} {h0 h : kc_H} {B : Nat → Int32} {A : Nat → Nat} {D M L i : Nat} {m s : Nat} (hg : kc_ok g) (hBB : fa_BB B D M L) (hC0 : fu_C B 1 h0) (hi : i ≤ 60) (hI : fa_I B A L i) (hMx : fa_M B A M) (hH : fa_Hc h0 A L h) (hW : fa_W B A L h) (hm : m < 1000) (hs : s < 1000) : kc_Con g (d + 5) 191 [.inr (.inr (.inl (some 190))), .inl (Int32.ofNat m), .inl (Int32.ofNat s)] h (fun rv h' => rv = some (.inl (Int32.ofNat (fa_take A M m s).1)) ∧ fa_Hc h0 ((fa_take A M m s).2) L h' ∧ fa_W B ((fa_take A M m s).2) L h') := by
  have hBB1 := hBB
  obtain ⟨hB, ⟨eD, hD⟩, ⟨eM, hM⟩, eL, hL⟩ := hBB1
  have h3 := hI.2.2.2.2.2.2.1
  have hH1 := hH
  obtain ⟨hw, hA, hF⟩ := hH
  have hC := fa_hc hF hC0
  have a4 := hI.2.2.2.1
  have z1 : (B 1).toInt - 1 = (M : Int) - 1 := by rw [eM, kx_ti (by omega)]
  have z2 : (B 2).toInt - 1 = (L : Int) - 1 := by rw [eL, kx_ti (by omega)]
  unfold fa_take
  refine kc_Con_new hg (M := wk_m191) rfl rfl rfl (show 3 ≤ 5 by decide) ?_
  refine kx_go 1 (pc' := 1) (L' := [(0, .inr (.inr (.inl (some 190)))), (1, .inl (Int32.ofNat m)), (2, .inl (Int32.ofNat s))]) (S' := [.inr (.inr (.inl (some 190)))]) (h' := h) (by with_unfolding_all rfl) ?_
  refine kx_getf (c := 190) (v := .inr (.inr (.inl (some 1)))) rfl (by decide) (kx_ofr (hw _ _ _ fa_k.1)) ?_
  refine kx_go 2 (pc' := 6) (L' := [(0, .inr (.inr (.inl (some 190)))), (1, .inl (Int32.ofNat m)), (2, .inl (Int32.ofNat s))]) (S' := [.inl (Int32.ofNat s), .inl (Int32.ofNat m), .inr (.inr (.inl (some 1)))]) (h' := h) (by with_unfolding_all rfl) ?_
  refine kc_call_rule (M2 := wk_m37) (av := [.inr (.inr (.inl (some 1))), .inl (Int32.ofNat m), .inl (Int32.ofNat s)]) (r := []) rfl rfl (kc_Con_le (fu_c37 (d := 0) hg hC hB) (by omega)) (fun rv h2 hq => ?_)
  obtain ⟨rfl, e9⟩ := hq
  rw [e9]
  clear e9
  rw [fa_inb hm z1, fa_inb (u := 2) (z := 1) hs rfl, fa_dn]
  show kc_Ev g (d + 4) wk_m191 _ 9 [(0, .inr (.inr (.inl (some 190)))), (1, .inl (Int32.ofNat m)), (2, .inl (Int32.ofNat s))] [.inl (kp_b (decide (m < M ∧ s < 2)))] h
  refine kx_go 1 (pc' := (if kc_cnd .ne (kp_b (decide (m < M ∧ s < 2))).toInt 0 then 14 else 12)) (L' := [(0, .inr (.inr (.inl (some 190)))), (1, .inl (Int32.ofNat m)), (2, .inl (Int32.ofNat s))]) (S' := []) (h' := h) (by with_unfolding_all rfl) ?_
  by_cases c2 : m < M ∧ s < 2
  · rw [decide_eq_true c2, if_pos fa_b1t, if_pos c2]
    have s6 : 2 * m + s < 6 := by omega
    have a3 := h3 (2 * m + s) s6
    refine kx_go 7 (pc' := 21) (L' := [(3, .inl (((Int32.ofNat 2) * (Int32.ofNat m)) + (Int32.ofNat s))), (0, .inr (.inr (.inl (some 190)))), (1, .inl (Int32.ofNat m)), (2, .inl (Int32.ofNat s))]) (S' := [.inr (.inr (.inl (some 190)))]) (h' := h) (by with_unfolding_all rfl) ?_
    refine kx_getf (c := 190) (v := .inr (.inr (.inl (some 192)))) rfl (by decide) (kx_ofr (hw _ _ _ fa_k.2.2.2.1)) ?_
    refine kx_go 1 (pc' := 25) (L' := [(3, .inl (((Int32.ofNat 2) * (Int32.ofNat m)) + (Int32.ofNat s))), (0, .inr (.inr (.inl (some 190)))), (1, .inl (Int32.ofNat m)), (2, .inl (Int32.ofNat s))]) (S' := [.inl (((Int32.ofNat 2) * (Int32.ofNat m)) + (Int32.ofNat s)), .inr (.inr (.inl (some 192)))]) (h' := h) (by with_unfolding_all rfl) ?_
    rw [kx_mul, kx_add]
    refine kx_iald (c := 192) (j := 2 * m + s) (m := 6) (v := .inl (Int32.ofNat (A (20 + (2 * m + s))))) rfl rfl (by decide) (by decide) (by omega) (hA.2.2.1 (2 * m + s) (by omega)) ?_
    refine kx_go 1 (pc' := (if kc_cnd .ne (Int32.ofNat (A (20 + (2 * m + s)))).toInt 0 then 31 else 29)) (L' := [(3, .inl (Int32.ofNat (2 * m + s))), (0, .inr (.inr (.inl (some 190)))), (1, .inl (Int32.ofNat m)), (2, .inl (Int32.ofNat s))]) (S' := []) (h' := h) (by with_unfolding_all rfl) ?_
    generalize ec : 2 * m + s = c at *
    by_cases c3 : A (20 + c) = 0
    · rw [if_neg (fa_z (by omega) c3), if_pos c3]
      refine kx_go 1 (pc' := 30) (L' := [(3, .inl (Int32.ofNat c)), (0, .inr (.inr (.inl (some 190)))), (1, .inl (Int32.ofNat m)), (2, .inl (Int32.ofNat s))]) (S' := [.inl (Int32.ofNat 2)]) (h' := h) (by with_unfolding_all rfl) ?_
      exact kc_ret_ok rfl (rv := some (.inl (Int32.ofNat 2))) rfl ⟨rfl, hH1, hW⟩
    · rw [if_pos (fa_nz (by omega) c3), if_neg c3]
      have htl : fa_top A c < L := hI.2.2.2.2.2.2.2.2.1 c s6 (A (20 + c) - 1) (by omega)
      have etp : fa_tp A c = Int32.ofNat (fa_top A c) := if_neg c3
      refine kx_go 2 (pc' := 33) (L' := [(3, .inl (Int32.ofNat c)), (0, .inr (.inr (.inl (some 190)))), (1, .inl (Int32.ofNat m)), (2, .inl (Int32.ofNat s))]) (S' := [.inl (Int32.ofNat c), .inr (.inr (.inl (some 190)))]) (h' := h) (by with_unfolding_all rfl) ?_
      refine kc_call_rule (M2 := wk_m187) (av := [.inr (.inr (.inl (some 190))), .inl (Int32.ofNat c)]) (r := []) rfl rfl (kc_Con_le (fa_c187 (d := 0) hg hw hC hB hL hi hI hA s6) (by omega)) (fun rv h2 hq => ?_)
      obtain ⟨rfl, e9⟩ := hq
      rw [e9]
      clear e9
      rw [etp]
      show kc_Ev g (d + 4) wk_m191 _ 36 [(3, .inl (Int32.ofNat c)), (0, .inr (.inr (.inl (some 190)))), (1, .inl (Int32.ofNat m)), (2, .inl (Int32.ofNat s))] [.inl (Int32.ofNat (fa_top A c))] h
      refine kx_go 2 (pc' := 39) (L' := [(4, .inl (Int32.ofNat (fa_top A c))), (3, .inl (Int32.ofNat c)), (0, .inr (.inr (.inl (some 190)))), (1, .inl (Int32.ofNat m)), (2, .inl (Int32.ofNat s))]) (S' := [.inr (.inr (.inl (some 190)))]) (h' := h) (by with_unfolding_all rfl) ?_
      refine kx_getf (c := 190) (v := .inr (.inr (.inl (some 192)))) rfl (by decide) (kx_ofr (hw _ _ _ fa_k.2.2.2.1)) ?_
      refine kx_go 2 (pc' := 44) (L' := [(4, .inl (Int32.ofNat (fa_top A c))), (3, .inl (Int32.ofNat c)), (0, .inr (.inr (.inl (some 190)))), (1, .inl (Int32.ofNat m)), (2, .inl (Int32.ofNat s))]) (S' := [.inl (Int32.ofNat c), .inr (.inr (.inl (some 192))), .inl (Int32.ofNat c), .inr (.inr (.inl (some 192)))]) (h' := h) (by with_unfolding_all rfl) ?_
      refine kx_iald (c := 192) (j := c) (m := 6) (v := .inl (Int32.ofNat (A (20 + c)))) rfl rfl (by decide) (by decide) (by omega) (hA.2.2.1 c (by omega)) ?_
      refine kx_go 2 (pc' := 47) (L' := [(4, .inl (Int32.ofNat (fa_top A c))), (3, .inl (Int32.ofNat c)), (0, .inr (.inr (.inl (some 190)))), (1, .inl (Int32.ofNat m)), (2, .inl (Int32.ofNat s))]) (S' := [.inl ((Int32.ofNat (A (20 + c))) - (Int32.ofNat 1)), .inl (Int32.ofNat c), .inr (.inr (.inl (some 192)))]) (h' := h) (by with_unfolding_all rfl) ?_
      rw [kx_sub (show 1 ≤ A (20 + c) by omega)]
      refine kx_iast (c := 192) (j := c) (m := 6) rfl rfl (by decide) (by decide) (by omega) ?_
      have H2 := fa_lo_c (v := A (20 + c) - 1) s6 (Nat.sub_le _ _) hL h3 hH1
      have W2 : fa_W B (fa_s A (20 + c) (A (20 + c) - 1)) L (kc_upd h 192 c (.inl (Int32.ofNat (A (20 + c) - 1)))) := fa_W_s (by decide) (by omega) hW
      have e6 : (kc_upd h 192 c (.inl (Int32.ofNat (A (20 + c) - 1)))) 190 6 = .inl (Int32.ofNat (A 4)) := (fu_ne (fun q => by omega)).trans hA.1.2.2.2.2.1
      generalize (kc_upd h 192 c (.inl (Int32.ofNat (A (20 + c) - 1)))) = h2 at H2 W2 e6 ⊢
      have hw2 := H2.1
      refine kx_go 1 (pc' := 49) (L' := [(4, .inl (Int32.ofNat (fa_top A c))), (3, .inl (Int32.ofNat c)), (0, .inr (.inr (.inl (some 190)))), (1, .inl (Int32.ofNat m)), (2, .inl (Int32.ofNat s))]) (S' := [.inr (.inr (.inl (some 190)))]) (h' := h2) (by with_unfolding_all rfl) ?_
      refine kx_getf (c := 190) (v := .inr (.inr (.inl (some 191)))) rfl (by decide) (kx_ofr (hw2 _ _ _ fa_k.2.2.1)) ?_
      refine kx_go 2 (pc' := 55) (L' := [(4, .inl (Int32.ofNat (fa_top A c))), (3, .inl (Int32.ofNat c)), (0, .inr (.inr (.inl (some 190)))), (1, .inl (Int32.ofNat m)), (2, .inl (Int32.ofNat s))]) (S' := [.inr (.inr (.inl (some 190))), .inl (Int32.ofNat (fa_top A c)), .inr (.inr (.inl (some 191)))]) (h' := h2) (by with_unfolding_all rfl) ?_
      refine kx_getf (c := 190) (v := .inl (Int32.ofNat (A 4))) rfl (by decide) e6 ?_
      refine kx_iast (c := 191) (j := fa_top A c) (m := 10) rfl rfl (by decide) (by decide) (by omega) ?_
      refine kx_go 1 (pc' := 60) (L' := [(4, .inl (Int32.ofNat (fa_top A c))), (3, .inl (Int32.ofNat c)), (0, .inr (.inr (.inl (some 190)))), (1, .inl (Int32.ofNat m)), (2, .inl (Int32.ofNat s))]) (S' := [.inl (Int32.ofNat 0)]) (h' := (kc_upd h2 191 (fa_top A c) (.inl (Int32.ofNat (A 4))))) (by with_unfolding_all rfl) ?_
      exact kc_ret_ok rfl (rv := some (.inl (Int32.ofNat 0))) rfl ⟨rfl, fa_at_c (v := A 4) htl hL (fa_h3o h3 (Nat.sub_le _ _)) H2, fa_W_s (by decide) (by omega) W2⟩
  · rw [decide_eq_false c2, if_neg fa_b1f, if_neg c2]
    refine kx_go 1 (pc' := 13) (L' := [(0, .inr (.inr (.inl (some 190)))), (1, .inl (Int32.ofNat m)), (2, .inl (Int32.ofNat s))]) (S' := [.inl (Int32.ofNat 1)]) (h' := h) (by with_unfolding_all rfl) ?_
    exact kc_ret_ok rfl (rv := some (.inl (Int32.ofNat 1))) rfl ⟨rfl, hH1, hW⟩
set_option maxRecDepth 20000 in
theorem fa_r249 {g : kc_G} {d : Nat} {h0 h : kc_H} {B : Nat → Int32} {A : Nat → Nat} {D M L i : Nat} {m s : Nat} (hg : kc_ok g) (hBB : fa_BB B D M L) (hC0 : fu_B B h0) (hi : i ≤ 60) (hI : fa_I B A L i) (hH : fa_Hr h0 A L h) (hm : m < 1000) (hs : s < 1000) : kc_Con g (d + 5) 249 [.inr (.inr (.inl (some 259))), .inl (Int32.ofNat m), .inl (Int32.ofNat s)] h (fun rv h' => rv = some (.inl (Int32.ofNat (fa_take A M m s).1)) ∧ fa_Hr h0 ((fa_take A M m s).2) L h') := by
  have hBB1 := hBB
  obtain ⟨hB, ⟨eD, hD⟩, ⟨eM, hM⟩, eL, hL⟩ := hBB1
  have h3 := hI.2.2.2.2.2.2.1
  have hH1 := hH
  obtain ⟨hw, hA, hF⟩ := hH
  have hC := fa_hr hF hC0
  have a4 := hI.2.2.2.1
  have z1 : (B 1).toInt - 1 = (M : Int) - 1 := by rw [eM, kx_ti (by omega)]
  have z2 : (B 2).toInt - 1 = (L : Int) - 1 := by rw [eL, kx_ti (by omega)]
  unfold fa_take
  refine kc_Con_new hg (M := wk_m249) rfl rfl rfl (show 3 ≤ 3 by decide) ?_
  refine kx_go 3 (pc' := 3) (L' := [(0, .inr (.inr (.inl (some 259)))), (1, .inl (Int32.ofNat m)), (2, .inl (Int32.ofNat s))]) (S' := [.inl (Int32.ofNat s), .inl (Int32.ofNat m), .inr (.inr (.inl (some 259)))]) (h' := h) (by with_unfolding_all rfl) ?_
  refine kc_call_rule (M2 := wk_m82) (av := [.inr (.inr (.inl (some 259))), .inl (Int32.ofNat m), .inl (Int32.ofNat s)]) (r := []) rfl rfl (kc_Con_le (fa_r82 (d := 0) hg hw hC hBB hm hs) (by omega)) (fun rv h2 hq => ?_)
  obtain ⟨rfl, e9⟩ := hq
  rw [e9]
  clear e9
  show kc_Ev g (d + 4) wk_m249 _ 6 [(0, .inr (.inr (.inl (some 259)))), (1, .inl (Int32.ofNat m)), (2, .inl (Int32.ofNat s))] [.inl (kp_b (decide (m < M ∧ s < 2)))] h
  refine kx_go 1 (pc' := (if kc_cnd .ne (kp_b (decide (m < M ∧ s < 2))).toInt 0 then 11 else 9)) (L' := [(0, .inr (.inr (.inl (some 259)))), (1, .inl (Int32.ofNat m)), (2, .inl (Int32.ofNat s))]) (S' := []) (h' := h) (by with_unfolding_all rfl) ?_
  by_cases c2 : m < M ∧ s < 2
  · rw [decide_eq_true c2, if_pos fa_b1t, if_pos c2]
    have s6 : 2 * m + s < 6 := by omega
    have a3 := h3 (2 * m + s) s6
    refine kx_go 1 (pc' := 12) (L' := [(0, .inr (.inr (.inl (some 259)))), (1, .inl (Int32.ofNat m)), (2, .inl (Int32.ofNat s))]) (S' := [.inr (.inr (.inl (some 259)))]) (h' := h) (by with_unfolding_all rfl) ?_
    refine kx_getf (c := 259) (v := .inr (.inr (.inl (some 268)))) rfl (by decide) (kx_ofr (hw _ _ _ fa_kr.2.2.1)) ?_
    refine kx_go 5 (pc' := 20) (L' := [(0, .inr (.inr (.inl (some 259)))), (1, .inl (Int32.ofNat m)), (2, .inl (Int32.ofNat s))]) (S' := [.inl (((Int32.ofNat 2) * (Int32.ofNat m)) + (Int32.ofNat s)), .inr (.inr (.inl (some 268)))]) (h' := h) (by with_unfolding_all rfl) ?_
    rw [kx_mul, kx_add]
    refine kx_iald (c := 268) (j := 2 * m + s) (m := 6) (v := .inl (Int32.ofNat (A (20 + (2 * m + s))))) rfl rfl (by decide) (by decide) (by omega) (hA.2.2.1 (2 * m + s) (by omega)) ?_
    refine kx_go 1 (pc' := (if kc_cnd .ne (Int32.ofNat (A (20 + (2 * m + s)))).toInt 0 then 26 else 24)) (L' := [(0, .inr (.inr (.inl (some 259)))), (1, .inl (Int32.ofNat m)), (2, .inl (Int32.ofNat s))]) (S' := []) (h' := h) (by with_unfolding_all rfl) ?_
    generalize ec : 2 * m + s = c at *
    by_cases c3 : A (20 + c) = 0
    · rw [if_neg (fa_z (by omega) c3), if_pos c3]
      refine kx_go 1 (pc' := 25) (L' := [(0, .inr (.inr (.inl (some 259)))), (1, .inl (Int32.ofNat m)), (2, .inl (Int32.ofNat s))]) (S' := [.inl (Int32.ofNat 2)]) (h' := h) (by with_unfolding_all rfl) ?_
      exact kc_ret_ok rfl (rv := some (.inl (Int32.ofNat 2))) rfl ⟨rfl, hH1⟩
    · rw [if_pos (fa_nz (by omega) c3), if_neg c3]
      have htl : fa_top A c < L := hI.2.2.2.2.2.2.2.2.1 c s6 (A (20 + c) - 1) (by omega)
      have etp : fa_tp A c = Int32.ofNat (fa_top A c) := if_neg c3
      refine kx_go 1 (pc' := 27) (L' := [(0, .inr (.inr (.inl (some 259)))), (1, .inl (Int32.ofNat m)), (2, .inl (Int32.ofNat s))]) (S' := [.inr (.inr (.inl (some 259)))]) (h' := h) (by with_unfolding_all rfl) ?_
      refine kx_getf (c := 259) (v := .inr (.inr (.inl (some 266)))) rfl (by decide) (kx_ofr (hw _ _ _ fa_kr.1)) ?_
      refine kx_go 6 (pc' := 36) (L' := [(0, .inr (.inr (.inl (some 259)))), (1, .inl (Int32.ofNat m)), (2, .inl (Int32.ofNat s))]) (S' := [.inl (((Int32.ofNat 2) * (Int32.ofNat m)) + (Int32.ofNat s)), .inr (.inr (.inl (some 259))), .inr (.inr (.inl (some 266)))]) (h' := h) (by with_unfolding_all rfl) ?_
      rw [kx_mul, kx_add, ec]
      refine kc_call_rule (M2 := wk_m242) (av := [.inr (.inr (.inl (some 259))), .inl (Int32.ofNat c)]) (r := [.inr (.inr (.inl (some 266)))]) rfl rfl (kc_Con_le (fa_r242 (d := 0) hg hw hC hB hL hi hI hA s6) (by omega)) (fun rv h2 hq => ?_)
      obtain ⟨rfl, e9⟩ := hq
      rw [e9]
      clear e9
      rw [etp]
      show kc_Ev g (d + 4) wk_m249 _ 39 [(0, .inr (.inr (.inl (some 259)))), (1, .inl (Int32.ofNat m)), (2, .inl (Int32.ofNat s))] [.inl (Int32.ofNat (fa_top A c)), .inr (.inr (.inl (some 266)))] h
      refine kx_go 1 (pc' := 40) (L' := [(0, .inr (.inr (.inl (some 259)))), (1, .inl (Int32.ofNat m)), (2, .inl (Int32.ofNat s))]) (S' := [.inr (.inr (.inl (some 259))), .inl (Int32.ofNat (fa_top A c)), .inr (.inr (.inl (some 266)))]) (h' := h) (by with_unfolding_all rfl) ?_
      refine kx_getf (c := 259) (v := .inl (Int32.ofNat (A 4))) rfl (by decide) hA.1.2.2.2.2.1 ?_
      refine kx_iast (c := 266) (j := fa_top A c) (m := 10) rfl rfl (by decide) (by decide) (by omega) ?_
      have H2 := fa_at_r (v := A 4) htl hL h3 hH1
      have e8 : (kc_upd h 266 (fa_top A c) (.inl (Int32.ofNat (A 4)))) 268 c = .inl (Int32.ofNat (A (20 + c))) := (fu_ne (fun q => by omega)).trans (hA.2.2.1 c s6)
      generalize (kc_upd h 266 (fa_top A c) (.inl (Int32.ofNat (A 4)))) = h2 at H2 e8 ⊢
      have hw2 := H2.1
      refine kx_go 1 (pc' := 45) (L' := [(0, .inr (.inr (.inl (some 259)))), (1, .inl (Int32.ofNat m)), (2, .inl (Int32.ofNat s))]) (S' := [.inr (.inr (.inl (some 259)))]) (h' := h2) (by with_unfolding_all rfl) ?_
      refine kx_getf (c := 259) (v := .inr (.inr (.inl (some 268)))) rfl (by decide) (kx_ofr (hw2 _ _ _ fa_kr.2.2.1)) ?_
      refine kx_go 6 (pc' := 54) (L' := [(0, .inr (.inr (.inl (some 259)))), (1, .inl (Int32.ofNat m)), (2, .inl (Int32.ofNat s))]) (S' := [.inl (((Int32.ofNat 2) * (Int32.ofNat m)) + (Int32.ofNat s)), .inr (.inr (.inl (some 268))), .inl (((Int32.ofNat 2) * (Int32.ofNat m)) + (Int32.ofNat s)), .inr (.inr (.inl (some 268)))]) (h' := h2) (by with_unfolding_all rfl) ?_
      rw [kx_mul, kx_add, ec]
      refine kx_iald (c := 268) (j := c) (m := 6) (v := .inl (Int32.ofNat (A (20 + c)))) rfl rfl (by decide) (by decide) (by omega) e8 ?_
      refine kx_go 2 (pc' := 57) (L' := [(0, .inr (.inr (.inl (some 259)))), (1, .inl (Int32.ofNat m)), (2, .inl (Int32.ofNat s))]) (S' := [.inl ((Int32.ofNat (A (20 + c))) - (Int32.ofNat 1)), .inl (Int32.ofNat c), .inr (.inr (.inl (some 268)))]) (h' := h2) (by with_unfolding_all rfl) ?_
      rw [kx_sub (show 1 ≤ A (20 + c) by omega)]
      refine kx_iast (c := 268) (j := c) (m := 6) rfl rfl (by decide) (by decide) (by omega) ?_
      have H3 := fa_lo_r (v := A (20 + c) - 1) s6 (by rw [fa_sn (by omega)]; exact Nat.sub_le _ _) hL (fun t ht => by rw [fa_sn (by omega)]; exact h3 t ht) H2
      rw [fa_sc (by omega)] at H3
      refine kx_go 1 (pc' := 59) (L' := [(0, .inr (.inr (.inl (some 259)))), (1, .inl (Int32.ofNat m)), (2, .inl (Int32.ofNat s))]) (S' := [.inl (Int32.ofNat 0)]) (h' := (kc_upd h2 268 c (.inl (Int32.ofNat (A (20 + c) - 1))))) (by with_unfolding_all rfl) ?_
      exact kc_ret_ok rfl (rv := some (.inl (Int32.ofNat 0))) rfl ⟨rfl, H3⟩
  · rw [decide_eq_false c2, if_neg fa_b1f, if_neg c2]
    refine kx_go 1 (pc' := 10) (L' := [(0, .inr (.inr (.inl (some 259)))), (1, .inl (Int32.ofNat m)), (2, .inl (Int32.ofNat s))]) (S' := [.inl (Int32.ofNat 1)]) (h' := h) (by with_unfolding_all rfl) ?_
    exact kc_ret_ok rfl (rv := some (.inl (Int32.ofNat 1))) rfl ⟨rfl, hH1⟩
end
