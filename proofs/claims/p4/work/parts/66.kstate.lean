/-! ===== what a state of the second engine means ===== -/
def kd_kn (t : Nat) : Bool := Nat.ble t 3 || (Nat.beq t 5 || Nat.beq t 6)
def kd_gL (n : Nat) (ρ : Nat → Nat) (AL : List kd_V) (L : kc_L) : Prop := ∀ i v, AL[i]? = some v → kd_kn v.1 = true → ∃ x, kc_get L i = some x ∧ kd_g n ρ v x
def kd_gF (n : Nat) (ρ : Nat → Nat) (F : kd_F) (h : kc_H) : Prop := ∀ q ∈ F, kd_g n ρ q.2.2 (h q.1 q.2.1)
def kd_wt (ty : kd_T) (h : kc_H) : Prop := ∀ c i v, kd_rn (ty c) i = some v → kd_g 0 (fun _ => 0) v (h c i)
def kd_fr (W : kd_W) (h0 h : kc_H) : Prop := ∀ c i, (∀ q ∈ W, kd_inr c q.1 q.2.1 i q.2.2.1 q.2.2.2 = false) → h c i = h0 c i
def kd_rv (n : Nat) (ρ : Nat → Nat) (rv : Option kd_V) (xr : Option kc_V) : Prop := match rv, xr with
  | none, none => True
  | some v, some x => kd_g n ρ v x
  | _, _ => False
theorem kd_g0 {n : Nat} {ρ : Nat → Nat} {v : kd_V} {x : kc_V} (h : kd_g 0 (fun _ => 0) v x) : kd_g n ρ v x := kd_g_ag h (fun j hj => absurd hj (Nat.not_lt_zero j)) (Nat.zero_le _)
theorem kd_gL_ag {n n' : Nat} {ρ ρ' : Nat → Nat} {AL : List kd_V} {L : kc_L} (h : kd_gL n ρ AL L) (ha : kd_ag n ρ ρ') (hn : n ≤ n') : kd_gL n' ρ' AL L := fun i v h1 h2 => by
  obtain ⟨x, e1, e2⟩ := h i v h1 h2
  exact ⟨x, e1, kd_g_ag e2 ha hn⟩
theorem kd_gS_ag {n n' : Nat} {ρ ρ' : Nat → Nat} {AS : List kd_V} {S : List kc_V} (h : wk_f2 (kd_g n ρ) AS S) (ha : kd_ag n ρ ρ') (hn : n ≤ n') : wk_f2 (kd_g n' ρ') AS S := wk_f2_mono (fun _ _ q => kd_g_ag q ha hn) h
theorem kd_gF_ag {n n' : Nat} {ρ ρ' : Nat → Nat} {F : kd_F} {h : kc_H} (hf : kd_gF n ρ F h) (ha : kd_ag n ρ ρ') (hn : n ≤ n') : kd_gF n' ρ' F h := fun q hq => kd_g_ag (hf q hq) ha hn
section KDS
variable {n : Nat} {ρ : Nat → Nat} {iv : kd_I} {v w : kd_V} {x y : kc_V} {AL : List kd_V} {L : kc_L} {F : kd_F} {h h0 : kc_H} {W : kd_W} {ty : kd_T}
theorem kd_isI_r (h : kd_isI v.1 = true) (hv : kd_g n ρ v x) : ∃ a : Int32, x = .inl a := by
  obtain ⟨t, a, b⟩ := v
  have h := Nat.le_of_ble_eq_true h
  match t, h, hv with
  | 0, _, hv => obtain ⟨z, e, -⟩ := hv; exact ⟨z, e⟩
  | 1, _, hv => obtain ⟨-, z, e, -⟩ := hv; exact ⟨z, e⟩
  | _ + 2, h, _ => exact absurd h (by simp)
theorem kd_isA_r (h : kd_isA v.1 = true) (hv : kd_g n ρ v x) : (∃ k : Nat, x = .inr (.inr (.inl (some k)))) ∨ x = .inr (.inr (.inr 0)) := by
  obtain ⟨t, a, b⟩ := v
  unfold kd_isA at h
  rw [Bool.or_eq_true] at h
  rcases h with h | h
  · obtain rfl : t = 3 := Nat.eq_of_beq_eq_true h
    obtain ⟨k, e, -⟩ := hv
    exact Or.inl ⟨k, e⟩
  · obtain rfl : t = 5 := Nat.eq_of_beq_eq_true h
    exact Or.inr hv
theorem kd_lj_r (h : kd_lj v.1 = true) (hv : kd_g n ρ v x) : ∃ a : Int64, x = .inr (.inl a) := by
  obtain ⟨t, a, b⟩ := v
  unfold kd_lj at h
  rw [Bool.or_eq_true] at h
  rcases h with h | h
  · obtain rfl : t = 2 := Nat.eq_of_beq_eq_true h
    obtain ⟨z, e, -⟩ := hv
    exact ⟨z, e⟩
  · obtain rfl : t = 6 := Nat.eq_of_beq_eq_true h
    obtain ⟨-, z, e, -⟩ := hv
    exact ⟨z, e⟩
theorem kd_c1_r (h : kd_c1 v.1 = true) (hv : kd_g n ρ v x) : wk_c1 (kc_e x) = true ∧ kc_c2 x = false := by
  unfold kd_c1 at h
  rw [Bool.or_eq_true] at h
  rcases h with h | h
  · obtain ⟨a, rfl⟩ := kd_isI_r (v := v) h hv
    exact ⟨rfl, rfl⟩
  · rcases kd_isA_r (v := v) h hv with ⟨k, rfl⟩ | rfl
    · exact ⟨rfl, rfl⟩
    · exact ⟨rfl, rfl⟩
theorem kd_nlj {t : Nat} (hk : kd_kn t = true) (hl : kd_lj t = false) : kd_c1 t = true := by
  unfold kd_kn at hk
  unfold kd_lj at hl
  unfold kd_c1
  match t, hk, hl with
  | 0, _, _ => rfl
  | 1, _, _ => rfl
  | 2, _, hl => cases hl
  | 3, _, _ => rfl
  | 4, hk, _ => cases hk
  | 5, _, _ => rfl
  | 6, _, hl => cases hl
  | _ + 7, hk, _ => cases hk
theorem kd_get_r {i : Nat} {p : Nat → Bool} {k : kd_V → Bool} (h : kd_get AL i p k = true) (hp : ∀ t, p t = true → kd_kn t = true) (hL : kd_gL n ρ AL L) : ∃ v x, kc_get L i = some x ∧ kd_g n ρ v x ∧ p v.1 = true ∧ k v = true := by
  unfold kd_get at h
  rw [wk_at_eq] at h
  cases ha : AL[i]? with
  | none => rw [ha] at h; cases h
  | some q =>
    obtain ⟨t, a, b⟩ := q
    rw [ha] at h
    obtain ⟨h1, h2⟩ := kd_bt h
    obtain ⟨x, e1, e2⟩ := hL i _ ha (hp t h1)
    exact ⟨_, x, e1, e2, h1, h2⟩
theorem kc_get_f (f : Nat × kc_V → Bool) : ∀ (L : kc_L) (j : Nat) (x : kc_V), kc_get L j = some x → (∀ q : Nat × kc_V, q.1 = j → q.2 = x → f q = true) → kc_get (L.filter f) j = some x
  | [], _, _, h, _ => by cases h
  | (i, v) :: L, j, x, h, hf => by
    have h : (if Nat.beq i j then some v else kc_get L j) = some x := h
    cases hb : Nat.beq i j with
    | true =>
      rw [hb] at h
      simp only [if_true, Option.some.injEq] at h
      rw [List.filter_cons_of_pos (hf (i, v) (Nat.eq_of_beq_eq_true hb) h)]
      show (if Nat.beq i j then some v else kc_get (L.filter f) j) = some x
      rw [hb, if_pos rfl, h]
    | false =>
      rw [hb] at h
      simp only [Bool.false_eq_true, if_false] at h
      have ih := kc_get_f f L j x h hf
      cases hq : f (i, v) with
      | false => rw [List.filter_cons_of_neg (by rw [hq]; decide)]; exact ih
      | true =>
        rw [List.filter_cons_of_pos hq]
        show (if Nat.beq i j then some v else kc_get (L.filter f) j) = some x
        rw [hb, if_neg (by decide)]
        exact ih
theorem kd_okp_r {i j : Nat} (h : kd_okp AL i = true) (hj : j + 1 = i) {w : kd_V} (hw : AL[j]? = some w) : kd_lj w.1 = false := by
  unfold kd_okp at h
  cases h0 : Nat.beq i 0 with
  | true => have := Nat.eq_of_beq_eq_true h0; omega
  | false =>
    rw [h0] at h
    rw [show i - 1 = j by omega, wk_at_eq, hw] at h
    obtain ⟨t, a, b⟩ := w
    simp only [cond_false] at h
    cases hl : kd_lj t with
    | true => rw [hl] at h; cases h
    | false => rfl
theorem kd_st1_r {nL i : Nat} {k : List kd_V → Bool} (h : kd_st1 nL AL i v k = true) (hL : kd_gL n ρ AL L) (hv : kd_g n ρ v x) (hx : kc_c2 x = false) : i < nL ∧ ∃ AL', kd_gL n ρ AL' (kc_st1 L i x) ∧ k AL' = true := by
  unfold kd_st1 at h
  obtain ⟨h1, h2⟩ := kd_bt h
  rw [Bool.and_eq_true] at h1
  rw [wk_put_eq] at h2
  refine ⟨wk_blt h1.1, _, fun j w hj hk => ?_, h2⟩
  rw [List.getElem?_set] at hj
  by_cases e : i = j
  · subst e
    rw [if_pos rfl] at hj
    split at hj
    · cases hj
      refine ⟨x, ?_, hv⟩
      show (if Nat.beq i i then some x else _) = some x
      rw [kc_beq, if_pos rfl]
    · cases hj
  · rw [if_neg e] at hj
    obtain ⟨y, e1, e2⟩ := hL j w hj hk
    refine ⟨y, ?_, e2⟩
    show (if Nat.beq i j then some x else _) = some y
    have hb : Nat.beq i j = false := by
      cases hb : Nat.beq i j with
      | true => exact absurd (Nat.eq_of_beq_eq_true hb) e
      | false => rfl
    rw [hb, if_neg (by decide)]
    refine kc_get_f _ L j y e1 (fun q q1 q2 => ?_)
    rw [q1, q2]
    have n1 : (j == i) = false := by simp; omega
    rw [n1]
    by_cases e3 : j + 1 = i
    · have := kd_c1_r (kd_nlj hk (kd_okp_r h1.2 e3 hj)) e2
      rw [this.2]
      simp
    · have n2 : (j + 1 == i) = false := by simp; omega
      rw [n2]
      rfl
theorem kd_st2_r {nL i : Nat} {k : List kd_V → Bool} (h : kd_st2 nL AL i v k = true) (hL : kd_gL n ρ AL L) (hv : kd_g n ρ v x) : i + 1 < nL ∧ ∃ AL', kd_gL n ρ AL' (kc_st2 L i x) ∧ k AL' = true := by
  unfold kd_st2 at h
  obtain ⟨h1, h2⟩ := kd_bt h
  rw [Bool.and_eq_true] at h1
  rw [wk_put_eq, wk_put_eq] at h2
  refine ⟨wk_blt h1.1, _, fun j w hj hk => ?_, h2⟩
  rw [List.getElem?_set] at hj
  by_cases e0 : i + 1 = j
  · rw [if_pos e0] at hj
    split at hj
    · cases hj
      cases hk
    · cases hj
  · rw [if_neg e0, List.getElem?_set] at hj
    by_cases e : i = j
    · subst e
      rw [if_pos rfl] at hj
      split at hj
      · cases hj
        refine ⟨x, ?_, hv⟩
        show (if Nat.beq i i then some x else _) = some x
        rw [kc_beq, if_pos rfl]
      · cases hj
    · rw [if_neg e] at hj
      obtain ⟨y, e1, e2⟩ := hL j w hj hk
      refine ⟨y, ?_, e2⟩
      show (if Nat.beq i j then some x else _) = some y
      have hb : Nat.beq i j = false := by
        cases hb : Nat.beq i j with
        | true => exact absurd (Nat.eq_of_beq_eq_true hb) e
        | false => rfl
      rw [hb, if_neg (by decide)]
      refine kc_get_f _ L j y e1 (fun q q1 q2 => ?_)
      rw [q1, q2]
      have n1 : (j == i) = false := by simp; omega
      have n3 : (j == i + 1) = false := by simp; omega
      rw [n1, n3]
      by_cases e3 : j + 1 = i
      · have := kd_c1_r (kd_nlj hk (kd_okp_r h1.2 e3 hj)) e2
        rw [this.2]
        simp
      · have n2 : (j + 1 == i) = false := by simp; omega
        rw [n2]
        rfl
/-! places -/
theorem kd_jn_l (h : kd_g n ρ v x) : kd_g n ρ (kd_jn v w) x := by
  obtain ⟨t, a, b⟩ := v
  obtain ⟨s, c, d⟩ := w
  show kd_g n ρ (bif Nat.beq t s && (Nat.beq t 0 || (Nat.beq t 2 || Nat.beq t 3)) then (t, kd_mn a c, kd_mx b d) else (9, 0, 0)) x
  cases hc : Nat.beq t s && (Nat.beq t 0 || (Nat.beq t 2 || Nat.beq t 3)) with
  | false => exact trivial
  | true =>
    simp only [cond_true, kd_mn_r, kd_mx_r]
    simp only [Bool.and_eq_true, Bool.or_eq_true] at hc
    rcases hc.2 with h2 | h2 | h2
    · obtain rfl : t = 0 := Nat.eq_of_beq_eq_true h2
      obtain ⟨z, e1, e2, e3⟩ := h
      exact ⟨z, e1, by omega, by omega⟩
    · obtain rfl : t = 2 := Nat.eq_of_beq_eq_true h2
      obtain ⟨z, e1, e2, e3⟩ := h
      exact ⟨z, e1, by omega, by omega⟩
    · obtain rfl : t = 3 := Nat.eq_of_beq_eq_true h2
      obtain ⟨z, e1, e2, e3⟩ := h
      exact ⟨z, e1, by omega, by omega⟩
theorem kd_jn_r (h : kd_g n ρ w x) : kd_g n ρ (kd_jn v w) x := by
  obtain ⟨t, a, b⟩ := v
  obtain ⟨s, c, d⟩ := w
  show kd_g n ρ (bif Nat.beq t s && (Nat.beq t 0 || (Nat.beq t 2 || Nat.beq t 3)) then (t, kd_mn a c, kd_mx b d) else (9, 0, 0)) x
  cases hc : Nat.beq t s && (Nat.beq t 0 || (Nat.beq t 2 || Nat.beq t 3)) with
  | false => exact trivial
  | true =>
    simp only [cond_true, kd_mn_r, kd_mx_r]
    simp only [Bool.and_eq_true, Bool.or_eq_true] at hc
    obtain rfl := Nat.eq_of_beq_eq_true hc.1
    rcases hc.2 with h2 | h2 | h2
    · obtain rfl : t = 0 := Nat.eq_of_beq_eq_true h2
      obtain ⟨z, e1, e2, e3⟩ := h
      exact ⟨z, e1, by omega, by omega⟩
    · obtain rfl : t = 2 := Nat.eq_of_beq_eq_true h2
      obtain ⟨z, e1, e2, e3⟩ := h
      exact ⟨z, e1, by omega, by omega⟩
    · obtain rfl : t = 3 := Nat.eq_of_beq_eq_true h2
      obtain ⟨z, e1, e2, e3⟩ := h
      exact ⟨z, e1, by omega, by omega⟩
theorem kd_rgj_r : ∀ (r : List (Nat × kd_V)) (lo hi : Nat) (u : kd_V), kd_rgj r lo hi = some u → ∀ i, lo ≤ i → i ≤ hi → ∃ t, kd_rn r i = some t ∧ ∀ x : kc_V, kd_g n ρ t x → kd_g n ρ u x
  | [], _, _, _, h, _, _, _ => by cases h
  | (m, v) :: r, lo, hi, u, h, i, h1, h2 => by
    have h : (bif Nat.blt hi m then some v else bif Nat.ble m lo then kd_rgj r (lo - m) (hi - m) else match kd_rgj r 0 (hi - m) with
      | some w => some (kd_jn v w)
      | none => none) = some u := h
    show ∃ t, (bif Nat.blt i m then some v else kd_rn r (i - m)) = some t ∧ _
    cases c1 : Nat.blt hi m with
    | true =>
      rw [c1] at h
      cases h
      have := wk_blt c1
      rw [kc_blt (show i < m by omega)]
      exact ⟨v, rfl, fun x hx => hx⟩
    | false =>
      rw [c1] at h
      simp only [cond_false] at h
      have c1 : ¬ hi < m := fun q => by rw [kc_blt q] at c1; cases c1
      cases c2 : Nat.ble m lo with
      | true =>
        rw [c2] at h
        have := Nat.le_of_ble_eq_true c2
        have hb : Nat.blt i m = false := by
          cases hb : Nat.blt i m with
          | true => have := wk_blt hb; omega
          | false => rfl
        rw [hb]
        exact kd_rgj_r r _ _ u h (i - m) (by omega) (by omega)
      | false =>
        rw [c2] at h
        simp only [cond_false] at h
        cases hr : kd_rgj r 0 (hi - m) with
        | none => rw [hr] at h; cases h
        | some w =>
          rw [hr] at h
          cases h
          cases hb : Nat.blt i m with
          | true => exact ⟨v, rfl, fun x hx => kd_jn_l hx⟩
          | false =>
            have hb : ¬ i < m := fun q => by rw [kc_blt q] at hb; cases hb
            obtain ⟨t, e1, e2⟩ := kd_rgj_r r _ _ w hr (i - m) (by omega) (by omega)
            exact ⟨t, e1, fun x hx => kd_jn_r (e2 x hx)⟩
theorem kd_rgc_r (hw : kd_wt ty h) : ∀ (m c lo hi : Nat) (u : kd_V), kd_rgc ty m c lo hi = some u → ∀ c0 i, c ≤ c0 → c0 < c + m → lo ≤ i → i ≤ hi → kd_g n ρ u (h c0 i)
  | 0, c, _, _, _, h, _, _, _, _, _, _ => by cases h
  | m + 1, c, lo, hi, u, hh, c0, i, h1, h2, h3, h4 => by
    have hh : (match kd_rgj (ty c) lo hi with
      | none => none
      | some v => bif Nat.beq m 0 then some v else match kd_rgc ty m (c + 1) lo hi with
        | some w => some (kd_jn v w)
        | none => none) = some u := hh
    cases hr : kd_rgj (ty c) lo hi with
    | none => rw [hr] at hh; cases hh
    | some v =>
      rw [hr] at hh
      simp only at hh
      have first : c0 = c → kd_g n ρ v (h c0 i) := fun e => by
        subst e
        obtain ⟨t, e1, e2⟩ := kd_rgj_r (n := n) (ρ := ρ) (ty c0) lo hi v hr i h3 h4
        exact e2 _ (kd_g0 (hw c0 i t e1))
      cases hm : Nat.beq m 0 with
      | true =>
        rw [hm] at hh
        cases hh
        have := Nat.eq_of_beq_eq_true hm
        exact first (by omega)
      | false =>
        rw [hm] at hh
        simp only [cond_false] at hh
        cases hc : kd_rgc ty m (c + 1) lo hi with
        | none => rw [hc] at hh; cases hh
        | some w =>
          rw [hc] at hh
          cases hh
          by_cases e : c0 = c
          · exact kd_jn_l (first e)
          · exact kd_jn_r (kd_rgc_r hw m (c + 1) lo hi w hc c0 i (by omega) (by omega) h3 h4)
theorem kd_rle_r (hb : kd_bx ρ iv n) (hv : kd_g n ρ v x) : ∀ (r : List (Nat × kd_V)) (lo hi : Nat), kd_rle iv n v r lo hi = true → ∀ i t, lo ≤ i → i ≤ hi → kd_rn r i = some t → kd_g 0 (fun _ => 0) t x
  | [], _, _, h, _, _, _, _, _ => by cases h
  | (m, w) :: r, lo, hi, h, i, t, h1, h2, h3 => by
    have h : (bif Nat.ble m lo then kd_rle iv n v r (lo - m) (hi - m) else kd_le iv n v w && (bif Nat.blt hi m then true else kd_rle iv n v r 0 (hi - m))) = true := h
    have h3 : (bif Nat.blt i m then some w else kd_rn r (i - m)) = some t := h3
    cases c1 : Nat.ble m lo with
    | true =>
      rw [c1] at h
      have := Nat.le_of_ble_eq_true c1
      have hb2 : Nat.blt i m = false := by
        cases hb2 : Nat.blt i m with
        | true => have := wk_blt hb2; omega
        | false => rfl
      rw [hb2] at h3
      exact kd_rle_r hb hv r _ _ h (i - m) t (by omega) (by omega) h3
    | false =>
      rw [c1] at h
      simp only [cond_false, Bool.and_eq_true] at h
      cases hb2 : Nat.blt i m with
      | true =>
        rw [hb2] at h3
        cases h3
        exact kd_le_r h.1 hb hv
      | false =>
        rw [hb2] at h3
        have hb3 : ¬ i < m := fun q => by rw [kc_blt q] at hb2; cases hb2
        have h4 := h.2
        cases c2 : Nat.blt hi m with
        | true => have := wk_blt c2; omega
        | false =>
          rw [c2] at h4
          exact kd_rle_r hb hv r _ _ h4 (i - m) t (by omega) (by omega) h3
theorem kd_fa_r : ∀ (F : kd_F) (c i : Nat) (u : kd_V), kd_fa F c i = some u → (c, i, u) ∈ F
  | [], _, _, _, h => by cases h
  | (c0, i0, v0) :: r, c, i, u, h => by
    have h : (bif Nat.beq c0 c && Nat.beq i0 i then some v0 else kd_fa r c i) = some u := h
    cases hc : Nat.beq c0 c && Nat.beq i0 i with
    | true =>
      rw [hc] at h
      cases h
      rw [Bool.and_eq_true] at hc
      rw [Nat.eq_of_beq_eq_true hc.1, Nat.eq_of_beq_eq_true hc.2]
      exact List.mem_cons_self
    | false =>
      rw [hc] at h
      exact List.mem_cons_of_mem _ (kd_fa_r r c i u h)
theorem kd_kl_r {c1 c2 i1 i2 : Nat} : ∀ (F : kd_F) (k : kd_F → Bool), kd_kl F c1 c2 i1 i2 k = true → ∃ F', (∀ q ∈ F', q ∈ F ∧ kd_inr q.1 c1 c2 q.2.1 i1 i2 = false) ∧ k F' = true
  | [], k, h => ⟨[], fun q hq => (by cases hq), h⟩
  | (c, i, v) :: r, k, h => by
    have h : (bif kd_inr c c1 c2 i i1 i2 then kd_kl r c1 c2 i1 i2 k else kd_kl r c1 c2 i1 i2 (fun r => k ((c, i, v) :: r))) = true := h
    cases hc : kd_inr c c1 c2 i i1 i2 with
    | true =>
      rw [hc] at h
      obtain ⟨F', h1, h2⟩ := kd_kl_r r k h
      exact ⟨F', fun q hq => ⟨List.mem_cons_of_mem _ (h1 q hq).1, (h1 q hq).2⟩, h2⟩
    | false =>
      rw [hc] at h
      obtain ⟨F', h1, h2⟩ := kd_kl_r r _ h
      refine ⟨(c, i, v) :: F', fun q hq => ?_, h2⟩
      rcases List.mem_cons.mp hq with rfl | hq
      · exact ⟨List.mem_cons_self, hc⟩
      · exact ⟨List.mem_cons_of_mem _ (h1 q hq).1, (h1 q hq).2⟩
theorem kd_klW_r : ∀ (W : kd_W) (F : kd_F) (k : kd_F → Bool), kd_klW W F k = true → ∃ F', (∀ q ∈ F', q ∈ F ∧ ∀ r ∈ W, kd_inr q.1 r.1 r.2.1 q.2.1 r.2.2.1 r.2.2.2 = false) ∧ k F' = true
  | [], F, k, h => ⟨F, fun q hq => ⟨hq, fun r hr => (by cases hr)⟩, h⟩
  | (c1, c2, i1, i2) :: r, F, k, h => by
    obtain ⟨F1, a1, a2⟩ := kd_kl_r F _ h
    obtain ⟨F2, b1, b2⟩ := kd_klW_r r F1 k a2
    refine ⟨F2, fun q hq => ⟨(a1 q (b1 q hq).1).1, fun s hs => ?_⟩, b2⟩
    rcases List.mem_cons.mp hs with rfl | hs
    · exact (a1 q (b1 q hq).1).2
    · exact (b1 q hq).2 s hs
theorem kd_inr_r {c c1 c2 i i1 i2 : Nat} : kd_inr c c1 c2 i i1 i2 = true ↔ c1 ≤ c ∧ c ≤ c2 ∧ i1 ≤ i ∧ i ≤ i2 := by
  unfold kd_inr
  simp only [Bool.and_eq_true, Nat.ble_eq]
theorem kd_cov_r : ∀ (W : kd_W) (c1 c2 i1 i2 : Nat), kd_cov W c1 c2 i1 i2 = true → ∃ q ∈ W, ∀ c i, c1 ≤ c → c ≤ c2 → i1 ≤ i → i ≤ i2 → kd_inr c q.1 q.2.1 i q.2.2.1 q.2.2.2 = true
  | [], _, _, _, _, h => by cases h
  | (a, b, x, y) :: r, c1, c2, i1, i2, h => by
    have h : (bif Nat.ble a c1 && (Nat.ble c2 b && (Nat.ble x i1 && Nat.ble i2 y)) then true else kd_cov r c1 c2 i1 i2) = true := h
    cases hc : Nat.ble a c1 && (Nat.ble c2 b && (Nat.ble x i1 && Nat.ble i2 y)) with
    | true =>
      simp only [Bool.and_eq_true, Nat.ble_eq] at hc
      exact ⟨_, List.mem_cons_self, fun c i h1 h2 h3 h4 => kd_inr_r.mpr (by simp only; omega)⟩
    | false =>
      rw [hc] at h
      obtain ⟨q, q1, q2⟩ := kd_cov_r r c1 c2 i1 i2 h
      exact ⟨q, List.mem_cons_of_mem _ q1, q2⟩
/-- what is written is told -/
theorem kd_aw_r {c1 c2 i1 i2 : Nat} {k : kd_W → Bool} (hk : kd_aw W c1 c2 i1 i2 k = true) : ∃ W', k W' = true ∧ (∀ q ∈ W, q ∈ W') ∧ ∀ c i, c1 ≤ c → c ≤ c2 → i1 ≤ i → i ≤ i2 → ∃ q ∈ W', kd_inr c q.1 q.2.1 i q.2.2.1 q.2.2.2 = true := by
  unfold kd_aw at hk
  cases hc : kd_cov W c1 c2 i1 i2 with
  | true =>
    rw [hc] at hk
    obtain ⟨q, q1, q2⟩ := kd_cov_r W c1 c2 i1 i2 hc
    exact ⟨W, hk, fun q hq => hq, fun c i h1 h2 h3 h4 => ⟨q, q1, q2 c i h1 h2 h3 h4⟩⟩
  | false =>
    rw [hc] at hk
    exact ⟨_, hk, fun q hq => List.mem_cons_of_mem _ hq, fun c i h1 h2 h3 h4 => ⟨_, List.mem_cons_self, kd_inr_r.mpr ⟨h1, h2, h3, h4⟩⟩⟩
theorem kd_awW_r : ∀ (V W : kd_W) (k : kd_W → Bool), kd_awW V W k = true → ∃ W', k W' = true ∧ (∀ q ∈ W, q ∈ W') ∧ ∀ r ∈ V, ∀ c i, kd_inr c r.1 r.2.1 i r.2.2.1 r.2.2.2 = true → ∃ q ∈ W', kd_inr c q.1 q.2.1 i q.2.2.1 q.2.2.2 = true
  | [], W, k, h => ⟨W, h, fun q hq => hq, fun r hr => (by cases hr)⟩
  | (c1, c2, i1, i2) :: V, W, k, h => by
    obtain ⟨W1, a1, a2, a3⟩ := kd_aw_r (W := W) h
    obtain ⟨W2, b1, b2, b3⟩ := kd_awW_r V W1 k a1
    refine ⟨W2, b1, fun q hq => b2 q (a2 q hq), fun r hr c i hi => ?_⟩
    rcases List.mem_cons.mp hr with rfl | hr
    · obtain ⟨q1, q2, q3, q4⟩ := kd_inr_r.mp hi
      obtain ⟨q, g1, g2⟩ := a3 c i q1 q2 q3 q4
      exact ⟨q, b2 q g1, g2⟩
    · exact b3 r hr c i hi
/-- a heap that differs from another only at places that are told -/
theorem kd_fr_step {W' : kd_W} {h' : kc_H} (hf : kd_fr W h0 h) (h1 : ∀ q ∈ W, q ∈ W') (h2 : ∀ c i, ¬ h' c i = h c i → ∃ q ∈ W', kd_inr c q.1 q.2.1 i q.2.2.1 q.2.2.2 = true) : kd_fr W' h0 h' := fun c i hq => by
  by_cases e : h' c i = h c i
  · rw [e]
    exact hf c i (fun q hq2 => hq q (h1 q hq2))
  · obtain ⟨q, q1, q2⟩ := h2 c i e
    rw [hq q q1] at q2
    cases q2
end KDS
