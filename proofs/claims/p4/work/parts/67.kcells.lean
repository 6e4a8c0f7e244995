/-! ===== the second engine's loads and stores ===== -/
section KDL
variable {n : Nat} {ρ : Nat → Nat} {iv : kd_I} {v w : kd_V} {x y : kc_V} {F : kd_F} {h h0 : kc_H} {W : kd_W} {ty : kd_T}
theorem kd_nmF_r {c i : Nat} {k : kd_KF} (hk : kd_nmF iv n F c i v k = true) (hb : kd_bx ρ iv n) (hF : kd_gF n ρ F h) (hv : kd_g n ρ v (h c i)) : ∃ (ρ' : Nat → Nat) (iv' : kd_I) (n' : Nat) (F' : kd_F) (v' : kd_V), kd_ag n ρ ρ' ∧ n ≤ n' ∧ kd_bx ρ' iv' n' ∧ kd_gF n' ρ' F' h ∧ kd_g n' ρ' v' (h c i) ∧ k iv' n' F' v' = true := by
  unfold kd_nmF at hk
  rcases kd_bif hk with ⟨-, hk⟩ | ⟨-, hk⟩
  · obtain ⟨ρ', iv', n', v', a1, a2, a3, a4, a5⟩ := kd_nm_r hk hb hv
    refine ⟨ρ', iv', n', _, v', a1, a2, a3, fun q hq => ?_, a4, a5⟩
    rcases List.mem_cons.mp hq with rfl | hq
    · exact a4
    · exact kd_g_ag (hF q hq) a1 a2
  · exact ⟨ρ, iv, n, F, v, kd_ag_rf, Nat.le_refl _, hb, hF, hv, hk⟩
theorem kd_fV_r {k : kd_V → Bool} (h : kd_fV v k = true) : k v = true := by
  obtain ⟨t, a, b⟩ := v
  unfold kd_fV at h
  simp only [wk_fN_eq] at h
  exact h
theorem kd_ld_r {c1 c2 i1 i2 c i : Nat} {k : kd_KF} (hk : kd_ld ty iv n F c1 c2 i1 i2 k = true) (hb : kd_bx ρ iv n) (hF : kd_gF n ρ F h) (hw : kd_wt ty h) (h1 : c1 ≤ c) (h2 : c ≤ c2) (h3 : i1 ≤ i) (h4 : i ≤ i2) : ∃ (ρ' : Nat → Nat) (iv' : kd_I) (n' : Nat) (F' : kd_F) (v' : kd_V), kd_ag n ρ ρ' ∧ n ≤ n' ∧ kd_bx ρ' iv' n' ∧ kd_gF n' ρ' F' h ∧ kd_g n' ρ' v' (h c i) ∧ k iv' n' F' v' = true := by
  unfold kd_ld at hk
  rcases kd_bif hk with ⟨hc, hk⟩ | ⟨-, hk⟩
  · rw [Bool.and_eq_true] at hc
    have e1 := Nat.eq_of_beq_eq_true hc.1
    have e2 := Nat.eq_of_beq_eq_true hc.2
    obtain rfl : c1 = c := by omega
    obtain rfl : i1 = i := by omega
    cases hf : kd_fa F c1 i1 with
    | some u =>
      rw [hf] at hk
      exact kd_nmF_r hk hb hF (hF _ (kd_fa_r F c1 i1 u hf))
    | none =>
      rw [hf] at hk
      simp only at hk
      cases hr : kd_rn (ty c1) i1 with
      | none => rw [hr] at hk; cases hk
      | some u =>
        rw [hr] at hk
        exact kd_nmF_r hk hb hF (kd_g0 (hw c1 i1 u hr))
  · cases hr : kd_rgc ty (c2 - c1 + 1) c1 i1 i2 with
    | none => rw [hr] at hk; cases hk
    | some u =>
      rw [hr] at hk
      have hk := kd_fV_r hk
      obtain ⟨ρ', iv', n', v', a1, a2, a3, a4, a5⟩ := kd_nm_r hk hb (kd_rgc_r hw _ _ _ _ u hr c i h1 (by omega) h3 h4)
      exact ⟨ρ', iv', n', F, v', a1, a2, a3, kd_gF_ag hF a1 a2, a4, a5⟩
theorem kd_upd_wt {c i : Nat} (hw : kd_wt ty h) (hv : ∀ t, kd_rn (ty c) i = some t → kd_g 0 (fun _ => 0) t x) : kd_wt ty (kc_upd h c i x) := fun c2 i2 t ht => by
  by_cases e : c2 = c ∧ i2 = i
  · obtain ⟨rfl, rfl⟩ := e
    have e2 : kc_upd h c2 i2 x c2 i2 = x := by rw [kc_upd_i, if_pos rfl]
    rw [e2]
    exact hv t ht
  · have e2 : kc_upd h c i x c2 i2 = h c2 i2 := by unfold kc_upd; rw [if_neg e]
    rw [e2]
    exact hw c2 i2 t ht
theorem kd_sto_r {c1 c2 i1 i2 c i : Nat} {k : kd_I → Nat → kd_F → kd_W → Bool} (hk : kd_sto ty iv n F W c1 c2 i1 i2 v k = true) (hb : kd_bx ρ iv n) (hv : kd_g n ρ v x) (hF : kd_gF n ρ F h) (hw : kd_wt ty h) (hf : kd_fr W h0 h) (h1 : c1 ≤ c) (h2 : c ≤ c2) (h3 : i1 ≤ i) (h4 : i ≤ i2) : ∃ (ρ' : Nat → Nat) (iv' : kd_I) (n' : Nat) (F' : kd_F) (W' : kd_W), kd_ag n ρ ρ' ∧ n ≤ n' ∧ kd_bx ρ' iv' n' ∧ kd_gF n' ρ' F' (kc_upd h c i x) ∧ kd_wt ty (kc_upd h c i x) ∧ kd_fr W' h0 (kc_upd h c i x) ∧ k iv' n' F' W' = true := by
  unfold kd_sto at hk
  obtain ⟨g1, hk⟩ := kd_bt hk
  have hty : kd_wt ty (kc_upd h c i x) := kd_upd_wt hw (fun t ht => kd_rle_r hb hv (ty c) i1 i2 (kd_each_r _ _ g1 c h1 (by omega)) i t h3 h4 ht)
  obtain ⟨F1, f1, hk⟩ := kd_kl_r F _ hk
  obtain ⟨W1, hk, w1, w2⟩ := kd_aw_r (W := W) hk
  have hF1 : kd_gF n ρ F1 (kc_upd h c i x) := fun q hq => by
    obtain ⟨q1, q2⟩ := f1 q hq
    have e : kc_upd h c i x q.1 q.2.1 = h q.1 q.2.1 := by
      unfold kc_upd
      rw [if_neg]
      rintro ⟨e1, e2⟩
      rw [e1, e2, kd_inr_r.mpr ⟨h1, h2, h3, h4⟩] at q2
      cases q2
    rw [e]
    exact hF q q1
  have hfr : kd_fr W1 h0 (kc_upd h c i x) := kd_fr_step hf w1 (fun c0 i0 hne => by
    have : c0 = c ∧ i0 = i := by
      refine Classical.byContradiction fun q => hne ?_
      unfold kc_upd
      rw [if_neg q]
    obtain ⟨rfl, rfl⟩ := this
    exact w2 c0 i0 h1 h2 h3 h4)
  rcases kd_bif hk with ⟨hc, hk⟩ | ⟨-, hk⟩
  · rw [Bool.and_eq_true] at hc
    have e1 := Nat.eq_of_beq_eq_true hc.1
    have e2 := Nat.eq_of_beq_eq_true hc.2
    obtain rfl : c1 = c := by omega
    obtain rfl : i1 = i := by omega
    obtain ⟨ρ', iv', n', v', a1, a2, a3, a4, a5⟩ := kd_nm_r hk hb hv
    refine ⟨ρ', iv', n', _, W1, a1, a2, a3, fun q hq => ?_, hty, hfr, a5⟩
    rcases List.mem_cons.mp hq with rfl | hq
    · have e : kc_upd h c1 i1 x c1 i1 = x := by rw [kc_upd_i, if_pos rfl]
      rw [e]
      exact a4
    · exact kd_g_ag (hF1 q hq) a1 a2
  · exact ⟨ρ, iv, n, F1, W1, kd_ag_rf, Nat.le_refl _, hb, hF1, hty, hfr, hk⟩
theorem kd_ix_r {k : Nat → Nat → Bool} (hk : kd_ix iv n v k = true) (hb : kd_bx ρ iv n) (hv : kd_g n ρ v x) : ∃ (a : Int32) (l u : Nat), x = .inl a ∧ 0 ≤ a.toInt ∧ l ≤ a.toInt.toNat ∧ a.toInt.toNat ≤ u ∧ k l u = true := by
  unfold kd_ix at hk
  generalize hB : kd_B = B at hk
  have eB : B = 2147483648 := hB.symm
  obtain ⟨a, l, u, rfl, a1, a2, hk⟩ := kd_bd_r hk hb hv
  obtain ⟨c1, hk⟩ := kd_bt hk
  have c1 := Nat.le_of_ble_eq_true c1
  simp only [wk_fN_eq] at hk
  have ea := kd_nb_i a
  exact ⟨a, l - B, u - B, rfl, by omega, by omega, by omega, hk⟩
theorem kd_rf3_r {k : Nat → Nat → Bool} (hk : kd_rf3 v k = true) (hv : kd_g n ρ v x) : ∃ c a b : Nat, x = .inr (.inr (.inl (some c))) ∧ a ≤ c ∧ c ≤ b ∧ k a b = true := by
  obtain ⟨t, a, b⟩ := v
  have hk : (bif Nat.beq t 3 && Nat.ble a b then k a b else false) = true := hk
  obtain ⟨c1, hk2⟩ := kd_bt hk
  rw [Bool.and_eq_true] at c1
  obtain rfl : t = 3 := Nat.eq_of_beq_eq_true c1.1
  obtain ⟨c, e1, e2, e3⟩ := hv
  exact ⟨c, a, b, e1, e2, e3, hk2⟩
theorem kd_shA_r {p : Nat → Bool} {hi c : Nat} (hk : kd_shA p hi c = true) : ∃ t m, kc_shp c = some (0, t, m) ∧ p t = true ∧ hi < m ∧ c < kc_N := by
  unfold kd_shA at hk
  cases hs : kc_shp c with
  | none => rw [hs] at hk; cases hk
  | some q =>
    obtain ⟨s, t, m⟩ := q
    rw [hs] at hk
    simp only [Bool.and_eq_true] at hk
    obtain ⟨k1, k2, k3, k4⟩ := hk
    obtain rfl := Nat.eq_of_beq_eq_true k1
    exact ⟨t, m, rfl, k2, wk_blt k3, wk_blt k4⟩
theorem kd_shO_r {ci f c : Nat} (hk : kd_shO ci f c = true) : kc_obj (.inr (.inr (.inl (some c)))) ci f = some c := by
  unfold kd_shO at hk
  cases hs : kc_shp c with
  | none => rw [hs] at hk; cases hk
  | some q =>
    obtain ⟨s, t, m⟩ := q
    rw [hs] at hk
    simp only [Bool.and_eq_true] at hk
    obtain ⟨k1, k2, k3, k4, k5⟩ := hk
    obtain rfl := Nat.eq_of_beq_eq_true k1
    obtain rfl := Nat.eq_of_beq_eq_true k2
    have k3 := wk_blt k3
    have k4 := wk_blt k4
    have k5 := wk_blt k5
    unfold kc_obj
    simp only [hs]
    rw [if_pos ⟨k4, trivial, by omega, k3⟩]
theorem kd_ary_r {c t m : Nat} (hs : kc_shp c = some (0, t, m)) (hc : c < kc_N) : kc_ary (.inr (.inr (.inl (some c)))) = some (c, t, m) := by
  unfold kc_ary
  simp only [hs]
  rw [if_pos hc]
theorem kd_ixc {a : Int32} {m u : Nat} (h0 : 0 ≤ a.toInt) (h1 : a.toInt.toNat ≤ u) (h2 : u < m) : kc_ix (.inl a) m = some a.toInt.toNat := by
  unfold kc_ix
  simp only
  rw [if_pos ⟨h0, by omega⟩]
end KDL
