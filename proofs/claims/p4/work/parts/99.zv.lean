/-! ===== the state behind both constructors, in the clean logic ===== -/
def kh_v (v : wk_V) : kc_V := match v with
  | .inl (a, _) => .inl (Int32.ofInt a)
  | .inr (.inl (a, _)) => .inr (.inl (Int64.ofInt a))
  | .inr (.inr (.inl r)) => .inr (.inr (.inl r))
  | .inr (.inr (.inr (_, i))) => .inr (.inr (.inr i))
def kh0 : kc_H := fun c i => match wk_at2 wk_AH1.2 c with
  | some (.inl (_, _, vs)) => (match wk_at2 vs i with
    | some v => kh_v v
    | none => .inl 0)
  | some (.inr (_, fs)) => (match wk_at fs i with
    | some v => kh_v v
    | none => .inl 0)
  | none => .inl 0
theorem kh_Ab : wk_qL (wk_qL wk_qC) (kc_A kh0).2 wk_AH1.2 = true := by decide +kernel
theorem kh_A : kc_A kh0 = wk_AH1 := Prod.ext (show kc_N = wk_AH1.1 from rfl) (wk_qL_r (fun a b q => wk_qL_r (fun a b q => wk_qC_r q) q) kh_Ab)
def kh_g (v : kd_V) (x : kc_V) : Bool := match v, x with
  | (0, lo, hi), .inl a => Nat.ble lo (kd_nb a) && Nat.ble (kd_nb a) hi
  | (2, lo, hi), .inr (.inl a) => Nat.ble lo (kd_nj a) && Nat.ble (kd_nj a) hi
  | (3, lo, hi), .inr (.inr (.inl (some c))) => Nat.ble lo c && Nat.ble c hi
  | _, _ => false
theorem kh_g_r {v : kd_V} {x : kc_V} (h : kh_g v x = true) : kd_g 0 (fun _ => 0) v x := by
  unfold kh_g at h
  split at h
  · rw [Bool.and_eq_true] at h
    exact ⟨_, rfl, Nat.le_of_ble_eq_true h.1, Nat.le_of_ble_eq_true h.2⟩
  · rw [Bool.and_eq_true] at h
    exact ⟨_, rfl, Nat.le_of_ble_eq_true h.1, Nat.le_of_ble_eq_true h.2⟩
  · rw [Bool.and_eq_true] at h
    exact ⟨_, rfl, Nat.le_of_ble_eq_true h.1, Nat.le_of_ble_eq_true h.2⟩
  · cases h
/-- a cell's places one after another -/
def kh_run (c : Nat) (v : kd_V) : Nat → Nat → Bool
  | 0, _ => true
  | n + 1, i => kh_g v (kh0 c i) && kh_run c v n (i + 1)
def kh_runs (c : Nat) : List (Nat × kd_V) → Nat → Bool
  | [], _ => true
  | (m, v) :: r, i => kh_run c v m i && kh_runs c r (i + m)
theorem kh_run_r {c : Nat} {v : kd_V} : ∀ (n i : Nat), kh_run c v n i = true → ∀ j, j < n → kh_g v (kh0 c (i + j)) = true
  | 0, _, _, j, hj => by omega
  | n + 1, i, h, j, hj => by
    have h : (kh_g v (kh0 c i) && kh_run c v n (i + 1)) = true := h
    rw [Bool.and_eq_true] at h
    cases j with
    | zero => exact h.1
    | succ j =>
      have := kh_run_r n (i + 1) h.2 j (by omega)
      rw [show i + 1 + j = i + (j + 1) from by omega] at this
      exact this
theorem kh_runs_r {c : Nat} : ∀ (l : List (Nat × kd_V)) (i j : Nat) (v : kd_V), kh_runs c l i = true → kd_rn l j = some v → kh_g v (kh0 c (i + j)) = true
  | [], _, _, _, _, h => by cases h
  | (m, w) :: r, i, j, v, h, hv => by
    have h : (kh_run c w m i && kh_runs c r (i + m)) = true := h
    rw [Bool.and_eq_true] at h
    have hv : (bif Nat.blt j m then some w else kd_rn r (j - m)) = some v := hv
    cases e : Nat.blt j m with
    | true =>
      rw [e] at hv
      cases hv
      exact kh_run_r m i h.1 j (Nat.le_of_ble_eq_true e)
    | false =>
      rw [e] at hv
      have hjm : ¬ j < m := fun q => by
        rw [show Nat.blt j m = true from Nat.ble_eq_true_of_le q] at e
        cases e
      have := kh_runs_r r (i + m) (j - m) v h.2 hv
      rw [show i + m + (j - m) = i + j from by omega] at this
      exact this
theorem kh_all : ∀ r, r < 10 → ∀ k, k < 32 → kh_runs (32 * r + k) (kd_ty (32 * r + k)) 0 = true := by decide +kernel
theorem kh_len : kd_tys.length = 10 ∧ ∀ l ∈ kd_tys, l.length ≤ 32 := by decide +kernel
theorem kh_wt : kd_wt kd_ty kh0 := by
  intro c i v hv
  have hc : c < 320 := by
    unfold kd_ty at hv
    cases e : wk_at2 kd_tys c with
    | none => rw [e] at hv; cases hv
    | some l =>
      rw [wk_at2_eq] at e
      by_cases q : c / 32 < 10
      · omega
      · rw [List.getElem?_eq_none (by rw [kh_len.1]; omega)] at e
        cases e
  have := kh_runs_r (c := c) (kd_ty c) 0 i v (by
    have := kh_all (c / 32) (by omega) (c % 32) (Nat.mod_lt _ (by decide))
    rw [show 32 * (c / 32) + c % 32 = c from by omega] at this
    exact this) hv
  rw [Nat.zero_add] at this
  exact kh_g_r this
theorem kh_R1 : kR1 kh0 1 29 31 260 0 := ⟨by decide +kernel, by decide +kernel, by decide +kernel, by decide +kernel, by decide +kernel⟩
theorem kh_R2 : kR1 kh0 64 92 94 261 0 := ⟨by decide +kernel, by decide +kernel, by decide +kernel, by decide +kernel, by decide +kernel⟩
theorem kh_R3 : kR1 kh0 95 123 125 261 650 := ⟨by decide +kernel, by decide +kernel, by decide +kernel, by decide +kernel, by decide +kernel⟩
theorem kh_I {r f : Nat} (h : kh0 r (f + 3) = .inl (Int32.ofNat 0)) : kI kh0 r f := ⟨0, fun _ => 0, by decide, h, fun i hi => absurd hi (by omega), fun i j _ hj => absurd hj (by omega)⟩
theorem kh_Inv : kInv kh0 := ⟨kh_wt, ⟨kh_R1, kh_R2, kh_R3, by decide +kernel⟩, kh_I (by decide +kernel), kh_I (by decide +kernel), kh_I (by decide +kernel)⟩
