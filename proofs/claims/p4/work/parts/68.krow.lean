/-! ===== a row of the second engine is right ===== -/
def kd_says (g : kc_G) (d : Nat) (M : wk_M) (Q : Option kc_V → kc_H → Prop) (ty : kd_T) (h0 : kc_H) (ρ0 : Nat → Nat) (n0 : Nat) (pc : Nat) (iv : kd_I) (n : Nat) (AL AS : List kd_V) (F : kd_F) (W : kd_W) : Prop :=
  n0 ≤ n → ∀ (ρ : Nat → Nat) (L : kc_L) (S : List kc_V) (h : kc_H), kd_ag n0 ρ0 ρ → kd_bx ρ iv n → kd_gL n ρ AL L → wk_f2 (kd_g n ρ) AS S → kd_gF n ρ F h → kd_wt ty h → kd_fr W h0 h → kc_Ev g d M Q pc L S h
/-- what a call must be good for -/
def kd_good (g : kc_G) (d : Nat) (ty : kd_T) (h0 : kc_H) (call : kd_Cl) : Prop := ∀ id av iv n F W k, call id av iv n F W k = true → ∀ (ρ : Nat → Nat) (xs : List kc_V) (h : kc_H), kd_bx ρ iv n → wk_f2 (kd_g n ρ) av xs → kd_gF n ρ F h → kd_wt ty h → kd_fr W h0 h →
  kc_Con g d id xs h (fun xr h' => ∃ (ρ' : Nat → Nat) (iv' : kd_I) (n' : Nat) (rv : Option kd_V) (F' : kd_F) (W' : kd_W), kd_ag n ρ ρ' ∧ n ≤ n' ∧ kd_bx ρ' iv' n' ∧ kd_rv n' ρ' rv xr ∧ kd_gF n' ρ' F' h' ∧ kd_wt ty h' ∧ kd_fr W' h0 h' ∧ k iv' n' rv F' W' = true)
def kd_rgood (Q : Option kc_V → kc_H → Prop) (ty : kd_T) (h0 : kc_H) (ρ0 : Nat → Nat) (n0 : Nat) (ret : kd_R) : Prop := ∀ iv n rv F W, ret iv n rv F W = true → n0 ≤ n → ∀ (ρ : Nat → Nat) (xr : Option kc_V) (h : kc_H), kd_ag n0 ρ0 ρ → kd_bx ρ iv n → kd_rv n ρ rv xr → kd_gF n ρ F h → kd_wt ty h → kd_fr W h0 h → Q xr h
theorem kd_bN {b c : Bool} {A B : Bool} (h : (bif b then A else B) = true) : (b = true ∧ A = true) ∨ (b = false ∧ B = true) := kd_bif h
section KDR
variable {g : kc_G} {d : Nat} {M : wk_M} {Q : Option kc_V → kc_H → Prop} {ty : kd_T} {h0 : kc_H} {ρ0 : Nat → Nat} {n0 : Nat} {call : kd_Cl} {ret : kd_R} {go : kd_Go} {pc op a b c len : Nat} {l : List Nat} {iv : kd_I} {n : Nat} {AL AS : List kd_V} {F : kd_F} {W : kd_W} {i : Instr} {nn : Nat} {x : Nat × Nat × Int} {wd : List Nat} {t : Nat} {q : Int}
/-- constants -/
theorem kd_isC_r (h : kd_isC i x a len = true) (nL pc : Nat) (L : kc_L) (S : List kc_V) : ∃ z : Int32, kd_nb z = a ∧ kc_pure nL i x.2.2 pc L S = some (pc + len, L, .inl z :: S) := by
  unfold kd_isC at h
  split at h
  all_goals first | (cases h; done) | (rw [Bool.and_eq_true] at h; obtain ⟨h1, h2⟩ := h; obtain rfl := Nat.eq_of_beq_eq_true h1; exact ⟨_, Nat.eq_of_beq_eq_true h2, rfl⟩)
theorem kd_isJ_r (h : kd_isJ i x a len = true) (nL pc : Nat) (L : kc_L) (S : List kc_V) : ∃ z : Int64, kd_nj z = a ∧ kc_pure nL i x.2.2 pc L S = some (pc + len, L, .inr (.inl z) :: S) := by
  unfold kd_isJ at h
  split at h
  all_goals first | (cases h; done) | (rw [Bool.and_eq_true] at h; obtain ⟨h1, h2⟩ := h; obtain rfl := Nat.eq_of_beq_eq_true h1; exact ⟨_, Nat.eq_of_beq_eq_true h2, rfl⟩)
theorem kd_isL2_r (h : kd_isL 2 i a len = true) (nL pc : Nat) (L : kc_L) (S : List kc_V) {z : Int32} (hg : kc_get L a = some (.inl z)) : kc_pure nL i x.2.2 pc L S = some (pc + len, L, .inl z :: S) := by
  unfold kd_isL at h
  split at h
  all_goals first | (cases h; done) | (rename_i e0; cases e0; done) | skip
  all_goals (rw [Bool.and_eq_true] at h; obtain ⟨h1, h2⟩ := h; obtain rfl := Nat.eq_of_beq_eq_true h1; obtain rfl := Nat.eq_of_beq_eq_true h2; simp only [kc_pure, kc_ldi, hg])
theorem kd_isL4_r (h : kd_isL 4 i a len = true) (nL pc : Nat) (L : kc_L) (S : List kc_V) {z : Int64} (hg : kc_get L a = some (.inr (.inl z))) : kc_pure nL i x.2.2 pc L S = some (pc + len, L, .inr (.inl z) :: S) := by
  unfold kd_isL at h
  split at h
  all_goals first | (cases h; done) | (rename_i e0; cases e0; done) | skip
  all_goals (rw [Bool.and_eq_true] at h; obtain ⟨h1, h2⟩ := h; obtain rfl := Nat.eq_of_beq_eq_true h1; obtain rfl := Nat.eq_of_beq_eq_true h2; simp only [kc_pure, kc_ldj, hg])
theorem kd_isL3_r (h : kd_isL 3 i a len = true) (nL pc : Nat) (L : kc_L) (S : List kc_V) {z : kc_V} (hz : (∃ k : Nat, z = .inr (.inr (.inl (some k)))) ∨ z = .inr (.inr (.inr 0))) (hg : kc_get L a = some z) : kc_pure nL i x.2.2 pc L S = some (pc + len, L, z :: S) := by
  unfold kd_isL at h
  split at h
  all_goals first | (cases h; done) | (rename_i e0; cases e0; done) | skip
  all_goals (rw [Bool.and_eq_true] at h; obtain ⟨h1, h2⟩ := h; obtain rfl := Nat.eq_of_beq_eq_true h1; obtain rfl := Nat.eq_of_beq_eq_true h2; rcases hz with ⟨k, rfl⟩ | rfl <;> simp only [kc_pure, kc_lda, hg])
theorem kd_isL5_r (h : kd_isL 5 i a len = true) {nL : Nat} (pc : Nat) (L : kc_L) (S : List kc_V) {z : Int32} (ha : a < nL) : kc_pure nL i x.2.2 pc L (.inl z :: S) = some (pc + len, kc_st1 L a (.inl z), S) := by
  unfold kd_isL at h
  split at h
  all_goals first | (cases h; done) | (rename_i e0; cases e0; done) | skip
  all_goals (rw [Bool.and_eq_true] at h; obtain ⟨h1, h2⟩ := h; obtain rfl := Nat.eq_of_beq_eq_true h1; obtain rfl := Nat.eq_of_beq_eq_true h2; simp only [kc_pure, kc_sti, ha, if_true])
theorem kd_isL6_r (h : kd_isL 6 i a len = true) {nL : Nat} (pc : Nat) (L : kc_L) (S : List kc_V) {z : kc_V} (hz : (∃ k : Nat, z = .inr (.inr (.inl (some k)))) ∨ z = .inr (.inr (.inr 0))) (ha : a < nL) : kc_pure nL i x.2.2 pc L (z :: S) = some (pc + len, kc_st1 L a z, S) := by
  unfold kd_isL at h
  split at h
  all_goals first | (cases h; done) | (rename_i e0; cases e0; done) | skip
  all_goals (rw [Bool.and_eq_true] at h; obtain ⟨h1, h2⟩ := h; obtain rfl := Nat.eq_of_beq_eq_true h1; obtain rfl := Nat.eq_of_beq_eq_true h2; rcases hz with ⟨k, rfl⟩ | rfl <;> simp only [kc_pure, kc_sta, ha, if_true])
theorem kd_isL7_r (h : kd_isL 7 i a len = true) {nL : Nat} (pc : Nat) (L : kc_L) (S : List kc_V) {z : Int64} (ha : a + 1 < nL) : kc_pure nL i x.2.2 pc L (.inr (.inl z) :: S) = some (pc + len, kc_st2 L a (.inr (.inl z)), S) := by
  unfold kd_isL at h
  split at h
  all_goals first | (cases h; done) | (rename_i e0; cases e0; done) | skip
  all_goals (rw [Bool.and_eq_true] at h; obtain ⟨h1, h2⟩ := h; obtain rfl := Nat.eq_of_beq_eq_true h1; obtain rfl := Nat.eq_of_beq_eq_true h2; simp only [kc_pure, kc_stj, ha, if_true])
/-- comparisons -/
theorem kd_cc_i (cn : Nat) (hc : cn ≤ 5) (z y : Int32) : kd_cc cn (kd_nb z) (kd_nb y) = kc_cnd (kd_cd cn) z.toInt y.toInt := by
  have e1 := kd_nb_i z
  have e2 := kd_nb_i y
  have q1 : (kd_nb z = kd_nb y) ↔ (z.toInt = y.toInt) := by omega
  have q2 : (kd_nb z < kd_nb y) ↔ (z.toInt < y.toInt) := by omega
  have q3 : (kd_nb y < kd_nb z) ↔ (y.toInt < z.toInt) := by omega
  match cn, hc with
  | 0, _ => show decide (kd_nb z = kd_nb y) = decide (z.toInt = y.toInt); exact decide_eq_decide.mpr q1
  | 1, _ => show (!decide (kd_nb z = kd_nb y)) = (!decide (z.toInt = y.toInt)); rw [decide_eq_decide.mpr q1]
  | 2, _ => show decide (kd_nb z < kd_nb y) = decide (z.toInt < y.toInt); exact decide_eq_decide.mpr q2
  | 3, _ => show (!decide (kd_nb z < kd_nb y)) = (!decide (z.toInt < y.toInt)); rw [decide_eq_decide.mpr q2]
  | 4, _ => show decide (kd_nb y < kd_nb z) = decide (y.toInt < z.toInt); exact decide_eq_decide.mpr q3
  | 5, _ => show (!decide (kd_nb y < kd_nb z)) = (!decide (y.toInt < z.toInt)); rw [decide_eq_decide.mpr q3]
  | _ + 6, h => exact absurd h (by omega)
theorem kd_cc_j (cn : Nat) (hc : cn ≤ 5) (z y : Int64) : kd_cc cn (kd_nj z) (kd_nj y) = kc_cnd (kd_cd cn) (kc_lcmp z y).toInt 0 := by
  have e1 := kd_nj_i z
  have e2 := kd_nj_i y
  have q1 : (kd_nj z = kd_nj y) ↔ ((kc_lcmp z y).toInt = 0) := by
    unfold kc_lcmp
    split
    · rename_i h; constructor
      · intro q; omega
      · intro q; exact absurd q (by decide)
    · split
      · rename_i h; constructor
        · intro q; omega
        · intro q; exact absurd q (by decide)
      · constructor
        · intro _; rfl
        · intro _; omega
  have q2 : (kd_nj z < kd_nj y) ↔ ((kc_lcmp z y).toInt < 0) := by
    unfold kc_lcmp
    split
    · rename_i h; constructor
      · intro q; omega
      · intro q; exact absurd q (by decide)
    · split
      · rename_i h; constructor
        · intro _; decide
        · intro _; omega
      · constructor
        · intro q; omega
        · intro q; exact absurd q (by decide)
  have q3 : (kd_nj y < kd_nj z) ↔ (0 < (kc_lcmp z y).toInt) := by
    unfold kc_lcmp
    split
    · rename_i h; constructor
      · intro _; decide
      · intro _; omega
    · split
      · rename_i h; constructor
        · intro q; omega
        · intro q; exact absurd q (by decide)
      · constructor
        · intro q; omega
        · intro q; exact absurd q (by decide)
  match cn, hc with
  | 0, _ => show decide (kd_nj z = kd_nj y) = decide ((kc_lcmp z y).toInt = 0); exact decide_eq_decide.mpr q1
  | 1, _ => show (!decide (kd_nj z = kd_nj y)) = (!decide ((kc_lcmp z y).toInt = 0)); rw [decide_eq_decide.mpr q1]
  | 2, _ => show decide (kd_nj z < kd_nj y) = decide ((kc_lcmp z y).toInt < 0); exact decide_eq_decide.mpr q2
  | 3, _ => show (!decide (kd_nj z < kd_nj y)) = (!decide ((kc_lcmp z y).toInt < 0)); rw [decide_eq_decide.mpr q2]
  | 4, _ => show decide (kd_nj y < kd_nj z) = decide (0 < (kc_lcmp z y).toInt); exact decide_eq_decide.mpr q3
  | 5, _ => show (!decide (kd_nj y < kd_nj z)) = (!decide (0 < (kc_lcmp z y).toInt)); rw [decide_eq_decide.mpr q3]
  | _ + 6, h => exact absurd h (by omega)
end KDR
