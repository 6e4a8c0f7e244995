/-! ===== by hand: straight pieces of code as one step ===== -/
def kx_one (g : kc_G) (M : wk_M) (pc : Nat) (L : kc_L) (S : List kc_V) (h : kc_H) : Option (Nat × kc_L × List kc_V × kc_H) :=
  match wk_fetch M pc with
  | some (pc0, i, _, x, _, _, _) => if pc0 = pc then (match kc_pure (wk_Ml M) i x.2.2 pc L S with
    | some P => some (P.1, P.2.1, P.2.2, h)
    | none => match kc_heap (kc_gL g) (kc_gs g) i x S h with
      | some r => some (pc + r.1, L, r.2.1, r.2.2)
      | none => (kc_math i x S).map fun S' => (pc + 3, L, S', h)) else none
  | none => none
def kx_run (g : kc_G) (M : wk_M) : Nat → Nat → kc_L → List kc_V → kc_H → Option (Nat × kc_L × List kc_V × kc_H)
  | 0, pc, L, S, h => some (pc, L, S, h)
  | n + 1, pc, L, S, h => match kx_one g M pc L S h with
    | some (pc', L', S', h') => kx_run g M n pc' L' S' h'
    | none => none
section KX
variable {g : kc_G} {d : Nat} {M : wk_M} {Q : Option kc_V → kc_H → Prop}
theorem kx_one_r {pc pc' : Nat} {L L' : kc_L} {S S' : List kc_V} {h h' : kc_H} (e : kx_one g M pc L S h = some (pc', L', S', h')) (k : kc_Ev g d M Q pc' L' S' h') : kc_Ev g d M Q pc L S h := by
  unfold kx_one at e
  split at e
  · rename_i pc0 i n x wd t a hf
    split at e
    · rename_i hpc
      subst hpc
      split at e
      · rename_i P hp
        cases e
        exact kc_pure_ok hf hp k
      · split at e
        · rename_i r hp
          obtain ⟨dd, S1, h1⟩ := r
          cases e
          exact kc_heap_ok hf hp k
        · rename_i hn
          cases hm : kc_math i x S with
          | none => rw [hm] at e; cases e
          | some S1 =>
            rw [hm] at e
            cases e
            exact kc_math_ok hf hm k
    · cases e
  · cases e
theorem kx_go : ∀ (n : Nat) {pc pc' : Nat} {L L' : kc_L} {S S' : List kc_V} {h h' : kc_H}, kx_run g M n pc L S h = some (pc', L', S', h') → kc_Ev g d M Q pc' L' S' h' → kc_Ev g d M Q pc L S h
  | 0, _, _, _, _, _, _, _, _, e, k => by cases e; exact k
  | n + 1, pc, pc', L, L', S, S', h, h', e, k => by
    have e : (match kx_one g M pc L S h with
      | some (pc', L', S', h') => kx_run g M n pc' L' S' h'
      | none => none) = some (pc', L', S', h') := e
    cases h1 : kx_one g M pc L S h with
    | none => rw [h1] at e; cases e
    | some q =>
      obtain ⟨p1, L1, S1, H1⟩ := q
      rw [h1] at e
      exact kx_one_r h1 (kx_go n e k)
end KX
theorem kx_ti {a : Nat} (h : a < 2147483648) : (Int32.ofNat a).toInt = (a : Int) := Int32.toInt_ofNat_of_lt (by omega)
theorem kx_ix {j m : Nat} (hm : m < 2147483648) (hj : j < m) : kc_ix (.inl (Int32.ofNat j)) m = some j := by
  unfold kc_ix
  simp only
  rw [kx_ti (by omega), if_pos ⟨by omega, by omega⟩]
  rfl
theorem kx_ary {c m t : Nat} (hs : kc_shp c = some (0, t, m)) (hc : c < kc_N) : kc_ary (.inr (.inr (.inl (some c)))) = some (c, t, m) := by
  unfold kc_ary
  simp only
  rw [hs]
  simp only
  rw [if_pos hc]
section KXR
variable {g : kc_G} {d : Nat} {M : wk_M} {Q : Option kc_V → kc_H → Prop} {pc : Nat} {AL : kc_L} {AS : List kc_V} {h : kc_H} {n : Nat} {x : Nat × Nat × Int} {wd : List Nat} {t : Nat} {a : Int}
theorem kx_iald {c j m : Nat} {v : kc_V} (hf : wk_fetch M pc = some (pc, .iaload, n, x, wd, t, a)) (hs : kc_shp c = some (0, 0, m)) (hc : c < kc_N) (hm : m < 2147483648) (hj : j < m) (hv : h c j = v) (k : kc_Ev g d M Q (pc + 1) AL (v :: AS) h) : kc_Ev g d M Q pc AL (.inl (Int32.ofNat j) :: .inr (.inr (.inl (some c))) :: AS) h := by
  refine kc_heap_ok hf (dd := 1) (AS' := v :: AS) (h' := h) ?_ k
  show ((kc_ary (.inr (.inr (.inl (some c))))).bind fun q => if q.2.1 = 0 then (kc_ix (.inl (Int32.ofNat j)) q.2.2).map fun j => (1, h q.1 j :: AS, h) else none) = _
  rw [kx_ary hs hc]
  simp only [Option.bind_some, if_true]
  rw [kx_ix hm hj]
  simp only [Option.map_some]
  rw [hv]
theorem kx_aald {c j m t0 : Nat} {v : kc_V} (hf : wk_fetch M pc = some (pc, .aaload, n, x, wd, t, a)) (hs : kc_shp c = some (0, t0, m)) (ht : 2 ≤ t0) (hc : c < kc_N) (hm : m < 2147483648) (hj : j < m) (hv : h c j = v) (k : kc_Ev g d M Q (pc + 1) AL (v :: AS) h) : kc_Ev g d M Q pc AL (.inl (Int32.ofNat j) :: .inr (.inr (.inl (some c))) :: AS) h := by
  refine kc_heap_ok hf (dd := 1) (AS' := v :: AS) (h' := h) ?_ k
  show ((kc_ary (.inr (.inr (.inl (some c))))).bind fun q => if 2 ≤ q.2.1 then (kc_ix (.inl (Int32.ofNat j)) q.2.2).map fun j => (1, h q.1 j :: AS, h) else none) = _
  rw [kx_ary hs hc]
  simp only [Option.bind_some]
  rw [if_pos ht, kx_ix hm hj]
  simp only [Option.map_some]
  rw [hv]
theorem kx_iast {c j m : Nat} {w : Int32} (hf : wk_fetch M pc = some (pc, .iastore, n, x, wd, t, a)) (hs : kc_shp c = some (0, 0, m)) (hc : c < kc_N) (hm : m < 2147483648) (hj : j < m) (k : kc_Ev g d M Q (pc + 1) AL AS (kc_upd h c j (.inl w))) : kc_Ev g d M Q pc AL (.inl w :: .inl (Int32.ofNat j) :: .inr (.inr (.inl (some c))) :: AS) h := by
  refine kc_heap_ok hf (dd := 1) (AS' := AS) (h' := kc_upd h c j (.inl w)) ?_ k
  show ((kc_ary (.inr (.inr (.inl (some c))))).bind fun q => if q.2.1 = 0 then (kc_ix (.inl (Int32.ofNat j)) q.2.2).map fun j => (1, AS, kc_upd h q.1 j (.inl w)) else none) = _
  rw [kx_ary hs hc]
  simp only [Option.bind_some, if_true]
  rw [kx_ix hm hj]
  rfl
end KXR
/-! comparisons -/
theorem kx_lt {a b : Nat} (ha : a < 2147483648) (hb : b < 2147483648) : (kc_cnd .lt (Int32.ofNat a).toInt (Int32.ofNat b).toInt = true) ↔ a < b := by
  unfold kc_cnd
  rw [kx_ti ha, kx_ti hb]
  simp only [decide_eq_true_eq]
  omega
theorem kx_ge {a b : Nat} (ha : a < 2147483648) (hb : b < 2147483648) : (kc_cnd .ge (Int32.ofNat a).toInt (Int32.ofNat b).toInt = true) ↔ b ≤ a := by
  unfold kc_cnd
  rw [kx_ti ha, kx_ti hb]
  simp only [Bool.not_eq_true', decide_eq_false_iff_not]
  omega
theorem kx_gt {a b : Nat} (ha : a < 2147483648) (hb : b < 2147483648) : (kc_cnd .gt (Int32.ofNat a).toInt (Int32.ofNat b).toInt = true) ↔ b < a := by
  unfold kc_cnd
  rw [kx_ti ha, kx_ti hb]
  simp only [decide_eq_true_eq]
  omega
theorem kx_le {a b : Nat} (ha : a < 2147483648) (hb : b < 2147483648) : (kc_cnd .le (Int32.ofNat a).toInt (Int32.ofNat b).toInt = true) ↔ a ≤ b := by
  unfold kc_cnd
  rw [kx_ti ha, kx_ti hb]
  simp only [Bool.not_eq_true', decide_eq_false_iff_not]
  omega
theorem kx_eq {a b : Nat} (ha : a < 2147483648) (hb : b < 2147483648) : (kc_cnd .eq (Int32.ofNat a).toInt (Int32.ofNat b).toInt = true) ↔ a = b := by
  unfold kc_cnd
  rw [kx_ti ha, kx_ti hb]
  simp only [decide_eq_true_eq]
  omega
theorem kx_ne {a b : Nat} (ha : a < 2147483648) (hb : b < 2147483648) : (kc_cnd .ne (Int32.ofNat a).toInt (Int32.ofNat b).toInt = true) ↔ ¬ a = b := by
  unfold kc_cnd
  rw [kx_ti ha, kx_ti hb]
  simp only [Bool.not_eq_true', decide_eq_false_iff_not]
  omega
/-- a boolean as an int -/
def kp_b (b : Bool) : Int32 := bif b then 1 else 0
theorem kx_b0 {b : Bool} : (kc_cnd .eq (kp_b b).toInt 0 = true) ↔ b = false := by
  cases b <;> decide
theorem kx_b1 {b : Bool} : (kc_cnd .ne (kp_b b).toInt 0 = true) ↔ b = true := by
  cases b <;> decide
theorem kx_inc (p : Nat) : Int32.ofNat p + Int32.ofInt 1 = Int32.ofNat (p + 1) := by
  rw [Int32.ofNat_add]
  rfl
