/-! ===== the engine's heap, and what it means ===== -/
theorem wk_blt {a b : Nat} (h : Nat.blt a b = true) : a < b := Nat.le_of_ble_eq_true h
def wk_arr (as : List Nat) (z : Nat → Nat) (ρ : Nat → Int32) (t n : Nat) (vs : List (List wk_V)) (d : (Nat → Int32) ⊕ (Nat → Int64) ⊕ (Nat → UInt32) ⊕ (Nat → UInt64) ⊕ (Nat → Option Nat)) : Prop :=
  if t < 2 then ∃ f, d = .inl f ∧ ∀ (j : Nat) (v : wk_V), j < n → wk_at2 vs j = some v → wk_r as z ρ v (.int (f j))
  else ∃ f, d = .inr (.inr (.inr (.inr f))) ∧ ∀ (j : Nat) (v : wk_V), j < n → wk_at2 vs j = some v → wk_r as z ρ v (va_rf (f j))
def wk_e (U : State) (as : List Nat) (z : Nat → Nat) (ρ : Nat → Int32) (c : wk_C) (e : va_E) : Prop := match c with
  | .inl (t, n, vs) => ∃ (cA : ClassId) (d : (Nat → Int32) ⊕ (Nat → Int64) ⊕ (Nat → UInt32) ⊕ (Nat → UInt64) ⊕ (Nat → Option Nat)), e = .inl (cA, n, d) ∧ ArrOfT U cA (wk_ty t) ∧ va_RA U cA (wk_ty t) ∧ wk_arr as z ρ t n vs d
  | .inr (ci, fs) => ci = 1000 ∨ ∃ vs, e = .inr (ci, vs) ∧ wk_f2 (wk_r as z ρ) fs vs
def wk_hr (D : va_G) (A : Nat → Prop) (U : State) (as : List Nat) (z : Nat → Nat) (ρ : Nat → Int32) (AH : wk_A) (ws : va_W) (H : Heap) : Prop :=
  va_P D wk_cl ws H ∧ va_D A ws ∧ ws.length = AH.1 ∧ ws.map (fun q => q.1) = as ∧ ∀ (k : Nat) (c : wk_C), k < AH.1 → wk_at2 AH.2 k = some c → ∃ (a : Nat) (e : va_E), ws[k]? = some (a, e) ∧ wk_e U as z ρ c e
theorem wk_arr_mono {as : List Nat} {z : Nat → Nat} {ρ : Nat → Int32} {t n : Nat} {vs : List (List wk_V)} {d : (Nat → Int32) ⊕ (Nat → Int64) ⊕ (Nat → UInt32) ⊕ (Nat → UInt64) ⊕ (Nat → Option Nat)} (more : List Nat) (h : wk_arr as z ρ t n vs d) : wk_arr (as ++ more) z ρ t n vs d := by
  unfold wk_arr at h ⊢
  by_cases ht : t < 2
  · rw [if_pos ht] at h ⊢
    obtain ⟨f, h1, h2⟩ := h
    exact ⟨f, h1, fun j v hj hv => wk_r_mono more (h2 j v hj hv)⟩
  · rw [if_neg ht] at h ⊢
    obtain ⟨f, h1, h2⟩ := h
    exact ⟨f, h1, fun j v hj hv => wk_r_mono more (h2 j v hj hv)⟩
theorem wk_e_mono {U : State} {as : List Nat} {z : Nat → Nat} {ρ : Nat → Int32} {c : wk_C} {e : va_E} (more : List Nat) (h : wk_e U as z ρ c e) : wk_e U (as ++ more) z ρ c e := by
  rcases c with ⟨t, n, vs⟩ | ⟨ci, fs⟩
  · obtain ⟨cA, d, h1, h2, h3, h4⟩ := h
    exact ⟨cA, d, h1, h2, h3, wk_arr_mono more h4⟩
  · rcases h with h | ⟨vs, h1, h2⟩
    · exact Or.inl h
    · exact Or.inr ⟨vs, h1, wk_f2_mono (fun _ _ q => wk_r_mono more q) h2⟩
theorem wk_e_moved {U V : State} {as : List Nat} {z : Nat → Nat} {ρ : Nat → Int32} {c : wk_C} {e : va_E} (hvm : U.vm.Alike V.vm) (h : wk_e U as z ρ c e) : wk_e V as z ρ c e := by
  rcases c with ⟨t, n, vs⟩ | ⟨ci, fs⟩
  · obtain ⟨cA, d, h1, h2, h3, h4⟩ := h
    exact ⟨cA, d, h1, arrOfT_moved hvm h2, h3.moved hvm, h4⟩
  · exact h
theorem wk_hr_moved {D : va_G} {A : Nat → Prop} {U V : State} {as : List Nat} {z : Nat → Nat} {ρ : Nat → Int32} {AH : wk_A} {ws : va_W} {H : Heap} (hvm : U.vm.Alike V.vm) (h : wk_hr D A U as z ρ AH ws H) : wk_hr D A V as z ρ AH ws H :=
  ⟨h.1, h.2.1, h.2.2.1, h.2.2.2.1, fun k c hk hc => by
    obtain ⟨a, e, h1, h2⟩ := h.2.2.2.2 k c hk hc
    exact ⟨a, e, h1, wk_e_moved hvm h2⟩⟩
section WKH
variable {D : va_G} {A : Nat → Prop} {U : State} {as : List Nat} {z : Nat → Nat} {ρ : Nat → Int32} {AH : wk_A} {ws : va_W} {H H1 : Heap} {iv : wk_I}
theorem wk_hr_cell (h : wk_hr D A U as z ρ AH ws H) {k : Nat} {c : wk_C} (hc : wk_cell AH k = some c) : ∃ (a : Nat) (e : va_E), ws[k]? = some (a, e) ∧ as[k]? = some a ∧ wk_e U as z ρ c e ∧ k < AH.1 ∧ wk_at2 AH.2 k = some c ∧ wk_kn c = true := by
  unfold wk_cell at hc
  cases hb : Nat.blt k AH.1 with
  | false => rw [hb] at hc; cases hc
  | true =>
    rw [hb] at hc
    simp only [cond_true] at hc
    cases ha : wk_at2 AH.2 k with
    | none => rw [ha] at hc; cases hc
    | some c0 =>
      rw [ha] at hc
      simp only at hc
      cases hkn : wk_kn c0 with
      | false => rw [hkn] at hc; cases hc
      | true =>
        rw [hkn] at hc
        cases hc
        have hk : k < AH.1 := wk_blt hb
        obtain ⟨a, e, h1, h2⟩ := h.2.2.2.2 k c hk ha
        refine ⟨a, e, h1, ?_, h2, hk, rfl, hkn⟩
        rw [← h.2.2.2.1, List.getElem?_map, h1]
        rfl
theorem wk_kn_n {ci : Nat} {fs : List wk_V} (h : wk_kn (.inr (ci, fs)) = true) : ¬ ci = 1000 := fun e => by
  subst e
  cases h
theorem wk_obj_r (h : wk_hr D A U as z ρ AH ws H) {v : wk_V} {x : Value} {k ci : Nat} {fs : List wk_V} (ho : wk_obj AH v = some (k, ci, fs)) (hv : wk_r as z ρ v x) : ∃ (a : Nat) (vs : List Value), x = .ref a ∧ ws[k]? = some (a, .inr (ci, vs)) ∧ as[k]? = some a ∧ wk_f2 (wk_r as z ρ) fs vs ∧ k < AH.1 ∧ wk_at2 AH.2 k = some (.inr (ci, fs)) := by
  unfold wk_obj at ho
  split at ho
  · rename_i k0
    cases hc : wk_cell AH k0 with
    | none => rw [hc] at ho; cases ho
    | some c =>
      rw [hc] at ho
      rcases c with ⟨t, n, vs⟩ | ⟨ci0, fs0⟩
      · cases ho
      · cases ho
        obtain ⟨a, e, h1, h2, h3, h4, h5, h6⟩ := wk_hr_cell h hc
        obtain ⟨vs, rfl, h33⟩ := h3.resolve_left (wk_kn_n h6)
        obtain ⟨a', e1, e2⟩ := hv
        cases h2.symm.trans e1
        exact ⟨a, vs, e2, h1, h2, h33, h4, h5⟩
  · cases ho
theorem wk_ary_r (h : wk_hr D A U as z ρ AH ws H) {v : wk_V} {x : Value} {k t n : Nat} {vs : List (List wk_V)} (ho : wk_ary AH v = some (k, t, n, vs)) (hv : wk_r as z ρ v x) : ∃ (a : Nat) (cA : ClassId) (d : (Nat → Int32) ⊕ (Nat → Int64) ⊕ (Nat → UInt32) ⊕ (Nat → UInt64) ⊕ (Nat → Option Nat)), x = .ref a ∧ ws[k]? = some (a, .inl (cA, n, d)) ∧ as[k]? = some a ∧ ArrOfT U cA (wk_ty t) ∧ va_RA U cA (wk_ty t) ∧ wk_arr as z ρ t n vs d ∧ k < AH.1 ∧ wk_at2 AH.2 k = some (.inl (t, n, vs)) := by
  unfold wk_ary at ho
  split at ho
  · rename_i k0
    cases hc : wk_cell AH k0 with
    | none => rw [hc] at ho; cases ho
    | some c =>
      rw [hc] at ho
      rcases c with ⟨t0, n0, vs0⟩ | ⟨ci0, fs0⟩
      · cases ho
        obtain ⟨a, e, h1, h2, ⟨cA, d, rfl, h3, h4, h5⟩, h6, h7, -⟩ := wk_hr_cell h hc
        obtain ⟨a', e1, e2⟩ := hv
        cases h2.symm.trans e1
        exact ⟨a, cA, d, e2, h1, h2, h3, h4, h5, h6, h7⟩
      · cases ho
  · cases ho
/-- a cell written -/
theorem wk_hr_set (h : wk_hr D A U as z ρ AH ws H) {k a : Nat} {c c' : wk_C} {e0 e : va_E} (hk : k < AH.1) (hc : wk_at2 AH.2 k = some c) (hw : ws[k]? = some (a, e0)) (he : wk_e U as z ρ c' e) (hP : va_P D wk_cl (ws.set k (a, e)) H1) (hD : va_D A (ws.set k (a, e))) : wk_hr D A U as z ρ (AH.1, wk_set2 AH.2 k c') (ws.set k (a, e)) H1 := by
  have hl : k < ws.length := (List.getElem?_eq_some_iff.mp hw).1
  refine ⟨hP, hD, by rw [List.length_set]; exact h.2.2.1, ?_, fun j c2 hj hc2 => ?_⟩
  · rw [← h.2.2.2.1, List.map_set]
    refine List.ext_getElem? fun i => ?_
    by_cases hi : i = k
    · subst hi
      rw [List.getElem?_set_self (by rw [List.length_map]; exact hl), List.getElem?_map, hw]
      rfl
    · rw [List.getElem?_set_ne (fun q => hi q.symm)]
  · rw [wk_at2_set _ _ _ _ (by rw [hc]; rfl)] at hc2
    by_cases hj2 : j = k
    · subst hj2
      rw [if_pos rfl] at hc2
      cases hc2
      exact ⟨a, e, by rw [List.getElem?_set_self hl], he⟩
    · rw [if_neg hj2] at hc2
      obtain ⟨a2, e2, g1, g2⟩ := h.2.2.2.2 j c2 hj hc2
      exact ⟨a2, e2, by rw [List.getElem?_set_ne (fun q => hj2 q.symm)]; exact g1, g2⟩
/-- a cell made -/
theorem wk_hr_push (h : wk_hr D A U as z ρ AH ws H) {a : Nat} {c : wk_C} {e : va_E} (hroom : (wk_at2 AH.2 AH.1).isSome = true) (he : wk_e U (as ++ [a]) z ρ c e) (hP : va_P D wk_cl (ws ++ [(a, e)]) H1) (hD : va_D A (ws ++ [(a, e)])) : wk_hr D A U (as ++ [a]) z ρ (AH.1 + 1, wk_set2 AH.2 AH.1 c) (ws ++ [(a, e)]) H1 := by
  refine ⟨hP, hD, by rw [List.length_append, h.2.2.1]; rfl, by rw [List.map_append, h.2.2.2.1]; rfl, fun j c2 hj hc2 => ?_⟩
  rw [wk_at2_set _ _ _ _ hroom] at hc2
  by_cases hj2 : j = AH.1
  · subst hj2
    rw [if_pos rfl] at hc2
    cases hc2
    refine ⟨a, e, ?_, he⟩
    rw [List.getElem?_append_right (by rw [h.2.2.1]; exact Nat.le_refl _), h.2.2.1, Nat.sub_self]
    rfl
  · rw [if_neg hj2] at hc2
    obtain ⟨a2, e2, g1, g2⟩ := h.2.2.2.2 j c2 (by have : j < AH.1 + 1 := hj; omega) hc2
    exact ⟨a2, e2, by rw [List.getElem?_append_left (List.getElem?_eq_some_iff.mp g1).1]; exact g1, wk_e_mono [a] g2⟩
theorem wk_nx_r (hb : wk_bx ρ iv) {v : wk_V} {j : Nat} {x : Value} (h : wk_nx iv v = some j) (hv : wk_r as z ρ v x) : ∃ i : Int32, x = .int i ∧ i.toInt = (j : Int) ∧ ¬ i < 0 ∧ i.toNatClampNeg = j := by
  unfold wk_nx at h
  split at h
  · rename_i a b hg
    cases hab : Nat.beq a b with
    | false => rw [hab] at h; cases h
    | true =>
      rw [hab] at h
      cases h
      obtain rfl := Nat.eq_of_beq_eq_true hab
      obtain ⟨i, rfl, h1, h2⟩ := wk_gi_r hb hg hv
      simp only at h1 h2
      have hi : i.toInt = (j : Int) := by
        have h1 : (j : Int) ≤ i.toInt := h1
        have h2 : i.toInt ≤ (j : Int) := h2
        omega
      refine ⟨i, rfl, hi, fun q => ?_, ?_⟩
      · have := Int32.lt_iff_toInt_lt.mp q
        rw [hi] at this
        have e0 : (0 : Int32).toInt = 0 := rfl
        omega
      · show i.toInt.toNat = j
        rw [hi]
        rfl
  · cases h
theorem wk_vin {i : Int32} {j n : Nat} (h1 : ¬ i < 0) (h2 : i.toNatClampNeg = j) (h3 : j < n) : vp_in i n := fun q => by
  rcases q with q | q
  · exact h1 q
  · omega
end WKH
