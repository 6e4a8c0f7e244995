/-! ===== heaps told by the cells in which they differ ===== -/
abbrev wk_Dl : Type := List (Nat × wk_C)
def wk_putD {β : Type} : wk_Dl → List (List wk_C) → (List (List wk_C) → β) → Option β
  | [], r, k => some (k r)
  | (n, c) :: l, r, k => bif (wk_at2 r n).isSome then wk_put2 r n c (fun r => wk_putD l r k) else none
def wk_putD1 : wk_Dl → List (List wk_C) → Option (List (List wk_C))
  | [], r => some r
  | (n, c) :: l, r => bif (wk_at2 r n).isSome then wk_putD1 l (wk_set2 r n c) else none
theorem wk_putD_eq {β : Type} : ∀ (l : wk_Dl) (r : List (List wk_C)) (k : List (List wk_C) → β), wk_putD l r k = (wk_putD1 l r).map k
  | [], _, _ => rfl
  | (n, c) :: l, r, k => by
    unfold wk_putD wk_putD1
    cases (wk_at2 r n).isSome with
    | false => rfl
    | true =>
      simp only [cond_true]
      rw [wk_put2_eq, wk_putD_eq l]
theorem wk_putD1_at : ∀ (l : wk_Dl) (r r' : List (List wk_C)), wk_putD1 l r = some r' → ∀ (k : Nat) (c : wk_C), wk_at2 r' k = some c → (k, c) ∈ l ∨ (k ∉ l.map (fun q => q.1) ∧ wk_at2 r k = some c)
  | [], r, r', h, k, c, hk => by
    cases h
    exact Or.inr ⟨List.not_mem_nil, hk⟩
  | (n, d) :: l, r, r', h, k, c, hk => by
    unfold wk_putD1 at h
    replace h := wk_bt h
    obtain ⟨h1, h2⟩ := h
    rcases wk_putD1_at l _ _ h2 k c hk with g | ⟨g1, g2⟩
    · exact Or.inl (List.mem_cons_of_mem _ g)
    · rw [wk_at2_set _ _ _ _ h1] at g2
      by_cases e : k = n
      · subst e
        rw [if_pos rfl] at g2
        cases g2
        exact Or.inl List.mem_cons_self
      · rw [if_neg e] at g2
        exact Or.inr ⟨fun q => (List.mem_cons.mp q).elim e g1, g2⟩
def wk_blD (iv : wk_I) (AH : wk_A) : wk_Dl → Bool
  | [] => true
  | (n, c) :: l => (match wk_at2 AH.2 n with
    | some d => wk_blC iv d c
    | none => false) && wk_blD iv AH l
theorem wk_blD_r {iv : wk_I} {AH : wk_A} : ∀ {l : wk_Dl}, wk_blD iv AH l = true → ∀ {k : Nat} {c : wk_C}, (k, c) ∈ l → ∃ d, wk_at2 AH.2 k = some d ∧ wk_blC iv d c = true
  | [], _, k, c, hk => by cases hk
  | (n, c0) :: l, h, k, c, hk => by
    have h : ((match wk_at2 AH.2 n with
      | some d => wk_blC iv d c0
      | none => false) && wk_blD iv AH l) = true := h
    rw [Bool.and_eq_true] at h
    rcases List.mem_cons.mp hk with e | hk
    · cases e
      have h1 := h.1
      cases hv : wk_at2 AH.2 n with
      | none => rw [hv] at h1; exact absurd h1 (fun q => by cases q)
      | some d => rw [hv] at h1; exact ⟨d, rfl, h1⟩
    · exact wk_blD_r h.2 hk
/-- a heap now, held against the heap at the entry and a list of cells -/
theorem wk_dl_r {D : va_G} {A : Nat → Prop} {U : State} {as0 more : List Nat} {z : Nat} {ρ : Nat → Int32} {iv : wk_I} {AH P : wk_A} {ws0 ws : va_W} {H0 H : Heap} {wrs : List Nat} {dl : wk_Dl} {r : List (List wk_C)} (hb : wk_bx ρ iv) (h0 : wk_hr D A U as0 z ρ P ws0 H0) (hr : wk_hr D A U (as0 ++ more) z ρ AH ws H) (hsm : ∀ j : Nat, j < ws0.length → j ∉ wrs → ws[j]? = ws0[j]?) (hn : AH.1 = P.1) (hd : wk_blD iv AH dl = true) (hw : wk_sub wrs (dl.map fun q => q.1) = true) (hp : wk_putD1 dl P.2 = some r) : wk_hr D A U (as0 ++ more) z ρ (P.1, r) ws H := by
  have hmore : more = [] := by
    have e1 := congrArg List.length hr.2.2.2.1
    have e2 := congrArg List.length h0.2.2.2.1
    rw [List.length_map, List.length_append, hr.2.2.1] at e1
    rw [List.length_map, h0.2.2.1] at e2
    exact List.length_eq_zero_iff.mp (by omega)
  subst hmore
  refine ⟨hr.1, hr.2.1, by rw [hr.2.2.1, hn], hr.2.2.2.1, fun k c hk hc => ?_⟩
  rcases wk_putD1_at _ _ _ hp k c hc with g | ⟨g1, g2⟩
  · obtain ⟨d, d1, d2⟩ := wk_blD_r hd g
    obtain ⟨a, e, e1, e2⟩ := hr.2.2.2.2 k d (by rw [hn]; exact hk) d1
    exact ⟨a, e, e1, wk_blC_r hb d2 e2⟩
  · obtain ⟨a, e, e1, e2⟩ := h0.2.2.2.2 k c hk g2
    refine ⟨a, e, ?_, by rw [List.append_nil]; exact e2⟩
    rw [hsm k (by rw [h0.2.2.1]; exact hk) (fun q => g1 (wk_mem_r (List.all_eq_true.mp hw k q)))]
    exact e1
/-- a heap of which only some cells are asked -/
theorem wk_sp_r {D : va_G} {A : Nat → Prop} {U : State} {as : List Nat} {z : Nat} {ρ : Nat → Int32} {iv : wk_I} {AH P : wk_A} {ws : va_W} {H : Heap} {dl : wk_Dl} (hb : wk_bx ρ iv) (hr : wk_hr D A U as z ρ AH ws H) (hn : AH.1 = P.1) (hd : wk_blD iv AH dl = true) (hP : ∀ (k : Nat) (c : wk_C), wk_at2 P.2 k = some c → (k, c) ∈ dl ∨ ∃ fs, c = .inr (1000, fs)) : wk_hr D A U as z ρ P ws H := by
  refine ⟨hr.1, hr.2.1, by rw [hr.2.2.1, hn], hr.2.2.2.1, fun k c hk hc => ?_⟩
  rcases hP k c hc with g | ⟨fs, rfl⟩
  · obtain ⟨d, d1, d2⟩ := wk_blD_r hd g
    obtain ⟨a, e, e1, e2⟩ := hr.2.2.2.2 k d (by rw [hn]; exact hk) d1
    exact ⟨a, e, e1, wk_blC_r hb d2 e2⟩
  · have hl : k < ws.length := by rw [hr.2.2.1, hn]; exact hk
    exact ⟨(ws[k]).1, (ws[k]).2, List.getElem?_eq_getElem hl, Or.inl rfl⟩
