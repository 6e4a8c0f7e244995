/-! ===== what the engine's values mean; its steps that leave the heap alone ===== -/
def wk_r (as : List Nat) (z : Nat → Nat) (ρ : Nat → Int32) (v : wk_V) (x : Value) : Prop := match v with
  | .inl p => ∃ i : Int32, x = .int i ∧ p.1 ≤ i.toInt ∧ i.toInt ≤ p.2
  | .inr (.inl p) => ∃ i : Int64, x = .long i ∧ p.1 ≤ i.toInt ∧ i.toInt ≤ p.2
  | .inr (.inr (.inl none)) => x = .null
  | .inr (.inr (.inl (some k))) => ∃ a, as[k]? = some a ∧ x = .ref a
  | .inr (.inr (.inr (0, i))) => x = .int (ρ i)
  | .inr (.inr (.inr (1, i))) => x = .long (ρ i).toInt64
  | .inr (.inr (.inr (2, _))) => x = .ref (z 0)
  | .inr (.inr (.inr (_, i))) => x = .ref (z i)
def wk_bx (ρ : Nat → Int32) (iv : wk_I) : Prop := ∀ (i : Nat) (p : Int × Int), iv[i]? = some p → p.1 ≤ (ρ i).toInt ∧ (ρ i).toInt ≤ p.2
def wk_f2 {α β : Type} (R : α → β → Prop) : List α → List β → Prop
  | [], [] => True
  | a :: l, b :: m => R a b ∧ wk_f2 R l m
  | _, _ => False
theorem wk_no {α : Type} {P : Prop} {a : α} (h : (none : Option α) = some a) : P := by cases h
theorem wk_f2_nil {α β : Type} {R : α → β → Prop} {m : List β} (h : wk_f2 R [] m) : m = [] := by cases m <;> first | rfl | exact h.elim
theorem wk_f2_cons {α β : Type} {R : α → β → Prop} {a : α} {l : List α} {m : List β} (h : wk_f2 R (a :: l) m) : ∃ b m', m = b :: m' ∧ R a b ∧ wk_f2 R l m' := by
  cases m with
  | nil => exact h.elim
  | cons b m' => exact ⟨b, m', rfl, h.1, h.2⟩
theorem wk_f2_len {α β : Type} {R : α → β → Prop} : ∀ {l : List α} {m : List β}, wk_f2 R l m → l.length = m.length
  | [], [], _ => rfl
  | [], _ :: _, h => h.elim
  | _ :: _, [], h => h.elim
  | _ :: _, _ :: _, h => by simp [wk_f2_len h.2]
theorem wk_f2_at {α β : Type} {R : α → β → Prop} : ∀ {l : List α} {m : List β}, wk_f2 R l m → ∀ (k : Nat) (a : α), l[k]? = some a → ∃ b, m[k]? = some b ∧ R a b
  | [], _, _, k, a, hk => by simp at hk
  | _ :: _, [], h, _, _, _ => h.elim
  | a0 :: l, b0 :: m, h, 0, a, hk => by
    simp at hk
    subst hk
    exact ⟨b0, by simp, h.1⟩
  | a0 :: l, b0 :: m, h, k + 1, a, hk => by
    simp at hk
    obtain ⟨b, h1, h2⟩ := wk_f2_at h.2 k a hk
    exact ⟨b, by simpa using h1, h2⟩
theorem wk_f2_set {α β : Type} {R : α → β → Prop} : ∀ {l : List α} {m : List β}, wk_f2 R l m → ∀ (k : Nat) (a : α) (b : β), R a b → wk_f2 R (l.set k a) (m.set k b)
  | [], [], _, k, a, b, _ => by simp [wk_f2]
  | [], _ :: _, h, _, _, _, _ => h.elim
  | _ :: _, [], h, _, _, _, _ => h.elim
  | a0 :: l, b0 :: m, h, 0, a, b, hab => ⟨hab, h.2⟩
  | a0 :: l, b0 :: m, h, k + 1, a, b, hab => ⟨h.1, wk_f2_set h.2 k a b hab⟩
theorem wk_f2_app {α β : Type} {R : α → β → Prop} : ∀ {l : List α} {m : List β} {l' : List α} {m' : List β}, wk_f2 R l m → wk_f2 R l' m' → wk_f2 R (l ++ l') (m ++ m')
  | [], [], _, _, _, h' => h'
  | [], _ :: _, _, _, h, _ => h.elim
  | _ :: _, [], _, _, h, _ => h.elim
  | _ :: _, _ :: _, _, _, h, h' => ⟨h.1, wk_f2_app h.2 h'⟩
theorem wk_f2_mono {α β : Type} {R S : α → β → Prop} (hRS : ∀ a b, R a b → S a b) : ∀ {l : List α} {m : List β}, wk_f2 R l m → wk_f2 S l m
  | [], [], _ => trivial
  | [], _ :: _, h => h.elim
  | _ :: _, [], h => h.elim
  | _ :: _, _ :: _, h => ⟨hRS _ _ h.1, wk_f2_mono hRS h.2⟩
theorem wk_f2_fil {α β : Type} {R : α → β → Prop} {f : α → Bool} {g : β → Bool} (hfg : ∀ a b, R a b → f a = g b) : ∀ {l : List α} {m : List β}, wk_f2 R l m → wk_f2 R (l.filter f) (m.filter g)
  | [], [], _ => trivial
  | [], _ :: _, h => h.elim
  | _ :: _, [], h => h.elim
  | a :: l, b :: m, h => by
    have e := hfg a b h.1
    have ih := wk_f2_fil hfg h.2
    cases hb : g b
    · rw [List.filter_cons_of_neg (by rw [e, hb]; decide), List.filter_cons_of_neg (by rw [hb]; decide)]
      exact ih
    · rw [List.filter_cons_of_pos (by rw [e, hb]), List.filter_cons_of_pos (by rw [hb])]
      exact ⟨h.1, ih⟩
theorem wk_i32 {x : Int32} {a : Int} (h : x.toInt = a) : x = Int32.ofInt a := by rw [← h, Int32.ofInt_toInt]
theorem wk_i64 {x : Int64} {a : Int} (h : x.toInt = a) : x = Int64.ofInt a := by rw [← h, Int64.ofInt_toInt]
section WKV
variable {as : List Nat} {z : Nat → Nat} {ρ : Nat → Int32} {iv : wk_I}
theorem wk_gi_r (hb : wk_bx ρ iv) {v : wk_V} {p : Int × Int} {x : Value} (h : wk_gi iv v = some p) (hr : wk_r as z ρ v x) : ∃ i : Int32, x = .int i ∧ p.1 ≤ i.toInt ∧ i.toInt ≤ p.2 := by
  rcases v with q | q | (_ | n) | ⟨t, i⟩
  · cases h; exact hr
  · cases h
  · cases h
  · cases h
  · match t, h, hr with
    | 0, h, hr => exact ⟨ρ i, hr, hb i p (by rw [← wk_at_eq]; exact h)⟩
    | 1, h, _ => cases h
    | _ + 2, h, _ => cases h
theorem wk_gj_r (hb : wk_bx ρ iv) {v : wk_V} {p : Int × Int} {x : Value} (h : wk_gj iv v = some p) (hr : wk_r as z ρ v x) : ∃ i : Int64, x = .long i ∧ p.1 ≤ i.toInt ∧ i.toInt ≤ p.2 := by
  rcases v with q | q | (_ | n) | ⟨t, i⟩
  · cases h
  · cases h; exact hr
  · cases h
  · cases h
  · match t, h, hr with
    | 0, h, _ => cases h
    | 1, h, hr => exact ⟨(ρ i).toInt64, hr, by rw [Int32.toInt_toInt64]; exact hb i p (by rw [← wk_at_eq]; exact h)⟩
    | _ + 2, h, _ => cases h
theorem wk_sI_r (x : Int32) : wk_r as z ρ (wk_sI x) (.int x) := ⟨x, rfl, Int.le_refl _, Int.le_refl _⟩
theorem wk_sJ_r (x : Int64) : wk_r as z ρ (wk_sJ x) (.long x) := ⟨x, rfl, Int.le_refl _, Int.le_refl _⟩
theorem wk_tI_r (x : Int32) : wk_r as z ρ wk_tI (.int x) := ⟨x, rfl, Int32.minValue_le_toInt x, Int32.toInt_le x⟩
theorem wk_tJ_r (x : Int64) : wk_r as z ρ wk_tJ (.long x) := ⟨x, rfl, Int64.minValue_le_toInt x, Int64.toInt_le x⟩
theorem wk_o2_r (hb : wk_bx ρ iv) {F : Int32 → Int32 → Int32} {v w u : wk_V} {x y : Value} (h : wk_o2 iv F v w = some u) (hv : wk_r as z ρ v x) (hw : wk_r as z ρ w y) : ∃ a b : Int32, x = .int a ∧ y = .int b ∧ wk_r as z ρ u (.int (F a b)) := by
  unfold wk_o2 at h
  cases hp : wk_gi iv v with
  | none => rw [hp] at h; cases h
  | some p => cases hq : wk_gi iv w with
    | none => rw [hp, hq] at h; cases h
    | some q =>
      rw [hp, hq] at h
      obtain ⟨a, rfl, a1, a2⟩ := wk_gi_r hb hp hv
      obtain ⟨b, rfl, b1, b2⟩ := wk_gi_r hb hq hw
      refine ⟨a, b, rfl, rfl, ?_⟩
      simp only [Option.some.injEq] at h
      subst h
      split
      · rename_i hc
        rw [wk_i32 (x := a) (a := p.1) (by omega), wk_i32 (x := b) (a := q.1) (by omega)]
        exact wk_sI_r _
      · exact wk_tI_r _
theorem wk_o2j_r (hb : wk_bx ρ iv) {F : Int64 → Int64 → Int64} {v w u : wk_V} {x y : Value} (h : wk_o2j iv F v w = some u) (hv : wk_r as z ρ v x) (hw : wk_r as z ρ w y) : ∃ a b : Int64, x = .long a ∧ y = .long b ∧ wk_r as z ρ u (.long (F a b)) := by
  unfold wk_o2j at h
  cases hp : wk_gj iv v with
  | none => rw [hp] at h; cases h
  | some p => cases hq : wk_gj iv w with
    | none => rw [hp, hq] at h; cases h
    | some q =>
      rw [hp, hq] at h
      obtain ⟨a, rfl, a1, a2⟩ := wk_gj_r hb hp hv
      obtain ⟨b, rfl, b1, b2⟩ := wk_gj_r hb hq hw
      refine ⟨a, b, rfl, rfl, ?_⟩
      simp only [Option.some.injEq] at h
      subst h
      split
      · rename_i hc
        rw [wk_i64 (x := a) (a := p.1) (by omega), wk_i64 (x := b) (a := q.1) (by omega)]
        exact wk_sJ_r _
      · exact wk_tJ_r _
theorem wk_o2s_r (hb : wk_bx ρ iv) {F : Int64 → Int32 → Int64} {v w u : wk_V} {x y : Value} (h : wk_o2s iv F v w = some u) (hv : wk_r as z ρ v x) (hw : wk_r as z ρ w y) : ∃ (a : Int64) (b : Int32), x = .long a ∧ y = .int b ∧ wk_r as z ρ u (.long (F a b)) := by
  unfold wk_o2s at h
  cases hp : wk_gj iv v with
  | none => rw [hp] at h; cases h
  | some p => cases hq : wk_gi iv w with
    | none => rw [hp, hq] at h; cases h
    | some q =>
      rw [hp, hq] at h
      obtain ⟨a, rfl, a1, a2⟩ := wk_gj_r hb hp hv
      obtain ⟨b, rfl, b1, b2⟩ := wk_gi_r hb hq hw
      refine ⟨a, b, rfl, rfl, ?_⟩
      simp only [Option.some.injEq] at h
      subst h
      split
      · rename_i hc
        rw [wk_i64 (x := a) (a := p.1) (by omega), wk_i32 (x := b) (a := q.1) (by omega)]
        exact wk_sJ_r _
      · exact wk_tJ_r _
theorem wk_d2_r (hb : wk_bx ρ iv) {F : Int32 → Int32 → Int32} {v w u : wk_V} {x y : Value} (h : wk_d2 iv F v w = some u) (hv : wk_r as z ρ v x) (hw : wk_r as z ρ w y) : ∃ a b : Int32, x = .int a ∧ y = .int b ∧ ¬ b = 0 ∧ wk_r as z ρ u (.int (F a b)) := by
  unfold wk_d2 at h
  cases hp : wk_gi iv v with
  | none => rw [hp] at h; cases h
  | some p => cases hq : wk_gi iv w with
    | none => rw [hp, hq] at h; cases h
    | some q =>
      rw [hp, hq] at h
      obtain ⟨a, rfl, a1, a2⟩ := wk_gi_r hb hp hv
      obtain ⟨b, rfl, b1, b2⟩ := wk_gi_r hb hq hw
      simp only at h
      split at h
      · rename_i hc
        cases h
        have ea := wk_i32 (x := a) (a := p.1) (by omega)
        have eb := wk_i32 (x := b) (a := q.1) (by omega)
        refine ⟨a, b, rfl, rfl, by rw [eb]; exact hc.2.2, ?_⟩
        rw [ea, eb]
        exact wk_sI_r _
      · cases h
theorem wk_d2j_r (hb : wk_bx ρ iv) {F : Int64 → Int64 → Int64} {v w u : wk_V} {x y : Value} (h : wk_d2j iv F v w = some u) (hv : wk_r as z ρ v x) (hw : wk_r as z ρ w y) : ∃ a b : Int64, x = .long a ∧ y = .long b ∧ ¬ b = 0 ∧ wk_r as z ρ u (.long (F a b)) := by
  unfold wk_d2j at h
  cases hp : wk_gj iv v with
  | none => rw [hp] at h; cases h
  | some p => cases hq : wk_gj iv w with
    | none => rw [hp, hq] at h; cases h
    | some q =>
      rw [hp, hq] at h
      obtain ⟨a, rfl, a1, a2⟩ := wk_gj_r hb hp hv
      obtain ⟨b, rfl, b1, b2⟩ := wk_gj_r hb hq hw
      simp only at h
      split at h
      · rename_i hc
        cases h
        have ea := wk_i64 (x := a) (a := p.1) (by omega)
        have eb := wk_i64 (x := b) (a := q.1) (by omega)
        refine ⟨a, b, rfl, rfl, by rw [eb]; exact hc.2.2, ?_⟩
        rw [ea, eb]
        exact wk_sJ_r _
      · cases h
theorem wk_lc_r (hb : wk_bx ρ iv) {v w u : wk_V} {x y : Value} (h : wk_lc iv v w = some u) (hv : wk_r as z ρ v x) (hw : wk_r as z ρ w y) : ∃ a b : Int64, x = .long a ∧ y = .long b ∧ wk_r as z ρ u (.int (lg_cmp a b)) := by
  unfold wk_lc at h
  cases hp : wk_gj iv v with
  | none => rw [hp] at h; cases h
  | some p => cases hq : wk_gj iv w with
    | none => rw [hp, hq] at h; cases h
    | some q =>
      rw [hp, hq] at h
      obtain ⟨a, rfl, a1, a2⟩ := wk_gj_r hb hp hv
      obtain ⟨b, rfl, b1, b2⟩ := wk_gj_r hb hq hw
      refine ⟨a, b, rfl, rfl, ?_⟩
      simp only at h
      split at h
      · cases h
        have : b < a := Int64.lt_iff_toInt_lt.mpr (by omega)
        rw [show lg_cmp a b = 1 by simp [lg_cmp, this]]
        exact ⟨1, rfl, by decide, by decide⟩
      · split at h
        · cases h
          have h1 : a < b := Int64.lt_iff_toInt_lt.mpr (by omega)
          have h2 : ¬ b < a := fun q => by have := Int64.lt_iff_toInt_lt.mp q; omega
          have h3 : ¬ a = b := fun q => by subst q; omega
          rw [show lg_cmp a b = -1 by simp [lg_cmp, h2, h3]]
          exact ⟨-1, rfl, by decide, by decide⟩
        · split at h
          · cases h
            rename_i hc
            have : a = b := Int64.toInt_inj.mp (by omega)
            subst this
            rw [show lg_cmp a a = 0 by simp [lg_cmp]]
            exact ⟨0, rfl, by decide, by decide⟩
          · cases h
theorem wk_c1_r {v : wk_V} {x : Value} (h : wk_c1 v = true) (hr : wk_r as z ρ v x) : x.category = 1 := by
  rcases v with q | q | (_ | n) | ⟨t, i⟩
  · obtain ⟨i, rfl, -⟩ := hr; rfl
  · cases h
  · cases hr; rfl
  · obtain ⟨a, -, rfl⟩ := hr; rfl
  · match t, h, hr with
    | 0, _, hr => cases hr; rfl
    | 1, h, _ => cases h
    | 2, _, hr => cases hr; rfl
    | _ + 3, _, hr => cases hr; rfl
theorem wk_c2_r {v : wk_V} {x : Value} (hr : wk_r as z ρ v x) : wk_c2 v = (x.category == 2) := by
  rcases v with q | q | (_ | n) | ⟨t, i⟩
  · obtain ⟨i, rfl, -⟩ := hr; rfl
  · obtain ⟨i, rfl, -⟩ := hr; rfl
  · cases hr; rfl
  · obtain ⟨a, -, rfl⟩ := hr; rfl
  · match t, hr with
    | 0, hr => cases hr; rfl
    | 1, hr => cases hr; rfl
    | 2, hr => cases hr; rfl
    | _ + 3, hr => cases hr; rfl
theorem wk_isr_r {v : wk_V} {x : Value} (h : wk_isr v = true) (hr : wk_r as z ρ v x) : ∃ a, x = .ref a := by
  rcases v with q | q | (_ | n) | ⟨t, i⟩
  · cases h
  · cases h
  · cases h
  · obtain ⟨a, -, rfl⟩ := hr; exact ⟨a, rfl⟩
  · match t, h, hr with
    | 0, h, _ => cases h
    | 1, h, _ => cases h
    | 2, _, hr => exact ⟨z 0, hr⟩
    | _ + 3, _, hr => exact ⟨z i, hr⟩
theorem wk_r_mono {v : wk_V} {x : Value} (more : List Nat) (hr : wk_r as z ρ v x) : wk_r (as ++ more) z ρ v x := by
  rcases v with q | q | (_ | n) | ⟨t, i⟩
  · exact hr
  · exact hr
  · exact hr
  · obtain ⟨a, h1, h2⟩ := hr
    exact ⟨a, by rw [List.getElem?_append_left (List.getElem?_eq_some_iff.mp h1).1]; exact h1, h2⟩
  · match t, hr with
    | 0, hr => exact hr
    | 1, hr => exact hr
    | 2, hr => exact hr
    | _ + 3, hr => exact hr
/-- locals -/
def wk_rl (as : List Nat) (z : Nat → Nat) (ρ : Nat → Int32) (q : Nat × wk_V) (r : Nat × Value) : Prop := q.1 = r.1 ∧ wk_r as z ρ q.2 r.2
theorem wk_get_r {nL : Nat} {ls : Array Slot} : ∀ {AL : wk_L} {lv : List (Nat × Value)} {i : Nat} {v : wk_V}, (∀ q ∈ lv, ls[q.1]? = some (.val q.2)) → wk_f2 (wk_rl as z ρ) AL lv → wk_get AL i = some v → ∃ x, ls[i]? = some (.val x) ∧ wk_r as z ρ v x
  | [], _, _, _, _, _, h => by cases h
  | _ :: _, [], _, _, _, h, _ => h.elim
  | (j, w) :: l, r :: m, i, v, hl, hf, h => by
    unfold wk_get at h
    cases hj : Nat.beq j i with
    | true =>
      rw [hj] at h
      simp only [if_true, Option.some.injEq] at h
      subst h
      have e : j = i := Nat.eq_of_beq_eq_true hj
      subst e
      obtain ⟨⟨h1, h2⟩, -⟩ := hf
      simp only at h1 h2
      exact ⟨r.2, by rw [h1]; exact hl r List.mem_cons_self, h2⟩
    | false =>
      rw [hj] at h
      simp only [Bool.false_eq_true, if_false] at h
      exact wk_get_r (nL := nL) (fun q hq => hl q (List.mem_cons_of_mem _ hq)) hf.2 h
theorem wk_st1_r {AL : wk_L} {lv : List (Nat × Value)} {i : Nat} {v : wk_V} {x : Value} (hf : wk_f2 (wk_rl as z ρ) AL lv) (hr : wk_r as z ρ v x) : wk_f2 (wk_rl as z ρ) (wk_st1 AL i v) ((i, x) :: lv.filter (fun q => !(q.1 == i) && !(q.1 + 1 == i && q.2.category == 2))) :=
  ⟨⟨rfl, hr⟩, wk_f2_fil (fun a b h => by rw [h.1, wk_c2_r h.2]) hf⟩
theorem wk_st2_r {AL : wk_L} {lv : List (Nat × Value)} {i : Nat} {v : wk_V} {x : Value} (hf : wk_f2 (wk_rl as z ρ) AL lv) (hr : wk_r as z ρ v x) : wk_f2 (wk_rl as z ρ) (wk_st2 AL i v) ((i, x) :: lv.filter (fun q => !(q.1 == i) && (!(q.1 == i + 1) && !(q.1 + 1 == i && q.2.category == 2)))) :=
  ⟨⟨rfl, hr⟩, wk_f2_fil (fun a b h => by rw [h.1, wk_c2_r h.2]) hf⟩
theorem wk_cnd_r {cd : ClassFile.Cond} {p q : Int × Int} {x y : Int32} {b : Bool} (h : wk_cnd cd p q = some b) (h1 : p.1 ≤ x.toInt) (h2 : x.toInt ≤ p.2) (h3 : q.1 ≤ y.toInt) (h4 : y.toInt ≤ q.2) : wk_holds cd x y ↔ b = true := by
  have heq : ∀ {b : Bool}, wk_eq p q = some b → (x = y ↔ b = true) := by
    intro b h
    rw [← Int32.toInt_inj]
    unfold wk_eq at h
    split at h
    · cases h; simp; omega
    · split at h
      · cases h; simp; omega
      · cases h
  have hlt : ∀ {b : Bool}, wk_lt p q = some b → (x < y ↔ b = true) := by
    intro b h
    rw [Int32.lt_iff_toInt_lt]
    unfold wk_lt at h
    split at h
    · cases h; simp; omega
    · split at h
      · cases h; simp; omega
      · cases h
  have hgt : ∀ {b : Bool}, wk_lt q p = some b → (y < x ↔ b = true) := by
    intro b h
    rw [Int32.lt_iff_toInt_lt]
    unfold wk_lt at h
    split at h
    · cases h; simp; omega
    · split at h
      · cases h; simp; omega
      · cases h
  cases cd with
  | eq => exact heq h
  | ne =>
    cases he : wk_eq p q with
    | none => simp only [wk_cnd, he] at h; cases h
    | some r =>
      simp only [wk_cnd, he] at h
      cases h
      have := heq he
      simp only [wk_holds, this]
      cases r <;> simp
  | lt => exact hlt h
  | ge =>
    cases he : wk_lt p q with
    | none => simp only [wk_cnd, he] at h; cases h
    | some r =>
      simp only [wk_cnd, he] at h
      cases h
      have := hlt he
      simp only [wk_holds]
      rw [show (y ≤ x) ↔ ¬ x < y from by rw [Int32.le_iff_toInt_le, Int32.lt_iff_toInt_lt]; omega, this]
      cases r <;> simp
  | gt => exact hgt h
  | le =>
    cases he : wk_lt q p with
    | none => simp only [wk_cnd, he] at h; cases h
    | some r =>
      simp only [wk_cnd, he] at h
      cases h
      have := hgt he
      simp only [wk_holds]
      rw [show (x ≤ y) ↔ ¬ y < x from by rw [Int32.le_iff_toInt_le, Int32.lt_iff_toInt_lt]; omega, this]
      cases r <;> simp
theorem wk_to_r {pc t : Nat} {off : Int} (h : wk_to pc off = some t) : (pc : Int) + off = (t : Int) := by
  unfold wk_to at h
  split at h
  · rename_i n hn
    cases h
    rw [hn]; rfl
  · cases h
end WKV
