/-! ===== by hand: rows as numbers; isOrder exactly enough ===== -/
/-- a row as a number -/
def kw_v (f : Nat → Nat) : Nat → Nat
  | 0 => 0
  | m + 1 => kw_v f m * 11 + f m
theorem kw_v_con {f f2 : Nat → Nat} : ∀ m, (∀ j, j < m → f2 j = f j) → kw_v f2 m = kw_v f m
  | 0, _ => rfl
  | m + 1, h => by
    show kw_v f2 m * 11 + f2 m = kw_v f m * 11 + f m
    rw [kw_v_con m (fun j hj => h j (by omega)), h m (by omega)]
theorem kw_v_lt {f f2 : Nat → Nat} {k n : Nat} (hf : ∀ j, j < n → f j ≤ 10) (h1 : ∀ j, j < k → f2 j = f j) (h2 : f k < f2 k) : ∀ m, k < m → m ≤ n → kw_v f m < kw_v f2 m
  | 0, hm, _ => by omega
  | m + 1, hm, hn => by
    show kw_v f m * 11 + f m < kw_v f2 m * 11 + f2 m
    by_cases e : k = m
    · subst e
      rw [kw_v_con k h1]
      omega
    · have := kw_v_lt hf h1 h2 m (by omega) (by omega)
      have := hf m (by omega)
      omega
theorem kw_v_le {f : Nat → Nat} : ∀ n, (∀ j, j < n → f j ≤ 10) → kw_v f n < 11 ^ n
  | 0, _ => by show 0 < 1; decide
  | n + 1, h => by
    have a := kw_v_le n (fun j hj => h j (by omega))
    have b := h n (by omega)
    show kw_v f n * 11 + f n < 11 ^ (n + 1)
    rw [Nat.pow_succ]
    omega
theorem kw_k : kd_rn (kd_ty 259) 34 = some (3, 279, 279) ∧ kd_rn (kd_ty 259) 35 = some (0, 2147483648, 2147483648 + 10) ∧ kd_rn (kd_ty 259) 48 = some (3, 288, 288) := by decide +kernel
theorem kw_k279 : ∀ j, j < 10 → kd_rn (kd_ty 279) j = some (0, 2147483648, 2147483648 + 10) ∧ kd_rn (kd_ty 288) j = some (0, 2147483648, 2147483648 + 9) := by decide +kernel
theorem kw_wt {h : kc_H} {n : Nat} {f : Nat → Nat} (hw : kd_wt kd_ty h) (hn : n ≤ 10) (hf : ∀ j, j < 10 → f j ≤ 10) : kd_wt kd_ty (kw_H h n f) := by
  obtain ⟨k1, k2, k3⟩ := kw_k
  intro c b v hv
  unfold kw_H
  split
  · rename_i e
    subst e
    split
    · rename_i e; subst e; rw [k1] at hv; cases hv; exact ⟨279, rfl, by omega, by omega⟩
    · split
      · rename_i e; subst e; rw [k2] at hv; cases hv; exact kx_gof (by omega) (by omega)
      · exact hw 259 b v hv
  · split
    · rename_i e
      subst e
      split
      · rename_i hb
        rw [(kw_k279 b hb).1] at hv
        cases hv
        exact kx_gof (by omega) (hf b hb)
      · exact hw 279 b v hv
    · exact hw c b v hv
/-- isOrder, for rows of n -/
def kw_ord (g : kc_G) (n : Nat) : Prop := ∀ (m t : Int32) (h : kc_H), kd_wt kd_ty h → kd_g 0 (fun _ => 0) (0, 2147483648, 2147483650) (.inl m) → kd_g 0 (fun _ => 0) (0, 2147483648, 2147484647) (.inl t) → (∀ j, j < n → kd_g 0 (fun _ => 0) (0, 2147483648, 2147483657) (h 279 j)) → kc_Con g 4 275 [.inr (.inr (.inl (some 259))), .inl (Int32.ofNat n), .inl m, .inl t] h (fun rv h' => ∃ b : Bool, rv = some (.inl (kp_b b)) ∧ h' = h)
theorem kw_bool {x : kc_V} (hx : kd_g 0 (fun _ => 0) (0, 2147483648, 2147483649) x) : ∃ b : Bool, x = .inl (kp_b b) := by
  obtain ⟨v, h1, rfl⟩ := kx_ofg (u := 1) (by omega) hx
  rcases (show v = 0 ∨ v = 1 by omega) with rfl | rfl
  · exact ⟨false, rfl⟩
  · exact ⟨true, rfl⟩
theorem kw_ord0 {g : kc_G} (hg : kc_ok g) : kw_ord g 0 := by
  intro m t h hw hm ht hr
  refine kc_Con_mono (kc_Con_le (kd_hold_le (kd_h275n0 hg) (Nat.le_refl _) _ h hw ⟨⟨259, rfl, by decide, by decide⟩, ⟨_, rfl, by decide, by decide⟩, hm, ht, trivial⟩ (fun q hq => ?_)) (by decide)) (fun rv h' hq => ?_)
  · change q ∈ ([] : kd_F) at hq
    cases hq
  · obtain ⟨p, p1, p2, -, -, p5⟩ := hq
    obtain rfl := List.mem_singleton.mp p1
    cases rv with
    | none => exact p2.elim
    | some y =>
      obtain ⟨z, rfl, z1, z2⟩ := p2
      obtain ⟨b, hb⟩ := kw_bool (x := .inl z) ⟨z, rfl, by omega, by omega⟩
      refine ⟨b, by rw [hb], ?_⟩
      funext c i
      exact p5 c i (fun q hq => by cases hq)
theorem kw_ord1 {g : kc_G} (hg : kc_ok g) : kw_ord g 1 := by
  intro m t h hw hm ht hr
  refine kc_Con_mono (kc_Con_le (kd_hold_le (kd_h275n1 hg) (Nat.le_refl _) _ h hw ⟨⟨259, rfl, by decide, by decide⟩, ⟨_, rfl, by decide, by decide⟩, hm, ht, trivial⟩ (fun q hq => ?_)) (by decide)) (fun rv h' hq => ?_)
  · change q ∈ ([(279, 0, (0, 2147483648, 2147483657))] : kd_F) at hq
    obtain rfl := List.mem_singleton.mp hq
    exact hr 0 (by decide)
  · obtain ⟨p, p1, p2, -, -, p5⟩ := hq
    obtain rfl := List.mem_singleton.mp p1
    cases rv with
    | none => exact p2.elim
    | some y =>
      obtain ⟨z, rfl, z1, z2⟩ := p2
      obtain ⟨b, hb⟩ := kw_bool (x := .inl z) ⟨z, rfl, by omega, by omega⟩
      refine ⟨b, by rw [hb], ?_⟩
      funext c i
      exact p5 c i (fun q hq => by cases hq)
theorem kw_ord2 {g : kc_G} (hg : kc_ok g) : kw_ord g 2 := by
  intro m t h hw hm ht hr
  refine kc_Con_mono (kc_Con_le (kd_hold_le (kd_h275n2 hg) (Nat.le_refl _) _ h hw ⟨⟨259, rfl, by decide, by decide⟩, ⟨_, rfl, by decide, by decide⟩, hm, ht, trivial⟩ (fun q hq => ?_)) (by decide)) (fun rv h' hq => ?_)
  · change q ∈ ([(279, 0, (0, 2147483648, 2147483657)), (279, 1, (0, 2147483648, 2147483657))] : kd_F) at hq
    simp only [List.mem_cons, List.not_mem_nil, or_false] at hq
    rcases hq with rfl | rfl
    · exact hr 0 (by decide)
    · exact hr 1 (by decide)
  · obtain ⟨p, p1, p2, -, -, p5⟩ := hq
    obtain rfl := List.mem_singleton.mp p1
    cases rv with
    | none => exact p2.elim
    | some y =>
      obtain ⟨z, rfl, z1, z2⟩ := p2
      obtain ⟨b, hb⟩ := kw_bool (x := .inl z) ⟨z, rfl, by omega, by omega⟩
      refine ⟨b, by rw [hb], ?_⟩
      funext c i
      exact p5 c i (fun q hq => by cases hq)
theorem kw_ord3 {g : kc_G} (hg : kc_ok g) : kw_ord g 3 := by
  intro m t h hw hm ht hr
  refine kc_Con_mono (kc_Con_le (kd_hold_le (kd_h275n3 hg) (Nat.le_refl _) _ h hw ⟨⟨259, rfl, by decide, by decide⟩, ⟨_, rfl, by decide, by decide⟩, hm, ht, trivial⟩ (fun q hq => ?_)) (by decide)) (fun rv h' hq => ?_)
  · change q ∈ ([(279, 0, (0, 2147483648, 2147483657)), (279, 1, (0, 2147483648, 2147483657)), (279, 2, (0, 2147483648, 2147483657))] : kd_F) at hq
    simp only [List.mem_cons, List.not_mem_nil, or_false] at hq
    rcases hq with rfl | rfl | rfl
    · exact hr 0 (by decide)
    · exact hr 1 (by decide)
    · exact hr 2 (by decide)
  · obtain ⟨p, p1, p2, -, -, p5⟩ := hq
    obtain rfl := List.mem_singleton.mp p1
    cases rv with
    | none => exact p2.elim
    | some y =>
      obtain ⟨z, rfl, z1, z2⟩ := p2
      obtain ⟨b, hb⟩ := kw_bool (x := .inl z) ⟨z, rfl, by omega, by omega⟩
      refine ⟨b, by rw [hb], ?_⟩
      funext c i
      exact p5 c i (fun q hq => by cases hq)
theorem kw_ord4 {g : kc_G} (hg : kc_ok g) : kw_ord g 4 := by
  intro m t h hw hm ht hr
  refine kc_Con_mono (kc_Con_le (kd_hold_le (kd_h275n4 hg) (Nat.le_refl _) _ h hw ⟨⟨259, rfl, by decide, by decide⟩, ⟨_, rfl, by decide, by decide⟩, hm, ht, trivial⟩ (fun q hq => ?_)) (by decide)) (fun rv h' hq => ?_)
  · change q ∈ ([(279, 0, (0, 2147483648, 2147483657)), (279, 1, (0, 2147483648, 2147483657)), (279, 2, (0, 2147483648, 2147483657)), (279, 3, (0, 2147483648, 2147483657))] : kd_F) at hq
    simp only [List.mem_cons, List.not_mem_nil, or_false] at hq
    rcases hq with rfl | rfl | rfl | rfl
    · exact hr 0 (by decide)
    · exact hr 1 (by decide)
    · exact hr 2 (by decide)
    · exact hr 3 (by decide)
  · obtain ⟨p, p1, p2, -, -, p5⟩ := hq
    obtain rfl := List.mem_singleton.mp p1
    cases rv with
    | none => exact p2.elim
    | some y =>
      obtain ⟨z, rfl, z1, z2⟩ := p2
      obtain ⟨b, hb⟩ := kw_bool (x := .inl z) ⟨z, rfl, by omega, by omega⟩
      refine ⟨b, by rw [hb], ?_⟩
      funext c i
      exact p5 c i (fun q hq => by cases hq)
theorem kw_ord5 {g : kc_G} (hg : kc_ok g) : kw_ord g 5 := by
  intro m t h hw hm ht hr
  refine kc_Con_mono (kc_Con_le (kd_hold_le (kd_h275n5 hg) (Nat.le_refl _) _ h hw ⟨⟨259, rfl, by decide, by decide⟩, ⟨_, rfl, by decide, by decide⟩, hm, ht, trivial⟩ (fun q hq => ?_)) (by decide)) (fun rv h' hq => ?_)
  · change q ∈ ([(279, 0, (0, 2147483648, 2147483657)), (279, 1, (0, 2147483648, 2147483657)), (279, 2, (0, 2147483648, 2147483657)), (279, 3, (0, 2147483648, 2147483657)), (279, 4, (0, 2147483648, 2147483657))] : kd_F) at hq
    simp only [List.mem_cons, List.not_mem_nil, or_false] at hq
    rcases hq with rfl | rfl | rfl | rfl | rfl
    · exact hr 0 (by decide)
    · exact hr 1 (by decide)
    · exact hr 2 (by decide)
    · exact hr 3 (by decide)
    · exact hr 4 (by decide)
  · obtain ⟨p, p1, p2, -, -, p5⟩ := hq
    obtain rfl := List.mem_singleton.mp p1
    cases rv with
    | none => exact p2.elim
    | some y =>
      obtain ⟨z, rfl, z1, z2⟩ := p2
      obtain ⟨b, hb⟩ := kw_bool (x := .inl z) ⟨z, rfl, by omega, by omega⟩
      refine ⟨b, by rw [hb], ?_⟩
      funext c i
      exact p5 c i (fun q hq => by cases hq)
theorem kw_ord6 {g : kc_G} (hg : kc_ok g) : kw_ord g 6 := by
  intro m t h hw hm ht hr
  refine kc_Con_mono (kc_Con_le (kd_hold_le (kd_h275n6 hg) (Nat.le_refl _) _ h hw ⟨⟨259, rfl, by decide, by decide⟩, ⟨_, rfl, by decide, by decide⟩, hm, ht, trivial⟩ (fun q hq => ?_)) (by decide)) (fun rv h' hq => ?_)
  · change q ∈ ([(279, 0, (0, 2147483648, 2147483657)), (279, 1, (0, 2147483648, 2147483657)), (279, 2, (0, 2147483648, 2147483657)), (279, 3, (0, 2147483648, 2147483657)), (279, 4, (0, 2147483648, 2147483657)), (279, 5, (0, 2147483648, 2147483657))] : kd_F) at hq
    simp only [List.mem_cons, List.not_mem_nil, or_false] at hq
    rcases hq with rfl | rfl | rfl | rfl | rfl | rfl
    · exact hr 0 (by decide)
    · exact hr 1 (by decide)
    · exact hr 2 (by decide)
    · exact hr 3 (by decide)
    · exact hr 4 (by decide)
    · exact hr 5 (by decide)
  · obtain ⟨p, p1, p2, -, -, p5⟩ := hq
    obtain rfl := List.mem_singleton.mp p1
    cases rv with
    | none => exact p2.elim
    | some y =>
      obtain ⟨z, rfl, z1, z2⟩ := p2
      obtain ⟨b, hb⟩ := kw_bool (x := .inl z) ⟨z, rfl, by omega, by omega⟩
      refine ⟨b, by rw [hb], ?_⟩
      funext c i
      exact p5 c i (fun q hq => by cases hq)
