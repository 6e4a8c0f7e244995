/-! ===== the clean logic: the heap ===== -/
def kc_sh : List (List (Nat × Nat × Nat)) := [[(1, 8, 13), (1, 7, 13), (0, 2, 6), (0, 0, 6), (0, 0, 6), (0, 0, 6), (0, 0, 6), (0, 0, 6), (0, 0, 6), (0, 0, 6), (0, 0, 6), (0, 2, 3), (0, 0, 5), (0, 0, 5), (0, 0, 5), (0, 2, 10), (0, 0, 7), (0, 0, 7), (0, 0, 7), (0, 0, 7), (0, 0, 7), (0, 0, 7), (0, 0, 7), (0, 0, 7), (0, 0, 7), (0, 0, 7), (0, 0, 2), (0, 0, 5), (0, 2, 2), (0, 0, 240), (0, 0, 240), (0, 0, 2)],
  [(1, 7, 13), (0, 2, 6), (0, 0, 6), (0, 0, 6), (0, 0, 6), (0, 0, 6), (0, 0, 6), (0, 0, 6), (0, 0, 6), (0, 0, 6), (0, 2, 3), (0, 0, 5), (0, 0, 5), (0, 0, 5), (0, 2, 10), (0, 0, 7), (0, 0, 7), (0, 0, 7), (0, 0, 7), (0, 0, 7), (0, 0, 7), (0, 0, 7), (0, 0, 7), (0, 0, 7), (0, 0, 7), (0, 0, 2), (0, 0, 5), (0, 2, 2), (0, 0, 240), (0, 0, 240), (0, 0, 2), (0, 3, 2)],
  [(1, 7, 13), (0, 2, 6), (0, 0, 6), (0, 0, 6), (0, 0, 6), (0, 0, 6), (0, 0, 6), (0, 0, 6), (0, 0, 6), (0, 0, 6), (0, 2, 3), (0, 0, 5), (0, 0, 5), (0, 0, 5), (0, 2, 10), (0, 0, 7), (0, 0, 7), (0, 0, 7), (0, 0, 7), (0, 0, 7), (0, 0, 7), (0, 0, 7), (0, 0, 7), (0, 0, 7), (0, 0, 7), (0, 0, 2), (0, 0, 5), (0, 2, 2), (0, 0, 240), (0, 0, 240), (0, 0, 2), (1, 7, 13)],
  [(0, 2, 6), (0, 0, 6), (0, 0, 6), (0, 0, 6), (0, 0, 6), (0, 0, 6), (0, 0, 6), (0, 0, 6), (0, 0, 6), (0, 2, 3), (0, 0, 5), (0, 0, 5), (0, 0, 5), (0, 2, 10), (0, 0, 7), (0, 0, 7), (0, 0, 7), (0, 0, 7), (0, 0, 7), (0, 0, 7), (0, 0, 7), (0, 0, 7), (0, 0, 7), (0, 0, 7), (0, 0, 2), (0, 0, 5), (0, 2, 2), (0, 0, 240), (0, 0, 240), (0, 0, 2), (0, 1, 2), (1, 4, 9)],
  [(0, 0, 60), (0, 2, 60), (0, 0, 4), (0, 0, 4), (0, 0, 4), (0, 0, 4), (0, 0, 4), (0, 0, 4), (0, 0, 4), (0, 0, 4), (0, 0, 4), (0, 0, 4), (0, 0, 4), (0, 0, 4), (0, 0, 4), (0, 0, 4), (0, 0, 4), (0, 0, 4), (0, 0, 4), (0, 0, 4), (0, 0, 4), (0, 0, 4), (0, 0, 4), (0, 0, 4), (0, 0, 4), (0, 0, 4), (0, 0, 4), (0, 0, 4), (0, 0, 4), (0, 0, 4), (0, 0, 4), (0, 0, 4)],
  [(0, 0, 4), (0, 0, 4), (0, 0, 4), (0, 0, 4), (0, 0, 4), (0, 0, 4), (0, 0, 4), (0, 0, 4), (0, 0, 4), (0, 0, 4), (0, 0, 4), (0, 0, 4), (0, 0, 4), (0, 0, 4), (0, 0, 4), (0, 0, 4), (0, 0, 4), (0, 0, 4), (0, 0, 4), (0, 0, 4), (0, 0, 4), (0, 0, 4), (0, 0, 4), (0, 0, 4), (0, 0, 4), (0, 0, 4), (0, 0, 4), (0, 0, 4), (0, 0, 4), (0, 0, 4), (1, 0, 15), (0, 0, 10)],
  [(0, 0, 6), (0, 0, 6), (0, 2, 6), (0, 0, 3), (0, 0, 3), (0, 0, 3), (0, 0, 3), (0, 0, 3), (0, 0, 3), (0, 0, 6), (0, 0, 3), (0, 0, 10), (1, 3, 8), (0, 0, 5), (0, 0, 10), (0, 0, 10), (0, 2, 10), (0, 0, 5), (0, 0, 5), (0, 0, 5), (0, 0, 5), (0, 0, 5), (0, 0, 5), (0, 0, 5), (0, 0, 5), (0, 0, 5), (0, 0, 5), (0, 0, 6), (1, 6, 14), (0, 0, 10), (0, 0, 10), (0, 0, 3)],
  [(0, 2, 5), (0, 0, 6), (0, 0, 6), (0, 0, 6), (0, 0, 6), (0, 0, 6), (0, 2, 5), (0, 0, 6), (0, 0, 6), (0, 0, 6), (0, 0, 6), (0, 0, 6), (0, 2, 11), (0, 0, 5), (0, 0, 5), (0, 0, 5), (0, 0, 5), (0, 0, 5), (0, 0, 5), (0, 0, 5), (0, 0, 5), (0, 0, 5), (0, 0, 5), (0, 0, 5), (0, 0, 19), (0, 0, 19), (1, 5, 7), (0, 0, 5), (0, 0, 5), (1, 2, 4), (0, 0, 20), (1, 1, 6)],
  [(0, 0, 6), (0, 0, 2), (0, 0, 64), (1, 9, 49), (0, 0, 650), (0, 0, 1300), (0, 1, 2), (0, 0, 650), (0, 0, 240), (0, 0, 1200), (0, 0, 10), (0, 0, 18), (0, 0, 6), (0, 0, 6), (0, 0, 6), (0, 0, 3), (0, 0, 10), (0, 0, 10), (0, 0, 10), (0, 1, 10), (0, 0, 6), (0, 0, 6), (0, 0, 10), (0, 0, 10), (0, 0, 5), (0, 0, 5), (0, 0, 5), (0, 0, 1331), (0, 0, 1331), (0, 0, 19), (0, 0, 19), (0, 0, 10)],
  [(0, 0, 10)]]
def kc_N : Nat := 289
/-- a cell's shape: (0, kind, length) an array, (1, class, fields) an object -/
def kc_shp (k : Nat) : Option (Nat × Nat × Nat) := wk_at2 kc_sh k
def kc_rows (f : Nat → kc_V) (n : Nat) : List (List wk_V) := (List.range (n / 32 + 1)).map fun r => (List.range 32).map fun j => kc_e (f (32 * r + j))
theorem kc_rows_at (f : Nat → kc_V) (n j : Nat) (h : j ≤ n) : wk_at2 (kc_rows f n) j = some (kc_e (f j)) := by
  rw [wk_at2_eq]
  unfold kc_rows
  have h1 : j / 32 < n / 32 + 1 := by omega
  have h2 : j % 32 < 32 := Nat.mod_lt _ (by decide)
  rw [List.getElem?_map, List.getElem?_range h1]
  simp only [Option.map_some, Option.bind_some]
  rw [List.getElem?_map, List.getElem?_range h2]
  simp only [Option.map_some]
  rw [Nat.div_add_mod]
theorem kc_rows_r (f : Nat → kc_V) (n j : Nat) {v : wk_V} (h : wk_at2 (kc_rows f n) j = some v) : v = kc_e (f j) := by
  rw [wk_at2_eq] at h
  unfold kc_rows at h
  rw [List.getElem?_map] at h
  cases h1 : (List.range (n / 32 + 1))[j / 32]? with
  | none => rw [h1] at h; cases h
  | some r =>
    rw [h1] at h
    have e1 : r = j / 32 := (List.getElem?_eq_some_iff.mp h1).2 ▸ by rw [List.getElem_range]
    simp only [Option.map_some, Option.bind_some, List.getElem?_map] at h
    cases h2 : (List.range 32)[j % 32]? with
    | none => rw [h2] at h; cases h
    | some q =>
      rw [h2] at h
      have e2 : q = j % 32 := (List.getElem?_eq_some_iff.mp h2).2 ▸ by rw [List.getElem_range]
      simp only [Option.map_some, Option.some.injEq] at h
      rw [← h, e1, e2, Nat.div_add_mod]
def kc_C (h : kc_H) (k : Nat) : wk_C := match kc_shp k with
  | some (0, t, n) => .inl (t, n, kc_rows (h k) n)
  | some (_ + 1, ci, nf) => .inr (ci, (List.range nf).map fun j => kc_e (h k j))
  | none => .inr (1000, [])
def kc_A (h : kc_H) : wk_A := (kc_N, (List.range 10).map fun r => (List.range 32).map fun j => kc_C h (32 * r + j))
theorem kc_A_at (h : kc_H) (k : Nat) (hk : k < kc_N) : wk_at2 (kc_A h).2 k = some (kc_C h k) := by
  rw [wk_at2_eq]
  unfold kc_A
  have hk : k < 289 := hk
  have h1 : k / 32 < 10 := by omega
  have h2 : k % 32 < 32 := Nat.mod_lt _ (by decide)
  simp only
  rw [List.getElem?_map, List.getElem?_range h1]
  simp only [Option.map_some, Option.bind_some]
  rw [List.getElem?_map, List.getElem?_range h2]
  simp only [Option.map_some]
  rw [Nat.div_add_mod]
def kc_ix (v : kc_V) (n : Nat) : Option Nat := match v with
  | .inl a => if 0 ≤ a.toInt ∧ a.toInt < (n : Int) then some a.toInt.toNat else none
  | _ => none
theorem kc_ix_e {v : kc_V} {n j : Nat} (h : kc_ix v n = some j) : wk_nx [] (kc_e v) = some j ∧ j < n := by
  rcases v with a | b | r | i
  · have h : (if 0 ≤ a.toInt ∧ a.toInt < (n : Int) then some a.toInt.toNat else none) = some j := h
    split at h
    · rename_i hc
      cases h
      refine ⟨?_, by omega⟩
      show (match some (a.toInt, a.toInt) with
        | some (.ofNat a, .ofNat b) => if Nat.beq a b then some a else none
        | _ => none) = some a.toInt.toNat
      obtain ⟨n0, hn0⟩ := Int.eq_ofNat_of_zero_le hc.1
      rw [hn0]
      simp
    · cases h
  all_goals cases h
def kc_obj (v : kc_V) (ci f : Nat) : Option Nat := match v with
  | .inr (.inr (.inl (some k))) => match kc_shp k with
    | some (1, c, nf) => if k < kc_N ∧ c = ci ∧ ¬ c = 1000 ∧ f < nf then some k else none
    | _ => none
  | _ => none
theorem kc_obj_e {v : kc_V} {ci f k : Nat} (h : kc_obj v ci f = some k) : ∃ nf, v = .inr (.inr (.inl (some k))) ∧ kc_shp k = some (1, ci, nf) ∧ k < kc_N ∧ ¬ ci = 1000 ∧ f < nf := by
  unfold kc_obj at h
  split at h
  · split at h
    · rename_i k0 c nf hs
      split at h
      · rename_i hc
        cases h
        obtain ⟨h1, rfl, h2, h3⟩ := hc
        exact ⟨nf, rfl, hs, h1, h2, h3⟩
      · cases h
    · cases h
  · cases h
def kc_ary (v : kc_V) : Option (Nat × Nat × Nat) := match v with
  | .inr (.inr (.inl (some k))) => match kc_shp k with
    | some (0, t, n) => if k < kc_N then some (k, t, n) else none
    | _ => none
  | _ => none
theorem kc_ary_e {v : kc_V} {k t n : Nat} (h : kc_ary v = some (k, t, n)) : v = .inr (.inr (.inl (some k))) ∧ kc_shp k = some (0, t, n) ∧ k < kc_N := by
  unfold kc_ary at h
  split at h
  · split at h
    · rename_i k0 t0 n0 hs
      split at h
      · rename_i hc
        cases h
        exact ⟨rfl, hs, hc⟩
      · cases h
    · cases h
  · cases h
theorem kc_C_o {h : kc_H} {k ci nf : Nat} (hs : kc_shp k = some (1, ci, nf)) : kc_C h k = .inr (ci, (List.range nf).map fun j => kc_e (h k j)) := by
  unfold kc_C
  rw [hs]
theorem kc_C_a {h : kc_H} {k t n : Nat} (hs : kc_shp k = some (0, t, n)) : kc_C h k = .inl (t, n, kc_rows (h k) n) := by
  unfold kc_C
  rw [hs]
theorem kc_wobj {h : kc_H} {k ci nf : Nat} (hs : kc_shp k = some (1, ci, nf)) (hk : k < kc_N) (hc : ¬ ci = 1000) : wk_obj (kc_A h) (.inr (.inr (.inl (some k)))) = some (k, ci, (List.range nf).map fun j => kc_e (h k j)) := by
  show (match wk_cell (kc_A h) k with
    | some (.inr (ci, fs)) => some (k, ci, fs)
    | _ => none) = _
  have e : wk_cell (kc_A h) k = some (.inr (ci, (List.range nf).map fun j => kc_e (h k j))) := by
    unfold wk_cell
    rw [show Nat.blt k (kc_A h).1 = true from Nat.ble_eq_true_of_le hk, kc_A_at h k hk, kc_C_o hs]
    simp only [cond_true]
    rw [show wk_kn (.inr (ci, (List.range nf).map fun j => kc_e (h k j))) = true by
      show (bif Nat.beq ci 1000 then false else true) = true
      cases hb : Nat.beq ci 1000 with
      | true => exact absurd (Nat.eq_of_beq_eq_true hb) hc
      | false => rfl]
    rfl
  rw [e]
theorem kc_wary {h : kc_H} {k t n : Nat} (hs : kc_shp k = some (0, t, n)) (hk : k < kc_N) : wk_ary (kc_A h) (.inr (.inr (.inl (some k)))) = some (k, t, n, kc_rows (h k) n) := by
  show (match wk_cell (kc_A h) k with
    | some (.inl (t, n, vs)) => some (k, t, n, vs)
    | _ => none) = _
  have e : wk_cell (kc_A h) k = some (.inl (t, n, kc_rows (h k) n)) := by
    unfold wk_cell
    rw [show Nat.blt k (kc_A h).1 = true from Nat.ble_eq_true_of_le hk, kc_A_at h k hk, kc_C_a hs]
    rfl
  rw [e]
def kc_upd (h : kc_H) (k j : Nat) (w : kc_V) : kc_H := fun k' j' => if k' = k ∧ j' = j then w else h k' j'
def kc_cpy (h : kc_H) (b a m : Nat) : kc_H := fun k' j' => if k' = b ∧ j' < m then h a j' else h k' j'
/-- what an instruction does with the heap: how far it goes, the stack, the heap -/
def kc_heap (Lz : Nat) (sc : Nat → Int32) (i : Instr) (x : Nat × Nat × Int) (AS : List kc_V) (h : kc_H) : Option (Nat × List kc_V × kc_H) := match i, AS with
  | .getfield _, v :: AS => (kc_obj v x.1 x.2.1).map fun k => (3, h k x.2.1 :: AS, h)
  | .putfield _, w :: v :: AS => (kc_obj v x.1 x.2.1).bind fun k => if wk_fit [] x.2.2.toNat (kc_e w) then some (3, AS, kc_upd h k x.2.1 w) else none
  | .iaload, v :: .inr (.inr (.inr 0)) :: AS => (kc_ix v Lz).map fun j => (1, .inl (sc j) :: AS, h)
  | .iaload, v :: a :: AS => (kc_ary a).bind fun q => if q.2.1 = 0 then (kc_ix v q.2.2).map fun j => (1, h q.1 j :: AS, h) else none
  | .baload, v :: a :: AS => (kc_ary a).bind fun q => if q.2.1 = 1 then (kc_ix v q.2.2).map fun j => (1, h q.1 j :: AS, h) else none
  | .aaload, v :: a :: AS => (kc_ary a).bind fun q => if 2 ≤ q.2.1 then (kc_ix v q.2.2).map fun j => (1, h q.1 j :: AS, h) else none
  | .iastore, .inl w :: v :: a :: AS => (kc_ary a).bind fun q => if q.2.1 = 0 then (kc_ix v q.2.2).map fun j => (1, AS, kc_upd h q.1 j (.inl w)) else none
  | .bastore, w :: v :: a :: AS => (kc_ary a).bind fun q => if q.2.1 = 1 ∧ wk_fit [] 1 (kc_e w) then (kc_ix v q.2.2).map fun j => (1, AS, kc_upd h q.1 j w) else none
  | .arraylength, .inr (.inr (.inr 0)) :: AS => some (1, .inl (Int32.ofNat Lz) :: AS, h)
  | .arraylength, a :: AS => (kc_ary a).map fun q => (1, .inl (Int32.ofNat q.2.2) :: AS, h)
  | .invokestatic _, .inl n :: .inl dp :: b :: .inl sp :: a :: AS => if x.1 = 5 then (kc_ary b).bind fun q => (kc_ary a).bind fun q2 => if q.2.1 = 0 ∧ q2.2.1 = 0 ∧ n.toInt = (q.2.2 : Int) ∧ q2.2.2 = q.2.2 ∧ dp.toInt = 0 ∧ sp.toInt = 0 ∧ wk_cat (AS.map kc_e) ≤ 8 then some (3, AS, kc_cpy h q.1 q2.1 q.2.2) else none else none
  | _, _ => none
/-- min, abs, max -/
def kc_math (i : Instr) (x : Nat × Nat × Int) (AS : List kc_V) : Option (List kc_V) := match i, AS with
  | .invokestatic _, .inl b :: AS => if wk_cat (AS.map kc_e) ≤ 9 then (if x.1 = 7 then (if wk_cat (AS.map kc_e) ≤ 8 then some (.inl (if 0 ≤ b then b else 0 - b) :: AS) else none) else if x.1 = 6 then (match AS with
    | .inl a :: AS => if wk_cat (AS.map kc_e) ≤ 8 then some (.inl (if b < a then b else a) :: AS) else none
    | _ => none) else if x.1 = 8 then (match AS with
    | .inl a :: AS => if wk_cat (AS.map kc_e) ≤ 8 then some (.inl (if a < b then b else a) :: AS) else none
    | _ => none) else none) else none
  | _, _ => none
section KCH
variable {D : va_G} {A : Nat → Prop} {U : State} {as : List Nat} {z : Nat → Nat} {ρ : Nat → Int32} {ws : va_W} {H : Heap}
/-- a cell's meaning is kept -/
theorem kc_hr_of {h h' : kc_H} {k : Nat} {c' : wk_C} (hk : k < kc_N) (hr : wk_hr D A U as z ρ (wk_wr1 (kc_A h) (some (k, c')) []) ws H) (ho : ∀ j, ¬ j = k → kc_C h' j = kc_C h j) (he : ∀ e, wk_e U as z ρ c' e → wk_e U as z ρ (kc_C h' k) e) : wk_hr D A U as z ρ (kc_A h') ws H := by
  have hr : wk_hr D A U as z ρ ((kc_A h).1, wk_set2 (kc_A h).2 k c') ws H := hr
  refine ⟨hr.1, hr.2.1, hr.2.2.1, hr.2.2.2.1, fun j c hj hc => ?_⟩
  have hj : j < kc_N := hj
  rw [kc_A_at h' j hj] at hc
  cases hc
  have hat : wk_at2 (wk_set2 (kc_A h).2 k c') j = if j = k then some c' else some (kc_C h j) := by
    rw [wk_at2_set _ _ _ _ (by rw [kc_A_at h k hk]; rfl), kc_A_at h j hj]
  by_cases e : j = k
  · subst e
    rw [if_pos rfl] at hat
    obtain ⟨a, e, g1, g2⟩ := hr.2.2.2.2 j c' hj hat
    exact ⟨a, e, g1, he e g2⟩
  · rw [if_neg e] at hat
    obtain ⟨a, e2, g1, g2⟩ := hr.2.2.2.2 j _ hj hat
    exact ⟨a, e2, g1, by rw [ho j e]; exact g2⟩
theorem kc_C_ne {h h' : kc_H} {j : Nat} (hh : ∀ i, h' j i = h j i) : kc_C h' j = kc_C h j := by
  unfold kc_C
  have e : h' j = h j := funext hh
  rw [e]
theorem kc_hr_a {h h' : kc_H} {k t n : Nat} {vs : List (List wk_V)} (hs : kc_shp k = some (0, t, n)) (hk : k < kc_N) (hr : wk_hr D A U as z ρ (wk_wr1 (kc_A h) (some (k, .inl (t, n, vs))) []) ws H) (ho : ∀ j i, ¬ j = k → h' j i = h j i) (hv : ∀ j, j < n → wk_at2 vs j = some (kc_e (h' k j))) : wk_hr D A U as z ρ (kc_A h') ws H := by
  refine kc_hr_of hk hr (fun j hj => kc_C_ne (fun i => ho j i hj)) (fun e he => ?_)
  rw [kc_C_a hs]
  obtain ⟨cA, d, e1, e2, e3, e4⟩ := he
  refine ⟨cA, d, e1, e2, e3, ?_⟩
  by_cases ht : t < 2
  · obtain ⟨f, f1, f2⟩ := (wk_arr_i ht).mp e4
    refine (wk_arr_i ht).mpr ⟨f, f1, fun j v hj hv2 => ?_⟩
    rw [kc_rows_r _ _ _ hv2]
    exact f2 j _ hj (hv j hj)
  · obtain ⟨f, f1, f2⟩ := (wk_arr_q ht).mp e4
    refine (wk_arr_q ht).mpr ⟨f, f1, fun j v hj hv2 => ?_⟩
    rw [kc_rows_r _ _ _ hv2]
    exact f2 j _ hj (hv j hj)
theorem kc_hr_o {h h' : kc_H} {k ci nf : Nat} {fs : List wk_V} (hs : kc_shp k = some (1, ci, nf)) (hk : k < kc_N) (hr : wk_hr D A U as z ρ (wk_wr1 (kc_A h) (some (k, .inr (ci, fs))) []) ws H) (ho : ∀ j i, ¬ j = k → h' j i = h j i) (hv : fs = (List.range nf).map fun j => kc_e (h' k j)) : wk_hr D A U as z ρ (kc_A h') ws H := by
  refine kc_hr_of hk hr (fun j hj => kc_C_ne (fun i => ho j i hj)) (fun e he => ?_)
  rw [kc_C_o hs, ← hv]
  exact he
end KCH
theorem kc_upd_o {h : kc_H} {k f : Nat} {w : kc_V} (j i : Nat) (hj : ¬ j = k) : kc_upd h k f w j i = h j i := by
  unfold kc_upd
  rw [if_neg (fun q => hj q.1)]
theorem kc_upd_i {h : kc_H} {k f : Nat} {w : kc_V} (i : Nat) : kc_upd h k f w k i = if i = f then w else h k i := by
  unfold kc_upd
  by_cases e : i = f
  · rw [if_pos ⟨rfl, e⟩, if_pos e]
  · rw [if_neg (fun q => e q.2), if_neg e]
