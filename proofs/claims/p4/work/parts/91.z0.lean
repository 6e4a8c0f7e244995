/-! ===== by hand: copies of the reference's rows ===== -/
/-- the model's rows -/
def kz (h : kc_H) : kc_H := fun c b => if c = 259 then (if b = 0 then .inr (.inr (.inl (some 260))) else if b = 1 then .inr (.inr (.inl (some 261))) else if b = 2 then .inr (.inr (.inl (some 262))) else if b = 3 then .inr (.inr (.inl (some 263))) else h 259 b) else h c b
theorem kz_o {h : kc_H} {c b : Nat} (hc : ¬ c = 259) : kz h c b = h c b := if_neg hc
theorem kz_id {h : kc_H} (h0 : h 259 0 = .inr (.inr (.inl (some 260)))) (h1 : h 259 1 = .inr (.inr (.inl (some 261)))) (h2 : h 259 2 = .inr (.inr (.inl (some 262)))) (h3 : h 259 3 = .inr (.inr (.inl (some 263)))) : kz h = h := by
  funext c b
  unfold kz
  split
  · rename_i e
    subst e
    split
    · rename_i e; subst e; exact h0.symm
    · split
      · rename_i e; subst e; exact h1.symm
      · split
        · rename_i e; subst e; exact h2.symm
        · split
          · rename_i e; subst e; exact h3.symm
          · rfl
  · rfl
/-- k places copied -/
def kz_cp (h : kc_H) (c1 o1 c2 o2 k : Nat) : kc_H := fun c b => if c = c1 ∧ (o1 ≤ b ∧ b < o1 + k) then h c2 (o2 + (b - o1)) else h c b
theorem kz_0 {h : kc_H} {c1 o1 c2 o2 : Nat} : kz_cp h c1 o1 c2 o2 0 = h := by
  funext c b
  unfold kz_cp
  rw [if_neg (by omega)]
theorem kz_s {h : kc_H} {c1 o1 c2 o2 k : Nat} {w : kc_V} (hw : h c2 (o2 + k) = w) : kc_upd (kz_cp h c1 o1 c2 o2 k) c1 (o1 + k) w = kz_cp h c1 o1 c2 o2 (k + 1) := by
  funext c b
  unfold kc_upd kz_cp
  by_cases hc : c = c1
  · subst hc
    by_cases hb : b = o1 + k
    · subst hb
      rw [if_pos ⟨rfl, rfl⟩, if_pos ⟨rfl, by omega, by omega⟩, show o1 + k - o1 = k from by omega, hw]
    · rw [if_neg (fun q => hb q.2)]
      by_cases hr : o1 ≤ b ∧ b < o1 + k
      · rw [if_pos ⟨rfl, hr⟩, if_pos ⟨rfl, by omega, by omega⟩]
      · rw [if_neg (fun q => hr q.2), if_neg (fun q => hr ⟨q.2.1, by omega⟩)]
  · rw [if_neg (fun q => hc q.1), if_neg (fun q => hc q.1), if_neg (fun q => hc q.1)]
theorem kz_n {h : kc_H} {c1 o1 c2 o2 k c b : Nat} (hc : ¬ c = c1) : kz_cp h c1 o1 c2 o2 k c b = h c b := if_neg (fun q => hc q.1)
section KZR
variable {g : kc_G} {d : Nat} {M : wk_M} {Q : Option kc_V → kc_H → Prop} {pc : Nat} {AL : kc_L} {AS : List kc_V} {h : kc_H} {n : Nat} {x : Nat × Nat × Int} {wd : List Nat} {t : Nat} {a : Int}
theorem kx_bast {c j m : Nat} {w : Bool} (hf : wk_fetch M pc = some (pc, .bastore, n, x, wd, t, a)) (hs : kc_shp c = some (0, 1, m)) (hc : c < kc_N) (hm : m < 2147483648) (hj : j < m) (k : kc_Ev g d M Q (pc + 1) AL AS (kc_upd h c j (.inl (kp_b w)))) : kc_Ev g d M Q pc AL (.inl (kp_b w) :: .inl (Int32.ofNat j) :: .inr (.inr (.inl (some c))) :: AS) h := by
  refine kc_heap_ok hf (dd := 1) (AS' := AS) (h' := kc_upd h c j (.inl (kp_b w))) ?_ k
  show ((kc_ary (.inr (.inr (.inl (some c))))).bind fun q => if q.2.1 = 1 ∧ wk_fit [] 1 (kc_e (.inl (kp_b w))) then (kc_ix (.inl (Int32.ofNat j)) q.2.2).map fun j => (1, AS, kc_upd h q.1 j (.inl (kp_b w))) else none) = _
  rw [kx_ary hs hc]
  simp only [Option.bind_some]
  rw [if_pos ⟨trivial, by cases w <;> decide⟩, kx_ix hm hj]
  rfl
theorem kx_bald {c j m : Nat} {v : kc_V} (hf : wk_fetch M pc = some (pc, .baload, n, x, wd, t, a)) (hs : kc_shp c = some (0, 1, m)) (hc : c < kc_N) (hm : m < 2147483648) (hj : j < m) (hv : h c j = v) (k : kc_Ev g d M Q (pc + 1) AL (v :: AS) h) : kc_Ev g d M Q pc AL (.inl (Int32.ofNat j) :: .inr (.inr (.inl (some c))) :: AS) h := by
  refine kc_heap_ok hf (dd := 1) (AS' := v :: AS) (h' := h) ?_ k
  show ((kc_ary (.inr (.inr (.inl (some c))))).bind fun q => if q.2.1 = 1 then (kc_ix (.inl (Int32.ofNat j)) q.2.2).map fun j => (1, h q.1 j :: AS, h) else none) = _
  rw [kx_ary hs hc]
  simp only [Option.bind_some, if_true]
  rw [kx_ix hm hj]
  simp only [Option.map_some]
  rw [hv]
end KZR
set_option maxRecDepth 20000 in
theorem kz_img {g : kc_G} {d : Nat} {Q : Option kc_V → kc_H → Prop} {h : kc_H} {i : Nat} (hi : i < 2) (hs : ∀ k, k < 650 → ∃ z : Int32, h 260 (k) = .inl z) : ∀ (m k : Nat), 650 - k = m → k ≤ 650 → kc_Ev g d wk_m158 Q 46 [(2, .inl (Int32.ofNat 650)), (0, .inr (.inr (.inl (some 259)))), (1, .inl (Int32.ofNat i))] [] (kz_cp (kz h) 261 (650 * i) 260 0 650) → kc_Ev g d wk_m158 Q 15 [(2, .inl (Int32.ofNat k)), (0, .inr (.inr (.inl (some 259)))), (1, .inl (Int32.ofNat i))] [] (kz_cp (kz h) 261 (650 * i) 260 0 k) := by
  intro m
  induction m with
  | zero =>
    intro k hm hk K
    refine kx_go 3 (pc' := (if kc_cnd .ge (Int32.ofNat k).toInt (Int32.ofNat 650).toInt then 46 else 22)) (L' := [(2, .inl (Int32.ofNat k)), (0, .inr (.inr (.inl (some 259)))), (1, .inl (Int32.ofNat i))]) (S' := []) (h' := (kz_cp (kz h) 261 (650 * i) 260 0 k)) (by with_unfolding_all rfl) ?_
    rw [if_pos ((kx_ge (by omega) (by omega)).mpr (by omega))]
    obtain rfl : k = 650 := by omega
    exact K
  | succ m ih =>
    intro k hm hk K
    refine kx_go 3 (pc' := (if kc_cnd .ge (Int32.ofNat k).toInt (Int32.ofNat 650).toInt then 46 else 22)) (L' := [(2, .inl (Int32.ofNat k)), (0, .inr (.inr (.inl (some 259)))), (1, .inl (Int32.ofNat i))]) (S' := []) (h' := (kz_cp (kz h) 261 (650 * i) 260 0 k)) (by with_unfolding_all rfl) ?_
    rw [if_neg (fun q => by have := (kx_ge (by omega) (by omega)).mp q; omega)]
    obtain ⟨z, hz⟩ := hs k (by omega)
    refine kx_go 10 (pc' := 38) (L' := [(2, .inl (Int32.ofNat k)), (0, .inr (.inr (.inl (some 259)))), (1, .inl (Int32.ofNat i))]) (S' := [.inl (Int32.ofNat k), .inr (.inr (.inl (some 260))), .inl (((Int32.ofNat 650) * (Int32.ofNat i)) + (Int32.ofNat k)), .inr (.inr (.inl (some 261)))]) (h' := (kz_cp (kz h) 261 (650 * i) 260 0 k)) (by with_unfolding_all rfl) ?_
    rw [kx_mul, kx_add]
    refine kx_iald rfl (c := 260) (j := k) (m := 650) (v := .inl z) rfl (by decide) (by decide) (by omega) ((kz_n (by decide)).trans ((kz_o (by decide)).trans hz)) ?_
    refine kx_iast rfl (c := 261) (j := 650 * i + k) (m := 1300) rfl (by decide) (by decide) (by omega) ?_
    rw [kz_s (w := .inl z) ((kz_o (by decide)).trans (by rw [Nat.zero_add]; exact hz))]
    refine kx_go 2 (pc' := 15) (L' := [(2, .inl ((Int32.ofNat k) + Int32.ofInt 1)), (0, .inr (.inr (.inl (some 259)))), (1, .inl (Int32.ofNat i))]) (S' := []) (h' := (kz_cp (kz h) 261 (650 * i) 260 0 (k + 1))) (by with_unfolding_all rfl) ?_
    rw [kx_inc]
    exact ih (k + 1) (by omega) (by omega) K
set_option maxRecDepth 20000 in
theorem kz_frm {g : kc_G} {d : Nat} {Q : Option kc_V → kc_H → Prop} {h : kc_H} {i : Nat} (hi : i < 2) (hs : ∀ k, k < 650 → ∃ z : Int32, h 261 (650 * i + k) = .inl z) : ∀ (m k : Nat), 650 - k = m → k ≤ 650 → kc_Ev g d wk_m160 Q 58 [(2, .inl (Int32.ofNat 650)), (0, .inr (.inr (.inl (some 259)))), (1, .inl (Int32.ofNat i))] [] (kz_cp (kz h) 260 0 261 (650 * i) 650) → kc_Ev g d wk_m160 Q 27 [(2, .inl (Int32.ofNat k)), (0, .inr (.inr (.inl (some 259)))), (1, .inl (Int32.ofNat i))] [] (kz_cp (kz h) 260 0 261 (650 * i) k) := by
  intro m
  induction m with
  | zero =>
    intro k hm hk K
    refine kx_go 3 (pc' := (if kc_cnd .ge (Int32.ofNat k).toInt (Int32.ofNat 650).toInt then 58 else 34)) (L' := [(2, .inl (Int32.ofNat k)), (0, .inr (.inr (.inl (some 259)))), (1, .inl (Int32.ofNat i))]) (S' := []) (h' := (kz_cp (kz h) 260 0 261 (650 * i) k)) (by with_unfolding_all rfl) ?_
    rw [if_pos ((kx_ge (by omega) (by omega)).mpr (by omega))]
    obtain rfl : k = 650 := by omega
    exact K
  | succ m ih =>
    intro k hm hk K
    refine kx_go 3 (pc' := (if kc_cnd .ge (Int32.ofNat k).toInt (Int32.ofNat 650).toInt then 58 else 34)) (L' := [(2, .inl (Int32.ofNat k)), (0, .inr (.inr (.inl (some 259)))), (1, .inl (Int32.ofNat i))]) (S' := []) (h' := (kz_cp (kz h) 260 0 261 (650 * i) k)) (by with_unfolding_all rfl) ?_
    rw [if_neg (fun q => by have := (kx_ge (by omega) (by omega)).mp q; omega)]
    obtain ⟨z, hz⟩ := hs k (by omega)
    refine kx_go 10 (pc' := 50) (L' := [(2, .inl (Int32.ofNat k)), (0, .inr (.inr (.inl (some 259)))), (1, .inl (Int32.ofNat i))]) (S' := [.inl (((Int32.ofNat 650) * (Int32.ofNat i)) + (Int32.ofNat k)), .inr (.inr (.inl (some 261))), .inl (Int32.ofNat k), .inr (.inr (.inl (some 260)))]) (h' := (kz_cp (kz h) 260 0 261 (650 * i) k)) (by with_unfolding_all rfl) ?_
    rw [kx_mul, kx_add]
    refine kx_iald rfl (c := 261) (j := 650 * i + k) (m := 1300) (v := .inl z) rfl (by decide) (by decide) (by omega) ((kz_n (by decide)).trans ((kz_o (by decide)).trans hz)) ?_
    refine kx_iast rfl (c := 260) (j := k) (m := 650) rfl (by decide) (by decide) (by omega) ?_
    have e0 : k = 0 + k := by omega
    rw [show kc_upd (kz_cp (kz h) 260 0 261 (650 * i) k) 260 k (.inl z) = kc_upd (kz_cp (kz h) 260 0 261 (650 * i) k) 260 (0 + k) (.inl z) from by rw [Nat.zero_add]]
    rw [kz_s (w := .inl z) ((kz_o (by decide)).trans hz)]
    refine kx_go 2 (pc' := 27) (L' := [(2, .inl ((Int32.ofNat k) + Int32.ofInt 1)), (0, .inr (.inr (.inl (some 259)))), (1, .inl (Int32.ofNat i))]) (S' := []) (h' := (kz_cp (kz h) 260 0 261 (650 * i) (k + 1))) (by with_unfolding_all rfl) ?_
    rw [kx_inc]
    exact ih (k + 1) (by omega) (by omega) K
set_option maxRecDepth 20000 in
theorem kz_dy1 {g : kc_G} {d : Nat} {Q : Option kc_V → kc_H → Prop} {h : kc_H}  (hs : ∀ k, k < 650 → ∃ z : Int32, h 260 (k) = .inl z) : ∀ (m k : Nat), 650 - k = m → k ≤ 650 → kc_Ev g d wk_m71 Q 43 [(1, .inl (Int32.ofNat 650)), (0, .inr (.inr (.inl (some 259))))] [] (kz_cp (kz h) 263 0 260 0 650) → kc_Ev g d wk_m71 Q 18 [(1, .inl (Int32.ofNat k)), (0, .inr (.inr (.inl (some 259))))] [] (kz_cp (kz h) 263 0 260 0 k) := by
  intro m
  induction m with
  | zero =>
    intro k hm hk K
    refine kx_go 3 (pc' := (if kc_cnd .ge (Int32.ofNat k).toInt (Int32.ofNat 650).toInt then 43 else 25)) (L' := [(1, .inl (Int32.ofNat k)), (0, .inr (.inr (.inl (some 259))))]) (S' := []) (h' := (kz_cp (kz h) 263 0 260 0 k)) (by with_unfolding_all rfl) ?_
    rw [if_pos ((kx_ge (by omega) (by omega)).mpr (by omega))]
    obtain rfl : k = 650 := by omega
    exact K
  | succ m ih =>
    intro k hm hk K
    refine kx_go 3 (pc' := (if kc_cnd .ge (Int32.ofNat k).toInt (Int32.ofNat 650).toInt then 43 else 25)) (L' := [(1, .inl (Int32.ofNat k)), (0, .inr (.inr (.inl (some 259))))]) (S' := []) (h' := (kz_cp (kz h) 263 0 260 0 k)) (by with_unfolding_all rfl) ?_
    rw [if_neg (fun q => by have := (kx_ge (by omega) (by omega)).mp q; omega)]
    obtain ⟨z, hz⟩ := hs k (by omega)
    refine kx_go 6 (pc' := 35) (L' := [(1, .inl (Int32.ofNat k)), (0, .inr (.inr (.inl (some 259))))]) (S' := [.inl (Int32.ofNat k), .inr (.inr (.inl (some 260))), .inl (Int32.ofNat k), .inr (.inr (.inl (some 263)))]) (h' := (kz_cp (kz h) 263 0 260 0 k)) (by with_unfolding_all rfl) ?_
    refine kx_iald rfl (c := 260) (j := k) (m := 650) (v := .inl z) rfl (by decide) (by decide) (by omega) ((kz_n (by decide)).trans ((kz_o (by decide)).trans hz)) ?_
    refine kx_iast rfl (c := 263) (j := k) (m := 650) rfl (by decide) (by decide) (by omega) ?_
    rw [show kc_upd (kz_cp (kz h) 263 0 260 0 k) 263 k (.inl z) = kc_upd (kz_cp (kz h) 263 0 260 0 k) 263 (0 + k) (.inl z) from by rw [Nat.zero_add]]
    rw [kz_s (w := .inl z) ((kz_o (by decide)).trans (by rw [Nat.zero_add]; exact hz))]
    refine kx_go 2 (pc' := 18) (L' := [(1, .inl ((Int32.ofNat k) + Int32.ofInt 1)), (0, .inr (.inr (.inl (some 259))))]) (S' := []) (h' := (kz_cp (kz h) 263 0 260 0 (k + 1))) (by with_unfolding_all rfl) ?_
    rw [kx_inc]
    exact ih (k + 1) (by omega) (by omega) K
set_option maxRecDepth 20000 in
theorem kz_dy2 {g : kc_G} {d : Nat} {Q : Option kc_V → kc_H → Prop} {h : kc_H} {i : Nat} (hs : ∀ k, k < 650 → ∃ z : Int32, h 263 (k) = .inl z) : ∀ (m k : Nat), 650 - k = m → k ≤ 650 → kc_Ev g d wk_m71 Q 92 [(2, .inl (Int32.ofNat 650)), (1, .inl (Int32.ofNat i)), (0, .inr (.inr (.inl (some 259))))] [] (kz_cp (kz h) 260 0 263 0 650) → kc_Ev g d wk_m71 Q 67 [(2, .inl (Int32.ofNat k)), (1, .inl (Int32.ofNat i)), (0, .inr (.inr (.inl (some 259))))] [] (kz_cp (kz h) 260 0 263 0 k) := by
  intro m
  induction m with
  | zero =>
    intro k hm hk K
    refine kx_go 3 (pc' := (if kc_cnd .ge (Int32.ofNat k).toInt (Int32.ofNat 650).toInt then 92 else 74)) (L' := [(2, .inl (Int32.ofNat k)), (1, .inl (Int32.ofNat i)), (0, .inr (.inr (.inl (some 259))))]) (S' := []) (h' := (kz_cp (kz h) 260 0 263 0 k)) (by with_unfolding_all rfl) ?_
    rw [if_pos ((kx_ge (by omega) (by omega)).mpr (by omega))]
    obtain rfl : k = 650 := by omega
    exact K
  | succ m ih =>
    intro k hm hk K
    refine kx_go 3 (pc' := (if kc_cnd .ge (Int32.ofNat k).toInt (Int32.ofNat 650).toInt then 92 else 74)) (L' := [(2, .inl (Int32.ofNat k)), (1, .inl (Int32.ofNat i)), (0, .inr (.inr (.inl (some 259))))]) (S' := []) (h' := (kz_cp (kz h) 260 0 263 0 k)) (by with_unfolding_all rfl) ?_
    rw [if_neg (fun q => by have := (kx_ge (by omega) (by omega)).mp q; omega)]
    obtain ⟨z, hz⟩ := hs k (by omega)
    refine kx_go 6 (pc' := 84) (L' := [(2, .inl (Int32.ofNat k)), (1, .inl (Int32.ofNat i)), (0, .inr (.inr (.inl (some 259))))]) (S' := [.inl (Int32.ofNat k), .inr (.inr (.inl (some 263))), .inl (Int32.ofNat k), .inr (.inr (.inl (some 260)))]) (h' := (kz_cp (kz h) 260 0 263 0 k)) (by with_unfolding_all rfl) ?_
    refine kx_iald rfl (c := 263) (j := k) (m := 650) (v := .inl z) rfl (by decide) (by decide) (by omega) ((kz_n (by decide)).trans ((kz_o (by decide)).trans hz)) ?_
    refine kx_iast rfl (c := 260) (j := k) (m := 650) rfl (by decide) (by decide) (by omega) ?_
    rw [show kc_upd (kz_cp (kz h) 260 0 263 0 k) 260 k (.inl z) = kc_upd (kz_cp (kz h) 260 0 263 0 k) 260 (0 + k) (.inl z) from by rw [Nat.zero_add]]
    rw [kz_s (w := .inl z) ((kz_o (by decide)).trans (by rw [Nat.zero_add]; exact hz))]
    refine kx_go 2 (pc' := 67) (L' := [(2, .inl ((Int32.ofNat k) + Int32.ofInt 1)), (1, .inl (Int32.ofNat i)), (0, .inr (.inr (.inl (some 259))))]) (S' := []) (h' := (kz_cp (kz h) 260 0 263 0 (k + 1))) (by with_unfolding_all rfl) ?_
    rw [kx_inc]
    exact ih (k + 1) (by omega) (by omega) K
