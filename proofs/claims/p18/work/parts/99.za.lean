/-! ===== take of the class, exactly ===== -/
/-- how many numbers lie in a cell of a Told -/
def kt_ln (k : Nat) : Nat := [4, 0, 6, 6, 6, 6, 6, 6, 6, 6, 0, 5, 5, 5, 0, 7, 7, 7, 7, 7, 7, 7, 7, 7, 7, 2, 5, 0, 240, 240, 2].getD k 0
/-- the first cells of a Told copied -/
def kt_K (h : kc_H) (a b K : Nat) : kc_H := fun c i => if b ≤ c ∧ c < b + K ∧ i < kt_ln (c - b) then h (a + (c - b)) i else h c i
theorem kt_s {h : kc_H} {a b K k : Nat} (hK : K ≤ k) (hz : ∀ j, j < k → K ≤ j → kt_ln j = 0) (hd : a + k < b ∨ b + K ≤ a + k) : kz_cp (kt_K h a b K) (b + k) 0 (a + k) 0 (kt_ln k) = kt_K h a b (k + 1) := by
  funext c i
  unfold kz_cp kt_K
  by_cases e : c = b + k ∧ (0 ≤ i ∧ i < 0 + kt_ln k)
  · obtain ⟨rfl, e1, e2⟩ := e
    rw [if_pos ⟨rfl, e1, e2⟩, if_neg (by omega), show b + k - b = k from by omega, if_pos ⟨by omega, by omega, by omega⟩, show 0 + (i - 0) = i from by omega]
  · rw [if_neg e]
    by_cases e2 : b ≤ c ∧ c < b + K ∧ i < kt_ln (c - b)
    · rw [if_pos e2, if_pos ⟨e2.1, by omega, e2.2.2⟩]
    · rw [if_neg e2]
      rw [if_neg]
      rintro ⟨q1, q2, q3⟩
      by_cases e3 : c = b + k
      · rw [e3, show b + k - b = k from by omega] at q3
        exact e ⟨e3, by omega, by omega⟩
      · by_cases e4 : c - b < K
        · exact e2 ⟨q1, by omega, q3⟩
        · rw [hz (c - b) (by omega) (by omega)] at q3
          omega
theorem kt_0 {h : kc_H} {a b : Nat} {w0 w1 w2 w3 : Int32} (e0 : h a 0 = .inl w0) (e1 : h a 1 = .inl w1) (e2 : h a 2 = .inl w2) (e3 : h a 3 = .inl w3) : kc_upd (kc_upd (kc_upd (kc_upd h b 0 (.inl w0)) b 1 (.inl w1)) b 2 (.inl w2)) b 3 (.inl w3) = kt_K h a b 1 := by
  funext c i
  unfold kc_upd kt_K
  by_cases hc : c = b
  · subst hc
    rw [show c - c = 0 from by omega]
    rcases (show i = 0 ∨ i = 1 ∨ i = 2 ∨ i = 3 ∨ 4 ≤ i by omega) with rfl | rfl | rfl | rfl | hi
    · rw [if_neg (by omega), if_neg (by omega), if_neg (by omega), if_pos ⟨rfl, rfl⟩, if_pos ⟨by omega, by omega, by decide⟩]; exact e0.symm
    · rw [if_neg (by omega), if_neg (by omega), if_pos ⟨rfl, rfl⟩, if_pos ⟨by omega, by omega, by decide⟩]; exact e1.symm
    · rw [if_neg (by omega), if_pos ⟨rfl, rfl⟩, if_pos ⟨by omega, by omega, by decide⟩]; exact e2.symm
    · rw [if_pos ⟨rfl, rfl⟩, if_pos ⟨by omega, by omega, by decide⟩]; exact e3.symm
    · rw [if_neg (by omega), if_neg (by omega), if_neg (by omega), if_neg (by omega), if_neg (by rintro ⟨-, -, q⟩; have h4 : kt_ln 0 = 4 := (by decide); omega)]
  · rw [if_neg (by omega), if_neg (by omega), if_neg (by omega), if_neg (by omega), if_neg (by omega)]
theorem kt_skip {h : kc_H} {a b K k : Nat} (hK : K ≤ k) (hz : ∀ j, j < k → K ≤ j → kt_ln j = 0) : kt_K h a b K = kt_K h a b k := by
  funext c i
  unfold kt_K
  by_cases e : b ≤ c ∧ c < b + K ∧ i < kt_ln (c - b)
  · rw [if_pos e, if_pos ⟨e.1, by omega, e.2.2⟩]
  · rw [if_neg e, if_neg]
    rintro ⟨q1, q2, q3⟩
    by_cases e4 : c - b < K
    · exact e ⟨q1, by omega, q3⟩
    · rw [hz (c - b) (by omega) (by omega)] at q3
      omega
set_option maxRecDepth 20000 in
theorem kt_row {g : kc_G} {d c1 c2 m : Nat} {h : kc_H} (hg : kc_ok g) (hs1 : kc_shp c1 = some (0, 0, m)) (hc1 : c1 < kc_N) (hs2 : kc_shp c2 = some (0, 0, m)) (hc2 : c2 < kc_N) (hm : m < 2147483648) : kc_Con g (d + 1) 70 [.inr (.inr (.inl (some c1))), .inr (.inr (.inl (some c2)))] h (fun rv h' => rv = none ∧ h' = kz_cp h c2 0 c1 0 m) := by
  refine kc_Con_new hg (M := wk_m70) rfl rfl rfl (show 2 ≤ 2 by decide) ?_
  refine kx_go 5 (pc' := 5) (L' := [(0, .inr (.inr (.inl (some (c1))))), (1, .inr (.inr (.inl (some (c2)))))]) (S' := [.inr (.inr (.inl (some (c1)))), .inl (Int32.ofNat 0), .inr (.inr (.inl (some (c2)))), .inl (Int32.ofNat 0), .inr (.inr (.inl (some (c1))))]) (h' := h) (by with_unfolding_all rfl) ?_
  refine kx_alen rfl hs1 hc1 ?_
  refine kx_go 1 (pc' := 7) (L' := [(0, .inr (.inr (.inl (some (c1))))), (1, .inr (.inr (.inl (some (c2)))))]) (S' := [.inr (.inr (.inl (some (c2)))), .inl (Int32.ofNat m), .inl (Int32.ofNat 0), .inr (.inr (.inl (some (c2)))), .inl (Int32.ofNat 0), .inr (.inr (.inl (some (c1))))]) (h' := h) (by with_unfolding_all rfl) ?_
  refine kx_alen rfl hs2 hc2 ?_
  refine kx_go 1 (pc' := 11) (L' := [(0, .inr (.inr (.inl (some (c1))))), (1, .inr (.inr (.inl (some (c2)))))]) (S' := [.inl (if Int32.ofNat m < Int32.ofNat m then Int32.ofNat m else Int32.ofNat m), .inl (Int32.ofNat 0), .inr (.inr (.inl (some (c2)))), .inl (Int32.ofNat 0), .inr (.inr (.inl (some (c1))))]) (h' := h) (by with_unfolding_all rfl) ?_
  rw [ite_self]
  refine kc_heap_ok rfl (dd := 3) (AS' := []) (h' := kc_cpy h c2 c1 m) ?_ ?_
  · show (if (5 : Nat) = 5 then (kc_ary (.inr (.inr (.inl (some c2))))).bind fun q => (kc_ary (.inr (.inr (.inl (some c1))))).bind fun q2 => if q.2.1 = 0 ∧ q2.2.1 = 0 ∧ (Int32.ofNat m).toInt = (q.2.2 : Int) ∧ q2.2.2 = q.2.2 ∧ (Int32.ofNat 0).toInt = 0 ∧ (Int32.ofNat 0).toInt = 0 ∧ wk_cat (([] : List kc_V).map kc_e) ≤ 8 then some (3, ([] : List kc_V), kc_cpy h q.1 q2.1 q.2.2) else none else none) = _
    rw [if_pos rfl, kx_ary hs2 hc2, kx_ary hs1 hc1]
    show (if (0 : Nat) = 0 ∧ (0 : Nat) = 0 ∧ (Int32.ofNat m).toInt = (m : Int) ∧ m = m ∧ (Int32.ofNat 0).toInt = 0 ∧ (Int32.ofNat 0).toInt = 0 ∧ wk_cat (([] : List kc_V).map kc_e) ≤ 8 then some (3, ([] : List kc_V), kc_cpy h c2 c1 m) else none) = _
    rw [if_pos ⟨rfl, rfl, kx_ti hm, rfl, by decide, by decide, by decide⟩]
  rw [show kc_cpy h c2 c1 m = kz_cp h c2 0 c1 0 m from ?_]
  · exact kc_ret_ok rfl (rv := none) rfl ⟨rfl, rfl⟩
  · funext c i
    unfold kc_cpy kz_cp
    by_cases e : c = c2 ∧ i < m
    · rw [if_pos e, if_pos ⟨e.1, by omega, by omega⟩, show 0 + (i - 0) = i from by omega]
    · rw [if_neg e, if_neg (fun q => e ⟨q.1, by omega⟩)]
set_option maxRecDepth 20000 in
theorem kt_rowl {g : kc_G} {d A B n m ta tb : Nat} {K : Nat → kc_H} {ra rb : Nat → Nat} (hg : kc_ok g) (hA : kc_shp A = some (0, ta, n)) (hA2 : 2 ≤ ta) (hA3 : A < kc_N) (hB : kc_shp B = some (0, tb, n)) (hB2 : 2 ≤ tb) (hB3 : B < kc_N) (hn : n < 2147483648) (hm : m < 2147483648) (eA : ∀ i, i < n → K i A i = .inr (.inr (.inl (some (ra i))))) (eB : ∀ i, i < n → K i B i = .inr (.inr (.inl (some (rb i))))) (hs : ∀ i, i < n → kc_shp (ra i) = some (0, 0, m) ∧ ra i < kc_N ∧ kc_shp (rb i) = some (0, 0, m) ∧ rb i < kc_N) (hK : ∀ i, i < n → kz_cp (K i) (rb i) 0 (ra i) 0 m = K (i + 1)) : ∀ (u i : Nat), n - i = u → i ≤ n → kc_Ev g (d + 1) wk_m69 (fun rv h' => rv = none ∧ h' = K n) 2 [(2, .inl (Int32.ofNat i)), (0, .inr (.inr (.inl (some (A))))), (1, .inr (.inr (.inl (some (B)))))] [] (K i) := by
  intro u
  induction u with
  | zero =>
    intro i hu hi
    refine kx_go 2 (pc' := 4) (L' := [(2, .inl (Int32.ofNat i)), (0, .inr (.inr (.inl (some (A))))), (1, .inr (.inr (.inl (some (B)))))]) (S' := [.inr (.inr (.inl (some (A)))), .inl (Int32.ofNat i)]) (h' := (K i)) (by with_unfolding_all rfl) ?_
    refine kx_alen rfl hA hA3 ?_
    refine kx_go 1 (pc' := (if kc_cnd .ge (Int32.ofNat i).toInt (Int32.ofNat n).toInt then 29 else 8)) (L' := [(2, .inl (Int32.ofNat i)), (0, .inr (.inr (.inl (some (A))))), (1, .inr (.inr (.inl (some (B)))))]) (S' := []) (h' := (K i)) (by with_unfolding_all rfl) ?_
    rw [if_pos ((kx_ge (by omega) (by omega)).mpr (by omega))]
    obtain rfl : i = n := by omega
    exact kc_ret_ok rfl (rv := none) rfl ⟨rfl, rfl⟩
  | succ u ih =>
    intro i hu hi
    refine kx_go 2 (pc' := 4) (L' := [(2, .inl (Int32.ofNat i)), (0, .inr (.inr (.inl (some (A))))), (1, .inr (.inr (.inl (some (B)))))]) (S' := [.inr (.inr (.inl (some (A)))), .inl (Int32.ofNat i)]) (h' := (K i)) (by with_unfolding_all rfl) ?_
    refine kx_alen rfl hA hA3 ?_
    refine kx_go 1 (pc' := (if kc_cnd .ge (Int32.ofNat i).toInt (Int32.ofNat n).toInt then 29 else 8)) (L' := [(2, .inl (Int32.ofNat i)), (0, .inr (.inr (.inl (some (A))))), (1, .inr (.inr (.inl (some (B)))))]) (S' := []) (h' := (K i)) (by with_unfolding_all rfl) ?_
    rw [if_neg (fun q => by have := (kx_ge (by omega) (by omega)).mp q; omega)]
    refine kx_go 2 (pc' := 10) (L' := [(2, .inl (Int32.ofNat i)), (0, .inr (.inr (.inl (some (A))))), (1, .inr (.inr (.inl (some (B)))))]) (S' := [.inr (.inr (.inl (some (B)))), .inl (Int32.ofNat i)]) (h' := (K i)) (by with_unfolding_all rfl) ?_
    refine kx_alen rfl hB hB3 ?_
    refine kx_go 1 (pc' := (if kc_cnd .ge (Int32.ofNat i).toInt (Int32.ofNat n).toInt then 29 else 14)) (L' := [(2, .inl (Int32.ofNat i)), (0, .inr (.inr (.inl (some (A))))), (1, .inr (.inr (.inl (some (B)))))]) (S' := []) (h' := (K i)) (by with_unfolding_all rfl) ?_
    rw [if_neg (fun q => by have := (kx_ge (by omega) (by omega)).mp q; omega)]
    refine kx_go 2 (pc' := 16) (L' := [(2, .inl (Int32.ofNat i)), (0, .inr (.inr (.inl (some (A))))), (1, .inr (.inr (.inl (some (B)))))]) (S' := [.inl (Int32.ofNat i), .inr (.inr (.inl (some (A))))]) (h' := (K i)) (by with_unfolding_all rfl) ?_
    refine kx_aald (v := .inr (.inr (.inl (some (ra i))))) rfl hA hA2 hA3 hn (show i < n by omega) (eA i (by omega)) ?_
    refine kx_go 2 (pc' := 19) (L' := [(2, .inl (Int32.ofNat i)), (0, .inr (.inr (.inl (some (A))))), (1, .inr (.inr (.inl (some (B)))))]) (S' := [.inl (Int32.ofNat i), .inr (.inr (.inl (some (B)))), .inr (.inr (.inl (some (ra i))))]) (h' := (K i)) (by with_unfolding_all rfl) ?_
    refine kx_aald (v := .inr (.inr (.inl (some (rb i))))) rfl hB hB2 hB3 hn (show i < n by omega) (eB i (by omega)) ?_
    obtain ⟨r1, r2, r3, r4⟩ := hs i (by omega)
    refine kc_call_rule (M2 := wk_m70) (av := [.inr (.inr (.inl (some (ra i)))), .inr (.inr (.inl (some (rb i))))]) (r := []) rfl rfl (kc_Con_le (kt_row (d := 0) hg r1 r2 r3 r4 hm) (by omega)) (fun rv h' hq => ?_)
    obtain ⟨rfl, rfl⟩ := hq
    rw [hK i (by omega)]
    show kc_Ev g (d + 1) wk_m69 _ 23 [(2, .inl (Int32.ofNat i)), (0, .inr (.inr (.inl (some (A))))), (1, .inr (.inr (.inl (some (B)))))] [] (K (i + 1))
    refine kx_go 2 (pc' := 2) (L' := [(2, .inl ((Int32.ofNat i) + Int32.ofInt 1)), (0, .inr (.inr (.inl (some (A))))), (1, .inr (.inr (.inl (some (B)))))]) (S' := []) (h' := (K (i + 1))) (by with_unfolding_all rfl) ?_
    rw [kx_inc]
    exact ih (i + 1) (by omega) (by omega)
set_option maxRecDepth 20000 in
theorem kt_rows {g : kc_G} {d A B n m ta tb : Nat} {K : Nat → kc_H} {ra rb : Nat → Nat} (hg : kc_ok g) (hA : kc_shp A = some (0, ta, n)) (hA2 : 2 ≤ ta) (hA3 : A < kc_N) (hB : kc_shp B = some (0, tb, n)) (hB2 : 2 ≤ tb) (hB3 : B < kc_N) (hn : n < 2147483648) (hm : m < 2147483648) (eA : ∀ i, i < n → K i A i = .inr (.inr (.inl (some (ra i))))) (eB : ∀ i, i < n → K i B i = .inr (.inr (.inl (some (rb i))))) (hs : ∀ i, i < n → kc_shp (ra i) = some (0, 0, m) ∧ ra i < kc_N ∧ kc_shp (rb i) = some (0, 0, m) ∧ rb i < kc_N) (hK : ∀ i, i < n → kz_cp (K i) (rb i) 0 (ra i) 0 m = K (i + 1)) : kc_Con g (d + 2) 69 [.inr (.inr (.inl (some A))), .inr (.inr (.inl (some B)))] (K 0) (fun rv h' => rv = none ∧ h' = K n) := by
  refine kc_Con_new hg (M := wk_m69) rfl rfl rfl (show 2 ≤ 3 by decide) ?_
  refine kx_go 2 (pc' := 2) (L' := [(2, .inl (Int32.ofNat 0)), (0, .inr (.inr (.inl (some (A))))), (1, .inr (.inr (.inl (some (B)))))]) (S' := []) (h' := (K 0)) (by with_unfolding_all rfl) ?_
  exact kt_rowl hg hA hA2 hA3 hB hB2 hB3 hn hm eA eB hs hK n 0 (by omega) (by omega)
theorem kt_k1 : (kd_rn (kd_ty 1) 4 = some (3, 2, 2) ∧ kd_rn (kd_ty 1) 5 = some (3, 9, 9) ∧ kd_rn (kd_ty 1) 6 = some (3, 10, 10) ∧ kd_rn (kd_ty 1) 7 = some (3, 11, 11) ∧ kd_rn (kd_ty 1) 8 = some (3, 15, 15)) ∧ (kd_rn (kd_ty 1) 9 = some (3, 26, 26) ∧ kd_rn (kd_ty 1) 10 = some (3, 27, 27) ∧ kd_rn (kd_ty 1) 11 = some (3, 28, 28) ∧ kd_rn (kd_ty 1) 12 = some (3, 31, 31)) ∧ (kd_rn (kd_ty 1) 0 = some (0, 2147483648, 2147483648 + 5) ∧ kd_rn (kd_ty 1) 1 = some (0, 2147483648, 2147483648 + 3) ∧ kd_rn (kd_ty 1) 2 = some (0, 2147483648, 2147483648 + 10) ∧ kd_rn (kd_ty 1) 3 = some (0, 2147483648, 2147483648 + 5)) := ⟨by decide +kernel, by decide +kernel, by decide +kernel⟩
theorem kt_q1_4 : ∀ j, j < 6 → kd_rn (kd_ty 2) j = some (3, 3 + j, 3 + j) := by decide +kernel
theorem kt_q1_7 : ∀ j, j < 3 → kd_rn (kd_ty 11) j = some (3, 12 + j, 12 + j) := by decide +kernel
theorem kt_q1_8 : ∀ j, j < 10 → kd_rn (kd_ty 15) j = some (3, 16 + j, 16 + j) := by decide +kernel
theorem kt_q1_11 : ∀ j, j < 2 → kd_rn (kd_ty 28) j = some (3, 29 + j, 29 + j) := by decide +kernel
theorem kt_k32 : (kd_rn (kd_ty 32) 4 = some (3, 33, 33) ∧ kd_rn (kd_ty 32) 5 = some (3, 40, 40) ∧ kd_rn (kd_ty 32) 6 = some (3, 41, 41) ∧ kd_rn (kd_ty 32) 7 = some (3, 42, 42) ∧ kd_rn (kd_ty 32) 8 = some (3, 46, 46)) ∧ (kd_rn (kd_ty 32) 9 = some (3, 57, 57) ∧ kd_rn (kd_ty 32) 10 = some (3, 58, 58) ∧ kd_rn (kd_ty 32) 11 = some (3, 59, 59) ∧ kd_rn (kd_ty 32) 12 = some (3, 62, 62)) ∧ (kd_rn (kd_ty 32) 0 = some (0, 2147483648, 2147483648 + 5) ∧ kd_rn (kd_ty 32) 1 = some (0, 2147483648, 2147483648 + 3) ∧ kd_rn (kd_ty 32) 2 = some (0, 2147483648, 2147483648 + 10) ∧ kd_rn (kd_ty 32) 3 = some (0, 2147483648, 2147483648 + 5)) := ⟨by decide +kernel, by decide +kernel, by decide +kernel⟩
theorem kt_q32_4 : ∀ j, j < 6 → kd_rn (kd_ty 33) j = some (3, 34 + j, 34 + j) := by decide +kernel
theorem kt_q32_7 : ∀ j, j < 3 → kd_rn (kd_ty 42) j = some (3, 43 + j, 43 + j) := by decide +kernel
theorem kt_q32_8 : ∀ j, j < 10 → kd_rn (kd_ty 46) j = some (3, 47 + j, 47 + j) := by decide +kernel
theorem kt_q32_11 : ∀ j, j < 2 → kd_rn (kd_ty 59) j = some (3, 60 + j, 60 + j) := by decide +kernel
theorem kt_k64 : (kd_rn (kd_ty 64) 4 = some (3, 65, 65) ∧ kd_rn (kd_ty 64) 5 = some (3, 72, 72) ∧ kd_rn (kd_ty 64) 6 = some (3, 73, 73) ∧ kd_rn (kd_ty 64) 7 = some (3, 74, 74) ∧ kd_rn (kd_ty 64) 8 = some (3, 78, 78)) ∧ (kd_rn (kd_ty 64) 9 = some (3, 89, 89) ∧ kd_rn (kd_ty 64) 10 = some (3, 90, 90) ∧ kd_rn (kd_ty 64) 11 = some (3, 91, 91) ∧ kd_rn (kd_ty 64) 12 = some (3, 94, 94)) ∧ (kd_rn (kd_ty 64) 0 = some (0, 2147483648, 2147483648 + 5) ∧ kd_rn (kd_ty 64) 1 = some (0, 2147483648, 2147483648 + 3) ∧ kd_rn (kd_ty 64) 2 = some (0, 2147483648, 2147483648 + 10) ∧ kd_rn (kd_ty 64) 3 = some (0, 2147483648, 2147483648 + 5)) := ⟨by decide +kernel, by decide +kernel, by decide +kernel⟩
theorem kt_q64_4 : ∀ j, j < 6 → kd_rn (kd_ty 65) j = some (3, 66 + j, 66 + j) := by decide +kernel
theorem kt_q64_7 : ∀ j, j < 3 → kd_rn (kd_ty 74) j = some (3, 75 + j, 75 + j) := by decide +kernel
theorem kt_q64_8 : ∀ j, j < 10 → kd_rn (kd_ty 78) j = some (3, 79 + j, 79 + j) := by decide +kernel
theorem kt_q64_11 : ∀ j, j < 2 → kd_rn (kd_ty 91) j = some (3, 92 + j, 92 + j) := by decide +kernel
theorem kt_k95 : (kd_rn (kd_ty 95) 4 = some (3, 96, 96) ∧ kd_rn (kd_ty 95) 5 = some (3, 103, 103) ∧ kd_rn (kd_ty 95) 6 = some (3, 104, 104) ∧ kd_rn (kd_ty 95) 7 = some (3, 105, 105) ∧ kd_rn (kd_ty 95) 8 = some (3, 109, 109)) ∧ (kd_rn (kd_ty 95) 9 = some (3, 120, 120) ∧ kd_rn (kd_ty 95) 10 = some (3, 121, 121) ∧ kd_rn (kd_ty 95) 11 = some (3, 122, 122) ∧ kd_rn (kd_ty 95) 12 = some (3, 125, 125)) ∧ (kd_rn (kd_ty 95) 0 = some (0, 2147483648, 2147483648 + 5) ∧ kd_rn (kd_ty 95) 1 = some (0, 2147483648, 2147483648 + 3) ∧ kd_rn (kd_ty 95) 2 = some (0, 2147483648, 2147483648 + 10) ∧ kd_rn (kd_ty 95) 3 = some (0, 2147483648, 2147483648 + 5)) := ⟨by decide +kernel, by decide +kernel, by decide +kernel⟩
theorem kt_q95_4 : ∀ j, j < 6 → kd_rn (kd_ty 96) j = some (3, 97 + j, 97 + j) := by decide +kernel
theorem kt_q95_7 : ∀ j, j < 3 → kd_rn (kd_ty 105) j = some (3, 106 + j, 106 + j) := by decide +kernel
theorem kt_q95_8 : ∀ j, j < 10 → kd_rn (kd_ty 109) j = some (3, 110 + j, 110 + j) := by decide +kernel
theorem kt_q95_11 : ∀ j, j < 2 → kd_rn (kd_ty 122) j = some (3, 123 + j, 123 + j) := by decide +kernel
theorem kt_ref1_32_4 {h : kc_H} (i : Nat) (hi : i < 6) : kt_K h 1 32 (2 + i) 2 i = h 2 i ∧ kt_K h 1 32 (2 + i) 33 i = h 33 i := by
  have z : kt_ln 1 = 0 := by decide
  unfold kt_K
  exact ⟨if_neg (by rintro ⟨q1, q2, q3⟩; omega), if_neg (by rintro ⟨q1, q2, q3⟩; rw [show 33 - 32 = 1 from rfl, z] at q3; omega)⟩
theorem kt_sp1_32_4 (i : Nat) (hi : i < 6) : kc_shp (3 + i) = some (0, 0, 6) ∧ 3 + i < kc_N ∧ kc_shp (34 + i) = some (0, 0, 6) ∧ 34 + i < kc_N := by
  have k : ∀ i, i < 6 → kc_shp (3 + i) = some (0, 0, 6) ∧ 3 + i < kc_N ∧ kc_shp (34 + i) = some (0, 0, 6) ∧ 34 + i < kc_N := by decide +kernel
  exact k i hi
theorem kt_st1_32_4 {h : kc_H} (i : Nat) (hi : i < 6) : kz_cp (kt_K h 1 32 (2 + i)) (34 + i) 0 (3 + i) 0 6 = kt_K h 1 32 (2 + (i + 1)) := by
  have e := kt_s (h := h) (a := 1) (b := 32) (K := 2 + i) (k := 2 + i) (Nat.le_refl _) (fun j q1 q2 => by omega) (by omega)
  have z : ∀ i, i < 6 → kt_ln (2 + i) = 6 := by decide
  rw [z i hi, show 32 + (2 + i) = 34 + i from by omega, show 1 + (2 + i) = 3 + i from by omega] at e
  exact e
theorem kt_ref1_32_7 {h : kc_H} (i : Nat) (hi : i < 3) : kt_K h 1 32 (11 + i) 11 i = h 11 i ∧ kt_K h 1 32 (11 + i) 42 i = h 42 i := by
  have z : kt_ln 10 = 0 := by decide
  unfold kt_K
  exact ⟨if_neg (by rintro ⟨q1, q2, q3⟩; omega), if_neg (by rintro ⟨q1, q2, q3⟩; rw [show 42 - 32 = 10 from rfl, z] at q3; omega)⟩
theorem kt_sp1_32_7 (i : Nat) (hi : i < 3) : kc_shp (12 + i) = some (0, 0, 5) ∧ 12 + i < kc_N ∧ kc_shp (43 + i) = some (0, 0, 5) ∧ 43 + i < kc_N := by
  have k : ∀ i, i < 3 → kc_shp (12 + i) = some (0, 0, 5) ∧ 12 + i < kc_N ∧ kc_shp (43 + i) = some (0, 0, 5) ∧ 43 + i < kc_N := by decide +kernel
  exact k i hi
theorem kt_st1_32_7 {h : kc_H} (i : Nat) (hi : i < 3) : kz_cp (kt_K h 1 32 (11 + i)) (43 + i) 0 (12 + i) 0 5 = kt_K h 1 32 (11 + (i + 1)) := by
  have e := kt_s (h := h) (a := 1) (b := 32) (K := 11 + i) (k := 11 + i) (Nat.le_refl _) (fun j q1 q2 => by omega) (by omega)
  have z : ∀ i, i < 3 → kt_ln (11 + i) = 5 := by decide
  rw [z i hi, show 32 + (11 + i) = 43 + i from by omega, show 1 + (11 + i) = 12 + i from by omega] at e
  exact e
theorem kt_ref1_32_8 {h : kc_H} (i : Nat) (hi : i < 10) : kt_K h 1 32 (15 + i) 15 i = h 15 i ∧ kt_K h 1 32 (15 + i) 46 i = h 46 i := by
  have z : kt_ln 14 = 0 := by decide
  unfold kt_K
  exact ⟨if_neg (by rintro ⟨q1, q2, q3⟩; omega), if_neg (by rintro ⟨q1, q2, q3⟩; rw [show 46 - 32 = 14 from rfl, z] at q3; omega)⟩
theorem kt_sp1_32_8 (i : Nat) (hi : i < 10) : kc_shp (16 + i) = some (0, 0, 7) ∧ 16 + i < kc_N ∧ kc_shp (47 + i) = some (0, 0, 7) ∧ 47 + i < kc_N := by
  have k : ∀ i, i < 10 → kc_shp (16 + i) = some (0, 0, 7) ∧ 16 + i < kc_N ∧ kc_shp (47 + i) = some (0, 0, 7) ∧ 47 + i < kc_N := by decide +kernel
  exact k i hi
theorem kt_st1_32_8 {h : kc_H} (i : Nat) (hi : i < 10) : kz_cp (kt_K h 1 32 (15 + i)) (47 + i) 0 (16 + i) 0 7 = kt_K h 1 32 (15 + (i + 1)) := by
  have e := kt_s (h := h) (a := 1) (b := 32) (K := 15 + i) (k := 15 + i) (Nat.le_refl _) (fun j q1 q2 => by omega) (by omega)
  have z : ∀ i, i < 10 → kt_ln (15 + i) = 7 := by decide
  rw [z i hi, show 32 + (15 + i) = 47 + i from by omega, show 1 + (15 + i) = 16 + i from by omega] at e
  exact e
theorem kt_ref1_32_11 {h : kc_H} (i : Nat) (hi : i < 2) : kt_K h 1 32 (28 + i) 28 i = h 28 i ∧ kt_K h 1 32 (28 + i) 59 i = h 59 i := by
  have z : kt_ln 27 = 0 := by decide
  unfold kt_K
  exact ⟨if_neg (by rintro ⟨q1, q2, q3⟩; omega), if_neg (by rintro ⟨q1, q2, q3⟩; rw [show 59 - 32 = 27 from rfl, z] at q3; omega)⟩
theorem kt_sp1_32_11 (i : Nat) (hi : i < 2) : kc_shp (29 + i) = some (0, 0, 240) ∧ 29 + i < kc_N ∧ kc_shp (60 + i) = some (0, 0, 240) ∧ 60 + i < kc_N := by
  have k : ∀ i, i < 2 → kc_shp (29 + i) = some (0, 0, 240) ∧ 29 + i < kc_N ∧ kc_shp (60 + i) = some (0, 0, 240) ∧ 60 + i < kc_N := by decide +kernel
  exact k i hi
theorem kt_st1_32_11 {h : kc_H} (i : Nat) (hi : i < 2) : kz_cp (kt_K h 1 32 (28 + i)) (60 + i) 0 (29 + i) 0 240 = kt_K h 1 32 (28 + (i + 1)) := by
  have e := kt_s (h := h) (a := 1) (b := 32) (K := 28 + i) (k := 28 + i) (Nat.le_refl _) (fun j q1 q2 => by omega) (by omega)
  have z : ∀ i, i < 2 → kt_ln (28 + i) = 240 := by decide
  rw [z i hi, show 32 + (28 + i) = 60 + i from by omega, show 1 + (28 + i) = 29 + i from by omega] at e
  exact e
set_option maxRecDepth 20000 in
theorem kt_take1_32 {g : kc_G} {d : Nat} {h : kc_H} (hg : kc_ok g) (hw : kd_wt kd_ty h) : kc_Con g (d + 3) 68 [.inr (.inr (.inl (some 32))), .inr (.inr (.inl (some 1)))] h (fun rv h' => rv = none ∧ h' = kt_K h 1 32 31) := by
  refine kc_Con_new hg (M := wk_m68) rfl rfl rfl (show 2 ≤ 2 by decide) ?_
  have ka := kt_k1
  have kb := kt_k32
  obtain ⟨w0, -, ew0⟩ := kx_ofg (by omega) (hw _ _ _ ka.2.2.1)
  obtain ⟨w1, -, ew1⟩ := kx_ofg (by omega) (hw _ _ _ ka.2.2.2.1)
  obtain ⟨w2, -, ew2⟩ := kx_ofg (by omega) (hw _ _ _ ka.2.2.2.2.1)
  obtain ⟨w3, -, ew3⟩ := kx_ofg (by omega) (hw _ _ _ ka.2.2.2.2.2)
  have fa4 := kx_ofr (hw _ _ _ ka.1.1)
  have fb4 := kx_ofr (hw _ _ _ kb.1.1)
  have fa5 := kx_ofr (hw _ _ _ ka.1.2.1)
  have fb5 := kx_ofr (hw _ _ _ kb.1.2.1)
  have fa6 := kx_ofr (hw _ _ _ ka.1.2.2.1)
  have fb6 := kx_ofr (hw _ _ _ kb.1.2.2.1)
  have fa7 := kx_ofr (hw _ _ _ ka.1.2.2.2.1)
  have fb7 := kx_ofr (hw _ _ _ kb.1.2.2.2.1)
  have fa8 := kx_ofr (hw _ _ _ ka.1.2.2.2.2)
  have fb8 := kx_ofr (hw _ _ _ kb.1.2.2.2.2)
  have fa9 := kx_ofr (hw _ _ _ ka.2.1.1)
  have fb9 := kx_ofr (hw _ _ _ kb.2.1.1)
  have fa10 := kx_ofr (hw _ _ _ ka.2.1.2.1)
  have fb10 := kx_ofr (hw _ _ _ kb.2.1.2.1)
  have fa11 := kx_ofr (hw _ _ _ ka.2.1.2.2.1)
  have fb11 := kx_ofr (hw _ _ _ kb.2.1.2.2.1)
  have fa12 := kx_ofr (hw _ _ _ ka.2.1.2.2.2)
  have fb12 := kx_ofr (hw _ _ _ kb.2.1.2.2.2)
  refine kx_go 2 (pc' := 2) (L' := [(0, .inr (.inr (.inl (some 32)))), (1, .inr (.inr (.inl (some 1))))]) (S' := [.inr (.inr (.inl (some 1))), .inr (.inr (.inl (some 32)))]) (h' := h) (by with_unfolding_all rfl) ?_
  refine kx_getf (c := 1) (v := .inl (Int32.ofNat w0)) rfl (by decide) ew0 ?_
  refine kx_go 1 (pc' := 8) (L' := [(0, .inr (.inr (.inl (some 32)))), (1, .inr (.inr (.inl (some 1))))]) (S' := []) (h' := (kc_upd h 32 0 (.inl (Int32.ofNat w0)))) (by with_unfolding_all rfl) ?_
  refine kx_go 2 (pc' := 10) (L' := [(0, .inr (.inr (.inl (some 32)))), (1, .inr (.inr (.inl (some 1))))]) (S' := [.inr (.inr (.inl (some 1))), .inr (.inr (.inl (some 32)))]) (h' := (kc_upd h 32 0 (.inl (Int32.ofNat w0)))) (by with_unfolding_all rfl) ?_
  refine kx_getf (c := 1) (v := .inl (Int32.ofNat w1)) rfl (by decide) ((kj_uo (by decide)).trans (ew1)) ?_
  refine kx_go 1 (pc' := 16) (L' := [(0, .inr (.inr (.inl (some 32)))), (1, .inr (.inr (.inl (some 1))))]) (S' := []) (h' := (kc_upd (kc_upd h 32 0 (.inl (Int32.ofNat w0))) 32 1 (.inl (Int32.ofNat w1)))) (by with_unfolding_all rfl) ?_
  refine kx_go 2 (pc' := 18) (L' := [(0, .inr (.inr (.inl (some 32)))), (1, .inr (.inr (.inl (some 1))))]) (S' := [.inr (.inr (.inl (some 1))), .inr (.inr (.inl (some 32)))]) (h' := (kc_upd (kc_upd h 32 0 (.inl (Int32.ofNat w0))) 32 1 (.inl (Int32.ofNat w1)))) (by with_unfolding_all rfl) ?_
  refine kx_getf (c := 1) (v := .inl (Int32.ofNat w2)) rfl (by decide) ((kj_uo (by decide)).trans ((kj_uo (by decide)).trans (ew2))) ?_
  refine kx_go 1 (pc' := 24) (L' := [(0, .inr (.inr (.inl (some 32)))), (1, .inr (.inr (.inl (some 1))))]) (S' := []) (h' := (kc_upd (kc_upd (kc_upd h 32 0 (.inl (Int32.ofNat w0))) 32 1 (.inl (Int32.ofNat w1))) 32 2 (.inl (Int32.ofNat w2)))) (by with_unfolding_all rfl) ?_
  refine kx_go 2 (pc' := 26) (L' := [(0, .inr (.inr (.inl (some 32)))), (1, .inr (.inr (.inl (some 1))))]) (S' := [.inr (.inr (.inl (some 1))), .inr (.inr (.inl (some 32)))]) (h' := (kc_upd (kc_upd (kc_upd h 32 0 (.inl (Int32.ofNat w0))) 32 1 (.inl (Int32.ofNat w1))) 32 2 (.inl (Int32.ofNat w2)))) (by with_unfolding_all rfl) ?_
  refine kx_getf (c := 1) (v := .inl (Int32.ofNat w3)) rfl (by decide) ((kj_uo (by decide)).trans ((kj_uo (by decide)).trans ((kj_uo (by decide)).trans (ew3)))) ?_
  refine kx_go 1 (pc' := 32) (L' := [(0, .inr (.inr (.inl (some 32)))), (1, .inr (.inr (.inl (some 1))))]) (S' := []) (h' := (kc_upd (kc_upd (kc_upd (kc_upd h 32 0 (.inl (Int32.ofNat w0))) 32 1 (.inl (Int32.ofNat w1))) 32 2 (.inl (Int32.ofNat w2))) 32 3 (.inl (Int32.ofNat w3)))) (by with_unfolding_all rfl) ?_
  rw [kt_0 ew0 ew1 ew2 ew3]
  refine kx_go 1 (pc' := 33) (L' := [(0, .inr (.inr (.inl (some 32)))), (1, .inr (.inr (.inl (some 1))))]) (S' := [.inr (.inr (.inl (some 1)))]) (h' := (kt_K h 1 32 1)) (by with_unfolding_all rfl) ?_
  refine kx_getf (c := 1) (v := .inr (.inr (.inl (some 2)))) rfl (by decide) ((show kt_K h 1 32 1 1 4 = h 1 4 from if_neg (by decide)).trans fa4) ?_
  refine kx_go 1 (pc' := 37) (L' := [(0, .inr (.inr (.inl (some 32)))), (1, .inr (.inr (.inl (some 1))))]) (S' := [.inr (.inr (.inl (some 32))), .inr (.inr (.inl (some 2)))]) (h' := (kt_K h 1 32 1)) (by with_unfolding_all rfl) ?_
  refine kx_getf (c := 32) (v := .inr (.inr (.inl (some 33)))) rfl (by decide) ((show kt_K h 1 32 1 32 4 = h 32 4 from if_neg (by decide)).trans fb4) ?_
  rw [show kt_K h 1 32 1 = kt_K h 1 32 (2 + 0) from kt_skip (by decide) (by decide)]
  refine kc_call_rule (M2 := wk_m69) (av := [.inr (.inr (.inl (some 2))), .inr (.inr (.inl (some 33)))]) (r := []) rfl rfl (kc_Con_le (kt_rows (d := 0) (A := 2) (B := 33) (n := 6) (m := 6) (K := fun i => kt_K h 1 32 (2 + i)) (ra := fun i => 3 + i) (rb := fun i => 34 + i) hg rfl (by decide) (by decide) rfl (by decide) (by decide) (by decide) (by decide) (fun i hi => (kt_ref1_32_4 i hi).1.trans (kx_ofr (hw _ _ _ (kt_q1_4 i hi)))) (fun i hi => (kt_ref1_32_4 i hi).2.trans (kx_ofr (hw _ _ _ (kt_q32_4 i hi)))) (fun i hi => kt_sp1_32_4 i hi) (fun i hi => kt_st1_32_4 i hi)) (by omega)) (fun rv h' hq => ?_)
  obtain ⟨rfl, rfl⟩ := hq
  show kc_Ev g (d + 2) wk_m68 _ 43 [(0, .inr (.inr (.inl (some 32)))), (1, .inr (.inr (.inl (some 1))))] [] (kt_K h 1 32 8)
  refine kx_go 1 (pc' := 44) (L' := [(0, .inr (.inr (.inl (some 32)))), (1, .inr (.inr (.inl (some 1))))]) (S' := [.inr (.inr (.inl (some 1)))]) (h' := (kt_K h 1 32 8)) (by with_unfolding_all rfl) ?_
  refine kx_getf (c := 1) (v := .inr (.inr (.inl (some 9)))) rfl (by decide) ((show kt_K h 1 32 8 1 5 = h 1 5 from if_neg (by decide)).trans fa5) ?_
  refine kx_go 1 (pc' := 48) (L' := [(0, .inr (.inr (.inl (some 32)))), (1, .inr (.inr (.inl (some 1))))]) (S' := [.inr (.inr (.inl (some 32))), .inr (.inr (.inl (some 9)))]) (h' := (kt_K h 1 32 8)) (by with_unfolding_all rfl) ?_
  refine kx_getf (c := 32) (v := .inr (.inr (.inl (some 40)))) rfl (by decide) ((show kt_K h 1 32 8 32 5 = h 32 5 from if_neg (by decide)).trans fb5) ?_
  refine kc_call_rule (M2 := wk_m70) (av := [.inr (.inr (.inl (some 9))), .inr (.inr (.inl (some 40)))]) (r := []) rfl rfl (kc_Con_le (kt_row (d := 0) (c1 := 9) (c2 := 40) (m := 6) hg rfl (by decide) rfl (by decide) (by decide)) (by omega)) (fun rv h' hq => ?_)
  obtain ⟨rfl, rfl⟩ := hq
  rw [show kz_cp (kt_K h 1 32 8) 40 0 9 0 6 = kt_K h 1 32 9 from kt_s (a := 1) (b := 32) (K := 8) (k := 8) (by decide) (by decide) (by decide)]
  show kc_Ev g (d + 2) wk_m68 _ 54 [(0, .inr (.inr (.inl (some 32)))), (1, .inr (.inr (.inl (some 1))))] [] (kt_K h 1 32 9)
  refine kx_go 1 (pc' := 55) (L' := [(0, .inr (.inr (.inl (some 32)))), (1, .inr (.inr (.inl (some 1))))]) (S' := [.inr (.inr (.inl (some 1)))]) (h' := (kt_K h 1 32 9)) (by with_unfolding_all rfl) ?_
  refine kx_getf (c := 1) (v := .inr (.inr (.inl (some 10)))) rfl (by decide) ((show kt_K h 1 32 9 1 6 = h 1 6 from if_neg (by decide)).trans fa6) ?_
  refine kx_go 1 (pc' := 59) (L' := [(0, .inr (.inr (.inl (some 32)))), (1, .inr (.inr (.inl (some 1))))]) (S' := [.inr (.inr (.inl (some 32))), .inr (.inr (.inl (some 10)))]) (h' := (kt_K h 1 32 9)) (by with_unfolding_all rfl) ?_
  refine kx_getf (c := 32) (v := .inr (.inr (.inl (some 41)))) rfl (by decide) ((show kt_K h 1 32 9 32 6 = h 32 6 from if_neg (by decide)).trans fb6) ?_
  refine kc_call_rule (M2 := wk_m70) (av := [.inr (.inr (.inl (some 10))), .inr (.inr (.inl (some 41)))]) (r := []) rfl rfl (kc_Con_le (kt_row (d := 0) (c1 := 10) (c2 := 41) (m := 6) hg rfl (by decide) rfl (by decide) (by decide)) (by omega)) (fun rv h' hq => ?_)
  obtain ⟨rfl, rfl⟩ := hq
  rw [show kz_cp (kt_K h 1 32 9) 41 0 10 0 6 = kt_K h 1 32 10 from kt_s (a := 1) (b := 32) (K := 9) (k := 9) (by decide) (by decide) (by decide)]
  show kc_Ev g (d + 2) wk_m68 _ 65 [(0, .inr (.inr (.inl (some 32)))), (1, .inr (.inr (.inl (some 1))))] [] (kt_K h 1 32 10)
  refine kx_go 1 (pc' := 66) (L' := [(0, .inr (.inr (.inl (some 32)))), (1, .inr (.inr (.inl (some 1))))]) (S' := [.inr (.inr (.inl (some 1)))]) (h' := (kt_K h 1 32 10)) (by with_unfolding_all rfl) ?_
  refine kx_getf (c := 1) (v := .inr (.inr (.inl (some 11)))) rfl (by decide) ((show kt_K h 1 32 10 1 7 = h 1 7 from if_neg (by decide)).trans fa7) ?_
  refine kx_go 1 (pc' := 70) (L' := [(0, .inr (.inr (.inl (some 32)))), (1, .inr (.inr (.inl (some 1))))]) (S' := [.inr (.inr (.inl (some 32))), .inr (.inr (.inl (some 11)))]) (h' := (kt_K h 1 32 10)) (by with_unfolding_all rfl) ?_
  refine kx_getf (c := 32) (v := .inr (.inr (.inl (some 42)))) rfl (by decide) ((show kt_K h 1 32 10 32 7 = h 32 7 from if_neg (by decide)).trans fb7) ?_
  rw [show kt_K h 1 32 10 = kt_K h 1 32 (11 + 0) from kt_skip (by decide) (by decide)]
  refine kc_call_rule (M2 := wk_m69) (av := [.inr (.inr (.inl (some 11))), .inr (.inr (.inl (some 42)))]) (r := []) rfl rfl (kc_Con_le (kt_rows (d := 0) (A := 11) (B := 42) (n := 3) (m := 5) (K := fun i => kt_K h 1 32 (11 + i)) (ra := fun i => 12 + i) (rb := fun i => 43 + i) hg rfl (by decide) (by decide) rfl (by decide) (by decide) (by decide) (by decide) (fun i hi => (kt_ref1_32_7 i hi).1.trans (kx_ofr (hw _ _ _ (kt_q1_7 i hi)))) (fun i hi => (kt_ref1_32_7 i hi).2.trans (kx_ofr (hw _ _ _ (kt_q32_7 i hi)))) (fun i hi => kt_sp1_32_7 i hi) (fun i hi => kt_st1_32_7 i hi)) (by omega)) (fun rv h' hq => ?_)
  obtain ⟨rfl, rfl⟩ := hq
  show kc_Ev g (d + 2) wk_m68 _ 76 [(0, .inr (.inr (.inl (some 32)))), (1, .inr (.inr (.inl (some 1))))] [] (kt_K h 1 32 14)
  refine kx_go 1 (pc' := 77) (L' := [(0, .inr (.inr (.inl (some 32)))), (1, .inr (.inr (.inl (some 1))))]) (S' := [.inr (.inr (.inl (some 1)))]) (h' := (kt_K h 1 32 14)) (by with_unfolding_all rfl) ?_
  refine kx_getf (c := 1) (v := .inr (.inr (.inl (some 15)))) rfl (by decide) ((show kt_K h 1 32 14 1 8 = h 1 8 from if_neg (by decide)).trans fa8) ?_
  refine kx_go 1 (pc' := 81) (L' := [(0, .inr (.inr (.inl (some 32)))), (1, .inr (.inr (.inl (some 1))))]) (S' := [.inr (.inr (.inl (some 32))), .inr (.inr (.inl (some 15)))]) (h' := (kt_K h 1 32 14)) (by with_unfolding_all rfl) ?_
  refine kx_getf (c := 32) (v := .inr (.inr (.inl (some 46)))) rfl (by decide) ((show kt_K h 1 32 14 32 8 = h 32 8 from if_neg (by decide)).trans fb8) ?_
  rw [show kt_K h 1 32 14 = kt_K h 1 32 (15 + 0) from kt_skip (by decide) (by decide)]
  refine kc_call_rule (M2 := wk_m69) (av := [.inr (.inr (.inl (some 15))), .inr (.inr (.inl (some 46)))]) (r := []) rfl rfl (kc_Con_le (kt_rows (d := 0) (A := 15) (B := 46) (n := 10) (m := 7) (K := fun i => kt_K h 1 32 (15 + i)) (ra := fun i => 16 + i) (rb := fun i => 47 + i) hg rfl (by decide) (by decide) rfl (by decide) (by decide) (by decide) (by decide) (fun i hi => (kt_ref1_32_8 i hi).1.trans (kx_ofr (hw _ _ _ (kt_q1_8 i hi)))) (fun i hi => (kt_ref1_32_8 i hi).2.trans (kx_ofr (hw _ _ _ (kt_q32_8 i hi)))) (fun i hi => kt_sp1_32_8 i hi) (fun i hi => kt_st1_32_8 i hi)) (by omega)) (fun rv h' hq => ?_)
  obtain ⟨rfl, rfl⟩ := hq
  show kc_Ev g (d + 2) wk_m68 _ 87 [(0, .inr (.inr (.inl (some 32)))), (1, .inr (.inr (.inl (some 1))))] [] (kt_K h 1 32 25)
  refine kx_go 1 (pc' := 88) (L' := [(0, .inr (.inr (.inl (some 32)))), (1, .inr (.inr (.inl (some 1))))]) (S' := [.inr (.inr (.inl (some 1)))]) (h' := (kt_K h 1 32 25)) (by with_unfolding_all rfl) ?_
  refine kx_getf (c := 1) (v := .inr (.inr (.inl (some 26)))) rfl (by decide) ((show kt_K h 1 32 25 1 9 = h 1 9 from if_neg (by decide)).trans fa9) ?_
  refine kx_go 1 (pc' := 92) (L' := [(0, .inr (.inr (.inl (some 32)))), (1, .inr (.inr (.inl (some 1))))]) (S' := [.inr (.inr (.inl (some 32))), .inr (.inr (.inl (some 26)))]) (h' := (kt_K h 1 32 25)) (by with_unfolding_all rfl) ?_
  refine kx_getf (c := 32) (v := .inr (.inr (.inl (some 57)))) rfl (by decide) ((show kt_K h 1 32 25 32 9 = h 32 9 from if_neg (by decide)).trans fb9) ?_
  refine kc_call_rule (M2 := wk_m70) (av := [.inr (.inr (.inl (some 26))), .inr (.inr (.inl (some 57)))]) (r := []) rfl rfl (kc_Con_le (kt_row (d := 0) (c1 := 26) (c2 := 57) (m := 2) hg rfl (by decide) rfl (by decide) (by decide)) (by omega)) (fun rv h' hq => ?_)
  obtain ⟨rfl, rfl⟩ := hq
  rw [show kz_cp (kt_K h 1 32 25) 57 0 26 0 2 = kt_K h 1 32 26 from kt_s (a := 1) (b := 32) (K := 25) (k := 25) (by decide) (by decide) (by decide)]
  show kc_Ev g (d + 2) wk_m68 _ 98 [(0, .inr (.inr (.inl (some 32)))), (1, .inr (.inr (.inl (some 1))))] [] (kt_K h 1 32 26)
  refine kx_go 1 (pc' := 99) (L' := [(0, .inr (.inr (.inl (some 32)))), (1, .inr (.inr (.inl (some 1))))]) (S' := [.inr (.inr (.inl (some 1)))]) (h' := (kt_K h 1 32 26)) (by with_unfolding_all rfl) ?_
  refine kx_getf (c := 1) (v := .inr (.inr (.inl (some 27)))) rfl (by decide) ((show kt_K h 1 32 26 1 10 = h 1 10 from if_neg (by decide)).trans fa10) ?_
  refine kx_go 1 (pc' := 103) (L' := [(0, .inr (.inr (.inl (some 32)))), (1, .inr (.inr (.inl (some 1))))]) (S' := [.inr (.inr (.inl (some 32))), .inr (.inr (.inl (some 27)))]) (h' := (kt_K h 1 32 26)) (by with_unfolding_all rfl) ?_
  refine kx_getf (c := 32) (v := .inr (.inr (.inl (some 58)))) rfl (by decide) ((show kt_K h 1 32 26 32 10 = h 32 10 from if_neg (by decide)).trans fb10) ?_
  refine kc_call_rule (M2 := wk_m70) (av := [.inr (.inr (.inl (some 27))), .inr (.inr (.inl (some 58)))]) (r := []) rfl rfl (kc_Con_le (kt_row (d := 0) (c1 := 27) (c2 := 58) (m := 5) hg rfl (by decide) rfl (by decide) (by decide)) (by omega)) (fun rv h' hq => ?_)
  obtain ⟨rfl, rfl⟩ := hq
  rw [show kz_cp (kt_K h 1 32 26) 58 0 27 0 5 = kt_K h 1 32 27 from kt_s (a := 1) (b := 32) (K := 26) (k := 26) (by decide) (by decide) (by decide)]
  show kc_Ev g (d + 2) wk_m68 _ 109 [(0, .inr (.inr (.inl (some 32)))), (1, .inr (.inr (.inl (some 1))))] [] (kt_K h 1 32 27)
  refine kx_go 1 (pc' := 110) (L' := [(0, .inr (.inr (.inl (some 32)))), (1, .inr (.inr (.inl (some 1))))]) (S' := [.inr (.inr (.inl (some 1)))]) (h' := (kt_K h 1 32 27)) (by with_unfolding_all rfl) ?_
  refine kx_getf (c := 1) (v := .inr (.inr (.inl (some 28)))) rfl (by decide) ((show kt_K h 1 32 27 1 11 = h 1 11 from if_neg (by decide)).trans fa11) ?_
  refine kx_go 1 (pc' := 114) (L' := [(0, .inr (.inr (.inl (some 32)))), (1, .inr (.inr (.inl (some 1))))]) (S' := [.inr (.inr (.inl (some 32))), .inr (.inr (.inl (some 28)))]) (h' := (kt_K h 1 32 27)) (by with_unfolding_all rfl) ?_
  refine kx_getf (c := 32) (v := .inr (.inr (.inl (some 59)))) rfl (by decide) ((show kt_K h 1 32 27 32 11 = h 32 11 from if_neg (by decide)).trans fb11) ?_
  rw [show kt_K h 1 32 27 = kt_K h 1 32 (28 + 0) from kt_skip (by decide) (by decide)]
  refine kc_call_rule (M2 := wk_m69) (av := [.inr (.inr (.inl (some 28))), .inr (.inr (.inl (some 59)))]) (r := []) rfl rfl (kc_Con_le (kt_rows (d := 0) (A := 28) (B := 59) (n := 2) (m := 240) (K := fun i => kt_K h 1 32 (28 + i)) (ra := fun i => 29 + i) (rb := fun i => 60 + i) hg rfl (by decide) (by decide) rfl (by decide) (by decide) (by decide) (by decide) (fun i hi => (kt_ref1_32_11 i hi).1.trans (kx_ofr (hw _ _ _ (kt_q1_11 i hi)))) (fun i hi => (kt_ref1_32_11 i hi).2.trans (kx_ofr (hw _ _ _ (kt_q32_11 i hi)))) (fun i hi => kt_sp1_32_11 i hi) (fun i hi => kt_st1_32_11 i hi)) (by omega)) (fun rv h' hq => ?_)
  obtain ⟨rfl, rfl⟩ := hq
  show kc_Ev g (d + 2) wk_m68 _ 120 [(0, .inr (.inr (.inl (some 32)))), (1, .inr (.inr (.inl (some 1))))] [] (kt_K h 1 32 30)
  refine kx_go 1 (pc' := 121) (L' := [(0, .inr (.inr (.inl (some 32)))), (1, .inr (.inr (.inl (some 1))))]) (S' := [.inr (.inr (.inl (some 1)))]) (h' := (kt_K h 1 32 30)) (by with_unfolding_all rfl) ?_
  refine kx_getf (c := 1) (v := .inr (.inr (.inl (some 31)))) rfl (by decide) ((show kt_K h 1 32 30 1 12 = h 1 12 from if_neg (by decide)).trans fa12) ?_
  refine kx_go 1 (pc' := 125) (L' := [(0, .inr (.inr (.inl (some 32)))), (1, .inr (.inr (.inl (some 1))))]) (S' := [.inr (.inr (.inl (some 32))), .inr (.inr (.inl (some 31)))]) (h' := (kt_K h 1 32 30)) (by with_unfolding_all rfl) ?_
  refine kx_getf (c := 32) (v := .inr (.inr (.inl (some 62)))) rfl (by decide) ((show kt_K h 1 32 30 32 12 = h 32 12 from if_neg (by decide)).trans fb12) ?_
  refine kc_call_rule (M2 := wk_m70) (av := [.inr (.inr (.inl (some 31))), .inr (.inr (.inl (some 62)))]) (r := []) rfl rfl (kc_Con_le (kt_row (d := 0) (c1 := 31) (c2 := 62) (m := 2) hg rfl (by decide) rfl (by decide) (by decide)) (by omega)) (fun rv h' hq => ?_)
  obtain ⟨rfl, rfl⟩ := hq
  rw [show kz_cp (kt_K h 1 32 30) 62 0 31 0 2 = kt_K h 1 32 31 from kt_s (a := 1) (b := 32) (K := 30) (k := 30) (by decide) (by decide) (by decide)]
  show kc_Ev g (d + 2) wk_m68 _ 131 [(0, .inr (.inr (.inl (some 32)))), (1, .inr (.inr (.inl (some 1))))] [] (kt_K h 1 32 31)
  exact kc_ret_ok rfl (rv := none) rfl ⟨rfl, rfl⟩
theorem kt_ref32_1_4 {h : kc_H} (i : Nat) (hi : i < 6) : kt_K h 32 1 (2 + i) 33 i = h 33 i ∧ kt_K h 32 1 (2 + i) 2 i = h 2 i := by
  have z : kt_ln 1 = 0 := by decide
  unfold kt_K
  exact ⟨if_neg (by rintro ⟨q1, q2, q3⟩; omega), if_neg (by rintro ⟨q1, q2, q3⟩; rw [show 2 - 1 = 1 from rfl, z] at q3; omega)⟩
theorem kt_sp32_1_4 (i : Nat) (hi : i < 6) : kc_shp (34 + i) = some (0, 0, 6) ∧ 34 + i < kc_N ∧ kc_shp (3 + i) = some (0, 0, 6) ∧ 3 + i < kc_N := by
  have k : ∀ i, i < 6 → kc_shp (34 + i) = some (0, 0, 6) ∧ 34 + i < kc_N ∧ kc_shp (3 + i) = some (0, 0, 6) ∧ 3 + i < kc_N := by decide +kernel
  exact k i hi
theorem kt_st32_1_4 {h : kc_H} (i : Nat) (hi : i < 6) : kz_cp (kt_K h 32 1 (2 + i)) (3 + i) 0 (34 + i) 0 6 = kt_K h 32 1 (2 + (i + 1)) := by
  have e := kt_s (h := h) (a := 32) (b := 1) (K := 2 + i) (k := 2 + i) (Nat.le_refl _) (fun j q1 q2 => by omega) (by omega)
  have z : ∀ i, i < 6 → kt_ln (2 + i) = 6 := by decide
  rw [z i hi, show 1 + (2 + i) = 3 + i from by omega, show 32 + (2 + i) = 34 + i from by omega] at e
  exact e
theorem kt_ref32_1_7 {h : kc_H} (i : Nat) (hi : i < 3) : kt_K h 32 1 (11 + i) 42 i = h 42 i ∧ kt_K h 32 1 (11 + i) 11 i = h 11 i := by
  have z : kt_ln 10 = 0 := by decide
  unfold kt_K
  exact ⟨if_neg (by rintro ⟨q1, q2, q3⟩; omega), if_neg (by rintro ⟨q1, q2, q3⟩; rw [show 11 - 1 = 10 from rfl, z] at q3; omega)⟩
theorem kt_sp32_1_7 (i : Nat) (hi : i < 3) : kc_shp (43 + i) = some (0, 0, 5) ∧ 43 + i < kc_N ∧ kc_shp (12 + i) = some (0, 0, 5) ∧ 12 + i < kc_N := by
  have k : ∀ i, i < 3 → kc_shp (43 + i) = some (0, 0, 5) ∧ 43 + i < kc_N ∧ kc_shp (12 + i) = some (0, 0, 5) ∧ 12 + i < kc_N := by decide +kernel
  exact k i hi
theorem kt_st32_1_7 {h : kc_H} (i : Nat) (hi : i < 3) : kz_cp (kt_K h 32 1 (11 + i)) (12 + i) 0 (43 + i) 0 5 = kt_K h 32 1 (11 + (i + 1)) := by
  have e := kt_s (h := h) (a := 32) (b := 1) (K := 11 + i) (k := 11 + i) (Nat.le_refl _) (fun j q1 q2 => by omega) (by omega)
  have z : ∀ i, i < 3 → kt_ln (11 + i) = 5 := by decide
  rw [z i hi, show 1 + (11 + i) = 12 + i from by omega, show 32 + (11 + i) = 43 + i from by omega] at e
  exact e
theorem kt_ref32_1_8 {h : kc_H} (i : Nat) (hi : i < 10) : kt_K h 32 1 (15 + i) 46 i = h 46 i ∧ kt_K h 32 1 (15 + i) 15 i = h 15 i := by
  have z : kt_ln 14 = 0 := by decide
  unfold kt_K
  exact ⟨if_neg (by rintro ⟨q1, q2, q3⟩; omega), if_neg (by rintro ⟨q1, q2, q3⟩; rw [show 15 - 1 = 14 from rfl, z] at q3; omega)⟩
theorem kt_sp32_1_8 (i : Nat) (hi : i < 10) : kc_shp (47 + i) = some (0, 0, 7) ∧ 47 + i < kc_N ∧ kc_shp (16 + i) = some (0, 0, 7) ∧ 16 + i < kc_N := by
  have k : ∀ i, i < 10 → kc_shp (47 + i) = some (0, 0, 7) ∧ 47 + i < kc_N ∧ kc_shp (16 + i) = some (0, 0, 7) ∧ 16 + i < kc_N := by decide +kernel
  exact k i hi
theorem kt_st32_1_8 {h : kc_H} (i : Nat) (hi : i < 10) : kz_cp (kt_K h 32 1 (15 + i)) (16 + i) 0 (47 + i) 0 7 = kt_K h 32 1 (15 + (i + 1)) := by
  have e := kt_s (h := h) (a := 32) (b := 1) (K := 15 + i) (k := 15 + i) (Nat.le_refl _) (fun j q1 q2 => by omega) (by omega)
  have z : ∀ i, i < 10 → kt_ln (15 + i) = 7 := by decide
  rw [z i hi, show 1 + (15 + i) = 16 + i from by omega, show 32 + (15 + i) = 47 + i from by omega] at e
  exact e
theorem kt_ref32_1_11 {h : kc_H} (i : Nat) (hi : i < 2) : kt_K h 32 1 (28 + i) 59 i = h 59 i ∧ kt_K h 32 1 (28 + i) 28 i = h 28 i := by
  have z : kt_ln 27 = 0 := by decide
  unfold kt_K
  exact ⟨if_neg (by rintro ⟨q1, q2, q3⟩; omega), if_neg (by rintro ⟨q1, q2, q3⟩; rw [show 28 - 1 = 27 from rfl, z] at q3; omega)⟩
theorem kt_sp32_1_11 (i : Nat) (hi : i < 2) : kc_shp (60 + i) = some (0, 0, 240) ∧ 60 + i < kc_N ∧ kc_shp (29 + i) = some (0, 0, 240) ∧ 29 + i < kc_N := by
  have k : ∀ i, i < 2 → kc_shp (60 + i) = some (0, 0, 240) ∧ 60 + i < kc_N ∧ kc_shp (29 + i) = some (0, 0, 240) ∧ 29 + i < kc_N := by decide +kernel
  exact k i hi
theorem kt_st32_1_11 {h : kc_H} (i : Nat) (hi : i < 2) : kz_cp (kt_K h 32 1 (28 + i)) (29 + i) 0 (60 + i) 0 240 = kt_K h 32 1 (28 + (i + 1)) := by
  have e := kt_s (h := h) (a := 32) (b := 1) (K := 28 + i) (k := 28 + i) (Nat.le_refl _) (fun j q1 q2 => by omega) (by omega)
  have z : ∀ i, i < 2 → kt_ln (28 + i) = 240 := by decide
  rw [z i hi, show 1 + (28 + i) = 29 + i from by omega, show 32 + (28 + i) = 60 + i from by omega] at e
  exact e
set_option maxRecDepth 20000 in
theorem kt_take32_1 {g : kc_G} {d : Nat} {h : kc_H} (hg : kc_ok g) (hw : kd_wt kd_ty h) : kc_Con g (d + 3) 68 [.inr (.inr (.inl (some 1))), .inr (.inr (.inl (some 32)))] h (fun rv h' => rv = none ∧ h' = kt_K h 32 1 31) := by
  refine kc_Con_new hg (M := wk_m68) rfl rfl rfl (show 2 ≤ 2 by decide) ?_
  have ka := kt_k32
  have kb := kt_k1
  obtain ⟨w0, -, ew0⟩ := kx_ofg (by omega) (hw _ _ _ ka.2.2.1)
  obtain ⟨w1, -, ew1⟩ := kx_ofg (by omega) (hw _ _ _ ka.2.2.2.1)
  obtain ⟨w2, -, ew2⟩ := kx_ofg (by omega) (hw _ _ _ ka.2.2.2.2.1)
  obtain ⟨w3, -, ew3⟩ := kx_ofg (by omega) (hw _ _ _ ka.2.2.2.2.2)
  have fa4 := kx_ofr (hw _ _ _ ka.1.1)
  have fb4 := kx_ofr (hw _ _ _ kb.1.1)
  have fa5 := kx_ofr (hw _ _ _ ka.1.2.1)
  have fb5 := kx_ofr (hw _ _ _ kb.1.2.1)
  have fa6 := kx_ofr (hw _ _ _ ka.1.2.2.1)
  have fb6 := kx_ofr (hw _ _ _ kb.1.2.2.1)
  have fa7 := kx_ofr (hw _ _ _ ka.1.2.2.2.1)
  have fb7 := kx_ofr (hw _ _ _ kb.1.2.2.2.1)
  have fa8 := kx_ofr (hw _ _ _ ka.1.2.2.2.2)
  have fb8 := kx_ofr (hw _ _ _ kb.1.2.2.2.2)
  have fa9 := kx_ofr (hw _ _ _ ka.2.1.1)
  have fb9 := kx_ofr (hw _ _ _ kb.2.1.1)
  have fa10 := kx_ofr (hw _ _ _ ka.2.1.2.1)
  have fb10 := kx_ofr (hw _ _ _ kb.2.1.2.1)
  have fa11 := kx_ofr (hw _ _ _ ka.2.1.2.2.1)
  have fb11 := kx_ofr (hw _ _ _ kb.2.1.2.2.1)
  have fa12 := kx_ofr (hw _ _ _ ka.2.1.2.2.2)
  have fb12 := kx_ofr (hw _ _ _ kb.2.1.2.2.2)
  refine kx_go 2 (pc' := 2) (L' := [(0, .inr (.inr (.inl (some 1)))), (1, .inr (.inr (.inl (some 32))))]) (S' := [.inr (.inr (.inl (some 32))), .inr (.inr (.inl (some 1)))]) (h' := h) (by with_unfolding_all rfl) ?_
  refine kx_getf (c := 32) (v := .inl (Int32.ofNat w0)) rfl (by decide) ew0 ?_
  refine kx_go 1 (pc' := 8) (L' := [(0, .inr (.inr (.inl (some 1)))), (1, .inr (.inr (.inl (some 32))))]) (S' := []) (h' := (kc_upd h 1 0 (.inl (Int32.ofNat w0)))) (by with_unfolding_all rfl) ?_
  refine kx_go 2 (pc' := 10) (L' := [(0, .inr (.inr (.inl (some 1)))), (1, .inr (.inr (.inl (some 32))))]) (S' := [.inr (.inr (.inl (some 32))), .inr (.inr (.inl (some 1)))]) (h' := (kc_upd h 1 0 (.inl (Int32.ofNat w0)))) (by with_unfolding_all rfl) ?_
  refine kx_getf (c := 32) (v := .inl (Int32.ofNat w1)) rfl (by decide) ((kj_uo (by decide)).trans (ew1)) ?_
  refine kx_go 1 (pc' := 16) (L' := [(0, .inr (.inr (.inl (some 1)))), (1, .inr (.inr (.inl (some 32))))]) (S' := []) (h' := (kc_upd (kc_upd h 1 0 (.inl (Int32.ofNat w0))) 1 1 (.inl (Int32.ofNat w1)))) (by with_unfolding_all rfl) ?_
  refine kx_go 2 (pc' := 18) (L' := [(0, .inr (.inr (.inl (some 1)))), (1, .inr (.inr (.inl (some 32))))]) (S' := [.inr (.inr (.inl (some 32))), .inr (.inr (.inl (some 1)))]) (h' := (kc_upd (kc_upd h 1 0 (.inl (Int32.ofNat w0))) 1 1 (.inl (Int32.ofNat w1)))) (by with_unfolding_all rfl) ?_
  refine kx_getf (c := 32) (v := .inl (Int32.ofNat w2)) rfl (by decide) ((kj_uo (by decide)).trans ((kj_uo (by decide)).trans (ew2))) ?_
  refine kx_go 1 (pc' := 24) (L' := [(0, .inr (.inr (.inl (some 1)))), (1, .inr (.inr (.inl (some 32))))]) (S' := []) (h' := (kc_upd (kc_upd (kc_upd h 1 0 (.inl (Int32.ofNat w0))) 1 1 (.inl (Int32.ofNat w1))) 1 2 (.inl (Int32.ofNat w2)))) (by with_unfolding_all rfl) ?_
  refine kx_go 2 (pc' := 26) (L' := [(0, .inr (.inr (.inl (some 1)))), (1, .inr (.inr (.inl (some 32))))]) (S' := [.inr (.inr (.inl (some 32))), .inr (.inr (.inl (some 1)))]) (h' := (kc_upd (kc_upd (kc_upd h 1 0 (.inl (Int32.ofNat w0))) 1 1 (.inl (Int32.ofNat w1))) 1 2 (.inl (Int32.ofNat w2)))) (by with_unfolding_all rfl) ?_
  refine kx_getf (c := 32) (v := .inl (Int32.ofNat w3)) rfl (by decide) ((kj_uo (by decide)).trans ((kj_uo (by decide)).trans ((kj_uo (by decide)).trans (ew3)))) ?_
  refine kx_go 1 (pc' := 32) (L' := [(0, .inr (.inr (.inl (some 1)))), (1, .inr (.inr (.inl (some 32))))]) (S' := []) (h' := (kc_upd (kc_upd (kc_upd (kc_upd h 1 0 (.inl (Int32.ofNat w0))) 1 1 (.inl (Int32.ofNat w1))) 1 2 (.inl (Int32.ofNat w2))) 1 3 (.inl (Int32.ofNat w3)))) (by with_unfolding_all rfl) ?_
  rw [kt_0 ew0 ew1 ew2 ew3]
  refine kx_go 1 (pc' := 33) (L' := [(0, .inr (.inr (.inl (some 1)))), (1, .inr (.inr (.inl (some 32))))]) (S' := [.inr (.inr (.inl (some 32)))]) (h' := (kt_K h 32 1 1)) (by with_unfolding_all rfl) ?_
  refine kx_getf (c := 32) (v := .inr (.inr (.inl (some 33)))) rfl (by decide) ((show kt_K h 32 1 1 32 4 = h 32 4 from if_neg (by decide)).trans fa4) ?_
  refine kx_go 1 (pc' := 37) (L' := [(0, .inr (.inr (.inl (some 1)))), (1, .inr (.inr (.inl (some 32))))]) (S' := [.inr (.inr (.inl (some 1))), .inr (.inr (.inl (some 33)))]) (h' := (kt_K h 32 1 1)) (by with_unfolding_all rfl) ?_
  refine kx_getf (c := 1) (v := .inr (.inr (.inl (some 2)))) rfl (by decide) ((show kt_K h 32 1 1 1 4 = h 1 4 from if_neg (by decide)).trans fb4) ?_
  rw [show kt_K h 32 1 1 = kt_K h 32 1 (2 + 0) from kt_skip (by decide) (by decide)]
  refine kc_call_rule (M2 := wk_m69) (av := [.inr (.inr (.inl (some 33))), .inr (.inr (.inl (some 2)))]) (r := []) rfl rfl (kc_Con_le (kt_rows (d := 0) (A := 33) (B := 2) (n := 6) (m := 6) (K := fun i => kt_K h 32 1 (2 + i)) (ra := fun i => 34 + i) (rb := fun i => 3 + i) hg rfl (by decide) (by decide) rfl (by decide) (by decide) (by decide) (by decide) (fun i hi => (kt_ref32_1_4 i hi).1.trans (kx_ofr (hw _ _ _ (kt_q32_4 i hi)))) (fun i hi => (kt_ref32_1_4 i hi).2.trans (kx_ofr (hw _ _ _ (kt_q1_4 i hi)))) (fun i hi => kt_sp32_1_4 i hi) (fun i hi => kt_st32_1_4 i hi)) (by omega)) (fun rv h' hq => ?_)
  obtain ⟨rfl, rfl⟩ := hq
  show kc_Ev g (d + 2) wk_m68 _ 43 [(0, .inr (.inr (.inl (some 1)))), (1, .inr (.inr (.inl (some 32))))] [] (kt_K h 32 1 8)
  refine kx_go 1 (pc' := 44) (L' := [(0, .inr (.inr (.inl (some 1)))), (1, .inr (.inr (.inl (some 32))))]) (S' := [.inr (.inr (.inl (some 32)))]) (h' := (kt_K h 32 1 8)) (by with_unfolding_all rfl) ?_
  refine kx_getf (c := 32) (v := .inr (.inr (.inl (some 40)))) rfl (by decide) ((show kt_K h 32 1 8 32 5 = h 32 5 from if_neg (by decide)).trans fa5) ?_
  refine kx_go 1 (pc' := 48) (L' := [(0, .inr (.inr (.inl (some 1)))), (1, .inr (.inr (.inl (some 32))))]) (S' := [.inr (.inr (.inl (some 1))), .inr (.inr (.inl (some 40)))]) (h' := (kt_K h 32 1 8)) (by with_unfolding_all rfl) ?_
  refine kx_getf (c := 1) (v := .inr (.inr (.inl (some 9)))) rfl (by decide) ((show kt_K h 32 1 8 1 5 = h 1 5 from if_neg (by decide)).trans fb5) ?_
  refine kc_call_rule (M2 := wk_m70) (av := [.inr (.inr (.inl (some 40))), .inr (.inr (.inl (some 9)))]) (r := []) rfl rfl (kc_Con_le (kt_row (d := 0) (c1 := 40) (c2 := 9) (m := 6) hg rfl (by decide) rfl (by decide) (by decide)) (by omega)) (fun rv h' hq => ?_)
  obtain ⟨rfl, rfl⟩ := hq
  rw [show kz_cp (kt_K h 32 1 8) 9 0 40 0 6 = kt_K h 32 1 9 from kt_s (a := 32) (b := 1) (K := 8) (k := 8) (by decide) (by decide) (by decide)]
  show kc_Ev g (d + 2) wk_m68 _ 54 [(0, .inr (.inr (.inl (some 1)))), (1, .inr (.inr (.inl (some 32))))] [] (kt_K h 32 1 9)
  refine kx_go 1 (pc' := 55) (L' := [(0, .inr (.inr (.inl (some 1)))), (1, .inr (.inr (.inl (some 32))))]) (S' := [.inr (.inr (.inl (some 32)))]) (h' := (kt_K h 32 1 9)) (by with_unfolding_all rfl) ?_
  refine kx_getf (c := 32) (v := .inr (.inr (.inl (some 41)))) rfl (by decide) ((show kt_K h 32 1 9 32 6 = h 32 6 from if_neg (by decide)).trans fa6) ?_
  refine kx_go 1 (pc' := 59) (L' := [(0, .inr (.inr (.inl (some 1)))), (1, .inr (.inr (.inl (some 32))))]) (S' := [.inr (.inr (.inl (some 1))), .inr (.inr (.inl (some 41)))]) (h' := (kt_K h 32 1 9)) (by with_unfolding_all rfl) ?_
  refine kx_getf (c := 1) (v := .inr (.inr (.inl (some 10)))) rfl (by decide) ((show kt_K h 32 1 9 1 6 = h 1 6 from if_neg (by decide)).trans fb6) ?_
  refine kc_call_rule (M2 := wk_m70) (av := [.inr (.inr (.inl (some 41))), .inr (.inr (.inl (some 10)))]) (r := []) rfl rfl (kc_Con_le (kt_row (d := 0) (c1 := 41) (c2 := 10) (m := 6) hg rfl (by decide) rfl (by decide) (by decide)) (by omega)) (fun rv h' hq => ?_)
  obtain ⟨rfl, rfl⟩ := hq
  rw [show kz_cp (kt_K h 32 1 9) 10 0 41 0 6 = kt_K h 32 1 10 from kt_s (a := 32) (b := 1) (K := 9) (k := 9) (by decide) (by decide) (by decide)]
  show kc_Ev g (d + 2) wk_m68 _ 65 [(0, .inr (.inr (.inl (some 1)))), (1, .inr (.inr (.inl (some 32))))] [] (kt_K h 32 1 10)
  refine kx_go 1 (pc' := 66) (L' := [(0, .inr (.inr (.inl (some 1)))), (1, .inr (.inr (.inl (some 32))))]) (S' := [.inr (.inr (.inl (some 32)))]) (h' := (kt_K h 32 1 10)) (by with_unfolding_all rfl) ?_
  refine kx_getf (c := 32) (v := .inr (.inr (.inl (some 42)))) rfl (by decide) ((show kt_K h 32 1 10 32 7 = h 32 7 from if_neg (by decide)).trans fa7) ?_
  refine kx_go 1 (pc' := 70) (L' := [(0, .inr (.inr (.inl (some 1)))), (1, .inr (.inr (.inl (some 32))))]) (S' := [.inr (.inr (.inl (some 1))), .inr (.inr (.inl (some 42)))]) (h' := (kt_K h 32 1 10)) (by with_unfolding_all rfl) ?_
  refine kx_getf (c := 1) (v := .inr (.inr (.inl (some 11)))) rfl (by decide) ((show kt_K h 32 1 10 1 7 = h 1 7 from if_neg (by decide)).trans fb7) ?_
  rw [show kt_K h 32 1 10 = kt_K h 32 1 (11 + 0) from kt_skip (by decide) (by decide)]
  refine kc_call_rule (M2 := wk_m69) (av := [.inr (.inr (.inl (some 42))), .inr (.inr (.inl (some 11)))]) (r := []) rfl rfl (kc_Con_le (kt_rows (d := 0) (A := 42) (B := 11) (n := 3) (m := 5) (K := fun i => kt_K h 32 1 (11 + i)) (ra := fun i => 43 + i) (rb := fun i => 12 + i) hg rfl (by decide) (by decide) rfl (by decide) (by decide) (by decide) (by decide) (fun i hi => (kt_ref32_1_7 i hi).1.trans (kx_ofr (hw _ _ _ (kt_q32_7 i hi)))) (fun i hi => (kt_ref32_1_7 i hi).2.trans (kx_ofr (hw _ _ _ (kt_q1_7 i hi)))) (fun i hi => kt_sp32_1_7 i hi) (fun i hi => kt_st32_1_7 i hi)) (by omega)) (fun rv h' hq => ?_)
  obtain ⟨rfl, rfl⟩ := hq
  show kc_Ev g (d + 2) wk_m68 _ 76 [(0, .inr (.inr (.inl (some 1)))), (1, .inr (.inr (.inl (some 32))))] [] (kt_K h 32 1 14)
  refine kx_go 1 (pc' := 77) (L' := [(0, .inr (.inr (.inl (some 1)))), (1, .inr (.inr (.inl (some 32))))]) (S' := [.inr (.inr (.inl (some 32)))]) (h' := (kt_K h 32 1 14)) (by with_unfolding_all rfl) ?_
  refine kx_getf (c := 32) (v := .inr (.inr (.inl (some 46)))) rfl (by decide) ((show kt_K h 32 1 14 32 8 = h 32 8 from if_neg (by decide)).trans fa8) ?_
  refine kx_go 1 (pc' := 81) (L' := [(0, .inr (.inr (.inl (some 1)))), (1, .inr (.inr (.inl (some 32))))]) (S' := [.inr (.inr (.inl (some 1))), .inr (.inr (.inl (some 46)))]) (h' := (kt_K h 32 1 14)) (by with_unfolding_all rfl) ?_
  refine kx_getf (c := 1) (v := .inr (.inr (.inl (some 15)))) rfl (by decide) ((show kt_K h 32 1 14 1 8 = h 1 8 from if_neg (by decide)).trans fb8) ?_
  rw [show kt_K h 32 1 14 = kt_K h 32 1 (15 + 0) from kt_skip (by decide) (by decide)]
  refine kc_call_rule (M2 := wk_m69) (av := [.inr (.inr (.inl (some 46))), .inr (.inr (.inl (some 15)))]) (r := []) rfl rfl (kc_Con_le (kt_rows (d := 0) (A := 46) (B := 15) (n := 10) (m := 7) (K := fun i => kt_K h 32 1 (15 + i)) (ra := fun i => 47 + i) (rb := fun i => 16 + i) hg rfl (by decide) (by decide) rfl (by decide) (by decide) (by decide) (by decide) (fun i hi => (kt_ref32_1_8 i hi).1.trans (kx_ofr (hw _ _ _ (kt_q32_8 i hi)))) (fun i hi => (kt_ref32_1_8 i hi).2.trans (kx_ofr (hw _ _ _ (kt_q1_8 i hi)))) (fun i hi => kt_sp32_1_8 i hi) (fun i hi => kt_st32_1_8 i hi)) (by omega)) (fun rv h' hq => ?_)
  obtain ⟨rfl, rfl⟩ := hq
  show kc_Ev g (d + 2) wk_m68 _ 87 [(0, .inr (.inr (.inl (some 1)))), (1, .inr (.inr (.inl (some 32))))] [] (kt_K h 32 1 25)
  refine kx_go 1 (pc' := 88) (L' := [(0, .inr (.inr (.inl (some 1)))), (1, .inr (.inr (.inl (some 32))))]) (S' := [.inr (.inr (.inl (some 32)))]) (h' := (kt_K h 32 1 25)) (by with_unfolding_all rfl) ?_
  refine kx_getf (c := 32) (v := .inr (.inr (.inl (some 57)))) rfl (by decide) ((show kt_K h 32 1 25 32 9 = h 32 9 from if_neg (by decide)).trans fa9) ?_
  refine kx_go 1 (pc' := 92) (L' := [(0, .inr (.inr (.inl (some 1)))), (1, .inr (.inr (.inl (some 32))))]) (S' := [.inr (.inr (.inl (some 1))), .inr (.inr (.inl (some 57)))]) (h' := (kt_K h 32 1 25)) (by with_unfolding_all rfl) ?_
  refine kx_getf (c := 1) (v := .inr (.inr (.inl (some 26)))) rfl (by decide) ((show kt_K h 32 1 25 1 9 = h 1 9 from if_neg (by decide)).trans fb9) ?_
  refine kc_call_rule (M2 := wk_m70) (av := [.inr (.inr (.inl (some 57))), .inr (.inr (.inl (some 26)))]) (r := []) rfl rfl (kc_Con_le (kt_row (d := 0) (c1 := 57) (c2 := 26) (m := 2) hg rfl (by decide) rfl (by decide) (by decide)) (by omega)) (fun rv h' hq => ?_)
  obtain ⟨rfl, rfl⟩ := hq
  rw [show kz_cp (kt_K h 32 1 25) 26 0 57 0 2 = kt_K h 32 1 26 from kt_s (a := 32) (b := 1) (K := 25) (k := 25) (by decide) (by decide) (by decide)]
  show kc_Ev g (d + 2) wk_m68 _ 98 [(0, .inr (.inr (.inl (some 1)))), (1, .inr (.inr (.inl (some 32))))] [] (kt_K h 32 1 26)
  refine kx_go 1 (pc' := 99) (L' := [(0, .inr (.inr (.inl (some 1)))), (1, .inr (.inr (.inl (some 32))))]) (S' := [.inr (.inr (.inl (some 32)))]) (h' := (kt_K h 32 1 26)) (by with_unfolding_all rfl) ?_
  refine kx_getf (c := 32) (v := .inr (.inr (.inl (some 58)))) rfl (by decide) ((show kt_K h 32 1 26 32 10 = h 32 10 from if_neg (by decide)).trans fa10) ?_
  refine kx_go 1 (pc' := 103) (L' := [(0, .inr (.inr (.inl (some 1)))), (1, .inr (.inr (.inl (some 32))))]) (S' := [.inr (.inr (.inl (some 1))), .inr (.inr (.inl (some 58)))]) (h' := (kt_K h 32 1 26)) (by with_unfolding_all rfl) ?_
  refine kx_getf (c := 1) (v := .inr (.inr (.inl (some 27)))) rfl (by decide) ((show kt_K h 32 1 26 1 10 = h 1 10 from if_neg (by decide)).trans fb10) ?_
  refine kc_call_rule (M2 := wk_m70) (av := [.inr (.inr (.inl (some 58))), .inr (.inr (.inl (some 27)))]) (r := []) rfl rfl (kc_Con_le (kt_row (d := 0) (c1 := 58) (c2 := 27) (m := 5) hg rfl (by decide) rfl (by decide) (by decide)) (by omega)) (fun rv h' hq => ?_)
  obtain ⟨rfl, rfl⟩ := hq
  rw [show kz_cp (kt_K h 32 1 26) 27 0 58 0 5 = kt_K h 32 1 27 from kt_s (a := 32) (b := 1) (K := 26) (k := 26) (by decide) (by decide) (by decide)]
  show kc_Ev g (d + 2) wk_m68 _ 109 [(0, .inr (.inr (.inl (some 1)))), (1, .inr (.inr (.inl (some 32))))] [] (kt_K h 32 1 27)
  refine kx_go 1 (pc' := 110) (L' := [(0, .inr (.inr (.inl (some 1)))), (1, .inr (.inr (.inl (some 32))))]) (S' := [.inr (.inr (.inl (some 32)))]) (h' := (kt_K h 32 1 27)) (by with_unfolding_all rfl) ?_
  refine kx_getf (c := 32) (v := .inr (.inr (.inl (some 59)))) rfl (by decide) ((show kt_K h 32 1 27 32 11 = h 32 11 from if_neg (by decide)).trans fa11) ?_
  refine kx_go 1 (pc' := 114) (L' := [(0, .inr (.inr (.inl (some 1)))), (1, .inr (.inr (.inl (some 32))))]) (S' := [.inr (.inr (.inl (some 1))), .inr (.inr (.inl (some 59)))]) (h' := (kt_K h 32 1 27)) (by with_unfolding_all rfl) ?_
  refine kx_getf (c := 1) (v := .inr (.inr (.inl (some 28)))) rfl (by decide) ((show kt_K h 32 1 27 1 11 = h 1 11 from if_neg (by decide)).trans fb11) ?_
  rw [show kt_K h 32 1 27 = kt_K h 32 1 (28 + 0) from kt_skip (by decide) (by decide)]
  refine kc_call_rule (M2 := wk_m69) (av := [.inr (.inr (.inl (some 59))), .inr (.inr (.inl (some 28)))]) (r := []) rfl rfl (kc_Con_le (kt_rows (d := 0) (A := 59) (B := 28) (n := 2) (m := 240) (K := fun i => kt_K h 32 1 (28 + i)) (ra := fun i => 60 + i) (rb := fun i => 29 + i) hg rfl (by decide) (by decide) rfl (by decide) (by decide) (by decide) (by decide) (fun i hi => (kt_ref32_1_11 i hi).1.trans (kx_ofr (hw _ _ _ (kt_q32_11 i hi)))) (fun i hi => (kt_ref32_1_11 i hi).2.trans (kx_ofr (hw _ _ _ (kt_q1_11 i hi)))) (fun i hi => kt_sp32_1_11 i hi) (fun i hi => kt_st32_1_11 i hi)) (by omega)) (fun rv h' hq => ?_)
  obtain ⟨rfl, rfl⟩ := hq
  show kc_Ev g (d + 2) wk_m68 _ 120 [(0, .inr (.inr (.inl (some 1)))), (1, .inr (.inr (.inl (some 32))))] [] (kt_K h 32 1 30)
  refine kx_go 1 (pc' := 121) (L' := [(0, .inr (.inr (.inl (some 1)))), (1, .inr (.inr (.inl (some 32))))]) (S' := [.inr (.inr (.inl (some 32)))]) (h' := (kt_K h 32 1 30)) (by with_unfolding_all rfl) ?_
  refine kx_getf (c := 32) (v := .inr (.inr (.inl (some 62)))) rfl (by decide) ((show kt_K h 32 1 30 32 12 = h 32 12 from if_neg (by decide)).trans fa12) ?_
  refine kx_go 1 (pc' := 125) (L' := [(0, .inr (.inr (.inl (some 1)))), (1, .inr (.inr (.inl (some 32))))]) (S' := [.inr (.inr (.inl (some 1))), .inr (.inr (.inl (some 62)))]) (h' := (kt_K h 32 1 30)) (by with_unfolding_all rfl) ?_
  refine kx_getf (c := 1) (v := .inr (.inr (.inl (some 31)))) rfl (by decide) ((show kt_K h 32 1 30 1 12 = h 1 12 from if_neg (by decide)).trans fb12) ?_
  refine kc_call_rule (M2 := wk_m70) (av := [.inr (.inr (.inl (some 62))), .inr (.inr (.inl (some 31)))]) (r := []) rfl rfl (kc_Con_le (kt_row (d := 0) (c1 := 62) (c2 := 31) (m := 2) hg rfl (by decide) rfl (by decide) (by decide)) (by omega)) (fun rv h' hq => ?_)
  obtain ⟨rfl, rfl⟩ := hq
  rw [show kz_cp (kt_K h 32 1 30) 31 0 62 0 2 = kt_K h 32 1 31 from kt_s (a := 32) (b := 1) (K := 30) (k := 30) (by decide) (by decide) (by decide)]
  show kc_Ev g (d + 2) wk_m68 _ 131 [(0, .inr (.inr (.inl (some 1)))), (1, .inr (.inr (.inl (some 32))))] [] (kt_K h 32 1 31)
  exact kc_ret_ok rfl (rv := none) rfl ⟨rfl, rfl⟩
theorem kt_ref1_64_4 {h : kc_H} (i : Nat) (hi : i < 6) : kt_K h 1 64 (2 + i) 2 i = h 2 i ∧ kt_K h 1 64 (2 + i) 65 i = h 65 i := by
  have z : kt_ln 1 = 0 := by decide
  unfold kt_K
  exact ⟨if_neg (by rintro ⟨q1, q2, q3⟩; omega), if_neg (by rintro ⟨q1, q2, q3⟩; rw [show 65 - 64 = 1 from rfl, z] at q3; omega)⟩
theorem kt_sp1_64_4 (i : Nat) (hi : i < 6) : kc_shp (3 + i) = some (0, 0, 6) ∧ 3 + i < kc_N ∧ kc_shp (66 + i) = some (0, 0, 6) ∧ 66 + i < kc_N := by
  have k : ∀ i, i < 6 → kc_shp (3 + i) = some (0, 0, 6) ∧ 3 + i < kc_N ∧ kc_shp (66 + i) = some (0, 0, 6) ∧ 66 + i < kc_N := by decide +kernel
  exact k i hi
theorem kt_st1_64_4 {h : kc_H} (i : Nat) (hi : i < 6) : kz_cp (kt_K h 1 64 (2 + i)) (66 + i) 0 (3 + i) 0 6 = kt_K h 1 64 (2 + (i + 1)) := by
  have e := kt_s (h := h) (a := 1) (b := 64) (K := 2 + i) (k := 2 + i) (Nat.le_refl _) (fun j q1 q2 => by omega) (by omega)
  have z : ∀ i, i < 6 → kt_ln (2 + i) = 6 := by decide
  rw [z i hi, show 64 + (2 + i) = 66 + i from by omega, show 1 + (2 + i) = 3 + i from by omega] at e
  exact e
theorem kt_ref1_64_7 {h : kc_H} (i : Nat) (hi : i < 3) : kt_K h 1 64 (11 + i) 11 i = h 11 i ∧ kt_K h 1 64 (11 + i) 74 i = h 74 i := by
  have z : kt_ln 10 = 0 := by decide
  unfold kt_K
  exact ⟨if_neg (by rintro ⟨q1, q2, q3⟩; omega), if_neg (by rintro ⟨q1, q2, q3⟩; rw [show 74 - 64 = 10 from rfl, z] at q3; omega)⟩
theorem kt_sp1_64_7 (i : Nat) (hi : i < 3) : kc_shp (12 + i) = some (0, 0, 5) ∧ 12 + i < kc_N ∧ kc_shp (75 + i) = some (0, 0, 5) ∧ 75 + i < kc_N := by
  have k : ∀ i, i < 3 → kc_shp (12 + i) = some (0, 0, 5) ∧ 12 + i < kc_N ∧ kc_shp (75 + i) = some (0, 0, 5) ∧ 75 + i < kc_N := by decide +kernel
  exact k i hi
theorem kt_st1_64_7 {h : kc_H} (i : Nat) (hi : i < 3) : kz_cp (kt_K h 1 64 (11 + i)) (75 + i) 0 (12 + i) 0 5 = kt_K h 1 64 (11 + (i + 1)) := by
  have e := kt_s (h := h) (a := 1) (b := 64) (K := 11 + i) (k := 11 + i) (Nat.le_refl _) (fun j q1 q2 => by omega) (by omega)
  have z : ∀ i, i < 3 → kt_ln (11 + i) = 5 := by decide
  rw [z i hi, show 64 + (11 + i) = 75 + i from by omega, show 1 + (11 + i) = 12 + i from by omega] at e
  exact e
theorem kt_ref1_64_8 {h : kc_H} (i : Nat) (hi : i < 10) : kt_K h 1 64 (15 + i) 15 i = h 15 i ∧ kt_K h 1 64 (15 + i) 78 i = h 78 i := by
  have z : kt_ln 14 = 0 := by decide
  unfold kt_K
  exact ⟨if_neg (by rintro ⟨q1, q2, q3⟩; omega), if_neg (by rintro ⟨q1, q2, q3⟩; rw [show 78 - 64 = 14 from rfl, z] at q3; omega)⟩
theorem kt_sp1_64_8 (i : Nat) (hi : i < 10) : kc_shp (16 + i) = some (0, 0, 7) ∧ 16 + i < kc_N ∧ kc_shp (79 + i) = some (0, 0, 7) ∧ 79 + i < kc_N := by
  have k : ∀ i, i < 10 → kc_shp (16 + i) = some (0, 0, 7) ∧ 16 + i < kc_N ∧ kc_shp (79 + i) = some (0, 0, 7) ∧ 79 + i < kc_N := by decide +kernel
  exact k i hi
theorem kt_st1_64_8 {h : kc_H} (i : Nat) (hi : i < 10) : kz_cp (kt_K h 1 64 (15 + i)) (79 + i) 0 (16 + i) 0 7 = kt_K h 1 64 (15 + (i + 1)) := by
  have e := kt_s (h := h) (a := 1) (b := 64) (K := 15 + i) (k := 15 + i) (Nat.le_refl _) (fun j q1 q2 => by omega) (by omega)
  have z : ∀ i, i < 10 → kt_ln (15 + i) = 7 := by decide
  rw [z i hi, show 64 + (15 + i) = 79 + i from by omega, show 1 + (15 + i) = 16 + i from by omega] at e
  exact e
theorem kt_ref1_64_11 {h : kc_H} (i : Nat) (hi : i < 2) : kt_K h 1 64 (28 + i) 28 i = h 28 i ∧ kt_K h 1 64 (28 + i) 91 i = h 91 i := by
  have z : kt_ln 27 = 0 := by decide
  unfold kt_K
  exact ⟨if_neg (by rintro ⟨q1, q2, q3⟩; omega), if_neg (by rintro ⟨q1, q2, q3⟩; rw [show 91 - 64 = 27 from rfl, z] at q3; omega)⟩
theorem kt_sp1_64_11 (i : Nat) (hi : i < 2) : kc_shp (29 + i) = some (0, 0, 240) ∧ 29 + i < kc_N ∧ kc_shp (92 + i) = some (0, 0, 240) ∧ 92 + i < kc_N := by
  have k : ∀ i, i < 2 → kc_shp (29 + i) = some (0, 0, 240) ∧ 29 + i < kc_N ∧ kc_shp (92 + i) = some (0, 0, 240) ∧ 92 + i < kc_N := by decide +kernel
  exact k i hi
theorem kt_st1_64_11 {h : kc_H} (i : Nat) (hi : i < 2) : kz_cp (kt_K h 1 64 (28 + i)) (92 + i) 0 (29 + i) 0 240 = kt_K h 1 64 (28 + (i + 1)) := by
  have e := kt_s (h := h) (a := 1) (b := 64) (K := 28 + i) (k := 28 + i) (Nat.le_refl _) (fun j q1 q2 => by omega) (by omega)
  have z : ∀ i, i < 2 → kt_ln (28 + i) = 240 := by decide
  rw [z i hi, show 64 + (28 + i) = 92 + i from by omega, show 1 + (28 + i) = 29 + i from by omega] at e
  exact e
set_option maxRecDepth 20000 in
theorem kt_take1_64 {g : kc_G} {d : Nat} {h : kc_H} (hg : kc_ok g) (hw : kd_wt kd_ty h) : kc_Con g (d + 3) 68 [.inr (.inr (.inl (some 64))), .inr (.inr (.inl (some 1)))] h (fun rv h' => rv = none ∧ h' = kt_K h 1 64 31) := by
  refine kc_Con_new hg (M := wk_m68) rfl rfl rfl (show 2 ≤ 2 by decide) ?_
  have ka := kt_k1
  have kb := kt_k64
  obtain ⟨w0, -, ew0⟩ := kx_ofg (by omega) (hw _ _ _ ka.2.2.1)
  obtain ⟨w1, -, ew1⟩ := kx_ofg (by omega) (hw _ _ _ ka.2.2.2.1)
  obtain ⟨w2, -, ew2⟩ := kx_ofg (by omega) (hw _ _ _ ka.2.2.2.2.1)
  obtain ⟨w3, -, ew3⟩ := kx_ofg (by omega) (hw _ _ _ ka.2.2.2.2.2)
  have fa4 := kx_ofr (hw _ _ _ ka.1.1)
  have fb4 := kx_ofr (hw _ _ _ kb.1.1)
  have fa5 := kx_ofr (hw _ _ _ ka.1.2.1)
  have fb5 := kx_ofr (hw _ _ _ kb.1.2.1)
  have fa6 := kx_ofr (hw _ _ _ ka.1.2.2.1)
  have fb6 := kx_ofr (hw _ _ _ kb.1.2.2.1)
  have fa7 := kx_ofr (hw _ _ _ ka.1.2.2.2.1)
  have fb7 := kx_ofr (hw _ _ _ kb.1.2.2.2.1)
  have fa8 := kx_ofr (hw _ _ _ ka.1.2.2.2.2)
  have fb8 := kx_ofr (hw _ _ _ kb.1.2.2.2.2)
  have fa9 := kx_ofr (hw _ _ _ ka.2.1.1)
  have fb9 := kx_ofr (hw _ _ _ kb.2.1.1)
  have fa10 := kx_ofr (hw _ _ _ ka.2.1.2.1)
  have fb10 := kx_ofr (hw _ _ _ kb.2.1.2.1)
  have fa11 := kx_ofr (hw _ _ _ ka.2.1.2.2.1)
  have fb11 := kx_ofr (hw _ _ _ kb.2.1.2.2.1)
  have fa12 := kx_ofr (hw _ _ _ ka.2.1.2.2.2)
  have fb12 := kx_ofr (hw _ _ _ kb.2.1.2.2.2)
  refine kx_go 2 (pc' := 2) (L' := [(0, .inr (.inr (.inl (some 64)))), (1, .inr (.inr (.inl (some 1))))]) (S' := [.inr (.inr (.inl (some 1))), .inr (.inr (.inl (some 64)))]) (h' := h) (by with_unfolding_all rfl) ?_
  refine kx_getf (c := 1) (v := .inl (Int32.ofNat w0)) rfl (by decide) ew0 ?_
  refine kx_go 1 (pc' := 8) (L' := [(0, .inr (.inr (.inl (some 64)))), (1, .inr (.inr (.inl (some 1))))]) (S' := []) (h' := (kc_upd h 64 0 (.inl (Int32.ofNat w0)))) (by with_unfolding_all rfl) ?_
  refine kx_go 2 (pc' := 10) (L' := [(0, .inr (.inr (.inl (some 64)))), (1, .inr (.inr (.inl (some 1))))]) (S' := [.inr (.inr (.inl (some 1))), .inr (.inr (.inl (some 64)))]) (h' := (kc_upd h 64 0 (.inl (Int32.ofNat w0)))) (by with_unfolding_all rfl) ?_
  refine kx_getf (c := 1) (v := .inl (Int32.ofNat w1)) rfl (by decide) ((kj_uo (by decide)).trans (ew1)) ?_
  refine kx_go 1 (pc' := 16) (L' := [(0, .inr (.inr (.inl (some 64)))), (1, .inr (.inr (.inl (some 1))))]) (S' := []) (h' := (kc_upd (kc_upd h 64 0 (.inl (Int32.ofNat w0))) 64 1 (.inl (Int32.ofNat w1)))) (by with_unfolding_all rfl) ?_
  refine kx_go 2 (pc' := 18) (L' := [(0, .inr (.inr (.inl (some 64)))), (1, .inr (.inr (.inl (some 1))))]) (S' := [.inr (.inr (.inl (some 1))), .inr (.inr (.inl (some 64)))]) (h' := (kc_upd (kc_upd h 64 0 (.inl (Int32.ofNat w0))) 64 1 (.inl (Int32.ofNat w1)))) (by with_unfolding_all rfl) ?_
  refine kx_getf (c := 1) (v := .inl (Int32.ofNat w2)) rfl (by decide) ((kj_uo (by decide)).trans ((kj_uo (by decide)).trans (ew2))) ?_
  refine kx_go 1 (pc' := 24) (L' := [(0, .inr (.inr (.inl (some 64)))), (1, .inr (.inr (.inl (some 1))))]) (S' := []) (h' := (kc_upd (kc_upd (kc_upd h 64 0 (.inl (Int32.ofNat w0))) 64 1 (.inl (Int32.ofNat w1))) 64 2 (.inl (Int32.ofNat w2)))) (by with_unfolding_all rfl) ?_
  refine kx_go 2 (pc' := 26) (L' := [(0, .inr (.inr (.inl (some 64)))), (1, .inr (.inr (.inl (some 1))))]) (S' := [.inr (.inr (.inl (some 1))), .inr (.inr (.inl (some 64)))]) (h' := (kc_upd (kc_upd (kc_upd h 64 0 (.inl (Int32.ofNat w0))) 64 1 (.inl (Int32.ofNat w1))) 64 2 (.inl (Int32.ofNat w2)))) (by with_unfolding_all rfl) ?_
  refine kx_getf (c := 1) (v := .inl (Int32.ofNat w3)) rfl (by decide) ((kj_uo (by decide)).trans ((kj_uo (by decide)).trans ((kj_uo (by decide)).trans (ew3)))) ?_
  refine kx_go 1 (pc' := 32) (L' := [(0, .inr (.inr (.inl (some 64)))), (1, .inr (.inr (.inl (some 1))))]) (S' := []) (h' := (kc_upd (kc_upd (kc_upd (kc_upd h 64 0 (.inl (Int32.ofNat w0))) 64 1 (.inl (Int32.ofNat w1))) 64 2 (.inl (Int32.ofNat w2))) 64 3 (.inl (Int32.ofNat w3)))) (by with_unfolding_all rfl) ?_
  rw [kt_0 ew0 ew1 ew2 ew3]
  refine kx_go 1 (pc' := 33) (L' := [(0, .inr (.inr (.inl (some 64)))), (1, .inr (.inr (.inl (some 1))))]) (S' := [.inr (.inr (.inl (some 1)))]) (h' := (kt_K h 1 64 1)) (by with_unfolding_all rfl) ?_
  refine kx_getf (c := 1) (v := .inr (.inr (.inl (some 2)))) rfl (by decide) ((show kt_K h 1 64 1 1 4 = h 1 4 from if_neg (by decide)).trans fa4) ?_
  refine kx_go 1 (pc' := 37) (L' := [(0, .inr (.inr (.inl (some 64)))), (1, .inr (.inr (.inl (some 1))))]) (S' := [.inr (.inr (.inl (some 64))), .inr (.inr (.inl (some 2)))]) (h' := (kt_K h 1 64 1)) (by with_unfolding_all rfl) ?_
  refine kx_getf (c := 64) (v := .inr (.inr (.inl (some 65)))) rfl (by decide) ((show kt_K h 1 64 1 64 4 = h 64 4 from if_neg (by decide)).trans fb4) ?_
  rw [show kt_K h 1 64 1 = kt_K h 1 64 (2 + 0) from kt_skip (by decide) (by decide)]
  refine kc_call_rule (M2 := wk_m69) (av := [.inr (.inr (.inl (some 2))), .inr (.inr (.inl (some 65)))]) (r := []) rfl rfl (kc_Con_le (kt_rows (d := 0) (A := 2) (B := 65) (n := 6) (m := 6) (K := fun i => kt_K h 1 64 (2 + i)) (ra := fun i => 3 + i) (rb := fun i => 66 + i) hg rfl (by decide) (by decide) rfl (by decide) (by decide) (by decide) (by decide) (fun i hi => (kt_ref1_64_4 i hi).1.trans (kx_ofr (hw _ _ _ (kt_q1_4 i hi)))) (fun i hi => (kt_ref1_64_4 i hi).2.trans (kx_ofr (hw _ _ _ (kt_q64_4 i hi)))) (fun i hi => kt_sp1_64_4 i hi) (fun i hi => kt_st1_64_4 i hi)) (by omega)) (fun rv h' hq => ?_)
  obtain ⟨rfl, rfl⟩ := hq
  show kc_Ev g (d + 2) wk_m68 _ 43 [(0, .inr (.inr (.inl (some 64)))), (1, .inr (.inr (.inl (some 1))))] [] (kt_K h 1 64 8)
  refine kx_go 1 (pc' := 44) (L' := [(0, .inr (.inr (.inl (some 64)))), (1, .inr (.inr (.inl (some 1))))]) (S' := [.inr (.inr (.inl (some 1)))]) (h' := (kt_K h 1 64 8)) (by with_unfolding_all rfl) ?_
  refine kx_getf (c := 1) (v := .inr (.inr (.inl (some 9)))) rfl (by decide) ((show kt_K h 1 64 8 1 5 = h 1 5 from if_neg (by decide)).trans fa5) ?_
  refine kx_go 1 (pc' := 48) (L' := [(0, .inr (.inr (.inl (some 64)))), (1, .inr (.inr (.inl (some 1))))]) (S' := [.inr (.inr (.inl (some 64))), .inr (.inr (.inl (some 9)))]) (h' := (kt_K h 1 64 8)) (by with_unfolding_all rfl) ?_
  refine kx_getf (c := 64) (v := .inr (.inr (.inl (some 72)))) rfl (by decide) ((show kt_K h 1 64 8 64 5 = h 64 5 from if_neg (by decide)).trans fb5) ?_
  refine kc_call_rule (M2 := wk_m70) (av := [.inr (.inr (.inl (some 9))), .inr (.inr (.inl (some 72)))]) (r := []) rfl rfl (kc_Con_le (kt_row (d := 0) (c1 := 9) (c2 := 72) (m := 6) hg rfl (by decide) rfl (by decide) (by decide)) (by omega)) (fun rv h' hq => ?_)
  obtain ⟨rfl, rfl⟩ := hq
  rw [show kz_cp (kt_K h 1 64 8) 72 0 9 0 6 = kt_K h 1 64 9 from kt_s (a := 1) (b := 64) (K := 8) (k := 8) (by decide) (by decide) (by decide)]
  show kc_Ev g (d + 2) wk_m68 _ 54 [(0, .inr (.inr (.inl (some 64)))), (1, .inr (.inr (.inl (some 1))))] [] (kt_K h 1 64 9)
  refine kx_go 1 (pc' := 55) (L' := [(0, .inr (.inr (.inl (some 64)))), (1, .inr (.inr (.inl (some 1))))]) (S' := [.inr (.inr (.inl (some 1)))]) (h' := (kt_K h 1 64 9)) (by with_unfolding_all rfl) ?_
  refine kx_getf (c := 1) (v := .inr (.inr (.inl (some 10)))) rfl (by decide) ((show kt_K h 1 64 9 1 6 = h 1 6 from if_neg (by decide)).trans fa6) ?_
  refine kx_go 1 (pc' := 59) (L' := [(0, .inr (.inr (.inl (some 64)))), (1, .inr (.inr (.inl (some 1))))]) (S' := [.inr (.inr (.inl (some 64))), .inr (.inr (.inl (some 10)))]) (h' := (kt_K h 1 64 9)) (by with_unfolding_all rfl) ?_
  refine kx_getf (c := 64) (v := .inr (.inr (.inl (some 73)))) rfl (by decide) ((show kt_K h 1 64 9 64 6 = h 64 6 from if_neg (by decide)).trans fb6) ?_
  refine kc_call_rule (M2 := wk_m70) (av := [.inr (.inr (.inl (some 10))), .inr (.inr (.inl (some 73)))]) (r := []) rfl rfl (kc_Con_le (kt_row (d := 0) (c1 := 10) (c2 := 73) (m := 6) hg rfl (by decide) rfl (by decide) (by decide)) (by omega)) (fun rv h' hq => ?_)
  obtain ⟨rfl, rfl⟩ := hq
  rw [show kz_cp (kt_K h 1 64 9) 73 0 10 0 6 = kt_K h 1 64 10 from kt_s (a := 1) (b := 64) (K := 9) (k := 9) (by decide) (by decide) (by decide)]
  show kc_Ev g (d + 2) wk_m68 _ 65 [(0, .inr (.inr (.inl (some 64)))), (1, .inr (.inr (.inl (some 1))))] [] (kt_K h 1 64 10)
  refine kx_go 1 (pc' := 66) (L' := [(0, .inr (.inr (.inl (some 64)))), (1, .inr (.inr (.inl (some 1))))]) (S' := [.inr (.inr (.inl (some 1)))]) (h' := (kt_K h 1 64 10)) (by with_unfolding_all rfl) ?_
  refine kx_getf (c := 1) (v := .inr (.inr (.inl (some 11)))) rfl (by decide) ((show kt_K h 1 64 10 1 7 = h 1 7 from if_neg (by decide)).trans fa7) ?_
  refine kx_go 1 (pc' := 70) (L' := [(0, .inr (.inr (.inl (some 64)))), (1, .inr (.inr (.inl (some 1))))]) (S' := [.inr (.inr (.inl (some 64))), .inr (.inr (.inl (some 11)))]) (h' := (kt_K h 1 64 10)) (by with_unfolding_all rfl) ?_
  refine kx_getf (c := 64) (v := .inr (.inr (.inl (some 74)))) rfl (by decide) ((show kt_K h 1 64 10 64 7 = h 64 7 from if_neg (by decide)).trans fb7) ?_
  rw [show kt_K h 1 64 10 = kt_K h 1 64 (11 + 0) from kt_skip (by decide) (by decide)]
  refine kc_call_rule (M2 := wk_m69) (av := [.inr (.inr (.inl (some 11))), .inr (.inr (.inl (some 74)))]) (r := []) rfl rfl (kc_Con_le (kt_rows (d := 0) (A := 11) (B := 74) (n := 3) (m := 5) (K := fun i => kt_K h 1 64 (11 + i)) (ra := fun i => 12 + i) (rb := fun i => 75 + i) hg rfl (by decide) (by decide) rfl (by decide) (by decide) (by decide) (by decide) (fun i hi => (kt_ref1_64_7 i hi).1.trans (kx_ofr (hw _ _ _ (kt_q1_7 i hi)))) (fun i hi => (kt_ref1_64_7 i hi).2.trans (kx_ofr (hw _ _ _ (kt_q64_7 i hi)))) (fun i hi => kt_sp1_64_7 i hi) (fun i hi => kt_st1_64_7 i hi)) (by omega)) (fun rv h' hq => ?_)
  obtain ⟨rfl, rfl⟩ := hq
  show kc_Ev g (d + 2) wk_m68 _ 76 [(0, .inr (.inr (.inl (some 64)))), (1, .inr (.inr (.inl (some 1))))] [] (kt_K h 1 64 14)
  refine kx_go 1 (pc' := 77) (L' := [(0, .inr (.inr (.inl (some 64)))), (1, .inr (.inr (.inl (some 1))))]) (S' := [.inr (.inr (.inl (some 1)))]) (h' := (kt_K h 1 64 14)) (by with_unfolding_all rfl) ?_
  refine kx_getf (c := 1) (v := .inr (.inr (.inl (some 15)))) rfl (by decide) ((show kt_K h 1 64 14 1 8 = h 1 8 from if_neg (by decide)).trans fa8) ?_
  refine kx_go 1 (pc' := 81) (L' := [(0, .inr (.inr (.inl (some 64)))), (1, .inr (.inr (.inl (some 1))))]) (S' := [.inr (.inr (.inl (some 64))), .inr (.inr (.inl (some 15)))]) (h' := (kt_K h 1 64 14)) (by with_unfolding_all rfl) ?_
  refine kx_getf (c := 64) (v := .inr (.inr (.inl (some 78)))) rfl (by decide) ((show kt_K h 1 64 14 64 8 = h 64 8 from if_neg (by decide)).trans fb8) ?_
  rw [show kt_K h 1 64 14 = kt_K h 1 64 (15 + 0) from kt_skip (by decide) (by decide)]
  refine kc_call_rule (M2 := wk_m69) (av := [.inr (.inr (.inl (some 15))), .inr (.inr (.inl (some 78)))]) (r := []) rfl rfl (kc_Con_le (kt_rows (d := 0) (A := 15) (B := 78) (n := 10) (m := 7) (K := fun i => kt_K h 1 64 (15 + i)) (ra := fun i => 16 + i) (rb := fun i => 79 + i) hg rfl (by decide) (by decide) rfl (by decide) (by decide) (by decide) (by decide) (fun i hi => (kt_ref1_64_8 i hi).1.trans (kx_ofr (hw _ _ _ (kt_q1_8 i hi)))) (fun i hi => (kt_ref1_64_8 i hi).2.trans (kx_ofr (hw _ _ _ (kt_q64_8 i hi)))) (fun i hi => kt_sp1_64_8 i hi) (fun i hi => kt_st1_64_8 i hi)) (by omega)) (fun rv h' hq => ?_)
  obtain ⟨rfl, rfl⟩ := hq
  show kc_Ev g (d + 2) wk_m68 _ 87 [(0, .inr (.inr (.inl (some 64)))), (1, .inr (.inr (.inl (some 1))))] [] (kt_K h 1 64 25)
  refine kx_go 1 (pc' := 88) (L' := [(0, .inr (.inr (.inl (some 64)))), (1, .inr (.inr (.inl (some 1))))]) (S' := [.inr (.inr (.inl (some 1)))]) (h' := (kt_K h 1 64 25)) (by with_unfolding_all rfl) ?_
  refine kx_getf (c := 1) (v := .inr (.inr (.inl (some 26)))) rfl (by decide) ((show kt_K h 1 64 25 1 9 = h 1 9 from if_neg (by decide)).trans fa9) ?_
  refine kx_go 1 (pc' := 92) (L' := [(0, .inr (.inr (.inl (some 64)))), (1, .inr (.inr (.inl (some 1))))]) (S' := [.inr (.inr (.inl (some 64))), .inr (.inr (.inl (some 26)))]) (h' := (kt_K h 1 64 25)) (by with_unfolding_all rfl) ?_
  refine kx_getf (c := 64) (v := .inr (.inr (.inl (some 89)))) rfl (by decide) ((show kt_K h 1 64 25 64 9 = h 64 9 from if_neg (by decide)).trans fb9) ?_
  refine kc_call_rule (M2 := wk_m70) (av := [.inr (.inr (.inl (some 26))), .inr (.inr (.inl (some 89)))]) (r := []) rfl rfl (kc_Con_le (kt_row (d := 0) (c1 := 26) (c2 := 89) (m := 2) hg rfl (by decide) rfl (by decide) (by decide)) (by omega)) (fun rv h' hq => ?_)
  obtain ⟨rfl, rfl⟩ := hq
  rw [show kz_cp (kt_K h 1 64 25) 89 0 26 0 2 = kt_K h 1 64 26 from kt_s (a := 1) (b := 64) (K := 25) (k := 25) (by decide) (by decide) (by decide)]
  show kc_Ev g (d + 2) wk_m68 _ 98 [(0, .inr (.inr (.inl (some 64)))), (1, .inr (.inr (.inl (some 1))))] [] (kt_K h 1 64 26)
  refine kx_go 1 (pc' := 99) (L' := [(0, .inr (.inr (.inl (some 64)))), (1, .inr (.inr (.inl (some 1))))]) (S' := [.inr (.inr (.inl (some 1)))]) (h' := (kt_K h 1 64 26)) (by with_unfolding_all rfl) ?_
  refine kx_getf (c := 1) (v := .inr (.inr (.inl (some 27)))) rfl (by decide) ((show kt_K h 1 64 26 1 10 = h 1 10 from if_neg (by decide)).trans fa10) ?_
  refine kx_go 1 (pc' := 103) (L' := [(0, .inr (.inr (.inl (some 64)))), (1, .inr (.inr (.inl (some 1))))]) (S' := [.inr (.inr (.inl (some 64))), .inr (.inr (.inl (some 27)))]) (h' := (kt_K h 1 64 26)) (by with_unfolding_all rfl) ?_
  refine kx_getf (c := 64) (v := .inr (.inr (.inl (some 90)))) rfl (by decide) ((show kt_K h 1 64 26 64 10 = h 64 10 from if_neg (by decide)).trans fb10) ?_
  refine kc_call_rule (M2 := wk_m70) (av := [.inr (.inr (.inl (some 27))), .inr (.inr (.inl (some 90)))]) (r := []) rfl rfl (kc_Con_le (kt_row (d := 0) (c1 := 27) (c2 := 90) (m := 5) hg rfl (by decide) rfl (by decide) (by decide)) (by omega)) (fun rv h' hq => ?_)
  obtain ⟨rfl, rfl⟩ := hq
  rw [show kz_cp (kt_K h 1 64 26) 90 0 27 0 5 = kt_K h 1 64 27 from kt_s (a := 1) (b := 64) (K := 26) (k := 26) (by decide) (by decide) (by decide)]
  show kc_Ev g (d + 2) wk_m68 _ 109 [(0, .inr (.inr (.inl (some 64)))), (1, .inr (.inr (.inl (some 1))))] [] (kt_K h 1 64 27)
  refine kx_go 1 (pc' := 110) (L' := [(0, .inr (.inr (.inl (some 64)))), (1, .inr (.inr (.inl (some 1))))]) (S' := [.inr (.inr (.inl (some 1)))]) (h' := (kt_K h 1 64 27)) (by with_unfolding_all rfl) ?_
  refine kx_getf (c := 1) (v := .inr (.inr (.inl (some 28)))) rfl (by decide) ((show kt_K h 1 64 27 1 11 = h 1 11 from if_neg (by decide)).trans fa11) ?_
  refine kx_go 1 (pc' := 114) (L' := [(0, .inr (.inr (.inl (some 64)))), (1, .inr (.inr (.inl (some 1))))]) (S' := [.inr (.inr (.inl (some 64))), .inr (.inr (.inl (some 28)))]) (h' := (kt_K h 1 64 27)) (by with_unfolding_all rfl) ?_
  refine kx_getf (c := 64) (v := .inr (.inr (.inl (some 91)))) rfl (by decide) ((show kt_K h 1 64 27 64 11 = h 64 11 from if_neg (by decide)).trans fb11) ?_
  rw [show kt_K h 1 64 27 = kt_K h 1 64 (28 + 0) from kt_skip (by decide) (by decide)]
  refine kc_call_rule (M2 := wk_m69) (av := [.inr (.inr (.inl (some 28))), .inr (.inr (.inl (some 91)))]) (r := []) rfl rfl (kc_Con_le (kt_rows (d := 0) (A := 28) (B := 91) (n := 2) (m := 240) (K := fun i => kt_K h 1 64 (28 + i)) (ra := fun i => 29 + i) (rb := fun i => 92 + i) hg rfl (by decide) (by decide) rfl (by decide) (by decide) (by decide) (by decide) (fun i hi => (kt_ref1_64_11 i hi).1.trans (kx_ofr (hw _ _ _ (kt_q1_11 i hi)))) (fun i hi => (kt_ref1_64_11 i hi).2.trans (kx_ofr (hw _ _ _ (kt_q64_11 i hi)))) (fun i hi => kt_sp1_64_11 i hi) (fun i hi => kt_st1_64_11 i hi)) (by omega)) (fun rv h' hq => ?_)
  obtain ⟨rfl, rfl⟩ := hq
  show kc_Ev g (d + 2) wk_m68 _ 120 [(0, .inr (.inr (.inl (some 64)))), (1, .inr (.inr (.inl (some 1))))] [] (kt_K h 1 64 30)
  refine kx_go 1 (pc' := 121) (L' := [(0, .inr (.inr (.inl (some 64)))), (1, .inr (.inr (.inl (some 1))))]) (S' := [.inr (.inr (.inl (some 1)))]) (h' := (kt_K h 1 64 30)) (by with_unfolding_all rfl) ?_
  refine kx_getf (c := 1) (v := .inr (.inr (.inl (some 31)))) rfl (by decide) ((show kt_K h 1 64 30 1 12 = h 1 12 from if_neg (by decide)).trans fa12) ?_
  refine kx_go 1 (pc' := 125) (L' := [(0, .inr (.inr (.inl (some 64)))), (1, .inr (.inr (.inl (some 1))))]) (S' := [.inr (.inr (.inl (some 64))), .inr (.inr (.inl (some 31)))]) (h' := (kt_K h 1 64 30)) (by with_unfolding_all rfl) ?_
  refine kx_getf (c := 64) (v := .inr (.inr (.inl (some 94)))) rfl (by decide) ((show kt_K h 1 64 30 64 12 = h 64 12 from if_neg (by decide)).trans fb12) ?_
  refine kc_call_rule (M2 := wk_m70) (av := [.inr (.inr (.inl (some 31))), .inr (.inr (.inl (some 94)))]) (r := []) rfl rfl (kc_Con_le (kt_row (d := 0) (c1 := 31) (c2 := 94) (m := 2) hg rfl (by decide) rfl (by decide) (by decide)) (by omega)) (fun rv h' hq => ?_)
  obtain ⟨rfl, rfl⟩ := hq
  rw [show kz_cp (kt_K h 1 64 30) 94 0 31 0 2 = kt_K h 1 64 31 from kt_s (a := 1) (b := 64) (K := 30) (k := 30) (by decide) (by decide) (by decide)]
  show kc_Ev g (d + 2) wk_m68 _ 131 [(0, .inr (.inr (.inl (some 64)))), (1, .inr (.inr (.inl (some 1))))] [] (kt_K h 1 64 31)
  exact kc_ret_ok rfl (rv := none) rfl ⟨rfl, rfl⟩
theorem kt_ref1_95_4 {h : kc_H} (i : Nat) (hi : i < 6) : kt_K h 1 95 (2 + i) 2 i = h 2 i ∧ kt_K h 1 95 (2 + i) 96 i = h 96 i := by
  have z : kt_ln 1 = 0 := by decide
  unfold kt_K
  exact ⟨if_neg (by rintro ⟨q1, q2, q3⟩; omega), if_neg (by rintro ⟨q1, q2, q3⟩; rw [show 96 - 95 = 1 from rfl, z] at q3; omega)⟩
theorem kt_sp1_95_4 (i : Nat) (hi : i < 6) : kc_shp (3 + i) = some (0, 0, 6) ∧ 3 + i < kc_N ∧ kc_shp (97 + i) = some (0, 0, 6) ∧ 97 + i < kc_N := by
  have k : ∀ i, i < 6 → kc_shp (3 + i) = some (0, 0, 6) ∧ 3 + i < kc_N ∧ kc_shp (97 + i) = some (0, 0, 6) ∧ 97 + i < kc_N := by decide +kernel
  exact k i hi
theorem kt_st1_95_4 {h : kc_H} (i : Nat) (hi : i < 6) : kz_cp (kt_K h 1 95 (2 + i)) (97 + i) 0 (3 + i) 0 6 = kt_K h 1 95 (2 + (i + 1)) := by
  have e := kt_s (h := h) (a := 1) (b := 95) (K := 2 + i) (k := 2 + i) (Nat.le_refl _) (fun j q1 q2 => by omega) (by omega)
  have z : ∀ i, i < 6 → kt_ln (2 + i) = 6 := by decide
  rw [z i hi, show 95 + (2 + i) = 97 + i from by omega, show 1 + (2 + i) = 3 + i from by omega] at e
  exact e
theorem kt_ref1_95_7 {h : kc_H} (i : Nat) (hi : i < 3) : kt_K h 1 95 (11 + i) 11 i = h 11 i ∧ kt_K h 1 95 (11 + i) 105 i = h 105 i := by
  have z : kt_ln 10 = 0 := by decide
  unfold kt_K
  exact ⟨if_neg (by rintro ⟨q1, q2, q3⟩; omega), if_neg (by rintro ⟨q1, q2, q3⟩; rw [show 105 - 95 = 10 from rfl, z] at q3; omega)⟩
theorem kt_sp1_95_7 (i : Nat) (hi : i < 3) : kc_shp (12 + i) = some (0, 0, 5) ∧ 12 + i < kc_N ∧ kc_shp (106 + i) = some (0, 0, 5) ∧ 106 + i < kc_N := by
  have k : ∀ i, i < 3 → kc_shp (12 + i) = some (0, 0, 5) ∧ 12 + i < kc_N ∧ kc_shp (106 + i) = some (0, 0, 5) ∧ 106 + i < kc_N := by decide +kernel
  exact k i hi
theorem kt_st1_95_7 {h : kc_H} (i : Nat) (hi : i < 3) : kz_cp (kt_K h 1 95 (11 + i)) (106 + i) 0 (12 + i) 0 5 = kt_K h 1 95 (11 + (i + 1)) := by
  have e := kt_s (h := h) (a := 1) (b := 95) (K := 11 + i) (k := 11 + i) (Nat.le_refl _) (fun j q1 q2 => by omega) (by omega)
  have z : ∀ i, i < 3 → kt_ln (11 + i) = 5 := by decide
  rw [z i hi, show 95 + (11 + i) = 106 + i from by omega, show 1 + (11 + i) = 12 + i from by omega] at e
  exact e
theorem kt_ref1_95_8 {h : kc_H} (i : Nat) (hi : i < 10) : kt_K h 1 95 (15 + i) 15 i = h 15 i ∧ kt_K h 1 95 (15 + i) 109 i = h 109 i := by
  have z : kt_ln 14 = 0 := by decide
  unfold kt_K
  exact ⟨if_neg (by rintro ⟨q1, q2, q3⟩; omega), if_neg (by rintro ⟨q1, q2, q3⟩; rw [show 109 - 95 = 14 from rfl, z] at q3; omega)⟩
theorem kt_sp1_95_8 (i : Nat) (hi : i < 10) : kc_shp (16 + i) = some (0, 0, 7) ∧ 16 + i < kc_N ∧ kc_shp (110 + i) = some (0, 0, 7) ∧ 110 + i < kc_N := by
  have k : ∀ i, i < 10 → kc_shp (16 + i) = some (0, 0, 7) ∧ 16 + i < kc_N ∧ kc_shp (110 + i) = some (0, 0, 7) ∧ 110 + i < kc_N := by decide +kernel
  exact k i hi
theorem kt_st1_95_8 {h : kc_H} (i : Nat) (hi : i < 10) : kz_cp (kt_K h 1 95 (15 + i)) (110 + i) 0 (16 + i) 0 7 = kt_K h 1 95 (15 + (i + 1)) := by
  have e := kt_s (h := h) (a := 1) (b := 95) (K := 15 + i) (k := 15 + i) (Nat.le_refl _) (fun j q1 q2 => by omega) (by omega)
  have z : ∀ i, i < 10 → kt_ln (15 + i) = 7 := by decide
  rw [z i hi, show 95 + (15 + i) = 110 + i from by omega, show 1 + (15 + i) = 16 + i from by omega] at e
  exact e
theorem kt_ref1_95_11 {h : kc_H} (i : Nat) (hi : i < 2) : kt_K h 1 95 (28 + i) 28 i = h 28 i ∧ kt_K h 1 95 (28 + i) 122 i = h 122 i := by
  have z : kt_ln 27 = 0 := by decide
  unfold kt_K
  exact ⟨if_neg (by rintro ⟨q1, q2, q3⟩; omega), if_neg (by rintro ⟨q1, q2, q3⟩; rw [show 122 - 95 = 27 from rfl, z] at q3; omega)⟩
theorem kt_sp1_95_11 (i : Nat) (hi : i < 2) : kc_shp (29 + i) = some (0, 0, 240) ∧ 29 + i < kc_N ∧ kc_shp (123 + i) = some (0, 0, 240) ∧ 123 + i < kc_N := by
  have k : ∀ i, i < 2 → kc_shp (29 + i) = some (0, 0, 240) ∧ 29 + i < kc_N ∧ kc_shp (123 + i) = some (0, 0, 240) ∧ 123 + i < kc_N := by decide +kernel
  exact k i hi
theorem kt_st1_95_11 {h : kc_H} (i : Nat) (hi : i < 2) : kz_cp (kt_K h 1 95 (28 + i)) (123 + i) 0 (29 + i) 0 240 = kt_K h 1 95 (28 + (i + 1)) := by
  have e := kt_s (h := h) (a := 1) (b := 95) (K := 28 + i) (k := 28 + i) (Nat.le_refl _) (fun j q1 q2 => by omega) (by omega)
  have z : ∀ i, i < 2 → kt_ln (28 + i) = 240 := by decide
  rw [z i hi, show 95 + (28 + i) = 123 + i from by omega, show 1 + (28 + i) = 29 + i from by omega] at e
  exact e
set_option maxRecDepth 20000 in
theorem kt_take1_95 {g : kc_G} {d : Nat} {h : kc_H} (hg : kc_ok g) (hw : kd_wt kd_ty h) : kc_Con g (d + 3) 68 [.inr (.inr (.inl (some 95))), .inr (.inr (.inl (some 1)))] h (fun rv h' => rv = none ∧ h' = kt_K h 1 95 31) := by
  refine kc_Con_new hg (M := wk_m68) rfl rfl rfl (show 2 ≤ 2 by decide) ?_
  have ka := kt_k1
  have kb := kt_k95
  obtain ⟨w0, -, ew0⟩ := kx_ofg (by omega) (hw _ _ _ ka.2.2.1)
  obtain ⟨w1, -, ew1⟩ := kx_ofg (by omega) (hw _ _ _ ka.2.2.2.1)
  obtain ⟨w2, -, ew2⟩ := kx_ofg (by omega) (hw _ _ _ ka.2.2.2.2.1)
  obtain ⟨w3, -, ew3⟩ := kx_ofg (by omega) (hw _ _ _ ka.2.2.2.2.2)
  have fa4 := kx_ofr (hw _ _ _ ka.1.1)
  have fb4 := kx_ofr (hw _ _ _ kb.1.1)
  have fa5 := kx_ofr (hw _ _ _ ka.1.2.1)
  have fb5 := kx_ofr (hw _ _ _ kb.1.2.1)
  have fa6 := kx_ofr (hw _ _ _ ka.1.2.2.1)
  have fb6 := kx_ofr (hw _ _ _ kb.1.2.2.1)
  have fa7 := kx_ofr (hw _ _ _ ka.1.2.2.2.1)
  have fb7 := kx_ofr (hw _ _ _ kb.1.2.2.2.1)
  have fa8 := kx_ofr (hw _ _ _ ka.1.2.2.2.2)
  have fb8 := kx_ofr (hw _ _ _ kb.1.2.2.2.2)
  have fa9 := kx_ofr (hw _ _ _ ka.2.1.1)
  have fb9 := kx_ofr (hw _ _ _ kb.2.1.1)
  have fa10 := kx_ofr (hw _ _ _ ka.2.1.2.1)
  have fb10 := kx_ofr (hw _ _ _ kb.2.1.2.1)
  have fa11 := kx_ofr (hw _ _ _ ka.2.1.2.2.1)
  have fb11 := kx_ofr (hw _ _ _ kb.2.1.2.2.1)
  have fa12 := kx_ofr (hw _ _ _ ka.2.1.2.2.2)
  have fb12 := kx_ofr (hw _ _ _ kb.2.1.2.2.2)
  refine kx_go 2 (pc' := 2) (L' := [(0, .inr (.inr (.inl (some 95)))), (1, .inr (.inr (.inl (some 1))))]) (S' := [.inr (.inr (.inl (some 1))), .inr (.inr (.inl (some 95)))]) (h' := h) (by with_unfolding_all rfl) ?_
  refine kx_getf (c := 1) (v := .inl (Int32.ofNat w0)) rfl (by decide) ew0 ?_
  refine kx_go 1 (pc' := 8) (L' := [(0, .inr (.inr (.inl (some 95)))), (1, .inr (.inr (.inl (some 1))))]) (S' := []) (h' := (kc_upd h 95 0 (.inl (Int32.ofNat w0)))) (by with_unfolding_all rfl) ?_
  refine kx_go 2 (pc' := 10) (L' := [(0, .inr (.inr (.inl (some 95)))), (1, .inr (.inr (.inl (some 1))))]) (S' := [.inr (.inr (.inl (some 1))), .inr (.inr (.inl (some 95)))]) (h' := (kc_upd h 95 0 (.inl (Int32.ofNat w0)))) (by with_unfolding_all rfl) ?_
  refine kx_getf (c := 1) (v := .inl (Int32.ofNat w1)) rfl (by decide) ((kj_uo (by decide)).trans (ew1)) ?_
  refine kx_go 1 (pc' := 16) (L' := [(0, .inr (.inr (.inl (some 95)))), (1, .inr (.inr (.inl (some 1))))]) (S' := []) (h' := (kc_upd (kc_upd h 95 0 (.inl (Int32.ofNat w0))) 95 1 (.inl (Int32.ofNat w1)))) (by with_unfolding_all rfl) ?_
  refine kx_go 2 (pc' := 18) (L' := [(0, .inr (.inr (.inl (some 95)))), (1, .inr (.inr (.inl (some 1))))]) (S' := [.inr (.inr (.inl (some 1))), .inr (.inr (.inl (some 95)))]) (h' := (kc_upd (kc_upd h 95 0 (.inl (Int32.ofNat w0))) 95 1 (.inl (Int32.ofNat w1)))) (by with_unfolding_all rfl) ?_
  refine kx_getf (c := 1) (v := .inl (Int32.ofNat w2)) rfl (by decide) ((kj_uo (by decide)).trans ((kj_uo (by decide)).trans (ew2))) ?_
  refine kx_go 1 (pc' := 24) (L' := [(0, .inr (.inr (.inl (some 95)))), (1, .inr (.inr (.inl (some 1))))]) (S' := []) (h' := (kc_upd (kc_upd (kc_upd h 95 0 (.inl (Int32.ofNat w0))) 95 1 (.inl (Int32.ofNat w1))) 95 2 (.inl (Int32.ofNat w2)))) (by with_unfolding_all rfl) ?_
  refine kx_go 2 (pc' := 26) (L' := [(0, .inr (.inr (.inl (some 95)))), (1, .inr (.inr (.inl (some 1))))]) (S' := [.inr (.inr (.inl (some 1))), .inr (.inr (.inl (some 95)))]) (h' := (kc_upd (kc_upd (kc_upd h 95 0 (.inl (Int32.ofNat w0))) 95 1 (.inl (Int32.ofNat w1))) 95 2 (.inl (Int32.ofNat w2)))) (by with_unfolding_all rfl) ?_
  refine kx_getf (c := 1) (v := .inl (Int32.ofNat w3)) rfl (by decide) ((kj_uo (by decide)).trans ((kj_uo (by decide)).trans ((kj_uo (by decide)).trans (ew3)))) ?_
  refine kx_go 1 (pc' := 32) (L' := [(0, .inr (.inr (.inl (some 95)))), (1, .inr (.inr (.inl (some 1))))]) (S' := []) (h' := (kc_upd (kc_upd (kc_upd (kc_upd h 95 0 (.inl (Int32.ofNat w0))) 95 1 (.inl (Int32.ofNat w1))) 95 2 (.inl (Int32.ofNat w2))) 95 3 (.inl (Int32.ofNat w3)))) (by with_unfolding_all rfl) ?_
  rw [kt_0 ew0 ew1 ew2 ew3]
  refine kx_go 1 (pc' := 33) (L' := [(0, .inr (.inr (.inl (some 95)))), (1, .inr (.inr (.inl (some 1))))]) (S' := [.inr (.inr (.inl (some 1)))]) (h' := (kt_K h 1 95 1)) (by with_unfolding_all rfl) ?_
  refine kx_getf (c := 1) (v := .inr (.inr (.inl (some 2)))) rfl (by decide) ((show kt_K h 1 95 1 1 4 = h 1 4 from if_neg (by decide)).trans fa4) ?_
  refine kx_go 1 (pc' := 37) (L' := [(0, .inr (.inr (.inl (some 95)))), (1, .inr (.inr (.inl (some 1))))]) (S' := [.inr (.inr (.inl (some 95))), .inr (.inr (.inl (some 2)))]) (h' := (kt_K h 1 95 1)) (by with_unfolding_all rfl) ?_
  refine kx_getf (c := 95) (v := .inr (.inr (.inl (some 96)))) rfl (by decide) ((show kt_K h 1 95 1 95 4 = h 95 4 from if_neg (by decide)).trans fb4) ?_
  rw [show kt_K h 1 95 1 = kt_K h 1 95 (2 + 0) from kt_skip (by decide) (by decide)]
  refine kc_call_rule (M2 := wk_m69) (av := [.inr (.inr (.inl (some 2))), .inr (.inr (.inl (some 96)))]) (r := []) rfl rfl (kc_Con_le (kt_rows (d := 0) (A := 2) (B := 96) (n := 6) (m := 6) (K := fun i => kt_K h 1 95 (2 + i)) (ra := fun i => 3 + i) (rb := fun i => 97 + i) hg rfl (by decide) (by decide) rfl (by decide) (by decide) (by decide) (by decide) (fun i hi => (kt_ref1_95_4 i hi).1.trans (kx_ofr (hw _ _ _ (kt_q1_4 i hi)))) (fun i hi => (kt_ref1_95_4 i hi).2.trans (kx_ofr (hw _ _ _ (kt_q95_4 i hi)))) (fun i hi => kt_sp1_95_4 i hi) (fun i hi => kt_st1_95_4 i hi)) (by omega)) (fun rv h' hq => ?_)
  obtain ⟨rfl, rfl⟩ := hq
  show kc_Ev g (d + 2) wk_m68 _ 43 [(0, .inr (.inr (.inl (some 95)))), (1, .inr (.inr (.inl (some 1))))] [] (kt_K h 1 95 8)
  refine kx_go 1 (pc' := 44) (L' := [(0, .inr (.inr (.inl (some 95)))), (1, .inr (.inr (.inl (some 1))))]) (S' := [.inr (.inr (.inl (some 1)))]) (h' := (kt_K h 1 95 8)) (by with_unfolding_all rfl) ?_
  refine kx_getf (c := 1) (v := .inr (.inr (.inl (some 9)))) rfl (by decide) ((show kt_K h 1 95 8 1 5 = h 1 5 from if_neg (by decide)).trans fa5) ?_
  refine kx_go 1 (pc' := 48) (L' := [(0, .inr (.inr (.inl (some 95)))), (1, .inr (.inr (.inl (some 1))))]) (S' := [.inr (.inr (.inl (some 95))), .inr (.inr (.inl (some 9)))]) (h' := (kt_K h 1 95 8)) (by with_unfolding_all rfl) ?_
  refine kx_getf (c := 95) (v := .inr (.inr (.inl (some 103)))) rfl (by decide) ((show kt_K h 1 95 8 95 5 = h 95 5 from if_neg (by decide)).trans fb5) ?_
  refine kc_call_rule (M2 := wk_m70) (av := [.inr (.inr (.inl (some 9))), .inr (.inr (.inl (some 103)))]) (r := []) rfl rfl (kc_Con_le (kt_row (d := 0) (c1 := 9) (c2 := 103) (m := 6) hg rfl (by decide) rfl (by decide) (by decide)) (by omega)) (fun rv h' hq => ?_)
  obtain ⟨rfl, rfl⟩ := hq
  rw [show kz_cp (kt_K h 1 95 8) 103 0 9 0 6 = kt_K h 1 95 9 from kt_s (a := 1) (b := 95) (K := 8) (k := 8) (by decide) (by decide) (by decide)]
  show kc_Ev g (d + 2) wk_m68 _ 54 [(0, .inr (.inr (.inl (some 95)))), (1, .inr (.inr (.inl (some 1))))] [] (kt_K h 1 95 9)
  refine kx_go 1 (pc' := 55) (L' := [(0, .inr (.inr (.inl (some 95)))), (1, .inr (.inr (.inl (some 1))))]) (S' := [.inr (.inr (.inl (some 1)))]) (h' := (kt_K h 1 95 9)) (by with_unfolding_all rfl) ?_
  refine kx_getf (c := 1) (v := .inr (.inr (.inl (some 10)))) rfl (by decide) ((show kt_K h 1 95 9 1 6 = h 1 6 from if_neg (by decide)).trans fa6) ?_
  refine kx_go 1 (pc' := 59) (L' := [(0, .inr (.inr (.inl (some 95)))), (1, .inr (.inr (.inl (some 1))))]) (S' := [.inr (.inr (.inl (some 95))), .inr (.inr (.inl (some 10)))]) (h' := (kt_K h 1 95 9)) (by with_unfolding_all rfl) ?_
  refine kx_getf (c := 95) (v := .inr (.inr (.inl (some 104)))) rfl (by decide) ((show kt_K h 1 95 9 95 6 = h 95 6 from if_neg (by decide)).trans fb6) ?_
  refine kc_call_rule (M2 := wk_m70) (av := [.inr (.inr (.inl (some 10))), .inr (.inr (.inl (some 104)))]) (r := []) rfl rfl (kc_Con_le (kt_row (d := 0) (c1 := 10) (c2 := 104) (m := 6) hg rfl (by decide) rfl (by decide) (by decide)) (by omega)) (fun rv h' hq => ?_)
  obtain ⟨rfl, rfl⟩ := hq
  rw [show kz_cp (kt_K h 1 95 9) 104 0 10 0 6 = kt_K h 1 95 10 from kt_s (a := 1) (b := 95) (K := 9) (k := 9) (by decide) (by decide) (by decide)]
  show kc_Ev g (d + 2) wk_m68 _ 65 [(0, .inr (.inr (.inl (some 95)))), (1, .inr (.inr (.inl (some 1))))] [] (kt_K h 1 95 10)
  refine kx_go 1 (pc' := 66) (L' := [(0, .inr (.inr (.inl (some 95)))), (1, .inr (.inr (.inl (some 1))))]) (S' := [.inr (.inr (.inl (some 1)))]) (h' := (kt_K h 1 95 10)) (by with_unfolding_all rfl) ?_
  refine kx_getf (c := 1) (v := .inr (.inr (.inl (some 11)))) rfl (by decide) ((show kt_K h 1 95 10 1 7 = h 1 7 from if_neg (by decide)).trans fa7) ?_
  refine kx_go 1 (pc' := 70) (L' := [(0, .inr (.inr (.inl (some 95)))), (1, .inr (.inr (.inl (some 1))))]) (S' := [.inr (.inr (.inl (some 95))), .inr (.inr (.inl (some 11)))]) (h' := (kt_K h 1 95 10)) (by with_unfolding_all rfl) ?_
  refine kx_getf (c := 95) (v := .inr (.inr (.inl (some 105)))) rfl (by decide) ((show kt_K h 1 95 10 95 7 = h 95 7 from if_neg (by decide)).trans fb7) ?_
  rw [show kt_K h 1 95 10 = kt_K h 1 95 (11 + 0) from kt_skip (by decide) (by decide)]
  refine kc_call_rule (M2 := wk_m69) (av := [.inr (.inr (.inl (some 11))), .inr (.inr (.inl (some 105)))]) (r := []) rfl rfl (kc_Con_le (kt_rows (d := 0) (A := 11) (B := 105) (n := 3) (m := 5) (K := fun i => kt_K h 1 95 (11 + i)) (ra := fun i => 12 + i) (rb := fun i => 106 + i) hg rfl (by decide) (by decide) rfl (by decide) (by decide) (by decide) (by decide) (fun i hi => (kt_ref1_95_7 i hi).1.trans (kx_ofr (hw _ _ _ (kt_q1_7 i hi)))) (fun i hi => (kt_ref1_95_7 i hi).2.trans (kx_ofr (hw _ _ _ (kt_q95_7 i hi)))) (fun i hi => kt_sp1_95_7 i hi) (fun i hi => kt_st1_95_7 i hi)) (by omega)) (fun rv h' hq => ?_)
  obtain ⟨rfl, rfl⟩ := hq
  show kc_Ev g (d + 2) wk_m68 _ 76 [(0, .inr (.inr (.inl (some 95)))), (1, .inr (.inr (.inl (some 1))))] [] (kt_K h 1 95 14)
  refine kx_go 1 (pc' := 77) (L' := [(0, .inr (.inr (.inl (some 95)))), (1, .inr (.inr (.inl (some 1))))]) (S' := [.inr (.inr (.inl (some 1)))]) (h' := (kt_K h 1 95 14)) (by with_unfolding_all rfl) ?_
  refine kx_getf (c := 1) (v := .inr (.inr (.inl (some 15)))) rfl (by decide) ((show kt_K h 1 95 14 1 8 = h 1 8 from if_neg (by decide)).trans fa8) ?_
  refine kx_go 1 (pc' := 81) (L' := [(0, .inr (.inr (.inl (some 95)))), (1, .inr (.inr (.inl (some 1))))]) (S' := [.inr (.inr (.inl (some 95))), .inr (.inr (.inl (some 15)))]) (h' := (kt_K h 1 95 14)) (by with_unfolding_all rfl) ?_
  refine kx_getf (c := 95) (v := .inr (.inr (.inl (some 109)))) rfl (by decide) ((show kt_K h 1 95 14 95 8 = h 95 8 from if_neg (by decide)).trans fb8) ?_
  rw [show kt_K h 1 95 14 = kt_K h 1 95 (15 + 0) from kt_skip (by decide) (by decide)]
  refine kc_call_rule (M2 := wk_m69) (av := [.inr (.inr (.inl (some 15))), .inr (.inr (.inl (some 109)))]) (r := []) rfl rfl (kc_Con_le (kt_rows (d := 0) (A := 15) (B := 109) (n := 10) (m := 7) (K := fun i => kt_K h 1 95 (15 + i)) (ra := fun i => 16 + i) (rb := fun i => 110 + i) hg rfl (by decide) (by decide) rfl (by decide) (by decide) (by decide) (by decide) (fun i hi => (kt_ref1_95_8 i hi).1.trans (kx_ofr (hw _ _ _ (kt_q1_8 i hi)))) (fun i hi => (kt_ref1_95_8 i hi).2.trans (kx_ofr (hw _ _ _ (kt_q95_8 i hi)))) (fun i hi => kt_sp1_95_8 i hi) (fun i hi => kt_st1_95_8 i hi)) (by omega)) (fun rv h' hq => ?_)
  obtain ⟨rfl, rfl⟩ := hq
  show kc_Ev g (d + 2) wk_m68 _ 87 [(0, .inr (.inr (.inl (some 95)))), (1, .inr (.inr (.inl (some 1))))] [] (kt_K h 1 95 25)
  refine kx_go 1 (pc' := 88) (L' := [(0, .inr (.inr (.inl (some 95)))), (1, .inr (.inr (.inl (some 1))))]) (S' := [.inr (.inr (.inl (some 1)))]) (h' := (kt_K h 1 95 25)) (by with_unfolding_all rfl) ?_
  refine kx_getf (c := 1) (v := .inr (.inr (.inl (some 26)))) rfl (by decide) ((show kt_K h 1 95 25 1 9 = h 1 9 from if_neg (by decide)).trans fa9) ?_
  refine kx_go 1 (pc' := 92) (L' := [(0, .inr (.inr (.inl (some 95)))), (1, .inr (.inr (.inl (some 1))))]) (S' := [.inr (.inr (.inl (some 95))), .inr (.inr (.inl (some 26)))]) (h' := (kt_K h 1 95 25)) (by with_unfolding_all rfl) ?_
  refine kx_getf (c := 95) (v := .inr (.inr (.inl (some 120)))) rfl (by decide) ((show kt_K h 1 95 25 95 9 = h 95 9 from if_neg (by decide)).trans fb9) ?_
  refine kc_call_rule (M2 := wk_m70) (av := [.inr (.inr (.inl (some 26))), .inr (.inr (.inl (some 120)))]) (r := []) rfl rfl (kc_Con_le (kt_row (d := 0) (c1 := 26) (c2 := 120) (m := 2) hg rfl (by decide) rfl (by decide) (by decide)) (by omega)) (fun rv h' hq => ?_)
  obtain ⟨rfl, rfl⟩ := hq
  rw [show kz_cp (kt_K h 1 95 25) 120 0 26 0 2 = kt_K h 1 95 26 from kt_s (a := 1) (b := 95) (K := 25) (k := 25) (by decide) (by decide) (by decide)]
  show kc_Ev g (d + 2) wk_m68 _ 98 [(0, .inr (.inr (.inl (some 95)))), (1, .inr (.inr (.inl (some 1))))] [] (kt_K h 1 95 26)
  refine kx_go 1 (pc' := 99) (L' := [(0, .inr (.inr (.inl (some 95)))), (1, .inr (.inr (.inl (some 1))))]) (S' := [.inr (.inr (.inl (some 1)))]) (h' := (kt_K h 1 95 26)) (by with_unfolding_all rfl) ?_
  refine kx_getf (c := 1) (v := .inr (.inr (.inl (some 27)))) rfl (by decide) ((show kt_K h 1 95 26 1 10 = h 1 10 from if_neg (by decide)).trans fa10) ?_
  refine kx_go 1 (pc' := 103) (L' := [(0, .inr (.inr (.inl (some 95)))), (1, .inr (.inr (.inl (some 1))))]) (S' := [.inr (.inr (.inl (some 95))), .inr (.inr (.inl (some 27)))]) (h' := (kt_K h 1 95 26)) (by with_unfolding_all rfl) ?_
  refine kx_getf (c := 95) (v := .inr (.inr (.inl (some 121)))) rfl (by decide) ((show kt_K h 1 95 26 95 10 = h 95 10 from if_neg (by decide)).trans fb10) ?_
  refine kc_call_rule (M2 := wk_m70) (av := [.inr (.inr (.inl (some 27))), .inr (.inr (.inl (some 121)))]) (r := []) rfl rfl (kc_Con_le (kt_row (d := 0) (c1 := 27) (c2 := 121) (m := 5) hg rfl (by decide) rfl (by decide) (by decide)) (by omega)) (fun rv h' hq => ?_)
  obtain ⟨rfl, rfl⟩ := hq
  rw [show kz_cp (kt_K h 1 95 26) 121 0 27 0 5 = kt_K h 1 95 27 from kt_s (a := 1) (b := 95) (K := 26) (k := 26) (by decide) (by decide) (by decide)]
  show kc_Ev g (d + 2) wk_m68 _ 109 [(0, .inr (.inr (.inl (some 95)))), (1, .inr (.inr (.inl (some 1))))] [] (kt_K h 1 95 27)
  refine kx_go 1 (pc' := 110) (L' := [(0, .inr (.inr (.inl (some 95)))), (1, .inr (.inr (.inl (some 1))))]) (S' := [.inr (.inr (.inl (some 1)))]) (h' := (kt_K h 1 95 27)) (by with_unfolding_all rfl) ?_
  refine kx_getf (c := 1) (v := .inr (.inr (.inl (some 28)))) rfl (by decide) ((show kt_K h 1 95 27 1 11 = h 1 11 from if_neg (by decide)).trans fa11) ?_
  refine kx_go 1 (pc' := 114) (L' := [(0, .inr (.inr (.inl (some 95)))), (1, .inr (.inr (.inl (some 1))))]) (S' := [.inr (.inr (.inl (some 95))), .inr (.inr (.inl (some 28)))]) (h' := (kt_K h 1 95 27)) (by with_unfolding_all rfl) ?_
  refine kx_getf (c := 95) (v := .inr (.inr (.inl (some 122)))) rfl (by decide) ((show kt_K h 1 95 27 95 11 = h 95 11 from if_neg (by decide)).trans fb11) ?_
  rw [show kt_K h 1 95 27 = kt_K h 1 95 (28 + 0) from kt_skip (by decide) (by decide)]
  refine kc_call_rule (M2 := wk_m69) (av := [.inr (.inr (.inl (some 28))), .inr (.inr (.inl (some 122)))]) (r := []) rfl rfl (kc_Con_le (kt_rows (d := 0) (A := 28) (B := 122) (n := 2) (m := 240) (K := fun i => kt_K h 1 95 (28 + i)) (ra := fun i => 29 + i) (rb := fun i => 123 + i) hg rfl (by decide) (by decide) rfl (by decide) (by decide) (by decide) (by decide) (fun i hi => (kt_ref1_95_11 i hi).1.trans (kx_ofr (hw _ _ _ (kt_q1_11 i hi)))) (fun i hi => (kt_ref1_95_11 i hi).2.trans (kx_ofr (hw _ _ _ (kt_q95_11 i hi)))) (fun i hi => kt_sp1_95_11 i hi) (fun i hi => kt_st1_95_11 i hi)) (by omega)) (fun rv h' hq => ?_)
  obtain ⟨rfl, rfl⟩ := hq
  show kc_Ev g (d + 2) wk_m68 _ 120 [(0, .inr (.inr (.inl (some 95)))), (1, .inr (.inr (.inl (some 1))))] [] (kt_K h 1 95 30)
  refine kx_go 1 (pc' := 121) (L' := [(0, .inr (.inr (.inl (some 95)))), (1, .inr (.inr (.inl (some 1))))]) (S' := [.inr (.inr (.inl (some 1)))]) (h' := (kt_K h 1 95 30)) (by with_unfolding_all rfl) ?_
  refine kx_getf (c := 1) (v := .inr (.inr (.inl (some 31)))) rfl (by decide) ((show kt_K h 1 95 30 1 12 = h 1 12 from if_neg (by decide)).trans fa12) ?_
  refine kx_go 1 (pc' := 125) (L' := [(0, .inr (.inr (.inl (some 95)))), (1, .inr (.inr (.inl (some 1))))]) (S' := [.inr (.inr (.inl (some 95))), .inr (.inr (.inl (some 31)))]) (h' := (kt_K h 1 95 30)) (by with_unfolding_all rfl) ?_
  refine kx_getf (c := 95) (v := .inr (.inr (.inl (some 125)))) rfl (by decide) ((show kt_K h 1 95 30 95 12 = h 95 12 from if_neg (by decide)).trans fb12) ?_
  refine kc_call_rule (M2 := wk_m70) (av := [.inr (.inr (.inl (some 31))), .inr (.inr (.inl (some 125)))]) (r := []) rfl rfl (kc_Con_le (kt_row (d := 0) (c1 := 31) (c2 := 125) (m := 2) hg rfl (by decide) rfl (by decide) (by decide)) (by omega)) (fun rv h' hq => ?_)
  obtain ⟨rfl, rfl⟩ := hq
  rw [show kz_cp (kt_K h 1 95 30) 125 0 31 0 2 = kt_K h 1 95 31 from kt_s (a := 1) (b := 95) (K := 30) (k := 30) (by decide) (by decide) (by decide)]
  show kc_Ev g (d + 2) wk_m68 _ 131 [(0, .inr (.inr (.inl (some 95)))), (1, .inr (.inr (.inl (some 1))))] [] (kt_K h 1 95 31)
  exact kc_ret_ok rfl (rv := none) rfl ⟨rfl, rfl⟩
theorem kt_ref64_1_4 {h : kc_H} (i : Nat) (hi : i < 6) : kt_K h 64 1 (2 + i) 65 i = h 65 i ∧ kt_K h 64 1 (2 + i) 2 i = h 2 i := by
  have z : kt_ln 1 = 0 := by decide
  unfold kt_K
  exact ⟨if_neg (by rintro ⟨q1, q2, q3⟩; omega), if_neg (by rintro ⟨q1, q2, q3⟩; rw [show 2 - 1 = 1 from rfl, z] at q3; omega)⟩
theorem kt_sp64_1_4 (i : Nat) (hi : i < 6) : kc_shp (66 + i) = some (0, 0, 6) ∧ 66 + i < kc_N ∧ kc_shp (3 + i) = some (0, 0, 6) ∧ 3 + i < kc_N := by
  have k : ∀ i, i < 6 → kc_shp (66 + i) = some (0, 0, 6) ∧ 66 + i < kc_N ∧ kc_shp (3 + i) = some (0, 0, 6) ∧ 3 + i < kc_N := by decide +kernel
  exact k i hi
theorem kt_st64_1_4 {h : kc_H} (i : Nat) (hi : i < 6) : kz_cp (kt_K h 64 1 (2 + i)) (3 + i) 0 (66 + i) 0 6 = kt_K h 64 1 (2 + (i + 1)) := by
  have e := kt_s (h := h) (a := 64) (b := 1) (K := 2 + i) (k := 2 + i) (Nat.le_refl _) (fun j q1 q2 => by omega) (by omega)
  have z : ∀ i, i < 6 → kt_ln (2 + i) = 6 := by decide
  rw [z i hi, show 1 + (2 + i) = 3 + i from by omega, show 64 + (2 + i) = 66 + i from by omega] at e
  exact e
theorem kt_ref64_1_7 {h : kc_H} (i : Nat) (hi : i < 3) : kt_K h 64 1 (11 + i) 74 i = h 74 i ∧ kt_K h 64 1 (11 + i) 11 i = h 11 i := by
  have z : kt_ln 10 = 0 := by decide
  unfold kt_K
  exact ⟨if_neg (by rintro ⟨q1, q2, q3⟩; omega), if_neg (by rintro ⟨q1, q2, q3⟩; rw [show 11 - 1 = 10 from rfl, z] at q3; omega)⟩
theorem kt_sp64_1_7 (i : Nat) (hi : i < 3) : kc_shp (75 + i) = some (0, 0, 5) ∧ 75 + i < kc_N ∧ kc_shp (12 + i) = some (0, 0, 5) ∧ 12 + i < kc_N := by
  have k : ∀ i, i < 3 → kc_shp (75 + i) = some (0, 0, 5) ∧ 75 + i < kc_N ∧ kc_shp (12 + i) = some (0, 0, 5) ∧ 12 + i < kc_N := by decide +kernel
  exact k i hi
theorem kt_st64_1_7 {h : kc_H} (i : Nat) (hi : i < 3) : kz_cp (kt_K h 64 1 (11 + i)) (12 + i) 0 (75 + i) 0 5 = kt_K h 64 1 (11 + (i + 1)) := by
  have e := kt_s (h := h) (a := 64) (b := 1) (K := 11 + i) (k := 11 + i) (Nat.le_refl _) (fun j q1 q2 => by omega) (by omega)
  have z : ∀ i, i < 3 → kt_ln (11 + i) = 5 := by decide
  rw [z i hi, show 1 + (11 + i) = 12 + i from by omega, show 64 + (11 + i) = 75 + i from by omega] at e
  exact e
theorem kt_ref64_1_8 {h : kc_H} (i : Nat) (hi : i < 10) : kt_K h 64 1 (15 + i) 78 i = h 78 i ∧ kt_K h 64 1 (15 + i) 15 i = h 15 i := by
  have z : kt_ln 14 = 0 := by decide
  unfold kt_K
  exact ⟨if_neg (by rintro ⟨q1, q2, q3⟩; omega), if_neg (by rintro ⟨q1, q2, q3⟩; rw [show 15 - 1 = 14 from rfl, z] at q3; omega)⟩
theorem kt_sp64_1_8 (i : Nat) (hi : i < 10) : kc_shp (79 + i) = some (0, 0, 7) ∧ 79 + i < kc_N ∧ kc_shp (16 + i) = some (0, 0, 7) ∧ 16 + i < kc_N := by
  have k : ∀ i, i < 10 → kc_shp (79 + i) = some (0, 0, 7) ∧ 79 + i < kc_N ∧ kc_shp (16 + i) = some (0, 0, 7) ∧ 16 + i < kc_N := by decide +kernel
  exact k i hi
theorem kt_st64_1_8 {h : kc_H} (i : Nat) (hi : i < 10) : kz_cp (kt_K h 64 1 (15 + i)) (16 + i) 0 (79 + i) 0 7 = kt_K h 64 1 (15 + (i + 1)) := by
  have e := kt_s (h := h) (a := 64) (b := 1) (K := 15 + i) (k := 15 + i) (Nat.le_refl _) (fun j q1 q2 => by omega) (by omega)
  have z : ∀ i, i < 10 → kt_ln (15 + i) = 7 := by decide
  rw [z i hi, show 1 + (15 + i) = 16 + i from by omega, show 64 + (15 + i) = 79 + i from by omega] at e
  exact e
theorem kt_ref64_1_11 {h : kc_H} (i : Nat) (hi : i < 2) : kt_K h 64 1 (28 + i) 91 i = h 91 i ∧ kt_K h 64 1 (28 + i) 28 i = h 28 i := by
  have z : kt_ln 27 = 0 := by decide
  unfold kt_K
  exact ⟨if_neg (by rintro ⟨q1, q2, q3⟩; omega), if_neg (by rintro ⟨q1, q2, q3⟩; rw [show 28 - 1 = 27 from rfl, z] at q3; omega)⟩
theorem kt_sp64_1_11 (i : Nat) (hi : i < 2) : kc_shp (92 + i) = some (0, 0, 240) ∧ 92 + i < kc_N ∧ kc_shp (29 + i) = some (0, 0, 240) ∧ 29 + i < kc_N := by
  have k : ∀ i, i < 2 → kc_shp (92 + i) = some (0, 0, 240) ∧ 92 + i < kc_N ∧ kc_shp (29 + i) = some (0, 0, 240) ∧ 29 + i < kc_N := by decide +kernel
  exact k i hi
theorem kt_st64_1_11 {h : kc_H} (i : Nat) (hi : i < 2) : kz_cp (kt_K h 64 1 (28 + i)) (29 + i) 0 (92 + i) 0 240 = kt_K h 64 1 (28 + (i + 1)) := by
  have e := kt_s (h := h) (a := 64) (b := 1) (K := 28 + i) (k := 28 + i) (Nat.le_refl _) (fun j q1 q2 => by omega) (by omega)
  have z : ∀ i, i < 2 → kt_ln (28 + i) = 240 := by decide
  rw [z i hi, show 1 + (28 + i) = 29 + i from by omega, show 64 + (28 + i) = 92 + i from by omega] at e
  exact e
set_option maxRecDepth 20000 in
theorem kt_take64_1 {g : kc_G} {d : Nat} {h : kc_H} (hg : kc_ok g) (hw : kd_wt kd_ty h) : kc_Con g (d + 3) 68 [.inr (.inr (.inl (some 1))), .inr (.inr (.inl (some 64)))] h (fun rv h' => rv = none ∧ h' = kt_K h 64 1 31) := by
  refine kc_Con_new hg (M := wk_m68) rfl rfl rfl (show 2 ≤ 2 by decide) ?_
  have ka := kt_k64
  have kb := kt_k1
  obtain ⟨w0, -, ew0⟩ := kx_ofg (by omega) (hw _ _ _ ka.2.2.1)
  obtain ⟨w1, -, ew1⟩ := kx_ofg (by omega) (hw _ _ _ ka.2.2.2.1)
  obtain ⟨w2, -, ew2⟩ := kx_ofg (by omega) (hw _ _ _ ka.2.2.2.2.1)
  obtain ⟨w3, -, ew3⟩ := kx_ofg (by omega) (hw _ _ _ ka.2.2.2.2.2)
  have fa4 := kx_ofr (hw _ _ _ ka.1.1)
  have fb4 := kx_ofr (hw _ _ _ kb.1.1)
  have fa5 := kx_ofr (hw _ _ _ ka.1.2.1)
  have fb5 := kx_ofr (hw _ _ _ kb.1.2.1)
  have fa6 := kx_ofr (hw _ _ _ ka.1.2.2.1)
  have fb6 := kx_ofr (hw _ _ _ kb.1.2.2.1)
  have fa7 := kx_ofr (hw _ _ _ ka.1.2.2.2.1)
  have fb7 := kx_ofr (hw _ _ _ kb.1.2.2.2.1)
  have fa8 := kx_ofr (hw _ _ _ ka.1.2.2.2.2)
  have fb8 := kx_ofr (hw _ _ _ kb.1.2.2.2.2)
  have fa9 := kx_ofr (hw _ _ _ ka.2.1.1)
  have fb9 := kx_ofr (hw _ _ _ kb.2.1.1)
  have fa10 := kx_ofr (hw _ _ _ ka.2.1.2.1)
  have fb10 := kx_ofr (hw _ _ _ kb.2.1.2.1)
  have fa11 := kx_ofr (hw _ _ _ ka.2.1.2.2.1)
  have fb11 := kx_ofr (hw _ _ _ kb.2.1.2.2.1)
  have fa12 := kx_ofr (hw _ _ _ ka.2.1.2.2.2)
  have fb12 := kx_ofr (hw _ _ _ kb.2.1.2.2.2)
  refine kx_go 2 (pc' := 2) (L' := [(0, .inr (.inr (.inl (some 1)))), (1, .inr (.inr (.inl (some 64))))]) (S' := [.inr (.inr (.inl (some 64))), .inr (.inr (.inl (some 1)))]) (h' := h) (by with_unfolding_all rfl) ?_
  refine kx_getf (c := 64) (v := .inl (Int32.ofNat w0)) rfl (by decide) ew0 ?_
  refine kx_go 1 (pc' := 8) (L' := [(0, .inr (.inr (.inl (some 1)))), (1, .inr (.inr (.inl (some 64))))]) (S' := []) (h' := (kc_upd h 1 0 (.inl (Int32.ofNat w0)))) (by with_unfolding_all rfl) ?_
  refine kx_go 2 (pc' := 10) (L' := [(0, .inr (.inr (.inl (some 1)))), (1, .inr (.inr (.inl (some 64))))]) (S' := [.inr (.inr (.inl (some 64))), .inr (.inr (.inl (some 1)))]) (h' := (kc_upd h 1 0 (.inl (Int32.ofNat w0)))) (by with_unfolding_all rfl) ?_
  refine kx_getf (c := 64) (v := .inl (Int32.ofNat w1)) rfl (by decide) ((kj_uo (by decide)).trans (ew1)) ?_
  refine kx_go 1 (pc' := 16) (L' := [(0, .inr (.inr (.inl (some 1)))), (1, .inr (.inr (.inl (some 64))))]) (S' := []) (h' := (kc_upd (kc_upd h 1 0 (.inl (Int32.ofNat w0))) 1 1 (.inl (Int32.ofNat w1)))) (by with_unfolding_all rfl) ?_
  refine kx_go 2 (pc' := 18) (L' := [(0, .inr (.inr (.inl (some 1)))), (1, .inr (.inr (.inl (some 64))))]) (S' := [.inr (.inr (.inl (some 64))), .inr (.inr (.inl (some 1)))]) (h' := (kc_upd (kc_upd h 1 0 (.inl (Int32.ofNat w0))) 1 1 (.inl (Int32.ofNat w1)))) (by with_unfolding_all rfl) ?_
  refine kx_getf (c := 64) (v := .inl (Int32.ofNat w2)) rfl (by decide) ((kj_uo (by decide)).trans ((kj_uo (by decide)).trans (ew2))) ?_
  refine kx_go 1 (pc' := 24) (L' := [(0, .inr (.inr (.inl (some 1)))), (1, .inr (.inr (.inl (some 64))))]) (S' := []) (h' := (kc_upd (kc_upd (kc_upd h 1 0 (.inl (Int32.ofNat w0))) 1 1 (.inl (Int32.ofNat w1))) 1 2 (.inl (Int32.ofNat w2)))) (by with_unfolding_all rfl) ?_
  refine kx_go 2 (pc' := 26) (L' := [(0, .inr (.inr (.inl (some 1)))), (1, .inr (.inr (.inl (some 64))))]) (S' := [.inr (.inr (.inl (some 64))), .inr (.inr (.inl (some 1)))]) (h' := (kc_upd (kc_upd (kc_upd h 1 0 (.inl (Int32.ofNat w0))) 1 1 (.inl (Int32.ofNat w1))) 1 2 (.inl (Int32.ofNat w2)))) (by with_unfolding_all rfl) ?_
  refine kx_getf (c := 64) (v := .inl (Int32.ofNat w3)) rfl (by decide) ((kj_uo (by decide)).trans ((kj_uo (by decide)).trans ((kj_uo (by decide)).trans (ew3)))) ?_
  refine kx_go 1 (pc' := 32) (L' := [(0, .inr (.inr (.inl (some 1)))), (1, .inr (.inr (.inl (some 64))))]) (S' := []) (h' := (kc_upd (kc_upd (kc_upd (kc_upd h 1 0 (.inl (Int32.ofNat w0))) 1 1 (.inl (Int32.ofNat w1))) 1 2 (.inl (Int32.ofNat w2))) 1 3 (.inl (Int32.ofNat w3)))) (by with_unfolding_all rfl) ?_
  rw [kt_0 ew0 ew1 ew2 ew3]
  refine kx_go 1 (pc' := 33) (L' := [(0, .inr (.inr (.inl (some 1)))), (1, .inr (.inr (.inl (some 64))))]) (S' := [.inr (.inr (.inl (some 64)))]) (h' := (kt_K h 64 1 1)) (by with_unfolding_all rfl) ?_
  refine kx_getf (c := 64) (v := .inr (.inr (.inl (some 65)))) rfl (by decide) ((show kt_K h 64 1 1 64 4 = h 64 4 from if_neg (by decide)).trans fa4) ?_
  refine kx_go 1 (pc' := 37) (L' := [(0, .inr (.inr (.inl (some 1)))), (1, .inr (.inr (.inl (some 64))))]) (S' := [.inr (.inr (.inl (some 1))), .inr (.inr (.inl (some 65)))]) (h' := (kt_K h 64 1 1)) (by with_unfolding_all rfl) ?_
  refine kx_getf (c := 1) (v := .inr (.inr (.inl (some 2)))) rfl (by decide) ((show kt_K h 64 1 1 1 4 = h 1 4 from if_neg (by decide)).trans fb4) ?_
  rw [show kt_K h 64 1 1 = kt_K h 64 1 (2 + 0) from kt_skip (by decide) (by decide)]
  refine kc_call_rule (M2 := wk_m69) (av := [.inr (.inr (.inl (some 65))), .inr (.inr (.inl (some 2)))]) (r := []) rfl rfl (kc_Con_le (kt_rows (d := 0) (A := 65) (B := 2) (n := 6) (m := 6) (K := fun i => kt_K h 64 1 (2 + i)) (ra := fun i => 66 + i) (rb := fun i => 3 + i) hg rfl (by decide) (by decide) rfl (by decide) (by decide) (by decide) (by decide) (fun i hi => (kt_ref64_1_4 i hi).1.trans (kx_ofr (hw _ _ _ (kt_q64_4 i hi)))) (fun i hi => (kt_ref64_1_4 i hi).2.trans (kx_ofr (hw _ _ _ (kt_q1_4 i hi)))) (fun i hi => kt_sp64_1_4 i hi) (fun i hi => kt_st64_1_4 i hi)) (by omega)) (fun rv h' hq => ?_)
  obtain ⟨rfl, rfl⟩ := hq
  show kc_Ev g (d + 2) wk_m68 _ 43 [(0, .inr (.inr (.inl (some 1)))), (1, .inr (.inr (.inl (some 64))))] [] (kt_K h 64 1 8)
  refine kx_go 1 (pc' := 44) (L' := [(0, .inr (.inr (.inl (some 1)))), (1, .inr (.inr (.inl (some 64))))]) (S' := [.inr (.inr (.inl (some 64)))]) (h' := (kt_K h 64 1 8)) (by with_unfolding_all rfl) ?_
  refine kx_getf (c := 64) (v := .inr (.inr (.inl (some 72)))) rfl (by decide) ((show kt_K h 64 1 8 64 5 = h 64 5 from if_neg (by decide)).trans fa5) ?_
  refine kx_go 1 (pc' := 48) (L' := [(0, .inr (.inr (.inl (some 1)))), (1, .inr (.inr (.inl (some 64))))]) (S' := [.inr (.inr (.inl (some 1))), .inr (.inr (.inl (some 72)))]) (h' := (kt_K h 64 1 8)) (by with_unfolding_all rfl) ?_
  refine kx_getf (c := 1) (v := .inr (.inr (.inl (some 9)))) rfl (by decide) ((show kt_K h 64 1 8 1 5 = h 1 5 from if_neg (by decide)).trans fb5) ?_
  refine kc_call_rule (M2 := wk_m70) (av := [.inr (.inr (.inl (some 72))), .inr (.inr (.inl (some 9)))]) (r := []) rfl rfl (kc_Con_le (kt_row (d := 0) (c1 := 72) (c2 := 9) (m := 6) hg rfl (by decide) rfl (by decide) (by decide)) (by omega)) (fun rv h' hq => ?_)
  obtain ⟨rfl, rfl⟩ := hq
  rw [show kz_cp (kt_K h 64 1 8) 9 0 72 0 6 = kt_K h 64 1 9 from kt_s (a := 64) (b := 1) (K := 8) (k := 8) (by decide) (by decide) (by decide)]
  show kc_Ev g (d + 2) wk_m68 _ 54 [(0, .inr (.inr (.inl (some 1)))), (1, .inr (.inr (.inl (some 64))))] [] (kt_K h 64 1 9)
  refine kx_go 1 (pc' := 55) (L' := [(0, .inr (.inr (.inl (some 1)))), (1, .inr (.inr (.inl (some 64))))]) (S' := [.inr (.inr (.inl (some 64)))]) (h' := (kt_K h 64 1 9)) (by with_unfolding_all rfl) ?_
  refine kx_getf (c := 64) (v := .inr (.inr (.inl (some 73)))) rfl (by decide) ((show kt_K h 64 1 9 64 6 = h 64 6 from if_neg (by decide)).trans fa6) ?_
  refine kx_go 1 (pc' := 59) (L' := [(0, .inr (.inr (.inl (some 1)))), (1, .inr (.inr (.inl (some 64))))]) (S' := [.inr (.inr (.inl (some 1))), .inr (.inr (.inl (some 73)))]) (h' := (kt_K h 64 1 9)) (by with_unfolding_all rfl) ?_
  refine kx_getf (c := 1) (v := .inr (.inr (.inl (some 10)))) rfl (by decide) ((show kt_K h 64 1 9 1 6 = h 1 6 from if_neg (by decide)).trans fb6) ?_
  refine kc_call_rule (M2 := wk_m70) (av := [.inr (.inr (.inl (some 73))), .inr (.inr (.inl (some 10)))]) (r := []) rfl rfl (kc_Con_le (kt_row (d := 0) (c1 := 73) (c2 := 10) (m := 6) hg rfl (by decide) rfl (by decide) (by decide)) (by omega)) (fun rv h' hq => ?_)
  obtain ⟨rfl, rfl⟩ := hq
  rw [show kz_cp (kt_K h 64 1 9) 10 0 73 0 6 = kt_K h 64 1 10 from kt_s (a := 64) (b := 1) (K := 9) (k := 9) (by decide) (by decide) (by decide)]
  show kc_Ev g (d + 2) wk_m68 _ 65 [(0, .inr (.inr (.inl (some 1)))), (1, .inr (.inr (.inl (some 64))))] [] (kt_K h 64 1 10)
  refine kx_go 1 (pc' := 66) (L' := [(0, .inr (.inr (.inl (some 1)))), (1, .inr (.inr (.inl (some 64))))]) (S' := [.inr (.inr (.inl (some 64)))]) (h' := (kt_K h 64 1 10)) (by with_unfolding_all rfl) ?_
  refine kx_getf (c := 64) (v := .inr (.inr (.inl (some 74)))) rfl (by decide) ((show kt_K h 64 1 10 64 7 = h 64 7 from if_neg (by decide)).trans fa7) ?_
  refine kx_go 1 (pc' := 70) (L' := [(0, .inr (.inr (.inl (some 1)))), (1, .inr (.inr (.inl (some 64))))]) (S' := [.inr (.inr (.inl (some 1))), .inr (.inr (.inl (some 74)))]) (h' := (kt_K h 64 1 10)) (by with_unfolding_all rfl) ?_
  refine kx_getf (c := 1) (v := .inr (.inr (.inl (some 11)))) rfl (by decide) ((show kt_K h 64 1 10 1 7 = h 1 7 from if_neg (by decide)).trans fb7) ?_
  rw [show kt_K h 64 1 10 = kt_K h 64 1 (11 + 0) from kt_skip (by decide) (by decide)]
  refine kc_call_rule (M2 := wk_m69) (av := [.inr (.inr (.inl (some 74))), .inr (.inr (.inl (some 11)))]) (r := []) rfl rfl (kc_Con_le (kt_rows (d := 0) (A := 74) (B := 11) (n := 3) (m := 5) (K := fun i => kt_K h 64 1 (11 + i)) (ra := fun i => 75 + i) (rb := fun i => 12 + i) hg rfl (by decide) (by decide) rfl (by decide) (by decide) (by decide) (by decide) (fun i hi => (kt_ref64_1_7 i hi).1.trans (kx_ofr (hw _ _ _ (kt_q64_7 i hi)))) (fun i hi => (kt_ref64_1_7 i hi).2.trans (kx_ofr (hw _ _ _ (kt_q1_7 i hi)))) (fun i hi => kt_sp64_1_7 i hi) (fun i hi => kt_st64_1_7 i hi)) (by omega)) (fun rv h' hq => ?_)
  obtain ⟨rfl, rfl⟩ := hq
  show kc_Ev g (d + 2) wk_m68 _ 76 [(0, .inr (.inr (.inl (some 1)))), (1, .inr (.inr (.inl (some 64))))] [] (kt_K h 64 1 14)
  refine kx_go 1 (pc' := 77) (L' := [(0, .inr (.inr (.inl (some 1)))), (1, .inr (.inr (.inl (some 64))))]) (S' := [.inr (.inr (.inl (some 64)))]) (h' := (kt_K h 64 1 14)) (by with_unfolding_all rfl) ?_
  refine kx_getf (c := 64) (v := .inr (.inr (.inl (some 78)))) rfl (by decide) ((show kt_K h 64 1 14 64 8 = h 64 8 from if_neg (by decide)).trans fa8) ?_
  refine kx_go 1 (pc' := 81) (L' := [(0, .inr (.inr (.inl (some 1)))), (1, .inr (.inr (.inl (some 64))))]) (S' := [.inr (.inr (.inl (some 1))), .inr (.inr (.inl (some 78)))]) (h' := (kt_K h 64 1 14)) (by with_unfolding_all rfl) ?_
  refine kx_getf (c := 1) (v := .inr (.inr (.inl (some 15)))) rfl (by decide) ((show kt_K h 64 1 14 1 8 = h 1 8 from if_neg (by decide)).trans fb8) ?_
  rw [show kt_K h 64 1 14 = kt_K h 64 1 (15 + 0) from kt_skip (by decide) (by decide)]
  refine kc_call_rule (M2 := wk_m69) (av := [.inr (.inr (.inl (some 78))), .inr (.inr (.inl (some 15)))]) (r := []) rfl rfl (kc_Con_le (kt_rows (d := 0) (A := 78) (B := 15) (n := 10) (m := 7) (K := fun i => kt_K h 64 1 (15 + i)) (ra := fun i => 79 + i) (rb := fun i => 16 + i) hg rfl (by decide) (by decide) rfl (by decide) (by decide) (by decide) (by decide) (fun i hi => (kt_ref64_1_8 i hi).1.trans (kx_ofr (hw _ _ _ (kt_q64_8 i hi)))) (fun i hi => (kt_ref64_1_8 i hi).2.trans (kx_ofr (hw _ _ _ (kt_q1_8 i hi)))) (fun i hi => kt_sp64_1_8 i hi) (fun i hi => kt_st64_1_8 i hi)) (by omega)) (fun rv h' hq => ?_)
  obtain ⟨rfl, rfl⟩ := hq
  show kc_Ev g (d + 2) wk_m68 _ 87 [(0, .inr (.inr (.inl (some 1)))), (1, .inr (.inr (.inl (some 64))))] [] (kt_K h 64 1 25)
  refine kx_go 1 (pc' := 88) (L' := [(0, .inr (.inr (.inl (some 1)))), (1, .inr (.inr (.inl (some 64))))]) (S' := [.inr (.inr (.inl (some 64)))]) (h' := (kt_K h 64 1 25)) (by with_unfolding_all rfl) ?_
  refine kx_getf (c := 64) (v := .inr (.inr (.inl (some 89)))) rfl (by decide) ((show kt_K h 64 1 25 64 9 = h 64 9 from if_neg (by decide)).trans fa9) ?_
  refine kx_go 1 (pc' := 92) (L' := [(0, .inr (.inr (.inl (some 1)))), (1, .inr (.inr (.inl (some 64))))]) (S' := [.inr (.inr (.inl (some 1))), .inr (.inr (.inl (some 89)))]) (h' := (kt_K h 64 1 25)) (by with_unfolding_all rfl) ?_
  refine kx_getf (c := 1) (v := .inr (.inr (.inl (some 26)))) rfl (by decide) ((show kt_K h 64 1 25 1 9 = h 1 9 from if_neg (by decide)).trans fb9) ?_
  refine kc_call_rule (M2 := wk_m70) (av := [.inr (.inr (.inl (some 89))), .inr (.inr (.inl (some 26)))]) (r := []) rfl rfl (kc_Con_le (kt_row (d := 0) (c1 := 89) (c2 := 26) (m := 2) hg rfl (by decide) rfl (by decide) (by decide)) (by omega)) (fun rv h' hq => ?_)
  obtain ⟨rfl, rfl⟩ := hq
  rw [show kz_cp (kt_K h 64 1 25) 26 0 89 0 2 = kt_K h 64 1 26 from kt_s (a := 64) (b := 1) (K := 25) (k := 25) (by decide) (by decide) (by decide)]
  show kc_Ev g (d + 2) wk_m68 _ 98 [(0, .inr (.inr (.inl (some 1)))), (1, .inr (.inr (.inl (some 64))))] [] (kt_K h 64 1 26)
  refine kx_go 1 (pc' := 99) (L' := [(0, .inr (.inr (.inl (some 1)))), (1, .inr (.inr (.inl (some 64))))]) (S' := [.inr (.inr (.inl (some 64)))]) (h' := (kt_K h 64 1 26)) (by with_unfolding_all rfl) ?_
  refine kx_getf (c := 64) (v := .inr (.inr (.inl (some 90)))) rfl (by decide) ((show kt_K h 64 1 26 64 10 = h 64 10 from if_neg (by decide)).trans fa10) ?_
  refine kx_go 1 (pc' := 103) (L' := [(0, .inr (.inr (.inl (some 1)))), (1, .inr (.inr (.inl (some 64))))]) (S' := [.inr (.inr (.inl (some 1))), .inr (.inr (.inl (some 90)))]) (h' := (kt_K h 64 1 26)) (by with_unfolding_all rfl) ?_
  refine kx_getf (c := 1) (v := .inr (.inr (.inl (some 27)))) rfl (by decide) ((show kt_K h 64 1 26 1 10 = h 1 10 from if_neg (by decide)).trans fb10) ?_
  refine kc_call_rule (M2 := wk_m70) (av := [.inr (.inr (.inl (some 90))), .inr (.inr (.inl (some 27)))]) (r := []) rfl rfl (kc_Con_le (kt_row (d := 0) (c1 := 90) (c2 := 27) (m := 5) hg rfl (by decide) rfl (by decide) (by decide)) (by omega)) (fun rv h' hq => ?_)
  obtain ⟨rfl, rfl⟩ := hq
  rw [show kz_cp (kt_K h 64 1 26) 27 0 90 0 5 = kt_K h 64 1 27 from kt_s (a := 64) (b := 1) (K := 26) (k := 26) (by decide) (by decide) (by decide)]
  show kc_Ev g (d + 2) wk_m68 _ 109 [(0, .inr (.inr (.inl (some 1)))), (1, .inr (.inr (.inl (some 64))))] [] (kt_K h 64 1 27)
  refine kx_go 1 (pc' := 110) (L' := [(0, .inr (.inr (.inl (some 1)))), (1, .inr (.inr (.inl (some 64))))]) (S' := [.inr (.inr (.inl (some 64)))]) (h' := (kt_K h 64 1 27)) (by with_unfolding_all rfl) ?_
  refine kx_getf (c := 64) (v := .inr (.inr (.inl (some 91)))) rfl (by decide) ((show kt_K h 64 1 27 64 11 = h 64 11 from if_neg (by decide)).trans fa11) ?_
  refine kx_go 1 (pc' := 114) (L' := [(0, .inr (.inr (.inl (some 1)))), (1, .inr (.inr (.inl (some 64))))]) (S' := [.inr (.inr (.inl (some 1))), .inr (.inr (.inl (some 91)))]) (h' := (kt_K h 64 1 27)) (by with_unfolding_all rfl) ?_
  refine kx_getf (c := 1) (v := .inr (.inr (.inl (some 28)))) rfl (by decide) ((show kt_K h 64 1 27 1 11 = h 1 11 from if_neg (by decide)).trans fb11) ?_
  rw [show kt_K h 64 1 27 = kt_K h 64 1 (28 + 0) from kt_skip (by decide) (by decide)]
  refine kc_call_rule (M2 := wk_m69) (av := [.inr (.inr (.inl (some 91))), .inr (.inr (.inl (some 28)))]) (r := []) rfl rfl (kc_Con_le (kt_rows (d := 0) (A := 91) (B := 28) (n := 2) (m := 240) (K := fun i => kt_K h 64 1 (28 + i)) (ra := fun i => 92 + i) (rb := fun i => 29 + i) hg rfl (by decide) (by decide) rfl (by decide) (by decide) (by decide) (by decide) (fun i hi => (kt_ref64_1_11 i hi).1.trans (kx_ofr (hw _ _ _ (kt_q64_11 i hi)))) (fun i hi => (kt_ref64_1_11 i hi).2.trans (kx_ofr (hw _ _ _ (kt_q1_11 i hi)))) (fun i hi => kt_sp64_1_11 i hi) (fun i hi => kt_st64_1_11 i hi)) (by omega)) (fun rv h' hq => ?_)
  obtain ⟨rfl, rfl⟩ := hq
  show kc_Ev g (d + 2) wk_m68 _ 120 [(0, .inr (.inr (.inl (some 1)))), (1, .inr (.inr (.inl (some 64))))] [] (kt_K h 64 1 30)
  refine kx_go 1 (pc' := 121) (L' := [(0, .inr (.inr (.inl (some 1)))), (1, .inr (.inr (.inl (some 64))))]) (S' := [.inr (.inr (.inl (some 64)))]) (h' := (kt_K h 64 1 30)) (by with_unfolding_all rfl) ?_
  refine kx_getf (c := 64) (v := .inr (.inr (.inl (some 94)))) rfl (by decide) ((show kt_K h 64 1 30 64 12 = h 64 12 from if_neg (by decide)).trans fa12) ?_
  refine kx_go 1 (pc' := 125) (L' := [(0, .inr (.inr (.inl (some 1)))), (1, .inr (.inr (.inl (some 64))))]) (S' := [.inr (.inr (.inl (some 1))), .inr (.inr (.inl (some 94)))]) (h' := (kt_K h 64 1 30)) (by with_unfolding_all rfl) ?_
  refine kx_getf (c := 1) (v := .inr (.inr (.inl (some 31)))) rfl (by decide) ((show kt_K h 64 1 30 1 12 = h 1 12 from if_neg (by decide)).trans fb12) ?_
  refine kc_call_rule (M2 := wk_m70) (av := [.inr (.inr (.inl (some 94))), .inr (.inr (.inl (some 31)))]) (r := []) rfl rfl (kc_Con_le (kt_row (d := 0) (c1 := 94) (c2 := 31) (m := 2) hg rfl (by decide) rfl (by decide) (by decide)) (by omega)) (fun rv h' hq => ?_)
  obtain ⟨rfl, rfl⟩ := hq
  rw [show kz_cp (kt_K h 64 1 30) 31 0 94 0 2 = kt_K h 64 1 31 from kt_s (a := 64) (b := 1) (K := 30) (k := 30) (by decide) (by decide) (by decide)]
  show kc_Ev g (d + 2) wk_m68 _ 131 [(0, .inr (.inr (.inl (some 1)))), (1, .inr (.inr (.inl (some 64))))] [] (kt_K h 64 1 31)
  exact kc_ret_ok rfl (rv := none) rfl ⟨rfl, rfl⟩
theorem kt_ref95_1_4 {h : kc_H} (i : Nat) (hi : i < 6) : kt_K h 95 1 (2 + i) 96 i = h 96 i ∧ kt_K h 95 1 (2 + i) 2 i = h 2 i := by
  have z : kt_ln 1 = 0 := by decide
  unfold kt_K
  exact ⟨if_neg (by rintro ⟨q1, q2, q3⟩; omega), if_neg (by rintro ⟨q1, q2, q3⟩; rw [show 2 - 1 = 1 from rfl, z] at q3; omega)⟩
theorem kt_sp95_1_4 (i : Nat) (hi : i < 6) : kc_shp (97 + i) = some (0, 0, 6) ∧ 97 + i < kc_N ∧ kc_shp (3 + i) = some (0, 0, 6) ∧ 3 + i < kc_N := by
  have k : ∀ i, i < 6 → kc_shp (97 + i) = some (0, 0, 6) ∧ 97 + i < kc_N ∧ kc_shp (3 + i) = some (0, 0, 6) ∧ 3 + i < kc_N := by decide +kernel
  exact k i hi
theorem kt_st95_1_4 {h : kc_H} (i : Nat) (hi : i < 6) : kz_cp (kt_K h 95 1 (2 + i)) (3 + i) 0 (97 + i) 0 6 = kt_K h 95 1 (2 + (i + 1)) := by
  have e := kt_s (h := h) (a := 95) (b := 1) (K := 2 + i) (k := 2 + i) (Nat.le_refl _) (fun j q1 q2 => by omega) (by omega)
  have z : ∀ i, i < 6 → kt_ln (2 + i) = 6 := by decide
  rw [z i hi, show 1 + (2 + i) = 3 + i from by omega, show 95 + (2 + i) = 97 + i from by omega] at e
  exact e
theorem kt_ref95_1_7 {h : kc_H} (i : Nat) (hi : i < 3) : kt_K h 95 1 (11 + i) 105 i = h 105 i ∧ kt_K h 95 1 (11 + i) 11 i = h 11 i := by
  have z : kt_ln 10 = 0 := by decide
  unfold kt_K
  exact ⟨if_neg (by rintro ⟨q1, q2, q3⟩; omega), if_neg (by rintro ⟨q1, q2, q3⟩; rw [show 11 - 1 = 10 from rfl, z] at q3; omega)⟩
theorem kt_sp95_1_7 (i : Nat) (hi : i < 3) : kc_shp (106 + i) = some (0, 0, 5) ∧ 106 + i < kc_N ∧ kc_shp (12 + i) = some (0, 0, 5) ∧ 12 + i < kc_N := by
  have k : ∀ i, i < 3 → kc_shp (106 + i) = some (0, 0, 5) ∧ 106 + i < kc_N ∧ kc_shp (12 + i) = some (0, 0, 5) ∧ 12 + i < kc_N := by decide +kernel
  exact k i hi
theorem kt_st95_1_7 {h : kc_H} (i : Nat) (hi : i < 3) : kz_cp (kt_K h 95 1 (11 + i)) (12 + i) 0 (106 + i) 0 5 = kt_K h 95 1 (11 + (i + 1)) := by
  have e := kt_s (h := h) (a := 95) (b := 1) (K := 11 + i) (k := 11 + i) (Nat.le_refl _) (fun j q1 q2 => by omega) (by omega)
  have z : ∀ i, i < 3 → kt_ln (11 + i) = 5 := by decide
  rw [z i hi, show 1 + (11 + i) = 12 + i from by omega, show 95 + (11 + i) = 106 + i from by omega] at e
  exact e
theorem kt_ref95_1_8 {h : kc_H} (i : Nat) (hi : i < 10) : kt_K h 95 1 (15 + i) 109 i = h 109 i ∧ kt_K h 95 1 (15 + i) 15 i = h 15 i := by
  have z : kt_ln 14 = 0 := by decide
  unfold kt_K
  exact ⟨if_neg (by rintro ⟨q1, q2, q3⟩; omega), if_neg (by rintro ⟨q1, q2, q3⟩; rw [show 15 - 1 = 14 from rfl, z] at q3; omega)⟩
theorem kt_sp95_1_8 (i : Nat) (hi : i < 10) : kc_shp (110 + i) = some (0, 0, 7) ∧ 110 + i < kc_N ∧ kc_shp (16 + i) = some (0, 0, 7) ∧ 16 + i < kc_N := by
  have k : ∀ i, i < 10 → kc_shp (110 + i) = some (0, 0, 7) ∧ 110 + i < kc_N ∧ kc_shp (16 + i) = some (0, 0, 7) ∧ 16 + i < kc_N := by decide +kernel
  exact k i hi
theorem kt_st95_1_8 {h : kc_H} (i : Nat) (hi : i < 10) : kz_cp (kt_K h 95 1 (15 + i)) (16 + i) 0 (110 + i) 0 7 = kt_K h 95 1 (15 + (i + 1)) := by
  have e := kt_s (h := h) (a := 95) (b := 1) (K := 15 + i) (k := 15 + i) (Nat.le_refl _) (fun j q1 q2 => by omega) (by omega)
  have z : ∀ i, i < 10 → kt_ln (15 + i) = 7 := by decide
  rw [z i hi, show 1 + (15 + i) = 16 + i from by omega, show 95 + (15 + i) = 110 + i from by omega] at e
  exact e
theorem kt_ref95_1_11 {h : kc_H} (i : Nat) (hi : i < 2) : kt_K h 95 1 (28 + i) 122 i = h 122 i ∧ kt_K h 95 1 (28 + i) 28 i = h 28 i := by
  have z : kt_ln 27 = 0 := by decide
  unfold kt_K
  exact ⟨if_neg (by rintro ⟨q1, q2, q3⟩; omega), if_neg (by rintro ⟨q1, q2, q3⟩; rw [show 28 - 1 = 27 from rfl, z] at q3; omega)⟩
theorem kt_sp95_1_11 (i : Nat) (hi : i < 2) : kc_shp (123 + i) = some (0, 0, 240) ∧ 123 + i < kc_N ∧ kc_shp (29 + i) = some (0, 0, 240) ∧ 29 + i < kc_N := by
  have k : ∀ i, i < 2 → kc_shp (123 + i) = some (0, 0, 240) ∧ 123 + i < kc_N ∧ kc_shp (29 + i) = some (0, 0, 240) ∧ 29 + i < kc_N := by decide +kernel
  exact k i hi
theorem kt_st95_1_11 {h : kc_H} (i : Nat) (hi : i < 2) : kz_cp (kt_K h 95 1 (28 + i)) (29 + i) 0 (123 + i) 0 240 = kt_K h 95 1 (28 + (i + 1)) := by
  have e := kt_s (h := h) (a := 95) (b := 1) (K := 28 + i) (k := 28 + i) (Nat.le_refl _) (fun j q1 q2 => by omega) (by omega)
  have z : ∀ i, i < 2 → kt_ln (28 + i) = 240 := by decide
  rw [z i hi, show 1 + (28 + i) = 29 + i from by omega, show 95 + (28 + i) = 123 + i from by omega] at e
  exact e
set_option maxRecDepth 20000 in
theorem kt_take95_1 {g : kc_G} {d : Nat} {h : kc_H} (hg : kc_ok g) (hw : kd_wt kd_ty h) : kc_Con g (d + 3) 68 [.inr (.inr (.inl (some 1))), .inr (.inr (.inl (some 95)))] h (fun rv h' => rv = none ∧ h' = kt_K h 95 1 31) := by
  refine kc_Con_new hg (M := wk_m68) rfl rfl rfl (show 2 ≤ 2 by decide) ?_
  have ka := kt_k95
  have kb := kt_k1
  obtain ⟨w0, -, ew0⟩ := kx_ofg (by omega) (hw _ _ _ ka.2.2.1)
  obtain ⟨w1, -, ew1⟩ := kx_ofg (by omega) (hw _ _ _ ka.2.2.2.1)
  obtain ⟨w2, -, ew2⟩ := kx_ofg (by omega) (hw _ _ _ ka.2.2.2.2.1)
  obtain ⟨w3, -, ew3⟩ := kx_ofg (by omega) (hw _ _ _ ka.2.2.2.2.2)
  have fa4 := kx_ofr (hw _ _ _ ka.1.1)
  have fb4 := kx_ofr (hw _ _ _ kb.1.1)
  have fa5 := kx_ofr (hw _ _ _ ka.1.2.1)
  have fb5 := kx_ofr (hw _ _ _ kb.1.2.1)
  have fa6 := kx_ofr (hw _ _ _ ka.1.2.2.1)
  have fb6 := kx_ofr (hw _ _ _ kb.1.2.2.1)
  have fa7 := kx_ofr (hw _ _ _ ka.1.2.2.2.1)
  have fb7 := kx_ofr (hw _ _ _ kb.1.2.2.2.1)
  have fa8 := kx_ofr (hw _ _ _ ka.1.2.2.2.2)
  have fb8 := kx_ofr (hw _ _ _ kb.1.2.2.2.2)
  have fa9 := kx_ofr (hw _ _ _ ka.2.1.1)
  have fb9 := kx_ofr (hw _ _ _ kb.2.1.1)
  have fa10 := kx_ofr (hw _ _ _ ka.2.1.2.1)
  have fb10 := kx_ofr (hw _ _ _ kb.2.1.2.1)
  have fa11 := kx_ofr (hw _ _ _ ka.2.1.2.2.1)
  have fb11 := kx_ofr (hw _ _ _ kb.2.1.2.2.1)
  have fa12 := kx_ofr (hw _ _ _ ka.2.1.2.2.2)
  have fb12 := kx_ofr (hw _ _ _ kb.2.1.2.2.2)
  refine kx_go 2 (pc' := 2) (L' := [(0, .inr (.inr (.inl (some 1)))), (1, .inr (.inr (.inl (some 95))))]) (S' := [.inr (.inr (.inl (some 95))), .inr (.inr (.inl (some 1)))]) (h' := h) (by with_unfolding_all rfl) ?_
  refine kx_getf (c := 95) (v := .inl (Int32.ofNat w0)) rfl (by decide) ew0 ?_
  refine kx_go 1 (pc' := 8) (L' := [(0, .inr (.inr (.inl (some 1)))), (1, .inr (.inr (.inl (some 95))))]) (S' := []) (h' := (kc_upd h 1 0 (.inl (Int32.ofNat w0)))) (by with_unfolding_all rfl) ?_
  refine kx_go 2 (pc' := 10) (L' := [(0, .inr (.inr (.inl (some 1)))), (1, .inr (.inr (.inl (some 95))))]) (S' := [.inr (.inr (.inl (some 95))), .inr (.inr (.inl (some 1)))]) (h' := (kc_upd h 1 0 (.inl (Int32.ofNat w0)))) (by with_unfolding_all rfl) ?_
  refine kx_getf (c := 95) (v := .inl (Int32.ofNat w1)) rfl (by decide) ((kj_uo (by decide)).trans (ew1)) ?_
  refine kx_go 1 (pc' := 16) (L' := [(0, .inr (.inr (.inl (some 1)))), (1, .inr (.inr (.inl (some 95))))]) (S' := []) (h' := (kc_upd (kc_upd h 1 0 (.inl (Int32.ofNat w0))) 1 1 (.inl (Int32.ofNat w1)))) (by with_unfolding_all rfl) ?_
  refine kx_go 2 (pc' := 18) (L' := [(0, .inr (.inr (.inl (some 1)))), (1, .inr (.inr (.inl (some 95))))]) (S' := [.inr (.inr (.inl (some 95))), .inr (.inr (.inl (some 1)))]) (h' := (kc_upd (kc_upd h 1 0 (.inl (Int32.ofNat w0))) 1 1 (.inl (Int32.ofNat w1)))) (by with_unfolding_all rfl) ?_
  refine kx_getf (c := 95) (v := .inl (Int32.ofNat w2)) rfl (by decide) ((kj_uo (by decide)).trans ((kj_uo (by decide)).trans (ew2))) ?_
  refine kx_go 1 (pc' := 24) (L' := [(0, .inr (.inr (.inl (some 1)))), (1, .inr (.inr (.inl (some 95))))]) (S' := []) (h' := (kc_upd (kc_upd (kc_upd h 1 0 (.inl (Int32.ofNat w0))) 1 1 (.inl (Int32.ofNat w1))) 1 2 (.inl (Int32.ofNat w2)))) (by with_unfolding_all rfl) ?_
  refine kx_go 2 (pc' := 26) (L' := [(0, .inr (.inr (.inl (some 1)))), (1, .inr (.inr (.inl (some 95))))]) (S' := [.inr (.inr (.inl (some 95))), .inr (.inr (.inl (some 1)))]) (h' := (kc_upd (kc_upd (kc_upd h 1 0 (.inl (Int32.ofNat w0))) 1 1 (.inl (Int32.ofNat w1))) 1 2 (.inl (Int32.ofNat w2)))) (by with_unfolding_all rfl) ?_
  refine kx_getf (c := 95) (v := .inl (Int32.ofNat w3)) rfl (by decide) ((kj_uo (by decide)).trans ((kj_uo (by decide)).trans ((kj_uo (by decide)).trans (ew3)))) ?_
  refine kx_go 1 (pc' := 32) (L' := [(0, .inr (.inr (.inl (some 1)))), (1, .inr (.inr (.inl (some 95))))]) (S' := []) (h' := (kc_upd (kc_upd (kc_upd (kc_upd h 1 0 (.inl (Int32.ofNat w0))) 1 1 (.inl (Int32.ofNat w1))) 1 2 (.inl (Int32.ofNat w2))) 1 3 (.inl (Int32.ofNat w3)))) (by with_unfolding_all rfl) ?_
  rw [kt_0 ew0 ew1 ew2 ew3]
  refine kx_go 1 (pc' := 33) (L' := [(0, .inr (.inr (.inl (some 1)))), (1, .inr (.inr (.inl (some 95))))]) (S' := [.inr (.inr (.inl (some 95)))]) (h' := (kt_K h 95 1 1)) (by with_unfolding_all rfl) ?_
  refine kx_getf (c := 95) (v := .inr (.inr (.inl (some 96)))) rfl (by decide) ((show kt_K h 95 1 1 95 4 = h 95 4 from if_neg (by decide)).trans fa4) ?_
  refine kx_go 1 (pc' := 37) (L' := [(0, .inr (.inr (.inl (some 1)))), (1, .inr (.inr (.inl (some 95))))]) (S' := [.inr (.inr (.inl (some 1))), .inr (.inr (.inl (some 96)))]) (h' := (kt_K h 95 1 1)) (by with_unfolding_all rfl) ?_
  refine kx_getf (c := 1) (v := .inr (.inr (.inl (some 2)))) rfl (by decide) ((show kt_K h 95 1 1 1 4 = h 1 4 from if_neg (by decide)).trans fb4) ?_
  rw [show kt_K h 95 1 1 = kt_K h 95 1 (2 + 0) from kt_skip (by decide) (by decide)]
  refine kc_call_rule (M2 := wk_m69) (av := [.inr (.inr (.inl (some 96))), .inr (.inr (.inl (some 2)))]) (r := []) rfl rfl (kc_Con_le (kt_rows (d := 0) (A := 96) (B := 2) (n := 6) (m := 6) (K := fun i => kt_K h 95 1 (2 + i)) (ra := fun i => 97 + i) (rb := fun i => 3 + i) hg rfl (by decide) (by decide) rfl (by decide) (by decide) (by decide) (by decide) (fun i hi => (kt_ref95_1_4 i hi).1.trans (kx_ofr (hw _ _ _ (kt_q95_4 i hi)))) (fun i hi => (kt_ref95_1_4 i hi).2.trans (kx_ofr (hw _ _ _ (kt_q1_4 i hi)))) (fun i hi => kt_sp95_1_4 i hi) (fun i hi => kt_st95_1_4 i hi)) (by omega)) (fun rv h' hq => ?_)
  obtain ⟨rfl, rfl⟩ := hq
  show kc_Ev g (d + 2) wk_m68 _ 43 [(0, .inr (.inr (.inl (some 1)))), (1, .inr (.inr (.inl (some 95))))] [] (kt_K h 95 1 8)
  refine kx_go 1 (pc' := 44) (L' := [(0, .inr (.inr (.inl (some 1)))), (1, .inr (.inr (.inl (some 95))))]) (S' := [.inr (.inr (.inl (some 95)))]) (h' := (kt_K h 95 1 8)) (by with_unfolding_all rfl) ?_
  refine kx_getf (c := 95) (v := .inr (.inr (.inl (some 103)))) rfl (by decide) ((show kt_K h 95 1 8 95 5 = h 95 5 from if_neg (by decide)).trans fa5) ?_
  refine kx_go 1 (pc' := 48) (L' := [(0, .inr (.inr (.inl (some 1)))), (1, .inr (.inr (.inl (some 95))))]) (S' := [.inr (.inr (.inl (some 1))), .inr (.inr (.inl (some 103)))]) (h' := (kt_K h 95 1 8)) (by with_unfolding_all rfl) ?_
  refine kx_getf (c := 1) (v := .inr (.inr (.inl (some 9)))) rfl (by decide) ((show kt_K h 95 1 8 1 5 = h 1 5 from if_neg (by decide)).trans fb5) ?_
  refine kc_call_rule (M2 := wk_m70) (av := [.inr (.inr (.inl (some 103))), .inr (.inr (.inl (some 9)))]) (r := []) rfl rfl (kc_Con_le (kt_row (d := 0) (c1 := 103) (c2 := 9) (m := 6) hg rfl (by decide) rfl (by decide) (by decide)) (by omega)) (fun rv h' hq => ?_)
  obtain ⟨rfl, rfl⟩ := hq
  rw [show kz_cp (kt_K h 95 1 8) 9 0 103 0 6 = kt_K h 95 1 9 from kt_s (a := 95) (b := 1) (K := 8) (k := 8) (by decide) (by decide) (by decide)]
  show kc_Ev g (d + 2) wk_m68 _ 54 [(0, .inr (.inr (.inl (some 1)))), (1, .inr (.inr (.inl (some 95))))] [] (kt_K h 95 1 9)
  refine kx_go 1 (pc' := 55) (L' := [(0, .inr (.inr (.inl (some 1)))), (1, .inr (.inr (.inl (some 95))))]) (S' := [.inr (.inr (.inl (some 95)))]) (h' := (kt_K h 95 1 9)) (by with_unfolding_all rfl) ?_
  refine kx_getf (c := 95) (v := .inr (.inr (.inl (some 104)))) rfl (by decide) ((show kt_K h 95 1 9 95 6 = h 95 6 from if_neg (by decide)).trans fa6) ?_
  refine kx_go 1 (pc' := 59) (L' := [(0, .inr (.inr (.inl (some 1)))), (1, .inr (.inr (.inl (some 95))))]) (S' := [.inr (.inr (.inl (some 1))), .inr (.inr (.inl (some 104)))]) (h' := (kt_K h 95 1 9)) (by with_unfolding_all rfl) ?_
  refine kx_getf (c := 1) (v := .inr (.inr (.inl (some 10)))) rfl (by decide) ((show kt_K h 95 1 9 1 6 = h 1 6 from if_neg (by decide)).trans fb6) ?_
  refine kc_call_rule (M2 := wk_m70) (av := [.inr (.inr (.inl (some 104))), .inr (.inr (.inl (some 10)))]) (r := []) rfl rfl (kc_Con_le (kt_row (d := 0) (c1 := 104) (c2 := 10) (m := 6) hg rfl (by decide) rfl (by decide) (by decide)) (by omega)) (fun rv h' hq => ?_)
  obtain ⟨rfl, rfl⟩ := hq
  rw [show kz_cp (kt_K h 95 1 9) 10 0 104 0 6 = kt_K h 95 1 10 from kt_s (a := 95) (b := 1) (K := 9) (k := 9) (by decide) (by decide) (by decide)]
  show kc_Ev g (d + 2) wk_m68 _ 65 [(0, .inr (.inr (.inl (some 1)))), (1, .inr (.inr (.inl (some 95))))] [] (kt_K h 95 1 10)
  refine kx_go 1 (pc' := 66) (L' := [(0, .inr (.inr (.inl (some 1)))), (1, .inr (.inr (.inl (some 95))))]) (S' := [.inr (.inr (.inl (some 95)))]) (h' := (kt_K h 95 1 10)) (by with_unfolding_all rfl) ?_
  refine kx_getf (c := 95) (v := .inr (.inr (.inl (some 105)))) rfl (by decide) ((show kt_K h 95 1 10 95 7 = h 95 7 from if_neg (by decide)).trans fa7) ?_
  refine kx_go 1 (pc' := 70) (L' := [(0, .inr (.inr (.inl (some 1)))), (1, .inr (.inr (.inl (some 95))))]) (S' := [.inr (.inr (.inl (some 1))), .inr (.inr (.inl (some 105)))]) (h' := (kt_K h 95 1 10)) (by with_unfolding_all rfl) ?_
  refine kx_getf (c := 1) (v := .inr (.inr (.inl (some 11)))) rfl (by decide) ((show kt_K h 95 1 10 1 7 = h 1 7 from if_neg (by decide)).trans fb7) ?_
  rw [show kt_K h 95 1 10 = kt_K h 95 1 (11 + 0) from kt_skip (by decide) (by decide)]
  refine kc_call_rule (M2 := wk_m69) (av := [.inr (.inr (.inl (some 105))), .inr (.inr (.inl (some 11)))]) (r := []) rfl rfl (kc_Con_le (kt_rows (d := 0) (A := 105) (B := 11) (n := 3) (m := 5) (K := fun i => kt_K h 95 1 (11 + i)) (ra := fun i => 106 + i) (rb := fun i => 12 + i) hg rfl (by decide) (by decide) rfl (by decide) (by decide) (by decide) (by decide) (fun i hi => (kt_ref95_1_7 i hi).1.trans (kx_ofr (hw _ _ _ (kt_q95_7 i hi)))) (fun i hi => (kt_ref95_1_7 i hi).2.trans (kx_ofr (hw _ _ _ (kt_q1_7 i hi)))) (fun i hi => kt_sp95_1_7 i hi) (fun i hi => kt_st95_1_7 i hi)) (by omega)) (fun rv h' hq => ?_)
  obtain ⟨rfl, rfl⟩ := hq
  show kc_Ev g (d + 2) wk_m68 _ 76 [(0, .inr (.inr (.inl (some 1)))), (1, .inr (.inr (.inl (some 95))))] [] (kt_K h 95 1 14)
  refine kx_go 1 (pc' := 77) (L' := [(0, .inr (.inr (.inl (some 1)))), (1, .inr (.inr (.inl (some 95))))]) (S' := [.inr (.inr (.inl (some 95)))]) (h' := (kt_K h 95 1 14)) (by with_unfolding_all rfl) ?_
  refine kx_getf (c := 95) (v := .inr (.inr (.inl (some 109)))) rfl (by decide) ((show kt_K h 95 1 14 95 8 = h 95 8 from if_neg (by decide)).trans fa8) ?_
  refine kx_go 1 (pc' := 81) (L' := [(0, .inr (.inr (.inl (some 1)))), (1, .inr (.inr (.inl (some 95))))]) (S' := [.inr (.inr (.inl (some 1))), .inr (.inr (.inl (some 109)))]) (h' := (kt_K h 95 1 14)) (by with_unfolding_all rfl) ?_
  refine kx_getf (c := 1) (v := .inr (.inr (.inl (some 15)))) rfl (by decide) ((show kt_K h 95 1 14 1 8 = h 1 8 from if_neg (by decide)).trans fb8) ?_
  rw [show kt_K h 95 1 14 = kt_K h 95 1 (15 + 0) from kt_skip (by decide) (by decide)]
  refine kc_call_rule (M2 := wk_m69) (av := [.inr (.inr (.inl (some 109))), .inr (.inr (.inl (some 15)))]) (r := []) rfl rfl (kc_Con_le (kt_rows (d := 0) (A := 109) (B := 15) (n := 10) (m := 7) (K := fun i => kt_K h 95 1 (15 + i)) (ra := fun i => 110 + i) (rb := fun i => 16 + i) hg rfl (by decide) (by decide) rfl (by decide) (by decide) (by decide) (by decide) (fun i hi => (kt_ref95_1_8 i hi).1.trans (kx_ofr (hw _ _ _ (kt_q95_8 i hi)))) (fun i hi => (kt_ref95_1_8 i hi).2.trans (kx_ofr (hw _ _ _ (kt_q1_8 i hi)))) (fun i hi => kt_sp95_1_8 i hi) (fun i hi => kt_st95_1_8 i hi)) (by omega)) (fun rv h' hq => ?_)
  obtain ⟨rfl, rfl⟩ := hq
  show kc_Ev g (d + 2) wk_m68 _ 87 [(0, .inr (.inr (.inl (some 1)))), (1, .inr (.inr (.inl (some 95))))] [] (kt_K h 95 1 25)
  refine kx_go 1 (pc' := 88) (L' := [(0, .inr (.inr (.inl (some 1)))), (1, .inr (.inr (.inl (some 95))))]) (S' := [.inr (.inr (.inl (some 95)))]) (h' := (kt_K h 95 1 25)) (by with_unfolding_all rfl) ?_
  refine kx_getf (c := 95) (v := .inr (.inr (.inl (some 120)))) rfl (by decide) ((show kt_K h 95 1 25 95 9 = h 95 9 from if_neg (by decide)).trans fa9) ?_
  refine kx_go 1 (pc' := 92) (L' := [(0, .inr (.inr (.inl (some 1)))), (1, .inr (.inr (.inl (some 95))))]) (S' := [.inr (.inr (.inl (some 1))), .inr (.inr (.inl (some 120)))]) (h' := (kt_K h 95 1 25)) (by with_unfolding_all rfl) ?_
  refine kx_getf (c := 1) (v := .inr (.inr (.inl (some 26)))) rfl (by decide) ((show kt_K h 95 1 25 1 9 = h 1 9 from if_neg (by decide)).trans fb9) ?_
  refine kc_call_rule (M2 := wk_m70) (av := [.inr (.inr (.inl (some 120))), .inr (.inr (.inl (some 26)))]) (r := []) rfl rfl (kc_Con_le (kt_row (d := 0) (c1 := 120) (c2 := 26) (m := 2) hg rfl (by decide) rfl (by decide) (by decide)) (by omega)) (fun rv h' hq => ?_)
  obtain ⟨rfl, rfl⟩ := hq
  rw [show kz_cp (kt_K h 95 1 25) 26 0 120 0 2 = kt_K h 95 1 26 from kt_s (a := 95) (b := 1) (K := 25) (k := 25) (by decide) (by decide) (by decide)]
  show kc_Ev g (d + 2) wk_m68 _ 98 [(0, .inr (.inr (.inl (some 1)))), (1, .inr (.inr (.inl (some 95))))] [] (kt_K h 95 1 26)
  refine kx_go 1 (pc' := 99) (L' := [(0, .inr (.inr (.inl (some 1)))), (1, .inr (.inr (.inl (some 95))))]) (S' := [.inr (.inr (.inl (some 95)))]) (h' := (kt_K h 95 1 26)) (by with_unfolding_all rfl) ?_
  refine kx_getf (c := 95) (v := .inr (.inr (.inl (some 121)))) rfl (by decide) ((show kt_K h 95 1 26 95 10 = h 95 10 from if_neg (by decide)).trans fa10) ?_
  refine kx_go 1 (pc' := 103) (L' := [(0, .inr (.inr (.inl (some 1)))), (1, .inr (.inr (.inl (some 95))))]) (S' := [.inr (.inr (.inl (some 1))), .inr (.inr (.inl (some 121)))]) (h' := (kt_K h 95 1 26)) (by with_unfolding_all rfl) ?_
  refine kx_getf (c := 1) (v := .inr (.inr (.inl (some 27)))) rfl (by decide) ((show kt_K h 95 1 26 1 10 = h 1 10 from if_neg (by decide)).trans fb10) ?_
  refine kc_call_rule (M2 := wk_m70) (av := [.inr (.inr (.inl (some 121))), .inr (.inr (.inl (some 27)))]) (r := []) rfl rfl (kc_Con_le (kt_row (d := 0) (c1 := 121) (c2 := 27) (m := 5) hg rfl (by decide) rfl (by decide) (by decide)) (by omega)) (fun rv h' hq => ?_)
  obtain ⟨rfl, rfl⟩ := hq
  rw [show kz_cp (kt_K h 95 1 26) 27 0 121 0 5 = kt_K h 95 1 27 from kt_s (a := 95) (b := 1) (K := 26) (k := 26) (by decide) (by decide) (by decide)]
  show kc_Ev g (d + 2) wk_m68 _ 109 [(0, .inr (.inr (.inl (some 1)))), (1, .inr (.inr (.inl (some 95))))] [] (kt_K h 95 1 27)
  refine kx_go 1 (pc' := 110) (L' := [(0, .inr (.inr (.inl (some 1)))), (1, .inr (.inr (.inl (some 95))))]) (S' := [.inr (.inr (.inl (some 95)))]) (h' := (kt_K h 95 1 27)) (by with_unfolding_all rfl) ?_
  refine kx_getf (c := 95) (v := .inr (.inr (.inl (some 122)))) rfl (by decide) ((show kt_K h 95 1 27 95 11 = h 95 11 from if_neg (by decide)).trans fa11) ?_
  refine kx_go 1 (pc' := 114) (L' := [(0, .inr (.inr (.inl (some 1)))), (1, .inr (.inr (.inl (some 95))))]) (S' := [.inr (.inr (.inl (some 1))), .inr (.inr (.inl (some 122)))]) (h' := (kt_K h 95 1 27)) (by with_unfolding_all rfl) ?_
  refine kx_getf (c := 1) (v := .inr (.inr (.inl (some 28)))) rfl (by decide) ((show kt_K h 95 1 27 1 11 = h 1 11 from if_neg (by decide)).trans fb11) ?_
  rw [show kt_K h 95 1 27 = kt_K h 95 1 (28 + 0) from kt_skip (by decide) (by decide)]
  refine kc_call_rule (M2 := wk_m69) (av := [.inr (.inr (.inl (some 122))), .inr (.inr (.inl (some 28)))]) (r := []) rfl rfl (kc_Con_le (kt_rows (d := 0) (A := 122) (B := 28) (n := 2) (m := 240) (K := fun i => kt_K h 95 1 (28 + i)) (ra := fun i => 123 + i) (rb := fun i => 29 + i) hg rfl (by decide) (by decide) rfl (by decide) (by decide) (by decide) (by decide) (fun i hi => (kt_ref95_1_11 i hi).1.trans (kx_ofr (hw _ _ _ (kt_q95_11 i hi)))) (fun i hi => (kt_ref95_1_11 i hi).2.trans (kx_ofr (hw _ _ _ (kt_q1_11 i hi)))) (fun i hi => kt_sp95_1_11 i hi) (fun i hi => kt_st95_1_11 i hi)) (by omega)) (fun rv h' hq => ?_)
  obtain ⟨rfl, rfl⟩ := hq
  show kc_Ev g (d + 2) wk_m68 _ 120 [(0, .inr (.inr (.inl (some 1)))), (1, .inr (.inr (.inl (some 95))))] [] (kt_K h 95 1 30)
  refine kx_go 1 (pc' := 121) (L' := [(0, .inr (.inr (.inl (some 1)))), (1, .inr (.inr (.inl (some 95))))]) (S' := [.inr (.inr (.inl (some 95)))]) (h' := (kt_K h 95 1 30)) (by with_unfolding_all rfl) ?_
  refine kx_getf (c := 95) (v := .inr (.inr (.inl (some 125)))) rfl (by decide) ((show kt_K h 95 1 30 95 12 = h 95 12 from if_neg (by decide)).trans fa12) ?_
  refine kx_go 1 (pc' := 125) (L' := [(0, .inr (.inr (.inl (some 1)))), (1, .inr (.inr (.inl (some 95))))]) (S' := [.inr (.inr (.inl (some 1))), .inr (.inr (.inl (some 125)))]) (h' := (kt_K h 95 1 30)) (by with_unfolding_all rfl) ?_
  refine kx_getf (c := 1) (v := .inr (.inr (.inl (some 31)))) rfl (by decide) ((show kt_K h 95 1 30 1 12 = h 1 12 from if_neg (by decide)).trans fb12) ?_
  refine kc_call_rule (M2 := wk_m70) (av := [.inr (.inr (.inl (some 125))), .inr (.inr (.inl (some 31)))]) (r := []) rfl rfl (kc_Con_le (kt_row (d := 0) (c1 := 125) (c2 := 31) (m := 2) hg rfl (by decide) rfl (by decide) (by decide)) (by omega)) (fun rv h' hq => ?_)
  obtain ⟨rfl, rfl⟩ := hq
  rw [show kz_cp (kt_K h 95 1 30) 31 0 125 0 2 = kt_K h 95 1 31 from kt_s (a := 95) (b := 1) (K := 30) (k := 30) (by decide) (by decide) (by decide)]
  show kc_Ev g (d + 2) wk_m68 _ 131 [(0, .inr (.inr (.inl (some 1)))), (1, .inr (.inr (.inl (some 95))))] [] (kt_K h 95 1 31)
  exact kc_ret_ok rfl (rv := none) rfl ⟨rfl, rfl⟩
