/-! ===== type, class ===== -/
def kq_c (v : Int64) (i : Nat) : Int32 := ((v.toUInt64 >>> (((Int32.ofNat 8) * (Int32.ofNat i)).toInt64.toUInt64 &&& Int64.toUInt64 63)).toInt64).toInt32 &&& (Int32.ofNat 255)
def kq_r (v : Int64) (i : Nat) : Int32 := ((v >>> (((Int32.ofNat 8) * (Int32.ofNat i)).toInt64 &&& 63)) &&& (Int64.ofNat 255)).toInt32
theorem kq_255 : (∀ j, j < 32 → 8 ≤ j → (255#32).getLsbD j = false) ∧ (∀ j, j < 32 → 8 ≤ j → (255#64).getLsbD j = false) := by decide
theorem kq_bx {x y : BitVec 64} (h : ∀ j, j < 8 → x.getLsbD j = y.getLsbD j) : x.signExtend 32 &&& 255#32 = (y &&& 255#64).signExtend 32 := by
  apply BitVec.eq_of_getLsbD_eq
  intro j hj
  rw [BitVec.getLsbD_and, BitVec.getLsbD_signExtend, BitVec.getLsbD_signExtend, BitVec.getLsbD_and]
  by_cases e : 8 ≤ j
  · rw [kq_255.1 j hj e, kq_255.2 j hj e, if_pos (by omega)]
    simp
    intro _ q
    omega
  · rw [h j (by omega)]
    rcases (show j = 0 ∨ j = 1 ∨ j = 2 ∨ j = 3 ∨ j = 4 ∨ j = 5 ∨ j = 6 ∨ j = 7 by omega) with rfl | rfl | rfl | rfl | rfl | rfl | rfl | rfl <;> simp
theorem kq_e0 (v : Int64) : kq_c v 0 = kq_r v 0 := by
  apply Int32.toBitVec_inj.mp
  have key : ∀ x : BitVec 64, (x >>> 0).signExtend 32 &&& 255#32 = (x.sshiftRight 0 &&& 255#64).signExtend 32 := by
    intro x
    apply kq_bx
    intro j hj
    rw [BitVec.getLsbD_ushiftRight, BitVec.getLsbD_sshiftRight, if_pos (by omega)]
    simp
    omega
  exact key v.toBitVec
theorem kq_e1 (v : Int64) : kq_c v 1 = kq_r v 1 := by
  apply Int32.toBitVec_inj.mp
  have key : ∀ x : BitVec 64, (x >>> 8).signExtend 32 &&& 255#32 = (x.sshiftRight 8 &&& 255#64).signExtend 32 := by
    intro x
    apply kq_bx
    intro j hj
    rw [BitVec.getLsbD_ushiftRight, BitVec.getLsbD_sshiftRight, if_pos (by omega)]
    simp
    omega
  exact key v.toBitVec
theorem kq_e2 (v : Int64) : kq_c v 2 = kq_r v 2 := by
  apply Int32.toBitVec_inj.mp
  have key : ∀ x : BitVec 64, (x >>> 16).signExtend 32 &&& 255#32 = (x.sshiftRight 16 &&& 255#64).signExtend 32 := by
    intro x
    apply kq_bx
    intro j hj
    rw [BitVec.getLsbD_ushiftRight, BitVec.getLsbD_sshiftRight, if_pos (by omega)]
    simp
    omega
  exact key v.toBitVec
theorem kq_e3 (v : Int64) : kq_c v 3 = kq_r v 3 := by
  apply Int32.toBitVec_inj.mp
  have key : ∀ x : BitVec 64, (x >>> 24).signExtend 32 &&& 255#32 = (x.sshiftRight 24 &&& 255#64).signExtend 32 := by
    intro x
    apply kq_bx
    intro j hj
    rw [BitVec.getLsbD_ushiftRight, BitVec.getLsbD_sshiftRight, if_pos (by omega)]
    simp
    omega
  exact key v.toBitVec
theorem kq_e4 (v : Int64) : kq_c v 4 = kq_r v 4 := by
  apply Int32.toBitVec_inj.mp
  have key : ∀ x : BitVec 64, (x >>> 32).signExtend 32 &&& 255#32 = (x.sshiftRight 32 &&& 255#64).signExtend 32 := by
    intro x
    apply kq_bx
    intro j hj
    rw [BitVec.getLsbD_ushiftRight, BitVec.getLsbD_sshiftRight, if_pos (by omega)]
    simp
    omega
  exact key v.toBitVec
theorem kq_e5 (v : Int64) : kq_c v 5 = kq_r v 5 := by
  apply Int32.toBitVec_inj.mp
  have key : ∀ x : BitVec 64, (x >>> 40).signExtend 32 &&& 255#32 = (x.sshiftRight 40 &&& 255#64).signExtend 32 := by
    intro x
    apply kq_bx
    intro j hj
    rw [BitVec.getLsbD_ushiftRight, BitVec.getLsbD_sshiftRight, if_pos (by omega)]
    simp
    omega
  exact key v.toBitVec
theorem kq_e6 (v : Int64) : kq_c v 6 = kq_r v 6 := by
  apply Int32.toBitVec_inj.mp
  have key : ∀ x : BitVec 64, (x >>> 48).signExtend 32 &&& 255#32 = (x.sshiftRight 48 &&& 255#64).signExtend 32 := by
    intro x
    apply kq_bx
    intro j hj
    rw [BitVec.getLsbD_ushiftRight, BitVec.getLsbD_sshiftRight, if_pos (by omega)]
    simp
    omega
  exact key v.toBitVec
theorem kq_e7 (v : Int64) : kq_c v 7 = kq_r v 7 := by
  apply Int32.toBitVec_inj.mp
  have key : ∀ x : BitVec 64, (x >>> 56).signExtend 32 &&& 255#32 = (x.sshiftRight 56 &&& 255#64).signExtend 32 := by
    intro x
    apply kq_bx
    intro j hj
    rw [BitVec.getLsbD_ushiftRight, BitVec.getLsbD_sshiftRight, if_pos (by omega)]
    simp
    omega
  exact key v.toBitVec
theorem kq_eq {v : Int64} {i : Nat} (hi : i < 8) : kq_c v i = kq_r v i := by
  rcases (show i = 0 ∨ i = 1 ∨ i = 2 ∨ i = 3 ∨ i = 4 ∨ i = 5 ∨ i = 6 ∨ i = 7 by omega) with rfl | rfl | rfl | rfl | rfl | rfl | rfl | rfl
  · exact kq_e0 v
  · exact kq_e1 v
  · exact kq_e2 v
  · exact kq_e3 v
  · exact kq_e4 v
  · exact kq_e5 v
  · exact kq_e6 v
  · exact kq_e7 v
theorem kq_lt (a : Int32) : ∃ v, v ≤ 255 ∧ a &&& Int32.ofNat 255 = Int32.ofNat v := by
  refine ⟨(a.toBitVec &&& 255#32).toNat, ?_, ?_⟩
  · rw [BitVec.toNat_and]
    exact Nat.and_le_right
  · apply Int32.toBitVec_inj.mp
    show a.toBitVec &&& 255#32 = BitVec.ofNat 32 (a.toBitVec &&& 255#32).toNat
    rw [BitVec.ofNat_toNat, BitVec.setWidth_eq]
def kq_F (h : kc_H) (tc to bc bp c : Nat) (B : Nat → Int32) (n m : Nat) : kc_H := fun a b => if a = bc ∧ b = bp then .inl (Int32.ofNat (c + m)) else if a = tc ∧ (to + c ≤ b ∧ b < to + c + m) then .inl (B (n - 1 - (b - (to + c)))) else h a b
theorem kq_0 {h : kc_H} {tc to bc bp c : Nat} {B : Nat → Int32} {n : Nat} (e : h bc bp = .inl (Int32.ofNat c)) : kq_F h tc to bc bp c B n 0 = h := by
  funext a b
  unfold kq_F
  by_cases q : a = bc ∧ b = bp
  · obtain ⟨rfl, rfl⟩ := q
    rw [if_pos ⟨rfl, rfl⟩]
    exact e.symm
  · rw [if_neg q, if_neg (by omega)]
theorem kq_s {h : kc_H} {tc to bc bp c : Nat} {B : Nat → Int32} {n m : Nat} (hne : ¬ tc = bc ∨ bp < to) : kc_upd (kc_upd (kq_F h tc to bc bp c B n m) tc (to + (c + m)) (.inl (B (n - 1 - m)))) bc bp (.inl (Int32.ofNat (c + m + 1))) = kq_F h tc to bc bp c B n (m + 1) := by
  funext a b
  unfold kc_upd kq_F
  by_cases q : a = bc ∧ b = bp
  · rw [if_pos q, if_pos q, show c + m + 1 = c + (m + 1) from by omega]
  · rw [if_neg q, if_neg q, if_neg q]
    by_cases e : a = tc ∧ b = to + (c + m)
    · obtain ⟨rfl, rfl⟩ := e
      rw [if_pos ⟨rfl, rfl⟩, if_pos ⟨rfl, by omega, by omega⟩, show n - 1 - (to + (c + m) - (to + c)) = n - 1 - m from by omega]
    · rw [if_neg e]
      by_cases e2 : a = tc ∧ (to + c ≤ b ∧ b < to + c + m)
      · rw [if_pos e2, if_pos ⟨e2.1, by omega, by omega⟩]
      · rw [if_neg e2, if_neg (by omega)]
theorem kq_b {h : kc_H} {tc to bc bp c : Nat} {B : Nat → Int32} {n m : Nat} : kq_F h tc to bc bp c B n m bc bp = .inl (Int32.ofNat (c + m)) := if_pos ⟨rfl, rfl⟩
theorem kq_o {h : kc_H} {tc to bc bp c a b : Nat} {B : Nat → Int32} {n m : Nat} (h1 : ¬ a = bc ∨ ¬ b = bp) (h2 : ¬ a = tc ∨ b < to + c ∨ to + c + m ≤ b) : kq_F h tc to bc bp c B n m a b = h a b := by
  unfold kq_F
  rw [if_neg (by omega), if_neg (by omega)]
theorem kq_dec : ∀ c, c < 8 → (Int32.ofNat (c + 1)) + Int32.ofInt (-1) = Int32.ofNat c := by decide
theorem kq_pre : ∀ c, c < 8 → (Int32.ofNat (c + 1)) - (Int32.ofNat 1) = Int32.ofNat c := by decide
theorem kq_sh : ∀ x, x < 2 → kc_shp (29 + x) = some (0, 0, 240) ∧ 29 + x < kc_N := by decide +kernel
set_option maxRecDepth 20000 in
theorem kq_btw {g : kc_G} {d a b c : Nat} {h : kc_H} (hg : kc_ok g) (ha : a < 2147483648) (hb : b < 2147483648) (hc : c < 2147483648) : kc_Con g (d + 1) 19 [.inl (Int32.ofNat a), .inl (Int32.ofNat b), .inl (Int32.ofNat c)] h (fun rv h' => rv = some (.inl (kp_b (decide (b ≤ a ∧ a ≤ c)))) ∧ h' = h) := by
  refine kc_Con_new hg (M := wk_m19) rfl rfl rfl (show 3 ≤ 3 by decide) ?_
  refine kx_go 3 (pc' := (if kc_cnd .lt (Int32.ofNat a).toInt (Int32.ofNat b).toInt then 14 else 5)) (L' := [(0, .inl (Int32.ofNat a)), (1, .inl (Int32.ofNat b)), (2, .inl (Int32.ofNat c))]) (S' := []) (h' := h) (by with_unfolding_all rfl) ?_
  by_cases e1 : a < b
  · rw [if_pos ((kx_lt (by omega) (by omega)).mpr e1)]
    refine kx_go 1 (pc' := 15) (L' := [(0, .inl (Int32.ofNat a)), (1, .inl (Int32.ofNat b)), (2, .inl (Int32.ofNat c))]) (S' := [.inl (Int32.ofNat 0)]) (h' := h) (by with_unfolding_all rfl) ?_
    exact kc_ret_ok rfl (rv := some (.inl (Int32.ofNat 0))) rfl ⟨by rw [decide_eq_false (by omega)]; rfl, rfl⟩
  · rw [if_neg (fun q => e1 ((kx_lt (by omega) (by omega)).mp q))]
    refine kx_go 3 (pc' := (if kc_cnd .gt (Int32.ofNat a).toInt (Int32.ofNat c).toInt then 14 else 10)) (L' := [(0, .inl (Int32.ofNat a)), (1, .inl (Int32.ofNat b)), (2, .inl (Int32.ofNat c))]) (S' := []) (h' := h) (by with_unfolding_all rfl) ?_
    by_cases e2 : c < a
    · rw [if_pos ((kx_gt (by omega) (by omega)).mpr e2)]
      refine kx_go 1 (pc' := 15) (L' := [(0, .inl (Int32.ofNat a)), (1, .inl (Int32.ofNat b)), (2, .inl (Int32.ofNat c))]) (S' := [.inl (Int32.ofNat 0)]) (h' := h) (by with_unfolding_all rfl) ?_
      exact kc_ret_ok rfl (rv := some (.inl (Int32.ofNat 0))) rfl ⟨by rw [decide_eq_false (by omega)]; rfl, rfl⟩
    · rw [if_neg (fun q => e2 ((kx_gt (by omega) (by omega)).mp q))]
      refine kx_go 2 (pc' := 15) (L' := [(0, .inl (Int32.ofNat a)), (1, .inl (Int32.ofNat b)), (2, .inl (Int32.ofNat c))]) (S' := [.inl (Int32.ofNat 1)]) (h' := h) (by with_unfolding_all rfl) ?_
      exact kc_ret_ok rfl (rv := some (.inl (Int32.ofNat 1))) rfl ⟨by rw [decide_eq_true (show b ≤ a ∧ a ≤ c by omega)]; rfl, rfl⟩
set_option maxRecDepth 20000 in
theorem kq_cend {g : kc_G} {d x c n : Nat} {v : Int64} {i : Int32} {h : kc_H} (hx : x < 2) (h11 : h 1 11 = .inr (.inr (.inl (some 28)))) (h12 : h 1 12 = .inr (.inr (.inl (some 31)))) (h28 : h 28 x = .inr (.inr (.inl (some (29 + x))))) (hc : h 31 x = .inl (Int32.ofNat c)) (hcn : c + n ≤ 240) : kc_Ev g d wk_m55 (fun rv h' => ∃ z : Int32, rv = some (.inl z) ∧ ((c + n ≤ 240 ∧ h' = (kq_F h (29 + x) 0 31 x c (kq_c v) n n)) ∨ (240 < c + n ∧ h' = h))) 93 [(5, .inl (i)), (0, .inr (.inr (.inl (some 1)))), (1, .inl (Int32.ofNat x)), (2, .inr (.inl (v))), (4, .inl (Int32.ofNat n))] [] (kq_F h (29 + x) 0 31 x c (kq_c v) n n) := by
  refine kx_go 1 (pc' := 94) (L' := [(5, .inl (i)), (0, .inr (.inr (.inl (some 1)))), (1, .inl (Int32.ofNat x)), (2, .inr (.inl (v))), (4, .inl (Int32.ofNat n))]) (S' := [.inr (.inr (.inl (some 1)))]) (h' := (kq_F h (29 + x) 0 31 x c (kq_c v) n n)) (by with_unfolding_all rfl) ?_
  refine kx_getf (c := 1) (v := .inr (.inr (.inl (some 31)))) rfl (by decide) ((kq_o (Or.inl (by decide)) (Or.inl (by omega))).trans h12) ?_
  refine kx_go 1 (pc' := 98) (L' := [(5, .inl (i)), (0, .inr (.inr (.inl (some 1)))), (1, .inl (Int32.ofNat x)), (2, .inr (.inl (v))), (4, .inl (Int32.ofNat n))]) (S' := [.inl (Int32.ofNat x), .inr (.inr (.inl (some 31)))]) (h' := (kq_F h (29 + x) 0 31 x c (kq_c v) n n)) (by with_unfolding_all rfl) ?_
  refine kx_iald rfl (c := 31) (j := x) (m := 2) (v := .inl (Int32.ofNat (c + n))) rfl (by decide) (by decide) (by omega) kq_b ?_
  exact kc_ret_ok rfl (rv := some (.inl (Int32.ofNat (c + n)))) rfl ⟨_, rfl, Or.inl ⟨hcn, rfl⟩⟩
set_option maxRecDepth 20000 in
theorem kq_cl {g : kc_G} {d x c n : Nat} {v : Int64} {h : kc_H} (hx : x < 2) (h11 : h 1 11 = .inr (.inr (.inl (some 28)))) (h12 : h 1 12 = .inr (.inr (.inl (some 31)))) (h28 : h 28 x = .inr (.inr (.inl (some (29 + x))))) (hc : h 31 x = .inl (Int32.ofNat c)) (hn : n ≤ 8) (hcn : c + n ≤ 240) : ∀ (r m : Nat), r + m + 1 = n → kc_Ev g d wk_m55 (fun rv h' => ∃ z : Int32, rv = some (.inl z) ∧ ((c + n ≤ 240 ∧ h' = (kq_F h (29 + x) 0 31 x c (kq_c v) n n)) ∨ (240 < c + n ∧ h' = h))) 47 [(5, .inl (Int32.ofNat r)), (0, .inr (.inr (.inl (some 1)))), (1, .inl (Int32.ofNat x)), (2, .inr (.inl (v))), (4, .inl (Int32.ofNat n))] [] (kq_F h (29 + x) 0 31 x c (kq_c v) n m) := by
  intro r
  induction r with
  | zero =>
    intro m hm
    refine kx_go 2 (pc' := (if kc_cnd .lt (Int32.ofNat 0).toInt 0 then 93 else 52)) (L' := [(5, .inl (Int32.ofNat 0)), (0, .inr (.inr (.inl (some 1)))), (1, .inl (Int32.ofNat x)), (2, .inr (.inl (v))), (4, .inl (Int32.ofNat n))]) (S' := []) (h' := (kq_F h (29 + x) 0 31 x c (kq_c v) n m)) (by with_unfolding_all rfl) ?_
    rw [if_neg (by unfold kc_cnd; rw [kx_ti (by omega)]; simp only [decide_eq_true_eq]; omega)]
    refine kx_go 1 (pc' := 53) (L' := [(5, .inl (Int32.ofNat 0)), (0, .inr (.inr (.inl (some 1)))), (1, .inl (Int32.ofNat x)), (2, .inr (.inl (v))), (4, .inl (Int32.ofNat n))]) (S' := [.inr (.inr (.inl (some 1)))]) (h' := (kq_F h (29 + x) 0 31 x c (kq_c v) n m)) (by with_unfolding_all rfl) ?_
    refine kx_getf (c := 1) (v := .inr (.inr (.inl (some 28)))) rfl (by decide) ((kq_o (Or.inl (by decide)) (Or.inl (by omega))).trans h11) ?_
    refine kx_go 1 (pc' := 57) (L' := [(5, .inl (Int32.ofNat 0)), (0, .inr (.inr (.inl (some 1)))), (1, .inl (Int32.ofNat x)), (2, .inr (.inl (v))), (4, .inl (Int32.ofNat n))]) (S' := [.inl (Int32.ofNat x), .inr (.inr (.inl (some 28)))]) (h' := (kq_F h (29 + x) 0 31 x c (kq_c v) n m)) (by with_unfolding_all rfl) ?_
    refine kx_aald (c := 28) (j := x) (m := 2) (t0 := 2) (v := .inr (.inr (.inl (some (29 + x))))) rfl rfl (by decide) (by decide) (by decide) hx ((kq_o (Or.inl (by decide)) (Or.inl (by omega))).trans h28) ?_
    refine kx_go 1 (pc' := 59) (L' := [(5, .inl (Int32.ofNat 0)), (0, .inr (.inr (.inl (some 1)))), (1, .inl (Int32.ofNat x)), (2, .inr (.inl (v))), (4, .inl (Int32.ofNat n))]) (S' := [.inr (.inr (.inl (some 1))), .inr (.inr (.inl (some (29 + x))))]) (h' := (kq_F h (29 + x) 0 31 x c (kq_c v) n m)) (by with_unfolding_all rfl) ?_
    refine kx_getf (c := 1) (v := .inr (.inr (.inl (some 31)))) rfl (by decide) ((kq_o (Or.inl (by decide)) (Or.inl (by omega))).trans h12) ?_
    refine kx_go 1 (pc' := 63) (L' := [(5, .inl (Int32.ofNat 0)), (0, .inr (.inr (.inl (some 1)))), (1, .inl (Int32.ofNat x)), (2, .inr (.inl (v))), (4, .inl (Int32.ofNat n))]) (S' := [.inl (Int32.ofNat x), .inr (.inr (.inl (some 31))), .inr (.inr (.inl (some (29 + x))))]) (h' := (kq_F h (29 + x) 0 31 x c (kq_c v) n m)) (by with_unfolding_all rfl) ?_
    refine kx_iald rfl (c := 31) (j := x) (m := 2) (v := .inl (Int32.ofNat (c + m))) rfl (by decide) (by decide) (by omega) kq_b ?_
    refine kx_go 8 (pc' := 76) (L' := [(5, .inl (Int32.ofNat 0)), (0, .inr (.inr (.inl (some 1)))), (1, .inl (Int32.ofNat x)), (2, .inr (.inl (v))), (4, .inl (Int32.ofNat n))]) (S' := [.inl ((((v.toUInt64 >>> (((Int32.ofNat 8) * (Int32.ofNat 0)).toInt64.toUInt64 &&& Int64.toUInt64 63)).toInt64).toInt32) &&& (Int32.ofNat 255)), .inl (Int32.ofNat (c + m)), .inr (.inr (.inl (some (29 + x))))]) (h' := (kq_F h (29 + x) 0 31 x c (kq_c v) n m)) (by with_unfolding_all rfl) ?_
    refine kx_iast rfl (c := 29 + x) (j := c + m) (m := 240) (kq_sh x hx).1 (kq_sh x hx).2 (by decide) (by omega) ?_
    refine kx_go 1 (pc' := 78) (L' := [(5, .inl (Int32.ofNat 0)), (0, .inr (.inr (.inl (some 1)))), (1, .inl (Int32.ofNat x)), (2, .inr (.inl (v))), (4, .inl (Int32.ofNat n))]) (S' := [.inr (.inr (.inl (some 1)))]) (h' := (kc_upd (kq_F h (29 + x) 0 31 x c (kq_c v) n m) (29 + x) (c + m) (.inl ((((v.toUInt64 >>> (((Int32.ofNat 8) * (Int32.ofNat 0)).toInt64.toUInt64 &&& Int64.toUInt64 63)).toInt64).toInt32) &&& (Int32.ofNat 255))))) (by with_unfolding_all rfl) ?_
    refine kx_getf (c := 1) (v := .inr (.inr (.inl (some 31)))) rfl (by decide) ((kj_uo (by omega)).trans ((kq_o (Or.inl (by decide)) (Or.inl (by omega))).trans h12)) ?_
    refine kx_go 2 (pc' := 83) (L' := [(5, .inl (Int32.ofNat 0)), (0, .inr (.inr (.inl (some 1)))), (1, .inl (Int32.ofNat x)), (2, .inr (.inl (v))), (4, .inl (Int32.ofNat n))]) (S' := [.inl (Int32.ofNat x), .inr (.inr (.inl (some 31))), .inl (Int32.ofNat x), .inr (.inr (.inl (some 31)))]) (h' := (kc_upd (kq_F h (29 + x) 0 31 x c (kq_c v) n m) (29 + x) (c + m) (.inl ((((v.toUInt64 >>> (((Int32.ofNat 8) * (Int32.ofNat 0)).toInt64.toUInt64 &&& Int64.toUInt64 63)).toInt64).toInt32) &&& (Int32.ofNat 255))))) (by with_unfolding_all rfl) ?_
    refine kx_iald rfl (c := 31) (j := x) (m := 2) (v := .inl (Int32.ofNat (c + m))) rfl (by decide) (by decide) (by omega) ((kj_uo (by omega)).trans kq_b) ?_
    refine kx_go 2 (pc' := 86) (L' := [(5, .inl (Int32.ofNat 0)), (0, .inr (.inr (.inl (some 1)))), (1, .inl (Int32.ofNat x)), (2, .inr (.inl (v))), (4, .inl (Int32.ofNat n))]) (S' := [.inl ((Int32.ofNat (c + m)) + (Int32.ofNat 1)), .inl (Int32.ofNat x), .inr (.inr (.inl (some 31)))]) (h' := (kc_upd (kq_F h (29 + x) 0 31 x c (kq_c v) n m) (29 + x) (c + m) (.inl ((((v.toUInt64 >>> (((Int32.ofNat 8) * (Int32.ofNat 0)).toInt64.toUInt64 &&& Int64.toUInt64 63)).toInt64).toInt32) &&& (Int32.ofNat 255))))) (by with_unfolding_all rfl) ?_
    rw [← Int32.ofNat_add]
    refine kx_iast rfl (c := 31) (j := x) (m := 2) rfl (by decide) (by decide) hx ?_
    have hs := kq_s (h := h) (tc := 29 + x) (to := 0) (bc := 31) (bp := x) (c := c) (B := kq_c v) (n := n) (m := m) (Or.inl (by omega))
    rw [show n - 1 - m = 0 from by omega, Nat.zero_add] at hs
    refine Eq.mpr (congrArg (fun H => kc_Ev g d wk_m55 _ 87 [(5, .inl (Int32.ofNat 0)), (0, .inr (.inr (.inl (some 1)))), (1, .inl (Int32.ofNat x)), (2, .inr (.inl (v))), (4, .inl (Int32.ofNat n))] [] H) hs) ?_
    refine kx_go 2 (pc' := 47) (L' := [(5, .inl ((Int32.ofNat 0) + Int32.ofInt (-1))), (0, .inr (.inr (.inl (some 1)))), (1, .inl (Int32.ofNat x)), (2, .inr (.inl (v))), (4, .inl (Int32.ofNat n))]) (S' := []) (h' := (kq_F h (29 + x) 0 31 x c (kq_c v) n (m + 1))) (by with_unfolding_all rfl) ?_
    refine kx_go 2 (pc' := 93) (L' := [(5, .inl ((Int32.ofNat 0) + Int32.ofInt (-1))), (0, .inr (.inr (.inl (some 1)))), (1, .inl (Int32.ofNat x)), (2, .inr (.inl (v))), (4, .inl (Int32.ofNat n))]) (S' := []) (h' := (kq_F h (29 + x) 0 31 x c (kq_c v) n (m + 1))) (by with_unfolding_all rfl) ?_
    obtain rfl : n = m + 1 := by omega
    exact kq_cend hx h11 h12 h28 hc hcn
  | succ r ih =>
    intro m hm
    refine kx_go 2 (pc' := (if kc_cnd .lt (Int32.ofNat (r + 1)).toInt 0 then 93 else 52)) (L' := [(5, .inl (Int32.ofNat (r + 1))), (0, .inr (.inr (.inl (some 1)))), (1, .inl (Int32.ofNat x)), (2, .inr (.inl (v))), (4, .inl (Int32.ofNat n))]) (S' := []) (h' := (kq_F h (29 + x) 0 31 x c (kq_c v) n m)) (by with_unfolding_all rfl) ?_
    rw [if_neg (by unfold kc_cnd; rw [kx_ti (by omega)]; simp only [decide_eq_true_eq]; omega)]
    refine kx_go 1 (pc' := 53) (L' := [(5, .inl (Int32.ofNat (r + 1))), (0, .inr (.inr (.inl (some 1)))), (1, .inl (Int32.ofNat x)), (2, .inr (.inl (v))), (4, .inl (Int32.ofNat n))]) (S' := [.inr (.inr (.inl (some 1)))]) (h' := (kq_F h (29 + x) 0 31 x c (kq_c v) n m)) (by with_unfolding_all rfl) ?_
    refine kx_getf (c := 1) (v := .inr (.inr (.inl (some 28)))) rfl (by decide) ((kq_o (Or.inl (by decide)) (Or.inl (by omega))).trans h11) ?_
    refine kx_go 1 (pc' := 57) (L' := [(5, .inl (Int32.ofNat (r + 1))), (0, .inr (.inr (.inl (some 1)))), (1, .inl (Int32.ofNat x)), (2, .inr (.inl (v))), (4, .inl (Int32.ofNat n))]) (S' := [.inl (Int32.ofNat x), .inr (.inr (.inl (some 28)))]) (h' := (kq_F h (29 + x) 0 31 x c (kq_c v) n m)) (by with_unfolding_all rfl) ?_
    refine kx_aald (c := 28) (j := x) (m := 2) (t0 := 2) (v := .inr (.inr (.inl (some (29 + x))))) rfl rfl (by decide) (by decide) (by decide) hx ((kq_o (Or.inl (by decide)) (Or.inl (by omega))).trans h28) ?_
    refine kx_go 1 (pc' := 59) (L' := [(5, .inl (Int32.ofNat (r + 1))), (0, .inr (.inr (.inl (some 1)))), (1, .inl (Int32.ofNat x)), (2, .inr (.inl (v))), (4, .inl (Int32.ofNat n))]) (S' := [.inr (.inr (.inl (some 1))), .inr (.inr (.inl (some (29 + x))))]) (h' := (kq_F h (29 + x) 0 31 x c (kq_c v) n m)) (by with_unfolding_all rfl) ?_
    refine kx_getf (c := 1) (v := .inr (.inr (.inl (some 31)))) rfl (by decide) ((kq_o (Or.inl (by decide)) (Or.inl (by omega))).trans h12) ?_
    refine kx_go 1 (pc' := 63) (L' := [(5, .inl (Int32.ofNat (r + 1))), (0, .inr (.inr (.inl (some 1)))), (1, .inl (Int32.ofNat x)), (2, .inr (.inl (v))), (4, .inl (Int32.ofNat n))]) (S' := [.inl (Int32.ofNat x), .inr (.inr (.inl (some 31))), .inr (.inr (.inl (some (29 + x))))]) (h' := (kq_F h (29 + x) 0 31 x c (kq_c v) n m)) (by with_unfolding_all rfl) ?_
    refine kx_iald rfl (c := 31) (j := x) (m := 2) (v := .inl (Int32.ofNat (c + m))) rfl (by decide) (by decide) (by omega) kq_b ?_
    refine kx_go 8 (pc' := 76) (L' := [(5, .inl (Int32.ofNat (r + 1))), (0, .inr (.inr (.inl (some 1)))), (1, .inl (Int32.ofNat x)), (2, .inr (.inl (v))), (4, .inl (Int32.ofNat n))]) (S' := [.inl ((((v.toUInt64 >>> (((Int32.ofNat 8) * (Int32.ofNat (r + 1))).toInt64.toUInt64 &&& Int64.toUInt64 63)).toInt64).toInt32) &&& (Int32.ofNat 255)), .inl (Int32.ofNat (c + m)), .inr (.inr (.inl (some (29 + x))))]) (h' := (kq_F h (29 + x) 0 31 x c (kq_c v) n m)) (by with_unfolding_all rfl) ?_
    refine kx_iast rfl (c := 29 + x) (j := c + m) (m := 240) (kq_sh x hx).1 (kq_sh x hx).2 (by decide) (by omega) ?_
    refine kx_go 1 (pc' := 78) (L' := [(5, .inl (Int32.ofNat (r + 1))), (0, .inr (.inr (.inl (some 1)))), (1, .inl (Int32.ofNat x)), (2, .inr (.inl (v))), (4, .inl (Int32.ofNat n))]) (S' := [.inr (.inr (.inl (some 1)))]) (h' := (kc_upd (kq_F h (29 + x) 0 31 x c (kq_c v) n m) (29 + x) (c + m) (.inl ((((v.toUInt64 >>> (((Int32.ofNat 8) * (Int32.ofNat (r + 1))).toInt64.toUInt64 &&& Int64.toUInt64 63)).toInt64).toInt32) &&& (Int32.ofNat 255))))) (by with_unfolding_all rfl) ?_
    refine kx_getf (c := 1) (v := .inr (.inr (.inl (some 31)))) rfl (by decide) ((kj_uo (by omega)).trans ((kq_o (Or.inl (by decide)) (Or.inl (by omega))).trans h12)) ?_
    refine kx_go 2 (pc' := 83) (L' := [(5, .inl (Int32.ofNat (r + 1))), (0, .inr (.inr (.inl (some 1)))), (1, .inl (Int32.ofNat x)), (2, .inr (.inl (v))), (4, .inl (Int32.ofNat n))]) (S' := [.inl (Int32.ofNat x), .inr (.inr (.inl (some 31))), .inl (Int32.ofNat x), .inr (.inr (.inl (some 31)))]) (h' := (kc_upd (kq_F h (29 + x) 0 31 x c (kq_c v) n m) (29 + x) (c + m) (.inl ((((v.toUInt64 >>> (((Int32.ofNat 8) * (Int32.ofNat (r + 1))).toInt64.toUInt64 &&& Int64.toUInt64 63)).toInt64).toInt32) &&& (Int32.ofNat 255))))) (by with_unfolding_all rfl) ?_
    refine kx_iald rfl (c := 31) (j := x) (m := 2) (v := .inl (Int32.ofNat (c + m))) rfl (by decide) (by decide) (by omega) ((kj_uo (by omega)).trans kq_b) ?_
    refine kx_go 2 (pc' := 86) (L' := [(5, .inl (Int32.ofNat (r + 1))), (0, .inr (.inr (.inl (some 1)))), (1, .inl (Int32.ofNat x)), (2, .inr (.inl (v))), (4, .inl (Int32.ofNat n))]) (S' := [.inl ((Int32.ofNat (c + m)) + (Int32.ofNat 1)), .inl (Int32.ofNat x), .inr (.inr (.inl (some 31)))]) (h' := (kc_upd (kq_F h (29 + x) 0 31 x c (kq_c v) n m) (29 + x) (c + m) (.inl ((((v.toUInt64 >>> (((Int32.ofNat 8) * (Int32.ofNat (r + 1))).toInt64.toUInt64 &&& Int64.toUInt64 63)).toInt64).toInt32) &&& (Int32.ofNat 255))))) (by with_unfolding_all rfl) ?_
    rw [← Int32.ofNat_add]
    refine kx_iast rfl (c := 31) (j := x) (m := 2) rfl (by decide) (by decide) hx ?_
    have hs := kq_s (h := h) (tc := 29 + x) (to := 0) (bc := 31) (bp := x) (c := c) (B := kq_c v) (n := n) (m := m) (Or.inl (by omega))
    rw [show n - 1 - m = (r + 1) from by omega, Nat.zero_add] at hs
    refine Eq.mpr (congrArg (fun H => kc_Ev g d wk_m55 _ 87 [(5, .inl (Int32.ofNat (r + 1))), (0, .inr (.inr (.inl (some 1)))), (1, .inl (Int32.ofNat x)), (2, .inr (.inl (v))), (4, .inl (Int32.ofNat n))] [] H) hs) ?_
    refine kx_go 2 (pc' := 47) (L' := [(5, .inl ((Int32.ofNat (r + 1)) + Int32.ofInt (-1))), (0, .inr (.inr (.inl (some 1)))), (1, .inl (Int32.ofNat x)), (2, .inr (.inl (v))), (4, .inl (Int32.ofNat n))]) (S' := []) (h' := (kq_F h (29 + x) 0 31 x c (kq_c v) n (m + 1))) (by with_unfolding_all rfl) ?_
    rw [kq_dec r (by omega)]
    exact ih (m + 1) (by omega)
set_option maxRecDepth 20000 in
theorem kq_55 {g : kc_G} {d x c n : Nat} {v : Int64} {h : kc_H} (hg : kc_ok g) (hx : x < 2) (h11 : h 1 11 = .inr (.inr (.inl (some 28)))) (h12 : h 1 12 = .inr (.inr (.inl (some 31)))) (h28 : h 28 x = .inr (.inr (.inl (some (29 + x))))) (hc : h 31 x = .inl (Int32.ofNat c)) (hn1 : 1 ≤ n) (hn : n ≤ 8) (hc240 : c ≤ 240) : kc_Con g (d + 2) 55 [.inr (.inr (.inl (some 1))), .inl (Int32.ofNat x), .inr (.inl v), .inl (Int32.ofNat n)] h (fun rv h' => ∃ z : Int32, rv = some (.inl z) ∧ ((c + n ≤ 240 ∧ h' = (kq_F h (29 + x) 0 31 x c (kq_c v) n n)) ∨ (240 < c + n ∧ h' = h))) := by
  refine kc_Con_new hg (M := wk_m55) rfl rfl rfl (show 5 ≤ 6 by decide) ?_
  refine kx_go 3 (pc' := 3) (L' := [(0, .inr (.inr (.inl (some 1)))), (1, .inl (Int32.ofNat x)), (2, .inr (.inl (v))), (4, .inl (Int32.ofNat n))]) (S' := [.inl (Int32.ofNat 1), .inl (Int32.ofNat 0), .inl (Int32.ofNat x)]) (h' := h) (by with_unfolding_all rfl) ?_
  refine kc_call_rule (M2 := wk_m19) (av := [.inl (Int32.ofNat x), .inl (Int32.ofNat 0), .inl (Int32.ofNat 1)]) (r := []) rfl rfl (kc_Con_le (kq_btw (d := 0) hg (by omega) (by omega) (by omega)) (by omega)) (fun rv h' hq => ?_)
  obtain ⟨rfl, rfl⟩ := hq
  show kc_Ev g (d + 1) wk_m55 _ 6 [(0, .inr (.inr (.inl (some 1)))), (1, .inl (Int32.ofNat x)), (2, .inr (.inl (v))), (4, .inl (Int32.ofNat n))] [.inl (kp_b (decide (0 ≤ x ∧ x ≤ 1)))] h'
  refine kx_go 1 (pc' := (if kc_cnd .eq (kp_b (decide (0 ≤ x ∧ x ≤ 1))).toInt 0 then 20 else 9)) (L' := [(0, .inr (.inr (.inl (some 1)))), (1, .inl (Int32.ofNat x)), (2, .inr (.inl (v))), (4, .inl (Int32.ofNat n))]) (S' := []) (h' := h') (by with_unfolding_all rfl) ?_
  rw [if_neg (fun q => by have := kx_b0.mp q; exact absurd this (by rw [decide_eq_true (by omega)]; decide))]
  refine kx_go 3 (pc' := 14) (L' := [(0, .inr (.inr (.inl (some 1)))), (1, .inl (Int32.ofNat x)), (2, .inr (.inl (v))), (4, .inl (Int32.ofNat n))]) (S' := [.inl (Int32.ofNat 8), .inl (Int32.ofNat 1), .inl (Int32.ofNat n)]) (h' := h') (by with_unfolding_all rfl) ?_
  refine kc_call_rule (M2 := wk_m19) (av := [.inl (Int32.ofNat n), .inl (Int32.ofNat 1), .inl (Int32.ofNat 8)]) (r := []) rfl rfl (kc_Con_le (kq_btw (d := 0) hg (by omega) (by omega) (by omega)) (by omega)) (fun rv h' hq => ?_)
  obtain ⟨rfl, rfl⟩ := hq
  show kc_Ev g (d + 1) wk_m55 _ 17 [(0, .inr (.inr (.inl (some 1)))), (1, .inl (Int32.ofNat x)), (2, .inr (.inl (v))), (4, .inl (Int32.ofNat n))] [.inl (kp_b (decide (1 ≤ n ∧ n ≤ 8)))] h'
  refine kx_go 1 (pc' := (if kc_cnd .ne (kp_b (decide (1 ≤ n ∧ n ≤ 8))).toInt 0 then 23 else 20)) (L' := [(0, .inr (.inr (.inl (some 1)))), (1, .inl (Int32.ofNat x)), (2, .inr (.inl (v))), (4, .inl (Int32.ofNat n))]) (S' := []) (h' := h') (by with_unfolding_all rfl) ?_
  rw [if_pos (kx_b1.mpr (decide_eq_true (by omega)))]
  refine kx_go 1 (pc' := 24) (L' := [(0, .inr (.inr (.inl (some 1)))), (1, .inl (Int32.ofNat x)), (2, .inr (.inl (v))), (4, .inl (Int32.ofNat n))]) (S' := [.inr (.inr (.inl (some 1)))]) (h' := h') (by with_unfolding_all rfl) ?_
  refine kx_getf (c := 1) (v := .inr (.inr (.inl (some 31)))) rfl (by decide) h12 ?_
  refine kx_go 1 (pc' := 28) (L' := [(0, .inr (.inr (.inl (some 1)))), (1, .inl (Int32.ofNat x)), (2, .inr (.inl (v))), (4, .inl (Int32.ofNat n))]) (S' := [.inl (Int32.ofNat x), .inr (.inr (.inl (some 31)))]) (h' := h') (by with_unfolding_all rfl) ?_
  refine kx_iald rfl (c := 31) (j := x) (m := 2) (v := .inl (Int32.ofNat c)) rfl (by decide) (by decide) (by omega) hc ?_
  refine kx_go 2 (pc' := 32) (L' := [(0, .inr (.inr (.inl (some 1)))), (1, .inl (Int32.ofNat x)), (2, .inr (.inl (v))), (4, .inl (Int32.ofNat n))]) (S' := [.inl ((Int32.ofNat c) + (Int32.ofNat n))]) (h' := h') (by with_unfolding_all rfl) ?_
  rw [← Int32.ofNat_add]
  refine kx_go 2 (pc' := (if kc_cnd .le (Int32.ofNat (c + n)).toInt (Int32.ofNat 240).toInt then 41 else 38)) (L' := [(0, .inr (.inr (.inl (some 1)))), (1, .inl (Int32.ofNat x)), (2, .inr (.inl (v))), (4, .inl (Int32.ofNat n))]) (S' := []) (h' := h') (by with_unfolding_all rfl) ?_
  by_cases e : c + n ≤ 240
  · rw [if_pos ((kx_le (by omega) (by omega)).mpr e)]
    obtain ⟨k, rfl⟩ : ∃ k, n = k + 1 := ⟨n - 1, by omega⟩
    refine kx_go 4 (pc' := 47) (L' := [(5, .inl ((Int32.ofNat (k + 1)) - (Int32.ofNat 1))), (0, .inr (.inr (.inl (some 1)))), (1, .inl (Int32.ofNat x)), (2, .inr (.inl (v))), (4, .inl (Int32.ofNat (k + 1)))]) (S' := []) (h' := h') (by with_unfolding_all rfl) ?_
    rw [kq_pre k (by omega)]
    have key := kq_cl (g := g) (d := d + 1) (v := v) hx h11 h12 h28 hc (show k + 1 ≤ 8 by omega) e k 0 (by omega)
    rw [kq_0 hc] at key
    exact key
  · rw [if_neg (fun q => e ((kx_le (by omega) (by omega)).mp q))]
    refine kx_go 1 (pc' := 40) (L' := [(0, .inr (.inr (.inl (some 1)))), (1, .inl (Int32.ofNat x)), (2, .inr (.inl (v))), (4, .inl (Int32.ofNat n))]) (S' := [.inl (Int32.ofInt (-4))]) (h' := h') (by with_unfolding_all rfl) ?_
    exact kc_ret_ok rfl (rv := some (.inl (Int32.ofInt (-4)))) rfl ⟨_, rfl, Or.inr ⟨by omega, rfl⟩⟩
set_option maxRecDepth 20000 in
theorem kq_54 {g : kc_G} {d x c n : Nat} {v : Int64} {h : kc_H} (hg : kc_ok g) (h0 : h 0 0 = .inr (.inr (.inl (some 1)))) (hx : x < 2) (h11 : h 1 11 = .inr (.inr (.inl (some 28)))) (h12 : h 1 12 = .inr (.inr (.inl (some 31)))) (h28 : h 28 x = .inr (.inr (.inl (some (29 + x))))) (hc : h 31 x = .inl (Int32.ofNat c)) (hn1 : 1 ≤ n) (hn : n ≤ 8) (hc240 : c ≤ 240) : kc_Con g (d + 3) 54 [.inr (.inr (.inl (some 0))), .inl (Int32.ofNat x), .inr (.inl v), .inl (Int32.ofNat n)] h (fun rv h' => ∃ z : Int32, rv = some (.inl z) ∧ ((c + n ≤ 240 ∧ h' = (kq_F h (29 + x) 0 31 x c (kq_c v) n n)) ∨ (240 < c + n ∧ h' = h))) := by
  refine kc_Con_new hg (M := wk_m54) rfl rfl rfl (show 5 ≤ 5 by decide) ?_
  refine kx_go 1 (pc' := 1) (L' := [(0, .inr (.inr (.inl (some 0)))), (1, .inl (Int32.ofNat x)), (2, .inr (.inl (v))), (4, .inl (Int32.ofNat n))]) (S' := [.inr (.inr (.inl (some 0)))]) (h' := h) (by with_unfolding_all rfl) ?_
  refine kx_getf (c := 0) (v := .inr (.inr (.inl (some 1)))) rfl (by decide) h0 ?_
  refine kx_go 3 (pc' := 8) (L' := [(0, .inr (.inr (.inl (some 0)))), (1, .inl (Int32.ofNat x)), (2, .inr (.inl (v))), (4, .inl (Int32.ofNat n))]) (S' := [.inl (Int32.ofNat n), .inr (.inl (v)), .inl (Int32.ofNat x), .inr (.inr (.inl (some 1)))]) (h' := h) (by with_unfolding_all rfl) ?_
  refine kc_call_rule (M2 := wk_m55) (av := [.inr (.inr (.inl (some 1))), .inl (Int32.ofNat x), .inr (.inl (v)), .inl (Int32.ofNat n)]) (r := []) rfl rfl (kc_Con_le (kq_55 (d := d) hg hx h11 h12 h28 hc hn1 hn hc240) (by omega)) (fun rv h' hq => ?_)
  obtain ⟨z, rfl, hq⟩ := hq
  exact kc_ret_ok rfl (rv := some (.inl z)) rfl ⟨z, rfl, hq⟩
