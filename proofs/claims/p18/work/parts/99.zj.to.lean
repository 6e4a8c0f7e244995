section
-- 99.zj
/-! ===== type, class ===== -/
def kq_c (v : Int64) (i : Nat) : Int32 := ((v.toUInt64 >>> (((Int32.ofNat 8) * (Int32.ofNat i)).toInt64.toUInt64 &&& Int64.toUInt64 63)).toInt64).toInt32 &&& (Int32.ofNat 255)
def kq_r (v : Int64) (i : Nat) : Int32 := ((v >>> (((Int32.ofNat 8) * (Int32.ofNat i)).toInt64 &&& 63)) &&& (Int64.ofNat 255)).toInt32
theorem kq_255 : (∀ j, j < 32 → 8 ≤ j → (255#32).getLsbD j = false) ∧ (∀ j, j < 32 → 8 ≤ j → (255#64).getLsbD j = false) := by decide
theorem kq_bx {x y : BitVec 64} (h : ∀ j, j < 8 → x.getLsbD j = y.getLsbD j) : x.signExtend 32 &&& 255#32 = (y &&& 255#64).signExtend 32 := by
  apply BitVec.eq_of_getLsbD_eq
  intro j hj
  rw [BitVec.getLsbD_and, BitVec.getLsbD_signExtend, BitVec.getLsbD_signExtend, BitVec.getLsbD_and]
  by_cases e : 8 ≤ j
  · rw [kq_255.1 j hj e, kq_255.2 j hj e, if_pos (by omega)]
    simp
    intro _ q
    omega
  · rw [h j (by omega)]
    rcases (show j = 0 ∨ j = 1 ∨ j = 2 ∨ j = 3 ∨ j = 4 ∨ j = 5 ∨ j = 6 ∨ j = 7 by omega) with rfl | rfl | rfl | rfl | rfl | rfl | rfl | rfl <;> simp
theorem kq_e0 (v : Int64) : kq_c v 0 = kq_r v 0 := by
  apply Int32.toBitVec_inj.mp
  have key : ∀ x : BitVec 64, (x >>> 0).signExtend 32 &&& 255#32 = (x.sshiftRight 0 &&& 255#64).signExtend 32 := by
    intro x
    apply kq_bx
    intro j hj
    rw [BitVec.getLsbD_ushiftRight, BitVec.getLsbD_sshiftRight, if_pos (by omega)]
    simp
    omega
  exact key v.toBitVec
theorem kq_e1 (v : Int64) : kq_c v 1 = kq_r v 1 := by
  apply Int32.toBitVec_inj.mp
  have key : ∀ x : BitVec 64, (x >>> 8).signExtend 32 &&& 255#32 = (x.sshiftRight 8 &&& 255#64).signExtend 32 := by
    intro x
    apply kq_bx
    intro j hj
    rw [BitVec.getLsbD_ushiftRight, BitVec.getLsbD_sshiftRight, if_pos (by omega)]
    simp
    omega
  exact key v.toBitVec
theorem kq_e2 (v : Int64) : kq_c v 2 = kq_r v 2 := by
  apply Int32.toBitVec_inj.mp
  have key : ∀ x : BitVec 64, (x >>> 16).signExtend 32 &&& 255#32 = (x.sshiftRight 16 &&& 255#64).signExtend 32 := by
    intro x
    apply kq_bx
    intro j hj
    rw [BitVec.getLsbD_ushiftRight, BitVec.getLsbD_sshiftRight, if_pos (by omega)]
    simp
    omega
  exact key v.toBitVec
theorem kq_e3 (v : Int64) : kq_c v 3 = kq_r v 3 := by
  apply Int32.toBitVec_inj.mp
  have key : ∀ x : BitVec 64, (x >>> 24).signExtend 32 &&& 255#32 = (x.sshiftRight 24 &&& 255#64).signExtend 32 := by
    intro x
    apply kq_bx
    intro j hj
    rw [BitVec.getLsbD_ushiftRight, BitVec.getLsbD_sshiftRight, if_pos (by omega)]
    simp
    omega
  exact key v.toBitVec
theorem kq_e4 (v : Int64) : kq_c v 4 = kq_r v 4 := by
  apply Int32.toBitVec_inj.mp
  have key : ∀ x : BitVec 64, (x >>> 32).signExtend 32 &&& 255#32 = (x.sshiftRight 32 &&& 255#64).signExtend 32 := by
    intro x
    apply kq_bx
    intro j hj
    rw [BitVec.getLsbD_ushiftRight, BitVec.getLsbD_sshiftRight, if_pos (by omega)]
    simp
    omega
  exact key v.toBitVec
theorem kq_e5 (v : Int64) : kq_c v 5 = kq_r v 5 := by
  apply Int32.toBitVec_inj.mp
  have key : ∀ x : BitVec 64, (x >>> 40).signExtend 32 &&& 255#32 = (x.sshiftRight 40 &&& 255#64).signExtend 32 := by
    intro x
    apply kq_bx
    intro j hj
    rw [BitVec.getLsbD_ushiftRight, BitVec.getLsbD_sshiftRight, if_pos (by omega)]
    simp
    omega
  exact key v.toBitVec
theorem kq_e6 (v : Int64) : kq_c v 6 = kq_r v 6 := by
  apply Int32.toBitVec_inj.mp
  have key : ∀ x : BitVec 64, (x >>> 48).signExtend 32 &&& 255#32 = (x.sshiftRight 48 &&& 255#64).signExtend 32 := by
    intro x
    apply kq_bx
    intro j hj
    rw [BitVec.getLsbD_ushiftRight, BitVec.getLsbD_sshiftRight, if_pos (by omega)]
    simp
    omega
  exact key v.toBitVec
theorem kq_e7 (v : Int64) : kq_c v 7 = kq_r v 7 := by
  apply Int32.toBitVec_inj.mp
  have key : ∀ x : BitVec 64, (x >>> 56).signExtend 32 &&& 255#32 = (x.sshiftRight 56 &&& 255#64).signExtend 32 := by
    intro x
    apply kq_bx
    intro j hj
    rw [BitVec.getLsbD_ushiftRight, BitVec.getLsbD_sshiftRight, if_pos (by omega)]
    simp
    omega
  exact key v.toBitVec
theorem kq_eq {v : Int64} {i : Nat} (hi : i < 8) : kq_c v i = kq_r v i := by
  rcases (show i = 0 ∨ i = 1 ∨ i = 2 ∨ i = 3 ∨ i = 4 ∨ i = 5 ∨ i = 6 ∨ i = 7 by omega) with rfl | rfl | rfl | rfl | rfl | rfl | rfl | rfl
  · exact kq_e0 v
  · exact kq_e1 v
  · exact kq_e2 v
  · exact kq_e3 v
  · exact kq_e4 v
  · exact kq_e5 v
  · exact kq_e6 v
  · exact kq_e7 v
theorem kq_lt (a : Int32) : ∃ v, v ≤ 255 ∧ a &&& Int32.ofNat 255 = Int32.ofNat v := by
  refine ⟨(a.toBitVec &&& 255#32).toNat, ?_, ?_⟩
  · rw [BitVec.toNat_and]
    exact Nat.and_le_right
  · apply Int32.toBitVec_inj.mp
    show a.toBitVec &&& 255#32 = BitVec.ofNat 32 (a.toBitVec &&& 255#32).toNat
    rw [BitVec.ofNat_toNat, BitVec.setWidth_eq]
def kq_F (h : kc_H) (tc to bc bp c : Nat) (B : Nat → Int32) (n m : Nat) : kc_H := fun a b => if a = bc ∧ b = bp then .inl (Int32.ofNat (c + m)) else if a = tc ∧ (to + c ≤ b ∧ b < to + c + m) then .inl (B (n - 1 - (b - (to + c)))) else h a b
theorem kq_0 {h : kc_H} {tc to bc bp c : Nat} {B : Nat → Int32} {n : Nat} (e : h bc bp = .inl (Int32.ofNat c)) : kq_F h tc to bc bp c B n 0 = h := by
  funext a b
  unfold kq_F
  by_cases q : a = bc ∧ b = bp
  · obtain ⟨rfl, rfl⟩ := q
    rw [if_pos ⟨rfl, rfl⟩]
    exact e.symm
  · rw [if_neg q, if_neg (by omega)]
theorem kq_s {h : kc_H} {tc to bc bp c : Nat} {B : Nat → Int32} {n m : Nat} (hne : ¬ tc = bc ∨ bp < to) : kc_upd (kc_upd (kq_F h tc to bc bp c B n m) tc (to + (c + m)) (.inl (B (n - 1 - m)))) bc bp (.inl (Int32.ofNat (c + m + 1))) = kq_F h tc to bc bp c B n (m + 1) := by
  funext a b
  unfold kc_upd kq_F
  by_cases q : a = bc ∧ b = bp
  · rw [if_pos q, if_pos q, show c + m + 1 = c + (m + 1) from by omega]
  · rw [if_neg q, if_neg q, if_neg q]
    by_cases e : a = tc ∧ b = to + (c + m)
    · obtain ⟨rfl, rfl⟩ := e
      rw [if_pos ⟨rfl, rfl⟩, if_pos ⟨rfl, by omega, by omega⟩, show n - 1 - (to + (c + m) - (to + c)) = n - 1 - m from by omega]
    · rw [if_neg e]
      by_cases e2 : a = tc ∧ (to + c ≤ b ∧ b < to + c + m)
      · rw [if_pos e2, if_pos ⟨e2.1, by omega, by omega⟩]
      · rw [if_neg e2, if_neg (by omega)]
theorem kq_b {h : kc_H} {tc to bc bp c : Nat} {B : Nat → Int32} {n m : Nat} : kq_F h tc to bc bp c B n m bc bp = .inl (Int32.ofNat (c + m)) := if_pos ⟨rfl, rfl⟩
theorem kq_o {h : kc_H} {tc to bc bp c a b : Nat} {B : Nat → Int32} {n m : Nat} (h1 : ¬ a = bc ∨ ¬ b = bp) (h2 : ¬ a = tc ∨ b < to + c ∨ to + c + m ≤ b) : kq_F h tc to bc bp c B n m a b = h a b := by
  unfold kq_F
  rw [if_neg (by omega), if_neg (by omega)]
theorem kq_dec : ∀ c, c < 8 → (Int32.ofNat (c + 1)) + Int32.ofInt (-1) = Int32.ofNat c := by decide
theorem kq_pre : ∀ c, c < 8 → (Int32.ofNat (c + 1)) - (Int32.ofNat 1) = Int32.ofNat c := by decide
theorem kq_sh : ∀ x, x < 2 → kc_shp (29 + x) = some (0, 0, 240) ∧ 29 + x < kc_N := by decide +kernel
set_option maxRecDepth 20000 in
theorem kq_btw {g : kc_G} {d a b c : Nat} {h : kc_H} (hg : kc_ok g) (ha : a < 2147483648) (hb : b < 2147483648) (hc : c < 2147483648) : kc_Con g (d + 1) 19 [.inl (Int32.ofNat a), .inl (Int32.ofNat b), .inl (Int32.ofNat c)] h (fun rv h' => rv = some (.inl (kp_b (decide (b ≤ a ∧ a ≤ c)))) ∧ h' = h) := by
  refine kc_Con_new hg (M := wk_m19) rfl rfl rfl (show 3 ≤ 3 by decide) ?_
  refine kx_go 3 (pc' := (if kc_cnd .lt (Int32.ofNat a).toInt (Int32.ofNat b).toInt then 14 else 5)) (L' := [(0, .inl (Int32.ofNat a)), (1, .inl (Int32.ofNat b)), (2, .inl (Int32.ofNat c))]) (S' := []) (h' := h) (by with_unfolding_all rfl) ?_
  by_cases e1 : a < b
  · rw [if_pos ((kx_lt (by omega) (by omega)).mpr e1)]
    refine kx_go 1 (pc' := 15) (L' := [(0, .inl (Int32.ofNat a)), (1, .inl (Int32.ofNat b)), (2, .inl (Int32.ofNat c))]) (S' := [.inl (Int32.ofNat 0)]) (h' := h) (by with_unfolding_all rfl) ?_
    exact kc_ret_ok rfl (rv := some (.inl (Int32.ofNat 0))) rfl ⟨by rw [decide_eq_false (by omega)]; rfl, rfl⟩
  · rw [if_neg (fun q => e1 ((kx_lt (by omega) (by omega)).mp q))]
    refine kx_go 3 (pc' := (if kc_cnd .gt (Int32.ofNat a).toInt (Int32.ofNat c).toInt then 14 else 10)) (L' := [(0, .inl (Int32.ofNat a)), (1, .inl (Int32.ofNat b)), (2, .inl (Int32.ofNat c))]) (S' := []) (h' := h) (by with_unfolding_all rfl) ?_
    by_cases e2 : c < a
    · rw [if_pos ((kx_gt (by omega) (by omega)).mpr e2)]
      refine kx_go 1 (pc' := 15) (L' := [(0, .inl (Int32.ofNat a)), (1, .inl (Int32.ofNat b)), (2, .inl (Int32.ofNat c))]) (S' := [.inl (Int32.ofNat 0)]) (h' := h) (by with_unfolding_all rfl) ?_
      exact kc_ret_ok rfl (rv := some (.inl (Int32.ofNat 0))) rfl ⟨by rw [decide_eq_false (by omega)]; rfl, rfl⟩
    · rw [if_neg (fun q => e2 ((kx_gt (by omega) (by omega)).mp q))]
      refine kx_go 2 (pc' := 15) (L' := [(0, .inl (Int32.ofNat a)), (1, .inl (Int32.ofNat b)), (2, .inl (Int32.ofNat c))]) (S' := [.inl (Int32.ofNat 1)]) (h' := h) (by with_unfolding_all rfl) ?_
      exact kc_ret_ok rfl (rv := some (.inl (Int32.ofNat 1))) rfl ⟨by rw [decide_eq_true (show b ≤ a ∧ a ≤ c by omega)]; rfl, rfl⟩
set_option maxRecDepth 20000 in
theorem kq_cend {g : kc_G} {d x c n : Nat} {v : Int64} {i : Int32} {h : kc_H} (hx : x < 2) (h11 : h 1 11 = .inr (.inr (.inl (some 28)))) (h12 : h 1 12 = .inr (.inr (.inl (some 31)))) (h28 : h 28 x = .inr (.inr (.inl (some (29 + x))))) (hc : h 31 x = .inl (Int32.ofNat c)) (hcn : c + n ≤ 240) : kc_Ev g d wk_m55 (fun rv h' => ∃ z : Int32, rv = some (.inl z) ∧ ((c + n ≤ 240 ∧ h' = (kq_F h (29 + x) 0 31 x c (kq_c v) n n)) ∨ (240 < c + n ∧ h' = h))) 93 [(5, .inl (i)), (0, .inr (.inr (.inl (some 1)))), (1, .inl (Int32.ofNat x)), (2, .inr (.inl (v))), (4, .inl (Int32.ofNat n))] [] (kq_F h (29 + x) 0 31 x c (kq_c v) n n) := by
  refine kx_go 1 (pc' := 94) (L' := [(5, .inl (i)), (0, .inr (.inr (.inl (some 1)))), (1, .inl (Int32.ofNat x)), (2, .inr (.inl (v))), (4, .inl (Int32.ofNat n))]) (S' := [.inr (.inr (.inl (some 1)))]) (h' := (kq_F h (29 + x) 0 31 x c (kq_c v) n n)) (by with_unfolding_all rfl) ?_
  refine kx_getf (c := 1) (v := .inr (.inr (.inl (some 31)))) rfl (by decide) ((kq_o (Or.inl (by decide)) (Or.inl (by omega))).trans h12) ?_
  refine kx_go 1 (pc' := 98) (L' := [(5, .inl (i)), (0, .inr (.inr (.inl (some 1)))), (1, .inl (Int32.ofNat x)), (2, .inr (.inl (v))), (4, .inl (Int32.ofNat n))]) (S' := [.inl (Int32.ofNat x), .inr (.inr (.inl (some 31)))]) (h' := (kq_F h (29 + x) 0 31 x c (kq_c v) n n)) (by with_unfolding_all rfl) ?_
  refine kx_iald rfl (c := 31) (j := x) (m := 2) (v := .inl (Int32.ofNat (c + n))) rfl (by decide) (by decide) (by omega) kq_b ?_
  exact kc_ret_ok rfl (rv := some (.inl (Int32.ofNat (c + n)))) rfl ⟨_, rfl, Or.inl ⟨hcn, rfl⟩⟩
set_option maxRecDepth 20000 in
theorem kq_cl {g : kc_G} {d x c n : Nat} {v : Int64} {h : kc_H} (hx : x < 2) (h11 : h 1 11 = .inr (.inr (.inl (some 28)))) (h12 : h 1 12 = .inr (.inr (.inl (some 31)))) (h28 : h 28 x = .inr (.inr (.inl (some (29 + x))))) (hc : h 31 x = .inl (Int32.ofNat c)) (hn : n ≤ 8) (hcn : c + n ≤ 240) : ∀ (r m : Nat), r + m + 1 = n → kc_Ev g d wk_m55 (fun rv h' => ∃ z : Int32, rv = some (.inl z) ∧ ((c + n ≤ 240 ∧ h' = (kq_F h (29 + x) 0 31 x c (kq_c v) n n)) ∨ (240 < c + n ∧ h' = h))) 47 [(5, .inl (Int32.ofNat r)), (0, .inr (.inr (.inl (some 1)))), (1, .inl (Int32.ofNat x)), (2, .inr (.inl (v))), (4, .inl (Int32.ofNat n))] [] (kq_F h (29 + x) 0 31 x c (kq_c v) n m) := by
  intro r
  induction r with
  | zero =>
    intro m hm
    refine kx_go 2 (pc' := (if kc_cnd .lt (Int32.ofNat 0).toInt 0 then 93 else 52)) (L' := [(5, .inl (Int32.ofNat 0)), (0, .inr (.inr (.inl (some 1)))), (1, .inl (Int32.ofNat x)), (2, .inr (.inl (v))), (4, .inl (Int32.ofNat n))]) (S' := []) (h' := (kq_F h (29 + x) 0 31 x c (kq_c v) n m)) (by with_unfolding_all rfl) ?_
    rw [if_neg (by unfold kc_cnd; rw [kx_ti (by omega)]; simp only [decide_eq_true_eq]; omega)]
    refine kx_go 1 (pc' := 53) (L' := [(5, .inl (Int32.ofNat 0)), (0, .inr (.inr (.inl (some 1)))), (1, .inl (Int32.ofNat x)), (2, .inr (.inl (v))), (4, .inl (Int32.ofNat n))]) (S' := [.inr (.inr (.inl (some 1)))]) (h' := (kq_F h (29 + x) 0 31 x c (kq_c v) n m)) (by with_unfolding_all rfl) ?_
    refine kx_getf (c := 1) (v := .inr (.inr (.inl (some 28)))) rfl (by decide) ((kq_o (Or.inl (by decide)) (Or.inl (by omega))).trans h11) ?_
    refine kx_go 1 (pc' := 57) (L' := [(5, .inl (Int32.ofNat 0)), (0, .inr (.inr (.inl (some 1)))), (1, .inl (Int32.ofNat x)), (2, .inr (.inl (v))), (4, .inl (Int32.ofNat n))]) (S' := [.inl (Int32.ofNat x), .inr (.inr (.inl (some 28)))]) (h' := (kq_F h (29 + x) 0 31 x c (kq_c v) n m)) (by with_unfolding_all rfl) ?_
    refine kx_aald (c := 28) (j := x) (m := 2) (t0 := 2) (v := .inr (.inr (.inl (some (29 + x))))) rfl rfl (by decide) (by decide) (by decide) hx ((kq_o (Or.inl (by decide)) (Or.inl (by omega))).trans h28) ?_
    refine kx_go 1 (pc' := 59) (L' := [(5, .inl (Int32.ofNat 0)), (0, .inr (.inr (.inl (some 1)))), (1, .inl (Int32.ofNat x)), (2, .inr (.inl (v))), (4, .inl (Int32.ofNat n))]) (S' := [.inr (.inr (.inl (some 1))), .inr (.inr (.inl (some (29 + x))))]) (h' := (kq_F h (29 + x) 0 31 x c (kq_c v) n m)) (by with_unfolding_all rfl) ?_
    refine kx_getf (c := 1) (v := .inr (.inr (.inl (some 31)))) rfl (by decide) ((kq_o (Or.inl (by decide)) (Or.inl (by omega))).trans h12) ?_
    refine kx_go 1 (pc' := 63) (L' := [(5, .inl (Int32.ofNat 0)), (0, .inr (.inr (.inl (some 1)))), (1, .inl (Int32.ofNat x)), (2, .inr (.inl (v))), (4, .inl (Int32.ofNat n))]) (S' := [.inl (Int32.ofNat x), .inr (.inr (.inl (some 31))), .inr (.inr (.inl (some (29 + x))))]) (h' := (kq_F h (29 + x) 0 31 x c (kq_c v) n m)) (by with_unfolding_all rfl) ?_
    refine kx_iald rfl (c := 31) (j := x) (m := 2) (v := .inl (Int32.ofNat (c + m))) rfl (by decide) (by decide) (by omega) kq_b ?_
    refine kx_go 8 (pc' := 76) (L' := [(5, .inl (Int32.ofNat 0)), (0, .inr (.inr (.inl (some 1)))), (1, .inl (Int32.ofNat x)), (2, .inr (.inl (v))), (4, .inl (Int32.ofNat n))]) (S' := [.inl ((((v.toUInt64 >>> (((Int32.ofNat 8) * (Int32.ofNat 0)).toInt64.toUInt64 &&& Int64.toUInt64 63)).toInt64).toInt32) &&& (Int32.ofNat 255)), .inl (Int32.ofNat (c + m)), .inr (.inr (.inl (some (29 + x))))]) (h' := (kq_F h (29 + x) 0 31 x c (kq_c v) n m)) (by with_unfolding_all rfl) ?_
    refine kx_iast rfl (c := 29 + x) (j := c + m) (m := 240) (kq_sh x hx).1 (kq_sh x hx).2 (by decide) (by omega) ?_
    refine kx_go 1 (pc' := 78) (L' := [(5, .inl (Int32.ofNat 0)), (0, .inr (.inr (.inl (some 1)))), (1, .inl (Int32.ofNat x)), (2, .inr (.inl (v))), (4, .inl (Int32.ofNat n))]) (S' := [.inr (.inr (.inl (some 1)))]) (h' := (kc_upd (kq_F h (29 + x) 0 31 x c (kq_c v) n m) (29 + x) (c + m) (.inl ((((v.toUInt64 >>> (((Int32.ofNat 8) * (Int32.ofNat 0)).toInt64.toUInt64 &&& Int64.toUInt64 63)).toInt64).toInt32) &&& (Int32.ofNat 255))))) (by with_unfolding_all rfl) ?_
    refine kx_getf (c := 1) (v := .inr (.inr (.inl (some 31)))) rfl (by decide) ((kj_uo (by omega)).trans ((kq_o (Or.inl (by decide)) (Or.inl (by omega))).trans h12)) ?_
    refine kx_go 2 (pc' := 83) (L' := [(5, .inl (Int32.ofNat 0)), (0, .inr (.inr (.inl (some 1)))), (1, .inl (Int32.ofNat x)), (2, .inr (.inl (v))), (4, .inl (Int32.ofNat n))]) (S' := [.inl (Int32.ofNat x), .inr (.inr (.inl (some 31))), .inl (Int32.ofNat x), .inr (.inr (.inl (some 31)))]) (h' := (kc_upd (kq_F h (29 + x) 0 31 x c (kq_c v) n m) (29 + x) (c + m) (.inl ((((v.toUInt64 >>> (((Int32.ofNat 8) * (Int32.ofNat 0)).toInt64.toUInt64 &&& Int64.toUInt64 63)).toInt64).toInt32) &&& (Int32.ofNat 255))))) (by with_unfolding_all rfl) ?_
    refine kx_iald rfl (c := 31) (j := x) (m := 2) (v := .inl (Int32.ofNat (c + m))) rfl (by decide) (by decide) (by omega) ((kj_uo (by omega)).trans kq_b) ?_
    refine kx_go 2 (pc' := 86) (L' := [(5, .inl (Int32.ofNat 0)), (0, .inr (.inr (.inl (some 1)))), (1, .inl (Int32.ofNat x)), (2, .inr (.inl (v))), (4, .inl (Int32.ofNat n))]) (S' := [.inl ((Int32.ofNat (c + m)) + (Int32.ofNat 1)), .inl (Int32.ofNat x), .inr (.inr (.inl (some 31)))]) (h' := (kc_upd (kq_F h (29 + x) 0 31 x c (kq_c v) n m) (29 + x) (c + m) (.inl ((((v.toUInt64 >>> (((Int32.ofNat 8) * (Int32.ofNat 0)).toInt64.toUInt64 &&& Int64.toUInt64 63)).toInt64).toInt32) &&& (Int32.ofNat 255))))) (by with_unfolding_all rfl) ?_
    rw [← Int32.ofNat_add]
    refine kx_iast rfl (c := 31) (j := x) (m := 2) rfl (by decide) (by decide) hx ?_
    have hs := kq_s (h := h) (tc := 29 + x) (to := 0) (bc := 31) (bp := x) (c := c) (B := kq_c v) (n := n) (m := m) (Or.inl (by omega))
    rw [show n - 1 - m = 0 from by omega, Nat.zero_add] at hs
    refine Eq.mpr (congrArg (fun H => kc_Ev g d wk_m55 _ 87 [(5, .inl (Int32.ofNat 0)), (0, .inr (.inr (.inl (some 1)))), (1, .inl (Int32.ofNat x)), (2, .inr (.inl (v))), (4, .inl (Int32.ofNat n))] [] H) hs) ?_
    refine kx_go 2 (pc' := 47) (L' := [(5, .inl ((Int32.ofNat 0) + Int32.ofInt (-1))), (0, .inr (.inr (.inl (some 1)))), (1, .inl (Int32.ofNat x)), (2, .inr (.inl (v))), (4, .inl (Int32.ofNat n))]) (S' := []) (h' := (kq_F h (29 + x) 0 31 x c (kq_c v) n (m + 1))) (by with_unfolding_all rfl) ?_
    refine kx_go 2 (pc' := 93) (L' := [(5, .inl ((Int32.ofNat 0) + Int32.ofInt (-1))), (0, .inr (.inr (.inl (some 1)))), (1, .inl (Int32.ofNat x)), (2, .inr (.inl (v))), (4, .inl (Int32.ofNat n))]) (S' := []) (h' := (kq_F h (29 + x) 0 31 x c (kq_c v) n (m + 1))) (by with_unfolding_all rfl) ?_
    obtain rfl : n = m + 1 := by omega
    exact kq_cend hx h11 h12 h28 hc hcn
  | succ r ih =>
    intro m hm
    refine kx_go 2 (pc' := (if kc_cnd .lt (Int32.ofNat (r + 1)).toInt 0 then 93 else 52)) (L' := [(5, .inl (Int32.ofNat (r + 1))), (0, .inr (.inr (.inl (some 1)))), (1, .inl (Int32.ofNat x)), (2, .inr (.inl (v))), (4, .inl (Int32.ofNat n))]) (S' := []) (h' := (kq_F h (29 + x) 0 31 x c (kq_c v) n m)) (by with_unfolding_all rfl) ?_
    rw [if_neg (by unfold kc_cnd; rw [kx_ti (by omega)]; simp only [decide_eq_true_eq]; omega)]
    refine kx_go 1 (pc' := 53) (L' := [(5, .inl (Int32.ofNat (r + 1))), (0, .inr (.inr (.inl (some 1)))), (1, .inl (Int32.ofNat x)), (2, .inr (.inl (v))), (4, .inl (Int32.ofNat n))]) (S' := [.inr (.inr (.inl (some 1)))]) (h' := (kq_F h (29 + x) 0 31 x c (kq_c v) n m)) (by with_unfolding_all rfl) ?_
    refine kx_getf (c := 1) (v := .inr (.inr (.inl (some 28)))) rfl (by decide) ((kq_o (Or.inl (by decide)) (Or.inl (by omega))).trans h11) ?_
    refine kx_go 1 (pc' := 57) (L' := [(5, .inl (Int32.ofNat (r + 1))), (0, .inr (.inr (.inl (some 1)))), (1, .inl (Int32.ofNat x)), (2, .inr (.inl (v))), (4, .inl (Int32.ofNat n))]) (S' := [.inl (Int32.ofNat x), .inr (.inr (.inl (some 28)))]) (h' := (kq_F h (29 + x) 0 31 x c (kq_c v) n m)) (by with_unfolding_all rfl) ?_
    refine kx_aald (c := 28) (j := x) (m := 2) (t0 := 2) (v := .inr (.inr (.inl (some (29 + x))))) rfl rfl (by decide) (by decide) (by decide) hx ((kq_o (Or.inl (by decide)) (Or.inl (by omega))).trans h28) ?_
    refine kx_go 1 (pc' := 59) (L' := [(5, .inl (Int32.ofNat (r + 1))), (0, .inr (.inr (.inl (some 1)))), (1, .inl (Int32.ofNat x)), (2, .inr (.inl (v))), (4, .inl (Int32.ofNat n))]) (S' := [.inr (.inr (.inl (some 1))), .inr (.inr (.inl (some (29 + x))))]) (h' := (kq_F h (29 + x) 0 31 x c (kq_c v) n m)) (by with_unfolding_all rfl) ?_
    refine kx_getf (c := 1) (v := .inr (.inr (.inl (some 31)))) rfl (by decide) ((kq_o (Or.inl (by decide)) (Or.inl (by omega))).trans h12) ?_
    refine kx_go 1 (pc' := 63) (L' := [(5, .inl (Int32.ofNat (r + 1))), (0, .inr (.inr (.inl (some 1)))), (1, .inl (Int32.ofNat x)), (2, .inr (.inl (v))), (4, .inl (Int32.ofNat n))]) (S' := [.inl (Int32.ofNat x), .inr (.inr (.inl (some 31))), .inr (.inr (.inl (some (29 + x))))]) (h' := (kq_F h (29 + x) 0 31 x c (kq_c v) n m)) (by with_unfolding_all rfl) ?_
    refine kx_iald rfl (c := 31) (j := x) (m := 2) (v := .inl (Int32.ofNat (c + m))) rfl (by decide) (by decide) (by omega) kq_b ?_
    refine kx_go 8 (pc' := 76) (L' := [(5, .inl (Int32.ofNat (r + 1))), (0, .inr (.inr (.inl (some 1)))), (1, .inl (Int32.ofNat x)), (2, .inr (.inl (v))), (4, .inl (Int32.ofNat n))]) (S' := [.inl ((((v.toUInt64 >>> (((Int32.ofNat 8) * (Int32.ofNat (r + 1))).toInt64.toUInt64 &&& Int64.toUInt64 63)).toInt64).toInt32) &&& (Int32.ofNat 255)), .inl (Int32.ofNat (c + m)), .inr (.inr (.inl (some (29 + x))))]) (h' := (kq_F h (29 + x) 0 31 x c (kq_c v) n m)) (by with_unfolding_all rfl) ?_
    refine kx_iast rfl (c := 29 + x) (j := c + m) (m := 240) (kq_sh x hx).1 (kq_sh x hx).2 (by decide) (by omega) ?_
    refine kx_go 1 (pc' := 78) (L' := [(5, .inl (Int32.ofNat (r + 1))), (0, .inr (.inr (.inl (some 1)))), (1, .inl (Int32.ofNat x)), (2, .inr (.inl (v))), (4, .inl (Int32.ofNat n))]) (S' := [.inr (.inr (.inl (some 1)))]) (h' := (kc_upd (kq_F h (29 + x) 0 31 x c (kq_c v) n m) (29 + x) (c + m) (.inl ((((v.toUInt64 >>> (((Int32.ofNat 8) * (Int32.ofNat (r + 1))).toInt64.toUInt64 &&& Int64.toUInt64 63)).toInt64).toInt32) &&& (Int32.ofNat 255))))) (by with_unfolding_all rfl) ?_
    refine kx_getf (c := 1) (v := .inr (.inr (.inl (some 31)))) rfl (by decide) ((kj_uo (by omega)).trans ((kq_o (Or.inl (by decide)) (Or.inl (by omega))).trans h12)) ?_
    refine kx_go 2 (pc' := 83) (L' := [(5, .inl (Int32.ofNat (r + 1))), (0, .inr (.inr (.inl (some 1)))), (1, .inl (Int32.ofNat x)), (2, .inr (.inl (v))), (4, .inl (Int32.ofNat n))]) (S' := [.inl (Int32.ofNat x), .inr (.inr (.inl (some 31))), .inl (Int32.ofNat x), .inr (.inr (.inl (some 31)))]) (h' := (kc_upd (kq_F h (29 + x) 0 31 x c (kq_c v) n m) (29 + x) (c + m) (.inl ((((v.toUInt64 >>> (((Int32.ofNat 8) * (Int32.ofNat (r + 1))).toInt64.toUInt64 &&& Int64.toUInt64 63)).toInt64).toInt32) &&& (Int32.ofNat 255))))) (by with_unfolding_all rfl) ?_
    refine kx_iald rfl (c := 31) (j := x) (m := 2) (v := .inl (Int32.ofNat (c + m))) rfl (by decide) (by decide) (by omega) ((kj_uo (by omega)).trans kq_b) ?_
    refine kx_go 2 (pc' := 86) (L' := [(5, .inl (Int32.ofNat (r + 1))), (0, .inr (.inr (.inl (some 1)))), (1, .inl (Int32.ofNat x)), (2, .inr (.inl (v))), (4, .inl (Int32.ofNat n))]) (S' := [.inl ((Int32.ofNat (c + m)) + (Int32.ofNat 1)), .inl (Int32.ofNat x), .inr (.inr (.inl (some 31)))]) (h' := (kc_upd (kq_F h (29 + x) 0 31 x c (kq_c v) n m) (29 + x) (c + m) (.inl ((((v.toUInt64 >>> (((Int32.ofNat 8) * (Int32.ofNat (r + 1))).toInt64.toUInt64 &&& Int64.toUInt64 63)).toInt64).toInt32) &&& (Int32.ofNat 255))))) (by with_unfolding_all rfl) ?_
    rw [← Int32.ofNat_add]
    refine kx_iast rfl (c := 31) (j := x) (m := 2) rfl (by decide) (by decide) hx ?_
    have hs := kq_s (h := h) (tc := 29 + x) (to := 0) (bc := 31) (bp := x) (c := c) (B := kq_c v) (n := n) (m := m) (Or.inl (by omega))
    rw [show n - 1 - m = (r + 1) from by omega, Nat.zero_add] at hs
    refine Eq.mpr (congrArg (fun H => kc_Ev g d wk_m55 _ 87 [(5, .inl (Int32.ofNat (r + 1))), (0, .inr (.inr (.inl (some 1)))), (1, .inl (Int32.ofNat x)), (2, .inr (.inl (v))), (4, .inl (Int32.ofNat n))] [] H) hs) ?_
    refine kx_go 2 (pc' := 47) (L' := [(5, .inl ((Int32.ofNat (r + 1)) + Int32.ofInt (-1))), (0, .inr (.inr (.inl (some 1)))), (1, .inl (Int32.ofNat x)), (2, .inr (.inl (v))), (4, .inl (Int32.ofNat n))]) (S' := []) (h' := (kq_F h (29 + x) 0 31 x c (kq_c v) n (m + 1))) (by with_unfolding_all rfl) ?_
    rw [kq_dec r (by omega)]
    exact ih (m + 1) (by omega)
set_option maxRecDepth 20000 in
theorem kq_55 {g : kc_G} {d x c n : Nat} {v : Int64} {h : kc_H} (hg : kc_ok g) (hx : x < 2) (h11 : h 1 11 = .inr (.inr (.inl (some 28)))) (h12 : h 1 12 = .inr (.inr (.inl (some 31)))) (h28 : h 28 x = .inr (.inr (.inl (some (29 + x))))) (hc : h 31 x = .inl (Int32.ofNat c)) (hn1 : 1 ≤ n) (hn : n ≤ 8) (hc240 : c ≤ 240) : kc_Con g (d + 2) 55 [.inr (.inr (.inl (some 1))), .inl (Int32.ofNat x), .inr (.inl v), .inl (Int32.ofNat n)] h (fun rv h' => ∃ z : Int32, rv = some (.inl z) ∧ ((c + n ≤ 240 ∧ h' = (kq_F h (29 + x) 0 31 x c (kq_c v) n n)) ∨ (240 < c + n ∧ h' = h))) := by
  refine kc_Con_new hg (M := wk_m55) rfl rfl rfl (show 5 ≤ 6 by decide) ?_
  refine kx_go 3 (pc' := 3) (L' := [(0, .inr (.inr (.inl (some 1)))), (1, .inl (Int32.ofNat x)), (2, .inr (.inl (v))), (4, .inl (Int32.ofNat n))]) (S' := [.inl (Int32.ofNat 1), .inl (Int32.ofNat 0), .inl (Int32.ofNat x)]) (h' := h) (by with_unfolding_all rfl) ?_
  refine kc_call_rule (M2 := wk_m19) (av := [.inl (Int32.ofNat x), .inl (Int32.ofNat 0), .inl (Int32.ofNat 1)]) (r := []) rfl rfl (kc_Con_le (kq_btw (d := 0) hg (by omega) (by omega) (by omega)) (by omega)) (fun rv h' hq => ?_)
  obtain ⟨rfl, rfl⟩ := hq
  show kc_Ev g (d + 1) wk_m55 _ 6 [(0, .inr (.inr (.inl (some 1)))), (1, .inl (Int32.ofNat x)), (2, .inr (.inl (v))), (4, .inl (Int32.ofNat n))] [.inl (kp_b (decide (0 ≤ x ∧ x ≤ 1)))] h'
  refine kx_go 1 (pc' := (if kc_cnd .eq (kp_b (decide (0 ≤ x ∧ x ≤ 1))).toInt 0 then 20 else 9)) (L' := [(0, .inr (.inr (.inl (some 1)))), (1, .inl (Int32.ofNat x)), (2, .inr (.inl (v))), (4, .inl (Int32.ofNat n))]) (S' := []) (h' := h') (by with_unfolding_all rfl) ?_
  rw [if_neg (fun q => by have := kx_b0.mp q; exact absurd this (by rw [decide_eq_true (by omega)]; decide))]
  refine kx_go 3 (pc' := 14) (L' := [(0, .inr (.inr (.inl (some 1)))), (1, .inl (Int32.ofNat x)), (2, .inr (.inl (v))), (4, .inl (Int32.ofNat n))]) (S' := [.inl (Int32.ofNat 8), .inl (Int32.ofNat 1), .inl (Int32.ofNat n)]) (h' := h') (by with_unfolding_all rfl) ?_
  refine kc_call_rule (M2 := wk_m19) (av := [.inl (Int32.ofNat n), .inl (Int32.ofNat 1), .inl (Int32.ofNat 8)]) (r := []) rfl rfl (kc_Con_le (kq_btw (d := 0) hg (by omega) (by omega) (by omega)) (by omega)) (fun rv h' hq => ?_)
  obtain ⟨rfl, rfl⟩ := hq
  show kc_Ev g (d + 1) wk_m55 _ 17 [(0, .inr (.inr (.inl (some 1)))), (1, .inl (Int32.ofNat x)), (2, .inr (.inl (v))), (4, .inl (Int32.ofNat n))] [.inl (kp_b (decide (1 ≤ n ∧ n ≤ 8)))] h'
  refine kx_go 1 (pc' := (if kc_cnd .ne (kp_b (decide (1 ≤ n ∧ n ≤ 8))).toInt 0 then 23 else 20)) (L' := [(0, .inr (.inr (.inl (some 1)))), (1, .inl (Int32.ofNat x)), (2, .inr (.inl (v))), (4, .inl (Int32.ofNat n))]) (S' := []) (h' := h') (by with_unfolding_all rfl) ?_
  rw [if_pos (kx_b1.mpr (decide_eq_true (by omega)))]
  refine kx_go 1 (pc' := 24) (L' := [(0, .inr (.inr (.inl (some 1)))), (1, .inl (Int32.ofNat x)), (2, .inr (.inl (v))), (4, .inl (Int32.ofNat n))]) (S' := [.inr (.inr (.inl (some 1)))]) (h' := h') (by with_unfolding_all rfl) ?_
  refine kx_getf (c := 1) (v := .inr (.inr (.inl (some 31)))) rfl (by decide) h12 ?_
  refine kx_go 1 (pc' := 28) (L' := [(0, .inr (.inr (.inl (some 1)))), (1, .inl (Int32.ofNat x)), (2, .inr (.inl (v))), (4, .inl (Int32.ofNat n))]) (S' := [.inl (Int32.ofNat x), .inr (.inr (.inl (some 31)))]) (h' := h') (by with_unfolding_all rfl) ?_
  refine kx_iald rfl (c := 31) (j := x) (m := 2) (v := .inl (Int32.ofNat c)) rfl (by decide) (by decide) (by omega) hc ?_
  refine kx_go 2 (pc' := 32) (L' := [(0, .inr (.inr (.inl (some 1)))), (1, .inl (Int32.ofNat x)), (2, .inr (.inl (v))), (4, .inl (Int32.ofNat n))]) (S' := [.inl ((Int32.ofNat c) + (Int32.ofNat n))]) (h' := h') (by with_unfolding_all rfl) ?_
  rw [← Int32.ofNat_add]
  refine kx_go 2 (pc' := (if kc_cnd .le (Int32.ofNat (c + n)).toInt (Int32.ofNat 240).toInt then 41 else 38)) (L' := [(0, .inr (.inr (.inl (some 1)))), (1, .inl (Int32.ofNat x)), (2, .inr (.inl (v))), (4, .inl (Int32.ofNat n))]) (S' := []) (h' := h') (by with_unfolding_all rfl) ?_
  by_cases e : c + n ≤ 240
  · rw [if_pos ((kx_le (by omega) (by omega)).mpr e)]
    obtain ⟨k, rfl⟩ : ∃ k, n = k + 1 := ⟨n - 1, by omega⟩
    refine kx_go 4 (pc' := 47) (L' := [(5, .inl ((Int32.ofNat (k + 1)) - (Int32.ofNat 1))), (0, .inr (.inr (.inl (some 1)))), (1, .inl (Int32.ofNat x)), (2, .inr (.inl (v))), (4, .inl (Int32.ofNat (k + 1)))]) (S' := []) (h' := h') (by with_unfolding_all rfl) ?_
    rw [kq_pre k (by omega)]
    have key := kq_cl (g := g) (d := d + 1) (v := v) hx h11 h12 h28 hc (show k + 1 ≤ 8 by omega) e k 0 (by omega)
    rw [kq_0 hc] at key
    exact key
  · rw [if_neg (fun q => e ((kx_le (by omega) (by omega)).mp q))]
    refine kx_go 1 (pc' := 40) (L' := [(0, .inr (.inr (.inl (some 1)))), (1, .inl (Int32.ofNat x)), (2, .inr (.inl (v))), (4, .inl (Int32.ofNat n))]) (S' := [.inl (Int32.ofInt (-4))]) (h' := h') (by with_unfolding_all rfl) ?_
    exact kc_ret_ok rfl (rv := some (.inl (Int32.ofInt (-4)))) rfl ⟨_, rfl, Or.inr ⟨by omega, rfl⟩⟩
set_option maxRecDepth 20000 in
theorem kq_54 {g : kc_G} {d x c n : Nat} {v : Int64} {h : kc_H} (hg : kc_ok g) (h0 : h 0 0 = .inr (.inr (.inl (some 1)))) (hx : x < 2) (h11 : h 1 11 = .inr (.inr (.inl (some 28)))) (h12 : h 1 12 = .inr (.inr (.inl (some 31)))) (h28 : h 28 x = .inr (.inr (.inl (some (29 + x))))) (hc : h 31 x = .inl (Int32.ofNat c)) (hn1 : 1 ≤ n) (hn : n ≤ 8) (hc240 : c ≤ 240) : kc_Con g (d + 3) 54 [.inr (.inr (.inl (some 0))), .inl (Int32.ofNat x), .inr (.inl v), .inl (Int32.ofNat n)] h (fun rv h' => ∃ z : Int32, rv = some (.inl z) ∧ ((c + n ≤ 240 ∧ h' = (kq_F h (29 + x) 0 31 x c (kq_c v) n n)) ∨ (240 < c + n ∧ h' = h))) := by
  refine kc_Con_new hg (M := wk_m54) rfl rfl rfl (show 5 ≤ 5 by decide) ?_
  refine kx_go 1 (pc' := 1) (L' := [(0, .inr (.inr (.inl (some 0)))), (1, .inl (Int32.ofNat x)), (2, .inr (.inl (v))), (4, .inl (Int32.ofNat n))]) (S' := [.inr (.inr (.inl (some 0)))]) (h' := h) (by with_unfolding_all rfl) ?_
  refine kx_getf (c := 0) (v := .inr (.inr (.inl (some 1)))) rfl (by decide) h0 ?_
  refine kx_go 3 (pc' := 8) (L' := [(0, .inr (.inr (.inl (some 0)))), (1, .inl (Int32.ofNat x)), (2, .inr (.inl (v))), (4, .inl (Int32.ofNat n))]) (S' := [.inl (Int32.ofNat n), .inr (.inl (v)), .inl (Int32.ofNat x), .inr (.inr (.inl (some 1)))]) (h' := h) (by with_unfolding_all rfl) ?_
  refine kc_call_rule (M2 := wk_m55) (av := [.inr (.inr (.inl (some 1))), .inl (Int32.ofNat x), .inr (.inl (v)), .inl (Int32.ofNat n)]) (r := []) rfl rfl (kc_Con_le (kq_55 (d := d) hg hx h11 h12 h28 hc hn1 hn hc240) (by omega)) (fun rv h' hq => ?_)
  obtain ⟨z, rfl, hq⟩ := hq
  exact kc_ret_ok rfl (rv := some (.inl z)) rfl ⟨z, rfl, hq⟩
end
section
-- 99.zk
/-! ===== type, reference ===== -/
set_option maxRecDepth 20000 in
theorem kq_rend {g : kc_G} {d x c n : Nat} {v : Int64} {i : Int32} {h : kc_H} (hx : x < 2) (h0 : h 259 0 = .inr (.inr (.inl (some 260)))) (hc : h 260 (160 + x) = .inl (Int32.ofNat c)) (hcn : c + n ≤ 240) : kc_Ev g d wk_m56 (fun rv h' => ∃ z : Int32, rv = some (.inl z) ∧ ((c + n ≤ 240 ∧ h' = (kq_F h 260 (170 + 240 * x) 260 (160 + x) c (kq_r v) n n)) ∨ (240 < c + n ∧ h' = h))) 113 [(5, .inl (i)), (0, .inr (.inr (.inl (some 259)))), (1, .inl (Int32.ofNat x)), (2, .inr (.inl (v))), (4, .inl (Int32.ofNat n))] [] (kq_F h 260 (170 + 240 * x) 260 (160 + x) c (kq_r v) n n) := by
  refine kx_go 1 (pc' := 114) (L' := [(5, .inl (i)), (0, .inr (.inr (.inl (some 259)))), (1, .inl (Int32.ofNat x)), (2, .inr (.inl (v))), (4, .inl (Int32.ofNat n))]) (S' := [.inr (.inr (.inl (some 259)))]) (h' := (kq_F h 260 (170 + 240 * x) 260 (160 + x) c (kq_r v) n n)) (by with_unfolding_all rfl) ?_
  refine kx_getf (c := 259) (v := .inr (.inr (.inl (some 260)))) rfl (by decide) ((kq_o (Or.inl (by decide)) (Or.inl (by decide))).trans h0) ?_
  refine kx_go 3 (pc' := 122) (L' := [(5, .inl (i)), (0, .inr (.inr (.inl (some 259)))), (1, .inl (Int32.ofNat x)), (2, .inr (.inl (v))), (4, .inl (Int32.ofNat n))]) (S' := [.inl ((Int32.ofNat 160) + (Int32.ofNat x)), .inr (.inr (.inl (some 260)))]) (h' := (kq_F h 260 (170 + 240 * x) 260 (160 + x) c (kq_r v) n n)) (by with_unfolding_all rfl) ?_
  rw [← Int32.ofNat_add]
  refine kx_iald rfl (c := 260) (j := 160 + x) (m := 650) (v := .inl (Int32.ofNat (c + n))) rfl (by decide) (by decide) (by omega) kq_b ?_
  exact kc_ret_ok rfl (rv := some (.inl (Int32.ofNat (c + n)))) rfl ⟨_, rfl, Or.inl ⟨hcn, rfl⟩⟩
set_option maxRecDepth 20000 in
theorem kq_rl {g : kc_G} {d x c n : Nat} {v : Int64} {h : kc_H} (hx : x < 2) (h0 : h 259 0 = .inr (.inr (.inl (some 260)))) (hc : h 260 (160 + x) = .inl (Int32.ofNat c)) (hn : n ≤ 8) (hcn : c + n ≤ 240) : ∀ (r m : Nat), r + m + 1 = n → kc_Ev g d wk_m56 (fun rv h' => ∃ z : Int32, rv = some (.inl z) ∧ ((c + n ≤ 240 ∧ h' = (kq_F h 260 (170 + 240 * x) 260 (160 + x) c (kq_r v) n n)) ∨ (240 < c + n ∧ h' = h))) 51 [(5, .inl (Int32.ofNat r)), (0, .inr (.inr (.inl (some 259)))), (1, .inl (Int32.ofNat x)), (2, .inr (.inl (v))), (4, .inl (Int32.ofNat n))] [] (kq_F h 260 (170 + 240 * x) 260 (160 + x) c (kq_r v) n m) := by
  intro r
  induction r with
  | zero =>
    intro m hm
    refine kx_go 2 (pc' := (if kc_cnd .lt (Int32.ofNat 0).toInt 0 then 113 else 56)) (L' := [(5, .inl (Int32.ofNat 0)), (0, .inr (.inr (.inl (some 259)))), (1, .inl (Int32.ofNat x)), (2, .inr (.inl (v))), (4, .inl (Int32.ofNat n))]) (S' := []) (h' := (kq_F h 260 (170 + 240 * x) 260 (160 + x) c (kq_r v) n m)) (by with_unfolding_all rfl) ?_
    rw [if_neg (by unfold kc_cnd; rw [kx_ti (by omega)]; simp only [decide_eq_true_eq]; omega)]
    refine kx_go 1 (pc' := 57) (L' := [(5, .inl (Int32.ofNat 0)), (0, .inr (.inr (.inl (some 259)))), (1, .inl (Int32.ofNat x)), (2, .inr (.inl (v))), (4, .inl (Int32.ofNat n))]) (S' := [.inr (.inr (.inl (some 259)))]) (h' := (kq_F h 260 (170 + 240 * x) 260 (160 + x) c (kq_r v) n m)) (by with_unfolding_all rfl) ?_
    refine kx_getf (c := 259) (v := .inr (.inr (.inl (some 260)))) rfl (by decide) ((kq_o (Or.inl (by decide)) (Or.inl (by decide))).trans h0) ?_
    refine kx_go 6 (pc' := 70) (L' := [(5, .inl (Int32.ofNat 0)), (0, .inr (.inr (.inl (some 259)))), (1, .inl (Int32.ofNat x)), (2, .inr (.inl (v))), (4, .inl (Int32.ofNat n))]) (S' := [.inr (.inr (.inl (some 259))), .inl ((Int32.ofNat 170) + ((Int32.ofNat 240) * (Int32.ofNat x))), .inr (.inr (.inl (some 260)))]) (h' := (kq_F h 260 (170 + 240 * x) 260 (160 + x) c (kq_r v) n m)) (by with_unfolding_all rfl) ?_
    rw [← Int32.ofNat_mul, ← Int32.ofNat_add]
    refine kx_getf (c := 259) (v := .inr (.inr (.inl (some 260)))) rfl (by decide) ((kq_o (Or.inl (by decide)) (Or.inl (by decide))).trans h0) ?_
    refine kx_go 3 (pc' := 78) (L' := [(5, .inl (Int32.ofNat 0)), (0, .inr (.inr (.inl (some 259)))), (1, .inl (Int32.ofNat x)), (2, .inr (.inl (v))), (4, .inl (Int32.ofNat n))]) (S' := [.inl ((Int32.ofNat 160) + (Int32.ofNat x)), .inr (.inr (.inl (some 260))), .inl (Int32.ofNat (170 + 240 * x)), .inr (.inr (.inl (some 260)))]) (h' := (kq_F h 260 (170 + 240 * x) 260 (160 + x) c (kq_r v) n m)) (by with_unfolding_all rfl) ?_
    rw [← Int32.ofNat_add 160 x]
    refine kx_iald rfl (c := 260) (j := 160 + x) (m := 650) (v := .inl (Int32.ofNat (c + m))) rfl (by decide) (by decide) (by omega) kq_b ?_
    refine kx_go 1 (pc' := 80) (L' := [(5, .inl (Int32.ofNat 0)), (0, .inr (.inr (.inl (some 259)))), (1, .inl (Int32.ofNat x)), (2, .inr (.inl (v))), (4, .inl (Int32.ofNat n))]) (S' := [.inl ((Int32.ofNat (170 + 240 * x)) + (Int32.ofNat (c + m))), .inr (.inr (.inl (some 260)))]) (h' := (kq_F h 260 (170 + 240 * x) 260 (160 + x) c (kq_r v) n m)) (by with_unfolding_all rfl) ?_
    rw [← Int32.ofNat_add]
    refine kx_go 8 (pc' := 92) (L' := [(5, .inl (Int32.ofNat 0)), (0, .inr (.inr (.inl (some 259)))), (1, .inl (Int32.ofNat x)), (2, .inr (.inl (v))), (4, .inl (Int32.ofNat n))]) (S' := [.inl (((v >>> (((Int32.ofNat 8) * (Int32.ofNat 0)).toInt64 &&& 63)) &&& (Int64.ofNat 255)).toInt32), .inl (Int32.ofNat (170 + 240 * x + (c + m))), .inr (.inr (.inl (some 260)))]) (h' := (kq_F h 260 (170 + 240 * x) 260 (160 + x) c (kq_r v) n m)) (by with_unfolding_all rfl) ?_
    refine kx_iast rfl (c := 260) (j := 170 + 240 * x + (c + m)) (m := 650) rfl (by decide) (by decide) (by omega) ?_
    refine kx_go 1 (pc' := 94) (L' := [(5, .inl (Int32.ofNat 0)), (0, .inr (.inr (.inl (some 259)))), (1, .inl (Int32.ofNat x)), (2, .inr (.inl (v))), (4, .inl (Int32.ofNat n))]) (S' := [.inr (.inr (.inl (some 259)))]) (h' := (kc_upd (kq_F h 260 (170 + 240 * x) 260 (160 + x) c (kq_r v) n m) 260 (170 + 240 * x + (c + m)) (.inl (((v >>> (((Int32.ofNat 8) * (Int32.ofNat 0)).toInt64 &&& 63)) &&& (Int64.ofNat 255)).toInt32)))) (by with_unfolding_all rfl) ?_
    refine kx_getf (c := 259) (v := .inr (.inr (.inl (some 260)))) rfl (by decide) ((kj_uo (by decide)).trans ((kq_o (Or.inl (by decide)) (Or.inl (by decide))).trans h0)) ?_
    refine kx_go 4 (pc' := 103) (L' := [(5, .inl (Int32.ofNat 0)), (0, .inr (.inr (.inl (some 259)))), (1, .inl (Int32.ofNat x)), (2, .inr (.inl (v))), (4, .inl (Int32.ofNat n))]) (S' := [.inl ((Int32.ofNat 160) + (Int32.ofNat x)), .inr (.inr (.inl (some 260))), .inl ((Int32.ofNat 160) + (Int32.ofNat x)), .inr (.inr (.inl (some 260)))]) (h' := (kc_upd (kq_F h 260 (170 + 240 * x) 260 (160 + x) c (kq_r v) n m) 260 (170 + 240 * x + (c + m)) (.inl (((v >>> (((Int32.ofNat 8) * (Int32.ofNat 0)).toInt64 &&& 63)) &&& (Int64.ofNat 255)).toInt32)))) (by with_unfolding_all rfl) ?_
    rw [← Int32.ofNat_add 160 x]
    refine kx_iald rfl (c := 260) (j := 160 + x) (m := 650) (v := .inl (Int32.ofNat (c + m))) rfl (by decide) (by decide) (by omega) ((if_neg (by omega)).trans kq_b) ?_
    refine kx_go 2 (pc' := 106) (L' := [(5, .inl (Int32.ofNat 0)), (0, .inr (.inr (.inl (some 259)))), (1, .inl (Int32.ofNat x)), (2, .inr (.inl (v))), (4, .inl (Int32.ofNat n))]) (S' := [.inl ((Int32.ofNat (c + m)) + (Int32.ofNat 1)), .inl (Int32.ofNat (160 + x)), .inr (.inr (.inl (some 260)))]) (h' := (kc_upd (kq_F h 260 (170 + 240 * x) 260 (160 + x) c (kq_r v) n m) 260 (170 + 240 * x + (c + m)) (.inl (((v >>> (((Int32.ofNat 8) * (Int32.ofNat 0)).toInt64 &&& 63)) &&& (Int64.ofNat 255)).toInt32)))) (by with_unfolding_all rfl) ?_
    rw [← Int32.ofNat_add (c + m) 1]
    refine kx_iast rfl (c := 260) (j := 160 + x) (m := 650) rfl (by decide) (by decide) (by omega) ?_
    have hs := kq_s (h := h) (tc := 260) (to := 170 + 240 * x) (bc := 260) (bp := 160 + x) (c := c) (B := kq_r v) (n := n) (m := m) (Or.inr (by omega))
    rw [show n - 1 - m = 0 from by omega] at hs
    refine Eq.mpr (congrArg (fun H => kc_Ev g d wk_m56 _ 107 [(5, .inl (Int32.ofNat 0)), (0, .inr (.inr (.inl (some 259)))), (1, .inl (Int32.ofNat x)), (2, .inr (.inl (v))), (4, .inl (Int32.ofNat n))] [] H) hs) ?_
    refine kx_go 2 (pc' := 51) (L' := [(5, .inl ((Int32.ofNat 0) + Int32.ofInt (-1))), (0, .inr (.inr (.inl (some 259)))), (1, .inl (Int32.ofNat x)), (2, .inr (.inl (v))), (4, .inl (Int32.ofNat n))]) (S' := []) (h' := (kq_F h 260 (170 + 240 * x) 260 (160 + x) c (kq_r v) n (m + 1))) (by with_unfolding_all rfl) ?_
    refine kx_go 2 (pc' := 113) (L' := [(5, .inl ((Int32.ofNat 0) + Int32.ofInt (-1))), (0, .inr (.inr (.inl (some 259)))), (1, .inl (Int32.ofNat x)), (2, .inr (.inl (v))), (4, .inl (Int32.ofNat n))]) (S' := []) (h' := (kq_F h 260 (170 + 240 * x) 260 (160 + x) c (kq_r v) n (m + 1))) (by with_unfolding_all rfl) ?_
    obtain rfl : n = m + 1 := by omega
    exact kq_rend hx h0 hc hcn
  | succ r ih =>
    intro m hm
    refine kx_go 2 (pc' := (if kc_cnd .lt (Int32.ofNat (r + 1)).toInt 0 then 113 else 56)) (L' := [(5, .inl (Int32.ofNat (r + 1))), (0, .inr (.inr (.inl (some 259)))), (1, .inl (Int32.ofNat x)), (2, .inr (.inl (v))), (4, .inl (Int32.ofNat n))]) (S' := []) (h' := (kq_F h 260 (170 + 240 * x) 260 (160 + x) c (kq_r v) n m)) (by with_unfolding_all rfl) ?_
    rw [if_neg (by unfold kc_cnd; rw [kx_ti (by omega)]; simp only [decide_eq_true_eq]; omega)]
    refine kx_go 1 (pc' := 57) (L' := [(5, .inl (Int32.ofNat (r + 1))), (0, .inr (.inr (.inl (some 259)))), (1, .inl (Int32.ofNat x)), (2, .inr (.inl (v))), (4, .inl (Int32.ofNat n))]) (S' := [.inr (.inr (.inl (some 259)))]) (h' := (kq_F h 260 (170 + 240 * x) 260 (160 + x) c (kq_r v) n m)) (by with_unfolding_all rfl) ?_
    refine kx_getf (c := 259) (v := .inr (.inr (.inl (some 260)))) rfl (by decide) ((kq_o (Or.inl (by decide)) (Or.inl (by decide))).trans h0) ?_
    refine kx_go 6 (pc' := 70) (L' := [(5, .inl (Int32.ofNat (r + 1))), (0, .inr (.inr (.inl (some 259)))), (1, .inl (Int32.ofNat x)), (2, .inr (.inl (v))), (4, .inl (Int32.ofNat n))]) (S' := [.inr (.inr (.inl (some 259))), .inl ((Int32.ofNat 170) + ((Int32.ofNat 240) * (Int32.ofNat x))), .inr (.inr (.inl (some 260)))]) (h' := (kq_F h 260 (170 + 240 * x) 260 (160 + x) c (kq_r v) n m)) (by with_unfolding_all rfl) ?_
    rw [← Int32.ofNat_mul, ← Int32.ofNat_add]
    refine kx_getf (c := 259) (v := .inr (.inr (.inl (some 260)))) rfl (by decide) ((kq_o (Or.inl (by decide)) (Or.inl (by decide))).trans h0) ?_
    refine kx_go 3 (pc' := 78) (L' := [(5, .inl (Int32.ofNat (r + 1))), (0, .inr (.inr (.inl (some 259)))), (1, .inl (Int32.ofNat x)), (2, .inr (.inl (v))), (4, .inl (Int32.ofNat n))]) (S' := [.inl ((Int32.ofNat 160) + (Int32.ofNat x)), .inr (.inr (.inl (some 260))), .inl (Int32.ofNat (170 + 240 * x)), .inr (.inr (.inl (some 260)))]) (h' := (kq_F h 260 (170 + 240 * x) 260 (160 + x) c (kq_r v) n m)) (by with_unfolding_all rfl) ?_
    rw [← Int32.ofNat_add 160 x]
    refine kx_iald rfl (c := 260) (j := 160 + x) (m := 650) (v := .inl (Int32.ofNat (c + m))) rfl (by decide) (by decide) (by omega) kq_b ?_
    refine kx_go 1 (pc' := 80) (L' := [(5, .inl (Int32.ofNat (r + 1))), (0, .inr (.inr (.inl (some 259)))), (1, .inl (Int32.ofNat x)), (2, .inr (.inl (v))), (4, .inl (Int32.ofNat n))]) (S' := [.inl ((Int32.ofNat (170 + 240 * x)) + (Int32.ofNat (c + m))), .inr (.inr (.inl (some 260)))]) (h' := (kq_F h 260 (170 + 240 * x) 260 (160 + x) c (kq_r v) n m)) (by with_unfolding_all rfl) ?_
    rw [← Int32.ofNat_add]
    refine kx_go 8 (pc' := 92) (L' := [(5, .inl (Int32.ofNat (r + 1))), (0, .inr (.inr (.inl (some 259)))), (1, .inl (Int32.ofNat x)), (2, .inr (.inl (v))), (4, .inl (Int32.ofNat n))]) (S' := [.inl (((v >>> (((Int32.ofNat 8) * (Int32.ofNat (r + 1))).toInt64 &&& 63)) &&& (Int64.ofNat 255)).toInt32), .inl (Int32.ofNat (170 + 240 * x + (c + m))), .inr (.inr (.inl (some 260)))]) (h' := (kq_F h 260 (170 + 240 * x) 260 (160 + x) c (kq_r v) n m)) (by with_unfolding_all rfl) ?_
    refine kx_iast rfl (c := 260) (j := 170 + 240 * x + (c + m)) (m := 650) rfl (by decide) (by decide) (by omega) ?_
    refine kx_go 1 (pc' := 94) (L' := [(5, .inl (Int32.ofNat (r + 1))), (0, .inr (.inr (.inl (some 259)))), (1, .inl (Int32.ofNat x)), (2, .inr (.inl (v))), (4, .inl (Int32.ofNat n))]) (S' := [.inr (.inr (.inl (some 259)))]) (h' := (kc_upd (kq_F h 260 (170 + 240 * x) 260 (160 + x) c (kq_r v) n m) 260 (170 + 240 * x + (c + m)) (.inl (((v >>> (((Int32.ofNat 8) * (Int32.ofNat (r + 1))).toInt64 &&& 63)) &&& (Int64.ofNat 255)).toInt32)))) (by with_unfolding_all rfl) ?_
    refine kx_getf (c := 259) (v := .inr (.inr (.inl (some 260)))) rfl (by decide) ((kj_uo (by decide)).trans ((kq_o (Or.inl (by decide)) (Or.inl (by decide))).trans h0)) ?_
    refine kx_go 4 (pc' := 103) (L' := [(5, .inl (Int32.ofNat (r + 1))), (0, .inr (.inr (.inl (some 259)))), (1, .inl (Int32.ofNat x)), (2, .inr (.inl (v))), (4, .inl (Int32.ofNat n))]) (S' := [.inl ((Int32.ofNat 160) + (Int32.ofNat x)), .inr (.inr (.inl (some 260))), .inl ((Int32.ofNat 160) + (Int32.ofNat x)), .inr (.inr (.inl (some 260)))]) (h' := (kc_upd (kq_F h 260 (170 + 240 * x) 260 (160 + x) c (kq_r v) n m) 260 (170 + 240 * x + (c + m)) (.inl (((v >>> (((Int32.ofNat 8) * (Int32.ofNat (r + 1))).toInt64 &&& 63)) &&& (Int64.ofNat 255)).toInt32)))) (by with_unfolding_all rfl) ?_
    rw [← Int32.ofNat_add 160 x]
    refine kx_iald rfl (c := 260) (j := 160 + x) (m := 650) (v := .inl (Int32.ofNat (c + m))) rfl (by decide) (by decide) (by omega) ((if_neg (by omega)).trans kq_b) ?_
    refine kx_go 2 (pc' := 106) (L' := [(5, .inl (Int32.ofNat (r + 1))), (0, .inr (.inr (.inl (some 259)))), (1, .inl (Int32.ofNat x)), (2, .inr (.inl (v))), (4, .inl (Int32.ofNat n))]) (S' := [.inl ((Int32.ofNat (c + m)) + (Int32.ofNat 1)), .inl (Int32.ofNat (160 + x)), .inr (.inr (.inl (some 260)))]) (h' := (kc_upd (kq_F h 260 (170 + 240 * x) 260 (160 + x) c (kq_r v) n m) 260 (170 + 240 * x + (c + m)) (.inl (((v >>> (((Int32.ofNat 8) * (Int32.ofNat (r + 1))).toInt64 &&& 63)) &&& (Int64.ofNat 255)).toInt32)))) (by with_unfolding_all rfl) ?_
    rw [← Int32.ofNat_add (c + m) 1]
    refine kx_iast rfl (c := 260) (j := 160 + x) (m := 650) rfl (by decide) (by decide) (by omega) ?_
    have hs := kq_s (h := h) (tc := 260) (to := 170 + 240 * x) (bc := 260) (bp := 160 + x) (c := c) (B := kq_r v) (n := n) (m := m) (Or.inr (by omega))
    rw [show n - 1 - m = (r + 1) from by omega] at hs
    refine Eq.mpr (congrArg (fun H => kc_Ev g d wk_m56 _ 107 [(5, .inl (Int32.ofNat (r + 1))), (0, .inr (.inr (.inl (some 259)))), (1, .inl (Int32.ofNat x)), (2, .inr (.inl (v))), (4, .inl (Int32.ofNat n))] [] H) hs) ?_
    refine kx_go 2 (pc' := 51) (L' := [(5, .inl ((Int32.ofNat (r + 1)) + Int32.ofInt (-1))), (0, .inr (.inr (.inl (some 259)))), (1, .inl (Int32.ofNat x)), (2, .inr (.inl (v))), (4, .inl (Int32.ofNat n))]) (S' := []) (h' := (kq_F h 260 (170 + 240 * x) 260 (160 + x) c (kq_r v) n (m + 1))) (by with_unfolding_all rfl) ?_
    rw [kq_dec r (by omega)]
    exact ih (m + 1) (by omega)
set_option maxRecDepth 20000 in
theorem kq_57 {g : kc_G} {d x : Nat} {h : kc_H} (hg : kc_ok g) (hx : x < 2) : kc_Con g (d + 2) 57 [.inl (Int32.ofNat x)] h (fun rv h' => rv = some (.inl (kp_b true)) ∧ h' = h) := by
  refine kc_Con_new hg (M := wk_m57) rfl rfl rfl (show 1 ≤ 1 by decide) ?_
  refine kx_go 4 (pc' := 4) (L' := [(0, .inl (Int32.ofNat x))]) (S' := [.inr (.inl (Int64.ofNat 1)), .inr (.inl (Int64.ofNat 0)), .inr (.inl ((Int32.ofNat x).toInt64))]) (h' := h) (by with_unfolding_all rfl) ?_
  rw [kx_i2l (by omega)]
  refine kc_call_rule (M2 := wk_m22) (av := [.inr (.inl (Int64.ofNat x)), .inr (.inl (Int64.ofNat 0)), .inr (.inl (Int64.ofNat 1))]) (r := []) rfl rfl (kc_Con_le (km_lies hg (by omega) (by omega) (by omega)) (by omega)) (fun rv h' hq => ?_)
  obtain ⟨rfl, rfl⟩ := hq
  rw [show (decide (0 ≤ x ∧ x ≤ 1)) = true from decide_eq_true (by omega)]
  exact kc_ret_ok rfl (rv := some (.inl (kp_b true))) rfl ⟨rfl, rfl⟩
set_option maxRecDepth 20000 in
theorem kq_56 {g : kc_G} {d x c n : Nat} {v : Int64} {h : kc_H} (hg : kc_ok g) (hx : x < 2) (h0 : h 259 0 = .inr (.inr (.inl (some 260)))) (hc : h 260 (160 + x) = .inl (Int32.ofNat c)) (hn1 : 1 ≤ n) (hn : n ≤ 8) (hc240 : c ≤ 240) : kc_Con g (d + 3) 56 [.inr (.inr (.inl (some 259))), .inl (Int32.ofNat x), .inr (.inl v), .inl (Int32.ofNat n)] h (fun rv h' => ∃ z : Int32, rv = some (.inl z) ∧ ((c + n ≤ 240 ∧ h' = (kq_F h 260 (170 + 240 * x) 260 (160 + x) c (kq_r v) n n)) ∨ (240 < c + n ∧ h' = h))) := by
  refine kc_Con_new hg (M := wk_m56) rfl rfl rfl (show 5 ≤ 6 by decide) ?_
  refine kx_go 1 (pc' := 1) (L' := [(0, .inr (.inr (.inl (some 259)))), (1, .inl (Int32.ofNat x)), (2, .inr (.inl (v))), (4, .inl (Int32.ofNat n))]) (S' := [.inl (Int32.ofNat x)]) (h' := h) (by with_unfolding_all rfl) ?_
  refine kc_call_rule (M2 := wk_m57) (av := [.inl (Int32.ofNat x)]) (r := []) rfl rfl (kc_Con_le (kq_57 (d := 0) hg hx) (by omega)) (fun rv h' hq => ?_)
  obtain ⟨rfl, rfl⟩ := hq
  show kc_Ev g (d + 2) wk_m56 _ 4 [(0, .inr (.inr (.inl (some 259)))), (1, .inl (Int32.ofNat x)), (2, .inr (.inl (v))), (4, .inl (Int32.ofNat n))] [.inl (kp_b true)] h'
  refine kx_go 1 (pc' := 7) (L' := [(0, .inr (.inr (.inl (some 259)))), (1, .inl (Int32.ofNat x)), (2, .inr (.inl (v))), (4, .inl (Int32.ofNat n))]) (S' := []) (h' := h') (by with_unfolding_all rfl) ?_
  refine kx_go 4 (pc' := 14) (L' := [(0, .inr (.inr (.inl (some 259)))), (1, .inl (Int32.ofNat x)), (2, .inr (.inl (v))), (4, .inl (Int32.ofNat n))]) (S' := [.inr (.inl (Int64.ofNat 8)), .inr (.inl (Int64.ofNat 1)), .inr (.inl ((Int32.ofNat n).toInt64))]) (h' := h') (by with_unfolding_all rfl) ?_
  rw [kx_i2l (by omega)]
  refine kc_call_rule (M2 := wk_m22) (av := [.inr (.inl (Int64.ofNat n)), .inr (.inl (Int64.ofNat 1)), .inr (.inl (Int64.ofNat 8))]) (r := []) rfl rfl (kc_Con_le (km_lies hg (by omega) (by omega) (by omega)) (by omega)) (fun rv h' hq => ?_)
  obtain ⟨rfl, rfl⟩ := hq
  show kc_Ev g (d + 2) wk_m56 _ 17 [(0, .inr (.inr (.inl (some 259)))), (1, .inl (Int32.ofNat x)), (2, .inr (.inl (v))), (4, .inl (Int32.ofNat n))] [.inl (kp_b (decide (1 ≤ n ∧ n ≤ 8)))] h'
  refine kx_go 1 (pc' := (if kc_cnd .ne (kp_b (decide (1 ≤ n ∧ n ≤ 8))).toInt 0 then 23 else 20)) (L' := [(0, .inr (.inr (.inl (some 259)))), (1, .inl (Int32.ofNat x)), (2, .inr (.inl (v))), (4, .inl (Int32.ofNat n))]) (S' := []) (h' := h') (by with_unfolding_all rfl) ?_
  rw [if_pos (kx_b1.mpr (decide_eq_true (by omega)))]
  refine kx_go 1 (pc' := 24) (L' := [(0, .inr (.inr (.inl (some 259)))), (1, .inl (Int32.ofNat x)), (2, .inr (.inl (v))), (4, .inl (Int32.ofNat n))]) (S' := [.inr (.inr (.inl (some 259)))]) (h' := h') (by with_unfolding_all rfl) ?_
  refine kx_getf (c := 259) (v := .inr (.inr (.inl (some 260)))) rfl (by decide) h0 ?_
  refine kx_go 3 (pc' := 32) (L' := [(0, .inr (.inr (.inl (some 259)))), (1, .inl (Int32.ofNat x)), (2, .inr (.inl (v))), (4, .inl (Int32.ofNat n))]) (S' := [.inl ((Int32.ofNat 160) + (Int32.ofNat x)), .inr (.inr (.inl (some 260)))]) (h' := h') (by with_unfolding_all rfl) ?_
  rw [← Int32.ofNat_add]
  refine kx_iald rfl (c := 260) (j := 160 + x) (m := 650) (v := .inl (Int32.ofNat c)) rfl (by decide) (by decide) (by omega) hc ?_
  refine kx_go 2 (pc' := 36) (L' := [(0, .inr (.inr (.inl (some 259)))), (1, .inl (Int32.ofNat x)), (2, .inr (.inl (v))), (4, .inl (Int32.ofNat n))]) (S' := [.inl ((Int32.ofNat c) + (Int32.ofNat n))]) (h' := h') (by with_unfolding_all rfl) ?_
  rw [← Int32.ofNat_add]
  refine kx_go 2 (pc' := (if kc_cnd .le (Int32.ofNat (c + n)).toInt (Int32.ofNat 240).toInt then 45 else 42)) (L' := [(0, .inr (.inr (.inl (some 259)))), (1, .inl (Int32.ofNat x)), (2, .inr (.inl (v))), (4, .inl (Int32.ofNat n))]) (S' := []) (h' := h') (by with_unfolding_all rfl) ?_
  by_cases e : c + n ≤ 240
  · rw [if_pos ((kx_le (by omega) (by omega)).mpr e)]
    obtain ⟨k, rfl⟩ : ∃ k, n = k + 1 := ⟨n - 1, by omega⟩
    refine kx_go 4 (pc' := 51) (L' := [(5, .inl ((Int32.ofNat (k + 1)) - (Int32.ofNat 1))), (0, .inr (.inr (.inl (some 259)))), (1, .inl (Int32.ofNat x)), (2, .inr (.inl (v))), (4, .inl (Int32.ofNat (k + 1)))]) (S' := []) (h' := h') (by with_unfolding_all rfl) ?_
    rw [kq_pre k (by omega)]
    have key := kq_rl (g := g) (d := d + 2) (v := v) hx h0 hc (show k + 1 ≤ 8 by omega) e k 0 (by omega)
    rw [kq_0 hc] at key
    exact key
  · rw [if_neg (fun q => e ((kx_le (by omega) (by omega)).mp q))]
    refine kx_go 1 (pc' := 44) (L' := [(0, .inr (.inr (.inl (some 259)))), (1, .inl (Int32.ofNat x)), (2, .inr (.inl (v))), (4, .inl (Int32.ofNat n))]) (S' := [.inl (Int32.ofInt (-4))]) (h' := h') (by with_unfolding_all rfl) ?_
    exact kc_ret_ok rfl (rv := some (.inl (Int32.ofInt (-4)))) rfl ⟨_, rfl, Or.inr ⟨by omega, rfl⟩⟩
end
section
-- 99.zl
/-! ===== image, from of the class; what is kept alike ===== -/
theorem ks_k0 : kd_rn (kd_ty 0) 2 = some (3, 63, 63) ∧ kd_rn (kd_ty 0) 3 = some (3, 126, 126) ∧ kd_rn (kd_ty 63) 0 = some (3, 64, 64) ∧ kd_rn (kd_ty 63) 1 = some (3, 95, 95) := by decide +kernel
set_option maxRecDepth 20000 in
theorem ks_image0 {g : kc_G} {d : Nat} {h : kc_H} (hg : kc_ok g) (hw : kd_wt kd_ty h) : kc_Con g (d + 4) 157 [.inr (.inr (.inl (some 0))), .inl (Int32.ofNat 0)] h (fun rv h' => (∃ z : Int32, rv = some (.inl z)) ∧ h' = kc_upd (kt_K h 1 64 31) 126 0 (.inl (kp_b true))) := by
  have k0 := kx_ofr (hw _ _ _ kv_k0.1)
  have k2 := kx_ofr (hw _ _ _ ks_k0.1)
  have k3 := kx_ofr (hw _ _ _ ks_k0.2.1)
  have kb := kx_ofr (hw _ _ _ ks_k0.2.2.1)
  refine kc_Con_new hg (M := wk_m157) rfl rfl rfl (show 2 ≤ 2 by decide) ?_
  refine kx_go 3 (pc' := 3) (L' := [(0, .inr (.inr (.inl (some 0)))), (1, .inl (Int32.ofNat 0))]) (S' := [.inl (Int32.ofNat 1), .inl (Int32.ofNat 0), .inl (Int32.ofNat 0)]) (h' := h) (by with_unfolding_all rfl) ?_
  refine kc_call_rule (M2 := wk_m19) (av := [.inl (Int32.ofNat 0), .inl (Int32.ofNat 0), .inl (Int32.ofNat 1)]) (r := []) rfl rfl (kc_Con_le (kq_btw (d := 0) hg (by decide) (by decide) (by decide)) (by omega)) (fun rv h' hq => ?_)
  obtain ⟨rfl, rfl⟩ := hq
  show kc_Ev g (d + 3) wk_m157 _ 6 [(0, .inr (.inr (.inl (some 0)))), (1, .inl (Int32.ofNat 0))] [.inl (kp_b (decide (0 ≤ 0 ∧ 0 ≤ 1)))] h'
  refine kx_go 1 (pc' := (if kc_cnd .ne (kp_b (decide (0 ≤ 0 ∧ 0 ≤ 1))).toInt 0 then 12 else 9)) (L' := [(0, .inr (.inr (.inl (some 0)))), (1, .inl (Int32.ofNat 0))]) (S' := []) (h' := h') (by with_unfolding_all rfl) ?_
  rw [if_pos (kx_b1.mpr (decide_eq_true (by decide)))]
  refine kx_go 1 (pc' := 13) (L' := [(0, .inr (.inr (.inl (some 0)))), (1, .inl (Int32.ofNat 0))]) (S' := [.inr (.inr (.inl (some 0)))]) (h' := h') (by with_unfolding_all rfl) ?_
  refine kx_getf (c := 0) (v := .inr (.inr (.inl (some 63)))) rfl (by decide) k2 ?_
  refine kx_go 1 (pc' := 17) (L' := [(0, .inr (.inr (.inl (some 0)))), (1, .inl (Int32.ofNat 0))]) (S' := [.inl (Int32.ofNat 0), .inr (.inr (.inl (some 63)))]) (h' := h') (by with_unfolding_all rfl) ?_
  refine kx_aald (c := 63) (j := 0) (m := 2) (t0 := 3) (v := .inr (.inr (.inl (some 64)))) rfl rfl (by decide) (by decide) (by decide) (by decide) kb ?_
  refine kx_go 1 (pc' := 19) (L' := [(0, .inr (.inr (.inl (some 0)))), (1, .inl (Int32.ofNat 0))]) (S' := [.inr (.inr (.inl (some 0))), .inr (.inr (.inl (some 64)))]) (h' := h') (by with_unfolding_all rfl) ?_
  refine kx_getf (c := 0) (v := .inr (.inr (.inl (some 1)))) rfl (by decide) k0 ?_
  refine kc_call_rule (M2 := wk_m68) (av := [.inr (.inr (.inl (some 64))), .inr (.inr (.inl (some 1)))]) (r := []) rfl rfl (kc_Con_le (kt_take1_64 (d := 0) hg hw) (by omega)) (fun rv h2 hq => ?_)
  obtain ⟨rfl, rfl⟩ := hq
  show kc_Ev g (d + 3) wk_m157 _ 25 [(0, .inr (.inr (.inl (some 0)))), (1, .inl (Int32.ofNat 0))] [] (kt_K h' 1 64 31)
  refine kx_go 1 (pc' := 26) (L' := [(0, .inr (.inr (.inl (some 0)))), (1, .inl (Int32.ofNat 0))]) (S' := [.inr (.inr (.inl (some 0)))]) (h' := (kt_K h' 1 64 31)) (by with_unfolding_all rfl) ?_
  refine kx_getf (c := 0) (v := .inr (.inr (.inl (some 126)))) rfl (by decide) ((show kt_K h' 1 64 31 0 3 = h' 0 3 from if_neg (by decide)).trans k3) ?_
  refine kx_go 2 (pc' := 31) (L' := [(0, .inr (.inr (.inl (some 0)))), (1, .inl (Int32.ofNat 0))]) (S' := [.inl (Int32.ofNat 1), .inl (Int32.ofNat 0), .inr (.inr (.inl (some 126)))]) (h' := (kt_K h' 1 64 31)) (by with_unfolding_all rfl) ?_
  refine kx_bast (w := true) rfl (c := 126) (j := 0) (m := 2) rfl (by decide) (by decide) (by decide) ?_
  refine kx_go 1 (pc' := 33) (L' := [(0, .inr (.inr (.inl (some 0)))), (1, .inl (Int32.ofNat 0))]) (S' := [.inl (Int32.ofNat 1)]) (h' := (kc_upd (kt_K h' 1 64 31) 126 0 (.inl (kp_b true)))) (by with_unfolding_all rfl) ?_
  exact kc_ret_ok rfl (rv := some (.inl (Int32.ofNat 1))) rfl ⟨⟨_, rfl⟩, rfl⟩
set_option maxRecDepth 20000 in
theorem ks_from0 {g : kc_G} {d : Nat} {h : kc_H} {b : Bool} (hg : kc_ok g) (hw : kd_wt kd_ty h) (hb : h 126 0 = .inl (kp_b b)) : kc_Con g (d + 4) 159 [.inr (.inr (.inl (some 0))), .inl (Int32.ofNat 0)] h (fun rv h' => (∃ z : Int32, rv = some (.inl z)) ∧ ((b = true ∧ h' = kt_K h 64 1 31) ∨ (b = false ∧ h' = h))) := by
  have k0 := kx_ofr (hw _ _ _ kv_k0.1)
  have k2 := kx_ofr (hw _ _ _ ks_k0.1)
  have k3 := kx_ofr (hw _ _ _ ks_k0.2.1)
  have kb := kx_ofr (hw _ _ _ ks_k0.2.2.1)
  refine kc_Con_new hg (M := wk_m159) rfl rfl rfl (show 2 ≤ 2 by decide) ?_
  refine kx_go 3 (pc' := 3) (L' := [(0, .inr (.inr (.inl (some 0)))), (1, .inl (Int32.ofNat 0))]) (S' := [.inl (Int32.ofNat 1), .inl (Int32.ofNat 0), .inl (Int32.ofNat 0)]) (h' := h) (by with_unfolding_all rfl) ?_
  refine kc_call_rule (M2 := wk_m19) (av := [.inl (Int32.ofNat 0), .inl (Int32.ofNat 0), .inl (Int32.ofNat 1)]) (r := []) rfl rfl (kc_Con_le (kq_btw (d := 0) hg (by decide) (by decide) (by decide)) (by omega)) (fun rv h' hq => ?_)
  obtain ⟨rfl, rfl⟩ := hq
  show kc_Ev g (d + 3) wk_m159 _ 6 [(0, .inr (.inr (.inl (some 0)))), (1, .inl (Int32.ofNat 0))] [.inl (kp_b (decide (0 ≤ 0 ∧ 0 ≤ 1)))] h'
  refine kx_go 1 (pc' := (if kc_cnd .ne (kp_b (decide (0 ≤ 0 ∧ 0 ≤ 1))).toInt 0 then 12 else 9)) (L' := [(0, .inr (.inr (.inl (some 0)))), (1, .inl (Int32.ofNat 0))]) (S' := []) (h' := h') (by with_unfolding_all rfl) ?_
  rw [if_pos (kx_b1.mpr (decide_eq_true (by decide)))]
  refine kx_go 1 (pc' := 13) (L' := [(0, .inr (.inr (.inl (some 0)))), (1, .inl (Int32.ofNat 0))]) (S' := [.inr (.inr (.inl (some 0)))]) (h' := h') (by with_unfolding_all rfl) ?_
  refine kx_getf (c := 0) (v := .inr (.inr (.inl (some 126)))) rfl (by decide) k3 ?_
  refine kx_go 1 (pc' := 17) (L' := [(0, .inr (.inr (.inl (some 0)))), (1, .inl (Int32.ofNat 0))]) (S' := [.inl (Int32.ofNat 0), .inr (.inr (.inl (some 126)))]) (h' := h') (by with_unfolding_all rfl) ?_
  refine kx_bald rfl (c := 126) (j := 0) (m := 2) (v := .inl (kp_b b)) rfl (by decide) (by decide) (by decide) hb ?_
  refine kx_go 1 (pc' := (if kc_cnd .ne (kp_b b).toInt 0 then 24 else 21)) (L' := [(0, .inr (.inr (.inl (some 0)))), (1, .inl (Int32.ofNat 0))]) (S' := []) (h' := h') (by with_unfolding_all rfl) ?_
  cases b with
  | false =>
    rw [if_neg (fun q => by have := kx_b1.mp q; cases this)]
    refine kx_go 1 (pc' := 23) (L' := [(0, .inr (.inr (.inl (some 0)))), (1, .inl (Int32.ofNat 0))]) (S' := [.inl (Int32.ofInt (-3))]) (h' := h') (by with_unfolding_all rfl) ?_
    exact kc_ret_ok rfl (rv := some (.inl (Int32.ofInt (-3)))) rfl ⟨⟨_, rfl⟩, Or.inr ⟨rfl, rfl⟩⟩
  | true =>
    rw [if_pos (kx_b1.mpr rfl)]
    refine kx_go 1 (pc' := 25) (L' := [(0, .inr (.inr (.inl (some 0)))), (1, .inl (Int32.ofNat 0))]) (S' := [.inr (.inr (.inl (some 0)))]) (h' := h') (by with_unfolding_all rfl) ?_
    refine kx_getf (c := 0) (v := .inr (.inr (.inl (some 1)))) rfl (by decide) k0 ?_
    refine kx_go 1 (pc' := 29) (L' := [(0, .inr (.inr (.inl (some 0)))), (1, .inl (Int32.ofNat 0))]) (S' := [.inr (.inr (.inl (some 0))), .inr (.inr (.inl (some 1)))]) (h' := h') (by with_unfolding_all rfl) ?_
    refine kx_getf (c := 0) (v := .inr (.inr (.inl (some 63)))) rfl (by decide) k2 ?_
    refine kx_go 1 (pc' := 33) (L' := [(0, .inr (.inr (.inl (some 0)))), (1, .inl (Int32.ofNat 0))]) (S' := [.inl (Int32.ofNat 0), .inr (.inr (.inl (some 63))), .inr (.inr (.inl (some 1)))]) (h' := h') (by with_unfolding_all rfl) ?_
    refine kx_aald (c := 63) (j := 0) (m := 2) (t0 := 3) (v := .inr (.inr (.inl (some 64)))) rfl rfl (by decide) (by decide) (by decide) (by decide) kb ?_
    refine kc_call_rule (M2 := wk_m68) (av := [.inr (.inr (.inl (some 1))), .inr (.inr (.inl (some 64)))]) (r := []) rfl rfl (kc_Con_le (kt_take64_1 (d := 0) hg hw) (by omega)) (fun rv h2 hq => ?_)
    obtain ⟨rfl, rfl⟩ := hq
    show kc_Ev g (d + 3) wk_m159 _ 37 [(0, .inr (.inr (.inl (some 0)))), (1, .inl (Int32.ofNat 0))] [] (kt_K h' 64 1 31)
    refine kx_go 1 (pc' := 38) (L' := [(0, .inr (.inr (.inl (some 0)))), (1, .inl (Int32.ofNat 0))]) (S' := [.inl (Int32.ofNat 1)]) (h' := (kt_K h' 64 1 31)) (by with_unfolding_all rfl) ?_
    exact kc_ret_ok rfl (rv := some (.inl (Int32.ofNat 1))) rfl ⟨⟨_, rfl⟩, Or.inl ⟨rfl, rfl⟩⟩
set_option maxRecDepth 20000 in
theorem ks_image1 {g : kc_G} {d : Nat} {h : kc_H} (hg : kc_ok g) (hw : kd_wt kd_ty h) : kc_Con g (d + 4) 157 [.inr (.inr (.inl (some 0))), .inl (Int32.ofNat 1)] h (fun rv h' => (∃ z : Int32, rv = some (.inl z)) ∧ h' = kc_upd (kt_K h 1 95 31) 126 1 (.inl (kp_b true))) := by
  have k0 := kx_ofr (hw _ _ _ kv_k0.1)
  have k2 := kx_ofr (hw _ _ _ ks_k0.1)
  have k3 := kx_ofr (hw _ _ _ ks_k0.2.1)
  have kb := kx_ofr (hw _ _ _ ks_k0.2.2.2)
  refine kc_Con_new hg (M := wk_m157) rfl rfl rfl (show 2 ≤ 2 by decide) ?_
  refine kx_go 3 (pc' := 3) (L' := [(0, .inr (.inr (.inl (some 0)))), (1, .inl (Int32.ofNat 1))]) (S' := [.inl (Int32.ofNat 1), .inl (Int32.ofNat 0), .inl (Int32.ofNat 1)]) (h' := h) (by with_unfolding_all rfl) ?_
  refine kc_call_rule (M2 := wk_m19) (av := [.inl (Int32.ofNat 1), .inl (Int32.ofNat 0), .inl (Int32.ofNat 1)]) (r := []) rfl rfl (kc_Con_le (kq_btw (d := 0) hg (by decide) (by decide) (by decide)) (by omega)) (fun rv h' hq => ?_)
  obtain ⟨rfl, rfl⟩ := hq
  show kc_Ev g (d + 3) wk_m157 _ 6 [(0, .inr (.inr (.inl (some 0)))), (1, .inl (Int32.ofNat 1))] [.inl (kp_b (decide (0 ≤ 1 ∧ 1 ≤ 1)))] h'
  refine kx_go 1 (pc' := (if kc_cnd .ne (kp_b (decide (0 ≤ 1 ∧ 1 ≤ 1))).toInt 0 then 12 else 9)) (L' := [(0, .inr (.inr (.inl (some 0)))), (1, .inl (Int32.ofNat 1))]) (S' := []) (h' := h') (by with_unfolding_all rfl) ?_
  rw [if_pos (kx_b1.mpr (decide_eq_true (by decide)))]
  refine kx_go 1 (pc' := 13) (L' := [(0, .inr (.inr (.inl (some 0)))), (1, .inl (Int32.ofNat 1))]) (S' := [.inr (.inr (.inl (some 0)))]) (h' := h') (by with_unfolding_all rfl) ?_
  refine kx_getf (c := 0) (v := .inr (.inr (.inl (some 63)))) rfl (by decide) k2 ?_
  refine kx_go 1 (pc' := 17) (L' := [(0, .inr (.inr (.inl (some 0)))), (1, .inl (Int32.ofNat 1))]) (S' := [.inl (Int32.ofNat 1), .inr (.inr (.inl (some 63)))]) (h' := h') (by with_unfolding_all rfl) ?_
  refine kx_aald (c := 63) (j := 1) (m := 2) (t0 := 3) (v := .inr (.inr (.inl (some 95)))) rfl rfl (by decide) (by decide) (by decide) (by decide) kb ?_
  refine kx_go 1 (pc' := 19) (L' := [(0, .inr (.inr (.inl (some 0)))), (1, .inl (Int32.ofNat 1))]) (S' := [.inr (.inr (.inl (some 0))), .inr (.inr (.inl (some 95)))]) (h' := h') (by with_unfolding_all rfl) ?_
  refine kx_getf (c := 0) (v := .inr (.inr (.inl (some 1)))) rfl (by decide) k0 ?_
  refine kc_call_rule (M2 := wk_m68) (av := [.inr (.inr (.inl (some 95))), .inr (.inr (.inl (some 1)))]) (r := []) rfl rfl (kc_Con_le (kt_take1_95 (d := 0) hg hw) (by omega)) (fun rv h2 hq => ?_)
  obtain ⟨rfl, rfl⟩ := hq
  show kc_Ev g (d + 3) wk_m157 _ 25 [(0, .inr (.inr (.inl (some 0)))), (1, .inl (Int32.ofNat 1))] [] (kt_K h' 1 95 31)
  refine kx_go 1 (pc' := 26) (L' := [(0, .inr (.inr (.inl (some 0)))), (1, .inl (Int32.ofNat 1))]) (S' := [.inr (.inr (.inl (some 0)))]) (h' := (kt_K h' 1 95 31)) (by with_unfolding_all rfl) ?_
  refine kx_getf (c := 0) (v := .inr (.inr (.inl (some 126)))) rfl (by decide) ((show kt_K h' 1 95 31 0 3 = h' 0 3 from if_neg (by decide)).trans k3) ?_
  refine kx_go 2 (pc' := 31) (L' := [(0, .inr (.inr (.inl (some 0)))), (1, .inl (Int32.ofNat 1))]) (S' := [.inl (Int32.ofNat 1), .inl (Int32.ofNat 1), .inr (.inr (.inl (some 126)))]) (h' := (kt_K h' 1 95 31)) (by with_unfolding_all rfl) ?_
  refine kx_bast (w := true) rfl (c := 126) (j := 1) (m := 2) rfl (by decide) (by decide) (by decide) ?_
  refine kx_go 1 (pc' := 33) (L' := [(0, .inr (.inr (.inl (some 0)))), (1, .inl (Int32.ofNat 1))]) (S' := [.inl (Int32.ofNat 1)]) (h' := (kc_upd (kt_K h' 1 95 31) 126 1 (.inl (kp_b true)))) (by with_unfolding_all rfl) ?_
  exact kc_ret_ok rfl (rv := some (.inl (Int32.ofNat 1))) rfl ⟨⟨_, rfl⟩, rfl⟩
set_option maxRecDepth 20000 in
theorem ks_from1 {g : kc_G} {d : Nat} {h : kc_H} {b : Bool} (hg : kc_ok g) (hw : kd_wt kd_ty h) (hb : h 126 1 = .inl (kp_b b)) : kc_Con g (d + 4) 159 [.inr (.inr (.inl (some 0))), .inl (Int32.ofNat 1)] h (fun rv h' => (∃ z : Int32, rv = some (.inl z)) ∧ ((b = true ∧ h' = kt_K h 95 1 31) ∨ (b = false ∧ h' = h))) := by
  have k0 := kx_ofr (hw _ _ _ kv_k0.1)
  have k2 := kx_ofr (hw _ _ _ ks_k0.1)
  have k3 := kx_ofr (hw _ _ _ ks_k0.2.1)
  have kb := kx_ofr (hw _ _ _ ks_k0.2.2.2)
  refine kc_Con_new hg (M := wk_m159) rfl rfl rfl (show 2 ≤ 2 by decide) ?_
  refine kx_go 3 (pc' := 3) (L' := [(0, .inr (.inr (.inl (some 0)))), (1, .inl (Int32.ofNat 1))]) (S' := [.inl (Int32.ofNat 1), .inl (Int32.ofNat 0), .inl (Int32.ofNat 1)]) (h' := h) (by with_unfolding_all rfl) ?_
  refine kc_call_rule (M2 := wk_m19) (av := [.inl (Int32.ofNat 1), .inl (Int32.ofNat 0), .inl (Int32.ofNat 1)]) (r := []) rfl rfl (kc_Con_le (kq_btw (d := 0) hg (by decide) (by decide) (by decide)) (by omega)) (fun rv h' hq => ?_)
  obtain ⟨rfl, rfl⟩ := hq
  show kc_Ev g (d + 3) wk_m159 _ 6 [(0, .inr (.inr (.inl (some 0)))), (1, .inl (Int32.ofNat 1))] [.inl (kp_b (decide (0 ≤ 1 ∧ 1 ≤ 1)))] h'
  refine kx_go 1 (pc' := (if kc_cnd .ne (kp_b (decide (0 ≤ 1 ∧ 1 ≤ 1))).toInt 0 then 12 else 9)) (L' := [(0, .inr (.inr (.inl (some 0)))), (1, .inl (Int32.ofNat 1))]) (S' := []) (h' := h') (by with_unfolding_all rfl) ?_
  rw [if_pos (kx_b1.mpr (decide_eq_true (by decide)))]
  refine kx_go 1 (pc' := 13) (L' := [(0, .inr (.inr (.inl (some 0)))), (1, .inl (Int32.ofNat 1))]) (S' := [.inr (.inr (.inl (some 0)))]) (h' := h') (by with_unfolding_all rfl) ?_
  refine kx_getf (c := 0) (v := .inr (.inr (.inl (some 126)))) rfl (by decide) k3 ?_
  refine kx_go 1 (pc' := 17) (L' := [(0, .inr (.inr (.inl (some 0)))), (1, .inl (Int32.ofNat 1))]) (S' := [.inl (Int32.ofNat 1), .inr (.inr (.inl (some 126)))]) (h' := h') (by with_unfolding_all rfl) ?_
  refine kx_bald rfl (c := 126) (j := 1) (m := 2) (v := .inl (kp_b b)) rfl (by decide) (by decide) (by decide) hb ?_
  refine kx_go 1 (pc' := (if kc_cnd .ne (kp_b b).toInt 0 then 24 else 21)) (L' := [(0, .inr (.inr (.inl (some 0)))), (1, .inl (Int32.ofNat 1))]) (S' := []) (h' := h') (by with_unfolding_all rfl) ?_
  cases b with
  | false =>
    rw [if_neg (fun q => by have := kx_b1.mp q; cases this)]
    refine kx_go 1 (pc' := 23) (L' := [(0, .inr (.inr (.inl (some 0)))), (1, .inl (Int32.ofNat 1))]) (S' := [.inl (Int32.ofInt (-3))]) (h' := h') (by with_unfolding_all rfl) ?_
    exact kc_ret_ok rfl (rv := some (.inl (Int32.ofInt (-3)))) rfl ⟨⟨_, rfl⟩, Or.inr ⟨rfl, rfl⟩⟩
  | true =>
    rw [if_pos (kx_b1.mpr rfl)]
    refine kx_go 1 (pc' := 25) (L' := [(0, .inr (.inr (.inl (some 0)))), (1, .inl (Int32.ofNat 1))]) (S' := [.inr (.inr (.inl (some 0)))]) (h' := h') (by with_unfolding_all rfl) ?_
    refine kx_getf (c := 0) (v := .inr (.inr (.inl (some 1)))) rfl (by decide) k0 ?_
    refine kx_go 1 (pc' := 29) (L' := [(0, .inr (.inr (.inl (some 0)))), (1, .inl (Int32.ofNat 1))]) (S' := [.inr (.inr (.inl (some 0))), .inr (.inr (.inl (some 1)))]) (h' := h') (by with_unfolding_all rfl) ?_
    refine kx_getf (c := 0) (v := .inr (.inr (.inl (some 63)))) rfl (by decide) k2 ?_
    refine kx_go 1 (pc' := 33) (L' := [(0, .inr (.inr (.inl (some 0)))), (1, .inl (Int32.ofNat 1))]) (S' := [.inl (Int32.ofNat 1), .inr (.inr (.inl (some 63))), .inr (.inr (.inl (some 1)))]) (h' := h') (by with_unfolding_all rfl) ?_
    refine kx_aald (c := 63) (j := 1) (m := 2) (t0 := 3) (v := .inr (.inr (.inl (some 95)))) rfl rfl (by decide) (by decide) (by decide) (by decide) kb ?_
    refine kc_call_rule (M2 := wk_m68) (av := [.inr (.inr (.inl (some 1))), .inr (.inr (.inl (some 95)))]) (r := []) rfl rfl (kc_Con_le (kt_take95_1 (d := 0) hg hw) (by omega)) (fun rv h2 hq => ?_)
    obtain ⟨rfl, rfl⟩ := hq
    show kc_Ev g (d + 3) wk_m159 _ 37 [(0, .inr (.inr (.inl (some 0)))), (1, .inl (Int32.ofNat 1))] [] (kt_K h' 95 1 31)
    refine kx_go 1 (pc' := 38) (L' := [(0, .inr (.inr (.inl (some 0)))), (1, .inl (Int32.ofNat 1))]) (S' := [.inl (Int32.ofNat 1)]) (h' := (kt_K h' 95 1 31)) (by with_unfolding_all rfl) ?_
    exact kc_ret_ok rfl (rv := some (.inl (Int32.ofNat 1))) rfl ⟨⟨_, rfl⟩, Or.inl ⟨rfl, rfl⟩⟩
/-! ===== what is kept alike ===== -/
def kR1 (h : kc_H) (o tx bb r f : Nat) : Prop := h o 0 = h r f ∧ h o 1 = h r (f + 1) ∧ h o 2 = h r (f + 2) ∧ h bb 0 = h r (f + 160) ∧ ∀ j, j < 240 → h tx j = h r (f + 170 + j)
def kI (h : kc_H) (r f : Nat) : Prop := ∃ (n : Nat) (l : Nat → Nat), n ≤ 5 ∧ h r (f + 3) = .inl (Int32.ofNat n) ∧ (∀ i, i < n → 1 ≤ l i ∧ l i ≤ 5 ∧ h r (f + 150 + i) = .inl (Int32.ofNat (l i))) ∧ ∀ i j, i < j → j < n → ¬ l i = l j
def kInv (h : kc_H) : Prop := kd_wt kd_ty h ∧ (kR1 h 1 29 31 260 0 ∧ kR1 h 64 92 94 261 0 ∧ kR1 h 95 123 125 261 650 ∧ ∀ i, i < 2 → h 126 i = h 262 i) ∧ kI h 260 0 ∧ kI h 261 0 ∧ kI h 261 650
theorem kR1_eq {h h' : kc_H} {o tx bb r f : Nat} (e0 : ∀ i, i < 3 → h' o i = h o i) (e1 : ∀ i, i < 3 → h' r (f + i) = h r (f + i)) (e2 : h' bb 0 = h bb 0) (e3 : h' r (f + 160) = h r (f + 160)) (e4 : ∀ j, j < 240 → h' tx j = h tx j) (e5 : ∀ j, j < 240 → h' r (f + 170 + j) = h r (f + 170 + j)) (hR : kR1 h o tx bb r f) : kR1 h' o tx bb r f := by
  obtain ⟨a0, a1, a2, a3, a4⟩ := hR
  refine ⟨?_, ?_, ?_, ?_, fun j hj => ?_⟩
  · rw [e0 0 (by decide), a0]; exact (e1 0 (by decide)).symm
  · rw [e0 1 (by decide), a1]; exact (e1 1 (by decide)).symm
  · rw [e0 2 (by decide), a2]; exact (e1 2 (by decide)).symm
  · rw [e2, a3]; exact e3.symm
  · rw [e4 j hj, a4 j hj]; exact (e5 j hj).symm
theorem kI_eq {h h' : kc_H} {r f : Nat} (e0 : h' r (f + 3) = h r (f + 3)) (e1 : ∀ i, i < 5 → h' r (f + 150 + i) = h r (f + 150 + i)) (hI : kI h r f) : kI h' r f := by
  obtain ⟨n, l, a1, a2, a3, a4⟩ := hI
  exact ⟨n, l, a1, e0.trans a2, fun i hi => ⟨(a3 i hi).1, (a3 i hi).2.1, (e1 i (by omega)).trans (a3 i hi).2.2⟩, a4⟩
theorem kInv_now {h h' : kc_H} (hI : kInv h) (hw : kd_wt kd_ty h') (e1 : ∀ c i, 63 ≤ c → c ≤ 126 → h' c i = h c i) (e2 : ∀ c i, c = 261 ∨ c = 262 → h' c i = h c i) (hR : kR1 h' 1 29 31 260 0) (hL : kI h' 260 0) : kInv h' := by
  obtain ⟨-, ⟨-, b1, b2, b3⟩, -, b4, b5⟩ := hI
  refine ⟨hw, ⟨hR, ?_, ?_, fun i hi => ?_⟩, hL, ?_, ?_⟩
  · exact kR1_eq (fun i _ => e1 64 i (by decide) (by decide)) (fun i _ => e2 261 _ (Or.inl rfl)) (e1 94 0 (by decide) (by decide)) (e2 261 _ (Or.inl rfl)) (fun j _ => e1 92 j (by decide) (by decide)) (fun j _ => e2 261 _ (Or.inl rfl)) b1
  · exact kR1_eq (fun i _ => e1 95 i (by decide) (by decide)) (fun i _ => e2 261 _ (Or.inl rfl)) (e1 125 0 (by decide) (by decide)) (e2 261 _ (Or.inl rfl)) (fun j _ => e1 123 j (by decide) (by decide)) (fun j _ => e2 261 _ (Or.inl rfl)) b2
  · rw [e1 126 i (by decide) (by decide), b3 i hi, e2 262 i (Or.inr rfl)]
  · exact kI_eq (e2 261 _ (Or.inl rfl)) (fun i _ => e2 261 _ (Or.inl rfl)) b4
  · exact kI_eq (e2 261 _ (Or.inl rfl)) (fun i _ => e2 261 _ (Or.inl rfl)) b5
/-- the places of it -/
def kP : List (Nat × Nat × Nat) := [(1, 0, 2), (31, 0, 0), (29, 0, 239), (63, 0, 1), (64, 0, 12), (65, 0, 239), (66, 0, 239), (94, 0, 1), (92, 0, 239), (95, 0, 12), (125, 0, 1), (123, 0, 239), (126, 0, 1), (260, 0, 3), (260, 150, 154), (260, 160, 160), (260, 170, 409), (261, 0, 1299), (262, 0, 1)]
def kP_dis (W : kd_W) : Bool := kP.all fun p => W.all fun q => (Nat.blt p.1 q.1 || Nat.blt q.2.1 p.1) || (Nat.blt p.2.2 q.2.2.1 || Nat.blt q.2.2.2 p.2.1)
theorem kP_r {W : kd_W} {h h' : kc_H} (hd : kP_dis W = true) (hfr : kd_fr W h h') {c a b : Nat} (hm : (c, a, b) ∈ kP) {i : Nat} (h1 : a ≤ i) (h2 : i ≤ b) : h' c i = h c i := by
  refine hfr c i (fun q hq => kb_inr ?_)
  have e := List.all_eq_true.mp (List.all_eq_true.mp hd (c, a, b) hm) q hq
  simp only [Bool.or_eq_true] at e
  rcases e with (e | e) | (e | e)
  · have : c < q.1 := Nat.le_of_ble_eq_true e
    omega
  · have : q.2.1 < c := Nat.le_of_ble_eq_true e
    omega
  · have : b < q.2.2.1 := Nat.le_of_ble_eq_true e
    omega
  · have : q.2.2.2 < a := Nat.le_of_ble_eq_true e
    omega
theorem kInv_fr {W : kd_W} {h h' : kc_H} (hd : kP_dis W = true) (hfr : kd_fr W h h') (hw : kd_wt kd_ty h') (hI : kInv h) : kInv h' := by
  obtain ⟨-, ⟨b0, b1, b2, b3⟩, b4, b5, b6⟩ := hI
  refine ⟨hw, ⟨?_, ?_, ?_, fun i hi => ?_⟩, ?_, ?_, ?_⟩
  · exact kR1_eq (fun i hi => kP_r hd hfr (show (1, 0, 2) ∈ kP by decide) (by omega) (by omega)) (fun i hi => kP_r hd hfr (show (260, 0, 3) ∈ kP by decide) (by omega) (by omega)) (kP_r hd hfr (show (31, 0, 0) ∈ kP by decide) (by omega) (by omega)) (kP_r hd hfr (show (260, 160, 160) ∈ kP by decide) (by omega) (by omega)) (fun j hj => kP_r hd hfr (show (29, 0, 239) ∈ kP by decide) (by omega) (by omega)) (fun j hj => kP_r hd hfr (show (260, 170, 409) ∈ kP by decide) (by omega) (by omega)) b0
  · exact kR1_eq (fun i hi => kP_r hd hfr (show (64, 0, 12) ∈ kP by decide) (by omega) (by omega)) (fun i hi => kP_r hd hfr (show (261, 0, 1299) ∈ kP by decide) (by omega) (by omega)) (kP_r hd hfr (show (94, 0, 1) ∈ kP by decide) (by omega) (by omega)) (kP_r hd hfr (show (261, 0, 1299) ∈ kP by decide) (by omega) (by omega)) (fun j hj => kP_r hd hfr (show (92, 0, 239) ∈ kP by decide) (by omega) (by omega)) (fun j hj => kP_r hd hfr (show (261, 0, 1299) ∈ kP by decide) (by omega) (by omega)) b1
  · exact kR1_eq (fun i hi => kP_r hd hfr (show (95, 0, 12) ∈ kP by decide) (by omega) (by omega)) (fun i hi => kP_r hd hfr (show (261, 0, 1299) ∈ kP by decide) (by omega) (by omega)) (kP_r hd hfr (show (125, 0, 1) ∈ kP by decide) (by omega) (by omega)) (kP_r hd hfr (show (261, 0, 1299) ∈ kP by decide) (by omega) (by omega)) (fun j hj => kP_r hd hfr (show (123, 0, 239) ∈ kP by decide) (by omega) (by omega)) (fun j hj => kP_r hd hfr (show (261, 0, 1299) ∈ kP by decide) (by omega) (by omega)) b2
  · rw [kP_r hd hfr (show (126, 0, 1) ∈ kP by decide) (by omega) (by omega), kP_r hd hfr (show (262, 0, 1) ∈ kP by decide) (by omega) (by omega)]
    exact b3 i hi
  · exact kI_eq (kP_r hd hfr (show (260, 0, 3) ∈ kP by decide) (by omega) (by omega)) (fun i hi => kP_r hd hfr (show (260, 150, 154) ∈ kP by decide) (by omega) (by omega)) b4
  · exact kI_eq (kP_r hd hfr (show (261, 0, 1299) ∈ kP by decide) (by omega) (by omega)) (fun i hi => kP_r hd hfr (show (261, 0, 1299) ∈ kP by decide) (by omega) (by omega)) b5
  · exact kI_eq (kP_r hd hfr (show (261, 0, 1299) ∈ kP by decide) (by omega) (by omega)) (fun i hi => kP_r hd hfr (show (261, 0, 1299) ∈ kP by decide) (by omega) (by omega)) b6
/-- a call that keeps it -/
def kO_i (p : kd_P) : Bool := (match p.1 with
  | some (0, _, _) => true
  | _ => false) && kP_dis p.2.2
def kO_j (p : kd_P) : Bool := (match p.1 with
  | some (2, _, _) => true
  | _ => false) && kP_dis p.2.2
def kQi : Option kc_V → kc_H → Prop := fun rv h' => (∃ z : Int32, rv = some (.inl z)) ∧ kInv h'
def kQj : Option kc_V → kc_H → Prop := fun rv h' => (∃ z : Int64, rv = some (.inr (.inl z))) ∧ kInv h'
theorem kO_ii {g : kc_G} {d id : Nat} {T : kd_Tc} (hh : kd_hold g d kd_ty id T) (hc : T.2.2.all kO_i = true) {xs : List kc_V} {h : kc_H} (hI : kInv h) (hv : wk_f2 (kd_g 0 (fun _ => 0)) T.1 xs) (hF : kd_gF 0 (fun _ => 0) T.2.1 h) : kc_Con g d id xs h kQi := by
  refine kc_Con_mono (hh xs h hI.1 hv hF) (fun rv h' hq => ?_)
  obtain ⟨p, p1, p2, -, p4, p5⟩ := hq
  have hp := List.all_eq_true.mp hc p p1
  unfold kO_i at hp
  rw [Bool.and_eq_true] at hp
  refine ⟨?_, kInv_fr hp.2 p5 p4 hI⟩
  obtain ⟨r, F, V⟩ := p
  match r, rv, hp.1, p2 with
  | some (0, a, b), some y, _, p2 => obtain ⟨z, rfl, -, -⟩ := p2; exact ⟨z, rfl⟩
  | some (0, _, _), none, _, p2 => exact p2.elim
  | some (_ + 1, _, _), _, q, _ => cases q
  | none, _, q, _ => cases q
theorem kO_jj {g : kc_G} {d id : Nat} {T : kd_Tc} (hh : kd_hold g d kd_ty id T) (hc : T.2.2.all kO_j = true) {xs : List kc_V} {h : kc_H} (hI : kInv h) (hv : wk_f2 (kd_g 0 (fun _ => 0)) T.1 xs) (hF : kd_gF 0 (fun _ => 0) T.2.1 h) : kc_Con g d id xs h kQj := by
  refine kc_Con_mono (hh xs h hI.1 hv hF) (fun rv h' hq => ?_)
  obtain ⟨p, p1, p2, -, p4, p5⟩ := hq
  have hp := List.all_eq_true.mp hc p p1
  unfold kO_j at hp
  rw [Bool.and_eq_true] at hp
  refine ⟨?_, kInv_fr hp.2 p5 p4 hI⟩
  obtain ⟨r, F, V⟩ := p
  match r, rv, hp.1, p2 with
  | some (2, a, b), some y, _, p2 => obtain ⟨z, rfl, -, -⟩ := p2; exact ⟨z, rfl⟩
  | some (2, _, _), none, _, p2 => exact p2.elim
  | some (0, _, _), _, q, _ => cases q
  | some (1, _, _), _, q, _ => cases q
  | some (_ + 3, _, _), _, q, _ => cases q
  | none, _, q, _ => cases q
theorem kO_a (a : Int32) : kd_g 0 (fun _ => 0) (0, 0, 4294967295) (.inl a) := kv_gi (by have := kv_lo a; omega) (by have := kv_hi a; omega)
end
section
-- 99.zm
/-! ===== calls that keep it alike by themselves ===== -/
theorem kO_cway {g : kc_G} {h : kc_H} {a b c : Int32} (hg : kc_ok g) (hI : kInv h) : kc_Con g 30 16 [.inr (.inr (.inl (some 0))), .inl a, .inl b, .inl c] h kQi := kc_Con_le (kO_ii (kd_h16 hg) (by decide +kernel) hI ⟨⟨0, rfl, by decide, by decide⟩, kO_a a, kO_a b, kO_a c, trivial⟩ (fun q hq => by cases hq)) (by decide)
theorem kO_rway {g : kc_G} {h : kc_H} {a b c : Int32} (hg : kc_ok g) (hI : kInv h) : kc_Con g 30 20 [.inr (.inr (.inl (some 259))), .inl a, .inl b, .inl c] h kQi := kc_Con_le (kO_ii (kd_h20 hg) (by decide +kernel) hI ⟨⟨259, rfl, by decide, by decide⟩, kO_a a, kO_a b, kO_a c, trivial⟩ (fun q hq => by cases hq)) (by decide)
theorem kO_cford {g : kc_G} {h : kc_H} {a : Int32} (hg : kc_ok g) (hI : kInv h) : kc_Con g 30 23 [.inr (.inr (.inl (some 0))), .inl a] h kQi := kc_Con_le (kO_ii (kd_h23 hg) (by decide +kernel) hI ⟨⟨0, rfl, by decide, by decide⟩, kO_a a, trivial⟩ (fun q hq => by cases hq)) (by decide)
theorem kO_rford {g : kc_G} {h : kc_H} {a : Int32} (hg : kc_ok g) (hI : kInv h) : kc_Con g 30 26 [.inr (.inr (.inl (some 259))), .inl a] h kQi := kc_Con_le (kO_ii (kd_h26 hg) (by decide +kernel) hI ⟨⟨259, rfl, by decide, by decide⟩, kO_a a, trivial⟩ (fun q hq => by cases hq)) (by decide)
theorem kO_cstones {g : kc_G} {h : kc_H} {a b : Int32} (hg : kc_ok g) (hI : kInv h) : kc_Con g 30 28 [.inr (.inr (.inl (some 0))), .inl a, .inl b] h kQi := kc_Con_le (kO_ii (kd_h28 hg) (by decide +kernel) hI ⟨⟨0, rfl, by decide, by decide⟩, kO_a a, kO_a b, trivial⟩ (fun q hq => by cases hq)) (by decide)
theorem kO_rstones {g : kc_G} {h : kc_H} {a b : Int32} (hg : kc_ok g) (hI : kInv h) : kc_Con g 30 30 [.inr (.inr (.inl (some 259))), .inl a, .inl b] h kQi := kc_Con_le (kO_ii (kd_h30 hg) (by decide +kernel) hI ⟨⟨259, rfl, by decide, by decide⟩, kO_a a, kO_a b, trivial⟩ (fun q hq => by cases hq)) (by decide)
theorem kO_clame {g : kc_G} {h : kc_H} {a b c : Int32} (hg : kc_ok g) (hI : kInv h) : kc_Con g 30 35 [.inr (.inr (.inl (some 0))), .inl a, .inl b, .inl c] h kQi := kc_Con_le (kO_ii (kd_h35 hg) (by decide +kernel) hI ⟨⟨0, rfl, by decide, by decide⟩, kO_a a, kO_a b, kO_a c, trivial⟩ (fun q hq => by cases hq)) (by decide)
theorem kO_rlame {g : kc_G} {h : kc_H} {a b c : Int32} (hg : kc_ok g) (hI : kInv h) : kc_Con g 30 39 [.inr (.inr (.inl (some 259))), .inl a, .inl b, .inl c] h kQi := kc_Con_le (kO_ii (kd_h39 hg) (by decide +kernel) hI ⟨⟨259, rfl, by decide, by decide⟩, kO_a a, kO_a b, kO_a c, trivial⟩ (fun q hq => by cases hq)) (by decide)
theorem kO_cask {g : kc_G} {h : kc_H} {a b : Int32} (hg : kc_ok g) (hI : kInv h) : kc_Con g 30 44 [.inr (.inr (.inl (some 0))), .inl a, .inl b] h kQi := kc_Con_le (kO_ii (kd_h44 hg) (by decide +kernel) hI ⟨⟨0, rfl, by decide, by decide⟩, kO_a a, kO_a b, trivial⟩ (fun q hq => by cases hq)) (by decide)
theorem kO_rask {g : kc_G} {h : kc_H} {a b : Int32} (hg : kc_ok g) (hI : kInv h) : kc_Con g 30 47 [.inr (.inr (.inl (some 259))), .inl a, .inl b] h kQi := kc_Con_le (kO_ii (kd_h47 hg) (by decide +kernel) hI ⟨⟨259, rfl, by decide, by decide⟩, kO_a a, kO_a b, trivial⟩ (fun q hq => by cases hq)) (by decide)
theorem kO_cdrain {g : kc_G} {h : kc_H} {a b : Int32} (hg : kc_ok g) (hI : kInv h) : kc_Con g 30 49 [.inr (.inr (.inl (some 0))), .inl a, .inl b] h kQi := kc_Con_le (kO_ii (kd_h49 hg) (by decide +kernel) hI ⟨⟨0, rfl, by decide, by decide⟩, kO_a a, kO_a b, trivial⟩ (fun q hq => by cases hq)) (by decide)
theorem kO_rdrain {g : kc_G} {h : kc_H} {a b : Int32} (hg : kc_ok g) (hI : kInv h) : kc_Con g 30 50 [.inr (.inr (.inl (some 259))), .inl a, .inl b] h kQi := kc_Con_le (kO_ii (kd_h50 hg) (by decide +kernel) hI ⟨⟨259, rfl, by decide, by decide⟩, kO_a a, kO_a b, trivial⟩ (fun q hq => by cases hq)) (by decide)
theorem kO_cput {g : kc_G} {h : kc_H} {a b : Int32} (hg : kc_ok g) (hI : kInv h) : kc_Con g 30 51 [.inr (.inr (.inl (some 0))), .inl a, .inl b] h kQi := kc_Con_le (kO_ii (kd_h51 hg) (by decide +kernel) hI ⟨⟨0, rfl, by decide, by decide⟩, kO_a a, kO_a b, trivial⟩ (fun q hq => by cases hq)) (by decide)
theorem kO_rput {g : kc_G} {h : kc_H} {a b : Int32} (hg : kc_ok g) (hI : kInv h) : kc_Con g 30 53 [.inr (.inr (.inl (some 259))), .inl a, .inl b] h kQi := kc_Con_le (kO_ii (kd_h53 hg) (by decide +kernel) hI ⟨⟨259, rfl, by decide, by decide⟩, kO_a a, kO_a b, trivial⟩ (fun q hq => by cases hq)) (by decide)
theorem kO_cfault {g : kc_G} {h : kc_H} {a : Int32} (hg : kc_ok g) (hI : kInv h) : kc_Con g 30 60 [.inr (.inr (.inl (some 0))), .inl a] h kQi := kc_Con_le (kO_ii (kd_h60 hg) (by decide +kernel) hI ⟨⟨0, rfl, by decide, by decide⟩, kO_a a, trivial⟩ (fun q hq => by cases hq)) (by decide)
theorem kO_rfault {g : kc_G} {h : kc_H} {a : Int32} (hg : kc_ok g) (hI : kInv h) : kc_Con g 30 63 [.inr (.inr (.inl (some 259))), .inl a] h kQi := kc_Con_le (kO_ii (kd_h63 hg) (by decide +kernel) hI ⟨⟨259, rfl, by decide, by decide⟩, kO_a a, trivial⟩ (fun q hq => by cases hq)) (by decide)
theorem kO_crun {g : kc_G} {h : kc_H} {a : Int32} (hg : kc_ok g) (hI : kInv h) : kc_Con g 30 72 [.inr (.inr (.inl (some 0))), .inl a] h kQi := kc_Con_le (kO_ii (kd_h72 hg) (by decide +kernel) hI ⟨⟨0, rfl, by decide, by decide⟩, kO_a a, trivial⟩ (fun q hq => by cases hq)) (by decide)
theorem kO_rrun {g : kc_G} {h : kc_H} {a : Int32} (hg : kc_ok g) (hI : kInv h) : kc_Con g 30 77 [.inr (.inr (.inl (some 259))), .inl a] h kQi := kc_Con_le (kO_ii (kd_h77 hg) (by decide +kernel) hI ⟨⟨259, rfl, by decide, by decide⟩, kO_a a, trivial⟩ (fun q hq => by cases hq)) (by decide)
theorem kO_cside {g : kc_G} {h : kc_H} {a b c : Int32} (hg : kc_ok g) (hI : kInv h) : kc_Con g 30 80 [.inr (.inr (.inl (some 0))), .inl a, .inl b, .inl c] h kQi := kc_Con_le (kO_ii (kd_h80 hg) (by decide +kernel) hI ⟨⟨0, rfl, by decide, by decide⟩, kO_a a, kO_a b, kO_a c, trivial⟩ (fun q hq => by cases hq)) (by decide)
theorem kO_rside {g : kc_G} {h : kc_H} {a b c : Int32} (hg : kc_ok g) (hI : kInv h) : kc_Con g 30 81 [.inr (.inr (.inl (some 259))), .inl a, .inl b, .inl c] h kQi := kc_Con_le (kO_ii (kd_h81 hg) (by decide +kernel) hI ⟨⟨259, rfl, by decide, by decide⟩, kO_a a, kO_a b, kO_a c, trivial⟩ (fun q hq => by cases hq)) (by decide)
theorem kO_cwhere {g : kc_G} {h : kc_H} {a : Int32} (hg : kc_ok g) (hI : kInv h) : kc_Con g 30 83 [.inr (.inr (.inl (some 0))), .inl a] h kQi := kc_Con_le (kO_ii (kd_h83 hg) (by decide +kernel) hI ⟨⟨0, rfl, by decide, by decide⟩, kO_a a, trivial⟩ (fun q hq => by cases hq)) (by decide)
theorem kO_rwhere {g : kc_G} {h : kc_H} {a : Int32} (hg : kc_ok g) (hI : kInv h) : kc_Con g 30 84 [.inr (.inr (.inl (some 259))), .inl a] h kQi := kc_Con_le (kO_ii (kd_h84 hg) (by decide +kernel) hI ⟨⟨259, rfl, by decide, by decide⟩, kO_a a, trivial⟩ (fun q hq => by cases hq)) (by decide)
theorem kO_chalves {g : kc_G} {h : kc_H} {a b : Int32} (hg : kc_ok g) (hI : kInv h) : kc_Con g 30 85 [.inr (.inr (.inl (some 0))), .inl a, .inl b] h kQi := kc_Con_le (kO_ii (kd_h85 hg) (by decide +kernel) hI ⟨⟨0, rfl, by decide, by decide⟩, kO_a a, kO_a b, trivial⟩ (fun q hq => by cases hq)) (by decide)
theorem kO_rhalves {g : kc_G} {h : kc_H} {a b : Int32} (hg : kc_ok g) (hI : kInv h) : kc_Con g 30 87 [.inr (.inr (.inl (some 259))), .inl a, .inl b] h kQi := kc_Con_le (kO_ii (kd_h87 hg) (by decide +kernel) hI ⟨⟨259, rfl, by decide, by decide⟩, kO_a a, kO_a b, trivial⟩ (fun q hq => by cases hq)) (by decide)
theorem kO_cwithin {g : kc_G} {h : kc_H} {a b : Int32} (hg : kc_ok g) (hI : kInv h) : kc_Con g 30 89 [.inr (.inr (.inl (some 0))), .inl a, .inl b] h kQi := kc_Con_le (kO_ii (kd_h89 hg) (by decide +kernel) hI ⟨⟨0, rfl, by decide, by decide⟩, kO_a a, kO_a b, trivial⟩ (fun q hq => by cases hq)) (by decide)
theorem kO_rwithin {g : kc_G} {h : kc_H} {a b : Int32} (hg : kc_ok g) (hI : kInv h) : kc_Con g 30 90 [.inr (.inr (.inl (some 259))), .inl a, .inl b] h kQi := kc_Con_le (kO_ii (kd_h90 hg) (by decide +kernel) hI ⟨⟨259, rfl, by decide, by decide⟩, kO_a a, kO_a b, trivial⟩ (fun q hq => by cases hq)) (by decide)
theorem kO_chang {g : kc_G} {h : kc_H} {a b c : Int32} (hg : kc_ok g) (hI : kInv h) : kc_Con g 30 91 [.inr (.inr (.inl (some 0))), .inl a, .inl b, .inl c] h kQi := kc_Con_le (kO_ii (kd_h91 hg) (by decide +kernel) hI ⟨⟨0, rfl, by decide, by decide⟩, kO_a a, kO_a b, kO_a c, trivial⟩ (fun q hq => by cases hq)) (by decide)
theorem kO_rhang {g : kc_G} {h : kc_H} {a b c : Int32} (hg : kc_ok g) (hI : kInv h) : kc_Con g 30 92 [.inr (.inr (.inl (some 259))), .inl a, .inl b, .inl c] h kQi := kc_Con_le (kO_ii (kd_h92 hg) (by decide +kernel) hI ⟨⟨259, rfl, by decide, by decide⟩, kO_a a, kO_a b, kO_a c, trivial⟩ (fun q hq => by cases hq)) (by decide)
theorem kO_cline {g : kc_G} {h : kc_H} {a : Int32} (hg : kc_ok g) (hI : kInv h) : kc_Con g 30 93 [.inr (.inr (.inl (some 0))), .inl a] h kQi := kc_Con_le (kO_ii (kd_h93 hg) (by decide +kernel) hI ⟨⟨0, rfl, by decide, by decide⟩, kO_a a, trivial⟩ (fun q hq => by cases hq)) (by decide)
theorem kO_cunline {g : kc_G} {h : kc_H} (hg : kc_ok g) (hI : kInv h) : kc_Con g 30 95 [.inr (.inr (.inl (some 0)))] h kQi := kc_Con_le (kO_ii (kd_h95 hg) (by decide +kernel) hI ⟨⟨0, rfl, by decide, by decide⟩, trivial⟩ (fun q hq => by cases hq)) (by decide)
theorem kO_cborne {g : kc_G} {h : kc_H} (hg : kc_ok g) (hI : kInv h) : kc_Con g 30 97 [.inr (.inr (.inl (some 0)))] h kQi := kc_Con_le (kO_ii (kd_h97 hg) (by decide +kernel) hI ⟨⟨0, rfl, by decide, by decide⟩, trivial⟩ (fun q hq => by cases hq)) (by decide)
theorem kO_rborne {g : kc_G} {h : kc_H} (hg : kc_ok g) (hI : kInv h) : kc_Con g 30 103 [.inr (.inr (.inl (some 259)))] h kQi := kc_Con_le (kO_ii (kd_h103 hg) (by decide +kernel) hI ⟨⟨259, rfl, by decide, by decide⟩, trivial⟩ (fun q hq => by cases hq)) (by decide)
theorem kO_cworst {g : kc_G} {h : kc_H} (hg : kc_ok g) (hI : kInv h) : kc_Con g 30 107 [.inr (.inr (.inl (some 0)))] h kQi := kc_Con_le (kO_ii (kd_h107 hg) (by decide +kernel) hI ⟨⟨0, rfl, by decide, by decide⟩, trivial⟩ (fun q hq => by cases hq)) (by decide)
theorem kO_rworst {g : kc_G} {h : kc_H} (hg : kc_ok g) (hI : kInv h) : kc_Con g 30 109 [.inr (.inr (.inl (some 259)))] h kQi := kc_Con_le (kO_ii (kd_h109 hg) (by decide +kernel) hI ⟨⟨259, rfl, by decide, by decide⟩, trivial⟩ (fun q hq => by cases hq)) (by decide)
theorem kO_clonger {g : kc_G} {h : kc_H} (hg : kc_ok g) (hI : kInv h) : kc_Con g 30 111 [.inr (.inr (.inl (some 0)))] h kQi := kc_Con_le (kO_ii (kd_h111 hg) (by decide +kernel) hI ⟨⟨0, rfl, by decide, by decide⟩, trivial⟩ (fun q hq => by cases hq)) (by decide)
theorem kO_rlonger {g : kc_G} {h : kc_H} (hg : kc_ok g) (hI : kInv h) : kc_Con g 30 113 [.inr (.inr (.inl (some 259)))] h kQi := kc_Con_le (kO_ii (kd_h113 hg) (by decide +kernel) hI ⟨⟨259, rfl, by decide, by decide⟩, trivial⟩ (fun q hq => by cases hq)) (by decide)
theorem kO_cstays {g : kc_G} {h : kc_H} {a : Int32} (hg : kc_ok g) (hI : kInv h) : kc_Con g 30 114 [.inr (.inr (.inl (some 0))), .inl a] h kQi := kc_Con_le (kO_ii (kd_h114 hg) (by decide +kernel) hI ⟨⟨0, rfl, by decide, by decide⟩, kO_a a, trivial⟩ (fun q hq => by cases hq)) (by decide)
theorem kO_rstays {g : kc_G} {h : kc_H} {a : Int32} (hg : kc_ok g) (hI : kInv h) : kc_Con g 30 120 [.inr (.inr (.inl (some 259))), .inl a] h kQi := kc_Con_le (kO_ii (kd_h120 hg) (by decide +kernel) hI ⟨⟨259, rfl, by decide, by decide⟩, kO_a a, trivial⟩ (fun q hq => by cases hq)) (by decide)
theorem kO_cbest {g : kc_G} {h : kc_H} {a : Int32} (hg : kc_ok g) (hI : kInv h) : kc_Con g 30 125 [.inr (.inr (.inl (some 0))), .inl a] h kQi := kc_Con_le (kO_ii (kd_h125 hg) (by decide +kernel) hI ⟨⟨0, rfl, by decide, by decide⟩, kO_a a, trivial⟩ (fun q hq => by cases hq)) (by decide)
theorem kO_rbest {g : kc_G} {h : kc_H} {a : Int32} (hg : kc_ok g) (hI : kInv h) : kc_Con g 30 129 [.inr (.inr (.inl (some 259))), .inl a] h kQi := kc_Con_le (kO_ii (kd_h129 hg) (by decide +kernel) hI ⟨⟨259, rfl, by decide, by decide⟩, kO_a a, trivial⟩ (fun q hq => by cases hq)) (by decide)
theorem kO_cliftings {g : kc_G} {h : kc_H} (hg : kc_ok g) (hI : kInv h) : kc_Con g 30 134 [.inr (.inr (.inl (some 0)))] h kQi := kc_Con_le (kO_ii (kd_h134 hg) (by decide +kernel) hI ⟨⟨0, rfl, by decide, by decide⟩, trivial⟩ (fun q hq => by cases hq)) (by decide)
theorem kO_rliftings {g : kc_G} {h : kc_H} (hg : kc_ok g) (hI : kInv h) : kc_Con g 30 136 [.inr (.inr (.inl (some 259)))] h kQi := kc_Con_le (kO_ii (kd_h136 hg) (by decide +kernel) hI ⟨⟨259, rfl, by decide, by decide⟩, trivial⟩ (fun q hq => by cases hq)) (by decide)
theorem kO_cfewest {g : kc_G} {h : kc_H} (hg : kc_ok g) (hI : kInv h) : kc_Con g 30 137 [.inr (.inr (.inl (some 0)))] h kQi := kc_Con_le (kO_ii (kd_h137 hg) (by decide +kernel) hI ⟨⟨0, rfl, by decide, by decide⟩, trivial⟩ (fun q hq => by cases hq)) (by decide)
theorem kO_rfewest {g : kc_G} {h : kc_H} (hg : kc_ok g) (hI : kInv h) : kc_Con g 30 138 [.inr (.inr (.inl (some 259)))] h kQi := kc_Con_le (kO_ii (kd_h138 hg) (by decide +kernel) hI ⟨⟨259, rfl, by decide, by decide⟩, trivial⟩ (fun q hq => by cases hq)) (by decide)
theorem kO_cchance {g : kc_G} {h : kc_H} (hg : kc_ok g) (hI : kInv h) : kc_Con g 30 139 [.inr (.inr (.inl (some 0)))] h kQi := kc_Con_le (kO_ii (kd_h139 hg) (by decide +kernel) hI ⟨⟨0, rfl, by decide, by decide⟩, trivial⟩ (fun q hq => by cases hq)) (by decide)
theorem kO_rchance {g : kc_G} {h : kc_H} (hg : kc_ok g) (hI : kInv h) : kc_Con g 30 145 [.inr (.inr (.inl (some 259)))] h kQi := kc_Con_le (kO_ii (kd_h145 hg) (by decide +kernel) hI ⟨⟨259, rfl, by decide, by decide⟩, trivial⟩ (fun q hq => by cases hq)) (by decide)
theorem kO_ckeep {g : kc_G} {h : kc_H} {a : Int32} (hg : kc_ok g) (hI : kInv h) : kc_Con g 30 151 [.inr (.inr (.inl (some 0))), .inl a] h kQi := kc_Con_le (kO_ii (kd_h151 hg) (by decide +kernel) hI ⟨⟨0, rfl, by decide, by decide⟩, kO_a a, trivial⟩ (fun q hq => by cases hq)) (by decide)
theorem kO_rkeep {g : kc_G} {h : kc_H} {a : Int32} (hg : kc_ok g) (hI : kInv h) : kc_Con g 30 152 [.inr (.inr (.inl (some 259))), .inl a] h kQi := kc_Con_le (kO_ii (kd_h152 hg) (by decide +kernel) hI ⟨⟨259, rfl, by decide, by decide⟩, kO_a a, trivial⟩ (fun q hq => by cases hq)) (by decide)
theorem kO_calone {g : kc_G} {h : kc_H} {a b c : Int32} (hg : kc_ok g) (hI : kInv h) : kc_Con g 30 153 [.inr (.inr (.inl (some 0))), .inl a, .inl b, .inl c] h kQi := kc_Con_le (kO_ii (kd_h153 hg) (by decide +kernel) hI ⟨⟨0, rfl, by decide, by decide⟩, kO_a a, kO_a b, kO_a c, trivial⟩ (fun q hq => by cases hq)) (by decide)
theorem kO_ralone {g : kc_G} {h : kc_H} {a b c : Int32} (hg : kc_ok g) (hI : kInv h) : kc_Con g 30 154 [.inr (.inr (.inl (some 259))), .inl a, .inl b, .inl c] h kQi := kc_Con_le (kO_ii (kd_h154 hg) (by decide +kernel) hI ⟨⟨259, rfl, by decide, by decide⟩, kO_a a, kO_a b, kO_a c, trivial⟩ (fun q hq => by cases hq)) (by decide)
theorem kO_cpart {g : kc_G} {h : kc_H} {a : Int32} (hg : kc_ok g) (hI : kInv h) : kc_Con g 30 155 [.inr (.inr (.inl (some 0))), .inl a] h kQj := kc_Con_le (kO_jj (kd_h155 hg) (by decide +kernel) hI ⟨⟨0, rfl, by decide, by decide⟩, kO_a a, trivial⟩ (fun q hq => by cases hq)) (by decide)
theorem kO_rpart {g : kc_G} {h : kc_H} {a : Int32} (hg : kc_ok g) (hI : kInv h) : kc_Con g 30 156 [.inr (.inr (.inl (some 259))), .inl a] h kQj := kc_Con_le (kO_jj (kd_h156 hg) (by decide +kernel) hI ⟨⟨259, rfl, by decide, by decide⟩, kO_a a, trivial⟩ (fun q hq => by cases hq)) (by decide)
theorem kO_ccount {g : kc_G} {h : kc_H} {a : Int32} (hg : kc_ok g) (hI : kInv h) : kc_Con g 30 161 [.inr (.inr (.inl (some 0))), .inl a] h kQi := kc_Con_le (kO_ii (kd_h161 hg) (by decide +kernel) hI ⟨⟨0, rfl, by decide, by decide⟩, kO_a a, trivial⟩ (fun q hq => by cases hq)) (by decide)
theorem kO_rcount {g : kc_G} {h : kc_H} {a : Int32} (hg : kc_ok g) (hI : kInv h) : kc_Con g 30 163 [.inr (.inr (.inl (some 259))), .inl a] h kQi := kc_Con_le (kO_ii (kd_h163 hg) (by decide +kernel) hI ⟨⟨259, rfl, by decide, by decide⟩, kO_a a, trivial⟩ (fun q hq => by cases hq)) (by decide)
theorem kO_cdigest {g : kc_G} {h : kc_H} (hg : kc_ok g) (hI : kInv h) : kc_Con g 30 165 [.inr (.inr (.inl (some 0)))] h kQj := kc_Con_le (kO_jj (kd_h165 hg) (by decide +kernel) hI ⟨⟨0, rfl, by decide, by decide⟩, trivial⟩ (fun q hq => by cases hq)) (by decide)
theorem kO_rdigest {g : kc_G} {h : kc_H} (hg : kc_ok g) (hI : kInv h) : kc_Con g 30 170 [.inr (.inr (.inl (some 259)))] h kQj := kc_Con_le (kO_jj (kd_h170 hg) (by decide +kernel) hI ⟨⟨259, rfl, by decide, by decide⟩, trivial⟩ (fun q hq => by cases hq)) (by decide)
end
section
-- 99.zmkm00
/-! ===== contracts, zmkm 0 ===== -/
def kd_P96k : List kd_P := [(some (0, 2147483648, 2147483653), [(260, 3, (0, 2147483648, 2147483648))], [(260, 260, 3, 3)])]
def kd_T96k : kd_Tc := ([(3, 259, 259)], [], kd_P96k)
def kd_C96k : List (Nat × kd_Tc) := []
def kd_S96k : List kd_St := []
theorem kd_e96k : kd_run0 kd_ty kd_x96 1 (kd_call kd_ty kd_xt (kd_ctl kd_C96k) 600 1) kd_T96k 600 kd_S96k = true := by decide +kernel
theorem kd_h96k {g : kc_G} (hg : kc_ok g) : kd_hold g 2 kd_ty 96 kd_T96k := kd_mk (d0 := 0) (di := 1) hg kd_xk96 rfl rfl rfl rfl (kd_al_r kd_C96k trivial) (by decide) (by decide +kernel) kd_e96k (kd_al_r kd_S96k trivial)
end
section
-- 99.zmqm00
/-! ===== contracts, zmqm 0 ===== -/
def kd_P56ml : List kd_P := [(some (0, 2147483646, 2147483646), [], [])]
def kd_T56ml : kd_Tc := ([(3, 259, 259), (0, 2147483649, 2147483649), (2, 0, 18446744073709551615), (0, 0, 2147483648)], [], kd_P56ml)
def kd_C56ml : List (Nat × kd_Tc) := []
def kd_S56ml : List kd_St := []
theorem kd_e56ml : kd_run0 kd_ty kd_x56 6 (kd_call kd_ty kd_xt (kd_ctl kd_C56ml) 600 2) kd_T56ml 600 kd_S56ml = true := by decide +kernel
theorem kd_h56ml {g : kc_G} (hg : kc_ok g) : kd_hold g 3 kd_ty 56 kd_T56ml := kd_mk (d0 := 0) (di := 2) hg kd_xk56 rfl rfl rfl rfl (kd_al_r kd_C56ml trivial) (by decide) (by decide +kernel) kd_e56ml (kd_al_r kd_S56ml trivial)
def kd_P56mh : List kd_P := [(some (0, 2147483646, 2147483646), [], [])]
def kd_T56mh : kd_Tc := ([(3, 259, 259), (0, 2147483649, 2147483649), (2, 0, 18446744073709551615), (0, 2147483657, 4294967295)], [], kd_P56mh)
def kd_C56mh : List (Nat × kd_Tc) := []
def kd_S56mh : List kd_St := []
theorem kd_e56mh : kd_run0 kd_ty kd_x56 6 (kd_call kd_ty kd_xt (kd_ctl kd_C56mh) 600 2) kd_T56mh 600 kd_S56mh = true := by decide +kernel
theorem kd_h56mh {g : kc_G} (hg : kc_ok g) : kd_hold g 3 kd_ty 56 kd_T56mh := kd_mk (d0 := 0) (di := 2) hg kd_xk56 rfl rfl rfl rfl (kd_al_r kd_C56mh trivial) (by decide) (by decide +kernel) kd_e56mh (kd_al_r kd_S56mh trivial)
end
section
-- 99.zmrc00
/-! ===== contracts, zmrc 0 ===== -/
def kd_P55ml : List kd_P := [(some (0, 2147483646, 2147483646), [], [])]
def kd_T55ml : kd_Tc := ([(3, 1, 1), (0, 2147483649, 2147483649), (2, 0, 18446744073709551615), (0, 0, 2147483648)], [], kd_P55ml)
def kd_C55ml : List (Nat × kd_Tc) := []
def kd_S55ml : List kd_St := []
theorem kd_e55ml : kd_run0 kd_ty kd_x55 6 (kd_call kd_ty kd_xt (kd_ctl kd_C55ml) 600 1) kd_T55ml 600 kd_S55ml = true := by decide +kernel
theorem kd_h55ml {g : kc_G} (hg : kc_ok g) : kd_hold g 2 kd_ty 55 kd_T55ml := kd_mk (d0 := 0) (di := 1) hg kd_xk55 rfl rfl rfl rfl (kd_al_r kd_C55ml trivial) (by decide) (by decide +kernel) kd_e55ml (kd_al_r kd_S55ml trivial)
def kd_P54ml : List kd_P := [(some (0, 2147483646, 2147483646), [], [])]
def kd_T54ml : kd_Tc := ([(3, 0, 0), (0, 2147483649, 2147483649), (2, 0, 18446744073709551615), (0, 0, 2147483648)], [], kd_P54ml)
def kd_C54ml : List (Nat × kd_Tc) := [(55, kd_T55ml)]
def kd_S54ml : List kd_St := []
theorem kd_e54ml : kd_run0 kd_ty kd_x54 5 (kd_call kd_ty kd_xt (kd_ctl kd_C54ml) 600 0) kd_T54ml 600 kd_S54ml = true := by decide +kernel
theorem kd_h54ml {g : kc_G} (hg : kc_ok g) : kd_hold g 3 kd_ty 54 kd_T54ml := kd_mk (d0 := 2) (di := 0) hg kd_xk54 rfl rfl rfl rfl (kd_al_r kd_C54ml ⟨kd_hold_le (kd_h55ml hg) (by decide), trivial⟩) (by decide) (by decide +kernel) kd_e54ml (kd_al_r kd_S54ml trivial)
def kd_P55mh : List kd_P := [(some (0, 2147483646, 2147483646), [], [])]
def kd_T55mh : kd_Tc := ([(3, 1, 1), (0, 2147483649, 2147483649), (2, 0, 18446744073709551615), (0, 2147483657, 4294967295)], [], kd_P55mh)
def kd_C55mh : List (Nat × kd_Tc) := []
def kd_S55mh : List kd_St := []
theorem kd_e55mh : kd_run0 kd_ty kd_x55 6 (kd_call kd_ty kd_xt (kd_ctl kd_C55mh) 600 1) kd_T55mh 600 kd_S55mh = true := by decide +kernel
theorem kd_h55mh {g : kc_G} (hg : kc_ok g) : kd_hold g 2 kd_ty 55 kd_T55mh := kd_mk (d0 := 0) (di := 1) hg kd_xk55 rfl rfl rfl rfl (kd_al_r kd_C55mh trivial) (by decide) (by decide +kernel) kd_e55mh (kd_al_r kd_S55mh trivial)
def kd_P54mh : List kd_P := [(some (0, 2147483646, 2147483646), [], [])]
def kd_T54mh : kd_Tc := ([(3, 0, 0), (0, 2147483649, 2147483649), (2, 0, 18446744073709551615), (0, 2147483657, 4294967295)], [], kd_P54mh)
def kd_C54mh : List (Nat × kd_Tc) := [(55, kd_T55mh)]
def kd_S54mh : List kd_St := []
theorem kd_e54mh : kd_run0 kd_ty kd_x54 5 (kd_call kd_ty kd_xt (kd_ctl kd_C54mh) 600 0) kd_T54mh 600 kd_S54mh = true := by decide +kernel
theorem kd_h54mh {g : kc_G} (hg : kc_ok g) : kd_hold g 3 kd_ty 54 kd_T54mh := kd_mk (d0 := 2) (di := 0) hg kd_xk54 rfl rfl rfl rfl (kd_al_r kd_C54mh ⟨kd_hold_le (kd_h55mh hg) (by decide), trivial⟩) (by decide) (by decide +kernel) kd_e54mh (kd_al_r kd_S54mh trivial)
end
section
-- 99.zn
/-! ===== calls that change what is alike, the same on both sides: door, mule, load, clear, line, unline ===== -/
theorem ku_C {h : kc_H} (hw : kd_wt kd_ty h) : ∃ D M L, kv_C h D M L := by
  obtain ⟨D, d1, d2⟩ := kx_ofg (by omega) (hw _ _ _ kt_k1.2.2.1)
  obtain ⟨M, m1, m2⟩ := kx_ofg (by omega) (hw _ _ _ kt_k1.2.2.2.1)
  obtain ⟨L, l1, l2⟩ := kx_ofg (by omega) (hw _ _ _ kt_k1.2.2.2.2.1)
  exact ⟨D, M, L, d1, m1, l1, d2, m2, l2⟩
def ku_s (h h2 : kc_H) (i0 : Nat) : Prop := ∀ c i, (c = 1 ∧ i < 3 ∧ ¬ i = i0) ∨ c = 29 ∨ c = 31 ∨ (63 ≤ c ∧ c ≤ 126) ∨ (c = 260 ∧ ((i < 4 ∧ ¬ i = i0) ∨ 150 ≤ i)) ∨ c = 261 ∨ c = 262 → h2 c i = h c i
theorem ku_cnt {h h2 : kc_H} {i0 : Nat} (hI : kInv h) (hw : kd_wt kd_ty h2) (h3 : i0 < 3) (hs : ku_s h h2 i0) (e : h2 1 i0 = h2 260 i0) : kInv h2 := by
  obtain ⟨-, ⟨⟨r0, r1, r2, r3, r4⟩, -, -, -⟩, hL, -, -⟩ := id hI
  have hc : ∀ i, i < 3 → h2 1 i = h2 260 (0 + i) := fun i hi => by
    rw [Nat.zero_add]
    by_cases q : i = i0
    · rw [q]; exact e
    · rw [hs 1 i (by omega), hs 260 i (by omega)]
      rcases (show i = 0 ∨ i = 1 ∨ i = 2 by omega) with rfl | rfl | rfl
      · exact r0
      · exact r1
      · exact r2
  refine kInv_now hI hw (fun c i a b => hs c i (by omega)) (fun c i a => hs c i (by omega)) ⟨hc 0 (by decide), hc 1 (by decide), hc 2 (by decide), ?_, fun j hj => ?_⟩ (kI_eq (hs _ _ (by omega)) (fun i hi => hs _ _ (by omega)) hL)
  · rw [hs 31 0 (by omega), hs 260 (0 + 160) (by omega)]; exact r3
  · rw [hs 29 j (by omega), hs 260 (0 + 170 + j) (by omega)]; exact r4 j hj
theorem ku_R {h h1 : kc_H} {D M L : Nat} (hI : kInv h) (hC : kv_C h D M L) (e : ∀ i, i < 3 → h1 260 i = h 260 i) : kv_R h1 D M L := by
  obtain ⟨-, ⟨⟨r0, r1, r2, -, -⟩, -, -, -⟩, -, -, -⟩ := hI
  obtain ⟨a, b, c, eD, eM, eL⟩ := hC
  exact ⟨a, b, c, (e 0 (by decide)).trans (r0.symm.trans eD), (e 1 (by decide)).trans (r1.symm.trans eM), (e 2 (by decide)).trans (r2.symm.trans eL)⟩
theorem ku_door {g : kc_G} {h : kc_H} (hg : kc_ok g) (hI : kInv h) : kc_Con g 30 13 [.inr (.inr (.inl (some 0)))] h (fun rv h1 => ∃ z : Int32, rv = some (.inl z) ∧ kc_Con g 30 15 [.inr (.inr (.inl (some 259)))] h1 (fun rv2 h2 => rv2 = some (.inl z) ∧ kInv h2)) := by
  obtain ⟨D, M, L, hC⟩ := ku_C hI.1
  refine kc_Con_mono (kc_Con_le (kv_tdoor hg hI.1 hC) (by decide)) (fun rv h1 hq => ?_)
  obtain ⟨z, rfl, hw1, fr1, hq⟩ := hq
  have hR1 := ku_R (h1 := h1) hI hC (fun i hi => fr1 260 i (fun q hm => by simp only [List.mem_cons, List.not_mem_nil, or_false] at hm; rcases hm with rfl <;> exact kb_inr (by (try dsimp only); omega)))
  refine ⟨z, rfl, kc_Con_mono (kc_Con_le (kv_rdoor hg hw1 hR1) (by decide)) (fun rv h2 hq2 => ?_)⟩
  obtain ⟨z2, rfl, hw2, fr2, hq2⟩ := hq2
  have hs : ku_s h h2 0 := by
    intro c i hq
    rw [fr2 c i (fun q hm => by
      simp only [List.mem_cons, List.not_mem_nil, or_false] at hm
      rcases hm with rfl <;> exact kb_inr (by (try dsimp only); omega))]
    exact fr1 c i (fun q hm => by
      simp only [List.mem_cons, List.not_mem_nil, or_false] at hm
      rcases hm with rfl <;> exact kb_inr (by (try dsimp only); omega))
  rcases hq with ⟨k, ez, e1⟩ | ⟨k, ez, e1⟩
  · rcases hq2 with ⟨k2, ez2, e2⟩ | ⟨k2, ez2, e2⟩
    · refine ⟨by rw [ez, ez2], ku_cnt hI hw2 (i0 := 0) (by decide) hs ?_⟩
      rw [fr2 1 0 (fun q hm => by simp only [List.mem_cons, List.not_mem_nil, or_false] at hm; rcases hm with rfl <;> exact kb_inr (by (try dsimp only); omega)), e1, e2]
    · exact absurd k k2
  · rcases hq2 with ⟨k2, ez2, e2⟩ | ⟨k2, ez2, e2⟩
    · exact absurd k2 k
    · refine ⟨by rw [ez, ez2], ?_⟩
      rw [e2, e1]
      exact hI
theorem ku_mule {g : kc_G} {h : kc_H} {a b c : Int32} (hg : kc_ok g) (hI : kInv h) : kc_Con g 30 32 [.inr (.inr (.inl (some 0))), .inl a, .inl b, .inl c] h (fun rv h1 => (∃ z : Int32, rv = some (.inl z)) ∧ kc_Con g 30 34 [.inr (.inr (.inl (some 259))), .inl a, .inl b, .inl c] h1 kQi) := by
  obtain ⟨D, M, L, hC⟩ := ku_C hI.1
  refine kc_Con_mono (kc_Con_le (kv_tmule hg hI.1 hC) (by decide)) (fun rv h1 hq => ?_)
  obtain ⟨z, rfl, hw1, fr1, hq⟩ := hq
  have hR1 := ku_R (h1 := h1) hI hC (fun i hi => fr1 260 i (fun q hm => by simp only [List.mem_cons, List.not_mem_nil, or_false] at hm; rcases hm with rfl | rfl <;> exact kb_inr (by (try dsimp only); omega)))
  refine ⟨⟨z, rfl⟩, kc_Con_mono (kc_Con_le (kv_rmule hg hw1 hR1) (by decide)) (fun rv h2 hq2 => ?_)⟩
  obtain ⟨z2, rfl, hw2, fr2, hq2⟩ := hq2
  refine ⟨⟨z2, rfl⟩, ?_⟩
  have hs : ku_s h h2 1 := by
    intro c i hq
    rw [fr2 c i (fun q hm => by
      simp only [List.mem_cons, List.not_mem_nil, or_false] at hm
      rcases hm with rfl | rfl <;> exact kb_inr (by (try dsimp only); omega))]
    exact fr1 c i (fun q hm => by
      simp only [List.mem_cons, List.not_mem_nil, or_false] at hm
      rcases hm with rfl | rfl <;> exact kb_inr (by (try dsimp only); omega))
  rcases hq with ⟨k, -, e1⟩ | ⟨k, -, e1⟩
  · rcases hq2 with ⟨k2, -, e2⟩ | ⟨k2, -, e2⟩
    · refine ku_cnt hI hw2 (i0 := 1) (by decide) hs ?_
      rw [fr2 1 1 (fun q hm => by simp only [List.mem_cons, List.not_mem_nil, or_false] at hm; rcases hm with rfl | rfl <;> exact kb_inr (by (try dsimp only); omega)), e1, e2]
    · exact absurd k k2
  · rcases hq2 with ⟨k2, -, e2⟩ | ⟨k2, -, e2⟩
    · exact absurd k2 k
    · rw [e2, e1]
      exact hI
theorem ku_load {g : kc_G} {h : kc_H} {a b c e : Int32} (hg : kc_ok g) (hI : kInv h) : kc_Con g 30 41 [.inr (.inr (.inl (some 0))), .inl a, .inl b, .inl c, .inl e] h (fun rv h1 => (∃ z : Int32, rv = some (.inl z)) ∧ kc_Con g 30 43 [.inr (.inr (.inl (some 259))), .inl a, .inl b, .inl c, .inl e] h1 kQi) := by
  obtain ⟨D, M, L, hC⟩ := ku_C hI.1
  refine kc_Con_mono (kc_Con_le (kv_tload hg hI.1 hC) (by decide)) (fun rv h1 hq => ?_)
  obtain ⟨z, rfl, hw1, fr1, hq⟩ := hq
  have hR1 := ku_R (h1 := h1) hI hC (fun i hi => fr1 260 i (fun q hm => by simp only [List.mem_cons, List.not_mem_nil, or_false] at hm; rcases hm with rfl | rfl <;> exact kb_inr (by (try dsimp only); omega)))
  refine ⟨⟨z, rfl⟩, kc_Con_mono (kc_Con_le (kv_rload hg hw1 hR1) (by decide)) (fun rv h2 hq2 => ?_)⟩
  obtain ⟨z2, rfl, hw2, fr2, hq2⟩ := hq2
  refine ⟨⟨z2, rfl⟩, ?_⟩
  have hs : ku_s h h2 2 := by
    intro c i hq
    rw [fr2 c i (fun q hm => by
      simp only [List.mem_cons, List.not_mem_nil, or_false] at hm
      rcases hm with rfl | rfl <;> exact kb_inr (by (try dsimp only); omega))]
    exact fr1 c i (fun q hm => by
      simp only [List.mem_cons, List.not_mem_nil, or_false] at hm
      rcases hm with rfl | rfl <;> exact kb_inr (by (try dsimp only); omega))
  rcases hq with ⟨k, -, e1⟩ | ⟨k, -, e1⟩
  · rcases hq2 with ⟨k2, -, e2⟩ | ⟨k2, -, e2⟩
    · refine ku_cnt hI hw2 (i0 := 2) (by decide) hs ?_
      rw [fr2 1 2 (fun q hm => by simp only [List.mem_cons, List.not_mem_nil, or_false] at hm; rcases hm with rfl | rfl <;> exact kb_inr (by (try dsimp only); omega)), e1, e2]
    · exact absurd k k2
  · rcases hq2 with ⟨k2, -, e2⟩ | ⟨k2, -, e2⟩
    · exact absurd k2 k
    · rw [e2, e1]
      exact hI
theorem ku_clear {g : kc_G} {h : kc_H} {a : Int32} (hg : kc_ok g) (hI : kInv h) : kc_Con g 30 58 [.inr (.inr (.inl (some 0))), .inl a] h (fun rv h1 => (∃ z : Int32, rv = some (.inl z)) ∧ kc_Con g 30 59 [.inr (.inr (.inl (some 259))), .inl a] h1 kQi) := by
  have lo := kv_lo a
  have hi := kv_hi a
  rcases (show a.toInt = 0 ∨ a.toInt = 1 ∨ a.toInt < 0 ∨ 1 < a.toInt by omega) with k | k | k | k
  · refine kc_Con_mono (kc_Con_le (kd_h58t0 hg _ h hI.1 ⟨⟨0, rfl, by decide, by decide⟩, kv_gi (by omega) (by omega), trivial⟩ (fun q hq => by cases hq)) (by decide)) (fun rv h1 hq => ?_)
    obtain ⟨p, p1, p2, p3, hw1, fr1⟩ := hq
    obtain rfl := List.mem_singleton.mp p1
    have e1 := kx_ofs (k := 0) (by decide) (p3 (31, 0, _) List.mem_cons_self)
    refine ⟨?_, ?_⟩
    · cases rv with
      | none => exact p2.elim
      | some y => obtain ⟨z, rfl, -, -⟩ := p2; exact ⟨z, rfl⟩
    refine kc_Con_mono (kc_Con_le (kd_h59t0 hg _ h1 hw1 ⟨⟨259, rfl, by decide, by decide⟩, kv_gi (by omega) (by omega), trivial⟩ (fun q hq => by cases hq)) (by decide)) (fun rv h2 hq => ?_)
    obtain ⟨p, p1, p2, p3, hw2, fr2⟩ := hq
    obtain rfl := List.mem_singleton.mp p1
    have e2 := kx_ofs (k := 0) (by decide) (p3 (260, 160, _) List.mem_cons_self)
    refine ⟨?_, ?_⟩
    · cases rv with
      | none => exact p2.elim
      | some y => obtain ⟨z, rfl, -, -⟩ := p2; exact ⟨z, rfl⟩
    have hs : ∀ c i, ¬ (c = 31 ∧ i = 0) → ¬ (c = 260 ∧ i = 160) → h2 c i = h c i := fun c i n1 n2 => by
      rw [fr2 c i (fun q hm => by obtain rfl := List.mem_singleton.mp hm; exact kb_inr (by (try dsimp only); omega))]
      exact fr1 c i (fun q hm => by obtain rfl := List.mem_singleton.mp hm; exact kb_inr (by (try dsimp only); omega))
    obtain ⟨-, ⟨⟨r0, r1, r2, r3, r4⟩, -, -, -⟩, hL, -, -⟩ := id hI
    refine kInv_now hI hw2 (fun c i a b => hs c i (by omega) (by omega)) (fun c i a => hs c i (by omega) (by omega)) ⟨?_, ?_, ?_, ?_, fun j hj => ?_⟩ (kI_eq (hs _ _ (by omega) (by omega)) (fun i hi => hs _ _ (by omega) (by omega)) hL)
    · rw [hs 1 0 (by omega) (by omega), hs 260 0 (by omega) (by omega)]; exact r0
    · rw [hs 1 1 (by omega) (by omega), hs 260 (0 + 1) (by omega) (by omega)]; exact r1
    · rw [hs 1 2 (by omega) (by omega), hs 260 (0 + 2) (by omega) (by omega)]; exact r2
    · rw [fr2 31 0 (fun q hm => by obtain rfl := List.mem_singleton.mp hm; exact kb_inr (by (try dsimp only); omega)), e1]
      exact e2.symm
    · rw [hs 29 j (by omega) (by omega), hs 260 (0 + 170 + j) (by omega) (by omega)]; exact r4 j hj
  · refine kc_Con_mono (kc_Con_le (kO_ii (kd_h58t1 hg) (by decide +kernel) hI ⟨⟨0, rfl, by decide, by decide⟩, kv_gi (by omega) (by omega), trivial⟩ (fun q hq => by cases hq)) (by decide)) (fun rv h1 hq => ⟨hq.1, ?_⟩)
    exact kc_Con_le (kO_ii (kd_h59t1 hg) (by decide +kernel) hq.2 ⟨⟨259, rfl, by decide, by decide⟩, kv_gi (by omega) (by omega), trivial⟩ (fun q hq => by cases hq)) (by decide)
  · refine kc_Con_mono (kc_Con_le (kO_ii (kd_h58tl hg) (by decide +kernel) hI ⟨⟨0, rfl, by decide, by decide⟩, kv_gi (by omega) (by omega), trivial⟩ (fun q hq => by cases hq)) (by decide)) (fun rv h1 hq => ⟨hq.1, ?_⟩)
    exact kc_Con_le (kO_ii (kd_h59tl hg) (by decide +kernel) hq.2 ⟨⟨259, rfl, by decide, by decide⟩, kv_gi (by omega) (by omega), trivial⟩ (fun q hq => by cases hq)) (by decide)
  · refine kc_Con_mono (kc_Con_le (kO_ii (kd_h58th hg) (by decide +kernel) hI ⟨⟨0, rfl, by decide, by decide⟩, kv_gi (by omega) (by omega), trivial⟩ (fun q hq => by cases hq)) (by decide)) (fun rv h1 hq => ⟨hq.1, ?_⟩)
    exact kc_Con_le (kO_ii (kd_h59th hg) (by decide +kernel) hq.2 ⟨⟨259, rfl, by decide, by decide⟩, kv_gi (by omega) (by omega), trivial⟩ (fun q hq => by cases hq)) (by decide)
theorem kO_runline {g : kc_G} {h : kc_H} (hg : kc_ok g) (hI : kInv h) : kc_Con g 30 96 [.inr (.inr (.inl (some 259)))] h kQi := by
  refine kc_Con_mono (kc_Con_le (kd_h96k hg _ h hI.1 ⟨⟨259, rfl, by decide, by decide⟩, trivial⟩ (fun q hq => by cases hq)) (by decide)) (fun rv h2 hq => ?_)
  obtain ⟨p, p1, p2, p3, hw2, fr2⟩ := hq
  obtain rfl := List.mem_singleton.mp p1
  have e2 := kx_ofs (k := 0) (by decide) (p3 (260, 3, _) List.mem_cons_self)
  refine ⟨?_, ?_⟩
  · cases rv with
    | none => exact p2.elim
    | some y => obtain ⟨z, rfl, -, -⟩ := p2; exact ⟨z, rfl⟩
  have hs : ∀ c i, ¬ (c = 260 ∧ i = 3) → h2 c i = h c i := fun c i n1 => fr2 c i (fun q hm => by obtain rfl := List.mem_singleton.mp hm; exact kb_inr (by (try dsimp only); omega))
  obtain ⟨-, ⟨r, -, -, -⟩, hL, -, -⟩ := id hI
  exact kInv_now hI hw2 (fun c i a b => hs c i (by omega)) (fun c i a => hs c i (by omega)) (kR1_eq (fun i hi => hs _ _ (by omega)) (fun i hi => hs _ _ (by omega)) (hs _ _ (by omega)) (hs _ _ (by omega)) (fun j hj => hs _ _ (by omega)) (fun j hj => hs _ _ (by omega)) r) ⟨0, fun _ => 0, by decide, e2, fun i hi => absurd hi (by omega), fun i j _ hj => absurd hj (by omega)⟩
theorem ku_k260 : kd_rn (kd_ty 260) 0 = some (0, 2147483648, 2147483648 + 5) := by decide +kernel
theorem ku_w2 {h : kc_H} {n dd : Nat} (hw : kd_wt kd_ty h) (hn : n < 5) (hdd : dd ≤ 5) : kd_wt kd_ty (kc_upd (kc_upd h 260 (150 + n) (.inl (Int32.ofNat dd))) 260 3 (.inl (Int32.ofNat (n + 1)))) := by
  intro c i v hv
  unfold kc_upd
  split
  · rename_i e
    obtain ⟨rfl, rfl⟩ := e
    rw [kb_k6] at hv
    cases hv
    exact kx_gof (by omega) (by omega)
  · split
    · rename_i e
      obtain ⟨rfl, rfl⟩ := e
      rw [(kb_k5 n hn).1] at hv
      cases hv
      exact kx_gof (by omega) hdd
    · exact hw c i v hv
theorem kO_rline {g : kc_G} {h : kc_H} {a : Int32} (hg : kc_ok g) (hI : kInv h) : kc_Con g 30 94 [.inr (.inr (.inl (some 259))), .inl a] h kQi := by
  have lo := kv_lo a
  have hi := kv_hi a
  rcases (show (1 ≤ a.toInt ∧ a.toInt ≤ 5) ∨ a.toInt < 1 ∨ 5 < a.toInt by omega) with k | k | k
  · obtain ⟨dd, hdd, rfl⟩ : ∃ dd : Nat, (1 ≤ dd ∧ dd ≤ 5) ∧ a = Int32.ofNat dd := ⟨a.toInt.toNat, by omega, Int32.toInt_inj.mp (by rw [kx_ti (by omega)]; omega)⟩
    obtain ⟨D, hD5, hD⟩ := kx_ofg (by omega) (hI.1 _ _ _ ku_k260)
    obtain ⟨-, ⟨r, -, -, -⟩, ⟨n, l, n5, en, el, hd⟩, -, -⟩ := id hI
    rw [Nat.zero_add] at en
    have hex : ∀ i, ∃ v, i < 5 → v ≤ 5 ∧ h 260 (150 + i) = .inl (Int32.ofNat v) ∧ (i < n → v = l i) := fun i => by
      by_cases h5 : i < 5
      · by_cases hin : i < n
        · refine ⟨l i, fun _ => ⟨(el i hin).2.1, ?_, fun _ => rfl⟩⟩
          have := (el i hin).2.2
          rw [Nat.zero_add] at this
          exact this
        · obtain ⟨v, v1, v2⟩ := kx_ofg (by omega) (hI.1 _ _ _ (kb_k5 i h5).1)
          exact ⟨v, fun _ => ⟨v1, v2, fun q => absurd q hin⟩⟩
      · exact ⟨0, fun q => absurd q h5⟩
    obtain ⟨m, hm⟩ := Classical.axiomOfChoice hex
    have key := kl_line (d := 0) (h := h) (D := D) (n := n) (dd := dd) (l := m) hg n5 hdd hD hD5 en (fun i hi => (hm i hi).2.1) (fun i hi => (hm i hi).1) (fun i hi => by rw [(hm i (by omega)).2.2 hi]; exact (el i hi).1) (fun i j hij hj => by rw [(hm i (by omega)).2.2 (by omega), (hm j (by omega)).2.2 hj]; exact hd i j hij hj)
    rw [kz_wid hI.1] at key
    refine kc_Con_mono (kc_Con_le key (by decide)) (fun rv h2 hq => ?_)
    rcases hq with ⟨r2, rfl, -, rfl⟩ | ⟨rfl, -, hnot, n4, rfl⟩
    · exact ⟨⟨_, rfl⟩, hI⟩
    · refine ⟨⟨_, rfl⟩, ?_⟩
      have hs : ∀ c i, ¬ (c = 260 ∧ i = 3) → ¬ (c = 260 ∧ i = 150 + n) → (kc_upd (kc_upd h 260 (150 + n) (.inl (Int32.ofNat dd))) 260 3 (.inl (Int32.ofNat (n + 1)))) c i = h c i := fun c i n1 n2 => by
        unfold kc_upd
        rw [if_neg n1, if_neg n2]
      refine kInv_now hI (ku_w2 hI.1 n4 hdd.2) (fun c i a b => hs c i (by omega) (by omega)) (fun c i a => hs c i (by omega) (by omega)) (kR1_eq (fun i hi => hs _ _ (by omega) (by omega)) (fun i hi => hs _ _ (by omega) (by omega)) (hs _ _ (by omega) (by omega)) (hs _ _ (by omega) (by omega)) (fun j hj => hs _ _ (by omega) (by omega)) (fun j hj => hs _ _ (by omega) (by omega)) r) ⟨n + 1, fun i => if i = n then dd else l i, by omega, if_pos ⟨rfl, rfl⟩, fun i hi => ?_, fun i j hij hj => ?_⟩
      · by_cases e : i = n
        · subst e
          refine ⟨by show 1 ≤ (if i = i then dd else l i); rw [if_pos rfl]; exact hdd.1, by show (if i = i then dd else l i) ≤ 5; rw [if_pos rfl]; exact hdd.2, ?_⟩
          show _ = (Sum.inl (Int32.ofNat (if i = i then dd else l i)) : kc_V)
          rw [if_pos rfl]
          unfold kc_upd
          rw [if_neg (by omega), if_pos ⟨rfl, by omega⟩]
        · refine ⟨by show 1 ≤ (if i = n then dd else l i); rw [if_neg e]; exact (el i (by omega)).1, by show (if i = n then dd else l i) ≤ 5; rw [if_neg e]; exact (el i (by omega)).2.1, ?_⟩
          show _ = (Sum.inl (Int32.ofNat (if i = n then dd else l i)) : kc_V)
          rw [if_neg e, hs _ _ (by omega) (by omega)]
          exact (el i (by omega)).2.2
      · show ¬ (if i = n then dd else l i) = (if j = n then dd else l j)
        rw [if_neg (by omega)]
        by_cases e : j = n
        · rw [if_pos e]
          have := hnot i (by omega)
          rw [(hm i (by omega)).2.2 (by omega)] at this
          exact this
        · rw [if_neg e]
          exact hd i j hij (by omega)
  · exact kc_Con_le (kO_ii (kd_h94a hg) (by decide +kernel) hI ⟨⟨259, rfl, by decide, by decide⟩, kv_gi (by omega) (by omega), trivial⟩ (fun q hq => by cases hq)) (by decide)
  · exact kc_Con_le (kO_ii (kd_h94b hg) (by decide +kernel) hI ⟨⟨259, rfl, by decide, by decide⟩, kv_gi (by omega) (by omega), trivial⟩ (fun q hq => by cases hq)) (by decide)
end
section
-- 99.zo
/-! ===== day, type, image, from: alike ===== -/
theorem ku_day {g : kc_G} {h : kc_H} (hg : kc_ok g) (hI : kInv h) : kc_Con g 30 67 [.inr (.inr (.inl (some 0)))] h (fun rv h1 => (∃ z : Int32, rv = some (.inl z)) ∧ kc_Con g 30 71 [.inr (.inr (.inl (some 259)))] h1 kQi) := by
  obtain ⟨t, tb, et⟩ := kr_tx hI.1 (c := 29) (Or.inl rfl)
  obtain ⟨n, n1, en⟩ := kx_ofg (by omega) (hI.1 _ _ _ kr_k1.2.2.2.2.1)
  refine kc_Con_mono (kc_Con_le (kv_day67 hg hI.1 n1 tb et en) (by decide)) (fun rv h1 hq => ?_)
  obtain ⟨hz, hw1, fr1, x1, x2, x3⟩ := hq
  refine ⟨hz, ?_⟩
  obtain ⟨-, ⟨⟨r0, r1, r2, r3, r4⟩, -, -, -⟩, hL, -, -⟩ := id hI
  have f1 : ∀ c i, ¬ (1 ≤ c ∧ c ≤ 62) → ¬ (127 ≤ c ∧ c ≤ 189) → h1 c i = h c i := fun c i a b => fr1 c i (fun q hm => by
    simp only [kv_W67, List.mem_cons, List.not_mem_nil, or_false] at hm
    rcases hm with rfl | rfl | rfl <;> exact kb_inr (by (try dsimp only); omega))
  have et1 : ∀ j, j < 240 → h1 260 (170 + j) = .inl (Int32.ofNat (t j)) := fun j hj => by
    rw [f1 260 _ (by omega) (by omega), ← et j hj, r4 j hj, Nat.zero_add]
  have en1 : h1 260 160 = .inl (Int32.ofNat n) := by
    rw [f1 260 _ (by omega) (by omega), ← en, r3]
  refine kc_Con_mono (kc_Con_le (kv_day71 hg hw1 n1 tb et1 en1) (by decide)) (fun rv h2 hq => ?_)
  obtain ⟨hz2, hw2, fr2, y1, y2, y3⟩ := hq
  refine ⟨hz2, ?_⟩
  have f2 : ∀ c i, c < 259 ∨ c = 261 ∨ c = 262 → h2 c i = h1 c i := fun c i a => fr2 c i (fun q hm => by
    simp only [kv_W71, List.mem_cons, List.not_mem_nil, or_false] at hm
    rcases hm with rfl | rfl | rfl | rfl | rfl | rfl <;> exact kb_inr (by (try dsimp only); omega))
  have hb : h2 31 0 = h2 260 (0 + 160) := by
    rw [f2 31 0 (by omega), x2, Nat.zero_add, y2, f1 260 160 (by omega) (by omega)]
    exact r3
  have htx : ∀ j, j < 240 → h2 29 j = h2 260 (0 + 170 + j) := fun j hj => by
    rw [f2 29 j (by omega), x1 j hj, Nat.zero_add, y1 j hj, f1 260 _ (by omega) (by omega)]
    have := r4 j hj
    rw [Nat.zero_add] at this
    exact this
  have far1 : ∀ c i, 63 ≤ c → c ≤ 126 → h2 c i = h c i := fun c i a b => by rw [f2 c i (by omega), f1 c i (by omega) (by omega)]
  have far2 : ∀ c i, c = 261 ∨ c = 262 → h2 c i = h c i := fun c i a => by rw [f2 c i (by omega), f1 c i (by omega) (by omega)]
  rcases x3 with ⟨o1, a0, a1, a2⟩ | ⟨D, M, L, f, o1, hC⟩
  · rcases y3 with ⟨-, b⟩ | ⟨D2, M2, L2, f2, o2, -⟩
    · have hbk : ∀ i, i < 650 → h2 260 i = h 260 i := fun i hi => by rw [b i hi, f1 260 i (by omega) (by omega)]
      refine kInv_now hI hw2 far1 far2 ⟨?_, ?_, ?_, hb, htx⟩ (kI_eq (hbk _ (by omega)) (fun i hi => hbk _ (by omega)) hL)
      · rw [f2 1 0 (by omega), a0, hbk 0 (by omega)]; exact r0
      · rw [f2 1 1 (by omega), a1, hbk (0 + 1) (by omega)]; exact r1
      · rw [f2 1 2 (by omega), a2, hbk (0 + 2) (by omega)]; exact r2
    · rw [o1] at o2
      cases o2
  · rcases y3 with ⟨o2, -⟩ | ⟨D2, M2, L2, f3, o2, hR, h3⟩
    · rw [o1] at o2
      cases o2
    · rw [o1] at o2
      cases o2
      obtain ⟨-, -, -, c0, c1, c2⟩ := hC
      obtain ⟨-, -, -, d0, d1, d2⟩ := hR
      refine kInv_now hI hw2 far1 far2 ⟨?_, ?_, ?_, hb, htx⟩ ⟨0, fun _ => 0, by decide, h3, fun i hi => absurd hi (by omega), fun i j _ hj => absurd hj (by omega)⟩
      · rw [f2 1 0 (by omega), c0]; exact d0.symm
      · rw [f2 1 1 (by omega), c1]; exact d1.symm
      · rw [f2 1 2 (by omega), c2]; exact d2.symm
theorem ku_kt : (∀ x, x < 2 → kd_rn (kd_ty 31) x = some (0, 2147483648, 2147483648 + 240)) ∧ (∀ x, x < 2 → kd_rn (kd_ty 28) x = some (3, 29 + x, 29 + x)) ∧ (∀ x, x < 2 → ∀ j, j < 240 → kd_rn (kd_ty (29 + x)) j = some (0, 2147483648, 2147483648 + 255)) := by decide +kernel
theorem ku_rlt (v : Int64) {i : Nat} (hi : i < 8) : ∃ w, w ≤ 255 ∧ kq_r v i = Int32.ofNat w := by
  rw [← kq_eq hi]
  exact kq_lt _
theorem ku_clt (v : Int64) (i : Nat) : ∃ w, w ≤ 255 ∧ kq_c v i = Int32.ofNat w := kq_lt _
theorem ku_Fwt {h : kc_H} {tc to bc bp c n : Nat} {B : Nat → Int32} (hw : kd_wt kd_ty h) (hn : n ≤ 8) (hcn : c + n ≤ 240) (hB : ∀ i, i < 8 → ∃ w, w ≤ 255 ∧ B i = Int32.ofNat w) (k1 : kd_rn (kd_ty bc) bp = some (0, 2147483648, 2147483648 + 240)) (k2 : ∀ j, j < 240 → kd_rn (kd_ty tc) (to + j) = some (0, 2147483648, 2147483648 + 255)) : kd_wt kd_ty (kq_F h tc to bc bp c B n n) := by
  intro a b v hv
  unfold kq_F
  split
  · rename_i e
    obtain ⟨rfl, rfl⟩ := e
    rw [k1] at hv
    cases hv
    exact kx_gof (by omega) (by omega)
  · split
    · rename_i e
      obtain ⟨rfl, e1, e2⟩ := e
      have := k2 (b - to) (by omega)
      rw [show to + (b - to) = b from by omega, hv] at this
      cases this
      obtain ⟨w, w1, w2⟩ := hB (n - 1 - (b - (to + c))) (by omega)
      rw [w2]
      exact kx_gof (by omega) w1
    · exact hw a b v hv
theorem ku_typ {g : kc_G} {h : kc_H} {x n : Nat} {v : Int64} (hg : kc_ok g) (hI : kInv h) (hx : x < 2) (n1 : 1 ≤ n) (n8 : n ≤ 8) : kc_Con g 30 54 [.inr (.inr (.inl (some 0))), .inl (Int32.ofNat x), .inr (.inl v), .inl (Int32.ofNat n)] h (fun rv h1 => (∃ z : Int32, rv = some (.inl z)) ∧ kc_Con g 30 56 [.inr (.inr (.inl (some 259))), .inl (Int32.ofNat x), .inr (.inl v), .inl (Int32.ofNat n)] h1 kQi) := by
  obtain ⟨c, c1, ec⟩ := kx_ofg (by omega) (hI.1 _ _ _ (ku_kt.1 x hx))
  obtain ⟨c', c1', ec'⟩ := kx_ofg (by omega) (hI.1 _ _ _ (km_k260.1 x hx))
  refine kc_Con_mono (kc_Con_le (kq_54 (d := 0) (v := v) hg (kx_ofr (hI.1 _ _ _ kv_k0.1)) hx (kx_ofr (hI.1 _ _ _ kr_k1.1)) (kx_ofr (hI.1 _ _ _ kr_k1.2.1)) (kx_ofr (hI.1 _ _ _ (ku_kt.2.1 x hx))) ec n1 n8 c1) (by decide)) (fun rv h1 hq => ?_)
  obtain ⟨z, rfl, hq⟩ := hq
  refine ⟨⟨z, rfl⟩, ?_⟩
  have hw1 : kd_wt kd_ty h1 := by
    rcases hq with ⟨a, rfl⟩ | ⟨-, rfl⟩
    · exact ku_Fwt hI.1 n8 a (fun i _ => ku_clt v i) (ku_kt.1 x hx) (fun j hj => by rw [Nat.zero_add]; exact ku_kt.2.2 x hx j hj)
    · exact hI.1
  have f1 : ∀ a b, ¬ (a = 31 ∧ b = x) → ¬ (a = 29 + x) → h1 a b = h a b := fun a b q1 q2 => by
    rcases hq with ⟨-, rfl⟩ | ⟨-, rfl⟩
    · exact kq_o (by omega) (Or.inl q2)
    · rfl
  have ec1 : h1 260 (160 + x) = .inl (Int32.ofNat c') := by rw [f1 260 _ (by omega) (by omega)]; exact ec'
  refine kc_Con_mono (kc_Con_le (kq_56 (d := 0) (v := v) hg hx (kx_ofr (hw1 _ _ _ kz_k.1)) ec1 n1 n8 c1') (by decide)) (fun rv h2 hq2 => ?_)
  obtain ⟨z2, rfl, hq2⟩ := hq2
  refine ⟨⟨z2, rfl⟩, ?_⟩
  have hw2 : kd_wt kd_ty h2 := by
    rcases hq2 with ⟨a, rfl⟩ | ⟨-, rfl⟩
    · exact ku_Fwt hw1 n8 a (fun i hi => ku_rlt v hi) (km_k260.1 x hx) (fun j hj => by rw [show 170 + 240 * x + j = 170 + (240 * x + j) from by omega]; exact km_k260.2 _ (by omega))
    · exact hw1
  have f2 : ∀ a b, ¬ (a = 260 ∧ b = 160 + x) → ¬ (a = 260 ∧ 170 + 240 * x ≤ b ∧ b < 410 + 240 * x) → h2 a b = h1 a b := fun a b q1 q2 => by
    rcases hq2 with ⟨a0, rfl⟩ | ⟨-, rfl⟩
    · exact kq_o (by omega) (by omega)
    · rfl
  obtain ⟨-, ⟨⟨r0, r1, r2, r3, r4⟩, -, -, -⟩, hL, -, -⟩ := id hI
  refine kInv_now hI hw2 (fun a b q1 q2 => by rw [f2 a b (by omega) (by omega), f1 a b (by omega) (by omega)]) (fun a b q => by rw [f2 a b (by omega) (by omega), f1 a b (by omega) (by omega)]) ⟨?_, ?_, ?_, ?_, fun j hj => ?_⟩ (kI_eq (by rw [f2 _ _ (by omega) (by omega), f1 _ _ (by omega) (by omega)]) (fun i hi => by rw [f2 _ _ (by omega) (by omega), f1 _ _ (by omega) (by omega)]) hL)
  · rw [f2 1 0 (by omega) (by omega), f1 1 0 (by omega) (by omega), f2 260 0 (by omega) (by omega), f1 260 0 (by omega) (by omega)]; exact r0
  · rw [f2 1 1 (by omega) (by omega), f1 1 1 (by omega) (by omega), f2 260 (0 + 1) (by omega) (by omega), f1 260 (0 + 1) (by omega) (by omega)]; exact r1
  · rw [f2 1 2 (by omega) (by omega), f1 1 2 (by omega) (by omega), f2 260 (0 + 2) (by omega) (by omega), f1 260 (0 + 2) (by omega) (by omega)]; exact r2
  · rcases (show x = 0 ∨ x = 1 by omega) with rfl | rfl
    · have ecc : c' = c := by
        rw [show 160 + 0 = 0 + 160 from rfl, ← r3, ec] at ec'
        have e4 : (Int32.ofNat c).toInt = (Int32.ofNat c').toInt := by rw [Sum.inl.inj ec']
        rw [kx_ti (by omega), kx_ti (by omega)] at e4
        omega
      subst ecc
      rw [f2 31 0 (by omega) (by omega)]
      rcases hq with ⟨a, rfl⟩ | ⟨a, rfl⟩
      · rcases hq2 with ⟨a2, rfl⟩ | ⟨a2, -⟩
        · exact kq_b.trans (kq_b (bp := 160 + 0)).symm
        · omega
      · rcases hq2 with ⟨a2, -⟩ | ⟨-, rfl⟩
        · omega
        · exact r3
    · rw [f2 31 0 (by omega) (by omega), f1 31 0 (by omega) (by omega), f2 260 _ (by omega) (by omega), f1 260 _ (by omega) (by omega)]; exact r3
  · rcases (show x = 0 ∨ x = 1 by omega) with rfl | rfl
    · have ecc : c' = c := by
        rw [show 160 + 0 = 0 + 160 from rfl, ← r3, ec] at ec'
        have e4 : (Int32.ofNat c).toInt = (Int32.ofNat c').toInt := by rw [Sum.inl.inj ec']
        rw [kx_ti (by omega), kx_ti (by omega)] at e4
        omega
      subst ecc
      rw [f2 29 j (by omega) (by omega)]
      rcases hq with ⟨a, rfl⟩ | ⟨a, rfl⟩
      · rcases hq2 with ⟨a2, rfl⟩ | ⟨a2, -⟩
        · by_cases e : c' ≤ j ∧ j < c' + n
          · have g1 : kq_F h (29 + 0) 0 31 0 c' (kq_c v) n n 29 j = .inl (kq_c v (n - 1 - (j - c'))) := by
              unfold kq_F
              rw [if_neg (by omega), if_pos ⟨rfl, by omega, by omega⟩, Nat.zero_add]
            rw [g1]
            unfold kq_F
            rw [if_neg (by omega), if_pos ⟨rfl, by omega, by omega⟩, show 0 + 170 + j - (170 + 240 * 0 + c') = j - c' from by omega, kq_eq (by omega)]
          · rw [kq_o (by omega) (by omega), kq_o (by omega) (by omega), kq_o (by omega) (by omega)]
            exact r4 j hj
        · omega
      · rcases hq2 with ⟨a2, -⟩ | ⟨-, rfl⟩
        · omega
        · exact r4 j hj
    · rw [f2 29 j (by omega) (by omega), f1 29 j (by omega) (by omega), f2 260 _ (by omega) (by omega), f1 260 _ (by omega) (by omega)]; exact r4 j hj
theorem ku_nat {a : Int32} {u : Nat} (h0 : 0 ≤ a.toInt) (h1 : a.toInt ≤ u) : ∃ k : Nat, k ≤ u ∧ a.toInt = k ∧ a = Int32.ofNat k := by
  have := kv_hi a
  exact ⟨a.toInt.toNat, by omega, by omega, Int32.toInt_inj.mp (by rw [kx_ti (by omega)]; omega)⟩
theorem ku_tJ (v : Int64) : kd_g 0 (fun _ => 0) (2, 0, 18446744073709551615) (.inr (.inl v)) := ⟨v, rfl, Nat.zero_le _, kd_nj_J v⟩
theorem ku_type {g : kc_G} {h : kc_H} {a e : Int32} {v : Int64} (hg : kc_ok g) (hI : kInv h) : kc_Con g 30 54 [.inr (.inr (.inl (some 0))), .inl a, .inr (.inl v), .inl e] h (fun rv h1 => (∃ z : Int32, rv = some (.inl z)) ∧ kc_Con g 30 56 [.inr (.inr (.inl (some 259))), .inl a, .inr (.inl v), .inl e] h1 kQi) := by
  have alo := kv_lo a
  have ahi := kv_hi a
  have elo := kv_lo e
  have ehi := kv_hi e
  rcases (show (0 ≤ a.toInt ∧ a.toInt ≤ 1 ∧ 1 ≤ e.toInt ∧ e.toInt ≤ 8) ∨ a.toInt < 0 ∨ 1 < a.toInt ∨ (a.toInt = 0 ∧ e.toInt < 1) ∨ (a.toInt = 0 ∧ 8 < e.toInt) ∨ (a.toInt = 1 ∧ e.toInt < 1) ∨ (a.toInt = 1 ∧ 8 < e.toInt) by omega) with k | k | k | k | k | k | k
  · obtain ⟨x, x1, -, rfl⟩ := ku_nat (u := 1) k.1 (by omega)
    obtain ⟨n, n1, en, rfl⟩ := ku_nat (a := e) (u := 8) (by omega) (by omega)
    exact ku_typ hg hI (by omega) (by omega) n1
  · refine kc_Con_mono (kc_Con_le (kO_ii (kd_h54tl hg) (by decide +kernel) hI ⟨⟨0, rfl, by decide, by decide⟩, kv_gi (by omega) (by omega), ku_tJ v, kv_gi (by omega) (by omega), trivial⟩ (fun q hq => by cases hq)) (by decide)) (fun rv h1 hq => ⟨hq.1, ?_⟩)
    exact kc_Con_le (kO_ii (kd_h56tl hg) (by decide +kernel) hq.2 ⟨⟨259, rfl, by decide, by decide⟩, kv_gi (by omega) (by omega), ku_tJ v, kv_gi (by omega) (by omega), trivial⟩ (fun q hq => by cases hq)) (by decide)
  · refine kc_Con_mono (kc_Con_le (kO_ii (kd_h54th hg) (by decide +kernel) hI ⟨⟨0, rfl, by decide, by decide⟩, kv_gi (by omega) (by omega), ku_tJ v, kv_gi (by omega) (by omega), trivial⟩ (fun q hq => by cases hq)) (by decide)) (fun rv h1 hq => ⟨hq.1, ?_⟩)
    exact kc_Con_le (kO_ii (kd_h56th hg) (by decide +kernel) hq.2 ⟨⟨259, rfl, by decide, by decide⟩, kv_gi (by omega) (by omega), ku_tJ v, kv_gi (by omega) (by omega), trivial⟩ (fun q hq => by cases hq)) (by decide)
  · refine kc_Con_mono (kc_Con_le (kO_ii (kd_h54nl hg) (by decide +kernel) hI ⟨⟨0, rfl, by decide, by decide⟩, kv_gi (by omega) (by omega), ku_tJ v, kv_gi (by omega) (by omega), trivial⟩ (fun q hq => by cases hq)) (by decide)) (fun rv h1 hq => ⟨hq.1, ?_⟩)
    exact kc_Con_le (kO_ii (kd_h56nl hg) (by decide +kernel) hq.2 ⟨⟨259, rfl, by decide, by decide⟩, kv_gi (by omega) (by omega), ku_tJ v, kv_gi (by omega) (by omega), trivial⟩ (fun q hq => by cases hq)) (by decide)
  · refine kc_Con_mono (kc_Con_le (kO_ii (kd_h54nh hg) (by decide +kernel) hI ⟨⟨0, rfl, by decide, by decide⟩, kv_gi (by omega) (by omega), ku_tJ v, kv_gi (by omega) (by omega), trivial⟩ (fun q hq => by cases hq)) (by decide)) (fun rv h1 hq => ⟨hq.1, ?_⟩)
    exact kc_Con_le (kO_ii (kd_h56nh hg) (by decide +kernel) hq.2 ⟨⟨259, rfl, by decide, by decide⟩, kv_gi (by omega) (by omega), ku_tJ v, kv_gi (by omega) (by omega), trivial⟩ (fun q hq => by cases hq)) (by decide)
  · refine kc_Con_mono (kc_Con_le (kO_ii (kd_h54ml hg) (by decide +kernel) hI ⟨⟨0, rfl, by decide, by decide⟩, kv_gi (by omega) (by omega), ku_tJ v, kv_gi (by omega) (by omega), trivial⟩ (fun q hq => by cases hq)) (by decide)) (fun rv h1 hq => ⟨hq.1, ?_⟩)
    exact kc_Con_le (kO_ii (kd_h56ml hg) (by decide +kernel) hq.2 ⟨⟨259, rfl, by decide, by decide⟩, kv_gi (by omega) (by omega), ku_tJ v, kv_gi (by omega) (by omega), trivial⟩ (fun q hq => by cases hq)) (by decide)
  · refine kc_Con_mono (kc_Con_le (kO_ii (kd_h54mh hg) (by decide +kernel) hI ⟨⟨0, rfl, by decide, by decide⟩, kv_gi (by omega) (by omega), ku_tJ v, kv_gi (by omega) (by omega), trivial⟩ (fun q hq => by cases hq)) (by decide)) (fun rv h1 hq => ⟨hq.1, ?_⟩)
    exact kc_Con_le (kO_ii (kd_h56mh hg) (by decide +kernel) hq.2 ⟨⟨259, rfl, by decide, by decide⟩, kv_gi (by omega) (by omega), ku_tJ v, kv_gi (by omega) (by omega), trivial⟩ (fun q hq => by cases hq)) (by decide)
end
section
-- 99.zp
/-! ===== image, from: alike ===== -/
theorem ku_k126 : ∀ i, i < 2 → kd_rn (kd_ty 126) i = some (0, 2147483648, 2147483649) := by decide +kernel
theorem ku_kb {h : kc_H} (hw : kd_wt kd_ty h) {i : Nat} (hi : i < 2) : ∃ b : Bool, h 126 i = .inl (kp_b b) := kw_bool (hw _ _ _ (ku_k126 i hi))
theorem ku_image0 {g : kc_G} {h : kc_H} (hg : kc_ok g) (hI : kInv h) : kc_Con g 30 157 [.inr (.inr (.inl (some 0))), .inl (Int32.ofNat 0)] h (fun rv h1 => (∃ z : Int32, rv = some (.inl z)) ∧ kc_Con g 30 158 [.inr (.inr (.inl (some 259))), .inl (Int32.ofNat 0)] h1 kQi) := by
  refine kc_Con_mono (kc_Con_le (ks_image0 (d := 0) hg hI.1) (by decide)) (fun rv h1 hq => ?_)
  obtain ⟨hz, hh1⟩ := hq
  refine ⟨hz, ?_⟩
  have hw1 : kd_wt kd_ty h1 := by rw [hh1]; exact kz_wtb (ku_k126 0 (by decide)) (kt_K_wt hI.1 kt_ty1_64)
  have key := kz_image (d := 0) (h := h1) (i := 0) hg (by decide) (fun k hk => kz_int_r hw1 (kz_k260 k hk).1)
  rw [kz_wid hw1] at key
  refine kc_Con_mono (kc_Con_le key (by decide)) (fun rv h2 hq2 => ?_)
  obtain ⟨rfl, hh2⟩ := hq2
  refine ⟨⟨_, rfl⟩, ?_⟩
  have hw2 : kd_wt kd_ty h2 := by
    rw [hh2]
    exact kz_wtb (kz_k262 0 (by decide)) (kz_cp_wt hw1 (fun j hj => by
      obtain ⟨-, a1, a2, -⟩ := kz_k260 j hj
      rw [Nat.zero_add]
      first | exact a1 | (rw [show 650 * 0 + j = j from by omega]; exact a1)))
  have f1 : ∀ c k, ¬ (64 ≤ c ∧ c < 95) → ¬ c = 126 → h1 c k = h c k := fun c k q1 q2 => by
    rw [hh1, kj_uo q2]
    unfold kt_K
    rw [if_neg (by omega)]
  have f2 : ∀ c k, ¬ (c = 261 ∧ 0 ≤ k ∧ k < 650) → ¬ c = 262 → h2 c k = h1 c k := fun c k q1 q2 => by
    rw [hh2, kj_uo q2]
    unfold kz_cp
    rw [if_neg (by omega)]
  have g1 : ∀ k, k < 31 → ∀ m, m < kt_ln k → h1 (64 + k) m = h (1 + k) m := fun k hk m hm => by
    rw [hh1, kj_uo (by omega)]
    unfold kt_K
    rw [show 64 + k - 64 = k from by omega, if_pos ⟨by omega, by omega, hm⟩]
  have g2 : ∀ m, m < 650 → h2 261 (0 + m) = h 260 m := fun m hm => by
    rw [hh2, kj_uo (by decide)]
    unfold kz_cp
    rw [if_pos ⟨rfl, by omega, by omega⟩, f1 260 _ (by omega) (by omega), show 0 + (0 + m - 650 * 0) = m from by omega]
  obtain ⟨-, ⟨⟨r0, r1, r2, r3, r4⟩, b1, b2, b3⟩, hL, c1, c2⟩ := id hI
  have mine : kR1 h2 64 92 94 261 0 := by
    refine ⟨?_, ?_, ?_, ?_, fun j hj => ?_⟩
    · rw [f2 64 0 (by omega) (by omega), g1 0 (by decide) 0 (by decide), show (0 : Nat) = 0 + 0 from rfl, g2 0 (by decide)]; exact r0
    · rw [f2 64 1 (by omega) (by omega), g1 0 (by decide) 1 (by decide), g2 1 (by decide)]; exact r1
    · rw [f2 64 2 (by omega) (by omega), g1 0 (by decide) 2 (by decide), g2 2 (by decide)]; exact r2
    · rw [f2 94 0 (by omega) (by omega), g1 30 (by decide) 0 (by decide), g2 160 (by decide)]; exact r3
    · rw [f2 92 j (by omega) (by omega), g1 28 (by decide) j hj, show 0 + 170 + j = 0 + (170 + j) from by omega, g2 (170 + j) (by omega)]
      have := r4 j hj
      rw [Nat.zero_add] at this
      exact this
  have other : kR1 h2 95 123 125 261 650 := by
    have e : ∀ c k, (95 ≤ c ∧ c ≤ 125) ∨ (c = 261 ∧ ¬ (0 ≤ k ∧ k < 650)) → h2 c k = h c k := fun c k q => by
      rw [f2 c k (by omega) (by omega), f1 c k (by omega) (by omega)]
    exact kR1_eq (fun k _ => e _ _ (by omega)) (fun k _ => e _ _ (by omega)) (e _ _ (by omega)) (e _ _ (by omega)) (fun j _ => e _ _ (by omega)) (fun j _ => e _ _ (by omega)) b2
  have mineI : kI h2 261 0 := by
    obtain ⟨n, l, a1, a2, a3, a4⟩ := hL
    refine ⟨n, l, a1, ?_, fun k hk => ⟨(a3 k hk).1, (a3 k hk).2.1, ?_⟩, a4⟩
    · rw [g2 3 (by decide)]; rw [Nat.zero_add] at a2; exact a2
    · rw [show 0 + 150 + k = 0 + (150 + k) from by omega, g2 (150 + k) (by omega)]
      have := (a3 k hk).2.2
      rw [Nat.zero_add] at this
      exact this
  have otherI : kI h2 261 650 := kI_eq (by rw [f2 _ _ (by omega) (by omega), f1 _ _ (by omega) (by omega)]) (fun k hk => by rw [f2 _ _ (by omega) (by omega), f1 _ _ (by omega) (by omega)]) c2
  have now : ∀ c k, c < 63 ∨ c = 260 → h2 c k = h c k := fun c k q => by rw [f2 c k (by omega) (by omega), f1 c k (by omega) (by omega)]
  refine ⟨hw2, ⟨kR1_eq (fun k _ => now _ _ (by omega)) (fun k _ => now _ _ (by omega)) (now _ _ (by omega)) (now _ _ (by omega)) (fun j _ => now _ _ (by omega)) (fun j _ => now _ _ (by omega)) ⟨r0, r1, r2, r3, r4⟩, mine, other, fun k hk => ?_⟩, kI_eq (now _ _ (by omega)) (fun k _ => now _ _ (by omega)) hL, mineI, otherI⟩
  have w1 : ∀ k, ¬ k = 0 → h1 126 k = h 126 k := fun k q => by
    rw [hh1]
    unfold kc_upd
    rw [if_neg (by omega)]
    unfold kt_K
    rw [if_neg (by omega)]
  have w2 : ∀ k, ¬ k = 0 → h2 262 k = h1 262 k := fun k q => by
    rw [hh2]
    unfold kc_upd
    rw [if_neg (by omega)]
    exact kz_n (by decide)
  rw [f2 126 k (by omega) (by omega)]
  by_cases e : k = 0
  · subst e
    rw [hh1, hh2]
    exact (if_pos ⟨rfl, rfl⟩).trans (if_pos ⟨rfl, rfl⟩).symm
  · rw [w1 k e, w2 k e, f1 262 k (by omega) (by omega)]
    exact b3 k hk
theorem ku_from0 {g : kc_G} {h : kc_H} (hg : kc_ok g) (hI : kInv h) : kc_Con g 30 159 [.inr (.inr (.inl (some 0))), .inl (Int32.ofNat 0)] h (fun rv h1 => (∃ z : Int32, rv = some (.inl z)) ∧ kc_Con g 30 160 [.inr (.inr (.inl (some 259))), .inl (Int32.ofNat 0)] h1 kQi) := by
  obtain ⟨bo, eb⟩ := ku_kb hI.1 (i := 0) (by decide)
  obtain ⟨-, ⟨r, b1, b2, b3⟩, hL, c1, c2⟩ := id hI
  refine kc_Con_mono (kc_Con_le (ks_from0 (d := 0) hg hI.1 eb) (by decide)) (fun rv h1 hq => ?_)
  obtain ⟨hz, hq⟩ := hq
  refine ⟨hz, ?_⟩
  have hw1 : kd_wt kd_ty h1 := by
    rcases hq with ⟨-, rfl⟩ | ⟨-, rfl⟩
    · exact kt_K_wt hI.1 kt_ty64_1
    · exact hI.1
  have f1 : ∀ c k, ¬ (1 ≤ c ∧ c < 32) → h1 c k = h c k := fun c k q1 => by
    rcases hq with ⟨-, rfl⟩ | ⟨-, rfl⟩
    · unfold kt_K
      rw [if_neg (by omega)]
    · rfl
  have eb1 : h1 262 0 = .inl (kp_b bo) := by
    rw [f1 262 0 (by omega), ← b3 0 (by decide)]
    exact eb
  have hty : ∀ j, j < 650 → kd_rn (kd_ty 261) (650 * 0 + j) = kd_rn (kd_ty 260) j := fun j hj => by
    obtain ⟨-, a1, a2, -⟩ := kz_k260 j hj
    rw [show 650 * 0 + j = j from by omega]; exact a1
  have key := kz_from (d := 0) (h := h1) (i := 0) (b := bo) hg (by decide) eb1 (fun k hk => kz_int_r hw1 (by rw [hty k hk]; exact (kz_k260 k hk).1))
  rw [kz_wid hw1] at key
  refine kc_Con_mono (kc_Con_le key (by decide)) (fun rv h2 hq2 => ?_)
  rcases hq with ⟨eb0, hh1⟩ | ⟨eb0, rfl⟩
  · rcases hq2 with ⟨-, rfl, hh2⟩ | ⟨eb2, -, -⟩
    · refine ⟨⟨_, rfl⟩, ?_⟩
      have hw2 : kd_wt kd_ty h2 := by
        rw [hh2]
        exact kz_cp_wt hw1 (fun j hj => by rw [hty j hj, Nat.zero_add])
      have f2 : ∀ c k, ¬ (c = 260 ∧ k < 650) → h2 c k = h1 c k := fun c k q1 => by
        rw [hh2]
        unfold kz_cp
        rw [if_neg (by omega)]
      have g1 : ∀ k, k < 31 → ∀ m, m < kt_ln k → h1 (1 + k) m = h (64 + k) m := fun k hk m hm => by
        rw [hh1]
        unfold kt_K
        rw [show 1 + k - 1 = k from by omega, if_pos ⟨by omega, by omega, hm⟩]
      have g2 : ∀ m, m < 650 → h2 260 m = h 261 (0 + m) := fun m hm => by
        rw [hh2]
        unfold kz_cp
        rw [if_pos ⟨rfl, by omega, by omega⟩, f1 261 _ (by omega), show 650 * 0 + (m - 0) = 0 + m from by omega]
      obtain ⟨r0, r1, r2, r3, r4⟩ := b1
      refine kInv_now hI hw2 (fun c k q1 q2 => by rw [f2 c k (by omega), f1 c k (by omega)]) (fun c k q => by rw [f2 c k (by omega), f1 c k (by omega)]) ⟨?_, ?_, ?_, ?_, fun j hj => ?_⟩ ?_
      · rw [f2 1 0 (by omega), g1 0 (by decide) 0 (by decide), g2 0 (by decide)]; exact r0
      · rw [f2 1 1 (by omega), g1 0 (by decide) 1 (by decide), g2 (0 + 1) (by decide)]; exact r1
      · rw [f2 1 2 (by omega), g1 0 (by decide) 2 (by decide), g2 (0 + 2) (by decide)]; exact r2
      · rw [f2 31 0 (by omega), g1 30 (by decide) 0 (by decide), g2 (0 + 160) (by decide)]; exact r3
      · rw [f2 29 j (by omega), g1 28 (by decide) j hj, g2 (0 + 170 + j) (by omega), show 0 + (0 + 170 + j) = 0 + 170 + j from by omega]
        exact r4 j hj
      · obtain ⟨n, l, a1, a2, a3, a4⟩ := c1
        refine ⟨n, l, a1, ?_, fun k hk => ⟨(a3 k hk).1, (a3 k hk).2.1, ?_⟩, a4⟩
        · rw [g2 (0 + 3) (by decide)]; exact a2
        · rw [g2 (0 + 150 + k) (by omega), show 0 + (0 + 150 + k) = 0 + 150 + k from by omega]
          exact (a3 k hk).2.2
    · rw [eb0] at eb2
      cases eb2
  · rcases hq2 with ⟨eb2, -, -⟩ | ⟨-, rfl, rfl⟩
    · rw [eb0] at eb2
      cases eb2
    · exact ⟨⟨_, rfl⟩, hI⟩
theorem ku_image1 {g : kc_G} {h : kc_H} (hg : kc_ok g) (hI : kInv h) : kc_Con g 30 157 [.inr (.inr (.inl (some 0))), .inl (Int32.ofNat 1)] h (fun rv h1 => (∃ z : Int32, rv = some (.inl z)) ∧ kc_Con g 30 158 [.inr (.inr (.inl (some 259))), .inl (Int32.ofNat 1)] h1 kQi) := by
  refine kc_Con_mono (kc_Con_le (ks_image1 (d := 0) hg hI.1) (by decide)) (fun rv h1 hq => ?_)
  obtain ⟨hz, hh1⟩ := hq
  refine ⟨hz, ?_⟩
  have hw1 : kd_wt kd_ty h1 := by rw [hh1]; exact kz_wtb (ku_k126 1 (by decide)) (kt_K_wt hI.1 kt_ty1_95)
  have key := kz_image (d := 0) (h := h1) (i := 1) hg (by decide) (fun k hk => kz_int_r hw1 (kz_k260 k hk).1)
  rw [kz_wid hw1] at key
  refine kc_Con_mono (kc_Con_le key (by decide)) (fun rv h2 hq2 => ?_)
  obtain ⟨rfl, hh2⟩ := hq2
  refine ⟨⟨_, rfl⟩, ?_⟩
  have hw2 : kd_wt kd_ty h2 := by
    rw [hh2]
    exact kz_wtb (kz_k262 1 (by decide)) (kz_cp_wt hw1 (fun j hj => by
      obtain ⟨-, a1, a2, -⟩ := kz_k260 j hj
      rw [Nat.zero_add]
      exact a2))
  have f1 : ∀ c k, ¬ (95 ≤ c ∧ c < 126) → ¬ c = 126 → h1 c k = h c k := fun c k q1 q2 => by
    rw [hh1, kj_uo q2]
    unfold kt_K
    rw [if_neg (by omega)]
  have f2 : ∀ c k, ¬ (c = 261 ∧ 650 ≤ k ∧ k < 1300) → ¬ c = 262 → h2 c k = h1 c k := fun c k q1 q2 => by
    rw [hh2, kj_uo q2]
    unfold kz_cp
    rw [if_neg (by omega)]
  have g1 : ∀ k, k < 31 → ∀ m, m < kt_ln k → h1 (95 + k) m = h (1 + k) m := fun k hk m hm => by
    rw [hh1, kj_uo (by omega)]
    unfold kt_K
    rw [show 95 + k - 95 = k from by omega, if_pos ⟨by omega, by omega, hm⟩]
  have g2 : ∀ m, m < 650 → h2 261 (650 + m) = h 260 m := fun m hm => by
    rw [hh2, kj_uo (by decide)]
    unfold kz_cp
    rw [if_pos ⟨rfl, by omega, by omega⟩, f1 260 _ (by omega) (by omega), show 0 + (650 + m - 650 * 1) = m from by omega]
  obtain ⟨-, ⟨⟨r0, r1, r2, r3, r4⟩, b1, b2, b3⟩, hL, c1, c2⟩ := id hI
  have mine : kR1 h2 95 123 125 261 650 := by
    refine ⟨?_, ?_, ?_, ?_, fun j hj => ?_⟩
    · rw [f2 95 0 (by omega) (by omega), g1 0 (by decide) 0 (by decide), show (650 : Nat) = 650 + 0 from rfl, g2 0 (by decide)]; exact r0
    · rw [f2 95 1 (by omega) (by omega), g1 0 (by decide) 1 (by decide), g2 1 (by decide)]; exact r1
    · rw [f2 95 2 (by omega) (by omega), g1 0 (by decide) 2 (by decide), g2 2 (by decide)]; exact r2
    · rw [f2 125 0 (by omega) (by omega), g1 30 (by decide) 0 (by decide), g2 160 (by decide)]; exact r3
    · rw [f2 123 j (by omega) (by omega), g1 28 (by decide) j hj, show 650 + 170 + j = 650 + (170 + j) from by omega, g2 (170 + j) (by omega)]
      have := r4 j hj
      rw [Nat.zero_add] at this
      exact this
  have other : kR1 h2 64 92 94 261 0 := by
    have e : ∀ c k, (64 ≤ c ∧ c ≤ 94) ∨ (c = 261 ∧ ¬ (650 ≤ k ∧ k < 1300)) → h2 c k = h c k := fun c k q => by
      rw [f2 c k (by omega) (by omega), f1 c k (by omega) (by omega)]
    exact kR1_eq (fun k _ => e _ _ (by omega)) (fun k _ => e _ _ (by omega)) (e _ _ (by omega)) (e _ _ (by omega)) (fun j _ => e _ _ (by omega)) (fun j _ => e _ _ (by omega)) b1
  have mineI : kI h2 261 650 := by
    obtain ⟨n, l, a1, a2, a3, a4⟩ := hL
    refine ⟨n, l, a1, ?_, fun k hk => ⟨(a3 k hk).1, (a3 k hk).2.1, ?_⟩, a4⟩
    · rw [g2 3 (by decide)]; rw [Nat.zero_add] at a2; exact a2
    · rw [show 650 + 150 + k = 650 + (150 + k) from by omega, g2 (150 + k) (by omega)]
      have := (a3 k hk).2.2
      rw [Nat.zero_add] at this
      exact this
  have otherI : kI h2 261 0 := kI_eq (by rw [f2 _ _ (by omega) (by omega), f1 _ _ (by omega) (by omega)]) (fun k hk => by rw [f2 _ _ (by omega) (by omega), f1 _ _ (by omega) (by omega)]) c1
  have now : ∀ c k, c < 63 ∨ c = 260 → h2 c k = h c k := fun c k q => by rw [f2 c k (by omega) (by omega), f1 c k (by omega) (by omega)]
  refine ⟨hw2, ⟨kR1_eq (fun k _ => now _ _ (by omega)) (fun k _ => now _ _ (by omega)) (now _ _ (by omega)) (now _ _ (by omega)) (fun j _ => now _ _ (by omega)) (fun j _ => now _ _ (by omega)) ⟨r0, r1, r2, r3, r4⟩, other, mine, fun k hk => ?_⟩, kI_eq (now _ _ (by omega)) (fun k _ => now _ _ (by omega)) hL, otherI, mineI⟩
  have w1 : ∀ k, ¬ k = 1 → h1 126 k = h 126 k := fun k q => by
    rw [hh1]
    unfold kc_upd
    rw [if_neg (by omega)]
    unfold kt_K
    rw [if_neg (by omega)]
  have w2 : ∀ k, ¬ k = 1 → h2 262 k = h1 262 k := fun k q => by
    rw [hh2]
    unfold kc_upd
    rw [if_neg (by omega)]
    exact kz_n (by decide)
  rw [f2 126 k (by omega) (by omega)]
  by_cases e : k = 1
  · subst e
    rw [hh1, hh2]
    exact (if_pos ⟨rfl, rfl⟩).trans (if_pos ⟨rfl, rfl⟩).symm
  · rw [w1 k e, w2 k e, f1 262 k (by omega) (by omega)]
    exact b3 k hk
theorem ku_from1 {g : kc_G} {h : kc_H} (hg : kc_ok g) (hI : kInv h) : kc_Con g 30 159 [.inr (.inr (.inl (some 0))), .inl (Int32.ofNat 1)] h (fun rv h1 => (∃ z : Int32, rv = some (.inl z)) ∧ kc_Con g 30 160 [.inr (.inr (.inl (some 259))), .inl (Int32.ofNat 1)] h1 kQi) := by
  obtain ⟨bo, eb⟩ := ku_kb hI.1 (i := 1) (by decide)
  obtain ⟨-, ⟨r, b1, b2, b3⟩, hL, c1, c2⟩ := id hI
  refine kc_Con_mono (kc_Con_le (ks_from1 (d := 0) hg hI.1 eb) (by decide)) (fun rv h1 hq => ?_)
  obtain ⟨hz, hq⟩ := hq
  refine ⟨hz, ?_⟩
  have hw1 : kd_wt kd_ty h1 := by
    rcases hq with ⟨-, rfl⟩ | ⟨-, rfl⟩
    · exact kt_K_wt hI.1 kt_ty95_1
    · exact hI.1
  have f1 : ∀ c k, ¬ (1 ≤ c ∧ c < 32) → h1 c k = h c k := fun c k q1 => by
    rcases hq with ⟨-, rfl⟩ | ⟨-, rfl⟩
    · unfold kt_K
      rw [if_neg (by omega)]
    · rfl
  have eb1 : h1 262 1 = .inl (kp_b bo) := by
    rw [f1 262 1 (by omega), ← b3 1 (by decide)]
    exact eb
  have hty : ∀ j, j < 650 → kd_rn (kd_ty 261) (650 * 1 + j) = kd_rn (kd_ty 260) j := fun j hj => by
    obtain ⟨-, a1, a2, -⟩ := kz_k260 j hj
    exact a2
  have key := kz_from (d := 0) (h := h1) (i := 1) (b := bo) hg (by decide) eb1 (fun k hk => kz_int_r hw1 (by rw [hty k hk]; exact (kz_k260 k hk).1))
  rw [kz_wid hw1] at key
  refine kc_Con_mono (kc_Con_le key (by decide)) (fun rv h2 hq2 => ?_)
  rcases hq with ⟨eb0, hh1⟩ | ⟨eb0, rfl⟩
  · rcases hq2 with ⟨-, rfl, hh2⟩ | ⟨eb2, -, -⟩
    · refine ⟨⟨_, rfl⟩, ?_⟩
      have hw2 : kd_wt kd_ty h2 := by
        rw [hh2]
        exact kz_cp_wt hw1 (fun j hj => by rw [hty j hj, Nat.zero_add])
      have f2 : ∀ c k, ¬ (c = 260 ∧ k < 650) → h2 c k = h1 c k := fun c k q1 => by
        rw [hh2]
        unfold kz_cp
        rw [if_neg (by omega)]
      have g1 : ∀ k, k < 31 → ∀ m, m < kt_ln k → h1 (1 + k) m = h (95 + k) m := fun k hk m hm => by
        rw [hh1]
        unfold kt_K
        rw [show 1 + k - 1 = k from by omega, if_pos ⟨by omega, by omega, hm⟩]
      have g2 : ∀ m, m < 650 → h2 260 m = h 261 (650 + m) := fun m hm => by
        rw [hh2]
        unfold kz_cp
        rw [if_pos ⟨rfl, by omega, by omega⟩, f1 261 _ (by omega), show 650 * 1 + (m - 0) = 650 + m from by omega]
      obtain ⟨r0, r1, r2, r3, r4⟩ := b2
      refine kInv_now hI hw2 (fun c k q1 q2 => by rw [f2 c k (by omega), f1 c k (by omega)]) (fun c k q => by rw [f2 c k (by omega), f1 c k (by omega)]) ⟨?_, ?_, ?_, ?_, fun j hj => ?_⟩ ?_
      · rw [f2 1 0 (by omega), g1 0 (by decide) 0 (by decide), g2 0 (by decide)]; exact r0
      · rw [f2 1 1 (by omega), g1 0 (by decide) 1 (by decide), g2 (0 + 1) (by decide)]; exact r1
      · rw [f2 1 2 (by omega), g1 0 (by decide) 2 (by decide), g2 (0 + 2) (by decide)]; exact r2
      · rw [f2 31 0 (by omega), g1 30 (by decide) 0 (by decide), g2 (0 + 160) (by decide)]; exact r3
      · rw [f2 29 j (by omega), g1 28 (by decide) j hj, g2 (0 + 170 + j) (by omega), show 650 + (0 + 170 + j) = 650 + 170 + j from by omega]
        exact r4 j hj
      · obtain ⟨n, l, a1, a2, a3, a4⟩ := c2
        refine ⟨n, l, a1, ?_, fun k hk => ⟨(a3 k hk).1, (a3 k hk).2.1, ?_⟩, a4⟩
        · rw [g2 (0 + 3) (by decide)]; exact a2
        · rw [g2 (0 + 150 + k) (by omega), show 650 + (0 + 150 + k) = 650 + 150 + k from by omega]
          exact (a3 k hk).2.2
    · rw [eb0] at eb2
      cases eb2
  · rcases hq2 with ⟨eb2, -, -⟩ | ⟨-, rfl, rfl⟩
    · rw [eb0] at eb2
      cases eb2
    · exact ⟨⟨_, rfl⟩, hI⟩
theorem ku_image {g : kc_G} {h : kc_H} {a : Int32} (hg : kc_ok g) (hI : kInv h) : kc_Con g 30 157 [.inr (.inr (.inl (some 0))), .inl a] h (fun rv h1 => (∃ z : Int32, rv = some (.inl z)) ∧ kc_Con g 30 158 [.inr (.inr (.inl (some 259))), .inl a] h1 kQi) := by
  have alo := kv_lo a
  have ahi := kv_hi a
  rcases (show (0 ≤ a.toInt ∧ a.toInt ≤ 1) ∨ a.toInt < 0 ∨ 1 < a.toInt by omega) with k | k | k
  · obtain ⟨x, x1, -, rfl⟩ := ku_nat (u := 1) k.1 (by omega)
    rcases (show x = 0 ∨ x = 1 by omega) with rfl | rfl
    · exact ku_image0 hg hI
    · exact ku_image1 hg hI
  · refine kc_Con_mono (kc_Con_le (kO_ii (kd_h157tl hg) (by decide +kernel) hI ⟨⟨0, rfl, by decide, by decide⟩, kv_gi (by omega) (by omega), trivial⟩ (fun q hq => by cases hq)) (by decide)) (fun rv h1 hq => ⟨hq.1, ?_⟩)
    exact kc_Con_le (kO_ii (kd_h158a hg) (by decide +kernel) hq.2 ⟨⟨259, rfl, by decide, by decide⟩, kv_gi (by omega) (by omega), trivial⟩ (fun q hq => by cases hq)) (by decide)
  · refine kc_Con_mono (kc_Con_le (kO_ii (kd_h157th hg) (by decide +kernel) hI ⟨⟨0, rfl, by decide, by decide⟩, kv_gi (by omega) (by omega), trivial⟩ (fun q hq => by cases hq)) (by decide)) (fun rv h1 hq => ⟨hq.1, ?_⟩)
    exact kc_Con_le (kO_ii (kd_h158b hg) (by decide +kernel) hq.2 ⟨⟨259, rfl, by decide, by decide⟩, kv_gi (by omega) (by omega), trivial⟩ (fun q hq => by cases hq)) (by decide)
theorem ku_from {g : kc_G} {h : kc_H} {a : Int32} (hg : kc_ok g) (hI : kInv h) : kc_Con g 30 159 [.inr (.inr (.inl (some 0))), .inl a] h (fun rv h1 => (∃ z : Int32, rv = some (.inl z)) ∧ kc_Con g 30 160 [.inr (.inr (.inl (some 259))), .inl a] h1 kQi) := by
  have alo := kv_lo a
  have ahi := kv_hi a
  rcases (show (0 ≤ a.toInt ∧ a.toInt ≤ 1) ∨ a.toInt < 0 ∨ 1 < a.toInt by omega) with k | k | k
  · obtain ⟨x, x1, -, rfl⟩ := ku_nat (u := 1) k.1 (by omega)
    rcases (show x = 0 ∨ x = 1 by omega) with rfl | rfl
    · exact ku_from0 hg hI
    · exact ku_from1 hg hI
  · refine kc_Con_mono (kc_Con_le (kO_ii (kd_h159tl hg) (by decide +kernel) hI ⟨⟨0, rfl, by decide, by decide⟩, kv_gi (by omega) (by omega), trivial⟩ (fun q hq => by cases hq)) (by decide)) (fun rv h1 hq => ⟨hq.1, ?_⟩)
    exact kc_Con_le (kO_ii (kd_h160a hg) (by decide +kernel) hq.2 ⟨⟨259, rfl, by decide, by decide⟩, kv_gi (by omega) (by omega), trivial⟩ (fun q hq => by cases hq)) (by decide)
  · refine kc_Con_mono (kc_Con_le (kO_ii (kd_h159th hg) (by decide +kernel) hI ⟨⟨0, rfl, by decide, by decide⟩, kv_gi (by omega) (by omega), trivial⟩ (fun q hq => by cases hq)) (by decide)) (fun rv h1 hq => ⟨hq.1, ?_⟩)
    exact kc_Con_le (kO_ii (kd_h160b hg) (by decide +kernel) hq.2 ⟨⟨259, rfl, by decide, by decide⟩, kv_gi (by omega) (by omega), trivial⟩ (fun q hq => by cases hq)) (by decide)
end
