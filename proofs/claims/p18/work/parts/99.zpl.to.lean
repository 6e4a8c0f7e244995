section
-- 99.zpl
/-! ===== HALVES ===== -/
def fh_W (B : Nat → Int32) (l : Nat) : Nat := (B (80 + 7 * l + 0)).toInt.toNat
theorem fh_Wl {B : Nat → Int32} (hB : fu_BT B) {l : Nat} (hl : l < 10) : B (80 + 7 * l + 0) = Int32.ofNat (fh_W B l) ∧ fh_W B l ≤ 99 := by
  obtain ⟨k, k1, k2⟩ := fu_nat (by decide) (fu_flo l hl).2.1 (hB (80 + 7 * l + 0) (by omega) (((fu_flo l hl).1 0 (by decide)).2.2 (by decide)))
  unfold fh_W
  rw [k2, kx_ti (by omega), Int.toNat_natCast]
  exact ⟨rfl, k1⟩
theorem fh_v1 {z : Int} {x : Nat} : Int32.ofInt z + Int32.ofNat x = Int32.ofInt (z + (x : Int)) := by rw [Int32.ofInt_add, Int32.ofInt_eq_ofNat]
theorem fh_v2 {z : Int} {x : Nat} : Int32.ofInt z + -Int32.ofNat x = Int32.ofInt (z + -(x : Int)) := by rw [Int32.ofInt_add, Int32.ofInt_neg, Int32.ofInt_eq_ofNat]
theorem fh_s1 {W : Nat → Nat} {m o k : Nat} (q1 : m / 2 ^ k % 2 = 1) (q2 : o / 2 ^ k % 2 = 1) : fh_s W m o (k + 1) = fh_s W m o k + (W k : Int) := by
  show fh_s W m o k + (if m / 2 ^ k % 2 = 1 then (if o / 2 ^ k % 2 = 1 then (W k : Int) else -(W k : Int)) else 0) = _
  rw [if_pos q1, if_pos q2]
theorem fh_s2 {W : Nat → Nat} {m o k : Nat} (q1 : m / 2 ^ k % 2 = 1) (q2 : ¬ o / 2 ^ k % 2 = 1) : fh_s W m o (k + 1) = fh_s W m o k + -(W k : Int) := by
  show fh_s W m o k + (if m / 2 ^ k % 2 = 1 then (if o / 2 ^ k % 2 = 1 then (W k : Int) else -(W k : Int)) else 0) = _
  rw [if_pos q1, if_neg q2]
theorem fh_s0 {W : Nat → Nat} {m o k : Nat} (q1 : ¬ m / 2 ^ k % 2 = 1) : fh_s W m o (k + 1) = fh_s W m o k := by
  show fh_s W m o k + (if m / 2 ^ k % 2 = 1 then (if o / 2 ^ k % 2 = 1 then (W k : Int) else -(W k : Int)) else 0) = _
  rw [if_neg q1, Int.add_zero]
theorem fh_oi {z : Int} (h1 : -990 ≤ z) (h2 : z ≤ 990) : (Int32.ofInt z).toInt = z := Int32.toInt_ofInt_of_le (by omega) (by omega)
theorem fh_p {z : Int} (h1 : 0 ≤ z) (h2 : z ≤ 990) {y : Nat} (hy : (y : Int) = z) : Int32.ofInt z = Int32.ofNat y := by
  rw [← hy, Int32.ofInt_eq_ofNat]
theorem fh_n {z : Int} {y : Nat} (hy : (y : Int) = -z) : -Int32.ofInt z = Int32.ofNat y := by
  rw [← Int32.ofInt_neg, ← hy, Int32.ofInt_eq_ofNat]
theorem fh_abs {z : Int} (h1 : -990 ≤ z) (h2 : z ≤ 990) : (if (0 : Int32) ≤ Int32.ofInt z then Int32.ofInt z else 0 - Int32.ofInt z) = Int32.ofNat z.natAbs := by
  have t := fh_oi h1 h2
  have z0 : (0 : Int32).toInt = 0 := by decide
  by_cases c : 0 ≤ z
  · rw [if_pos (Int32.le_iff_toInt_le.mpr (by rw [t, z0]; exact c))]
    exact fh_p c h2 (by omega)
  · rw [if_neg (fun k => c (by have := Int32.le_iff_toInt_le.mp k; rw [t, z0] at this; exact this))]
    have e : (0 : Int32) - Int32.ofInt z = Int32.ofInt (0 - z) := by
      rw [Int32.ofInt_sub]
      rfl
    rw [e]
    exact fh_p (by omega) (by omega) (by omega)
theorem fh_pw : ∀ L, L < 11 → ((Int32.ofNat 1 <<< (Int32.ofNat L &&& 31)) - Int32.ofNat 1).toInt = ((2 ^ L : Nat) : Int) - 1 := by decide +kernel
theorem fh_pwl {L : Nat} (h : L < 11) : ((Int32.ofNat 1 <<< (Int32.ofNat L &&& 31)) - Int32.ofNat 1).toInt64.toInt = ((2 ^ L : Nat) : Int) - 1 := by rw [Int32.toInt_toInt64, fh_pw L h]
theorem fh_2p : ∀ L, L < 11 → 2 ^ L ≤ 1024 := by decide
theorem fh_m2 {x : Nat} : x % 2 < 2147483648 := Nat.lt_trans (Nat.mod_lt _ (by decide)) (by decide)
def fh_D (B : Nat → Int32) (L m : Nat) (x : Nat) : Nat := (fh_s (fh_W B) m x L).natAbs
theorem fh_Db {B : Nat → Int32} {L m x : Nat} (hB : fu_BT B) (hL : L ≤ 10) : fh_D B L m x ≤ 990 := by
  have := fh_s_b (m := m) (o := x) (fun l hl => (fh_Wl hB hl).2) L hL
  unfold fh_D
  omega
def fh_r (b : Nat) (F : fh_S) : Int32 := if b = 0 then Int32.ofNat F.1 else if b = 1 then Int32.ofNat F.2.1 else F.2.2
def fh_F (B : Nat → Int32) (L m : Nat) : fh_S := fh_f (fun x s => fh_u (fh_D B L m x) x s) m (m + 1) 0 (1000000, 0, Int32.ofNat 0)
theorem fh_1st {D : Nat → Nat} {m : Nat} {p : Int32} (h : D 0 < 1000000) : fh_f (fun x s => fh_u (D x) x s) m (m + 1) 0 (1000000, 0, p) = fh_f (fun x s => fh_u (D x) x s) m m 1 (D 0, 1, Int32.ofNat 0) := by
  show fh_f (fun x s => fh_u (D x) x s) m m 1 (if 0 &&& m = 0 then fh_u (D 0) 0 (1000000, 0, p) else (1000000, 0, p)) = _
  rw [if_pos (Nat.zero_and m)]
  unfold fh_u
  rw [if_pos h]
def fh_ans (B : Nat → Int32) (a b : Int32) : Int32 := if (fu_in a 1 (((2 ^ (B 2).toInt.toNat : Nat) : Int) - 1) && fu_in b 0 2) = true then fh_r b.toInt.toNat (fh_F B (B 2).toInt.toNat a.toInt.toNat) else Int32.ofInt (-2)
set_option maxRecDepth 20000 in
theorem fh_c86 {g : kc_G} {d : Nat} {h : kc_H} {B : Nat → Int32} {L : Nat} {a : Int32} (hg : kc_ok g) (hw : kd_wt kd_ty h) (hC : fu_C B 1 h) (hB : fu_BT B) (hL : L ≤ 10) (eL : B 2 = Int32.ofNat L) : kc_Con g (d + 2) 86 [.inr (.inr (.inl (some 1))), .inl a] h (fun rv h' => rv = some (.inl (kp_b (fu_in a 1 (((2 ^ L : Nat) : Int) - 1)))) ∧ h' = h) := by
  refine kc_Con_new hg (M := wk_m86) rfl rfl rfl (show 2 ≤ 2 by decide) ?_
  refine kx_go 4 (pc' := 4) (L' := [(0, .inr (.inr (.inl (some 1)))), (1, .inl (a))]) (S' := [.inr (.inr (.inl (some 1))), .inl (Int32.ofNat 1), .inl (Int32.ofNat 1), .inl (a)]) (h' := h) (by with_unfolding_all rfl) ?_
  refine kx_getf (c := 1) (v := .inl (Int32.ofNat L)) rfl (by decide) ((fu_C0 hC).2.2.1.trans (by rw [eL])) ?_
  refine kx_go 3 (pc' := 10) (L' := [(0, .inr (.inr (.inl (some 1)))), (1, .inl (a))]) (S' := [.inl (((Int32.ofNat 1) <<< ((Int32.ofNat L) &&& 31)) - (Int32.ofNat 1)), .inl (Int32.ofNat 1), .inl (a)]) (h' := h) (by with_unfolding_all rfl) ?_
  refine kc_call_rule (M2 := wk_m19) (av := [.inl (a), .inl (Int32.ofNat 1), .inl (((Int32.ofNat 1) <<< ((Int32.ofNat L) &&& 31)) - (Int32.ofNat 1))]) (r := []) rfl rfl (kc_Con_le (fu_bt (d := 0) (lo := 1) (hi := ((2 ^ L : Nat) : Int) - 1) hg rfl (fh_pw L (by omega))) (by omega)) (fun rv h2 hq => ?_)
  obtain ⟨rfl, e9⟩ := hq
  rw [e9]
  clear e9
  cases fu_in a 1 (((2 ^ L : Nat) : Int) - 1) with
  | false => exact kc_ret_ok rfl (rv := some (.inl (kp_b false))) rfl ⟨rfl, rfl⟩
  | true => exact kc_ret_ok rfl (rv := some (.inl (kp_b true))) rfl ⟨rfl, rfl⟩
set_option maxRecDepth 20000 in
theorem fh_r88 {g : kc_G} {d : Nat} {h : kc_H} {B : Nat → Int32} {L : Nat} {a : Int32} (hg : kc_ok g) (hw : kd_wt kd_ty h) (hC : fu_B B h) (hB : fu_BT B) (hL : L ≤ 10) (eL : B 2 = Int32.ofNat L) : kc_Con g (d + 2) 88 [.inr (.inr (.inl (some 259))), .inl a] h (fun rv h' => rv = some (.inl (kp_b (fu_in a 1 (((2 ^ L : Nat) : Int) - 1)))) ∧ h' = h) := by
  refine kc_Con_new hg (M := wk_m88) rfl rfl rfl (show 2 ≤ 2 by decide) ?_
  refine kx_go 5 (pc' := 5) (L' := [(0, .inr (.inr (.inl (some 259)))), (1, .inl (a))]) (S' := [.inr (.inr (.inl (some 259))), .inl (Int32.ofNat 1), .inr (.inl (Int64.ofNat 1)), .inr (.inl (a.toInt64))]) (h' := h) (by with_unfolding_all rfl) ?_
  refine kx_getf (c := 259) (v := .inr (.inr (.inl (some 260)))) rfl (by decide) (kx_ofr (hw _ _ _ kz_k.1)) ?_
  refine kx_go 1 (pc' := 9) (L' := [(0, .inr (.inr (.inl (some 259)))), (1, .inl (a))]) (S' := [.inl (Int32.ofNat 2), .inr (.inr (.inl (some 260))), .inl (Int32.ofNat 1), .inr (.inl (Int64.ofNat 1)), .inr (.inl (a.toInt64))]) (h' := h) (by with_unfolding_all rfl) ?_
  refine kx_iald (c := 260) (j := 2) (m := 650) (v := .inl (Int32.ofNat L)) rfl rfl (by decide) (by decide) (by decide) ((hC 2 (by decide) (by decide)).trans (by rw [eL])) ?_
  refine kx_go 4 (pc' := 14) (L' := [(0, .inr (.inr (.inl (some 259)))), (1, .inl (a))]) (S' := [.inr (.inl ((((Int32.ofNat 1) <<< ((Int32.ofNat L) &&& 31)) - (Int32.ofNat 1)).toInt64)), .inr (.inl (Int64.ofNat 1)), .inr (.inl (a.toInt64))]) (h' := h) (by with_unfolding_all rfl) ?_
  refine kc_call_rule (M2 := wk_m22) (av := [.inr (.inl (a.toInt64)), .inr (.inl (Int64.ofNat 1)), .inr (.inl ((((Int32.ofNat 1) <<< ((Int32.ofNat L) &&& 31)) - (Int32.ofNat 1)).toInt64))]) (r := []) rfl rfl (kc_Con_le (fu_li (d := 0) (lo := 1) (hi := ((2 ^ L : Nat) : Int) - 1) hg rfl (fh_pwl (by omega))) (by omega)) (fun rv h2 hq => ?_)
  obtain ⟨rfl, e9⟩ := hq
  rw [e9]
  clear e9
  cases fu_in a 1 (((2 ^ L : Nat) : Int) - 1) with
  | false => exact kc_ret_ok rfl (rv := some (.inl (kp_b false))) rfl ⟨rfl, rfl⟩
  | true => exact kc_ret_ok rfl (rv := some (.inl (kp_b true))) rfl ⟨rfl, rfl⟩
set_option maxRecDepth 20000 in
theorem fh_r237 {g : kc_G} {d : Nat} {h : kc_H} {B : Nat → Int32} {l e : Nat} (hg : kc_ok g) (hw : kd_wt kd_ty h) (hC : fu_B B h) (hl : l < 10) (he : e < 6) : kc_Con g (d + 1) 237 [.inr (.inr (.inl (some 259))), .inl (Int32.ofNat l), .inl (Int32.ofNat e)] h (fun rv h' => rv = some (.inl (B (80 + 7 * l + e))) ∧ h' = h) := by
  refine kc_Con_new hg (M := wk_m237) rfl rfl rfl (show 3 ≤ 3 by decide) ?_
  refine kx_go 1 (pc' := 1) (L' := [(0, .inr (.inr (.inl (some 259)))), (1, .inl (Int32.ofNat l)), (2, .inl (Int32.ofNat e))]) (S' := [.inr (.inr (.inl (some 259)))]) (h' := h) (by with_unfolding_all rfl) ?_
  refine kx_getf (c := 259) (v := .inr (.inr (.inl (some 260)))) rfl (by decide) (kx_ofr (hw _ _ _ kz_k.1)) ?_
  refine kx_go 7 (pc' := 13) (L' := [(0, .inr (.inr (.inl (some 259)))), (1, .inl (Int32.ofNat l)), (2, .inl (Int32.ofNat e))]) (S' := [.inl (((Int32.ofNat 80) + ((Int32.ofNat 7) * (Int32.ofNat l))) + (Int32.ofNat e)), .inr (.inr (.inl (some 260)))]) (h' := h) (by with_unfolding_all rfl) ?_
  rw [kx_mul, kx_add, kx_add]
  refine kx_iald (c := 260) (j := 80 + 7 * l + e) (m := 650) (v := .inl (B (80 + 7 * l + e))) rfl rfl (by decide) (by decide) (by omega) (hC (80 + 7 * l + e) (by omega) (((fu_flo l hl).1 e (by omega)).2.2 he)) ?_
  exact kc_ret_ok rfl (rv := some (.inl (B (80 + 7 * l + e)))) rfl ⟨rfl, rfl⟩
set_option maxRecDepth 20000 in
theorem fh_c199 {g : kc_G} {d : Nat} {h : kc_H} {m x : Nat} (hg : kc_ok g) (hm : m < 1024) (hx : x < 1024) : kc_Con g (d + 1) 199 [.inl (Int32.ofNat m), .inl (Int32.ofNat x)] h (fun rv h' => rv = some (.inl (Int32.ofNat ((x + 1024 - m) &&& m))) ∧ h' = h) := by
  refine kc_Con_new hg (M := wk_m199) rfl rfl rfl (show 2 ≤ 2 by decide) ?_
  refine kx_go 5 (pc' := 5) (L' := [(0, .inl (Int32.ofNat m)), (1, .inl (Int32.ofNat x))]) (S' := [.inl (((Int32.ofNat x) - (Int32.ofNat m)) &&& (Int32.ofNat m))]) (h' := h) (by with_unfolding_all rfl) ?_
  rw [fh_next hx hm]
  exact kc_ret_ok rfl (rv := some (.inl (Int32.ofNat ((x + 1024 - m) &&& m)))) rfl ⟨rfl, rfl⟩
set_option maxRecDepth 20000 in
theorem fh_c198l {g : kc_G} {d : Nat} {h : kc_H} {B : Nat → Int32} {L : Nat} {m x : Nat} (hw : kd_wt kd_ty h) (hC : fu_C B 1 h) (hB : fu_BT B) (hL : L ≤ 10) (eL : B 2 = Int32.ofNat L) (hm : m < 1024) (hx : x < 1024) : ∀ (u k : Nat) (v : Int32), L - k = u → k ≤ L → v = Int32.ofInt (fh_s (fh_W B) m x k) → kc_Ev g d wk_m198 (fun rv h' => rv = some (.inl (Int32.ofNat (fh_D B L m x))) ∧ h' = h) 5 [(4, .inl (Int32.ofNat k)), (3, .inl (v)), (0, .inr (.inr (.inl (some 1)))), (1, .inl (Int32.ofNat m)), (2, .inl (Int32.ofNat x))] [] h := by
  intro u
  induction u with
  | zero =>
    intro k v hu hk hv
    refine kx_go 2 (pc' := 8) (L' := [(4, .inl (Int32.ofNat k)), (3, .inl (v)), (0, .inr (.inr (.inl (some 1)))), (1, .inl (Int32.ofNat m)), (2, .inl (Int32.ofNat x))]) (S' := [.inr (.inr (.inl (some 1))), .inl (Int32.ofNat k)]) (h' := h) (by with_unfolding_all rfl) ?_
    refine kx_getf (c := 1) (v := .inl (Int32.ofNat L)) rfl (by decide) ((fu_C0 hC).2.2.1.trans (by rw [eL])) ?_
    refine kx_go 1 (pc' := (if kc_cnd .ge (Int32.ofNat k).toInt (Int32.ofNat L).toInt then 65 else 14)) (L' := [(4, .inl (Int32.ofNat k)), (3, .inl (v)), (0, .inr (.inr (.inl (some 1)))), (1, .inl (Int32.ofNat m)), (2, .inl (Int32.ofNat x))]) (S' := []) (h' := h) (by with_unfolding_all rfl) ?_
    rw [if_pos ((kx_ge (by omega) (by omega)).mpr (by omega))]
    obtain rfl : k = L := by omega
    refine kx_go 1 (pc' := 66) (L' := [(4, .inl (Int32.ofNat k)), (3, .inl (v)), (0, .inr (.inr (.inl (some 1)))), (1, .inl (Int32.ofNat m)), (2, .inl (Int32.ofNat x))]) (S' := [.inl (v)]) (h' := h) (by with_unfolding_all rfl) ?_
    refine kc_math_ok (AS' := [.inl (if (0 : Int32) ≤ v then v else 0 - v)]) rfl (by with_unfolding_all rfl) ?_
    have hz := fh_s_b (m := m) (o := x) (fun l hl => (fh_Wl hB hl).2) k hL
    rw [hv, fh_abs (by omega) (by omega)]
    exact kc_ret_ok rfl (rv := some (.inl (Int32.ofNat (fh_D B k m x)))) rfl ⟨rfl, rfl⟩
  | succ u ih =>
    intro k v hu hk hv
    refine kx_go 2 (pc' := 8) (L' := [(4, .inl (Int32.ofNat k)), (3, .inl (v)), (0, .inr (.inr (.inl (some 1)))), (1, .inl (Int32.ofNat m)), (2, .inl (Int32.ofNat x))]) (S' := [.inr (.inr (.inl (some 1))), .inl (Int32.ofNat k)]) (h' := h) (by with_unfolding_all rfl) ?_
    refine kx_getf (c := 1) (v := .inl (Int32.ofNat L)) rfl (by decide) ((fu_C0 hC).2.2.1.trans (by rw [eL])) ?_
    refine kx_go 1 (pc' := (if kc_cnd .ge (Int32.ofNat k).toInt (Int32.ofNat L).toInt then 65 else 14)) (L' := [(4, .inl (Int32.ofNat k)), (3, .inl (v)), (0, .inr (.inr (.inl (some 1)))), (1, .inl (Int32.ofNat m)), (2, .inl (Int32.ofNat x))]) (S' := []) (h' := h) (by with_unfolding_all rfl) ?_
    rw [if_neg (fun q => by have := (kx_ge (by omega) (by omega)).mp q; omega)]
    refine kx_go 7 (pc' := (if kc_cnd .ne (((Int32.ofNat m) >>> ((Int32.ofNat k) &&& 31)) &&& (Int32.ofNat 1)).toInt (Int32.ofNat 1).toInt then 59 else 24)) (L' := [(4, .inl (Int32.ofNat k)), (3, .inl (v)), (0, .inr (.inr (.inl (some 1)))), (1, .inl (Int32.ofNat m)), (2, .inl (Int32.ofNat x))]) (S' := []) (h' := h) (by with_unfolding_all rfl) ?_
    rw [fh_bit hm (by omega)]
    by_cases q1 : m / 2 ^ k % 2 = 1
    · rw [if_neg (fun q => (kx_ne fh_m2 (by decide)).mp q q1)]
      refine kx_go 8 (pc' := (if kc_cnd .ne (((Int32.ofNat x) >>> ((Int32.ofNat k) &&& 31)) &&& (Int32.ofNat 1)).toInt (Int32.ofNat 1).toInt then 47 else 35)) (L' := [(4, .inl (Int32.ofNat k)), (3, .inl (v)), (0, .inr (.inr (.inl (some 1)))), (1, .inl (Int32.ofNat m)), (2, .inl (Int32.ofNat x))]) (S' := [.inl (v)]) (h' := h) (by with_unfolding_all rfl) ?_
      rw [fh_bit hx (by omega)]
      by_cases q2 : x / 2 ^ k % 2 = 1
      · rw [if_neg (fun q => (kx_ne fh_m2 (by decide)).mp q q2)]
        refine kx_go 1 (pc' := 36) (L' := [(4, .inl (Int32.ofNat k)), (3, .inl (v)), (0, .inr (.inr (.inl (some 1)))), (1, .inl (Int32.ofNat m)), (2, .inl (Int32.ofNat x))]) (S' := [.inr (.inr (.inl (some 1))), .inl (v)]) (h' := h) (by with_unfolding_all rfl) ?_
        refine kx_getf (c := 1) (v := .inr (.inr (.inl (some 15)))) rfl (by decide) (kx_ofr (hw _ _ _ fu_kr.2.2.2.2.1)) ?_
        refine kx_go 1 (pc' := 41) (L' := [(4, .inl (Int32.ofNat k)), (3, .inl (v)), (0, .inr (.inr (.inl (some 1)))), (1, .inl (Int32.ofNat m)), (2, .inl (Int32.ofNat x))]) (S' := [.inl (Int32.ofNat k), .inr (.inr (.inl (some 15))), .inl (v)]) (h' := h) (by with_unfolding_all rfl) ?_
        refine kx_aald rfl (c := 15) (j := k) (m := 10) (t0 := 2) (v := .inr (.inr (.inl (some (1 + (15 + k)))))) rfl (by decide) (by decide) (by decide) (by omega) (kx_ofr (hw _ _ _ (fu_slo k (by omega)).2)) ?_
        refine kx_go 1 (pc' := 43) (L' := [(4, .inl (Int32.ofNat k)), (3, .inl (v)), (0, .inr (.inr (.inl (some 1)))), (1, .inl (Int32.ofNat m)), (2, .inl (Int32.ofNat x))]) (S' := [.inl (Int32.ofNat 0), .inr (.inr (.inl (some (1 + (15 + k))))), .inl (v)]) (h' := h) (by with_unfolding_all rfl) ?_
        refine kx_iald (c := 1 + (15 + k)) (j := 0) (m := 7) (v := .inl (Int32.ofNat (fh_W B k))) rfl (fu_slo k (by omega)).1.1 (fu_slo k (by omega)).1.2 (by decide) (by decide) ((fu_Cj (c := 15 + k) (i := 0) hC (by omega) (((fu_flo k (by omega)).1 0 (by decide)).2.2 (by decide)) ((fu_flo k (by omega)).1 0 (by decide)).1).trans (by rw [(fh_Wl hB (show k < 10 by omega)).1])) ?_
        refine kx_go 5 (pc' := 5) (L' := [(4, .inl ((Int32.ofNat k) + Int32.ofInt 1)), (3, .inl (v + (Int32.ofNat (fh_W B k)))), (0, .inr (.inr (.inl (some 1)))), (1, .inl (Int32.ofNat m)), (2, .inl (Int32.ofNat x))]) (S' := []) (h' := h) (by with_unfolding_all rfl) ?_
        rw [kx_inc]
        exact ih (k + 1) _ (by omega) (by omega) (by rw [hv, fh_v1, fh_s1 q1 q2])
      · rw [if_pos ((kx_ne fh_m2 (by decide)).mpr q2)]
        refine kx_go 1 (pc' := 48) (L' := [(4, .inl (Int32.ofNat k)), (3, .inl (v)), (0, .inr (.inr (.inl (some 1)))), (1, .inl (Int32.ofNat m)), (2, .inl (Int32.ofNat x))]) (S' := [.inr (.inr (.inl (some 1))), .inl (v)]) (h' := h) (by with_unfolding_all rfl) ?_
        refine kx_getf (c := 1) (v := .inr (.inr (.inl (some 15)))) rfl (by decide) (kx_ofr (hw _ _ _ fu_kr.2.2.2.2.1)) ?_
        refine kx_go 1 (pc' := 53) (L' := [(4, .inl (Int32.ofNat k)), (3, .inl (v)), (0, .inr (.inr (.inl (some 1)))), (1, .inl (Int32.ofNat m)), (2, .inl (Int32.ofNat x))]) (S' := [.inl (Int32.ofNat k), .inr (.inr (.inl (some 15))), .inl (v)]) (h' := h) (by with_unfolding_all rfl) ?_
        refine kx_aald rfl (c := 15) (j := k) (m := 10) (t0 := 2) (v := .inr (.inr (.inl (some (1 + (15 + k)))))) rfl (by decide) (by decide) (by decide) (by omega) (kx_ofr (hw _ _ _ (fu_slo k (by omega)).2)) ?_
        refine kx_go 1 (pc' := 55) (L' := [(4, .inl (Int32.ofNat k)), (3, .inl (v)), (0, .inr (.inr (.inl (some 1)))), (1, .inl (Int32.ofNat m)), (2, .inl (Int32.ofNat x))]) (S' := [.inl (Int32.ofNat 0), .inr (.inr (.inl (some (1 + (15 + k))))), .inl (v)]) (h' := h) (by with_unfolding_all rfl) ?_
        refine kx_iald (c := 1 + (15 + k)) (j := 0) (m := 7) (v := .inl (Int32.ofNat (fh_W B k))) rfl (fu_slo k (by omega)).1.1 (fu_slo k (by omega)).1.2 (by decide) (by decide) ((fu_Cj (c := 15 + k) (i := 0) hC (by omega) (((fu_flo k (by omega)).1 0 (by decide)).2.2 (by decide)) ((fu_flo k (by omega)).1 0 (by decide)).1).trans (by rw [(fh_Wl hB (show k < 10 by omega)).1])) ?_
        refine kx_go 5 (pc' := 5) (L' := [(4, .inl ((Int32.ofNat k) + Int32.ofInt 1)), (3, .inl (v + (-(Int32.ofNat (fh_W B k))))), (0, .inr (.inr (.inl (some 1)))), (1, .inl (Int32.ofNat m)), (2, .inl (Int32.ofNat x))]) (S' := []) (h' := h) (by with_unfolding_all rfl) ?_
        rw [kx_inc]
        exact ih (k + 1) _ (by omega) (by omega) (by rw [hv, fh_v2, fh_s2 q1 q2])
    · rw [if_pos ((kx_ne fh_m2 (by decide)).mpr q1)]
      refine kx_go 2 (pc' := 5) (L' := [(4, .inl ((Int32.ofNat k) + Int32.ofInt 1)), (3, .inl (v)), (0, .inr (.inr (.inl (some 1)))), (1, .inl (Int32.ofNat m)), (2, .inl (Int32.ofNat x))]) (S' := []) (h' := h) (by with_unfolding_all rfl) ?_
      rw [kx_inc]
      exact ih (k + 1) v (by omega) (by omega) (by rw [hv, fh_s0 q1])
set_option maxRecDepth 20000 in
theorem fh_c198 {g : kc_G} {d : Nat} {h : kc_H} {B : Nat → Int32} {L : Nat} {m x : Nat} (hg : kc_ok g) (hw : kd_wt kd_ty h) (hC : fu_C B 1 h) (hB : fu_BT B) (hL : L ≤ 10) (eL : B 2 = Int32.ofNat L) (hm : m < 1024) (hx : x < 1024) : kc_Con g (d + 1) 198 [.inr (.inr (.inl (some 1))), .inl (Int32.ofNat m), .inl (Int32.ofNat x)] h (fun rv h' => rv = some (.inl (Int32.ofNat (fh_D B L m x))) ∧ h' = h) := by
  refine kc_Con_new hg (M := wk_m198) rfl rfl rfl (show 3 ≤ 5 by decide) ?_
  refine kx_go 4 (pc' := 5) (L' := [(4, .inl (Int32.ofNat 0)), (3, .inl (Int32.ofNat 0)), (0, .inr (.inr (.inl (some 1)))), (1, .inl (Int32.ofNat m)), (2, .inl (Int32.ofNat x))]) (S' := []) (h' := h) (by with_unfolding_all rfl) ?_
  exact fh_c198l hw hC hB hL eL hm hx L 0 _ (by omega) (by omega) (by unfold fh_s; rfl)
set_option maxRecDepth 20000 in
theorem fh_r257l {g : kc_G} {d : Nat} {h : kc_H} {B : Nat → Int32} {L : Nat} {m x : Nat} (hg : kc_ok g) (hw : kd_wt kd_ty h) (hC : fu_B B h) (hB : fu_BT B) (hL : L ≤ 10) (eL : B 2 = Int32.ofNat L) (hm : m < 1024) (hx : x < 1024) : ∀ (u k : Nat) (v : Int32), L - k = u → k ≤ L → v = Int32.ofInt (-(fh_s (fh_W B) m x k)) → kc_Ev g (d + 1) wk_m257 (fun rv h' => rv = some (.inl (Int32.ofNat (fh_D B L m x))) ∧ h' = h) 5 [(4, .inl (Int32.ofNat k)), (3, .inl (v)), (0, .inr (.inr (.inl (some 259)))), (1, .inl (Int32.ofNat m)), (2, .inl (Int32.ofNat x))] [] h := by
  intro u
  induction u with
  | zero =>
    intro k v hu hk hv
    refine kx_go 2 (pc' := 8) (L' := [(4, .inl (Int32.ofNat k)), (3, .inl (v)), (0, .inr (.inr (.inl (some 259)))), (1, .inl (Int32.ofNat m)), (2, .inl (Int32.ofNat x))]) (S' := [.inr (.inr (.inl (some 259))), .inl (Int32.ofNat k)]) (h' := h) (by with_unfolding_all rfl) ?_
    refine kx_getf (c := 259) (v := .inr (.inr (.inl (some 260)))) rfl (by decide) (kx_ofr (hw _ _ _ kz_k.1)) ?_
    refine kx_go 1 (pc' := 12) (L' := [(4, .inl (Int32.ofNat k)), (3, .inl (v)), (0, .inr (.inr (.inl (some 259)))), (1, .inl (Int32.ofNat m)), (2, .inl (Int32.ofNat x))]) (S' := [.inl (Int32.ofNat 2), .inr (.inr (.inl (some 260))), .inl (Int32.ofNat k)]) (h' := h) (by with_unfolding_all rfl) ?_
    refine kx_iald (c := 260) (j := 2) (m := 650) (v := .inl (Int32.ofNat L)) rfl rfl (by decide) (by decide) (by decide) ((hC 2 (by decide) (by decide)).trans (by rw [eL])) ?_
    refine kx_go 1 (pc' := (if kc_cnd .ge (Int32.ofNat k).toInt (Int32.ofNat L).toInt then 66 else 16)) (L' := [(4, .inl (Int32.ofNat k)), (3, .inl (v)), (0, .inr (.inr (.inl (some 259)))), (1, .inl (Int32.ofNat m)), (2, .inl (Int32.ofNat x))]) (S' := []) (h' := h) (by with_unfolding_all rfl) ?_
    rw [if_pos ((kx_ge (by omega) (by omega)).mpr (by omega))]
    obtain rfl : k = L := by omega
    have hz := fh_s_b (m := m) (o := x) (fun l hl => (fh_Wl hB hl).2) k hL
    have ev : v.toInt = -(fh_s (fh_W B) m x k) := by rw [hv, fh_oi (by omega) (by omega)]
    refine kx_go 2 (pc' := (if kc_cnd .ge (v).toInt 0 then 75 else 70)) (L' := [(4, .inl (Int32.ofNat k)), (3, .inl (v)), (0, .inr (.inr (.inl (some 259)))), (1, .inl (Int32.ofNat m)), (2, .inl (Int32.ofNat x))]) (S' := []) (h' := h) (by with_unfolding_all rfl) ?_
    by_cases c : v.toInt < 0
    · rw [if_neg (fun q => (fu_ige.mp q) c)]
      refine kx_go 3 (pc' := 76) (L' := [(4, .inl (Int32.ofNat k)), (3, .inl (v)), (0, .inr (.inr (.inl (some 259)))), (1, .inl (Int32.ofNat m)), (2, .inl (Int32.ofNat x))]) (S' := [.inl (-v)]) (h' := h) (by with_unfolding_all rfl) ?_
      rw [hv, fh_n (y := fh_D B k m x) (by unfold fh_D; omega)]
      exact kc_ret_ok rfl (rv := some (.inl (Int32.ofNat (fh_D B k m x)))) rfl ⟨rfl, rfl⟩
    · rw [if_pos (fu_ige.mpr c)]
      refine kx_go 1 (pc' := 76) (L' := [(4, .inl (Int32.ofNat k)), (3, .inl (v)), (0, .inr (.inr (.inl (some 259)))), (1, .inl (Int32.ofNat m)), (2, .inl (Int32.ofNat x))]) (S' := [.inl (v)]) (h' := h) (by with_unfolding_all rfl) ?_
      rw [hv, fh_p (y := fh_D B k m x) (by omega) (by omega) (by unfold fh_D; omega)]
      exact kc_ret_ok rfl (rv := some (.inl (Int32.ofNat (fh_D B k m x)))) rfl ⟨rfl, rfl⟩
  | succ u ih =>
    intro k v hu hk hv
    refine kx_go 2 (pc' := 8) (L' := [(4, .inl (Int32.ofNat k)), (3, .inl (v)), (0, .inr (.inr (.inl (some 259)))), (1, .inl (Int32.ofNat m)), (2, .inl (Int32.ofNat x))]) (S' := [.inr (.inr (.inl (some 259))), .inl (Int32.ofNat k)]) (h' := h) (by with_unfolding_all rfl) ?_
    refine kx_getf (c := 259) (v := .inr (.inr (.inl (some 260)))) rfl (by decide) (kx_ofr (hw _ _ _ kz_k.1)) ?_
    refine kx_go 1 (pc' := 12) (L' := [(4, .inl (Int32.ofNat k)), (3, .inl (v)), (0, .inr (.inr (.inl (some 259)))), (1, .inl (Int32.ofNat m)), (2, .inl (Int32.ofNat x))]) (S' := [.inl (Int32.ofNat 2), .inr (.inr (.inl (some 260))), .inl (Int32.ofNat k)]) (h' := h) (by with_unfolding_all rfl) ?_
    refine kx_iald (c := 260) (j := 2) (m := 650) (v := .inl (Int32.ofNat L)) rfl rfl (by decide) (by decide) (by decide) ((hC 2 (by decide) (by decide)).trans (by rw [eL])) ?_
    refine kx_go 1 (pc' := (if kc_cnd .ge (Int32.ofNat k).toInt (Int32.ofNat L).toInt then 66 else 16)) (L' := [(4, .inl (Int32.ofNat k)), (3, .inl (v)), (0, .inr (.inr (.inl (some 259)))), (1, .inl (Int32.ofNat m)), (2, .inl (Int32.ofNat x))]) (S' := []) (h' := h) (by with_unfolding_all rfl) ?_
    rw [if_neg (fun q => by have := (kx_ge (by omega) (by omega)).mp q; omega)]
    refine kx_go 7 (pc' := (if kc_cnd .ne (((Int32.ofNat m) >>> ((Int32.ofNat k) &&& 31)) &&& (Int32.ofNat 1)).toInt (Int32.ofNat 1).toInt then 36 else 26)) (L' := [(4, .inl (Int32.ofNat k)), (3, .inl (v)), (0, .inr (.inr (.inl (some 259)))), (1, .inl (Int32.ofNat m)), (2, .inl (Int32.ofNat x))]) (S' := []) (h' := h) (by with_unfolding_all rfl) ?_
    rw [fh_bit hm (by omega)]
    by_cases q1 : m / 2 ^ k % 2 = 1
    · rw [if_neg (fun q => (kx_ne fh_m2 (by decide)).mp q q1)]
      refine kx_go 3 (pc' := 30) (L' := [(4, .inl (Int32.ofNat k)), (3, .inl (v)), (0, .inr (.inr (.inl (some 259)))), (1, .inl (Int32.ofNat m)), (2, .inl (Int32.ofNat x))]) (S' := [.inl (Int32.ofNat 0), .inl (Int32.ofNat k), .inr (.inr (.inl (some 259)))]) (h' := h) (by with_unfolding_all rfl) ?_
      refine kc_call_rule (M2 := wk_m237) (av := [.inr (.inr (.inl (some 259))), .inl (Int32.ofNat k), .inl (Int32.ofNat 0)]) (r := []) rfl rfl (kc_Con_le (fh_r237 (d := 0) (e := 0) hg hw hC (show k < 10 by omega) (by decide)) (by omega)) (fun rv h2 hq => ?_)
      obtain ⟨rfl, e9⟩ := hq
      rw [e9]
      clear e9
      rw [(fh_Wl hB (show k < 10 by omega)).1]
      show kc_Ev g (d + 1) wk_m257 _ 33 [(4, .inl (Int32.ofNat k)), (3, .inl (v)), (0, .inr (.inr (.inl (some 259)))), (1, .inl (Int32.ofNat m)), (2, .inl (Int32.ofNat x))] [.inl (Int32.ofNat (fh_W B k))] h
      refine kx_go 10 (pc' := (if kc_cnd .ne (((Int32.ofNat x) >>> ((Int32.ofNat k) &&& 31)) &&& (Int32.ofNat 1)).toInt (Int32.ofNat 1).toInt then 56 else 50)) (L' := [(5, .inl (Int32.ofNat (fh_W B k))), (4, .inl (Int32.ofNat k)), (3, .inl (v)), (0, .inr (.inr (.inl (some 259)))), (1, .inl (Int32.ofNat m)), (2, .inl (Int32.ofNat x))]) (S' := [.inl (v)]) (h' := h) (by with_unfolding_all rfl) ?_
      rw [fh_bit hx (by omega)]
      by_cases q2 : x / 2 ^ k % 2 = 1
      · rw [if_neg (fun q => (kx_ne fh_m2 (by decide)).mp q q2)]
        refine kx_go 7 (pc' := 5) (L' := [(4, .inl ((Int32.ofNat k) + Int32.ofInt 1)), (3, .inl (v + (-(Int32.ofNat (fh_W B k))))), (5, .inl (Int32.ofNat (fh_W B k))), (0, .inr (.inr (.inl (some 259)))), (1, .inl (Int32.ofNat m)), (2, .inl (Int32.ofNat x))]) (S' := []) (h' := h) (by with_unfolding_all rfl) ?_
        rw [kx_inc]
        refine kf_lo (L := [(4, .inl (Int32.ofNat (k + 1))), (3, .inl (v + (-(Int32.ofNat (fh_W B k))))), (0, .inr (.inr (.inl (some 259)))), (1, .inl (Int32.ofNat m)), (2, .inl (Int32.ofNat x))]) (by intro q hq; simp only [List.mem_cons, List.not_mem_nil, or_false] at hq; rcases hq with rfl | rfl | rfl | rfl | rfl <;> rfl) ?_
        exact ih (k + 1) _ (by omega) (by omega) (by rw [hv, fh_v2, fh_s1 q1 q2]; exact congrArg Int32.ofInt (by omega))
      · rw [if_pos ((kx_ne fh_m2 (by decide)).mpr q2)]
        refine kx_go 5 (pc' := 5) (L' := [(4, .inl ((Int32.ofNat k) + Int32.ofInt 1)), (3, .inl (v + (Int32.ofNat (fh_W B k)))), (5, .inl (Int32.ofNat (fh_W B k))), (0, .inr (.inr (.inl (some 259)))), (1, .inl (Int32.ofNat m)), (2, .inl (Int32.ofNat x))]) (S' := []) (h' := h) (by with_unfolding_all rfl) ?_
        rw [kx_inc]
        refine kf_lo (L := [(4, .inl (Int32.ofNat (k + 1))), (3, .inl (v + (Int32.ofNat (fh_W B k)))), (0, .inr (.inr (.inl (some 259)))), (1, .inl (Int32.ofNat m)), (2, .inl (Int32.ofNat x))]) (by intro q hq; simp only [List.mem_cons, List.not_mem_nil, or_false] at hq; rcases hq with rfl | rfl | rfl | rfl | rfl <;> rfl) ?_
        exact ih (k + 1) _ (by omega) (by omega) (by rw [hv, fh_v1, fh_s2 q1 q2]; exact congrArg Int32.ofInt (by omega))
    · rw [if_pos ((kx_ne fh_m2 (by decide)).mpr q1)]
      refine kx_go 10 (pc' := (if kc_cnd .ne (((Int32.ofNat x) >>> ((Int32.ofNat k) &&& 31)) &&& (Int32.ofNat 1)).toInt (Int32.ofNat 1).toInt then 56 else 50)) (L' := [(5, .inl (Int32.ofNat 0)), (4, .inl (Int32.ofNat k)), (3, .inl (v)), (0, .inr (.inr (.inl (some 259)))), (1, .inl (Int32.ofNat m)), (2, .inl (Int32.ofNat x))]) (S' := [.inl (v)]) (h' := h) (by with_unfolding_all rfl) ?_
      rw [fh_bit hx (by omega)]
      by_cases q2 : x / 2 ^ k % 2 = 1
      · rw [if_neg (fun q => (kx_ne fh_m2 (by decide)).mp q q2)]
        refine kx_go 7 (pc' := 5) (L' := [(4, .inl ((Int32.ofNat k) + Int32.ofInt 1)), (3, .inl (v + (-(Int32.ofNat 0)))), (5, .inl (Int32.ofNat 0)), (0, .inr (.inr (.inl (some 259)))), (1, .inl (Int32.ofNat m)), (2, .inl (Int32.ofNat x))]) (S' := []) (h' := h) (by with_unfolding_all rfl) ?_
        rw [kx_inc]
        refine kf_lo (L := [(4, .inl (Int32.ofNat (k + 1))), (3, .inl (v + (-(Int32.ofNat 0)))), (0, .inr (.inr (.inl (some 259)))), (1, .inl (Int32.ofNat m)), (2, .inl (Int32.ofNat x))]) (by intro q hq; simp only [List.mem_cons, List.not_mem_nil, or_false] at hq; rcases hq with rfl | rfl | rfl | rfl | rfl <;> rfl) ?_
        exact ih (k + 1) _ (by omega) (by omega) (by rw [hv, fh_v2, fh_s0 q1]; exact congrArg Int32.ofInt (by omega))
      · rw [if_pos ((kx_ne fh_m2 (by decide)).mpr q2)]
        refine kx_go 5 (pc' := 5) (L' := [(4, .inl ((Int32.ofNat k) + Int32.ofInt 1)), (3, .inl (v + (Int32.ofNat 0))), (5, .inl (Int32.ofNat 0)), (0, .inr (.inr (.inl (some 259)))), (1, .inl (Int32.ofNat m)), (2, .inl (Int32.ofNat x))]) (S' := []) (h' := h) (by with_unfolding_all rfl) ?_
        rw [kx_inc]
        refine kf_lo (L := [(4, .inl (Int32.ofNat (k + 1))), (3, .inl (v + (Int32.ofNat 0))), (0, .inr (.inr (.inl (some 259)))), (1, .inl (Int32.ofNat m)), (2, .inl (Int32.ofNat x))]) (by intro q hq; simp only [List.mem_cons, List.not_mem_nil, or_false] at hq; rcases hq with rfl | rfl | rfl | rfl | rfl <;> rfl) ?_
        exact ih (k + 1) _ (by omega) (by omega) (by rw [hv, fh_v1, fh_s0 q1]; exact congrArg Int32.ofInt (by omega))
set_option maxRecDepth 20000 in
theorem fh_r257 {g : kc_G} {d : Nat} {h : kc_H} {B : Nat → Int32} {L : Nat} {m x : Nat} (hg : kc_ok g) (hw : kd_wt kd_ty h) (hC : fu_B B h) (hB : fu_BT B) (hL : L ≤ 10) (eL : B 2 = Int32.ofNat L) (hm : m < 1024) (hx : x < 1024) : kc_Con g (d + 2) 257 [.inr (.inr (.inl (some 259))), .inl (Int32.ofNat m), .inl (Int32.ofNat x)] h (fun rv h' => rv = some (.inl (Int32.ofNat (fh_D B L m x))) ∧ h' = h) := by
  refine kc_Con_new hg (M := wk_m257) rfl rfl rfl (show 3 ≤ 6 by decide) ?_
  refine kx_go 4 (pc' := 5) (L' := [(4, .inl (Int32.ofNat 0)), (3, .inl (Int32.ofNat 0)), (0, .inr (.inr (.inl (some 259)))), (1, .inl (Int32.ofNat m)), (2, .inl (Int32.ofNat x))]) (S' := []) (h' := h) (by with_unfolding_all rfl) ?_
  exact fh_r257l hg hw hC hB hL eL hm hx L 0 _ (by omega) (by omega) (by unfold fh_s; rfl)
set_option maxRecDepth 20000 in
theorem fh_c85e {g : kc_G} {d b a n m : Nat} {f : Int32} {h : kc_H} {F : fh_S} (hb : b ≤ 2) (hF : (a, n, f) = F) : kc_Ev g d wk_m85 (fun rv h' => rv = some (.inl (fh_r b F)) ∧ h' = h) 106 [(5, .inl (f)), (4, .inl (Int32.ofNat n)), (3, .inl (Int32.ofNat a)), (0, .inr (.inr (.inl (some 0)))), (1, .inl (Int32.ofNat m)), (2, .inl (Int32.ofNat b))] [] h := by
  rcases (show b = 0 ∨ b = 1 ∨ b = 2 by omega) with rfl | rfl | rfl
  · refine kx_go 4 (pc' := 126) (L' := [(5, .inl (f)), (4, .inl (Int32.ofNat n)), (3, .inl (Int32.ofNat a)), (0, .inr (.inr (.inl (some 0)))), (1, .inl (Int32.ofNat m)), (2, .inl (Int32.ofNat 0))]) (S' := [.inl (Int32.ofNat a)]) (h' := h) (by with_unfolding_all rfl) ?_
    subst hF
    exact kc_ret_ok rfl (rv := some (.inl (Int32.ofNat a))) rfl ⟨rfl, rfl⟩
  · refine kx_go 7 (pc' := 126) (L' := [(5, .inl (f)), (4, .inl (Int32.ofNat n)), (3, .inl (Int32.ofNat a)), (0, .inr (.inr (.inl (some 0)))), (1, .inl (Int32.ofNat m)), (2, .inl (Int32.ofNat 1))]) (S' := [.inl (Int32.ofNat n)]) (h' := h) (by with_unfolding_all rfl) ?_
    subst hF
    exact kc_ret_ok rfl (rv := some (.inl (Int32.ofNat n))) rfl ⟨rfl, rfl⟩
  · refine kx_go 6 (pc' := 126) (L' := [(5, .inl (f)), (4, .inl (Int32.ofNat n)), (3, .inl (Int32.ofNat a)), (0, .inr (.inr (.inl (some 0)))), (1, .inl (Int32.ofNat m)), (2, .inl (Int32.ofNat 2))]) (S' := [.inl (f)]) (h' := h) (by with_unfolding_all rfl) ?_
    subst hF
    exact kc_ret_ok rfl (rv := some (.inl (f))) rfl ⟨rfl, rfl⟩
set_option maxRecDepth 20000 in
theorem fh_r87e {g : kc_G} {d b a n m : Nat} {f : Int32} {h : kc_H} {F : fh_S} (hb : b ≤ 2) (hF : (a, n, f) = F) : kc_Ev g d wk_m87 (fun rv h' => rv = some (.inl (fh_r b F)) ∧ h' = h) 98 [(5, .inl (f)), (4, .inl (Int32.ofNat n)), (3, .inl (Int32.ofNat a)), (0, .inr (.inr (.inl (some 259)))), (1, .inl (Int32.ofNat m)), (2, .inl (Int32.ofNat b))] [] h := by
  rcases (show b = 0 ∨ b = 1 ∨ b = 2 by omega) with rfl | rfl | rfl
  · refine kx_go 4 (pc' := 118) (L' := [(5, .inl (f)), (4, .inl (Int32.ofNat n)), (3, .inl (Int32.ofNat a)), (0, .inr (.inr (.inl (some 259)))), (1, .inl (Int32.ofNat m)), (2, .inl (Int32.ofNat 0))]) (S' := [.inl (Int32.ofNat a)]) (h' := h) (by with_unfolding_all rfl) ?_
    subst hF
    exact kc_ret_ok rfl (rv := some (.inl (Int32.ofNat a))) rfl ⟨rfl, rfl⟩
  · refine kx_go 7 (pc' := 118) (L' := [(5, .inl (f)), (4, .inl (Int32.ofNat n)), (3, .inl (Int32.ofNat a)), (0, .inr (.inr (.inl (some 259)))), (1, .inl (Int32.ofNat m)), (2, .inl (Int32.ofNat 1))]) (S' := [.inl (Int32.ofNat n)]) (h' := h) (by with_unfolding_all rfl) ?_
    subst hF
    exact kc_ret_ok rfl (rv := some (.inl (Int32.ofNat n))) rfl ⟨rfl, rfl⟩
  · refine kx_go 6 (pc' := 118) (L' := [(5, .inl (f)), (4, .inl (Int32.ofNat n)), (3, .inl (Int32.ofNat a)), (0, .inr (.inr (.inl (some 259)))), (1, .inl (Int32.ofNat m)), (2, .inl (Int32.ofNat 2))]) (S' := [.inl (f)]) (h' := h) (by with_unfolding_all rfl) ?_
    subst hF
    exact kc_ret_ok rfl (rv := some (.inl (f))) rfl ⟨rfl, rfl⟩
set_option maxRecDepth 20000 in
theorem fh_c85l {g : kc_G} {d : Nat} {h : kc_H} {B : Nat → Int32} {L : Nat} {m b : Nat} {F : fh_S} (hg : kc_ok g) (hw : kd_wt kd_ty h) (hC : fu_C B 1 h) (hB : fu_BT B) (hL : L ≤ 10) (eL : B 2 = Int32.ofNat L) (hm : m < 1024) (hb : b ≤ 2) : ∀ (u k x a n : Nat) (f : Int32), m + 1 - x ≤ u → x ≤ m → x &&& m = x → k ≤ x → a ≤ 1000000 → fh_f (fun x s => fh_u (fh_D B L m x) x s) m (m + 1 - x) x (a, n, f) = F → kc_Ev g (d + 3) wk_m85 (fun rv h' => rv = some (.inl (fh_r b F)) ∧ h' = h) 38 [(7, .inl (Int32.ofNat k)), (6, .inl (Int32.ofNat x)), (5, .inl (f)), (4, .inl (Int32.ofNat n)), (3, .inl (Int32.ofNat a)), (0, .inr (.inr (.inl (some 0)))), (1, .inl (Int32.ofNat m)), (2, .inl (Int32.ofNat b))] [] h := by
  intro u
  induction u with
  | zero =>
    intro k x a n f hu hx hs hk ha hF
    omega
  | succ u ih =>
    intro k x a n f hu hx hs hk ha hF
    have hD := fh_Db (m := m) (x := x) hB hL
    refine kx_go 3 (pc' := (if kc_cnd .ge (Int32.ofNat k).toInt (Int32.ofNat 1024).toInt then 106 else 46)) (L' := [(7, .inl (Int32.ofNat k)), (6, .inl (Int32.ofNat x)), (5, .inl (f)), (4, .inl (Int32.ofNat n)), (3, .inl (Int32.ofNat a)), (0, .inr (.inr (.inl (some 0)))), (1, .inl (Int32.ofNat m)), (2, .inl (Int32.ofNat b))]) (S' := []) (h' := h) (by with_unfolding_all rfl) ?_
    rw [if_neg (fun q => by have := (kx_ge (by omega) (by omega)).mp q; omega)]
    refine kx_go 1 (pc' := 47) (L' := [(7, .inl (Int32.ofNat k)), (6, .inl (Int32.ofNat x)), (5, .inl (f)), (4, .inl (Int32.ofNat n)), (3, .inl (Int32.ofNat a)), (0, .inr (.inr (.inl (some 0)))), (1, .inl (Int32.ofNat m)), (2, .inl (Int32.ofNat b))]) (S' := [.inr (.inr (.inl (some 0)))]) (h' := h) (by with_unfolding_all rfl) ?_
    refine kx_getf (c := 0) (v := .inr (.inr (.inl (some 1)))) rfl (by decide) (kx_ofr (hw _ _ _ kv_k0.1)) ?_
    refine kx_go 2 (pc' := 53) (L' := [(7, .inl (Int32.ofNat k)), (6, .inl (Int32.ofNat x)), (5, .inl (f)), (4, .inl (Int32.ofNat n)), (3, .inl (Int32.ofNat a)), (0, .inr (.inr (.inl (some 0)))), (1, .inl (Int32.ofNat m)), (2, .inl (Int32.ofNat b))]) (S' := [.inl (Int32.ofNat x), .inl (Int32.ofNat m), .inr (.inr (.inl (some 1)))]) (h' := h) (by with_unfolding_all rfl) ?_
    refine kc_call_rule (M2 := wk_m198) (av := [.inr (.inr (.inl (some 1))), .inl (Int32.ofNat m), .inl (Int32.ofNat x)]) (r := []) rfl rfl (kc_Con_le (fh_c198 (d := 0) hg hw hC hB hL eL hm (show x < 1024 by omega)) (by omega)) (fun rv h2 hq => ?_)
    obtain ⟨rfl, e9⟩ := hq
    rw [e9]
    clear e9
    show kc_Ev g (d + 3) wk_m85 _ 56 [(7, .inl (Int32.ofNat k)), (6, .inl (Int32.ofNat x)), (5, .inl (f)), (4, .inl (Int32.ofNat n)), (3, .inl (Int32.ofNat a)), (0, .inr (.inr (.inl (some 0)))), (1, .inl (Int32.ofNat m)), (2, .inl (Int32.ofNat b))] [.inl (Int32.ofNat (fh_D B L m x))] h
    have tail : ∀ (a2 n2 : Nat) (f2 : Int32), a2 ≤ 1000000 → fh_u (fh_D B L m x) x (a, n, f) = (a2, n2, f2) → kc_Ev g (d + 3) wk_m85 (fun rv h' => rv = some (.inl (fh_r b F)) ∧ h' = h) 83 [(7, .inl (Int32.ofNat k)), (6, .inl (Int32.ofNat x)), (5, .inl (f2)), (4, .inl (Int32.ofNat n2)), (3, .inl (Int32.ofNat a2)), (0, .inr (.inr (.inl (some 0)))), (1, .inl (Int32.ofNat m)), (2, .inl (Int32.ofNat b))] [] h := by
      intro a2 n2 f2 ha2 hf2
      refine kx_go 3 (pc' := (if kc_cnd .ne (Int32.ofNat x).toInt (Int32.ofNat m).toInt then 92 else 89)) (L' := [(7, .inl (Int32.ofNat k)), (6, .inl (Int32.ofNat x)), (5, .inl (f2)), (4, .inl (Int32.ofNat n2)), (3, .inl (Int32.ofNat a2)), (0, .inr (.inr (.inl (some 0)))), (1, .inl (Int32.ofNat m)), (2, .inl (Int32.ofNat b))]) (S' := []) (h' := h) (by with_unfolding_all rfl) ?_
      by_cases c : x = m
      · rw [if_neg (fun q => (kx_ne (by omega) (by omega)).mp q c)]
        refine kx_go 1 (pc' := 106) (L' := [(7, .inl (Int32.ofNat k)), (6, .inl (Int32.ofNat x)), (5, .inl (f2)), (4, .inl (Int32.ofNat n2)), (3, .inl (Int32.ofNat a2)), (0, .inr (.inr (.inl (some 0)))), (1, .inl (Int32.ofNat m)), (2, .inl (Int32.ofNat b))]) (S' := []) (h' := h) (by with_unfolding_all rfl) ?_
        refine kf_lo (L := [(5, .inl (f2)), (4, .inl (Int32.ofNat n2)), (3, .inl (Int32.ofNat a2)), (0, .inr (.inr (.inl (some 0)))), (1, .inl (Int32.ofNat m)), (2, .inl (Int32.ofNat b))]) (by intro q hq; simp only [List.mem_cons, List.not_mem_nil, or_false] at hq; rcases hq with rfl | rfl | rfl | rfl | rfl | rfl <;> rfl) ?_
        refine fh_c85e hb ?_
        rw [← hF, c, fh_end]
        rw [c] at hf2
        exact hf2.symm
      · rw [if_pos ((kx_ne (by omega) (by omega)).mpr c)]
        refine kx_go 2 (pc' := 95) (L' := [(7, .inl (Int32.ofNat k)), (6, .inl (Int32.ofNat x)), (5, .inl (f2)), (4, .inl (Int32.ofNat n2)), (3, .inl (Int32.ofNat a2)), (0, .inr (.inr (.inl (some 0)))), (1, .inl (Int32.ofNat m)), (2, .inl (Int32.ofNat b))]) (S' := [.inl (Int32.ofNat x), .inl (Int32.ofNat m)]) (h' := h) (by with_unfolding_all rfl) ?_
        refine kc_call_rule (M2 := wk_m199) (av := [.inl (Int32.ofNat m), .inl (Int32.ofNat x)]) (r := []) rfl rfl (kc_Con_le (fh_c199 (d := 0) hg hm (show x < 1024 by omega)) (by omega)) (fun rv h2 hq => ?_)
        obtain ⟨rfl, e9⟩ := hq
        rw [e9]
        clear e9
        show kc_Ev g (d + 3) wk_m85 _ 98 [(7, .inl (Int32.ofNat k)), (6, .inl (Int32.ofNat x)), (5, .inl (f2)), (4, .inl (Int32.ofNat n2)), (3, .inl (Int32.ofNat a2)), (0, .inr (.inr (.inl (some 0)))), (1, .inl (Int32.ofNat m)), (2, .inl (Int32.ofNat b))] [.inl (Int32.ofNat ((x + 1024 - m) &&& m))] h
        obtain ⟨y1, y2, y3, -⟩ := fh_nx hm (show x < m by omega) hs
        refine kx_go 3 (pc' := 38) (L' := [(7, .inl ((Int32.ofNat k) + Int32.ofInt 1)), (6, .inl (Int32.ofNat ((x + 1024 - m) &&& m))), (5, .inl (f2)), (4, .inl (Int32.ofNat n2)), (3, .inl (Int32.ofNat a2)), (0, .inr (.inr (.inl (some 0)))), (1, .inl (Int32.ofNat m)), (2, .inl (Int32.ofNat b))]) (S' := []) (h' := h) (by with_unfolding_all rfl) ?_
        rw [kx_inc]
        refine kf_lo (L := [(7, .inl (Int32.ofNat (k + 1))), (6, .inl (Int32.ofNat ((x + 1024 - m) &&& m))), (5, .inl (f2)), (4, .inl (Int32.ofNat n2)), (3, .inl (Int32.ofNat a2)), (0, .inr (.inr (.inl (some 0)))), (1, .inl (Int32.ofNat m)), (2, .inl (Int32.ofNat b))]) (by intro q hq; simp only [List.mem_cons, List.not_mem_nil, or_false] at hq; rcases hq with rfl | rfl | rfl | rfl | rfl | rfl | rfl | rfl <;> rfl) ?_
        exact ih (k + 1) _ a2 n2 f2 (by omega) y2 y3 (by omega) ha2 (by rw [← hF, fh_stp hm (show x < m by omega) hs]; show _ = fh_f _ m _ _ (fh_u (fh_D B L m x) x (a, n, f)); rw [hf2])
    refine kx_go 4 (pc' := (if kc_cnd .ge (Int32.ofNat (fh_D B L m x)).toInt (Int32.ofNat a).toInt then 74 else 64)) (L' := [(8, .inl (Int32.ofNat (fh_D B L m x))), (7, .inl (Int32.ofNat k)), (6, .inl (Int32.ofNat x)), (5, .inl (f)), (4, .inl (Int32.ofNat n)), (3, .inl (Int32.ofNat a)), (0, .inr (.inr (.inl (some 0)))), (1, .inl (Int32.ofNat m)), (2, .inl (Int32.ofNat b))]) (S' := []) (h' := h) (by with_unfolding_all rfl) ?_
    by_cases c1 : fh_D B L m x < a
    · rw [if_neg (fun q => by have := (kx_ge (by omega) (by omega)).mp q; omega)]
      refine kx_go 6 (pc' := 74) (L' := [(5, .inl (Int32.ofNat x)), (4, .inl (Int32.ofNat 0)), (3, .inl (Int32.ofNat (fh_D B L m x))), (8, .inl (Int32.ofNat (fh_D B L m x))), (7, .inl (Int32.ofNat k)), (6, .inl (Int32.ofNat x)), (0, .inr (.inr (.inl (some 0)))), (1, .inl (Int32.ofNat m)), (2, .inl (Int32.ofNat b))]) (S' := []) (h' := h) (by with_unfolding_all rfl) ?_
      refine kx_go 3 (pc' := (if kc_cnd .ne (Int32.ofNat (fh_D B L m x)).toInt (Int32.ofNat (fh_D B L m x)).toInt then 83 else 80)) (L' := [(5, .inl (Int32.ofNat x)), (4, .inl (Int32.ofNat 0)), (3, .inl (Int32.ofNat (fh_D B L m x))), (8, .inl (Int32.ofNat (fh_D B L m x))), (7, .inl (Int32.ofNat k)), (6, .inl (Int32.ofNat x)), (0, .inr (.inr (.inl (some 0)))), (1, .inl (Int32.ofNat m)), (2, .inl (Int32.ofNat b))]) (S' := []) (h' := h) (by with_unfolding_all rfl) ?_
      rw [if_neg (fun q => (kx_ne (by omega) (by omega)).mp q rfl)]
      refine kx_go 1 (pc' := 83) (L' := [(4, .inl ((Int32.ofNat 0) + Int32.ofInt 1)), (5, .inl (Int32.ofNat x)), (3, .inl (Int32.ofNat (fh_D B L m x))), (8, .inl (Int32.ofNat (fh_D B L m x))), (7, .inl (Int32.ofNat k)), (6, .inl (Int32.ofNat x)), (0, .inr (.inr (.inl (some 0)))), (1, .inl (Int32.ofNat m)), (2, .inl (Int32.ofNat b))]) (S' := []) (h' := h) (by with_unfolding_all rfl) ?_
      rw [kx_inc]
      refine kf_lo (L := [(7, .inl (Int32.ofNat k)), (6, .inl (Int32.ofNat x)), (5, .inl (Int32.ofNat x)), (4, .inl (Int32.ofNat (0 + 1))), (3, .inl (Int32.ofNat (fh_D B L m x))), (0, .inr (.inr (.inl (some 0)))), (1, .inl (Int32.ofNat m)), (2, .inl (Int32.ofNat b))]) (by intro q hq; simp only [List.mem_cons, List.not_mem_nil, or_false] at hq; rcases hq with rfl | rfl | rfl | rfl | rfl | rfl | rfl | rfl <;> rfl) ?_
      exact tail _ _ _ (by omega) (by unfold fh_u; rw [if_pos c1])
    · rw [if_pos ((kx_ge (by omega) (by omega)).mpr (by omega))]
      refine kx_go 3 (pc' := (if kc_cnd .ne (Int32.ofNat (fh_D B L m x)).toInt (Int32.ofNat a).toInt then 83 else 80)) (L' := [(8, .inl (Int32.ofNat (fh_D B L m x))), (7, .inl (Int32.ofNat k)), (6, .inl (Int32.ofNat x)), (5, .inl (f)), (4, .inl (Int32.ofNat n)), (3, .inl (Int32.ofNat a)), (0, .inr (.inr (.inl (some 0)))), (1, .inl (Int32.ofNat m)), (2, .inl (Int32.ofNat b))]) (S' := []) (h' := h) (by with_unfolding_all rfl) ?_
      by_cases c2 : fh_D B L m x = a
      · rw [if_neg (fun q => (kx_ne (by omega) (by omega)).mp q c2)]
        refine kx_go 1 (pc' := 83) (L' := [(4, .inl ((Int32.ofNat n) + Int32.ofInt 1)), (8, .inl (Int32.ofNat (fh_D B L m x))), (7, .inl (Int32.ofNat k)), (6, .inl (Int32.ofNat x)), (5, .inl (f)), (3, .inl (Int32.ofNat a)), (0, .inr (.inr (.inl (some 0)))), (1, .inl (Int32.ofNat m)), (2, .inl (Int32.ofNat b))]) (S' := []) (h' := h) (by with_unfolding_all rfl) ?_
        rw [kx_inc]
        refine kf_lo (L := [(7, .inl (Int32.ofNat k)), (6, .inl (Int32.ofNat x)), (5, .inl (f)), (4, .inl (Int32.ofNat (n + 1))), (3, .inl (Int32.ofNat a)), (0, .inr (.inr (.inl (some 0)))), (1, .inl (Int32.ofNat m)), (2, .inl (Int32.ofNat b))]) (by intro q hq; simp only [List.mem_cons, List.not_mem_nil, or_false] at hq; rcases hq with rfl | rfl | rfl | rfl | rfl | rfl | rfl | rfl <;> rfl) ?_
        exact tail _ _ _ ha (by unfold fh_u; rw [if_neg c1, if_pos c2])
      · rw [if_pos ((kx_ne (by omega) (by omega)).mpr c2)]
        refine kf_lo (L := [(7, .inl (Int32.ofNat k)), (6, .inl (Int32.ofNat x)), (5, .inl (f)), (4, .inl (Int32.ofNat n)), (3, .inl (Int32.ofNat a)), (0, .inr (.inr (.inl (some 0)))), (1, .inl (Int32.ofNat m)), (2, .inl (Int32.ofNat b))]) (by intro q hq; simp only [List.mem_cons, List.not_mem_nil, or_false] at hq; rcases hq with rfl | rfl | rfl | rfl | rfl | rfl | rfl | rfl <;> rfl) ?_
        exact tail _ _ _ ha (by unfold fh_u; rw [if_neg c1, if_neg c2])
set_option maxRecDepth 20000 in
theorem fh_r87l {g : kc_G} {d : Nat} {h : kc_H} {B : Nat → Int32} {L : Nat} {m b : Nat} {F : fh_S} (hg : kc_ok g) (hw : kd_wt kd_ty h) (hC : fu_B B h) (hB : fu_BT B) (hL : L ≤ 10) (eL : B 2 = Int32.ofNat L) (hm : m < 1024) (hb : b ≤ 2) : ∀ (u x a n : Nat) (f : Int32), m + 1 - x = u → x ≤ m + 1 → a ≤ 1000000 → fh_f (fun x s => fh_u (fh_D B L m x) x s) m u x (a, n, f) = F → kc_Ev g (d + 3) wk_m87 (fun rv h' => rv = some (.inl (fh_r b F)) ∧ h' = h) 36 [(6, .inl (Int32.ofNat x)), (5, .inl (f)), (4, .inl (Int32.ofNat n)), (3, .inl (Int32.ofNat a)), (0, .inr (.inr (.inl (some 259)))), (1, .inl (Int32.ofNat m)), (2, .inl (Int32.ofNat b))] [] h := by
  intro u
  induction u with
  | zero =>
    intro x a n f hu hx ha hF
    refine kx_go 3 (pc' := (if kc_cnd .gt (Int32.ofNat x).toInt (Int32.ofNat m).toInt then 98 else 42)) (L' := [(6, .inl (Int32.ofNat x)), (5, .inl (f)), (4, .inl (Int32.ofNat n)), (3, .inl (Int32.ofNat a)), (0, .inr (.inr (.inl (some 259)))), (1, .inl (Int32.ofNat m)), (2, .inl (Int32.ofNat b))]) (S' := []) (h' := h) (by with_unfolding_all rfl) ?_
    rw [if_pos ((kx_gt (by omega) (by omega)).mpr (by omega))]
    refine kf_lo (L := [(5, .inl (f)), (4, .inl (Int32.ofNat n)), (3, .inl (Int32.ofNat a)), (0, .inr (.inr (.inl (some 259)))), (1, .inl (Int32.ofNat m)), (2, .inl (Int32.ofNat b))]) (by intro q hq; simp only [List.mem_cons, List.not_mem_nil, or_false] at hq; rcases hq with rfl | rfl | rfl | rfl | rfl | rfl <;> rfl) ?_
    exact fh_r87e hb hF
  | succ u ih =>
    intro x a n f hu hx ha hF
    have hD := fh_Db (m := m) (x := x) hB hL
    have hF : fh_f (fun x s => fh_u (fh_D B L m x) x s) m u (x + 1) (if x &&& m = x then fh_u (fh_D B L m x) x (a, n, f) else (a, n, f)) = F := hF
    refine kx_go 3 (pc' := (if kc_cnd .gt (Int32.ofNat x).toInt (Int32.ofNat m).toInt then 98 else 42)) (L' := [(6, .inl (Int32.ofNat x)), (5, .inl (f)), (4, .inl (Int32.ofNat n)), (3, .inl (Int32.ofNat a)), (0, .inr (.inr (.inl (some 259)))), (1, .inl (Int32.ofNat m)), (2, .inl (Int32.ofNat b))]) (S' := []) (h' := h) (by with_unfolding_all rfl) ?_
    rw [if_neg (fun q => by have := (kx_gt (by omega) (by omega)).mp q; omega)]
    refine kx_go 6 (pc' := (if kc_cnd .ne ((Int32.ofNat x) &&& ((Int32.ofNat m) ^^^ (Int32.ofInt (-1)))).toInt 0 then 92 else 51)) (L' := [(6, .inl (Int32.ofNat x)), (5, .inl (f)), (4, .inl (Int32.ofNat n)), (3, .inl (Int32.ofNat a)), (0, .inr (.inr (.inl (some 259)))), (1, .inl (Int32.ofNat m)), (2, .inl (Int32.ofNat b))]) (S' := []) (h' := h) (by with_unfolding_all rfl) ?_
    by_cases c : x &&& m = x
    · rw [if_neg (fun q => (fh_sub (by omega) hm).mp q c)]
      rw [if_pos c] at hF
      refine kx_go 3 (pc' := 55) (L' := [(6, .inl (Int32.ofNat x)), (5, .inl (f)), (4, .inl (Int32.ofNat n)), (3, .inl (Int32.ofNat a)), (0, .inr (.inr (.inl (some 259)))), (1, .inl (Int32.ofNat m)), (2, .inl (Int32.ofNat b))]) (S' := [.inl (Int32.ofNat x), .inl (Int32.ofNat m), .inr (.inr (.inl (some 259)))]) (h' := h) (by with_unfolding_all rfl) ?_
      refine kc_call_rule (M2 := wk_m257) (av := [.inr (.inr (.inl (some 259))), .inl (Int32.ofNat m), .inl (Int32.ofNat x)]) (r := []) rfl rfl (kc_Con_le (fh_r257 (d := 0) hg hw hC hB hL eL hm (show x < 1024 by omega)) (by omega)) (fun rv h2 hq => ?_)
      obtain ⟨rfl, e9⟩ := hq
      rw [e9]
      clear e9
      show kc_Ev g (d + 3) wk_m87 _ 58 [(6, .inl (Int32.ofNat x)), (5, .inl (f)), (4, .inl (Int32.ofNat n)), (3, .inl (Int32.ofNat a)), (0, .inr (.inr (.inl (some 259)))), (1, .inl (Int32.ofNat m)), (2, .inl (Int32.ofNat b))] [.inl (Int32.ofNat (fh_D B L m x))] h
      have tail : ∀ (a2 n2 : Nat) (f2 : Int32), a2 ≤ 1000000 → fh_u (fh_D B L m x) x (a, n, f) = (a2, n2, f2) → kc_Ev g (d + 3) wk_m87 (fun rv h' => rv = some (.inl (fh_r b F)) ∧ h' = h) 92 [(6, .inl (Int32.ofNat x)), (5, .inl (f2)), (4, .inl (Int32.ofNat n2)), (3, .inl (Int32.ofNat a2)), (0, .inr (.inr (.inl (some 259)))), (1, .inl (Int32.ofNat m)), (2, .inl (Int32.ofNat b))] [] h := by
        intro a2 n2 f2 ha2 hf2
        refine kx_go 2 (pc' := 36) (L' := [(6, .inl ((Int32.ofNat x) + Int32.ofInt 1)), (5, .inl (f2)), (4, .inl (Int32.ofNat n2)), (3, .inl (Int32.ofNat a2)), (0, .inr (.inr (.inl (some 259)))), (1, .inl (Int32.ofNat m)), (2, .inl (Int32.ofNat b))]) (S' := []) (h' := h) (by with_unfolding_all rfl) ?_
        rw [kx_inc]
        exact ih (x + 1) a2 n2 f2 (by omega) (by omega) ha2 (by rw [← hF, hf2])
      refine kx_go 4 (pc' := (if kc_cnd .ge (Int32.ofNat (fh_D B L m x)).toInt (Int32.ofNat a).toInt then 76 else 66)) (L' := [(7, .inl (Int32.ofNat (fh_D B L m x))), (6, .inl (Int32.ofNat x)), (5, .inl (f)), (4, .inl (Int32.ofNat n)), (3, .inl (Int32.ofNat a)), (0, .inr (.inr (.inl (some 259)))), (1, .inl (Int32.ofNat m)), (2, .inl (Int32.ofNat b))]) (S' := []) (h' := h) (by with_unfolding_all rfl) ?_
      by_cases c1 : fh_D B L m x < a
      · rw [if_neg (fun q => by have := (kx_ge (by omega) (by omega)).mp q; omega)]
        refine kx_go 6 (pc' := 76) (L' := [(5, .inl (Int32.ofNat x)), (4, .inl (Int32.ofNat 0)), (3, .inl (Int32.ofNat (fh_D B L m x))), (7, .inl (Int32.ofNat (fh_D B L m x))), (6, .inl (Int32.ofNat x)), (0, .inr (.inr (.inl (some 259)))), (1, .inl (Int32.ofNat m)), (2, .inl (Int32.ofNat b))]) (S' := []) (h' := h) (by with_unfolding_all rfl) ?_
        refine kx_go 4 (pc' := (if kc_cnd .ne (Int32.ofNat (fh_D B L m x)).toInt (Int32.ofNat (fh_D B L m x)).toInt then 88 else 84)) (L' := [(5, .inl (Int32.ofNat x)), (4, .inl (Int32.ofNat 0)), (3, .inl (Int32.ofNat (fh_D B L m x))), (7, .inl (Int32.ofNat (fh_D B L m x))), (6, .inl (Int32.ofNat x)), (0, .inr (.inr (.inl (some 259)))), (1, .inl (Int32.ofNat m)), (2, .inl (Int32.ofNat b))]) (S' := [.inl (Int32.ofNat 0)]) (h' := h) (by with_unfolding_all rfl) ?_
        rw [if_neg (fun q => (kx_ne (by omega) (by omega)).mp q rfl)]
        refine kx_go 4 (pc' := 92) (L' := [(4, .inl ((Int32.ofNat 0) + (Int32.ofNat 1))), (5, .inl (Int32.ofNat x)), (3, .inl (Int32.ofNat (fh_D B L m x))), (7, .inl (Int32.ofNat (fh_D B L m x))), (6, .inl (Int32.ofNat x)), (0, .inr (.inr (.inl (some 259)))), (1, .inl (Int32.ofNat m)), (2, .inl (Int32.ofNat b))]) (S' := []) (h' := h) (by with_unfolding_all rfl) ?_
        rw [kx_add]
        refine kf_lo (L := [(6, .inl (Int32.ofNat x)), (5, .inl (Int32.ofNat x)), (4, .inl (Int32.ofNat (0 + 1))), (3, .inl (Int32.ofNat (fh_D B L m x))), (0, .inr (.inr (.inl (some 259)))), (1, .inl (Int32.ofNat m)), (2, .inl (Int32.ofNat b))]) (by intro q hq; simp only [List.mem_cons, List.not_mem_nil, or_false] at hq; rcases hq with rfl | rfl | rfl | rfl | rfl | rfl | rfl <;> rfl) ?_
        exact tail _ _ _ (by omega) (by unfold fh_u; rw [if_pos c1])
      · rw [if_pos ((kx_ge (by omega) (by omega)).mpr (by omega))]
        refine kx_go 4 (pc' := (if kc_cnd .ne (Int32.ofNat (fh_D B L m x)).toInt (Int32.ofNat a).toInt then 88 else 84)) (L' := [(7, .inl (Int32.ofNat (fh_D B L m x))), (6, .inl (Int32.ofNat x)), (5, .inl (f)), (4, .inl (Int32.ofNat n)), (3, .inl (Int32.ofNat a)), (0, .inr (.inr (.inl (some 259)))), (1, .inl (Int32.ofNat m)), (2, .inl (Int32.ofNat b))]) (S' := [.inl (Int32.ofNat n)]) (h' := h) (by with_unfolding_all rfl) ?_
        by_cases c2 : fh_D B L m x = a
        · rw [if_neg (fun q => (kx_ne (by omega) (by omega)).mp q c2)]
          refine kx_go 4 (pc' := 92) (L' := [(4, .inl ((Int32.ofNat n) + (Int32.ofNat 1))), (7, .inl (Int32.ofNat (fh_D B L m x))), (6, .inl (Int32.ofNat x)), (5, .inl (f)), (3, .inl (Int32.ofNat a)), (0, .inr (.inr (.inl (some 259)))), (1, .inl (Int32.ofNat m)), (2, .inl (Int32.ofNat b))]) (S' := []) (h' := h) (by with_unfolding_all rfl) ?_
          rw [kx_add]
          refine kf_lo (L := [(6, .inl (Int32.ofNat x)), (5, .inl (f)), (4, .inl (Int32.ofNat (n + 1))), (3, .inl (Int32.ofNat a)), (0, .inr (.inr (.inl (some 259)))), (1, .inl (Int32.ofNat m)), (2, .inl (Int32.ofNat b))]) (by intro q hq; simp only [List.mem_cons, List.not_mem_nil, or_false] at hq; rcases hq with rfl | rfl | rfl | rfl | rfl | rfl | rfl <;> rfl) ?_
          exact tail _ _ _ ha (by unfold fh_u; rw [if_neg c1, if_pos c2])
        · rw [if_pos ((kx_ne (by omega) (by omega)).mpr c2)]
          refine kx_go 3 (pc' := 92) (L' := [(4, .inl ((Int32.ofNat n) + (Int32.ofNat 0))), (7, .inl (Int32.ofNat (fh_D B L m x))), (6, .inl (Int32.ofNat x)), (5, .inl (f)), (3, .inl (Int32.ofNat a)), (0, .inr (.inr (.inl (some 259)))), (1, .inl (Int32.ofNat m)), (2, .inl (Int32.ofNat b))]) (S' := []) (h' := h) (by with_unfolding_all rfl) ?_
          rw [kx_add]
          refine kf_lo (L := [(6, .inl (Int32.ofNat x)), (5, .inl (f)), (4, .inl (Int32.ofNat n)), (3, .inl (Int32.ofNat a)), (0, .inr (.inr (.inl (some 259)))), (1, .inl (Int32.ofNat m)), (2, .inl (Int32.ofNat b))]) (by intro q hq; simp only [List.mem_cons, List.not_mem_nil, or_false] at hq; rcases hq with rfl | rfl | rfl | rfl | rfl | rfl | rfl <;> rfl) ?_
          exact tail _ _ _ ha (by unfold fh_u; rw [if_neg c1, if_neg c2])
    · rw [if_pos ((fh_sub (by omega) hm).mpr c)]
      rw [if_neg c] at hF
      refine kx_go 2 (pc' := 36) (L' := [(6, .inl ((Int32.ofNat x) + Int32.ofInt 1)), (5, .inl (f)), (4, .inl (Int32.ofNat n)), (3, .inl (Int32.ofNat a)), (0, .inr (.inr (.inl (some 259)))), (1, .inl (Int32.ofNat m)), (2, .inl (Int32.ofNat b))]) (S' := []) (h' := h) (by with_unfolding_all rfl) ?_
      rw [kx_inc]
      exact ih (x + 1) a n f (by omega) (by omega) ha hF
set_option maxRecDepth 20000 in
theorem fu_chal {g : kc_G} {d : Nat} {h : kc_H} {B : Nat → Int32} {a b : Int32} (hg : kc_ok g) (hw : kd_wt kd_ty h) (hC : fu_C B 1 h) (hB : fu_BT B) : kc_Con g (d + 4) 85 [.inr (.inr (.inl (some 0))), .inl a, .inl b] h (fun rv h' => rv = some (.inl (fh_ans B a b)) ∧ h' = h) := by
  obtain ⟨L, hL, eL⟩ := fu_n2 hB
  have eL2 : (B 2).toInt.toNat = L := by rw [eL, kx_ti (by omega), Int.toNat_natCast]
  refine kc_Con_new hg (M := wk_m85) rfl rfl rfl (show 3 ≤ 9 by decide) ?_
  refine kx_go 1 (pc' := 1) (L' := [(0, .inr (.inr (.inl (some 0)))), (1, .inl (a)), (2, .inl (b))]) (S' := [.inr (.inr (.inl (some 0)))]) (h' := h) (by with_unfolding_all rfl) ?_
  refine kx_getf (c := 0) (v := .inr (.inr (.inl (some 1)))) rfl (by decide) (kx_ofr (hw _ _ _ kv_k0.1)) ?_
  refine kx_go 1 (pc' := 5) (L' := [(0, .inr (.inr (.inl (some 0)))), (1, .inl (a)), (2, .inl (b))]) (S' := [.inl (a), .inr (.inr (.inl (some 1)))]) (h' := h) (by with_unfolding_all rfl) ?_
  refine kc_call_rule (M2 := wk_m86) (av := [.inr (.inr (.inl (some 1))), .inl (a)]) (r := []) rfl rfl (kc_Con_le (fh_c86 (d := 0) hg hw hC hB hL eL) (by omega)) (fun rv h2 hq => ?_)
  obtain ⟨rfl, e9⟩ := hq
  rw [e9]
  clear e9
  show kc_Ev g (d + 3) wk_m85 _ 8 [(0, .inr (.inr (.inl (some 0)))), (1, .inl (a)), (2, .inl (b))] [.inl (kp_b (fu_in a 1 (((2 ^ L : Nat) : Int) - 1)))] h
  refine kx_go 1 (pc' := (if kc_cnd .eq (kp_b (fu_in a 1 (((2 ^ L : Nat) : Int) - 1))).toInt 0 then 20 else 11)) (L' := [(0, .inr (.inr (.inl (some 0)))), (1, .inl (a)), (2, .inl (b))]) (S' := []) (h' := h) (by with_unfolding_all rfl) ?_
  cases e1 : fu_in a 1 (((2 ^ L : Nat) : Int) - 1) with
  | false =>
    rw [if_pos (kx_b0.mpr rfl)]
    refine kx_go 1 (pc' := 22) (L' := [(0, .inr (.inr (.inl (some 0)))), (1, .inl (a)), (2, .inl (b))]) (S' := [.inl (Int32.ofInt (-2))]) (h' := h) (by with_unfolding_all rfl) ?_
    exact kc_ret_ok rfl (rv := some (.inl (Int32.ofInt (-2)))) rfl ⟨by unfold fh_ans; rw [eL2, e1, Bool.false_and]; rfl, rfl⟩
  | true =>
    rw [if_neg (fun q => by have := kx_b0.mp q; cases this)]
    refine kx_go 3 (pc' := 14) (L' := [(0, .inr (.inr (.inl (some 0)))), (1, .inl (a)), (2, .inl (b))]) (S' := [.inl (Int32.ofNat 2), .inl (Int32.ofNat 0), .inl (b)]) (h' := h) (by with_unfolding_all rfl) ?_
    refine kc_call_rule (M2 := wk_m19) (av := [.inl (b), .inl (Int32.ofNat 0), .inl (Int32.ofNat 2)]) (r := []) rfl rfl (kc_Con_le (fu_bt (d := 0) (lo := 0) (hi := 2) hg rfl rfl) (by omega)) (fun rv h2 hq => ?_)
    obtain ⟨rfl, e9⟩ := hq
    rw [e9]
    clear e9
    show kc_Ev g (d + 3) wk_m85 _ 17 [(0, .inr (.inr (.inl (some 0)))), (1, .inl (a)), (2, .inl (b))] [.inl (kp_b (fu_in b 0 2))] h
    refine kx_go 1 (pc' := (if kc_cnd .ne (kp_b (fu_in b 0 2)).toInt 0 then 23 else 20)) (L' := [(0, .inr (.inr (.inl (some 0)))), (1, .inl (a)), (2, .inl (b))]) (S' := []) (h' := h) (by with_unfolding_all rfl) ?_
    cases e2 : fu_in b 0 2 with
    | false =>
      rw [if_neg (fun q => by have := kx_b1.mp q; cases this)]
      refine kx_go 1 (pc' := 22) (L' := [(0, .inr (.inr (.inl (some 0)))), (1, .inl (a)), (2, .inl (b))]) (S' := [.inl (Int32.ofInt (-2))]) (h' := h) (by with_unfolding_all rfl) ?_
      exact kc_ret_ok rfl (rv := some (.inl (Int32.ofInt (-2)))) rfl ⟨by unfold fh_ans; rw [eL2, e1, e2]; rfl, rfl⟩
    | true =>
      rw [if_pos (kx_b1.mpr rfl)]
      have h2p := fh_2p L (by omega)
      obtain ⟨m, m1, rfl, m2, m3⟩ := fu_in_n (u := 1023) e1 (by omega) (by omega)
      obtain ⟨c, c1, rfl, -, -⟩ := fu_in_n (u := 2) e2 (by omega) (by omega)
      refine kx_go 10 (pc' := 38) (L' := [(7, .inl (Int32.ofNat 0)), (6, .inl (Int32.ofNat 0)), (5, .inl (Int32.ofNat 0)), (4, .inl (Int32.ofNat 0)), (3, .inl (Int32.ofNat 1000000)), (0, .inr (.inr (.inl (some 0)))), (1, .inl (Int32.ofNat m)), (2, .inl (Int32.ofNat c))]) (S' := []) (h' := h) (by with_unfolding_all rfl) ?_
      have eA : fh_ans B (Int32.ofNat m) (Int32.ofNat c) = fh_r c (fh_F B L m) := by
        unfold fh_ans
        rw [eL2, e1, e2, kx_ti (show m < 2147483648 by omega), kx_ti (show c < 2147483648 by omega), Int.toNat_natCast, Int.toNat_natCast]
        rfl
      rw [eA]
      show kc_Ev g (d + 3) wk_m85 (fun rv h' => rv = some (.inl (fh_r c (fh_F B L m))) ∧ h' = h) 38 [(7, .inl (Int32.ofNat 0)), (6, .inl (Int32.ofNat 0)), (5, .inl (Int32.ofNat 0)), (4, .inl (Int32.ofNat 0)), (3, .inl (Int32.ofNat 1000000)), (0, .inr (.inr (.inl (some 0)))), (1, .inl (Int32.ofNat m)), (2, .inl (Int32.ofNat c))] [] h
      refine kf_lo (L := [(7, .inl (Int32.ofNat 0)), (6, .inl (Int32.ofNat 0)), (5, .inl (Int32.ofNat 0)), (4, .inl (Int32.ofNat 0)), (3, .inl (Int32.ofNat 1000000)), (0, .inr (.inr (.inl (some 0)))), (1, .inl (Int32.ofNat m)), (2, .inl (Int32.ofNat c))]) (by intro q hq; simp only [List.mem_cons, List.not_mem_nil, or_false] at hq; rcases hq with rfl | rfl | rfl | rfl | rfl | rfl | rfl | rfl <;> rfl) ?_
      exact fh_c85l (F := fh_F B L m) hg hw hC hB hL eL (by omega) c1 (m + 1) 0 0 1000000 0 (Int32.ofNat 0) (by omega) (by omega) (Nat.zero_and m) (by omega) (by omega) rfl
set_option maxRecDepth 20000 in
theorem fu_rhal {g : kc_G} {d : Nat} {h : kc_H} {B : Nat → Int32} {a b : Int32} (hg : kc_ok g) (hw : kd_wt kd_ty h) (hC : fu_B B h) (hB : fu_BT B) : kc_Con g (d + 4) 87 [.inr (.inr (.inl (some 259))), .inl a, .inl b] h (fun rv h' => rv = some (.inl (fh_ans B a b)) ∧ h' = h) := by
  obtain ⟨L, hL, eL⟩ := fu_n2 hB
  have eL2 : (B 2).toInt.toNat = L := by rw [eL, kx_ti (by omega), Int.toNat_natCast]
  refine kc_Con_new hg (M := wk_m87) rfl rfl rfl (show 3 ≤ 8 by decide) ?_
  refine kx_go 2 (pc' := 2) (L' := [(0, .inr (.inr (.inl (some 259)))), (1, .inl (a)), (2, .inl (b))]) (S' := [.inl (a), .inr (.inr (.inl (some 259)))]) (h' := h) (by with_unfolding_all rfl) ?_
  refine kc_call_rule (M2 := wk_m88) (av := [.inr (.inr (.inl (some 259))), .inl (a)]) (r := []) rfl rfl (kc_Con_le (fh_r88 (d := 0) hg hw hC hB hL eL) (by omega)) (fun rv h2 hq => ?_)
  obtain ⟨rfl, e9⟩ := hq
  rw [e9]
  clear e9
  show kc_Ev g (d + 3) wk_m87 _ 5 [(0, .inr (.inr (.inl (some 259)))), (1, .inl (a)), (2, .inl (b))] [.inl (kp_b (fu_in a 1 (((2 ^ L : Nat) : Int) - 1)))] h
  refine kx_go 1 (pc' := (if kc_cnd .eq (kp_b (fu_in a 1 (((2 ^ L : Nat) : Int) - 1))).toInt 0 then 20 else 8)) (L' := [(0, .inr (.inr (.inl (some 259)))), (1, .inl (a)), (2, .inl (b))]) (S' := []) (h' := h) (by with_unfolding_all rfl) ?_
  cases e1 : fu_in a 1 (((2 ^ L : Nat) : Int) - 1) with
  | false =>
    rw [if_pos (kx_b0.mpr rfl)]
    refine kx_go 1 (pc' := 22) (L' := [(0, .inr (.inr (.inl (some 259)))), (1, .inl (a)), (2, .inl (b))]) (S' := [.inl (Int32.ofInt (-2))]) (h' := h) (by with_unfolding_all rfl) ?_
    exact kc_ret_ok rfl (rv := some (.inl (Int32.ofInt (-2)))) rfl ⟨by unfold fh_ans; rw [eL2, e1, Bool.false_and]; rfl, rfl⟩
  | true =>
    rw [if_neg (fun q => by have := kx_b0.mp q; cases this)]
    refine kx_go 4 (pc' := 14) (L' := [(0, .inr (.inr (.inl (some 259)))), (1, .inl (a)), (2, .inl (b))]) (S' := [.inr (.inl (Int64.ofNat 2)), .inr (.inl (Int64.ofNat 0)), .inr (.inl (b.toInt64))]) (h' := h) (by with_unfolding_all rfl) ?_
    refine kc_call_rule (M2 := wk_m22) (av := [.inr (.inl (b.toInt64)), .inr (.inl (Int64.ofNat 0)), .inr (.inl (Int64.ofNat 2))]) (r := []) rfl rfl (kc_Con_le (fu_li (d := 0) (lo := 0) (hi := 2) hg rfl rfl) (by omega)) (fun rv h2 hq => ?_)
    obtain ⟨rfl, e9⟩ := hq
    rw [e9]
    clear e9
    show kc_Ev g (d + 3) wk_m87 _ 17 [(0, .inr (.inr (.inl (some 259)))), (1, .inl (a)), (2, .inl (b))] [.inl (kp_b (fu_in b 0 2))] h
    refine kx_go 1 (pc' := (if kc_cnd .ne (kp_b (fu_in b 0 2)).toInt 0 then 23 else 20)) (L' := [(0, .inr (.inr (.inl (some 259)))), (1, .inl (a)), (2, .inl (b))]) (S' := []) (h' := h) (by with_unfolding_all rfl) ?_
    cases e2 : fu_in b 0 2 with
    | false =>
      rw [if_neg (fun q => by have := kx_b1.mp q; cases this)]
      refine kx_go 1 (pc' := 22) (L' := [(0, .inr (.inr (.inl (some 259)))), (1, .inl (a)), (2, .inl (b))]) (S' := [.inl (Int32.ofInt (-2))]) (h' := h) (by with_unfolding_all rfl) ?_
      exact kc_ret_ok rfl (rv := some (.inl (Int32.ofInt (-2)))) rfl ⟨by unfold fh_ans; rw [eL2, e1, e2]; rfl, rfl⟩
    | true =>
      rw [if_pos (kx_b1.mpr rfl)]
      have h2p := fh_2p L (by omega)
      obtain ⟨m, m1, rfl, m2, m3⟩ := fu_in_n (u := 1023) e1 (by omega) (by omega)
      obtain ⟨c, c1, rfl, -, -⟩ := fu_in_n (u := 2) e2 (by omega) (by omega)
      refine kx_go 8 (pc' := 36) (L' := [(6, .inl (Int32.ofNat 0)), (5, .inl (Int32.ofInt (-1))), (4, .inl (Int32.ofNat 0)), (3, .inl (Int32.ofNat 1000000)), (0, .inr (.inr (.inl (some 259)))), (1, .inl (Int32.ofNat m)), (2, .inl (Int32.ofNat c))]) (S' := []) (h' := h) (by with_unfolding_all rfl) ?_
      have eA : fh_ans B (Int32.ofNat m) (Int32.ofNat c) = fh_r c (fh_F B L m) := by
        unfold fh_ans
        rw [eL2, e1, e2, kx_ti (show m < 2147483648 by omega), kx_ti (show c < 2147483648 by omega), Int.toNat_natCast, Int.toNat_natCast]
        rfl
      rw [eA]
      show kc_Ev g (d + 3) wk_m87 (fun rv h' => rv = some (.inl (fh_r c (fh_F B L m))) ∧ h' = h) 36 [(6, .inl (Int32.ofNat 0)), (5, .inl (Int32.ofInt (-1))), (4, .inl (Int32.ofNat 0)), (3, .inl (Int32.ofNat 1000000)), (0, .inr (.inr (.inl (some 259)))), (1, .inl (Int32.ofNat m)), (2, .inl (Int32.ofNat c))] [] h
      refine kf_lo (L := [(6, .inl (Int32.ofNat 0)), (5, .inl (Int32.ofInt (-1))), (4, .inl (Int32.ofNat 0)), (3, .inl (Int32.ofNat 1000000)), (0, .inr (.inr (.inl (some 259)))), (1, .inl (Int32.ofNat m)), (2, .inl (Int32.ofNat c))]) (by intro q hq; simp only [List.mem_cons, List.not_mem_nil, or_false] at hq; rcases hq with rfl | rfl | rfl | rfl | rfl | rfl | rfl <;> rfl) ?_
      have h0 : fh_D B L m 0 < 1000000 := by have := fh_Db (m := m) (x := 0) hB hL; omega
      exact fh_r87l (F := fh_F B L m) hg hw hC hB hL eL (by omega) c1 (m + 1) 0 1000000 0 (Int32.ofInt (-1)) (by omega) (by omega) (by omega) (by unfold fh_F; rw [fh_1st h0, fh_1st h0])
theorem fU_Xhalves {g : kc_G} {h : kc_H} {a b : Int32} (hg : kc_ok g) (hI : fu_I h) : kc_Con g 30 85 [.inr (.inr (.inl (some 0))), .inl a, .inl b] h (fun rv h1 => ∃ z : Int32, rv = some (.inl z) ∧ kc_Con g 30 87 [.inr (.inr (.inl (some 259))), .inl a, .inl b] h1 (fun rv2 h2 => rv2 = some (.inl z) ∧ fu_I h2)) := by
  obtain ⟨B, hC, hR⟩ := hI.2.1
  have hB := fu_C_T hI.1 hC
  exact fu_both (S := (fh_ans B a b, [])) hI hC hR fu_gd_nil (kc_Con_le (fu_chal (d := 0) hg hI.1 hC hB) (by decide)) (fun h1 w1 r1 _ => kc_Con_le (fu_rhal (d := 0) hg w1 r1 hB) (by decide)) hI.2.2.2.2.2.1
end
section
-- 99.zpm
/-! ===== WITHIN ===== -/
theorem fh_si {a b : Nat} (ha : a ≤ 100000) (hb : b ≤ 100000) : (Int32.ofNat a - Int32.ofNat b).toInt = (a : Int) - (b : Int) := by
  rw [← Int32.ofInt_eq_ofNat (n := a), ← Int32.ofInt_eq_ofNat (n := b), ← Int32.ofInt_sub]
  exact Int32.toInt_ofInt_of_le (by omega) (by omega)
theorem fh_ni {e : Nat} (he : e ≤ 99) : (-Int32.ofNat e).toInt64.toInt = -(e : Int) := by
  rw [Int32.toInt_toInt64, ← Int32.ofInt_eq_ofNat (n := e), ← Int32.ofInt_neg]
  exact Int32.toInt_ofInt_of_le (by omega) (by omega)
theorem fh_pi {e : Nat} (he : e ≤ 99) : (Int32.ofNat e).toInt64.toInt = (e : Int) := by
  rw [Int32.toInt_toInt64, kx_ti (by omega)]
theorem fh_dv {a b : Nat} (ha : a < 2147483648) (hb : 0 < b) (hb2 : b < 2147483648) : Int32.ofNat a / Int32.ofNat b = Int32.ofNat (a / b) := by
  have hd : a / b ≤ a := Nat.div_le_self a b
  apply Int32.toInt_inj.mp
  rw [kd_div_i (by rw [kx_ti ha]; omega) (by rw [kx_ti hb2]; omega), kx_ti ha, kx_ti hb2, kx_ti (by omega)]
  rfl
theorem fh_mn {c f : Nat} (hc : c < 2147483648) (hf : f < 2147483648) : (if Int32.ofNat c < Int32.ofNat f then Int32.ofNat c else Int32.ofNat f) = Int32.ofNat (if c < f then c else f) := by
  by_cases k : c < f
  · rw [if_pos k, if_pos (Int32.lt_iff_toInt_lt.mpr (by rw [kx_ti hc, kx_ti hf]; omega))]
  · rw [if_neg k, if_neg (fun q => k (by have := Int32.lt_iff_toInt_lt.mp q; rw [kx_ti hc, kx_ti hf] at this; omega))]
def fh_c (u e s : Nat) : Nat := if u ≤ e then 0 else if (u - e + s - 1) / s * s ≤ u + e then (u - e + s - 1) / s else 1000000
theorem fh_cn {u e s : Nat} (hs : 1 ≤ s) (h : ¬ u ≤ e) : (u - e + s - 1) / s * s ≤ u - e + s - 1 ∧ u - e ≤ (u - e + s - 1) / s * s := by
  have h1 := Nat.div_add_mod (u - e + s - 1) s
  have h2 := Nat.mod_lt (u - e + s - 1) (show s > 0 by omega)
  rw [Nat.mul_comm] at h1
  generalize (u - e + s - 1) / s * s = p at h1 ⊢
  omega
theorem fh_cb {u e s : Nat} (hs : 1 ≤ s) (hs2 : s ≤ 20) (hu : u ≤ 990) : fh_c u e s ≤ 1000000 := by
  unfold fh_c
  split
  · omega
  · rename_i h
    split
    · have h1 := Nat.div_le_self (u - e + s - 1) s
      omega
    · omega
theorem fh_c1 {u e s : Nat} (hs : 1 ≤ s) : ∀ k, k < fh_c u e s → ¬ (-(e : Int) ≤ (u : Int) - ((k * s : Nat) : Int) ∧ (u : Int) - ((k * s : Nat) : Int) ≤ (e : Int)) := by
  intro k hk hq
  unfold fh_c at hk
  split at hk
  · omega
  · rename_i h
    obtain ⟨n1, n2⟩ := fh_cn hs h
    by_cases c : k < (u - e + s - 1) / s
    · have m1 := Nat.mul_le_mul_right s (show k + 1 ≤ (u - e + s - 1) / s from c)
      rw [Nat.add_mul, Nat.one_mul] at m1
      generalize (u - e + s - 1) / s * s = p at n1 n2 m1
      generalize k * s = r at m1 hq
      omega
    · have m1 := Nat.mul_le_mul_right s (show (u - e + s - 1) / s ≤ k by omega)
      split at hk
      · omega
      · rename_i h2
        generalize (u - e + s - 1) / s * s = p at n1 n2 m1 h2
        generalize k * s = r at m1 hq
        omega
theorem fh_c2 {u e s : Nat} (hs : 1 ≤ s) (hc : fh_c u e s < 1000000) : -(e : Int) ≤ (u : Int) - ((fh_c u e s * s : Nat) : Int) ∧ (u : Int) - ((fh_c u e s * s : Nat) : Int) ≤ (e : Int) := by
  unfold fh_c at hc ⊢
  by_cases h : u ≤ e
  · rw [if_pos h]
    omega
  · rw [if_neg h] at hc ⊢
    obtain ⟨n1, n2⟩ := fh_cn hs h
    by_cases h2 : (u - e + s - 1) / s * s ≤ u + e
    · rw [if_pos h2]
      generalize (u - e + s - 1) / s * s = p at n1 n2 h2 ⊢
      omega
    · rw [if_neg h2] at hc
      omega
def fh_cap (a : Nat) : Nat := if a ≤ 99 then a else 1000000
theorem fh_capm {a c : Nat} : fh_cap (if c < a then c else a) = if 0 ≤ c ∧ c < 100 ∧ c < fh_cap a then c else fh_cap a := by
  unfold fh_cap
  repeat' split
  all_goals omega
def fh_g (C : Nat → Nat) (x : Nat) (s : fh_S) : fh_S := (if C x < s.1 then C x else s.1, s.2.1, s.2.2)
def fh_G (B : Nat → Int32) (L m e s : Nat) : fh_S := fh_f (fh_g (fun x => fh_c (fh_D B L m x) e s)) m (m + 1) 0 (1000000, 0, 0)
def fh_w (F : fh_S) : Int32 := if F.1 ≤ 99 then Int32.ofNat F.1 else Int32.ofInt (-1)
def fh_win (B : Nat → Int32) (a b : Int32) : Int32 := if (fu_in a 1 (((2 ^ (B 2).toInt.toNat : Nat) : Int) - 1) && fu_in b 0 99) = true then fh_w (fh_G B (B 2).toInt.toNat a.toInt.toNat b.toInt.toNat (B 4).toInt.toNat) else Int32.ofInt (-2)
set_option maxRecDepth 20000 in
theorem fh_c200 {g : kc_G} {d : Nat} {h : kc_H} {u e s : Nat} (hg : kc_ok g) (hs : 1 ≤ s) (hs2 : s ≤ 20) (hs0 : ¬ Int32.ofNat s = 0) (hu : u ≤ 990) (he : e ≤ 99) : kc_Con g (d + 1) 200 [.inl (Int32.ofNat u), .inl (Int32.ofNat e), .inl (Int32.ofNat s)] h (fun rv h' => rv = some (.inl (Int32.ofNat (fh_c u e s))) ∧ h' = h) := by
  refine kc_Con_new hg (M := wk_m200) rfl rfl rfl (show 3 ≤ 4 by decide) ?_
  refine kx_go 3 (pc' := (if kc_cnd .gt (Int32.ofNat u).toInt (Int32.ofNat e).toInt then 7 else 5)) (L' := [(0, .inl (Int32.ofNat u)), (1, .inl (Int32.ofNat e)), (2, .inl (Int32.ofNat s))]) (S' := []) (h' := h) (by with_unfolding_all rfl) ?_
  by_cases c : u ≤ e
  · rw [if_neg (fun q => by have := (kx_gt (by omega) (by omega)).mp q; omega)]
    refine kx_go 1 (pc' := 6) (L' := [(0, .inl (Int32.ofNat u)), (1, .inl (Int32.ofNat e)), (2, .inl (Int32.ofNat s))]) (S' := [.inl (Int32.ofNat 0)]) (h' := h) (by with_unfolding_all rfl) ?_
    exact kc_ret_ok rfl (rv := some (.inl (Int32.ofNat 0))) rfl ⟨by unfold fh_c; rw [if_pos c], rfl⟩
  · rw [if_pos ((kx_gt (by omega) (by omega)).mpr (by omega))]
    refine kx_go 3 (pc' := (if kc_cnd .ge (Int32.ofNat s).toInt (Int32.ofNat 1).toInt then 15 else 12)) (L' := [(0, .inl (Int32.ofNat u)), (1, .inl (Int32.ofNat e)), (2, .inl (Int32.ofNat s))]) (S' := []) (h' := h) (by with_unfolding_all rfl) ?_
    rw [if_pos ((kx_ge (by omega) (by omega)).mpr hs)]
    refine kx_go 8 (pc' := 23) (L' := [(0, .inl (Int32.ofNat u)), (1, .inl (Int32.ofNat e)), (2, .inl (Int32.ofNat s))]) (S' := [.inl (Int32.ofNat s), .inl ((((Int32.ofNat u) - (Int32.ofNat e)) + (Int32.ofNat s)) - (Int32.ofNat 1))]) (h' := h) (by with_unfolding_all rfl) ?_
    rw [kx_sub (show e ≤ u by omega), kx_add, kx_sub (show 1 ≤ u - e + s by omega)]
    obtain ⟨n1, n2⟩ := fh_cn hs c
    have nd := Nat.div_le_self (u - e + s - 1) s
    refine ks_st 24 (L' := [(0, .inl (Int32.ofNat u)), (1, .inl (Int32.ofNat e)), (2, .inl (Int32.ofNat s))]) (S' := [.inl (Int32.ofNat (u - e + s - 1) / Int32.ofNat s)]) rfl (if_neg hs0) ?_
    rw [fh_dv (by omega) (by omega) (by omega)]
    refine kx_go 8 (pc' := (if kc_cnd .gt (((Int32.ofNat ((u - e + s - 1) / s)) * (Int32.ofNat s)) - (Int32.ofNat u)).toInt (Int32.ofNat e).toInt then 38 else 34)) (L' := [(3, .inl (Int32.ofNat ((u - e + s - 1) / s))), (0, .inl (Int32.ofNat u)), (1, .inl (Int32.ofNat e)), (2, .inl (Int32.ofNat s))]) (S' := []) (h' := h) (by with_unfolding_all rfl) ?_
    rw [kx_mul]
    have es := fh_si (a := (u - e + s - 1) / s * s) (b := u) (by omega) (by omega)
    rw [es, kx_ti (show e < 2147483648 by omega)]
    by_cases c2 : (u - e + s - 1) / s * s ≤ u + e
    · rw [if_neg (fun q => by have := fu_igt.mp q; omega)]
      refine kx_go 2 (pc' := 40) (L' := [(3, .inl (Int32.ofNat ((u - e + s - 1) / s))), (0, .inl (Int32.ofNat u)), (1, .inl (Int32.ofNat e)), (2, .inl (Int32.ofNat s))]) (S' := [.inl (Int32.ofNat ((u - e + s - 1) / s))]) (h' := h) (by with_unfolding_all rfl) ?_
      exact kc_ret_ok rfl (rv := some (.inl (Int32.ofNat ((u - e + s - 1) / s)))) rfl ⟨by unfold fh_c; rw [if_neg c, if_pos c2], rfl⟩
    · rw [if_pos (fu_igt.mpr (by omega))]
      refine kx_go 1 (pc' := 40) (L' := [(3, .inl (Int32.ofNat ((u - e + s - 1) / s))), (0, .inl (Int32.ofNat u)), (1, .inl (Int32.ofNat e)), (2, .inl (Int32.ofNat s))]) (S' := [.inl (Int32.ofNat 1000000)]) (h' := h) (by with_unfolding_all rfl) ?_
      exact kc_ret_ok rfl (rv := some (.inl (Int32.ofNat 1000000))) rfl ⟨by unfold fh_c; rw [if_neg c, if_neg c2], rfl⟩
set_option maxRecDepth 20000 in
theorem fh_c89l {g : kc_G} {d : Nat} {h : kc_H} {B : Nat → Int32} {L : Nat} {m e s : Nat} {F : fh_S} (hg : kc_ok g) (hw : kd_wt kd_ty h) (hC : fu_C B 1 h) (hB : fu_BT B) (hL : L ≤ 10) (eL : B 2 = Int32.ofNat L) (hs : 1 ≤ s) (hs2 : s ≤ 20) (hs0 : ¬ Int32.ofNat s = 0) (eS : B 4 = Int32.ofNat s) (he : e ≤ 99) (hm : m < 1024) : ∀ (u k x a : Nat), m + 1 - x ≤ u → x ≤ m → x &&& m = x → k ≤ x → a ≤ 1000000 → fh_f (fh_g (fun x => fh_c (fh_D B L m x) e s)) m (m + 1 - x) x (a, 0, 0) = F → kc_Ev g (d + 3) wk_m89 (fun rv h' => rv = some (.inl (fh_w F)) ∧ h' = h) 33 [(5, .inl (Int32.ofNat k)), (4, .inl (Int32.ofNat x)), (3, .inl (Int32.ofNat a)), (0, .inr (.inr (.inl (some 0)))), (1, .inl (Int32.ofNat m)), (2, .inl (Int32.ofNat e))] [] h := by
  intro u
  induction u with
  | zero =>
    intro k x a hu hx hs1 hk ha hF
    omega
  | succ u ih =>
    intro k x a hu hx hs1 hk ha hF
    have hD := fh_Db (m := m) (x := x) hB hL
    have hcb := fh_cb (e := e) hs hs2 hD
    refine kx_go 3 (pc' := (if kc_cnd .ge (Int32.ofNat k).toInt (Int32.ofNat 1024).toInt then 96 else 41)) (L' := [(5, .inl (Int32.ofNat k)), (4, .inl (Int32.ofNat x)), (3, .inl (Int32.ofNat a)), (0, .inr (.inr (.inl (some 0)))), (1, .inl (Int32.ofNat m)), (2, .inl (Int32.ofNat e))]) (S' := []) (h' := h) (by with_unfolding_all rfl) ?_
    rw [if_neg (fun q => by have := (kx_ge (by omega) (by omega)).mp q; omega)]
    refine kx_go 1 (pc' := 42) (L' := [(5, .inl (Int32.ofNat k)), (4, .inl (Int32.ofNat x)), (3, .inl (Int32.ofNat a)), (0, .inr (.inr (.inl (some 0)))), (1, .inl (Int32.ofNat m)), (2, .inl (Int32.ofNat e))]) (S' := [.inr (.inr (.inl (some 0)))]) (h' := h) (by with_unfolding_all rfl) ?_
    refine kx_getf (c := 0) (v := .inr (.inr (.inl (some 1)))) rfl (by decide) (kx_ofr (hw _ _ _ kv_k0.1)) ?_
    refine kx_go 2 (pc' := 48) (L' := [(5, .inl (Int32.ofNat k)), (4, .inl (Int32.ofNat x)), (3, .inl (Int32.ofNat a)), (0, .inr (.inr (.inl (some 0)))), (1, .inl (Int32.ofNat m)), (2, .inl (Int32.ofNat e))]) (S' := [.inl (Int32.ofNat x), .inl (Int32.ofNat m), .inr (.inr (.inl (some 1)))]) (h' := h) (by with_unfolding_all rfl) ?_
    refine kc_call_rule (M2 := wk_m198) (av := [.inr (.inr (.inl (some 1))), .inl (Int32.ofNat m), .inl (Int32.ofNat x)]) (r := []) rfl rfl (kc_Con_le (fh_c198 (d := 0) hg hw hC hB hL eL hm (show x < 1024 by omega)) (by omega)) (fun rv h2 hq => ?_)
    obtain ⟨rfl, e9⟩ := hq
    rw [e9]
    clear e9
    show kc_Ev g (d + 3) wk_m89 _ 51 [(5, .inl (Int32.ofNat k)), (4, .inl (Int32.ofNat x)), (3, .inl (Int32.ofNat a)), (0, .inr (.inr (.inl (some 0)))), (1, .inl (Int32.ofNat m)), (2, .inl (Int32.ofNat e))] [.inl (Int32.ofNat (fh_D B L m x))] h
    refine kx_go 5 (pc' := 58) (L' := [(6, .inl (Int32.ofNat (fh_D B L m x))), (5, .inl (Int32.ofNat k)), (4, .inl (Int32.ofNat x)), (3, .inl (Int32.ofNat a)), (0, .inr (.inr (.inl (some 0)))), (1, .inl (Int32.ofNat m)), (2, .inl (Int32.ofNat e))]) (S' := [.inr (.inr (.inl (some 0))), .inl (Int32.ofNat e), .inl (Int32.ofNat (fh_D B L m x)), .inl (Int32.ofNat a)]) (h' := h) (by with_unfolding_all rfl) ?_
    refine kx_getf (c := 0) (v := .inr (.inr (.inl (some 1)))) rfl (by decide) (kx_ofr (hw _ _ _ kv_k0.1)) ?_
    refine kx_getf (c := 1) (v := .inr (.inr (.inl (some 26)))) rfl (by decide) (kx_ofr (hw _ _ _ fu_kr.2.2.2.2.2.1)) ?_
    refine kx_go 1 (pc' := 65) (L' := [(6, .inl (Int32.ofNat (fh_D B L m x))), (5, .inl (Int32.ofNat k)), (4, .inl (Int32.ofNat x)), (3, .inl (Int32.ofNat a)), (0, .inr (.inr (.inl (some 0)))), (1, .inl (Int32.ofNat m)), (2, .inl (Int32.ofNat e))]) (S' := [.inl (Int32.ofNat 0), .inr (.inr (.inl (some 26))), .inl (Int32.ofNat e), .inl (Int32.ofNat (fh_D B L m x)), .inl (Int32.ofNat a)]) (h' := h) (by with_unfolding_all rfl) ?_
    refine kx_iald (c := 26) (j := 0) (m := 2) (v := .inl (Int32.ofNat s)) rfl rfl (by decide) (by decide) (by decide) ((fu_Cj (c := 25) (i := 0) hC (by decide) (by decide) fu_f0.2.2.2.2.2.1).trans (by rw [eS])) ?_
    refine kc_call_rule (M2 := wk_m200) (av := [.inl (Int32.ofNat (fh_D B L m x)), .inl (Int32.ofNat e), .inl (Int32.ofNat s)]) (r := [.inl (Int32.ofNat a)]) rfl rfl (kc_Con_le (fh_c200 (d := 0) hg hs hs2 hs0 hD he) (by omega)) (fun rv h2 hq => ?_)
    obtain ⟨rfl, e9⟩ := hq
    rw [e9]
    clear e9
    show kc_Ev g (d + 3) wk_m89 _ 69 [(6, .inl (Int32.ofNat (fh_D B L m x))), (5, .inl (Int32.ofNat k)), (4, .inl (Int32.ofNat x)), (3, .inl (Int32.ofNat a)), (0, .inr (.inr (.inl (some 0)))), (1, .inl (Int32.ofNat m)), (2, .inl (Int32.ofNat e))] [.inl (Int32.ofNat (fh_c (fh_D B L m x) e s)), .inl (Int32.ofNat a)] h
    refine kc_math_ok (AS' := [.inl (if Int32.ofNat (fh_c (fh_D B L m x) e s) < Int32.ofNat a then Int32.ofNat (fh_c (fh_D B L m x) e s) else Int32.ofNat a)]) rfl (by with_unfolding_all rfl) ?_
    rw [fh_mn (by omega) (by omega)]
    obtain ⟨a2, ea⟩ : ∃ a2, a2 = if fh_c (fh_D B L m x) e s < a then fh_c (fh_D B L m x) e s else a := ⟨_, rfl⟩
    rw [← ea]
    have ha2 : a2 ≤ 1000000 := by rw [ea]; split <;> omega
    have ef : fh_g (fun x => fh_c (fh_D B L m x) e s) x (a, 0, 0) = (a2, 0, 0) := by rw [ea]; rfl
    refine kx_go 4 (pc' := (if kc_cnd .ne (Int32.ofNat x).toInt (Int32.ofNat m).toInt then 82 else 79)) (L' := [(3, .inl (Int32.ofNat a2)), (6, .inl (Int32.ofNat (fh_D B L m x))), (5, .inl (Int32.ofNat k)), (4, .inl (Int32.ofNat x)), (0, .inr (.inr (.inl (some 0)))), (1, .inl (Int32.ofNat m)), (2, .inl (Int32.ofNat e))]) (S' := []) (h' := h) (by with_unfolding_all rfl) ?_
    by_cases c : x = m
    · rw [if_neg (fun q => (kx_ne (by omega) (by omega)).mp q c)]
      have eF : (a2, 0, 0) = F := by rw [← ef, ← hF, c, fh_end]
      refine kx_go 1 (pc' := 96) (L' := [(3, .inl (Int32.ofNat a2)), (6, .inl (Int32.ofNat (fh_D B L m x))), (5, .inl (Int32.ofNat k)), (4, .inl (Int32.ofNat x)), (0, .inr (.inr (.inl (some 0)))), (1, .inl (Int32.ofNat m)), (2, .inl (Int32.ofNat e))]) (S' := []) (h' := h) (by with_unfolding_all rfl) ?_
      refine kx_go 3 (pc' := (if kc_cnd .le (Int32.ofNat a2).toInt (Int32.ofNat 99).toInt then 106 else 102)) (L' := [(3, .inl (Int32.ofNat a2)), (6, .inl (Int32.ofNat (fh_D B L m x))), (5, .inl (Int32.ofNat k)), (4, .inl (Int32.ofNat x)), (0, .inr (.inr (.inl (some 0)))), (1, .inl (Int32.ofNat m)), (2, .inl (Int32.ofNat e))]) (S' := []) (h' := h) (by with_unfolding_all rfl) ?_
      subst eF
      by_cases c9 : a2 ≤ 99
      · rw [if_pos ((kx_le (by omega) (by omega)).mpr c9)]
        refine kx_go 1 (pc' := 107) (L' := [(3, .inl (Int32.ofNat a2)), (6, .inl (Int32.ofNat (fh_D B L m x))), (5, .inl (Int32.ofNat k)), (4, .inl (Int32.ofNat x)), (0, .inr (.inr (.inl (some 0)))), (1, .inl (Int32.ofNat m)), (2, .inl (Int32.ofNat e))]) (S' := [.inl (Int32.ofNat a2)]) (h' := h) (by with_unfolding_all rfl) ?_
        exact kc_ret_ok rfl (rv := some (.inl (Int32.ofNat a2))) rfl ⟨by unfold fh_w; rw [if_pos c9], rfl⟩
      · rw [if_neg (fun q => c9 ((kx_le (by omega) (by omega)).mp q))]
        refine kx_go 2 (pc' := 107) (L' := [(3, .inl (Int32.ofNat a2)), (6, .inl (Int32.ofNat (fh_D B L m x))), (5, .inl (Int32.ofNat k)), (4, .inl (Int32.ofNat x)), (0, .inr (.inr (.inl (some 0)))), (1, .inl (Int32.ofNat m)), (2, .inl (Int32.ofNat e))]) (S' := [.inl (Int32.ofInt (-1))]) (h' := h) (by with_unfolding_all rfl) ?_
        exact kc_ret_ok rfl (rv := some (.inl (Int32.ofInt (-1)))) rfl ⟨by unfold fh_w; rw [if_neg c9], rfl⟩
    · rw [if_pos ((kx_ne (by omega) (by omega)).mpr c)]
      refine kx_go 2 (pc' := 85) (L' := [(3, .inl (Int32.ofNat a2)), (6, .inl (Int32.ofNat (fh_D B L m x))), (5, .inl (Int32.ofNat k)), (4, .inl (Int32.ofNat x)), (0, .inr (.inr (.inl (some 0)))), (1, .inl (Int32.ofNat m)), (2, .inl (Int32.ofNat e))]) (S' := [.inl (Int32.ofNat x), .inl (Int32.ofNat m)]) (h' := h) (by with_unfolding_all rfl) ?_
      refine kc_call_rule (M2 := wk_m199) (av := [.inl (Int32.ofNat m), .inl (Int32.ofNat x)]) (r := []) rfl rfl (kc_Con_le (fh_c199 (d := 0) hg hm (show x < 1024 by omega)) (by omega)) (fun rv h2 hq => ?_)
      obtain ⟨rfl, e9⟩ := hq
      rw [e9]
      clear e9
      show kc_Ev g (d + 3) wk_m89 _ 88 [(3, .inl (Int32.ofNat a2)), (6, .inl (Int32.ofNat (fh_D B L m x))), (5, .inl (Int32.ofNat k)), (4, .inl (Int32.ofNat x)), (0, .inr (.inr (.inl (some 0)))), (1, .inl (Int32.ofNat m)), (2, .inl (Int32.ofNat e))] [.inl (Int32.ofNat ((x + 1024 - m) &&& m))] h
      obtain ⟨y1, y2, y3, -⟩ := fh_nx hm (show x < m by omega) hs1
      refine kx_go 3 (pc' := 33) (L' := [(5, .inl ((Int32.ofNat k) + Int32.ofInt 1)), (4, .inl (Int32.ofNat ((x + 1024 - m) &&& m))), (3, .inl (Int32.ofNat a2)), (6, .inl (Int32.ofNat (fh_D B L m x))), (0, .inr (.inr (.inl (some 0)))), (1, .inl (Int32.ofNat m)), (2, .inl (Int32.ofNat e))]) (S' := []) (h' := h) (by with_unfolding_all rfl) ?_
      rw [kx_inc]
      refine kf_lo (L := [(5, .inl (Int32.ofNat (k + 1))), (4, .inl (Int32.ofNat ((x + 1024 - m) &&& m))), (3, .inl (Int32.ofNat a2)), (0, .inr (.inr (.inl (some 0)))), (1, .inl (Int32.ofNat m)), (2, .inl (Int32.ofNat e))]) (by intro q hq; simp only [List.mem_cons, List.not_mem_nil, or_false] at hq; rcases hq with rfl | rfl | rfl | rfl | rfl | rfl <;> rfl) ?_
      exact ih (k + 1) _ a2 (by omega) y2 y3 (by omega) ha2 (by rw [← hF, fh_stp hm (show x < m by omega) hs1, ef])
set_option maxRecDepth 20000 in
theorem fh_r90i {g : kc_G} {d : Nat} {Q : Option kc_V → kc_H → Prop} {h : kc_H} {B : Nat → Int32} {m e s u x C V : Nat} (hg : kc_ok g) (hw : kd_wt kd_ty h) (hC : fu_B B h) (hs : 1 ≤ s) (hs2 : s ≤ 20) (eS : B 4 = Int32.ofNat s) (he : e ≤ 99) (hu : u ≤ 990) (hc1 : ∀ k, k < C → ¬ (-(e : Int) ≤ (u : Int) - ((k * s : Nat) : Int) ∧ (u : Int) - ((k * s : Nat) : Int) ≤ (e : Int))) (hc2 : C < 1000000 → (-(e : Int) ≤ (u : Int) - ((C * s : Nat) : Int) ∧ (u : Int) - ((C * s : Nat) : Int) ≤ (e : Int))) (hQ : kc_Ev g (d + 1) wk_m90 Q 116 [(4, .inl (Int32.ofNat x)), (3, .inl (Int32.ofNat V)), (0, .inr (.inr (.inl (some 259)))), (1, .inl (Int32.ofNat m)), (2, .inl (Int32.ofNat e))] [] h) : ∀ (n k f : Nat), 100 - k = n → k ≤ 100 → (k ≤ C ∨ f ≤ C) → f ≤ 1000000 → V = (if k ≤ C ∧ C < 100 ∧ C < f then C else f) → kc_Ev g (d + 1) wk_m90 Q 61 [(6, .inl (Int32.ofNat k)), (5, .inl (Int32.ofNat u)), (4, .inl (Int32.ofNat x)), (3, .inl (Int32.ofNat f)), (0, .inr (.inr (.inl (some 259)))), (1, .inl (Int32.ofNat m)), (2, .inl (Int32.ofNat e))] [] h := by
  intro n
  induction n with
  | zero =>
    intro k f hn hk hi hf hV
    refine kx_go 3 (pc' := (if kc_cnd .ge (Int32.ofNat k).toInt (Int32.ofNat 100).toInt then 116 else 68)) (L' := [(6, .inl (Int32.ofNat k)), (5, .inl (Int32.ofNat u)), (4, .inl (Int32.ofNat x)), (3, .inl (Int32.ofNat f)), (0, .inr (.inr (.inl (some 259)))), (1, .inl (Int32.ofNat m)), (2, .inl (Int32.ofNat e))]) (S' := []) (h' := h) (by with_unfolding_all rfl) ?_
    rw [if_pos ((kx_ge (by omega) (by omega)).mpr (by omega))]
    refine kf_lo (L := [(4, .inl (Int32.ofNat x)), (3, .inl (Int32.ofNat f)), (0, .inr (.inr (.inl (some 259)))), (1, .inl (Int32.ofNat m)), (2, .inl (Int32.ofNat e))]) (by intro q hq; simp only [List.mem_cons, List.not_mem_nil, or_false] at hq; rcases hq with rfl | rfl | rfl | rfl | rfl <;> rfl) ?_
    rw [if_neg (by omega)] at hV
    rw [← hV]
    exact hQ
  | succ n ih =>
    intro k f hn hk hi hf hV
    refine kx_go 3 (pc' := (if kc_cnd .ge (Int32.ofNat k).toInt (Int32.ofNat 100).toInt then 116 else 68)) (L' := [(6, .inl (Int32.ofNat k)), (5, .inl (Int32.ofNat u)), (4, .inl (Int32.ofNat x)), (3, .inl (Int32.ofNat f)), (0, .inr (.inr (.inl (some 259)))), (1, .inl (Int32.ofNat m)), (2, .inl (Int32.ofNat e))]) (S' := []) (h' := h) (by with_unfolding_all rfl) ?_
    rw [if_neg (fun q => by have := (kx_ge (by omega) (by omega)).mp q; omega)]
    refine kx_go 2 (pc' := (if kc_cnd .lt (Int32.ofNat u).toInt 0 then 116 else 73)) (L' := [(6, .inl (Int32.ofNat k)), (5, .inl (Int32.ofNat u)), (4, .inl (Int32.ofNat x)), (3, .inl (Int32.ofNat f)), (0, .inr (.inr (.inl (some 259)))), (1, .inl (Int32.ofNat m)), (2, .inl (Int32.ofNat e))]) (S' := []) (h' := h) (by with_unfolding_all rfl) ?_
    rw [if_neg (fun q => by have := fu_ilt.mp q; rw [kx_ti (by omega)] at this; omega)]
    refine kx_go 3 (pc' := 78) (L' := [(6, .inl (Int32.ofNat k)), (5, .inl (Int32.ofNat u)), (4, .inl (Int32.ofNat x)), (3, .inl (Int32.ofNat f)), (0, .inr (.inr (.inl (some 259)))), (1, .inl (Int32.ofNat m)), (2, .inl (Int32.ofNat e))]) (S' := [.inr (.inr (.inl (some 259))), .inl (Int32.ofNat k), .inl (Int32.ofNat u)]) (h' := h) (by with_unfolding_all rfl) ?_
    refine kx_getf (c := 259) (v := .inr (.inr (.inl (some 260)))) rfl (by decide) (kx_ofr (hw _ _ _ kz_k.1)) ?_
    refine kx_go 1 (pc' := 82) (L' := [(6, .inl (Int32.ofNat k)), (5, .inl (Int32.ofNat u)), (4, .inl (Int32.ofNat x)), (3, .inl (Int32.ofNat f)), (0, .inr (.inr (.inl (some 259)))), (1, .inl (Int32.ofNat m)), (2, .inl (Int32.ofNat e))]) (S' := [.inl (Int32.ofNat 4), .inr (.inr (.inl (some 260))), .inl (Int32.ofNat k), .inl (Int32.ofNat u)]) (h' := h) (by with_unfolding_all rfl) ?_
    refine kx_iald (c := 260) (j := 4) (m := 650) (v := .inl (Int32.ofNat s)) rfl rfl (by decide) (by decide) (by decide) ((hC 4 (by decide) (by decide)).trans (by rw [eS])) ?_
    refine kx_go 8 (pc' := 91) (L' := [(6, .inl (Int32.ofNat k)), (5, .inl (Int32.ofNat u)), (4, .inl (Int32.ofNat x)), (3, .inl (Int32.ofNat f)), (0, .inr (.inr (.inl (some 259)))), (1, .inl (Int32.ofNat m)), (2, .inl (Int32.ofNat e))]) (S' := [.inr (.inl ((Int32.ofNat e).toInt64)), .inr (.inl ((-(Int32.ofNat e)).toInt64)), .inr (.inl (((Int32.ofNat u) - ((Int32.ofNat k) * (Int32.ofNat s))).toInt64))]) (h' := h) (by with_unfolding_all rfl) ?_
    have hks : k * s ≤ 2000 := Nat.le_trans (Nat.mul_le_mul (show k ≤ 100 by omega) hs2) (by decide)
    rw [kx_mul]
    refine kc_call_rule (M2 := wk_m22) (av := [.inr (.inl ((Int32.ofNat u - Int32.ofNat (k * s)).toInt64)), .inr (.inl ((-(Int32.ofNat e)).toInt64)), .inr (.inl ((Int32.ofNat e).toInt64))]) (r := []) rfl rfl (kc_Con_le (fu_li (d := 0) (lo := -(e : Int)) (hi := (e : Int)) hg (fh_ni he) (fh_pi he)) (by omega)) (fun rv h2 hq => ?_)
    obtain ⟨rfl, e9⟩ := hq
    rw [e9]
    clear e9
    show kc_Ev g (d + 1) wk_m90 _ 94 [(6, .inl (Int32.ofNat k)), (5, .inl (Int32.ofNat u)), (4, .inl (Int32.ofNat x)), (3, .inl (Int32.ofNat f)), (0, .inr (.inr (.inl (some 259)))), (1, .inl (Int32.ofNat m)), (2, .inl (Int32.ofNat e))] [.inl (kp_b (fu_in (Int32.ofNat u - Int32.ofNat (k * s)) (-(e : Int)) (e : Int)))] h
    refine kx_go 1 (pc' := (if kc_cnd .eq (kp_b (fu_in (Int32.ofNat u - Int32.ofNat (k * s)) (-(e : Int)) (e : Int))).toInt 0 then 108 else 97)) (L' := [(6, .inl (Int32.ofNat k)), (5, .inl (Int32.ofNat u)), (4, .inl (Int32.ofNat x)), (3, .inl (Int32.ofNat f)), (0, .inr (.inr (.inl (some 259)))), (1, .inl (Int32.ofNat m)), (2, .inl (Int32.ofNat e))]) (S' := []) (h' := h) (by with_unfolding_all rfl) ?_
    have eu := fh_si (a := u) (b := k * s) (by omega) (by omega)
    cases c : fu_in (Int32.ofNat u - Int32.ofNat (k * s)) (-(e : Int)) (e : Int) with
    | false =>
      rw [if_pos (kx_b0.mpr rfl)]
      have c := of_decide_eq_false c
      rw [eu] at c
      have kc : ¬ k = C := fun q => c (by rw [q]; exact hc2 (by omega))
      refine kx_go 4 (pc' := 61) (L' := [(6, .inl ((Int32.ofNat k) + Int32.ofInt 1)), (3, .inl (Int32.ofNat f)), (5, .inl (Int32.ofNat u)), (4, .inl (Int32.ofNat x)), (0, .inr (.inr (.inl (some 259)))), (1, .inl (Int32.ofNat m)), (2, .inl (Int32.ofNat e))]) (S' := []) (h' := h) (by with_unfolding_all rfl) ?_
      rw [kx_inc]
      refine kf_lo (L := [(6, .inl (Int32.ofNat (k + 1))), (5, .inl (Int32.ofNat u)), (4, .inl (Int32.ofNat x)), (3, .inl (Int32.ofNat f)), (0, .inr (.inr (.inl (some 259)))), (1, .inl (Int32.ofNat m)), (2, .inl (Int32.ofNat e))]) (by intro q hq; simp only [List.mem_cons, List.not_mem_nil, or_false] at hq; rcases hq with rfl | rfl | rfl | rfl | rfl | rfl | rfl <;> rfl) ?_
      exact ih (k + 1) f (by omega) (by omega) (by omega) (by omega) (by rw [hV]; split <;> split <;> omega)
    | true =>
      rw [if_neg (fun q => by have := kx_b0.mp q; cases this)]
      have c := of_decide_eq_true c
      rw [eu] at c
      have kc : ¬ k < C := fun q => hc1 k q c
      refine kx_go 3 (pc' := (if kc_cnd .ge (Int32.ofNat k).toInt (Int32.ofNat f).toInt then 108 else 103)) (L' := [(6, .inl (Int32.ofNat k)), (5, .inl (Int32.ofNat u)), (4, .inl (Int32.ofNat x)), (3, .inl (Int32.ofNat f)), (0, .inr (.inr (.inl (some 259)))), (1, .inl (Int32.ofNat m)), (2, .inl (Int32.ofNat e))]) (S' := []) (h' := h) (by with_unfolding_all rfl) ?_
      by_cases c2 : k < f
      · rw [if_neg (fun q => by have := (kx_ge (by omega) (by omega)).mp q; omega)]
        refine kx_go 5 (pc' := 61) (L' := [(6, .inl ((Int32.ofNat k) + Int32.ofInt 1)), (3, .inl (Int32.ofNat k)), (5, .inl (Int32.ofNat u)), (4, .inl (Int32.ofNat x)), (0, .inr (.inr (.inl (some 259)))), (1, .inl (Int32.ofNat m)), (2, .inl (Int32.ofNat e))]) (S' := []) (h' := h) (by with_unfolding_all rfl) ?_
        rw [kx_inc]
        refine kf_lo (L := [(6, .inl (Int32.ofNat (k + 1))), (5, .inl (Int32.ofNat u)), (4, .inl (Int32.ofNat x)), (3, .inl (Int32.ofNat k)), (0, .inr (.inr (.inl (some 259)))), (1, .inl (Int32.ofNat m)), (2, .inl (Int32.ofNat e))]) (by intro q hq; simp only [List.mem_cons, List.not_mem_nil, or_false] at hq; rcases hq with rfl | rfl | rfl | rfl | rfl | rfl | rfl <;> rfl) ?_
        exact ih (k + 1) k (by omega) (by omega) (by omega) (by omega) (by rw [hV]; split <;> split <;> omega)
      · rw [if_pos ((kx_ge (by omega) (by omega)).mpr (by omega))]
        refine kx_go 4 (pc' := 61) (L' := [(6, .inl ((Int32.ofNat k) + Int32.ofInt 1)), (3, .inl (Int32.ofNat f)), (5, .inl (Int32.ofNat u)), (4, .inl (Int32.ofNat x)), (0, .inr (.inr (.inl (some 259)))), (1, .inl (Int32.ofNat m)), (2, .inl (Int32.ofNat e))]) (S' := []) (h' := h) (by with_unfolding_all rfl) ?_
        rw [kx_inc]
        refine kf_lo (L := [(6, .inl (Int32.ofNat (k + 1))), (5, .inl (Int32.ofNat u)), (4, .inl (Int32.ofNat x)), (3, .inl (Int32.ofNat f)), (0, .inr (.inr (.inl (some 259)))), (1, .inl (Int32.ofNat m)), (2, .inl (Int32.ofNat e))]) (by intro q hq; simp only [List.mem_cons, List.not_mem_nil, or_false] at hq; rcases hq with rfl | rfl | rfl | rfl | rfl | rfl | rfl <;> rfl) ?_
        exact ih (k + 1) f (by omega) (by omega) (by omega) (by omega) (by rw [hV]; split <;> split <;> omega)
set_option maxRecDepth 20000 in
theorem fh_r90l {g : kc_G} {d : Nat} {h : kc_H} {B : Nat → Int32} {L : Nat} {m e s : Nat} {F : fh_S} (hg : kc_ok g) (hw : kd_wt kd_ty h) (hC : fu_B B h) (hB : fu_BT B) (hL : L ≤ 10) (eL : B 2 = Int32.ofNat L) (hs : 1 ≤ s) (hs2 : s ≤ 20) (hs0 : ¬ Int32.ofNat s = 0) (eS : B 4 = Int32.ofNat s) (he : e ≤ 99) (hm : m < 1024) : ∀ (u x a : Nat), m + 1 - x = u → x ≤ m + 1 → a ≤ 1000000 → fh_f (fh_g (fun x => fh_c (fh_D B L m x) e s)) m u x (a, 0, 0) = F → kc_Ev g (d + 3) wk_m90 (fun rv h' => rv = some (.inl (fh_w F)) ∧ h' = h) 30 [(4, .inl (Int32.ofNat x)), (3, .inl (Int32.ofNat (fh_cap a))), (0, .inr (.inr (.inl (some 259)))), (1, .inl (Int32.ofNat m)), (2, .inl (Int32.ofNat e))] [] h := by
  intro u
  induction u with
  | zero =>
    intro x a hu hx ha hF
    refine kx_go 3 (pc' := (if kc_cnd .gt (Int32.ofNat x).toInt (Int32.ofNat m).toInt then 122 else 36)) (L' := [(4, .inl (Int32.ofNat x)), (3, .inl (Int32.ofNat (fh_cap a))), (0, .inr (.inr (.inl (some 259)))), (1, .inl (Int32.ofNat m)), (2, .inl (Int32.ofNat e))]) (S' := []) (h' := h) (by with_unfolding_all rfl) ?_
    rw [if_pos ((kx_gt (by omega) (by omega)).mpr (by omega))]
    have hF : (a, 0, 0) = F := hF
    subst hF
    have hcp : fh_cap a ≤ 1000000 := by unfold fh_cap; split <;> omega
    refine kx_go 3 (pc' := (if kc_cnd .ne (Int32.ofNat (fh_cap a)).toInt (Int32.ofNat 1000000).toInt then 133 else 129)) (L' := [(4, .inl (Int32.ofNat x)), (3, .inl (Int32.ofNat (fh_cap a))), (0, .inr (.inr (.inl (some 259)))), (1, .inl (Int32.ofNat m)), (2, .inl (Int32.ofNat e))]) (S' := []) (h' := h) (by with_unfolding_all rfl) ?_
    by_cases c9 : a ≤ 99
    · have e9 : fh_cap a = a := if_pos c9
      rw [if_pos ((kx_ne (by omega) (by omega)).mpr (by omega))]
      refine kx_go 1 (pc' := 134) (L' := [(4, .inl (Int32.ofNat x)), (3, .inl (Int32.ofNat (fh_cap a))), (0, .inr (.inr (.inl (some 259)))), (1, .inl (Int32.ofNat m)), (2, .inl (Int32.ofNat e))]) (S' := [.inl (Int32.ofNat (fh_cap a))]) (h' := h) (by with_unfolding_all rfl) ?_
      exact kc_ret_ok rfl (rv := some (.inl (Int32.ofNat (fh_cap a)))) rfl ⟨by unfold fh_w; rw [if_pos c9, e9], rfl⟩
    · have e9 : fh_cap a = 1000000 := if_neg c9
      rw [if_neg (fun q => (kx_ne (by omega) (by omega)).mp q e9)]
      refine kx_go 2 (pc' := 134) (L' := [(4, .inl (Int32.ofNat x)), (3, .inl (Int32.ofNat (fh_cap a))), (0, .inr (.inr (.inl (some 259)))), (1, .inl (Int32.ofNat m)), (2, .inl (Int32.ofNat e))]) (S' := [.inl (Int32.ofInt (-1))]) (h' := h) (by with_unfolding_all rfl) ?_
      exact kc_ret_ok rfl (rv := some (.inl (Int32.ofInt (-1)))) rfl ⟨by unfold fh_w; rw [if_neg c9], rfl⟩
  | succ u ih =>
    intro x a hu hx ha hF
    have hD := fh_Db (m := m) (x := x) hB hL
    have hF : fh_f (fh_g (fun x => fh_c (fh_D B L m x) e s)) m u (x + 1) (if x &&& m = x then fh_g (fun x => fh_c (fh_D B L m x) e s) x (a, 0, 0) else (a, 0, 0)) = F := hF
    have hcp : fh_cap a ≤ 1000000 := by unfold fh_cap; split <;> omega
    have hcb := fh_cb (e := e) hs hs2 hD
    refine kx_go 3 (pc' := (if kc_cnd .gt (Int32.ofNat x).toInt (Int32.ofNat m).toInt then 122 else 36)) (L' := [(4, .inl (Int32.ofNat x)), (3, .inl (Int32.ofNat (fh_cap a))), (0, .inr (.inr (.inl (some 259)))), (1, .inl (Int32.ofNat m)), (2, .inl (Int32.ofNat e))]) (S' := []) (h' := h) (by with_unfolding_all rfl) ?_
    rw [if_neg (fun q => by have := (kx_gt (by omega) (by omega)).mp q; omega)]
    refine kx_go 6 (pc' := (if kc_cnd .ne ((Int32.ofNat x) &&& ((Int32.ofNat m) ^^^ (Int32.ofInt (-1)))).toInt 0 then 55 else 45)) (L' := [(4, .inl (Int32.ofNat x)), (3, .inl (Int32.ofNat (fh_cap a))), (0, .inr (.inr (.inl (some 259)))), (1, .inl (Int32.ofNat m)), (2, .inl (Int32.ofNat e))]) (S' := []) (h' := h) (by with_unfolding_all rfl) ?_
    by_cases c : x &&& m = x
    · rw [if_neg (fun q => (fh_sub (by omega) hm).mp q c)]
      rw [if_pos c] at hF
      refine kx_go 3 (pc' := 49) (L' := [(4, .inl (Int32.ofNat x)), (3, .inl (Int32.ofNat (fh_cap a))), (0, .inr (.inr (.inl (some 259)))), (1, .inl (Int32.ofNat m)), (2, .inl (Int32.ofNat e))]) (S' := [.inl (Int32.ofNat x), .inl (Int32.ofNat m), .inr (.inr (.inl (some 259)))]) (h' := h) (by with_unfolding_all rfl) ?_
      refine kc_call_rule (M2 := wk_m257) (av := [.inr (.inr (.inl (some 259))), .inl (Int32.ofNat m), .inl (Int32.ofNat x)]) (r := []) rfl rfl (kc_Con_le (fh_r257 (d := 0) hg hw hC hB hL eL hm (show x < 1024 by omega)) (by omega)) (fun rv h2 hq => ?_)
      obtain ⟨rfl, e9⟩ := hq
      rw [e9]
      clear e9
      show kc_Ev g (d + 3) wk_m90 _ 52 [(4, .inl (Int32.ofNat x)), (3, .inl (Int32.ofNat (fh_cap a))), (0, .inr (.inr (.inl (some 259)))), (1, .inl (Int32.ofNat m)), (2, .inl (Int32.ofNat e))] [.inl (Int32.ofNat (fh_D B L m x))] h
      refine kx_go 4 (pc' := 61) (L' := [(6, .inl (Int32.ofNat 0)), (5, .inl (Int32.ofNat (fh_D B L m x))), (4, .inl (Int32.ofNat x)), (3, .inl (Int32.ofNat (fh_cap a))), (0, .inr (.inr (.inl (some 259)))), (1, .inl (Int32.ofNat m)), (2, .inl (Int32.ofNat e))]) (S' := []) (h' := h) (by with_unfolding_all rfl) ?_
      refine kf_lo (L := [(6, .inl (Int32.ofNat 0)), (5, .inl (Int32.ofNat (fh_D B L m x))), (4, .inl (Int32.ofNat x)), (3, .inl (Int32.ofNat (fh_cap a))), (0, .inr (.inr (.inl (some 259)))), (1, .inl (Int32.ofNat m)), (2, .inl (Int32.ofNat e))]) (by intro q hq; simp only [List.mem_cons, List.not_mem_nil, or_false] at hq; rcases hq with rfl | rfl | rfl | rfl | rfl | rfl | rfl <;> rfl) ?_
      refine fh_r90i (d := d + 2) (u := fh_D B L m x) (x := x) (C := fh_c (fh_D B L m x) e s) (V := fh_cap (if fh_c (fh_D B L m x) e s < a then fh_c (fh_D B L m x) e s else a)) hg hw hC hs hs2 eS he hD (fh_c1 hs) (fh_c2 hs) ?_ 100 0 (fh_cap a) (by omega) (by omega) (by omega) hcp fh_capm
      refine kx_go 2 (pc' := 30) (L' := [(4, .inl ((Int32.ofNat x) + Int32.ofInt 1)), (3, .inl (Int32.ofNat (fh_cap (if fh_c (fh_D B L m x) e s < a then fh_c (fh_D B L m x) e s else a)))), (0, .inr (.inr (.inl (some 259)))), (1, .inl (Int32.ofNat m)), (2, .inl (Int32.ofNat e))]) (S' := []) (h' := h) (by with_unfolding_all rfl) ?_
      rw [kx_inc]
      exact ih (x + 1) _ (by omega) (by omega) (by split <;> omega) hF
    · rw [if_pos ((fh_sub (by omega) hm).mpr c)]
      rw [if_neg c] at hF
      refine kx_go 11 (pc' := 30) (L' := [(4, .inl ((Int32.ofNat x) + Int32.ofInt 1)), (6, .inl (Int32.ofNat 0)), (5, .inl (Int32.ofInt (-1))), (3, .inl (Int32.ofNat (fh_cap a))), (0, .inr (.inr (.inl (some 259)))), (1, .inl (Int32.ofNat m)), (2, .inl (Int32.ofNat e))]) (S' := []) (h' := h) (by with_unfolding_all rfl) ?_
      rw [kx_inc]
      refine kf_lo (L := [(4, .inl (Int32.ofNat (x + 1))), (3, .inl (Int32.ofNat (fh_cap a))), (0, .inr (.inr (.inl (some 259)))), (1, .inl (Int32.ofNat m)), (2, .inl (Int32.ofNat e))]) (by intro q hq; simp only [List.mem_cons, List.not_mem_nil, or_false] at hq; rcases hq with rfl | rfl | rfl | rfl | rfl <;> rfl) ?_
      exact ih (x + 1) a (by omega) (by omega) ha hF
theorem fh_st {B : Nat → Int32} (hB : fu_BT B) : ∃ s, 1 ≤ s ∧ s ≤ 20 ∧ B 4 = Int32.ofNat s := by
  have h := hB 4 (by decide) (by decide)
  unfold fu_ok at h
  rw [fu_f0.1.2.2.2.2.1] at h
  unfold kd_nb at h
  have h1 : 2147483648 + 1 ≤ ((B 4).toInt + 2147483648).toNat := h.1
  have h2 : ((B 4).toInt + 2147483648).toNat ≤ 2147483648 + 20 := h.2
  obtain ⟨k, k1, k2, k3⟩ := ku_nat (a := B 4) (u := 20) (by omega) (by omega)
  exact ⟨k, by omega, k1, k3⟩
set_option maxRecDepth 20000 in
theorem fu_cwin {g : kc_G} {d : Nat} {h : kc_H} {B : Nat → Int32} {a b : Int32} (hg : kc_ok g) (hw : kd_wt kd_ty h) (hC : fu_C B 1 h) (hB : fu_BT B) : kc_Con g (d + 4) 89 [.inr (.inr (.inl (some 0))), .inl a, .inl b] h (fun rv h' => rv = some (.inl (fh_win B a b)) ∧ h' = h) := by
  obtain ⟨L, hL, eL⟩ := fu_n2 hB
  have eL2 : (B 2).toInt.toNat = L := by rw [eL, kx_ti (by omega), Int.toNat_natCast]
  obtain ⟨s, hs, hs2, eS⟩ := fh_st hB
  have eS2 : (B 4).toInt.toNat = s := by rw [eS, kx_ti (by omega), Int.toNat_natCast]
  have hs0 : ¬ Int32.ofNat s = 0 := fun q => by
    have q2 := congrArg Int32.toInt q
    rw [kx_ti (by omega), show (0 : Int32).toInt = 0 from by decide] at q2
    omega
  
  refine kc_Con_new hg (M := wk_m89) rfl rfl rfl (show 3 ≤ 7 by decide) ?_
  refine kx_go 1 (pc' := 1) (L' := [(0, .inr (.inr (.inl (some 0)))), (1, .inl (a)), (2, .inl (b))]) (S' := [.inr (.inr (.inl (some 0)))]) (h' := h) (by with_unfolding_all rfl) ?_
  refine kx_getf (c := 0) (v := .inr (.inr (.inl (some 1)))) rfl (by decide) (kx_ofr (hw _ _ _ kv_k0.1)) ?_
  refine kx_go 1 (pc' := 5) (L' := [(0, .inr (.inr (.inl (some 0)))), (1, .inl (a)), (2, .inl (b))]) (S' := [.inl (a), .inr (.inr (.inl (some 1)))]) (h' := h) (by with_unfolding_all rfl) ?_
  refine kc_call_rule (M2 := wk_m86) (av := [.inr (.inr (.inl (some 1))), .inl (a)]) (r := []) rfl rfl (kc_Con_le (fh_c86 (d := 0) hg hw hC hB hL eL) (by omega)) (fun rv h2 hq => ?_)
  obtain ⟨rfl, e9⟩ := hq
  rw [e9]
  clear e9
  show kc_Ev g (d + 3) wk_m89 _ 8 [(0, .inr (.inr (.inl (some 0)))), (1, .inl (a)), (2, .inl (b))] [.inl (kp_b (fu_in a 1 (((2 ^ L : Nat) : Int) - 1)))] h
  refine kx_go 1 (pc' := (if kc_cnd .eq (kp_b (fu_in a 1 (((2 ^ L : Nat) : Int) - 1))).toInt 0 then 21 else 11)) (L' := [(0, .inr (.inr (.inl (some 0)))), (1, .inl (a)), (2, .inl (b))]) (S' := []) (h' := h) (by with_unfolding_all rfl) ?_
  cases e1 : fu_in a 1 (((2 ^ L : Nat) : Int) - 1) with
  | false =>
    rw [if_pos (kx_b0.mpr rfl)]
    refine kx_go 1 (pc' := 23) (L' := [(0, .inr (.inr (.inl (some 0)))), (1, .inl (a)), (2, .inl (b))]) (S' := [.inl (Int32.ofInt (-2))]) (h' := h) (by with_unfolding_all rfl) ?_
    exact kc_ret_ok rfl (rv := some (.inl (Int32.ofInt (-2)))) rfl ⟨by unfold fh_win; rw [eL2, e1, Bool.false_and]; rfl, rfl⟩
  | true =>
    rw [if_neg (fun q => by have := kx_b0.mp q; cases this)]
    refine kx_go 3 (pc' := 15) (L' := [(0, .inr (.inr (.inl (some 0)))), (1, .inl (a)), (2, .inl (b))]) (S' := [.inl (Int32.ofNat 99), .inl (Int32.ofNat 0), .inl (b)]) (h' := h) (by with_unfolding_all rfl) ?_
    refine kc_call_rule (M2 := wk_m19) (av := [.inl (b), .inl (Int32.ofNat 0), .inl (Int32.ofNat 99)]) (r := []) rfl rfl (kc_Con_le (fu_bt (d := 0) (lo := 0) (hi := 99) hg rfl rfl) (by omega)) (fun rv h2 hq => ?_)
    obtain ⟨rfl, e9⟩ := hq
    rw [e9]
    clear e9
    show kc_Ev g (d + 3) wk_m89 _ 18 [(0, .inr (.inr (.inl (some 0)))), (1, .inl (a)), (2, .inl (b))] [.inl (kp_b (fu_in b 0 99))] h
    refine kx_go 1 (pc' := (if kc_cnd .ne (kp_b (fu_in b 0 99)).toInt 0 then 24 else 21)) (L' := [(0, .inr (.inr (.inl (some 0)))), (1, .inl (a)), (2, .inl (b))]) (S' := []) (h' := h) (by with_unfolding_all rfl) ?_
    cases e2 : fu_in b 0 99 with
    | false =>
      rw [if_neg (fun q => by have := kx_b1.mp q; cases this)]
      refine kx_go 1 (pc' := 23) (L' := [(0, .inr (.inr (.inl (some 0)))), (1, .inl (a)), (2, .inl (b))]) (S' := [.inl (Int32.ofInt (-2))]) (h' := h) (by with_unfolding_all rfl) ?_
      exact kc_ret_ok rfl (rv := some (.inl (Int32.ofInt (-2)))) rfl ⟨by unfold fh_win; rw [eL2, e1, e2]; rfl, rfl⟩
    | true =>
      rw [if_pos (kx_b1.mpr rfl)]
      have h2p := fh_2p L (by omega)
      obtain ⟨m, m1, rfl, m2, m3⟩ := fu_in_n (u := 1023) e1 (by omega) (by omega)
      obtain ⟨e, c1, rfl, -, -⟩ := fu_in_n (u := 99) e2 (by omega) (by omega)
      refine kx_go 6 (pc' := 33) (L' := [(5, .inl (Int32.ofNat 0)), (4, .inl (Int32.ofNat 0)), (3, .inl (Int32.ofNat 1000000)), (0, .inr (.inr (.inl (some 0)))), (1, .inl (Int32.ofNat m)), (2, .inl (Int32.ofNat e))]) (S' := []) (h' := h) (by with_unfolding_all rfl) ?_
      have eA : fh_win B (Int32.ofNat m) (Int32.ofNat e) = fh_w (fh_G B L m e s) := by
        unfold fh_win
        rw [eL2, eS2, e1, e2, kx_ti (show m < 2147483648 by omega), kx_ti (show e < 2147483648 by omega), Int.toNat_natCast, Int.toNat_natCast]
        rfl
      rw [eA]
      show kc_Ev g (d + 3) wk_m89 (fun rv h' => rv = some (.inl (fh_w (fh_G B L m e s))) ∧ h' = h) 33 [(5, .inl (Int32.ofNat 0)), (4, .inl (Int32.ofNat 0)), (3, .inl (Int32.ofNat 1000000)), (0, .inr (.inr (.inl (some 0)))), (1, .inl (Int32.ofNat m)), (2, .inl (Int32.ofNat e))] [] h
      refine kf_lo (L := [(5, .inl (Int32.ofNat 0)), (4, .inl (Int32.ofNat 0)), (3, .inl (Int32.ofNat 1000000)), (0, .inr (.inr (.inl (some 0)))), (1, .inl (Int32.ofNat m)), (2, .inl (Int32.ofNat e))]) (by intro q hq; simp only [List.mem_cons, List.not_mem_nil, or_false] at hq; rcases hq with rfl | rfl | rfl | rfl | rfl | rfl <;> rfl) ?_
      exact fh_c89l (F := fh_G B L m e s) hg hw hC hB hL eL hs hs2 hs0 eS c1 (by omega) (m + 1) 0 0 1000000 (by omega) (by omega) (Nat.zero_and m) (by omega) (by omega) rfl
set_option maxRecDepth 20000 in
theorem fu_rwin {g : kc_G} {d : Nat} {h : kc_H} {B : Nat → Int32} {a b : Int32} (hg : kc_ok g) (hw : kd_wt kd_ty h) (hC : fu_B B h) (hB : fu_BT B) : kc_Con g (d + 4) 90 [.inr (.inr (.inl (some 259))), .inl a, .inl b] h (fun rv h' => rv = some (.inl (fh_win B a b)) ∧ h' = h) := by
  obtain ⟨L, hL, eL⟩ := fu_n2 hB
  have eL2 : (B 2).toInt.toNat = L := by rw [eL, kx_ti (by omega), Int.toNat_natCast]
  obtain ⟨s, hs, hs2, eS⟩ := fh_st hB
  have eS2 : (B 4).toInt.toNat = s := by rw [eS, kx_ti (by omega), Int.toNat_natCast]
  have hs0 : ¬ Int32.ofNat s = 0 := fun q => by
    have q2 := congrArg Int32.toInt q
    rw [kx_ti (by omega), show (0 : Int32).toInt = 0 from by decide] at q2
    omega
  
  refine kc_Con_new hg (M := wk_m90) rfl rfl rfl (show 3 ≤ 7 by decide) ?_
  refine kx_go 2 (pc' := 2) (L' := [(0, .inr (.inr (.inl (some 259)))), (1, .inl (a)), (2, .inl (b))]) (S' := [.inl (a), .inr (.inr (.inl (some 259)))]) (h' := h) (by with_unfolding_all rfl) ?_
  refine kc_call_rule (M2 := wk_m88) (av := [.inr (.inr (.inl (some 259))), .inl (a)]) (r := []) rfl rfl (kc_Con_le (fh_r88 (d := 0) hg hw hC hB hL eL) (by omega)) (fun rv h2 hq => ?_)
  obtain ⟨rfl, e9⟩ := hq
  rw [e9]
  clear e9
  show kc_Ev g (d + 3) wk_m90 _ 5 [(0, .inr (.inr (.inl (some 259)))), (1, .inl (a)), (2, .inl (b))] [.inl (kp_b (fu_in a 1 (((2 ^ L : Nat) : Int) - 1)))] h
  refine kx_go 1 (pc' := (if kc_cnd .eq (kp_b (fu_in a 1 (((2 ^ L : Nat) : Int) - 1))).toInt 0 then 20 else 8)) (L' := [(0, .inr (.inr (.inl (some 259)))), (1, .inl (a)), (2, .inl (b))]) (S' := []) (h' := h) (by with_unfolding_all rfl) ?_
  cases e1 : fu_in a 1 (((2 ^ L : Nat) : Int) - 1) with
  | false =>
    rw [if_pos (kx_b0.mpr rfl)]
    refine kx_go 1 (pc' := 22) (L' := [(0, .inr (.inr (.inl (some 259)))), (1, .inl (a)), (2, .inl (b))]) (S' := [.inl (Int32.ofInt (-2))]) (h' := h) (by with_unfolding_all rfl) ?_
    exact kc_ret_ok rfl (rv := some (.inl (Int32.ofInt (-2)))) rfl ⟨by unfold fh_win; rw [eL2, e1, Bool.false_and]; rfl, rfl⟩
  | true =>
    rw [if_neg (fun q => by have := kx_b0.mp q; cases this)]
    refine kx_go 4 (pc' := 14) (L' := [(0, .inr (.inr (.inl (some 259)))), (1, .inl (a)), (2, .inl (b))]) (S' := [.inr (.inl (Int64.ofNat 99)), .inr (.inl (Int64.ofNat 0)), .inr (.inl (b.toInt64))]) (h' := h) (by with_unfolding_all rfl) ?_
    refine kc_call_rule (M2 := wk_m22) (av := [.inr (.inl (b.toInt64)), .inr (.inl (Int64.ofNat 0)), .inr (.inl (Int64.ofNat 99))]) (r := []) rfl rfl (kc_Con_le (fu_li (d := 0) (lo := 0) (hi := 99) hg rfl rfl) (by omega)) (fun rv h2 hq => ?_)
    obtain ⟨rfl, e9⟩ := hq
    rw [e9]
    clear e9
    show kc_Ev g (d + 3) wk_m90 _ 17 [(0, .inr (.inr (.inl (some 259)))), (1, .inl (a)), (2, .inl (b))] [.inl (kp_b (fu_in b 0 99))] h
    refine kx_go 1 (pc' := (if kc_cnd .ne (kp_b (fu_in b 0 99)).toInt 0 then 23 else 20)) (L' := [(0, .inr (.inr (.inl (some 259)))), (1, .inl (a)), (2, .inl (b))]) (S' := []) (h' := h) (by with_unfolding_all rfl) ?_
    cases e2 : fu_in b 0 99 with
    | false =>
      rw [if_neg (fun q => by have := kx_b1.mp q; cases this)]
      refine kx_go 1 (pc' := 22) (L' := [(0, .inr (.inr (.inl (some 259)))), (1, .inl (a)), (2, .inl (b))]) (S' := [.inl (Int32.ofInt (-2))]) (h' := h) (by with_unfolding_all rfl) ?_
      exact kc_ret_ok rfl (rv := some (.inl (Int32.ofInt (-2)))) rfl ⟨by unfold fh_win; rw [eL2, e1, e2]; rfl, rfl⟩
    | true =>
      rw [if_pos (kx_b1.mpr rfl)]
      have h2p := fh_2p L (by omega)
      obtain ⟨m, m1, rfl, m2, m3⟩ := fu_in_n (u := 1023) e1 (by omega) (by omega)
      obtain ⟨e, c1, rfl, -, -⟩ := fu_in_n (u := 99) e2 (by omega) (by omega)
      refine kx_go 4 (pc' := 30) (L' := [(4, .inl (Int32.ofNat 0)), (3, .inl (Int32.ofNat 1000000)), (0, .inr (.inr (.inl (some 259)))), (1, .inl (Int32.ofNat m)), (2, .inl (Int32.ofNat e))]) (S' := []) (h' := h) (by with_unfolding_all rfl) ?_
      have eA : fh_win B (Int32.ofNat m) (Int32.ofNat e) = fh_w (fh_G B L m e s) := by
        unfold fh_win
        rw [eL2, eS2, e1, e2, kx_ti (show m < 2147483648 by omega), kx_ti (show e < 2147483648 by omega), Int.toNat_natCast, Int.toNat_natCast]
        rfl
      rw [eA]
      show kc_Ev g (d + 3) wk_m90 (fun rv h' => rv = some (.inl (fh_w (fh_G B L m e s))) ∧ h' = h) 30 [(4, .inl (Int32.ofNat 0)), (3, .inl (Int32.ofNat 1000000)), (0, .inr (.inr (.inl (some 259)))), (1, .inl (Int32.ofNat m)), (2, .inl (Int32.ofNat e))] [] h
      refine kf_lo (L := [(4, .inl (Int32.ofNat 0)), (3, .inl (Int32.ofNat (fh_cap 1000000))), (0, .inr (.inr (.inl (some 259)))), (1, .inl (Int32.ofNat m)), (2, .inl (Int32.ofNat e))]) (by intro q hq; simp only [List.mem_cons, List.not_mem_nil, or_false] at hq; rcases hq with rfl | rfl | rfl | rfl | rfl <;> rfl) ?_
      exact fh_r90l (F := fh_G B L m e s) hg hw hC hB hL eL hs hs2 hs0 eS c1 (by omega) (m + 1) 0 1000000 (by omega) (by omega) (by omega) rfl
theorem fU_Xwithin {g : kc_G} {h : kc_H} {a b : Int32} (hg : kc_ok g) (hI : fu_I h) : kc_Con g 30 89 [.inr (.inr (.inl (some 0))), .inl a, .inl b] h (fun rv h1 => ∃ z : Int32, rv = some (.inl z) ∧ kc_Con g 30 90 [.inr (.inr (.inl (some 259))), .inl a, .inl b] h1 (fun rv2 h2 => rv2 = some (.inl z) ∧ fu_I h2)) := by
  obtain ⟨B, hC, hR⟩ := hI.2.1
  have hB := fu_C_T hI.1 hC
  exact fu_both (S := (fh_win B a b, [])) hI hC hR fu_gd_nil (kc_Con_le (fu_cwin (d := 0) hg hI.1 hC hB) (by decide)) (fun h1 w1 r1 _ => kc_Con_le (fu_rwin (d := 0) hg w1 r1 hB) (by decide)) hI.2.2.2.2.2.1
end
