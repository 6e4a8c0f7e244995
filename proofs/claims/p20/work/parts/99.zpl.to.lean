section
-- 99.zpl
/-! ===== HALVES ===== -/
def fh_W (B : Nat → Int32) (l : Nat) : Nat := (B (80 + 7 * l + 0)).toInt.toNat
theorem fh_Wl {B : Nat → Int32} (hB : fu_BT B) {l : Nat} (hl : l < 10) : B (80 + 7 * l + 0) = Int32.ofNat (fh_W B l) ∧ fh_W B l ≤ 99 := by
  obtain ⟨k, k1, k2⟩ := fu_nat (by decide) (fu_flo l hl).2.1 (hB (80 + 7 * l + 0) (by omega) (((fu_flo l hl).1 0 (by decide)).2.2 (by decide)))
  unfold fh_W
  rw [k2, kx_ti (by omega), Int.toNat_natCast]
  exact ⟨rfl, k1⟩
theorem fh_v1 {z : Int} {x : Nat} : Int32.ofInt z + Int32.ofNat x = Int32.ofInt (z + (x : Int)) := by rw [Int32.ofInt_add, Int32.ofInt_eq_ofNat]
theorem fh_v2 {z : Int} {x : Nat} : Int32.ofInt z + -Int32.ofNat x = Int32.ofInt (z + -(x : Int)) := by rw [Int32.ofInt_add, Int32.ofInt_neg, Int32.ofInt_eq_ofNat]
theorem fh_s1 {W : Nat → Nat} {m o k : Nat} (q1 : m / 2 ^ k % 2 = 1) (q2 : o / 2 ^ k % 2 = 1) : fh_s W m o (k + 1) = fh_s W m o k + (W k : Int) := by
  show fh_s W m o k + (if m / 2 ^ k % 2 = 1 then (if o / 2 ^ k % 2 = 1 then (W k : Int) else -(W k : Int)) else 0) = _
  rw [if_pos q1, if_pos q2]
theorem fh_s2 {W : Nat → Nat} {m o k : Nat} (q1 : m / 2 ^ k % 2 = 1) (q2 : ¬ o / 2 ^ k % 2 = 1) : fh_s W m o (k + 1) = fh_s W m o k + -(W k : Int) := by
  show fh_s W m o k + (if m / 2 ^ k % 2 = 1 then (if o / 2 ^ k % 2 = 1 then (W k : Int) else -(W k : Int)) else 0) = _
  rw [if_pos q1, if_neg q2]
theorem fh_s0 {W : Nat → Nat} {m o k : Nat} (q1 : ¬ m / 2 ^ k % 2 = 1) : fh_s W m o (k + 1) = fh_s W m o k := by
  show fh_s W m o k + (if m / 2 ^ k % 2 = 1 then (if o / 2 ^ k % 2 = 1 then (W k : Int) else -(W k : Int)) else 0) = _
  rw [if_neg q1, Int.add_zero]
theorem fh_oi {z : Int} (h1 : -990 ≤ z) (h2 : z ≤ 990) : (Int32.ofInt z).toInt = z := Int32.toInt_ofInt_of_le (by omega) (by omega)
theorem fh_p {z : Int} (h1 : 0 ≤ z) (h2 : z ≤ 990) {y : Nat} (hy : (y : Int) = z) : Int32.ofInt z = Int32.ofNat y := by
  rw [← hy, Int32.ofInt_eq_ofNat]
theorem fh_n {z : Int} {y : Nat} (hy : (y : Int) = -z) : -Int32.ofInt z = Int32.ofNat y := by
  rw [← Int32.ofInt_neg, ← hy, Int32.ofInt_eq_ofNat]
theorem fh_abs {z : Int} (h1 : -990 ≤ z) (h2 : z ≤ 990) : (if (0 : Int32) ≤ Int32.ofInt z then Int32.ofInt z else 0 - Int32.ofInt z) = Int32.ofNat z.natAbs := by
  have t := fh_oi h1 h2
  have z0 : (0 : Int32).toInt = 0 := by decide
  by_cases c : 0 ≤ z
  · rw [if_pos (Int32.le_iff_toInt_le.mpr (by rw [t, z0]; exact c))]
    exact fh_p c h2 (by omega)
  · rw [if_neg (fun k => c (by have := Int32.le_iff_toInt_le.mp k; rw [t, z0] at this; exact this))]
    have e : (0 : Int32) - Int32.ofInt z = Int32.ofInt (0 - z) := by
      rw [Int32.ofInt_sub]
      rfl
    rw [e]
    exact fh_p (by omega) (by omega) (by omega)
theorem fh_pw : ∀ L, L < 11 → ((Int32.ofNat 1 <<< (Int32.ofNat L &&& 31)) - Int32.ofNat 1).toInt = ((2 ^ L : Nat) : Int) - 1 := by decide +kernel
theorem fh_pwl {L : Nat} (h : L < 11) : ((Int32.ofNat 1 <<< (Int32.ofNat L &&& 31)) - Int32.ofNat 1).toInt64.toInt = ((2 ^ L : Nat) : Int) - 1 := by rw [Int32.toInt_toInt64, fh_pw L h]
theorem fh_2p : ∀ L, L < 11 → 2 ^ L ≤ 1024 := by decide
theorem fh_m2 {x : Nat} : x % 2 < 2147483648 := Nat.lt_trans (Nat.mod_lt _ (by decide)) (by decide)
def fh_D (B : Nat → Int32) (L m : Nat) (x : Nat) : Nat := (fh_s (fh_W B) m x L).natAbs
theorem fh_Db {B : Nat → Int32} {L m x : Nat} (hB : fu_BT B) (hL : L ≤ 10) : fh_D B L m x ≤ 990 := by
  have := fh_s_b (m := m) (o := x) (fun l hl => (fh_Wl hB hl).2) L hL
  unfold fh_D
  omega
def fh_r (b : Nat) (F : fh_S) : Int32 := if b = 0 then Int32.ofNat F.1 else if b = 1 then Int32.ofNat F.2.1 else F.2.2
def fh_F (B : Nat → Int32) (L m : Nat) : fh_S := fh_f (fun x s => fh_u (fh_D B L m x) x s) m (m + 1) 0 (1000000, 0, Int32.ofNat 0)
theorem fh_1st {D : Nat → Nat} {m : Nat} {p : Int32} (h : D 0 < 1000000) : fh_f (fun x s => fh_u (D x) x s) m (m + 1) 0 (1000000, 0, p) = fh_f (fun x s => fh_u (D x) x s) m m 1 (D 0, 1, Int32.ofNat 0) := by
  show fh_f (fun x s => fh_u (D x) x s) m m 1 (if 0 &&& m = 0 then fh_u (D 0) 0 (1000000, 0, p) else (1000000, 0, p)) = _
  rw [if_pos (Nat.zero_and m)]
  unfold fh_u
  rw [if_pos h]
def fh_ans (B : Nat → Int32) (a b : Int32) : Int32 := if (fu_in a 1 (((2 ^ (B 2).toInt.toNat : Nat) : Int) - 1) && fu_in b 0 2) = true then fh_r b.toInt.toNat (fh_F B (B 2).toInt.toNat a.toInt.toNat) else Int32.ofInt (-2)
set_option maxRecDepth 20000 in
theorem fh_c86 {g : kc_G} {d : Nat} {h : kc_H} {B : Nat → Int32} {L : Nat} {a : Int32} (hg : kc_ok g) (hw : kd_wt kd_ty h) (hC : fu_C B 1 h) (hB : fu_BT B) (hL : L ≤ 10) (eL : B 2 = Int32.ofNat L) : kc_Con g (d + 2) 86 [.inr (.inr (.inl (some 1))), .inl a] h (fun rv h' => rv = some (.inl (kp_b (fu_in a 1 (((2 ^ L : Nat) : Int) - 1)))) ∧ h' = h) := by
  refine kc_Con_new hg (M := wk_m86) rfl rfl rfl (show 2 ≤ 2 by decide) ?_
  refine kx_go 4 (pc' := 4) (L' := [(0, .inr (.inr (.inl (some 1)))), (1, .inl (a))]) (S' := [.inr (.inr (.inl (some 1))), .inl (Int32.ofNat 1), .inl (Int32.ofNat 1), .inl (a)]) (h' := h) (by with_unfolding_all rfl) ?_
  refine kx_getf (c := 1) (v := .inl (Int32.ofNat L)) rfl (by decide) ((fu_C0 hC).2.2.1.trans (by rw [eL])) ?_
  refine kx_go 3 (pc' := 10) (L' := [(0, .inr (.inr (.inl (some 1)))), (1, .inl (a))]) (S' := [.inl (((Int32.ofNat 1) <<< ((Int32.ofNat L) &&& 31)) - (Int32.ofNat 1)), .inl (Int32.ofNat 1), .inl (a)]) (h' := h) (by with_unfolding_all rfl) ?_
  refine kc_call_rule (M2 := wk_m19) (av := [.inl (a), .inl (Int32.ofNat 1), .inl (((Int32.ofNat 1) <<< ((Int32.ofNat L) &&& 31)) - (Int32.ofNat 1))]) (r := []) rfl rfl (kc_Con_le (fu_bt (d := 0) (lo := 1) (hi := ((2 ^ L : Nat) : Int) - 1) hg rfl (fh_pw L (by omega))) (by omega)) (fun rv h2 hq => ?_)
  obtain ⟨rfl, e9⟩ := hq
  rw [e9]
  clear e9
  cases fu_in a 1 (((2 ^ L : Nat) : Int) - 1) with
  | false => exact kc_ret_ok rfl (rv := some (.inl (kp_b false))) rfl ⟨rfl, rfl⟩
  | true => exact kc_ret_ok rfl (rv := some (.inl (kp_b true))) rfl ⟨rfl, rfl⟩
set_option maxRecDepth 20000 in
theorem fh_r88 {g : kc_G} {d : Nat} {h : kc_H} {B : Nat → Int32} {L : Nat} {a : Int32} (hg : kc_ok g) (hw : kd_wt kd_ty h) (hC : fu_B B h) (hB : fu_BT B) (hL : L ≤ 10) (eL : B 2 = Int32.ofNat L) : kc_Con g (d + 2) 88 [.inr (.inr (.inl (some 259))), .inl a] h (fun rv h' => rv = some (.inl (kp_b (fu_in a 1 (((2 ^ L : Nat) : Int) - 1)))) ∧ h' = h) := by
  refine kc_Con_new hg (M := wk_m88) rfl rfl rfl (show 2 ≤ 2 by decide) ?_
  refine kx_go 5 (pc' := 5) (L' := [(0, .inr (.inr (.inl (some 259)))), (1, .inl (a))]) (S' := [.inr (.inr (.inl (some 259))), .inl (Int32.ofNat 1), .inr (.inl (Int64.ofNat 1)), .inr (.inl (a.toInt64))]) (h' := h) (by with_unfolding_all rfl) ?_
  refine kx_getf (c := 259) (v := .inr (.inr (.inl (some 260)))) rfl (by decide) (kx_ofr (hw _ _ _ kz_k.1)) ?_
  refine kx_go 1 (pc' := 9) (L' := [(0, .inr (.inr (.inl (some 259)))), (1, .inl (a))]) (S' := [.inl (Int32.ofNat 2), .inr (.inr (.inl (some 260))), .inl (Int32.ofNat 1), .inr (.inl (Int64.ofNat 1)), .inr (.inl (a.toInt64))]) (h' := h) (by with_unfolding_all rfl) ?_
  refine kx_iald (c := 260) (j := 2) (m := 650) (v := .inl (Int32.ofNat L)) rfl rfl (by decide) (by decide) (by decide) ((hC 2 (by decide) (by decide)).trans (by rw [eL])) ?_
  refine kx_go 4 (pc' := 14) (L' := [(0, .inr (.inr (.inl (some 259)))), (1, .inl (a))]) (S' := [.inr (.inl ((((Int32.ofNat 1) <<< ((Int32.ofNat L) &&& 31)) - (Int32.ofNat 1)).toInt64)), .inr (.inl (Int64.ofNat 1)), .inr (.inl (a.toInt64))]) (h' := h) (by with_unfolding_all rfl) ?_
  refine kc_call_rule (M2 := wk_m22) (av := [.inr (.inl (a.toInt64)), .inr (.inl (Int64.ofNat 1)), .inr (.inl ((((Int32.ofNat 1) <<< ((Int32.ofNat L) &&& 31)) - (Int32.ofNat 1)).toInt64))]) (r := []) rfl rfl (kc_Con_le (fu_li (d := 0) (lo := 1) (hi := ((2 ^ L : Nat) : Int) - 1) hg rfl (fh_pwl (by omega))) (by omega)) (fun rv h2 hq => ?_)
  obtain ⟨rfl, e9⟩ := hq
  rw [e9]
  clear e9
  cases fu_in a 1 (((2 ^ L : Nat) : Int) - 1) with
  | false => exact kc_ret_ok rfl (rv := some (.inl (kp_b false))) rfl ⟨rfl, rfl⟩
  | true => exact kc_ret_ok rfl (rv := some (.inl (kp_b true))) rfl ⟨rfl, rfl⟩
set_option maxRecDepth 20000 in
theorem fh_r237 {g : kc_G} {d : Nat} {h : kc_H} {B : Nat → Int32} {l e : Nat} (hg : kc_ok g) (hw : kd_wt kd_ty h) (hC : fu_B B h) (hl : l < 10) (he : e < 6) : kc_Con g (d + 1) 237 [.inr (.inr (.inl (some 259))), .inl (Int32.ofNat l), .inl (Int32.ofNat e)] h (fun rv h' => rv = some (.inl (B (80 + 7 * l + e))) ∧ h' = h) := by
  refine kc_Con_new hg (M := wk_m237) rfl rfl rfl (show 3 ≤ 3 by decide) ?_
  refine kx_go 1 (pc' := 1) (L' := [(0, .inr (.inr (.inl (some 259)))), (1, .inl (Int32.ofNat l)), (2, .inl (Int32.ofNat e))]) (S' := [.inr (.inr (.inl (some 259)))]) (h' := h) (by with_unfolding_all rfl) ?_
  refine kx_getf (c := 259) (v := .inr (.inr (.inl (some 260)))) rfl (by decide) (kx_ofr (hw _ _ _ kz_k.1)) ?_
  refine kx_go 7 (pc' := 13) (L' := [(0, .inr (.inr (.inl (some 259)))), (1, .inl (Int32.ofNat l)), (2, .inl (Int32.ofNat e))]) (S' := [.inl (((Int32.ofNat 80) + ((Int32.ofNat 7) * (Int32.ofNat l))) + (Int32.ofNat e)), .inr (.inr (.inl (some 260)))]) (h' := h) (by with_unfolding_all rfl) ?_
  rw [kx_mul, kx_add, kx_add]
  refine kx_iald (c := 260) (j := 80 + 7 * l + e) (m := 650) (v := .inl (B (80 + 7 * l + e))) rfl rfl (by decide) (by decide) (by omega) (hC (80 + 7 * l + e) (by omega) (((fu_flo l hl).1 e (by omega)).2.2 he)) ?_
  exact kc_ret_ok rfl (rv := some (.inl (B (80 + 7 * l + e)))) rfl ⟨rfl, rfl⟩
set_option maxRecDepth 20000 in
theorem fh_c199 {g : kc_G} {d : Nat} {h : kc_H} {m x : Nat} (hg : kc_ok g) (hm : m < 1024) (hx : x < 1024) : kc_Con g (d + 1) 199 [.inl (Int32.ofNat m), .inl (Int32.ofNat x)] h (fun rv h' => rv = some (.inl (Int32.ofNat ((x + 1024 - m) &&& m))) ∧ h' = h) := by
  refine kc_Con_new hg (M := wk_m199) rfl rfl rfl (show 2 ≤ 2 by decide) ?_
  refine kx_go 5 (pc' := 5) (L' := [(0, .inl (Int32.ofNat m)), (1, .inl (Int32.ofNat x))]) (S' := [.inl (((Int32.ofNat x) - (Int32.ofNat m)) &&& (Int32.ofNat m))]) (h' := h) (by with_unfolding_all rfl) ?_
  rw [fh_next hx hm]
  exact kc_ret_ok rfl (rv := some (.inl (Int32.ofNat ((x + 1024 - m) &&& m)))) rfl ⟨rfl, rfl⟩
set_option maxRecDepth 20000 in
theorem fh_c198l {g : kc_G} {d : Nat} {h : kc_H} {B : Nat → Int32} {L : Nat} {m x : Nat} (hw : kd_wt kd_ty h) (hC : fu_C B 1 h) (hB : fu_BT B) (hL : L ≤ 10) (eL : B 2 = Int32.ofNat L) (hm : m < 1024) (hx : x < 1024) : ∀ (u k : Nat) (v : Int32), L - k = u → k ≤ L → v = Int32.ofInt (fh_s (fh_W B) m x k) → kc_Ev g d wk_m198 (fun rv h' => rv = some (.inl (Int32.ofNat (fh_D B L m x))) ∧ h' = h) 5 [(4, .inl (Int32.ofNat k)), (3, .inl (v)), (0, .inr (.inr (.inl (some 1)))), (1, .inl (Int32.ofNat m)), (2, .inl (Int32.ofNat x))] [] h := by
  intro u
  induction u with
  | zero =>
    intro k v hu hk hv
    refine kx_go 2 (pc' := 8) (L' := [(4, .inl (Int32.ofNat k)), (3, .inl (v)), (0, .inr (.inr (.inl (some 1)))), (1, .inl (Int32.ofNat m)), (2, .inl (Int32.ofNat x))]) (S' := [.inr (.inr (.inl (some 1))), .inl (Int32.ofNat k)]) (h' := h) (by with_unfolding_all rfl) ?_
    refine kx_getf (c := 1) (v := .inl (Int32.ofNat L)) rfl (by decide) ((fu_C0 hC).2.2.1.trans (by rw [eL])) ?_
    refine kx_go 1 (pc' := (if kc_cnd .ge (Int32.ofNat k).toInt (Int32.ofNat L).toInt then 65 else 14)) (L' := [(4, .inl (Int32.ofNat k)), (3, .inl (v)), (0, .inr (.inr (.inl (some 1)))), (1, .inl (Int32.ofNat m)), (2, .inl (Int32.ofNat x))]) (S' := []) (h' := h) (by with_unfolding_all rfl) ?_
    rw [if_pos ((kx_ge (by omega) (by omega)).mpr (by omega))]
    obtain rfl : k = L := by omega
    refine kx_go 1 (pc' := 66) (L' := [(4, .inl (Int32.ofNat k)), (3, .inl (v)), (0, .inr (.inr (.inl (some 1)))), (1, .inl (Int32.ofNat m)), (2, .inl (Int32.ofNat x))]) (S' := [.inl (v)]) (h' := h) (by with_unfolding_all rfl) ?_
    refine kc_math_ok (AS' := [.inl (if (0 : Int32) ≤ v then v else 0 - v)]) rfl (by with_unfolding_all rfl) ?_
    have hz := fh_s_b (m := m) (o := x) (fun l hl => (fh_Wl hB hl).2) k hL
    rw [hv, fh_abs (by omega) (by omega)]
    exact kc_ret_ok rfl (rv := some (.inl (Int32.ofNat (fh_D B k m x)))) rfl ⟨rfl, rfl⟩
  | succ u ih =>
    intro k v hu hk hv
    refine kx_go 2 (pc' := 8) (L' := [(4, .inl (Int32.ofNat k)), (3, .inl (v)), (0, .inr (.inr (.inl (some 1)))), (1, .inl (Int32.ofNat m)), (2, .inl (Int32.ofNat x))]) (S' := [.inr (.inr (.inl (some 1))), .inl (Int32.ofNat k)]) (h' := h) (by with_unfolding_all rfl) ?_
    refine kx_getf (c := 1) (v := .inl (Int32.ofNat L)) rfl (by decide) ((fu_C0 hC).2.2.1.trans (by rw [eL])) ?_
    refine kx_go 1 (pc' := (if kc_cnd .ge (Int32.ofNat k).toInt (Int32.ofNat L).toInt then 65 else 14)) (L' := [(4, .inl (Int32.ofNat k)), (3, .inl (v)), (0, .inr (.inr (.inl (some 1)))), (1, .inl (Int32.ofNat m)), (2, .inl (Int32.ofNat x))]) (S' := []) (h' := h) (by with_unfolding_all rfl) ?_
    rw [if_neg (fun q => by have := (kx_ge (by omega) (by omega)).mp q; omega)]
    refine kx_go 7 (pc' := (if kc_cnd .ne (((Int32.ofNat m) >>> ((Int32.ofNat k) &&& 31)) &&& (Int32.ofNat 1)).toInt (Int32.ofNat 1).toInt then 59 else 24)) (L' := [(4, .inl (Int32.ofNat k)), (3, .inl (v)), (0, .inr (.inr (.inl (some 1)))), (1, .inl (Int32.ofNat m)), (2, .inl (Int32.ofNat x))]) (S' := []) (h' := h) (by with_unfolding_all rfl) ?_
    rw [fh_bit hm (by omega)]
    by_cases q1 : m / 2 ^ k % 2 = 1
    · rw [if_neg (fun q => (kx_ne fh_m2 (by decide)).mp q q1)]
      refine kx_go 8 (pc' := (if kc_cnd .ne (((Int32.ofNat x) >>> ((Int32.ofNat k) &&& 31)) &&& (Int32.ofNat 1)).toInt (Int32.ofNat 1).toInt then 47 else 35)) (L' := [(4, .inl (Int32.ofNat k)), (3, .inl (v)), (0, .inr (.inr (.inl (some 1)))), (1, .inl (Int32.ofNat m)), (2, .inl (Int32.ofNat x))]) (S' := [.inl (v)]) (h' := h) (by with_unfolding_all rfl) ?_
      rw [fh_bit hx (by omega)]
      by_cases q2 : x / 2 ^ k % 2 = 1
      · rw [if_neg (fun q => (kx_ne fh_m2 (by decide)).mp q q2)]
        refine kx_go 1 (pc' := 36) (L' := [(4, .inl (Int32.ofNat k)), (3, .inl (v)), (0, .inr (.inr (.inl (some 1)))), (1, .inl (Int32.ofNat m)), (2, .inl (Int32.ofNat x))]) (S' := [.inr (.inr (.inl (some 1))), .inl (v)]) (h' := h) (by with_unfolding_all rfl) ?_
        refine kx_getf (c := 1) (v := .inr (.inr (.inl (some 15)))) rfl (by decide) (kx_ofr (hw _ _ _ fu_kr.2.2.2.2.1)) ?_
        refine kx_go 1 (pc' := 41) (L' := [(4, .inl (Int32.ofNat k)), (3, .inl (v)), (0, .inr (.inr (.inl (some 1)))), (1, .inl (Int32.ofNat m)), (2, .inl (Int32.ofNat x))]) (S' := [.inl (Int32.ofNat k), .inr (.inr (.inl (some 15))), .inl (v)]) (h' := h) (by with_unfolding_all rfl) ?_
        refine kx_aald rfl (c := 15) (j := k) (m := 10) (t0 := 2) (v := .inr (.inr (.inl (some (1 + (15 + k)))))) rfl (by decide) (by decide) (by decide) (by omega) (kx_ofr (hw _ _ _ (fu_slo k (by omega)).2)) ?_
        refine kx_go 1 (pc' := 43) (L' := [(4, .inl (Int32.ofNat k)), (3, .inl (v)), (0, .inr (.inr (.inl (some 1)))), (1, .inl (Int32.ofNat m)), (2, .inl (Int32.ofNat x))]) (S' := [.inl (Int32.ofNat 0), .inr (.inr (.inl (some (1 + (15 + k))))), .inl (v)]) (h' := h) (by with_unfolding_all rfl) ?_
        refine kx_iald (c := 1 + (15 + k)) (j := 0) (m := 7) (v := .inl (Int32.ofNat (fh_W B k))) rfl (fu_slo k (by omega)).1.1 (fu_slo k (by omega)).1.2 (by decide) (by decide) ((fu_Cj (c := 15 + k) (i := 0) hC (by omega) (((fu_flo k (by omega)).1 0 (by decide)).2.2 (by decide)) ((fu_flo k (by omega)).1 0 (by decide)).1).trans (by rw [(fh_Wl hB (show k < 10 by omega)).1])) ?_
        refine kx_go 5 (pc' := 5) (L' := [(4, .inl ((Int32.ofNat k) + Int32.ofInt 1)), (3, .inl (v + (Int32.ofNat (fh_W B k)))), (0, .inr (.inr (.inl (some 1)))), (1, .inl (Int32.ofNat m)), (2, .inl (Int32.ofNat x))]) (S' := []) (h' := h) (by with_unfolding_all rfl) ?_
        rw [kx_inc]
        exact ih (k + 1) _ (by omega) (by omega) (by rw [hv, fh_v1, fh_s1 q1 q2])
      · rw [if_pos ((kx_ne fh_m2 (by decide)).mpr q2)]
        refine kx_go 1 (pc' := 48) (L' := [(4, .inl (Int32.ofNat k)), (3, .inl (v)), (0, .inr (.inr (.inl (some 1)))), (1, .inl (Int32.ofNat m)), (2, .inl (Int32.ofNat x))]) (S' := [.inr (.inr (.inl (some 1))), .inl (v)]) (h' := h) (by with_unfolding_all rfl) ?_
        refine kx_getf (c := 1) (v := .inr (.inr (.inl (some 15)))) rfl (by decide) (kx_ofr (hw _ _ _ fu_kr.2.2.2.2.1)) ?_
        refine kx_go 1 (pc' := 53) (L' := [(4, .inl (Int32.ofNat k)), (3, .inl (v)), (0, .inr (.inr (.inl (some 1)))), (1, .inl (Int32.ofNat m)), (2, .inl (Int32.ofNat x))]) (S' := [.inl (Int32.ofNat k), .inr (.inr (.inl (some 15))), .inl (v)]) (h' := h) (by with_unfolding_all rfl) ?_
        refine kx_aald rfl (c := 15) (j := k) (m := 10) (t0 := 2) (v := .inr (.inr (.inl (some (1 + (15 + k)))))) rfl (by decide) (by decide) (by decide) (by omega) (kx_ofr (hw _ _ _ (fu_slo k (by omega)).2)) ?_
        refine kx_go 1 (pc' := 55) (L' := [(4, .inl (Int32.ofNat k)), (3, .inl (v)), (0, .inr (.inr (.inl (some 1)))), (1, .inl (Int32.ofNat m)), (2, .inl (Int32.ofNat x))]) (S' := [.inl (Int32.ofNat 0), .inr (.inr (.inl (some (1 + (15 + k))))), .inl (v)]) (h' := h) (by with_unfolding_all rfl) ?_
        refine kx_iald (c := 1 + (15 + k)) (j := 0) (m := 7) (v := .inl (Int32.ofNat (fh_W B k))) rfl (fu_slo k (by omega)).1.1 (fu_slo k (by omega)).1.2 (by decide) (by decide) ((fu_Cj (c := 15 + k) (i := 0) hC (by omega) (((fu_flo k (by omega)).1 0 (by decide)).2.2 (by decide)) ((fu_flo k (by omega)).1 0 (by decide)).1).trans (by rw [(fh_Wl hB (show k < 10 by omega)).1])) ?_
        refine kx_go 5 (pc' := 5) (L' := [(4, .inl ((Int32.ofNat k) + Int32.ofInt 1)), (3, .inl (v + (-(Int32.ofNat (fh_W B k))))), (0, .inr (.inr (.inl (some 1)))), (1, .inl (Int32.ofNat m)), (2, .inl (Int32.ofNat x))]) (S' := []) (h' := h) (by with_unfolding_all rfl) ?_
        rw [kx_inc]
        exact ih (k + 1) _ (by omega) (by omega) (by rw [hv, fh_v2, fh_s2 q1 q2])
    · rw [if_pos ((kx_ne fh_m2 (by decide)).mpr q1)]
      refine kx_go 2 (pc' := 5) (L' := [(4, .inl ((Int32.ofNat k) + Int32.ofInt 1)), (3, .inl (v)), (0, .inr (.inr (.inl (some 1)))), (1, .inl (Int32.ofNat m)), (2, .inl (Int32.ofNat x))]) (S' := []) (h' := h) (by with_unfolding_all rfl) ?_
      rw [kx_inc]
      exact ih (k + 1) v (by omega) (by omega) (by rw [hv, fh_s0 q1])
set_option maxRecDepth 20000 in
theorem fh_c198 {g : kc_G} {d : Nat} {h : kc_H} {B : Nat → Int32} {L : Nat} {m x : Nat} (hg : kc_ok g) (hw : kd_wt kd_ty h) (hC : fu_C B 1 h) (hB : fu_BT B) (hL : L ≤ 10) (eL : B 2 = Int32.ofNat L) (hm : m < 1024) (hx : x < 1024) : kc_Con g (d + 1) 198 [.inr (.inr (.inl (some 1))), .inl (Int32.ofNat m), .inl (Int32.ofNat x)] h (fun rv h' => rv = some (.inl (Int32.ofNat (fh_D B L m x))) ∧ h' = h) := by
  refine kc_Con_new hg (M := wk_m198) rfl rfl rfl (show 3 ≤ 5 by decide) ?_
  refine kx_go 4 (pc' := 5) (L' := [(4, .inl (Int32.ofNat 0)), (3, .inl (Int32.ofNat 0)), (0, .inr (.inr (.inl (some 1)))), (1, .inl (Int32.ofNat m)), (2, .inl (Int32.ofNat x))]) (S' := []) (h' := h) (by with_unfolding_all rfl) ?_
  exact fh_c198l hw hC hB hL eL hm hx L 0 _ (by omega) (by omega) (by unfold fh_s; rfl)
set_option maxRecDepth 20000 in
theorem fh_r257l {g : kc_G} {d : Nat} {h : kc_H} {B : Nat → Int32} {L : Nat} {m x : Nat} (hg : kc_ok g) (hw : kd_wt kd_ty h) (hC : fu_B B h) (hB : fu_BT B) (hL : L ≤ 10) (eL : B 2 = Int32.ofNat L) (hm : m < 1024) (hx : x < 1024) : ∀ (u k : Nat) (v : Int32), L - k = u → k ≤ L → v = Int32.ofInt (-(fh_s (fh_W B) m x k)) → kc_Ev g (d + 1) wk_m257 (fun rv h' => rv = some (.inl (Int32.ofNat (fh_D B L m x))) ∧ h' = h) 5 [(4, .inl (Int32.ofNat k)), (3, .inl (v)), (0, .inr (.inr (.inl (some 259)))), (1, .inl (Int32.ofNat m)), (2, .inl (Int32.ofNat x))] [] h := by
  intro u
  induction u with
  | zero =>
    intro k v hu hk hv
    refine kx_go 2 (pc' := 8) (L' := [(4, .inl (Int32.ofNat k)), (3, .inl (v)), (0, .inr (.inr (.inl (some 259)))), (1, .inl (Int32.ofNat m)), (2, .inl (Int32.ofNat x))]) (S' := [.inr (.inr (.inl (some 259))), .inl (Int32.ofNat k)]) (h' := h) (by with_unfolding_all rfl) ?_
    refine kx_getf (c := 259) (v := .inr (.inr (.inl (some 260)))) rfl (by decide) (kx_ofr (hw _ _ _ kz_k.1)) ?_
    refine kx_go 1 (pc' := 12) (L' := [(4, .inl (Int32.ofNat k)), (3, .inl (v)), (0, .inr (.inr (.inl (some 259)))), (1, .inl (Int32.ofNat m)), (2, .inl (Int32.ofNat x))]) (S' := [.inl (Int32.ofNat 2), .inr (.inr (.inl (some 260))), .inl (Int32.ofNat k)]) (h' := h) (by with_unfolding_all rfl) ?_
    refine kx_iald (c := 260) (j := 2) (m := 650) (v := .inl (Int32.ofNat L)) rfl rfl (by decide) (by decide) (by decide) ((hC 2 (by decide) (by decide)).trans (by rw [eL])) ?_
    refine kx_go 1 (pc' := (if kc_cnd .ge (Int32.ofNat k).toInt (Int32.ofNat L).toInt then 66 else 16)) (L' := [(4, .inl (Int32.ofNat k)), (3, .inl (v)), (0, .inr (.inr (.inl (some 259)))), (1, .inl (Int32.ofNat m)), (2, .inl (Int32.ofNat x))]) (S' := []) (h' := h) (by with_unfolding_all rfl) ?_
    rw [if_pos ((kx_ge (by omega) (by omega)).mpr (by omega))]
    obtain rfl : k = L := by omega
    have hz := fh_s_b (m := m) (o := x) (fun l hl => (fh_Wl hB hl).2) k hL
    have ev : v.toInt = -(fh_s (fh_W B) m x k) := by rw [hv, fh_oi (by omega) (by omega)]
    refine kx_go 2 (pc' := (if kc_cnd .ge (v).toInt 0 then 75 else 70)) (L' := [(4, .inl (Int32.ofNat k)), (3, .inl (v)), (0, .inr (.inr (.inl (some 259)))), (1, .inl (Int32.ofNat m)), (2, .inl (Int32.ofNat x))]) (S' := []) (h' := h) (by with_unfolding_all rfl) ?_
    by_cases c : v.toInt < 0
    · rw [if_neg (fun q => (fu_ige.mp q) c)]
      refine kx_go 3 (pc' := 76) (L' := [(4, .inl (Int32.ofNat k)), (3, .inl (v)), (0, .inr (.inr (.inl (some 259)))), (1, .inl (Int32.ofNat m)), (2, .inl (Int32.ofNat x))]) (S' := [.inl (-v)]) (h' := h) (by with_unfolding_all rfl) ?_
      rw [hv, fh_n (y := fh_D B k m x) (by unfold fh_D; omega)]
      exact kc_ret_ok rfl (rv := some (.inl (Int32.ofNat (fh_D B k m x)))) rfl ⟨rfl, rfl⟩
    · rw [if_pos (fu_ige.mpr c)]
      refine kx_go 1 (pc' := 76) (L' := [(4, .inl (Int32.ofNat k)), (3, .inl (v)), (0, .inr (.inr (.inl (some 259)))), (1, .inl (Int32.ofNat m)), (2, .inl (Int32.ofNat x))]) (S' := [.inl (v)]) (h' := h) (by with_unfolding_all rfl) ?_
      rw [hv, fh_p (y := fh_D B k m x) (by omega) (by omega) (by unfold fh_D; omega)]
      exact kc_ret_ok rfl (rv := some (.inl (Int32.ofNat (fh_D B k m x)))) rfl ⟨rfl, rfl⟩
  | succ u ih =>
    intro k v hu hk hv
    refine kx_go 2 (pc' := 8) (L' := [(4, .inl (Int32.ofNat k)), (3, .inl (v)), (0, .inr (.inr (.inl (some 259)))), (1, .inl (Int32.ofNat m)), (2, .inl (Int32.ofNat x))]) (S' := [.inr (.inr (.inl (some 259))), .inl (Int32.ofNat k)]) (h' := h) (by with_unfolding_all rfl) ?_
    refine kx_getf (c := 259) (v := .inr (.inr (.inl (some 260)))) rfl (by decide) (kx_ofr (hw _ _ _ kz_k.1)) ?_
    refine kx_go 1 (pc' := 12) (L' := [(4, .inl (Int32.ofNat k)), (3, .inl (v)), (0, .inr (.inr (.inl (some 259)))), (1, .inl (Int32.ofNat m)), (2, .inl (Int32.ofNat x))]) (S' := [.inl (Int32.ofNat 2), .inr (.inr (.inl (some 260))), .inl (Int32.ofNat k)]) (h' := h) (by with_unfolding_all rfl) ?_
    refine kx_iald (c := 260) (j := 2) (m := 650) (v := .inl (Int32.ofNat L)) rfl rfl (by decide) (by decide) (by decide) ((hC 2 (by decide) (by decide)).trans (by rw [eL])) ?_
    refine kx_go 1 (pc' := (if kc_cnd .ge (Int32.ofNat k).toInt (Int32.ofNat L).toInt then 66 else 16)) (L' := [(4, .inl (Int32.ofNat k)), (3, .inl (v)), (0, .inr (.inr (.inl (some 259)))), (1, .inl (Int32.ofNat m)), (2, .inl (Int32.ofNat x))]) (S' := []) (h' := h) (by with_unfolding_all rfl) ?_
    rw [if_neg (fun q => by have := (kx_ge (by omega) (by omega)).mp q; omega)]
    refine kx_go 7 (pc' := (if kc_cnd .ne (((Int32.ofNat m) >>> ((Int32.ofNat k) &&& 31)) &&& (Int32.ofNat 1)).toInt (Int32.ofNat 1).toInt then 36 else 26)) (L' := [(4, .inl (Int32.ofNat k)), (3, .inl (v)), (0, .inr (.inr (.inl (some 259)))), (1, .inl (Int32.ofNat m)), (2, .inl (Int32.ofNat x))]) (S' := []) (h' := h) (by with_unfolding_all rfl) ?_
    rw [fh_bit hm (by omega)]
    by_cases q1 : m / 2 ^ k % 2 = 1
    · rw [if_neg (fun q => (kx_ne fh_m2 (by decide)).mp q q1)]
      refine kx_go 3 (pc' := 30) (L' := [(4, .inl (Int32.ofNat k)), (3, .inl (v)), (0, .inr (.inr (.inl (some 259)))), (1, .inl (Int32.ofNat m)), (2, .inl (Int32.ofNat x))]) (S' := [.inl (Int32.ofNat 0), .inl (Int32.ofNat k), .inr (.inr (.inl (some 259)))]) (h' := h) (by with_unfolding_all rfl) ?_
      refine kc_call_rule (M2 := wk_m237) (av := [.inr (.inr (.inl (some 259))), .inl (Int32.ofNat k), .inl (Int32.ofNat 0)]) (r := []) rfl rfl (kc_Con_le (fh_r237 (d := 0) (e := 0) hg hw hC (show k < 10 by omega) (by decide)) (by omega)) (fun rv h2 hq => ?_)
      obtain ⟨rfl, e9⟩ := hq
      rw [e9]
      clear e9
      rw [(fh_Wl hB (show k < 10 by omega)).1]
      show kc_Ev g (d + 1) wk_m257 _ 33 [(4, .inl (Int32.ofNat k)), (3, .inl (v)), (0, .inr (.inr (.inl (some 259)))), (1, .inl (Int32.ofNat m)), (2, .inl (Int32.ofNat x))] [.inl (Int32.ofNat (fh_W B k))] h
      refine kx_go 10 (pc' := (if kc_cnd .ne (((Int32.ofNat x) >>> ((Int32.ofNat k) &&& 31)) &&& (Int32.ofNat 1)).toInt (Int32.ofNat 1).toInt then 56 else 50)) (L' := [(5, .inl (Int32.ofNat (fh_W B k))), (4, .inl (Int32.ofNat k)), (3, .inl (v)), (0, .inr (.inr (.inl (some 259)))), (1, .inl (Int32.ofNat m)), (2, .inl (Int32.ofNat x))]) (S' := [.inl (v)]) (h' := h) (by with_unfolding_all rfl) ?_
      rw [fh_bit hx (by omega)]
      by_cases q2 : x / 2 ^ k % 2 = 1
      · rw [if_neg (fun q => (kx_ne fh_m2 (by decide)).mp q q2)]
        refine kx_go 7 (pc' := 5) (L' := [(4, .inl ((Int32.ofNat k) + Int32.ofInt 1)), (3, .inl (v + (-(Int32.ofNat (fh_W B k))))), (5, .inl (Int32.ofNat (fh_W B k))), (0, .inr (.inr (.inl (some 259)))), (1, .inl (Int32.ofNat m)), (2, .inl (Int32.ofNat x))]) (S' := []) (h' := h) (by with_unfolding_all rfl) ?_
        rw [kx_inc]
        refine kf_lo (L := [(4, .inl (Int32.ofNat (k + 1))), (3, .inl (v + (-(Int32.ofNat (fh_W B k))))), (0, .inr (.inr (.inl (some 259)))), (1, .inl (Int32.ofNat m)), (2, .inl (Int32.ofNat x))]) (by intro q hq; simp only [List.mem_cons, List.not_mem_nil, or_false] at hq; rcases hq with rfl | rfl | rfl | rfl | rfl <;> rfl) ?_
        exact ih (k + 1) _ (by omega) (by omega) (by rw [hv, fh_v2, fh_s1 q1 q2]; exact congrArg Int32.ofInt (by omega))
      · rw [if_pos ((kx_ne fh_m2 (by decide)).mpr q2)]
        refine kx_go 5 (pc' := 5) (L' := [(4, .inl ((Int32.ofNat k) + Int32.ofInt 1)), (3, .inl (v + (Int32.ofNat (fh_W B k)))), (5, .inl (Int32.ofNat (fh_W B k))), (0, .inr (.inr (.inl (some 259)))), (1, .inl (Int32.ofNat m)), (2, .inl (Int32.ofNat x))]) (S' := []) (h' := h) (by with_unfolding_all rfl) ?_
        rw [kx_inc]
        refine kf_lo (L := [(4, .inl (Int32.ofNat (k + 1))), (3, .inl (v + (Int32.ofNat (fh_W B k)))), (0, .inr (.inr (.inl (some 259)))), (1, .inl (Int32.ofNat m)), (2, .inl (Int32.ofNat x))]) (by intro q hq; simp only [List.mem_cons, List.not_mem_nil, or_false] at hq; rcases hq with rfl | rfl | rfl | rfl | rfl <;> rfl) ?_
        exact ih (k + 1) _ (by omega) (by omega) (by rw [hv, fh_v1, fh_s2 q1 q2]; exact congrArg Int32.ofInt (by omega))
    · rw [if_pos ((kx_ne fh_m2 (by decide)).mpr q1)]
      refine kx_go 10 (pc' := (if kc_cnd .ne (((Int32.ofNat x) >>> ((Int32.ofNat k) &&& 31)) &&& (Int32.ofNat 1)).toInt (Int32.ofNat 1).toInt then 56 else 50)) (L' := [(5, .inl (Int32.ofNat 0)), (4, .inl (Int32.ofNat k)), (3, .inl (v)), (0, .inr (.inr (.inl (some 259)))), (1, .inl (Int32.ofNat m)), (2, .inl (Int32.ofNat x))]) (S' := [.inl (v)]) (h' := h) (by with_unfolding_all rfl) ?_
      rw [fh_bit hx (by omega)]
      by_cases q2 : x / 2 ^ k % 2 = 1
      · rw [if_neg (fun q => (kx_ne fh_m2 (by decide)).mp q q2)]
        refine kx_go 7 (pc' := 5) (L' := [(4, .inl ((Int32.ofNat k) + Int32.ofInt 1)), (3, .inl (v + (-(Int32.ofNat 0)))), (5, .inl (Int32.ofNat 0)), (0, .inr (.inr (.inl (some 259)))), (1, .inl (Int32.ofNat m)), (2, .inl (Int32.ofNat x))]) (S' := []) (h' := h) (by with_unfolding_all rfl) ?_
        rw [kx_inc]
        refine kf_lo (L := [(4, .inl (Int32.ofNat (k + 1))), (3, .inl (v + (-(Int32.ofNat 0)))), (0, .inr (.inr (.inl (some 259)))), (1, .inl (Int32.ofNat m)), (2, .inl (Int32.ofNat x))]) (by intro q hq; simp only [List.mem_cons, List.not_mem_nil, or_false] at hq; rcases hq with rfl | rfl | rfl | rfl | rfl <;> rfl) ?_
        exact ih (k + 1) _ (by omega) (by omega) (by rw [hv, fh_v2, fh_s0 q1]; exact congrArg Int32.ofInt (by omega))
      · rw [if_pos ((kx_ne fh_m2 (by decide)).mpr q2)]
        refine kx_go 5 (pc' := 5) (L' := [(4, .inl ((Int32.ofNat k) + Int32.ofInt 1)), (3, .inl (v + (Int32.ofNat 0))), (5, .inl (Int32.ofNat 0)), (0, .inr (.inr (.inl (some 259)))), (1, .inl (Int32.ofNat m)), (2, .inl (Int32.ofNat x))]) (S' := []) (h' := h) (by with_unfolding_all rfl) ?_
        rw [kx_inc]
        refine kf_lo (L := [(4, .inl (Int32.ofNat (k + 1))), (3, .inl (v + (Int32.ofNat 0))), (0, .inr (.inr (.inl (some 259)))), (1, .inl (Int32.ofNat m)), (2, .inl (Int32.ofNat x))]) (by intro q hq; simp only [List.mem_cons, List.not_mem_nil, or_false] at hq; rcases hq with rfl | rfl | rfl | rfl | rfl <;> rfl) ?_
        exact ih (k + 1) _ (by omega) (by omega) (by rw [hv, fh_v1, fh_s0 q1]; exact congrArg Int32.ofInt (by omega))
set_option maxRecDepth 20000 in
theorem fh_r257 {g : kc_G} {d : Nat} {h : kc_H} {B : Nat → Int32} {L : Nat} {m x : Nat} (hg : kc_ok g) (hw : kd_wt kd_ty h) (hC : fu_B B h) (hB : fu_BT B) (hL : L ≤ 10) (eL : B 2 = Int32.ofNat L) (hm : m < 1024) (hx : x < 1024) : kc_Con g (d + 2) 257 [.inr (.inr (.inl (some 259))), .inl (Int32.ofNat m), .inl (Int32.ofNat x)] h (fun rv h' => rv = some (.inl (Int32.ofNat (fh_D B L m x))) ∧ h' = h) := by
  refine kc_Con_new hg (M := wk_m257) rfl rfl rfl (show 3 ≤ 6 by decide) ?_
  refine kx_go 4 (pc' := 5) (L' := [(4, .inl (Int32.ofNat 0)), (3, .inl (Int32.ofNat 0)), (0, .inr (.inr (.inl (some 259)))), (1, .inl (Int32.ofNat m)), (2, .inl (Int32.ofNat x))]) (S' := []) (h' := h) (by with_unfolding_all rfl) ?_
  exact fh_r257l hg hw hC hB hL eL hm hx L 0 _ (by omega) (by omega) (by unfold fh_s; rfl)
set_option maxRecDepth 20000 in
theorem fh_c85e {g : kc_G} {d b a n m : Nat} {f : Int32} {h : kc_H} {F : fh_S} (hb : b ≤ 2) (hF : (a, n, f) = F) : kc_Ev g d wk_m85 (fun rv h' => rv = some (.inl (fh_r b F)) ∧ h' = h) 106 [(5, .inl (f)), (4, .inl (Int32.ofNat n)), (3, .inl (Int32.ofNat a)), (0, .inr (.inr (.inl (some 0)))), (1, .inl (Int32.ofNat m)), (2, .inl (Int32.ofNat b))] [] h := by
  rcases (show b = 0 ∨ b = 1 ∨ b = 2 by omega) with rfl | rfl | rfl
  · refine kx_go 4 (pc' := 126) (L' := [(5, .inl (f)), (4, .inl (Int32.ofNat n)), (3, .inl (Int32.ofNat a)), (0, .inr (.inr (.inl (some 0)))), (1, .inl (Int32.ofNat m)), (2, .inl (Int32.ofNat 0))]) (S' := [.inl (Int32.ofNat a)]) (h' := h) (by with_unfolding_all rfl) ?_
    subst hF
    exact kc_ret_ok rfl (rv := some (.inl (Int32.ofNat a))) rfl ⟨rfl, rfl⟩
  · refine kx_go 7 (pc' := 126) (L' := [(5, .inl (f)), (4, .inl (Int32.ofNat n)), (3, .inl (Int32.ofNat a)), (0, .inr (.inr (.inl (some 0)))), (1, .inl (Int32.ofNat m)), (2, .inl (Int32.ofNat 1))]) (S' := [.inl (Int32.ofNat n)]) (h' := h) (by with_unfolding_all rfl) ?_
    subst hF
    exact kc_ret_ok rfl (rv := some (.inl (Int32.ofNat n))) rfl ⟨rfl, rfl⟩
  · refine kx_go 6 (pc' := 126) (L' := [(5, .inl (f)), (4, .inl (Int32.ofNat n)), (3, .inl (Int32.ofNat a)), (0, .inr (.inr (.inl (some 0)))), (1, .inl (Int32.ofNat m)), (2, .inl (Int32.ofNat 2))]) (S' := [.inl (f)]) (h' := h) (by with_unfolding_all rfl) ?_
    subst hF
    exact kc_ret_ok rfl (rv := some (.inl (f))) rfl ⟨rfl, rfl⟩
set_option maxRecDepth 20000 in
theorem fh_r87e {g : kc_G} {d b a n m : Nat} {f : Int32} {h : kc_H} {F : fh_S} (hb : b ≤ 2) (hF : (a, n, f) = F) : kc_Ev g d wk_m87 (fun rv h' => rv = some (.inl (fh_r b F)) ∧ h' = h) 98 [(5, .inl (f)), (4, .inl (Int32.ofNat n)), (3, .inl (Int32.ofNat a)), (0, .inr (.inr (.inl (some 259)))), (1, .inl (Int32.ofNat m)), (2, .inl (Int32.ofNat b))] [] h := by
  rcases (show b = 0 ∨ b = 1 ∨ b = 2 by omega) with rfl | rfl | rfl
  · refine kx_go 4 (pc' := 118) (L' := [(5, .inl (f)), (4, .inl (Int32.ofNat n)), (3, .inl (Int32.ofNat a)), (0, .inr (.inr (.inl (some 259)))), (1, .inl (Int32.ofNat m)), (2, .inl (Int32.ofNat 0))]) (S' := [.inl (Int32.ofNat a)]) (h' := h) (by with_unfolding_all rfl) ?_
    subst hF
    exact kc_ret_ok rfl (rv := some (.inl (Int32.ofNat a))) rfl ⟨rfl, rfl⟩
  · refine kx_go 7 (pc' := 118) (L' := [(5, .inl (f)), (4, .inl (Int32.ofNat n)), (3, .inl (Int32.ofNat a)), (0, .inr (.inr (.inl (some 259)))), (1, .inl (Int32.ofNat m)), (2, .inl (Int32.ofNat 1))]) (S' := [.inl (Int32.ofNat n)]) (h' := h) (by with_unfolding_all rfl) ?_
    subst hF
    exact kc_ret_ok rfl (rv := some (.inl (Int32.ofNat n))) rfl ⟨rfl, rfl⟩
  · refine kx_go 6 (pc' := 118) (L' := [(5, .inl (f)), (4, .inl (Int32.ofNat n)), (3, .inl (Int32.ofNat a)), (0, .inr (.inr (.inl (some 259)))), (1, .inl (Int32.ofNat m)), (2, .inl (Int32.ofNat 2))]) (S' := [.inl (f)]) (h' := h) (by with_unfolding_all rfl) ?_
    subst hF
    exact kc_ret_ok rfl (rv := some (.inl (f))) rfl ⟨rfl, rfl⟩
set_option maxRecDepth 20000 in
theorem fh_c85l {g : kc_G} {d : Nat} {h : kc_H} {B : Nat → Int32} {L : Nat} {m b : Nat} {F : fh_S} (hg : kc_ok g) (hw : kd_wt kd_ty h) (hC : fu_C B 1 h) (hB : fu_BT B) (hL : L ≤ 10) (eL : B 2 = Int32.ofNat L) (hm : m < 1024) (hb : b ≤ 2) : ∀ (u k x a n : Nat) (f : Int32), m + 1 - x ≤ u → x ≤ m → x &&& m = x → k ≤ x → a ≤ 1000000 → fh_f (fun x s => fh_u (fh_D B L m x) x s) m (m + 1 - x) x (a, n, f) = F → kc_Ev g (d + 3) wk_m85 (fun rv h' => rv = some (.inl (fh_r b F)) ∧ h' = h) 38 [(7, .inl (Int32.ofNat k)), (6, .inl (Int32.ofNat x)), (5, .inl (f)), (4, .inl (Int32.ofNat n)), (3, .inl (Int32.ofNat a)), (0, .inr (.inr (.inl (some 0)))), (1, .inl (Int32.ofNat m)), (2, .inl (Int32.ofNat b))] [] h := by
  intro u
  induction u with
  | zero =>
    intro k x a n f hu hx hs hk ha hF
    omega
  | succ u ih =>
    intro k x a n f hu hx hs hk ha hF
    have hD := fh_Db (m := m) (x := x) hB hL
    refine kx_go 3 (pc' := (if kc_cnd .ge (Int32.ofNat k).toInt (Int32.ofNat 1024).toInt then 106 else 46)) (L' := [(7, .inl (Int32.ofNat k)), (6, .inl (Int32.ofNat x)), (5, .inl (f)), (4, .inl (Int32.ofNat n)), (3, .inl (Int32.ofNat a)), (0, .inr (.inr (.inl (some 0)))), (1, .inl (Int32.ofNat m)), (2, .inl (Int32.ofNat b))]) (S' := []) (h' := h) (by with_unfolding_all rfl) ?_
    rw [if_neg (fun q => by have := (kx_ge (by omega) (by omega)).mp q; omega)]
    refine kx_go 1 (pc' := 47) (L' := [(7, .inl (Int32.ofNat k)), (6, .inl (Int32.ofNat x)), (5, .inl (f)), (4, .inl (Int32.ofNat n)), (3, .inl (Int32.ofNat a)), (0, .inr (.inr (.inl (some 0)))), (1, .inl (Int32.ofNat m)), (2, .inl (Int32.ofNat b))]) (S' := [.inr (.inr (.inl (some 0)))]) (h' := h) (by with_unfolding_all rfl) ?_
    refine kx_getf (c := 0) (v := .inr (.inr (.inl (some 1)))) rfl (by decide) (kx_ofr (hw _ _ _ kv_k0.1)) ?_
    refine kx_go 2 (pc' := 53) (L' := [(7, .inl (Int32.ofNat k)), (6, .inl (Int32.ofNat x)), (5, .inl (f)), (4, .inl (Int32.ofNat n)), (3, .inl (Int32.ofNat a)), (0, .inr (.inr (.inl (some 0)))), (1, .inl (Int32.ofNat m)), (2, .inl (Int32.ofNat b))]) (S' := [.inl (Int32.ofNat x), .inl (Int32.ofNat m), .inr (.inr (.inl (some 1)))]) (h' := h) (by with_unfolding_all rfl) ?_
    refine kc_call_rule (M2 := wk_m198) (av := [.inr (.inr (.inl (some 1))), .inl (Int32.ofNat m), .inl (Int32.ofNat x)]) (r := []) rfl rfl (kc_Con_le (fh_c198 (d := 0) hg hw hC hB hL eL hm (show x < 1024 by omega)) (by omega)) (fun rv h2 hq => ?_)
    obtain ⟨rfl, e9⟩ := hq
    rw [e9]
    clear e9
    show kc_Ev g (d + 3) wk_m85 _ 56 [(7, .inl (Int32.ofNat k)), (6, .inl (Int32.ofNat x)), (5, .inl (f)), (4, .inl (Int32.ofNat n)), (3, .inl (Int32.ofNat a)), (0, .inr (.inr (.inl (some 0)))), (1, .inl (Int32.ofNat m)), (2, .inl (Int32.ofNat b))] [.inl (Int32.ofNat (fh_D B L m x))] h
    have tail : ∀ (a2 n2 : Nat) (f2 : Int32), a2 ≤ 1000000 → fh_u (fh_D B L m x) x (a, n, f) = (a2, n2, f2) → kc_Ev g (d + 3) wk_m85 (fun rv h' => rv = some (.inl (fh_r b F)) ∧ h' = h) 83 [(7, .inl (Int32.ofNat k)), (6, .inl (Int32.ofNat x)), (5, .inl (f2)), (4, .inl (Int32.ofNat n2)), (3, .inl (Int32.ofNat a2)), (0, .inr (.inr (.inl (some 0)))), (1, .inl (Int32.ofNat m)), (2, .inl (Int32.ofNat b))] [] h := by
      intro a2 n2 f2 ha2 hf2
      refine kx_go 3 (pc' := (if kc_cnd .ne (Int32.ofNat x).toInt (Int32.ofNat m).toInt then 92 else 89)) (L' := [(7, .inl (Int32.ofNat k)), (6, .inl (Int32.ofNat x)), (5, .inl (f2)), (4, .inl (Int32.ofNat n2)), (3, .inl (Int32.ofNat a2)), (0, .inr (.inr (.inl (some 0)))), (1, .inl (Int32.ofNat m)), (2, .inl (Int32.ofNat b))]) (S' := []) (h' := h) (by with_unfolding_all rfl) ?_
      by_cases c : x = m
      · rw [if_neg (fun q => (kx_ne (by omega) (by omega)).mp q c)]
        refine kx_go 1 (pc' := 106) (L' := [(7, .inl (Int32.ofNat k)), (6, .inl (Int32.ofNat x)), (5, .inl (f2)), (4, .inl (Int32.ofNat n2)), (3, .inl (Int32.ofNat a2)), (0, .inr (.inr (.inl (some 0)))), (1, .inl (Int32.ofNat m)), (2, .inl (Int32.ofNat b))]) (S' := []) (h' := h) (by with_unfolding_all rfl) ?_
        refine kf_lo (L := [(5, .inl (f2)), (4, .inl (Int32.ofNat n2)), (3, .inl (Int32.ofNat a2)), (0, .inr (.inr (.inl (some 0)))), (1, .inl (Int32.ofNat m)), (2, .inl (Int32.ofNat b))]) (by intro q hq; simp only [List.mem_cons, List.not_mem_nil, or_false] at hq; rcases hq with rfl | rfl | rfl | rfl | rfl | rfl <;> rfl) ?_
        refine fh_c85e hb ?_
        rw [← hF, c, fh_end]
        rw [c] at hf2
        exact hf2.symm
      · rw [if_pos ((kx_ne (by omega) (by omega)).mpr c)]
        refine kx_go 2 (pc' := 95) (L' := [(7, .inl (Int32.ofNat k)), (6, .inl (Int32.ofNat x)), (5, .inl (f2)), (4, .inl (Int32.ofNat n2)), (3, .inl (Int32.ofNat a2)), (0, .inr (.inr (.inl (some 0)))), (1, .inl (Int32.ofNat m)), (2, .inl (Int32.ofNat b))]) (S' := [.inl (Int32.ofNat x), .inl (Int32.ofNat m)]) (h' := h) (by with_unfolding_all rfl) ?_
        refine kc_call_rule (M2 := wk_m199) (av := [.inl (Int32.ofNat m), .inl (Int32.ofNat x)]) (r := []) rfl rfl (kc_Con_le (fh_c199 (d := 0) hg hm (show x < 1024 by omega)) (by omega)) (fun rv h2 hq => ?_)
        obtain ⟨rfl, e9⟩ := hq
        rw [e9]
        clear e9
        show kc_Ev g (d + 3) wk_m85 _ 98 [(7, .inl (Int32.ofNat k)), (6, .inl (Int32.ofNat x)), (5, .inl (f2)), (4, .inl (Int32.ofNat n2)), (3, .inl (Int32.ofNat a2)), (0, .inr (.inr (.inl (some 0)))), (1, .inl (Int32.ofNat m)), (2, .inl (Int32.ofNat b))] [.inl (Int32.ofNat ((x + 1024 - m) &&& m))] h
        obtain ⟨y1, y2, y3, -⟩ := fh_nx hm (show x < m by omega) hs
        refine kx_go 3 (pc' := 38) (L' := [(7, .inl ((Int32.ofNat k) + Int32.ofInt 1)), (6, .inl (Int32.ofNat ((x + 1024 - m) &&& m))), (5, .inl (f2)), (4, .inl (Int32.ofNat n2)), (3, .inl (Int32.ofNat a2)), (0, .inr (.inr (.inl (some 0)))), (1, .inl (Int32.ofNat m)), (2, .inl (Int32.ofNat b))]) (S' := []) (h' := h) (by with_unfolding_all rfl) ?_
        rw [kx_inc]
        refine kf_lo (L := [(7, .inl (Int32.ofNat (k + 1))), (6, .inl (Int32.ofNat ((x + 1024 - m) &&& m))), (5, .inl (f2)), (4, .inl (Int32.ofNat n2)), (3, .inl (Int32.ofNat a2)), (0, .inr (.inr (.inl (some 0)))), (1, .inl (Int32.ofNat m)), (2, .inl (Int32.ofNat b))]) (by intro q hq; simp only [List.mem_cons, List.not_mem_nil, or_false] at hq; rcases hq with rfl | rfl | rfl | rfl | rfl | rfl | rfl | rfl <;> rfl) ?_
        exact ih (k + 1) _ a2 n2 f2 (by omega) y2 y3 (by omega) ha2 (by rw [← hF, fh_stp hm (show x < m by omega) hs]; show _ = fh_f _ m _ _ (fh_u (fh_D B L m x) x (a, n, f)); rw [hf2])
    refine kx_go 4 (pc' := (if kc_cnd .ge (Int32.ofNat (fh_D B L m x)).toInt (Int32.ofNat a).toInt then 74 else 64)) (L' := [(8, .inl (Int32.ofNat (fh_D B L m x))), (7, .inl (Int32.ofNat k)), (6, .inl (Int32.ofNat x)), (5, .inl (f)), (4, .inl (Int32.ofNat n)), (3, .inl (Int32.ofNat a)), (0, .inr (.inr (.inl (some 0)))), (1, .inl (Int32.ofNat m)), (2, .inl (Int32.ofNat b))]) (S' := []) (h' := h) (by with_unfolding_all rfl) ?_
    by_cases c1 : fh_D B L m x < a
    · rw [if_neg (fun q => by have := (kx_ge (by omega) (by omega)).mp q; omega)]
      refine kx_go 6 (pc' := 74) (L' := [(5, .inl (Int32.ofNat x)), (4, .inl (Int32.ofNat 0)), (3, .inl (Int32.ofNat (fh_D B L m x))), (8, .inl (Int32.ofNat (fh_D B L m x))), (7, .inl (Int32.ofNat k)), (6, .inl (Int32.ofNat x)), (0, .inr (.inr (.inl (some 0)))), (1, .inl (Int32.ofNat m)), (2, .inl (Int32.ofNat b))]) (S' := []) (h' := h) (by with_unfolding_all rfl) ?_
      refine kx_go 3 (pc' := (if kc_cnd .ne (Int32.ofNat (fh_D B L m x)).toInt (Int32.ofNat (fh_D B L m x)).toInt then 83 else 80)) (L' := [(5, .inl (Int32.ofNat x)), (4, .inl (Int32.ofNat 0)), (3, .inl (Int32.ofNat (fh_D B L m x))), (8, .inl (Int32.ofNat (fh_D B L m x))), (7, .inl (Int32.ofNat k)), (6, .inl (Int32.ofNat x)), (0, .inr (.inr (.inl (some 0)))), (1, .inl (Int32.ofNat m)), (2, .inl (Int32.ofNat b))]) (S' := []) (h' := h) (by with_unfolding_all rfl) ?_
      rw [if_neg (fun q => (kx_ne (by omega) (by omega)).mp q rfl)]
      refine kx_go 1 (pc' := 83) (L' := [(4, .inl ((Int32.ofNat 0) + Int32.ofInt 1)), (5, .inl (Int32.ofNat x)), (3, .inl (Int32.ofNat (fh_D B L m x))), (8, .inl (Int32.ofNat (fh_D B L m x))), (7, .inl (Int32.ofNat k)), (6, .inl (Int32.ofNat x)), (0, .inr (.inr (.inl (some 0)))), (1, .inl (Int32.ofNat m)), (2, .inl (Int32.ofNat b))]) (S' := []) (h' := h) (by with_unfolding_all rfl) ?_
      rw [kx_inc]
      refine kf_lo (L := [(7, .inl (Int32.ofNat k)), (6, .inl (Int32.ofNat x)), (5, .inl (Int32.ofNat x)), (4, .inl (Int32.ofNat (0 + 1))), (3, .inl (Int32.ofNat (fh_D B L m x))), (0, .inr (.inr (.inl (some 0)))), (1, .inl (Int32.ofNat m)), (2, .inl (Int32.ofNat b))]) (by intro q hq; simp only [List.mem_cons, List.not_mem_nil, or_false] at hq; rcases hq with rfl | rfl | rfl | rfl | rfl | rfl | rfl | rfl <;> rfl) ?_
      exact tail _ _ _ (by omega) (by unfold fh_u; rw [if_pos c1])
    · rw [if_pos ((kx_ge (by omega) (by omega)).mpr (by omega))]
      refine kx_go 3 (pc' := (if kc_cnd .ne (Int32.ofNat (fh_D B L m x)).toInt (Int32.ofNat a).toInt then 83 else 80)) (L' := [(8, .inl (Int32.ofNat (fh_D B L m x))), (7, .inl (Int32.ofNat k)), (6, .inl (Int32.ofNat x)), (5, .inl (f)), (4, .inl (Int32.ofNat n)), (3, .inl (Int32.ofNat a)), (0, .inr (.inr (.inl (some 0)))), (1, .inl (Int32.ofNat m)), (2, .inl (Int32.ofNat b))]) (S' := []) (h' := h) (by with_unfolding_all rfl) ?_
      by_cases c2 : fh_D B L m x = a
      · rw [if_neg (fun q => (kx_ne (by omega) (by omega)).mp q c2)]
        refine kx_go 1 (pc' := 83) (L' := [(4, .inl ((Int32.ofNat n) + Int32.ofInt 1)), (8, .inl (Int32.ofNat (fh_D B L m x))), (7, .inl (Int32.ofNat k)), (6, .inl (Int32.ofNat x)), (5, .inl (f)), (3, .inl (Int32.ofNat a)), (0, .inr (.inr (.inl (some 0)))), (1, .inl (Int32.ofNat m)), (2, .inl (Int32.ofNat b))]) (S' := []) (h' := h) (by with_unfolding_all rfl) ?_
        rw [kx_inc]
        refine kf_lo (L := [(7, .inl (Int32.ofNat k)), (6, .inl (Int32.ofNat x)), (5, .inl (f)), (4, .inl (Int32.ofNat (n + 1))), (3, .inl (Int32.ofNat a)), (0, .inr (.inr (.inl (some 0)))), (1, .inl (Int32.ofNat m)), (2, .inl (Int32.ofNat b))]) (by intro q hq; simp only [List.mem_cons, List.not_mem_nil, or_false] at hq; rcases hq with rfl | rfl | rfl | rfl | rfl | rfl | rfl | rfl <;> rfl) ?_
        exact tail _ _ _ ha (by unfold fh_u; rw [if_neg c1, if_pos c2])
      · rw [if_pos ((kx_ne (by omega) (by omega)).mpr c2)]
        refine kf_lo (L := [(7, .inl (Int32.ofNat k)), (6, .inl (Int32.ofNat x)), (5, .inl (f)), (4, .inl (Int32.ofNat n)), (3, .inl (Int32.ofNat a)), (0, .inr (.inr (.inl (some 0)))), (1, .inl (Int32.ofNat m)), (2, .inl (Int32.ofNat b))]) (by intro q hq; simp only [List.mem_cons, List.not_mem_nil, or_false] at hq; rcases hq with rfl | rfl | rfl | rfl | rfl | rfl | rfl | rfl <;> rfl) ?_
        exact tail _ _ _ ha (by unfold fh_u; rw [if_neg c1, if_neg c2])
set_option maxRecDepth 20000 in
theorem fh_r87l {g : kc_G} {d : Nat} {h : kc_H} {B : Nat → Int32} {L : Nat} {m b : Nat} {F : fh_S} (hg : kc_ok g) (hw : kd_wt kd_ty h) (hC : fu_B B h) (hB : fu_BT B) (hL : L ≤ 10) (eL : B 2 = Int32.ofNat L) (hm : m < 1024) (hb : b ≤ 2) : ∀ (u x a n : Nat) (f : Int32), m + 1 - x = u → x ≤ m + 1 → a ≤ 1000000 → fh_f (fun x s => fh_u (fh_D B L m x) x s) m u x (a, n, f) = F → kc_Ev g (d + 3) wk_m87 (fun rv h' => rv = some (.inl (fh_r b F)) ∧ h' = h) 36 [(6, .inl (Int32.ofNat x)), (5, .inl (f)), (4, .inl (Int32.ofNat n)), (3, .inl (Int32.ofNat a)), (0, .inr (.inr (.inl (some 259)))), (1, .inl (Int32.ofNat m)), (2, .inl (Int32.ofNat b))] [] h := by
  intro u
  induction u with
  | zero =>
    intro x a n f hu hx ha hF
    refine kx_go 3 (pc' := (if kc_cnd .gt (Int32.ofNat x).toInt (Int32.ofNat m).toInt then 98 else 42)) (L' := [(6, .inl (Int32.ofNat x)), (5, .inl (f)), (4, .inl (Int32.ofNat n)), (3, .inl (Int32.ofNat a)), (0, .inr (.inr (.inl (some 259)))), (1, .inl (Int32.ofNat m)), (2, .inl (Int32.ofNat b))]) (S' := []) (h' := h) (by with_unfolding_all rfl) ?_
    rw [if_pos ((kx_gt (by omega) (by omega)).mpr (by omega))]
    refine kf_lo (L := [(5, .inl (f)), (4, .inl (Int32.ofNat n)), (3, .inl (Int32.ofNat a)), (0, .inr (.inr (.inl (some 259)))), (1, .inl (Int32.ofNat m)), (2, .inl (Int32.ofNat b))]) (by intro q hq; simp only [List.mem_cons, List.not_mem_nil, or_false] at hq; rcases hq with rfl | rfl | rfl | rfl | rfl | rfl <;> rfl) ?_
    exact fh_r87e hb hF
  | succ u ih =>
    intro x a n f hu hx ha hF
    have hD := fh_Db (m := m) (x := x) hB hL
    have hF : fh_f (fun x s => fh_u (fh_D B L m x) x s) m u (x + 1) (if x &&& m = x then fh_u (fh_D B L m x) x (a, n, f) else (a, n, f)) = F := hF
    refine kx_go 3 (pc' := (if kc_cnd .gt (Int32.ofNat x).toInt (Int32.ofNat m).toInt then 98 else 42)) (L' := [(6, .inl (Int32.ofNat x)), (5, .inl (f)), (4, .inl (Int32.ofNat n)), (3, .inl (Int32.ofNat a)), (0, .inr (.inr (.inl (some 259)))), (1, .inl (Int32.ofNat m)), (2, .inl (Int32.ofNat b))]) (S' := []) (h' := h) (by with_unfolding_all rfl) ?_
    rw [if_neg (fun q => by have := (kx_gt (by omega) (by omega)).mp q; omega)]
    refine kx_go 6 (pc' := (if kc_cnd .ne ((Int32.ofNat x) &&& ((Int32.ofNat m) ^^^ (Int32.ofInt (-1)))).toInt 0 then 92 else 51)) (L' := [(6, .inl (Int32.ofNat x)), (5, .inl (f)), (4, .inl (Int32.ofNat n)), (3, .inl (Int32.ofNat a)), (0, .inr (.inr (.inl (some 259)))), (1, .inl (Int32.ofNat m)), (2, .inl (Int32.ofNat b))]) (S' := []) (h' := h) (by with_unfolding_all rfl) ?_
    by_cases c : x &&& m = x
    · rw [if_neg (fun q => (fh_sub (by omega) hm).mp q c)]
      rw [if_pos c] at hF
      refine kx_go 3 (pc' := 55) (L' := [(6, .inl (Int32.ofNat x)), (5, .inl (f)), (4, .inl (Int32.ofNat n)), (3, .inl (Int32.ofNat a)), (0, .inr (.inr (.inl (some 259)))), (1, .inl (Int32.ofNat m)), (2, .inl (Int32.ofNat b))]) (S' := [.inl (Int32.ofNat x), .inl (Int32.ofNat m), .inr (.inr (.inl (some 259)))]) (h' := h) (by with_unfolding_all rfl) ?_
      refine kc_call_rule (M2 := wk_m257) (av := [.inr (.inr (.inl (some 259))), .inl (Int32.ofNat m), .inl (Int32.ofNat x)]) (r := []) rfl rfl (kc_Con_le (fh_r257 (d := 0) hg hw hC hB hL eL hm (show x < 1024 by omega)) (by omega)) (fun rv h2 hq => ?_)
      obtain ⟨rfl, e9⟩ := hq
      rw [e9]
      clear e9
      show kc_Ev g (d + 3) wk_m87 _ 58 [(6, .inl (Int32.ofNat x)), (5, .inl (f)), (4, .inl (Int32.ofNat n)), (3, .inl (Int32.ofNat a)), (0, .inr (.inr (.inl (some 259)))), (1, .inl (Int32.ofNat m)), (2, .inl (Int32.ofNat b))] [.inl (Int32.ofNat (fh_D B L m x))] h
      have tail : ∀ (a2 n2 : Nat) (f2 : Int32), a2 ≤ 1000000 → fh_u (fh_D B L m x) x (a, n, f) = (a2, n2, f2) → kc_Ev g (d + 3) wk_m87 (fun rv h' => rv = some (.inl (fh_r b F)) ∧ h' = h) 92 [(6, .inl (Int32.ofNat x)), (5, .inl (f2)), (4, .inl (Int32.ofNat n2)), (3, .inl (Int32.ofNat a2)), (0, .inr (.inr (.inl (some 259)))), (1, .inl (Int32.ofNat m)), (2, .inl (Int32.ofNat b))] [] h := by
        intro a2 n2 f2 ha2 hf2
        refine kx_go 2 (pc' := 36) (L' := [(6, .inl ((Int32.ofNat x) + Int32.ofInt 1)), (5, .inl (f2)), (4, .inl (Int32.ofNat n2)), (3, .inl (Int32.ofNat a2)), (0, .inr (.inr (.inl (some 259)))), (1, .inl (Int32.ofNat m)), (2, .inl (Int32.ofNat b))]) (S' := []) (h' := h) (by with_unfolding_all rfl) ?_
        rw [kx_inc]
        exact ih (x + 1) a2 n2 f2 (by omega) (by omega) ha2 (by rw [← hF, hf2])
      refine kx_go 4 (pc' := (if kc_cnd .ge (Int32.ofNat (fh_D B L m x)).toInt (Int32.ofNat a).toInt then 76 else 66)) (L' := [(7, .inl (Int32.ofNat (fh_D B L m x))), (6, .inl (Int32.ofNat x)), (5, .inl (f)), (4, .inl (Int32.ofNat n)), (3, .inl (Int32.ofNat a)), (0, .inr (.inr (.inl (some 259)))), (1, .inl (Int32.ofNat m)), (2, .inl (Int32.ofNat b))]) (S' := []) (h' := h) (by with_unfolding_all rfl) ?_
      by_cases c1 : fh_D B L m x < a
      · rw [if_neg (fun q => by have := (kx_ge (by omega) (by omega)).mp q; omega)]
        refine kx_go 6 (pc' := 76) (L' := [(5, .inl (Int32.ofNat x)), (4, .inl (Int32.ofNat 0)), (3, .inl (Int32.ofNat (fh_D B L m x))), (7, .inl (Int32.ofNat (fh_D B L m x))), (6, .inl (Int32.ofNat x)), (0, .inr (.inr (.inl (some 259)))), (1, .inl (Int32.ofNat m)), (2, .inl (Int32.ofNat b))]) (S' := []) (h' := h) (by with_unfolding_all rfl) ?_
        refine kx_go 4 (pc' := (if kc_cnd .ne (Int32.ofNat (fh_D B L m x)).toInt (Int32.ofNat (fh_D B L m x)).toInt then 88 else 84)) (L' := [(5, .inl (Int32.ofNat x)), (4, .inl (Int32.ofNat 0)), (3, .inl (Int32.ofNat (fh_D B L m x))), (7, .inl (Int32.ofNat (fh_D B L m x))), (6, .inl (Int32.ofNat x)), (0, .inr (.inr (.inl (some 259)))), (1, .inl (Int32.ofNat m)), (2, .inl (Int32.ofNat b))]) (S' := [.inl (Int32.ofNat 0)]) (h' := h) (by with_unfolding_all rfl) ?_
        rw [if_neg (fun q => (kx_ne (by omega) (by omega)).mp q rfl)]
        refine kx_go 4 (pc' := 92) (L' := [(4, .inl ((Int32.ofNat 0) + (Int32.ofNat 1))), (5, .inl (Int32.ofNat x)), (3, .inl (Int32.ofNat (fh_D B L m x))), (7, .inl (Int32.ofNat (fh_D B L m x))), (6, .inl (Int32.ofNat x)), (0, .inr (.inr (.inl (some 259)))), (1, .inl (Int32.ofNat m)), (2, .inl (Int32.ofNat b))]) (S' := []) (h' := h) (by with_unfolding_all rfl) ?_
        rw [kx_add]
        refine kf_lo (L := [(6, .inl (Int32.ofNat x)), (5, .inl (Int32.ofNat x)), (4, .inl (Int32.ofNat (0 + 1))), (3, .inl (Int32.ofNat (fh_D B L m x))), (0, .inr (.inr (.inl (some 259)))), (1, .inl (Int32.ofNat m)), (2, .inl (Int32.ofNat b))]) (by intro q hq; simp only [List.mem_cons, List.not_mem_nil, or_false] at hq; rcases hq with rfl | rfl | rfl | rfl | rfl | rfl | rfl <;> rfl) ?_
        exact tail _ _ _ (by omega) (by unfold fh_u; rw [if_pos c1])
      · rw [if_pos ((kx_ge (by omega) (by omega)).mpr (by omega))]
        refine kx_go 4 (pc' := (if kc_cnd .ne (Int32.ofNat (fh_D B L m x)).toInt (Int32.ofNat a).toInt then 88 else 84)) (L' := [(7, .inl (Int32.ofNat (fh_D B L m x))), (6, .inl (Int32.ofNat x)), (5, .inl (f)), (4, .inl (Int32.ofNat n)), (3, .inl (Int32.ofNat a)), (0, .inr (.inr (.inl (some 259)))), (1, .inl (Int32.ofNat m)), (2, .inl (Int32.ofNat b))]) (S' := [.inl (Int32.ofNat n)]) (h' := h) (by with_unfolding_all rfl) ?_
        by_cases c2 : fh_D B L m x = a
        · rw [if_neg (fun q => (kx_ne (by omega) (by omega)).mp q c2)]
          refine kx_go 4 (pc' := 92) (L' := [(4, .inl ((Int32.ofNat n) + (Int32.ofNat 1))), (7, .inl (Int32.ofNat (fh_D B L m x))), (6, .inl (Int32.ofNat x)), (5, .inl (f)), (3, .inl (Int32.ofNat a)), (0, .inr (.inr (.inl (some 259)))), (1, .inl (Int32.ofNat m)), (2, .inl (Int32.ofNat b))]) (S' := []) (h' := h) (by with_unfolding_all rfl) ?_
          rw [kx_add]
          refine kf_lo (L := [(6, .inl (Int32.ofNat x)), (5, .inl (f)), (4, .inl (Int32.ofNat (n + 1))), (3, .inl (Int32.ofNat a)), (0, .inr (.inr (.inl (some 259)))), (1, .inl (Int32.ofNat m)), (2, .inl (Int32.ofNat b))]) (by intro q hq; simp only [List.mem_cons, List.not_mem_nil, or_false] at hq; rcases hq with rfl | rfl | rfl | rfl | rfl | rfl | rfl <;> rfl) ?_
          exact tail _ _ _ ha (by unfold fh_u; rw [if_neg c1, if_pos c2])
        · rw [if_pos ((kx_ne (by omega) (by omega)).mpr c2)]
          refine kx_go 3 (pc' := 92) (L' := [(4, .inl ((Int32.ofNat n) + (Int32.ofNat 0))), (7, .inl (Int32.ofNat (fh_D B L m x))), (6, .inl (Int32.ofNat x)), (5, .inl (f)), (3, .inl (Int32.ofNat a)), (0, .inr (.inr (.inl (some 259)))), (1, .inl (Int32.ofNat m)), (2, .inl (Int32.ofNat b))]) (S' := []) (h' := h) (by with_unfolding_all rfl) ?_
          rw [kx_add]
          refine kf_lo (L := [(6, .inl (Int32.ofNat x)), (5, .inl (f)), (4, .inl (Int32.ofNat n)), (3, .inl (Int32.ofNat a)), (0, .inr (.inr (.inl (some 259)))), (1, .inl (Int32.ofNat m)), (2, .inl (Int32.ofNat b))]) (by intro q hq; simp only [List.mem_cons, List.not_mem_nil, or_false] at hq; rcases hq with rfl | rfl | rfl | rfl | rfl | rfl | rfl <;> rfl) ?_
          exact tail _ _ _ ha (by unfold fh_u; rw [if_neg c1, if_neg c2])
    · rw [if_pos ((fh_sub (by omega) hm).mpr c)]
      rw [if_neg c] at hF
      refine kx_go 2 (pc' := 36) (L' := [(6, .inl ((Int32.ofNat x) + Int32.ofInt 1)), (5, .inl (f)), (4, .inl (Int32.ofNat n)), (3, .inl (Int32.ofNat a)), (0, .inr (.inr (.inl (some 259)))), (1, .inl (Int32.ofNat m)), (2, .inl (Int32.ofNat b))]) (S' := []) (h' := h) (by with_unfolding_all rfl) ?_
      rw [kx_inc]
      exact ih (x + 1) a n f (by omega) (by omega) ha hF
set_option maxRecDepth 20000 in
theorem fu_chal {g : kc_G} {d : Nat} {h : kc_H} {B : Nat → Int32} {a b : Int32} (hg : kc_ok g) (hw : kd_wt kd_ty h) (hC : fu_C B 1 h) (hB : fu_BT B) : kc_Con g (d + 4) 85 [.inr (.inr (.inl (some 0))), .inl a, .inl b] h (fun rv h' => rv = some (.inl (fh_ans B a b)) ∧ h' = h) := by
  obtain ⟨L, hL, eL⟩ := fu_n2 hB
  have eL2 : (B 2).toInt.toNat = L := by rw [eL, kx_ti (by omega), Int.toNat_natCast]
  refine kc_Con_new hg (M := wk_m85) rfl rfl rfl (show 3 ≤ 9 by decide) ?_
  refine kx_go 1 (pc' := 1) (L' := [(0, .inr (.inr (.inl (some 0)))), (1, .inl (a)), (2, .inl (b))]) (S' := [.inr (.inr (.inl (some 0)))]) (h' := h) (by with_unfolding_all rfl) ?_
  refine kx_getf (c := 0) (v := .inr (.inr (.inl (some 1)))) rfl (by decide) (kx_ofr (hw _ _ _ kv_k0.1)) ?_
  refine kx_go 1 (pc' := 5) (L' := [(0, .inr (.inr (.inl (some 0)))), (1, .inl (a)), (2, .inl (b))]) (S' := [.inl (a), .inr (.inr (.inl (some 1)))]) (h' := h) (by with_unfolding_all rfl) ?_
  refine kc_call_rule (M2 := wk_m86) (av := [.inr (.inr (.inl (some 1))), .inl (a)]) (r := []) rfl rfl (kc_Con_le (fh_c86 (d := 0) hg hw hC hB hL eL) (by omega)) (fun rv h2 hq => ?_)
  obtain ⟨rfl, e9⟩ := hq
  rw [e9]
  clear e9
  show kc_Ev g (d + 3) wk_m85 _ 8 [(0, .inr (.inr (.inl (some 0)))), (1, .inl (a)), (2, .inl (b))] [.inl (kp_b (fu_in a 1 (((2 ^ L : Nat) : Int) - 1)))] h
  refine kx_go 1 (pc' := (if kc_cnd .eq (kp_b (fu_in a 1 (((2 ^ L : Nat) : Int) - 1))).toInt 0 then 20 else 11)) (L' := [(0, .inr (.inr (.inl (some 0)))), (1, .inl (a)), (2, .inl (b))]) (S' := []) (h' := h) (by with_unfolding_all rfl) ?_
  cases e1 : fu_in a 1 (((2 ^ L : Nat) : Int) - 1) with
  | false =>
    rw [if_pos (kx_b0.mpr rfl)]
    refine kx_go 1 (pc' := 22) (L' := [(0, .inr (.inr (.inl (some 0)))), (1, .inl (a)), (2, .inl (b))]) (S' := [.inl (Int32.ofInt (-2))]) (h' := h) (by with_unfolding_all rfl) ?_
    exact kc_ret_ok rfl (rv := some (.inl (Int32.ofInt (-2)))) rfl ⟨by unfold fh_ans; rw [eL2, e1, Bool.false_and]; rfl, rfl⟩
  | true =>
    rw [if_neg (fun q => by have := kx_b0.mp q; cases this)]
    refine kx_go 3 (pc' := 14) (L' := [(0, .inr (.inr (.inl (some 0)))), (1, .inl (a)), (2, .inl (b))]) (S' := [.inl (Int32.ofNat 2), .inl (Int32.ofNat 0), .inl (b)]) (h' := h) (by with_unfolding_all rfl) ?_
    refine kc_call_rule (M2 := wk_m19) (av := [.inl (b), .inl (Int32.ofNat 0), .inl (Int32.ofNat 2)]) (r := []) rfl rfl (kc_Con_le (fu_bt (d := 0) (lo := 0) (hi := 2) hg rfl rfl) (by omega)) (fun rv h2 hq => ?_)
    obtain ⟨rfl, e9⟩ := hq
    rw [e9]
    clear e9
    show kc_Ev g (d + 3) wk_m85 _ 17 [(0, .inr (.inr (.inl (some 0)))), (1, .inl (a)), (2, .inl (b))] [.inl (kp_b (fu_in b 0 2))] h
    refine kx_go 1 (pc' := (if kc_cnd .ne (kp_b (fu_in b 0 2)).toInt 0 then 23 else 20)) (L' := [(0, .inr (.inr (.inl (some 0)))), (1, .inl (a)), (2, .inl (b))]) (S' := []) (h' := h) (by with_unfolding_all rfl) ?_
    cases e2 : fu_in b 0 2 with
    | false =>
      rw [if_neg (fun q => by have := kx_b1.mp q; cases this)]
      refine kx_go 1 (pc' := 22) (L' := [(0, .inr (.inr (.inl (some 0)))), (1, .inl (a)), (2, .inl (b))]) (S' := [.inl (Int32.ofInt (-2))]) (h' := h) (by with_unfolding_all rfl) ?_
      exact kc_ret_ok rfl (rv := some (.inl (Int32.ofInt (-2)))) rfl ⟨by unfold fh_ans; rw [eL2, e1, e2]; rfl, rfl⟩
    | true =>
      rw [if_pos (kx_b1.mpr rfl)]
      have h2p := fh_2p L (by omega)
      obtain ⟨m, m1, rfl, m2, m3⟩ := fu_in_n (u := 1023) e1 (by omega) (by omega)
      obtain ⟨c, c1, rfl, -, -⟩ := fu_in_n (u := 2) e2 (by omega) (by omega)
      refine kx_go 10 (pc' := 38) (L' := [(7, .inl (Int32.ofNat 0)), (6, .inl (Int32.ofNat 0)), (5, .inl (Int32.ofNat 0)), (4, .inl (Int32.ofNat 0)), (3, .inl (Int32.ofNat 1000000)), (0, .inr (.inr (.inl (some 0)))), (1, .inl (Int32.ofNat m)), (2, .inl (Int32.ofNat c))]) (S' := []) (h' := h) (by with_unfolding_all rfl) ?_
      have eA : fh_ans B (Int32.ofNat m) (Int32.ofNat c) = fh_r c (fh_F B L m) := by
        unfold fh_ans
        rw [eL2, e1, e2, kx_ti (show m < 2147483648 by omega), kx_ti (show c < 2147483648 by omega), Int.toNat_natCast, Int.toNat_natCast]
        rfl
      rw [eA]
      show kc_Ev g (d + 3) wk_m85 (fun rv h' => rv = some (.inl (fh_r c (fh_F B L m))) ∧ h' = h) 38 [(7, .inl (Int32.ofNat 0)), (6, .inl (Int32.ofNat 0)), (5, .inl (Int32.ofNat 0)), (4, .inl (Int32.ofNat 0)), (3, .inl (Int32.ofNat 1000000)), (0, .inr (.inr (.inl (some 0)))), (1, .inl (Int32.ofNat m)), (2, .inl (Int32.ofNat c))] [] h
      refine kf_lo (L := [(7, .inl (Int32.ofNat 0)), (6, .inl (Int32.ofNat 0)), (5, .inl (Int32.ofNat 0)), (4, .inl (Int32.ofNat 0)), (3, .inl (Int32.ofNat 1000000)), (0, .inr (.inr (.inl (some 0)))), (1, .inl (Int32.ofNat m)), (2, .inl (Int32.ofNat c))]) (by intro q hq; simp only [List.mem_cons, List.not_mem_nil, or_false] at hq; rcases hq with rfl | rfl | rfl | rfl | rfl | rfl | rfl | rfl <;> rfl) ?_
      exact fh_c85l (F := fh_F B L m) hg hw hC hB hL eL (by omega) c1 (m + 1) 0 0 1000000 0 (Int32.ofNat 0) (by omega) (by omega) (Nat.zero_and m) (by omega) (by omega) rfl
set_option maxRecDepth 20000 in
theorem fu_rhal {g : kc_G} {d : Nat} {h : kc_H} {B : Nat → Int32} {a b : Int32} (hg : kc_ok g) (hw : kd_wt kd_ty h) (hC : fu_B B h) (hB : fu_BT B) : kc_Con g (d + 4) 87 [.inr (.inr (.inl (some 259))), .inl a, .inl b] h (fun rv h' => rv = some (.inl (fh_ans B a b)) ∧ h' = h) := by
  obtain ⟨L, hL, eL⟩ := fu_n2 hB
  have eL2 : (B 2).toInt.toNat = L := by rw [eL, kx_ti (by omega), Int.toNat_natCast]
  refine kc_Con_new hg (M := wk_m87) rfl rfl rfl (show 3 ≤ 8 by decide) ?_
  refine kx_go 2 (pc' := 2) (L' := [(0, .inr (.inr (.inl (some 259)))), (1, .inl (a)), (2, .inl (b))]) (S' := [.inl (a), .inr (.inr (.inl (some 259)))]) (h' := h) (by with_unfolding_all rfl) ?_
  refine kc_call_rule (M2 := wk_m88) (av := [.inr (.inr (.inl (some 259))), .inl (a)]) (r := []) rfl rfl (kc_Con_le (fh_r88 (d := 0) hg hw hC hB hL eL) (by omega)) (fun rv h2 hq => ?_)
  obtain ⟨rfl, e9⟩ := hq
  rw [e9]
  clear e9
  show kc_Ev g (d + 3) wk_m87 _ 5 [(0, .inr (.inr (.inl (some 259)))), (1, .inl (a)), (2, .inl (b))] [.inl (kp_b (fu_in a 1 (((2 ^ L : Nat) : Int) - 1)))] h
  refine kx_go 1 (pc' := (if kc_cnd .eq (kp_b (fu_in a 1 (((2 ^ L : Nat) : Int) - 1))).toInt 0 then 20 else 8)) (L' := [(0, .inr (.inr (.inl (some 259)))), (1, .inl (a)), (2, .inl (b))]) (S' := []) (h' := h) (by with_unfolding_all rfl) ?_
  cases e1 : fu_in a 1 (((2 ^ L : Nat) : Int) - 1) with
  | false =>
    rw [if_pos (kx_b0.mpr rfl)]
    refine kx_go 1 (pc' := 22) (L' := [(0, .inr (.inr (.inl (some 259)))), (1, .inl (a)), (2, .inl (b))]) (S' := [.inl (Int32.ofInt (-2))]) (h' := h) (by with_unfolding_all rfl) ?_
    exact kc_ret_ok rfl (rv := some (.inl (Int32.ofInt (-2)))) rfl ⟨by unfold fh_ans; rw [eL2, e1, Bool.false_and]; rfl, rfl⟩
  | true =>
    rw [if_neg (fun q => by have := kx_b0.mp q; cases this)]
    refine kx_go 4 (pc' := 14) (L' := [(0, .inr (.inr (.inl (some 259)))), (1, .inl (a)), (2, .inl (b))]) (S' := [.inr (.inl (Int64.ofNat 2)), .inr (.inl (Int64.ofNat 0)), .inr (.inl (b.toInt64))]) (h' := h) (by with_unfolding_all rfl) ?_
    refine kc_call_rule (M2 := wk_m22) (av := [.inr (.inl (b.toInt64)), .inr (.inl (Int64.ofNat 0)), .inr (.inl (Int64.ofNat 2))]) (r := []) rfl rfl (kc_Con_le (fu_li (d := 0) (lo := 0) (hi := 2) hg rfl rfl) (by omega)) (fun rv h2 hq => ?_)
    obtain ⟨rfl, e9⟩ := hq
    rw [e9]
    clear e9
    show kc_Ev g (d + 3) wk_m87 _ 17 [(0, .inr (.inr (.inl (some 259)))), (1, .inl (a)), (2, .inl (b))] [.inl (kp_b (fu_in b 0 2))] h
    refine kx_go 1 (pc' := (if kc_cnd .ne (kp_b (fu_in b 0 2)).toInt 0 then 23 else 20)) (L' := [(0, .inr (.inr (.inl (some 259)))), (1, .inl (a)), (2, .inl (b))]) (S' := []) (h' := h) (by with_unfolding_all rfl) ?_
    cases e2 : fu_in b 0 2 with
    | false =>
      rw [if_neg (fun q => by have := kx_b1.mp q; cases this)]
      refine kx_go 1 (pc' := 22) (L' := [(0, .inr (.inr (.inl (some 259)))), (1, .inl (a)), (2, .inl (b))]) (S' := [.inl (Int32.ofInt (-2))]) (h' := h) (by with_unfolding_all rfl) ?_
      exact kc_ret_ok rfl (rv := some (.inl (Int32.ofInt (-2)))) rfl ⟨by unfold fh_ans; rw [eL2, e1, e2]; rfl, rfl⟩
    | true =>
      rw [if_pos (kx_b1.mpr rfl)]
      have h2p := fh_2p L (by omega)
      obtain ⟨m, m1, rfl, m2, m3⟩ := fu_in_n (u := 1023) e1 (by omega) (by omega)
      obtain ⟨c, c1, rfl, -, -⟩ := fu_in_n (u := 2) e2 (by omega) (by omega)
      refine kx_go 8 (pc' := 36) (L' := [(6, .inl (Int32.ofNat 0)), (5, .inl (Int32.ofInt (-1))), (4, .inl (Int32.ofNat 0)), (3, .inl (Int32.ofNat 1000000)), (0, .inr (.inr (.inl (some 259)))), (1, .inl (Int32.ofNat m)), (2, .inl (Int32.ofNat c))]) (S' := []) (h' := h) (by with_unfolding_all rfl) ?_
      have eA : fh_ans B (Int32.ofNat m) (Int32.ofNat c) = fh_r c (fh_F B L m) := by
        unfold fh_ans
        rw [eL2, e1, e2, kx_ti (show m < 2147483648 by omega), kx_ti (show c < 2147483648 by omega), Int.toNat_natCast, Int.toNat_natCast]
        rfl
      rw [eA]
      show kc_Ev g (d + 3) wk_m87 (fun rv h' => rv = some (.inl (fh_r c (fh_F B L m))) ∧ h' = h) 36 [(6, .inl (Int32.ofNat 0)), (5, .inl (Int32.ofInt (-1))), (4, .inl (Int32.ofNat 0)), (3, .inl (Int32.ofNat 1000000)), (0, .inr (.inr (.inl (some 259)))), (1, .inl (Int32.ofNat m)), (2, .inl (Int32.ofNat c))] [] h
      refine kf_lo (L := [(6, .inl (Int32.ofNat 0)), (5, .inl (Int32.ofInt (-1))), (4, .inl (Int32.ofNat 0)), (3, .inl (Int32.ofNat 1000000)), (0, .inr (.inr (.inl (some 259)))), (1, .inl (Int32.ofNat m)), (2, .inl (Int32.ofNat c))]) (by intro q hq; simp only [List.mem_cons, List.not_mem_nil, or_false] at hq; rcases hq with rfl | rfl | rfl | rfl | rfl | rfl | rfl <;> rfl) ?_
      have h0 : fh_D B L m 0 < 1000000 := by have := fh_Db (m := m) (x := 0) hB hL; omega
      exact fh_r87l (F := fh_F B L m) hg hw hC hB hL eL (by omega) c1 (m + 1) 0 1000000 0 (Int32.ofInt (-1)) (by omega) (by omega) (by omega) (by unfold fh_F; rw [fh_1st h0, fh_1st h0])
theorem fU_Xhalves {g : kc_G} {h : kc_H} {a b : Int32} (hg : kc_ok g) (hI : fu_I h) : kc_Con g 30 85 [.inr (.inr (.inl (some 0))), .inl a, .inl b] h (fun rv h1 => ∃ z : Int32, rv = some (.inl z) ∧ kc_Con g 30 87 [.inr (.inr (.inl (some 259))), .inl a, .inl b] h1 (fun rv2 h2 => rv2 = some (.inl z) ∧ fu_I h2)) := by
  obtain ⟨B, hC, hR⟩ := hI.2.1
  have hB := fu_C_T hI.1 hC
  exact fu_both (S := (fh_ans B a b, [])) hI hC hR fu_gd_nil (kc_Con_le (fu_chal (d := 0) hg hI.1 hC hB) (by decide)) (fun h1 w1 r1 _ => kc_Con_le (fu_rhal (d := 0) hg w1 r1 hB) (by decide)) hI.2.2.2.2.2.1
end
section
-- 99.zpm
/-! ===== WITHIN ===== -/
theorem fh_si {a b : Nat} (ha : a ≤ 100000) (hb : b ≤ 100000) : (Int32.ofNat a - Int32.ofNat b).toInt = (a : Int) - (b : Int) := by
  rw [← Int32.ofInt_eq_ofNat (n := a), ← Int32.ofInt_eq_ofNat (n := b), ← Int32.ofInt_sub]
  exact Int32.toInt_ofInt_of_le (by omega) (by omega)
theorem fh_ni {e : Nat} (he : e ≤ 99) : (-Int32.ofNat e).toInt64.toInt = -(e : Int) := by
  rw [Int32.toInt_toInt64, ← Int32.ofInt_eq_ofNat (n := e), ← Int32.ofInt_neg]
  exact Int32.toInt_ofInt_of_le (by omega) (by omega)
theorem fh_pi {e : Nat} (he : e ≤ 99) : (Int32.ofNat e).toInt64.toInt = (e : Int) := by
  rw [Int32.toInt_toInt64, kx_ti (by omega)]
theorem fh_dv {a b : Nat} (ha : a < 2147483648) (hb : 0 < b) (hb2 : b < 2147483648) : Int32.ofNat a / Int32.ofNat b = Int32.ofNat (a / b) := by
  have hd : a / b ≤ a := Nat.div_le_self a b
  apply Int32.toInt_inj.mp
  rw [kd_div_i (by rw [kx_ti ha]; omega) (by rw [kx_ti hb2]; omega), kx_ti ha, kx_ti hb2, kx_ti (by omega)]
  rfl
theorem fh_mn {c f : Nat} (hc : c < 2147483648) (hf : f < 2147483648) : (if Int32.ofNat c < Int32.ofNat f then Int32.ofNat c else Int32.ofNat f) = Int32.ofNat (if c < f then c else f) := by
  by_cases k : c < f
  · rw [if_pos k, if_pos (Int32.lt_iff_toInt_lt.mpr (by rw [kx_ti hc, kx_ti hf]; omega))]
  · rw [if_neg k, if_neg (fun q => k (by have := Int32.lt_iff_toInt_lt.mp q; rw [kx_ti hc, kx_ti hf] at this; omega))]
def fh_c (u e s : Nat) : Nat := if u ≤ e then 0 else if (u - e + s - 1) / s * s ≤ u + e then (u - e + s - 1) / s else 1000000
theorem fh_cn {u e s : Nat} (hs : 1 ≤ s) (h : ¬ u ≤ e) : (u - e + s - 1) / s * s ≤ u - e + s - 1 ∧ u - e ≤ (u - e + s - 1) / s * s := by
  have h1 := Nat.div_add_mod (u - e + s - 1) s
  have h2 := Nat.mod_lt (u - e + s - 1) (show s > 0 by omega)
  rw [Nat.mul_comm] at h1
  generalize (u - e + s - 1) / s * s = p at h1 ⊢
  omega
theorem fh_cb {u e s : Nat} (hs : 1 ≤ s) (hs2 : s ≤ 20) (hu : u ≤ 990) : fh_c u e s ≤ 1000000 := by
  unfold fh_c
  split
  · omega
  · rename_i h
    split
    · have h1 := Nat.div_le_self (u - e + s - 1) s
      omega
    · omega
theorem fh_c1 {u e s : Nat} (hs : 1 ≤ s) : ∀ k, k < fh_c u e s → ¬ (-(e : Int) ≤ (u : Int) - ((k * s : Nat) : Int) ∧ (u : Int) - ((k * s : Nat) : Int) ≤ (e : Int)) := by
  intro k hk hq
  unfold fh_c at hk
  split at hk
  · omega
  · rename_i h
    obtain ⟨n1, n2⟩ := fh_cn hs h
    by_cases c : k < (u - e + s - 1) / s
    · have m1 := Nat.mul_le_mul_right s (show k + 1 ≤ (u - e + s - 1) / s from c)
      rw [Nat.add_mul, Nat.one_mul] at m1
      generalize (u - e + s - 1) / s * s = p at n1 n2 m1
      generalize k * s = r at m1 hq
      omega
    · have m1 := Nat.mul_le_mul_right s (show (u - e + s - 1) / s ≤ k by omega)
      split at hk
      · omega
      · rename_i h2
        generalize (u - e + s - 1) / s * s = p at n1 n2 m1 h2
        generalize k * s = r at m1 hq
        omega
theorem fh_c2 {u e s : Nat} (hs : 1 ≤ s) (hc : fh_c u e s < 1000000) : -(e : Int) ≤ (u : Int) - ((fh_c u e s * s : Nat) : Int) ∧ (u : Int) - ((fh_c u e s * s : Nat) : Int) ≤ (e : Int) := by
  unfold fh_c at hc ⊢
  by_cases h : u ≤ e
  · rw [if_pos h]
    omega
  · rw [if_neg h] at hc ⊢
    obtain ⟨n1, n2⟩ := fh_cn hs h
    by_cases h2 : (u - e + s - 1) / s * s ≤ u + e
    · rw [if_pos h2]
      generalize (u - e + s - 1) / s * s = p at n1 n2 h2 ⊢
      omega
    · rw [if_neg h2] at hc
      omega
def fh_cap (a : Nat) : Nat := if a ≤ 99 then a else 1000000
theorem fh_capm {a c : Nat} : fh_cap (if c < a then c else a) = if 0 ≤ c ∧ c < 100 ∧ c < fh_cap a then c else fh_cap a := by
  unfold fh_cap
  repeat' split
  all_goals omega
def fh_g (C : Nat → Nat) (x : Nat) (s : fh_S) : fh_S := (if C x < s.1 then C x else s.1, s.2.1, s.2.2)
def fh_G (B : Nat → Int32) (L m e s : Nat) : fh_S := fh_f (fh_g (fun x => fh_c (fh_D B L m x) e s)) m (m + 1) 0 (1000000, 0, 0)
def fh_w (F : fh_S) : Int32 := if F.1 ≤ 99 then Int32.ofNat F.1 else Int32.ofInt (-1)
def fh_win (B : Nat → Int32) (a b : Int32) : Int32 := if (fu_in a 1 (((2 ^ (B 2).toInt.toNat : Nat) : Int) - 1) && fu_in b 0 99) = true then fh_w (fh_G B (B 2).toInt.toNat a.toInt.toNat b.toInt.toNat (B 4).toInt.toNat) else Int32.ofInt (-2)
set_option maxRecDepth 20000 in
theorem fh_c200 {g : kc_G} {d : Nat} {h : kc_H} {u e s : Nat} (hg : kc_ok g) (hs : 1 ≤ s) (hs2 : s ≤ 20) (hs0 : ¬ Int32.ofNat s = 0) (hu : u ≤ 990) (he : e ≤ 99) : kc_Con g (d + 1) 200 [.inl (Int32.ofNat u), .inl (Int32.ofNat e), .inl (Int32.ofNat s)] h (fun rv h' => rv = some (.inl (Int32.ofNat (fh_c u e s))) ∧ h' = h) := by
  refine kc_Con_new hg (M := wk_m200) rfl rfl rfl (show 3 ≤ 4 by decide) ?_
  refine kx_go 3 (pc' := (if kc_cnd .gt (Int32.ofNat u).toInt (Int32.ofNat e).toInt then 7 else 5)) (L' := [(0, .inl (Int32.ofNat u)), (1, .inl (Int32.ofNat e)), (2, .inl (Int32.ofNat s))]) (S' := []) (h' := h) (by with_unfolding_all rfl) ?_
  by_cases c : u ≤ e
  · rw [if_neg (fun q => by have := (kx_gt (by omega) (by omega)).mp q; omega)]
    refine kx_go 1 (pc' := 6) (L' := [(0, .inl (Int32.ofNat u)), (1, .inl (Int32.ofNat e)), (2, .inl (Int32.ofNat s))]) (S' := [.inl (Int32.ofNat 0)]) (h' := h) (by with_unfolding_all rfl) ?_
    exact kc_ret_ok rfl (rv := some (.inl (Int32.ofNat 0))) rfl ⟨by unfold fh_c; rw [if_pos c], rfl⟩
  · rw [if_pos ((kx_gt (by omega) (by omega)).mpr (by omega))]
    refine kx_go 3 (pc' := (if kc_cnd .ge (Int32.ofNat s).toInt (Int32.ofNat 1).toInt then 15 else 12)) (L' := [(0, .inl (Int32.ofNat u)), (1, .inl (Int32.ofNat e)), (2, .inl (Int32.ofNat s))]) (S' := []) (h' := h) (by with_unfolding_all rfl) ?_
    rw [if_pos ((kx_ge (by omega) (by omega)).mpr hs)]
    refine kx_go 8 (pc' := 23) (L' := [(0, .inl (Int32.ofNat u)), (1, .inl (Int32.ofNat e)), (2, .inl (Int32.ofNat s))]) (S' := [.inl (Int32.ofNat s), .inl ((((Int32.ofNat u) - (Int32.ofNat e)) + (Int32.ofNat s)) - (Int32.ofNat 1))]) (h' := h) (by with_unfolding_all rfl) ?_
    rw [kx_sub (show e ≤ u by omega), kx_add, kx_sub (show 1 ≤ u - e + s by omega)]
    obtain ⟨n1, n2⟩ := fh_cn hs c
    have nd := Nat.div_le_self (u - e + s - 1) s
    refine ks_st 24 (L' := [(0, .inl (Int32.ofNat u)), (1, .inl (Int32.ofNat e)), (2, .inl (Int32.ofNat s))]) (S' := [.inl (Int32.ofNat (u - e + s - 1) / Int32.ofNat s)]) rfl (if_neg hs0) ?_
    rw [fh_dv (by omega) (by omega) (by omega)]
    refine kx_go 8 (pc' := (if kc_cnd .gt (((Int32.ofNat ((u - e + s - 1) / s)) * (Int32.ofNat s)) - (Int32.ofNat u)).toInt (Int32.ofNat e).toInt then 38 else 34)) (L' := [(3, .inl (Int32.ofNat ((u - e + s - 1) / s))), (0, .inl (Int32.ofNat u)), (1, .inl (Int32.ofNat e)), (2, .inl (Int32.ofNat s))]) (S' := []) (h' := h) (by with_unfolding_all rfl) ?_
    rw [kx_mul]
    have es := fh_si (a := (u - e + s - 1) / s * s) (b := u) (by omega) (by omega)
    rw [es, kx_ti (show e < 2147483648 by omega)]
    by_cases c2 : (u - e + s - 1) / s * s ≤ u + e
    · rw [if_neg (fun q => by have := fu_igt.mp q; omega)]
      refine kx_go 2 (pc' := 40) (L' := [(3, .inl (Int32.ofNat ((u - e + s - 1) / s))), (0, .inl (Int32.ofNat u)), (1, .inl (Int32.ofNat e)), (2, .inl (Int32.ofNat s))]) (S' := [.inl (Int32.ofNat ((u - e + s - 1) / s))]) (h' := h) (by with_unfolding_all rfl) ?_
      exact kc_ret_ok rfl (rv := some (.inl (Int32.ofNat ((u - e + s - 1) / s)))) rfl ⟨by unfold fh_c; rw [if_neg c, if_pos c2], rfl⟩
    · rw [if_pos (fu_igt.mpr (by omega))]
      refine kx_go 1 (pc' := 40) (L' := [(3, .inl (Int32.ofNat ((u - e + s - 1) / s))), (0, .inl (Int32.ofNat u)), (1, .inl (Int32.ofNat e)), (2, .inl (Int32.ofNat s))]) (S' := [.inl (Int32.ofNat 1000000)]) (h' := h) (by with_unfolding_all rfl) ?_
      exact kc_ret_ok rfl (rv := some (.inl (Int32.ofNat 1000000))) rfl ⟨by unfold fh_c; rw [if_neg c, if_neg c2], rfl⟩
set_option maxRecDepth 20000 in
theorem fh_c89l {g : kc_G} {d : Nat} {h : kc_H} {B : Nat → Int32} {L : Nat} {m e s : Nat} {F : fh_S} (hg : kc_ok g) (hw : kd_wt kd_ty h) (hC : fu_C B 1 h) (hB : fu_BT B) (hL : L ≤ 10) (eL : B 2 = Int32.ofNat L) (hs : 1 ≤ s) (hs2 : s ≤ 20) (hs0 : ¬ Int32.ofNat s = 0) (eS : B 4 = Int32.ofNat s) (he : e ≤ 99) (hm : m < 1024) : ∀ (u k x a : Nat), m + 1 - x ≤ u → x ≤ m → x &&& m = x → k ≤ x → a ≤ 1000000 → fh_f (fh_g (fun x => fh_c (fh_D B L m x) e s)) m (m + 1 - x) x (a, 0, 0) = F → kc_Ev g (d + 3) wk_m89 (fun rv h' => rv = some (.inl (fh_w F)) ∧ h' = h) 33 [(5, .inl (Int32.ofNat k)), (4, .inl (Int32.ofNat x)), (3, .inl (Int32.ofNat a)), (0, .inr (.inr (.inl (some 0)))), (1, .inl (Int32.ofNat m)), (2, .inl (Int32.ofNat e))] [] h := by
  intro u
  induction u with
  | zero =>
    intro k x a hu hx hs1 hk ha hF
    omega
  | succ u ih =>
    intro k x a hu hx hs1 hk ha hF
    have hD := fh_Db (m := m) (x := x) hB hL
    have hcb := fh_cb (e := e) hs hs2 hD
    refine kx_go 3 (pc' := (if kc_cnd .ge (Int32.ofNat k).toInt (Int32.ofNat 1024).toInt then 96 else 41)) (L' := [(5, .inl (Int32.ofNat k)), (4, .inl (Int32.ofNat x)), (3, .inl (Int32.ofNat a)), (0, .inr (.inr (.inl (some 0)))), (1, .inl (Int32.ofNat m)), (2, .inl (Int32.ofNat e))]) (S' := []) (h' := h) (by with_unfolding_all rfl) ?_
    rw [if_neg (fun q => by have := (kx_ge (by omega) (by omega)).mp q; omega)]
    refine kx_go 1 (pc' := 42) (L' := [(5, .inl (Int32.ofNat k)), (4, .inl (Int32.ofNat x)), (3, .inl (Int32.ofNat a)), (0, .inr (.inr (.inl (some 0)))), (1, .inl (Int32.ofNat m)), (2, .inl (Int32.ofNat e))]) (S' := [.inr (.inr (.inl (some 0)))]) (h' := h) (by with_unfolding_all rfl) ?_
    refine kx_getf (c := 0) (v := .inr (.inr (.inl (some 1)))) rfl (by decide) (kx_ofr (hw _ _ _ kv_k0.1)) ?_
    refine kx_go 2 (pc' := 48) (L' := [(5, .inl (Int32.ofNat k)), (4, .inl (Int32.ofNat x)), (3, .inl (Int32.ofNat a)), (0, .inr (.inr (.inl (some 0)))), (1, .inl (Int32.ofNat m)), (2, .inl (Int32.ofNat e))]) (S' := [.inl (Int32.ofNat x), .inl (Int32.ofNat m), .inr (.inr (.inl (some 1)))]) (h' := h) (by with_unfolding_all rfl) ?_
    refine kc_call_rule (M2 := wk_m198) (av := [.inr (.inr (.inl (some 1))), .inl (Int32.ofNat m), .inl (Int32.ofNat x)]) (r := []) rfl rfl (kc_Con_le (fh_c198 (d := 0) hg hw hC hB hL eL hm (show x < 1024 by omega)) (by omega)) (fun rv h2 hq => ?_)
    obtain ⟨rfl, e9⟩ := hq
    rw [e9]
    clear e9
    show kc_Ev g (d + 3) wk_m89 _ 51 [(5, .inl (Int32.ofNat k)), (4, .inl (Int32.ofNat x)), (3, .inl (Int32.ofNat a)), (0, .inr (.inr (.inl (some 0)))), (1, .inl (Int32.ofNat m)), (2, .inl (Int32.ofNat e))] [.inl (Int32.ofNat (fh_D B L m x))] h
    refine kx_go 5 (pc' := 58) (L' := [(6, .inl (Int32.ofNat (fh_D B L m x))), (5, .inl (Int32.ofNat k)), (4, .inl (Int32.ofNat x)), (3, .inl (Int32.ofNat a)), (0, .inr (.inr (.inl (some 0)))), (1, .inl (Int32.ofNat m)), (2, .inl (Int32.ofNat e))]) (S' := [.inr (.inr (.inl (some 0))), .inl (Int32.ofNat e), .inl (Int32.ofNat (fh_D B L m x)), .inl (Int32.ofNat a)]) (h' := h) (by with_unfolding_all rfl) ?_
    refine kx_getf (c := 0) (v := .inr (.inr (.inl (some 1)))) rfl (by decide) (kx_ofr (hw _ _ _ kv_k0.1)) ?_
    refine kx_getf (c := 1) (v := .inr (.inr (.inl (some 26)))) rfl (by decide) (kx_ofr (hw _ _ _ fu_kr.2.2.2.2.2.1)) ?_
    refine kx_go 1 (pc' := 65) (L' := [(6, .inl (Int32.ofNat (fh_D B L m x))), (5, .inl (Int32.ofNat k)), (4, .inl (Int32.ofNat x)), (3, .inl (Int32.ofNat a)), (0, .inr (.inr (.inl (some 0)))), (1, .inl (Int32.ofNat m)), (2, .inl (Int32.ofNat e))]) (S' := [.inl (Int32.ofNat 0), .inr (.inr (.inl (some 26))), .inl (Int32.ofNat e), .inl (Int32.ofNat (fh_D B L m x)), .inl (Int32.ofNat a)]) (h' := h) (by with_unfolding_all rfl) ?_
    refine kx_iald (c := 26) (j := 0) (m := 2) (v := .inl (Int32.ofNat s)) rfl rfl (by decide) (by decide) (by decide) ((fu_Cj (c := 25) (i := 0) hC (by decide) (by decide) fu_f0.2.2.2.2.2.1).trans (by rw [eS])) ?_
    refine kc_call_rule (M2 := wk_m200) (av := [.inl (Int32.ofNat (fh_D B L m x)), .inl (Int32.ofNat e), .inl (Int32.ofNat s)]) (r := [.inl (Int32.ofNat a)]) rfl rfl (kc_Con_le (fh_c200 (d := 0) hg hs hs2 hs0 hD he) (by omega)) (fun rv h2 hq => ?_)
    obtain ⟨rfl, e9⟩ := hq
    rw [e9]
    clear e9
    show kc_Ev g (d + 3) wk_m89 _ 69 [(6, .inl (Int32.ofNat (fh_D B L m x))), (5, .inl (Int32.ofNat k)), (4, .inl (Int32.ofNat x)), (3, .inl (Int32.ofNat a)), (0, .inr (.inr (.inl (some 0)))), (1, .inl (Int32.ofNat m)), (2, .inl (Int32.ofNat e))] [.inl (Int32.ofNat (fh_c (fh_D B L m x) e s)), .inl (Int32.ofNat a)] h
    refine kc_math_ok (AS' := [.inl (if Int32.ofNat (fh_c (fh_D B L m x) e s) < Int32.ofNat a then Int32.ofNat (fh_c (fh_D B L m x) e s) else Int32.ofNat a)]) rfl (by with_unfolding_all rfl) ?_
    rw [fh_mn (by omega) (by omega)]
    obtain ⟨a2, ea⟩ : ∃ a2, a2 = if fh_c (fh_D B L m x) e s < a then fh_c (fh_D B L m x) e s else a := ⟨_, rfl⟩
    rw [← ea]
    have ha2 : a2 ≤ 1000000 := by rw [ea]; split <;> omega
    have ef : fh_g (fun x => fh_c (fh_D B L m x) e s) x (a, 0, 0) = (a2, 0, 0) := by rw [ea]; rfl
    refine kx_go 4 (pc' := (if kc_cnd .ne (Int32.ofNat x).toInt (Int32.ofNat m).toInt then 82 else 79)) (L' := [(3, .inl (Int32.ofNat a2)), (6, .inl (Int32.ofNat (fh_D B L m x))), (5, .inl (Int32.ofNat k)), (4, .inl (Int32.ofNat x)), (0, .inr (.inr (.inl (some 0)))), (1, .inl (Int32.ofNat m)), (2, .inl (Int32.ofNat e))]) (S' := []) (h' := h) (by with_unfolding_all rfl) ?_
    by_cases c : x = m
    · rw [if_neg (fun q => (kx_ne (by omega) (by omega)).mp q c)]
      have eF : (a2, 0, 0) = F := by rw [← ef, ← hF, c, fh_end]
      refine kx_go 1 (pc' := 96) (L' := [(3, .inl (Int32.ofNat a2)), (6, .inl (Int32.ofNat (fh_D B L m x))), (5, .inl (Int32.ofNat k)), (4, .inl (Int32.ofNat x)), (0, .inr (.inr (.inl (some 0)))), (1, .inl (Int32.ofNat m)), (2, .inl (Int32.ofNat e))]) (S' := []) (h' := h) (by with_unfolding_all rfl) ?_
      refine kx_go 3 (pc' := (if kc_cnd .le (Int32.ofNat a2).toInt (Int32.ofNat 99).toInt then 106 else 102)) (L' := [(3, .inl (Int32.ofNat a2)), (6, .inl (Int32.ofNat (fh_D B L m x))), (5, .inl (Int32.ofNat k)), (4, .inl (Int32.ofNat x)), (0, .inr (.inr (.inl (some 0)))), (1, .inl (Int32.ofNat m)), (2, .inl (Int32.ofNat e))]) (S' := []) (h' := h) (by with_unfolding_all rfl) ?_
      subst eF
      by_cases c9 : a2 ≤ 99
      · rw [if_pos ((kx_le (by omega) (by omega)).mpr c9)]
        refine kx_go 1 (pc' := 107) (L' := [(3, .inl (Int32.ofNat a2)), (6, .inl (Int32.ofNat (fh_D B L m x))), (5, .inl (Int32.ofNat k)), (4, .inl (Int32.ofNat x)), (0, .inr (.inr (.inl (some 0)))), (1, .inl (Int32.ofNat m)), (2, .inl (Int32.ofNat e))]) (S' := [.inl (Int32.ofNat a2)]) (h' := h) (by with_unfolding_all rfl) ?_
        exact kc_ret_ok rfl (rv := some (.inl (Int32.ofNat a2))) rfl ⟨by unfold fh_w; rw [if_pos c9], rfl⟩
      · rw [if_neg (fun q => c9 ((kx_le (by omega) (by omega)).mp q))]
        refine kx_go 2 (pc' := 107) (L' := [(3, .inl (Int32.ofNat a2)), (6, .inl (Int32.ofNat (fh_D B L m x))), (5, .inl (Int32.ofNat k)), (4, .inl (Int32.ofNat x)), (0, .inr (.inr (.inl (some 0)))), (1, .inl (Int32.ofNat m)), (2, .inl (Int32.ofNat e))]) (S' := [.inl (Int32.ofInt (-1))]) (h' := h) (by with_unfolding_all rfl) ?_
        exact kc_ret_ok rfl (rv := some (.inl (Int32.ofInt (-1)))) rfl ⟨by unfold fh_w; rw [if_neg c9], rfl⟩
    · rw [if_pos ((kx_ne (by omega) (by omega)).mpr c)]
      refine kx_go 2 (pc' := 85) (L' := [(3, .inl (Int32.ofNat a2)), (6, .inl (Int32.ofNat (fh_D B L m x))), (5, .inl (Int32.ofNat k)), (4, .inl (Int32.ofNat x)), (0, .inr (.inr (.inl (some 0)))), (1, .inl (Int32.ofNat m)), (2, .inl (Int32.ofNat e))]) (S' := [.inl (Int32.ofNat x), .inl (Int32.ofNat m)]) (h' := h) (by with_unfolding_all rfl) ?_
      refine kc_call_rule (M2 := wk_m199) (av := [.inl (Int32.ofNat m), .inl (Int32.ofNat x)]) (r := []) rfl rfl (kc_Con_le (fh_c199 (d := 0) hg hm (show x < 1024 by omega)) (by omega)) (fun rv h2 hq => ?_)
      obtain ⟨rfl, e9⟩ := hq
      rw [e9]
      clear e9
      show kc_Ev g (d + 3) wk_m89 _ 88 [(3, .inl (Int32.ofNat a2)), (6, .inl (Int32.ofNat (fh_D B L m x))), (5, .inl (Int32.ofNat k)), (4, .inl (Int32.ofNat x)), (0, .inr (.inr (.inl (some 0)))), (1, .inl (Int32.ofNat m)), (2, .inl (Int32.ofNat e))] [.inl (Int32.ofNat ((x + 1024 - m) &&& m))] h
      obtain ⟨y1, y2, y3, -⟩ := fh_nx hm (show x < m by omega) hs1
      refine kx_go 3 (pc' := 33) (L' := [(5, .inl ((Int32.ofNat k) + Int32.ofInt 1)), (4, .inl (Int32.ofNat ((x + 1024 - m) &&& m))), (3, .inl (Int32.ofNat a2)), (6, .inl (Int32.ofNat (fh_D B L m x))), (0, .inr (.inr (.inl (some 0)))), (1, .inl (Int32.ofNat m)), (2, .inl (Int32.ofNat e))]) (S' := []) (h' := h) (by with_unfolding_all rfl) ?_
      rw [kx_inc]
      refine kf_lo (L := [(5, .inl (Int32.ofNat (k + 1))), (4, .inl (Int32.ofNat ((x + 1024 - m) &&& m))), (3, .inl (Int32.ofNat a2)), (0, .inr (.inr (.inl (some 0)))), (1, .inl (Int32.ofNat m)), (2, .inl (Int32.ofNat e))]) (by intro q hq; simp only [List.mem_cons, List.not_mem_nil, or_false] at hq; rcases hq with rfl | rfl | rfl | rfl | rfl | rfl <;> rfl) ?_
      exact ih (k + 1) _ a2 (by omega) y2 y3 (by omega) ha2 (by rw [← hF, fh_stp hm (show x < m by omega) hs1, ef])
set_option maxRecDepth 20000 in
theorem fh_r90i {g : kc_G} {d : Nat} {Q : Option kc_V → kc_H → Prop} {h : kc_H} {B : Nat → Int32} {m e s u x C V : Nat} (hg : kc_ok g) (hw : kd_wt kd_ty h) (hC : fu_B B h) (hs : 1 ≤ s) (hs2 : s ≤ 20) (eS : B 4 = Int32.ofNat s) (he : e ≤ 99) (hu : u ≤ 990) (hc1 : ∀ k, k < C → ¬ (-(e : Int) ≤ (u : Int) - ((k * s : Nat) : Int) ∧ (u : Int) - ((k * s : Nat) : Int) ≤ (e : Int))) (hc2 : C < 1000000 → (-(e : Int) ≤ (u : Int) - ((C * s : Nat) : Int) ∧ (u : Int) - ((C * s : Nat) : Int) ≤ (e : Int))) (hQ : kc_Ev g (d + 1) wk_m90 Q 116 [(4, .inl (Int32.ofNat x)), (3, .inl (Int32.ofNat V)), (0, .inr (.inr (.inl (some 259)))), (1, .inl (Int32.ofNat m)), (2, .inl (Int32.ofNat e))] [] h) : ∀ (n k f : Nat), 100 - k = n → k ≤ 100 → (k ≤ C ∨ f ≤ C) → f ≤ 1000000 → V = (if k ≤ C ∧ C < 100 ∧ C < f then C else f) → kc_Ev g (d + 1) wk_m90 Q 61 [(6, .inl (Int32.ofNat k)), (5, .inl (Int32.ofNat u)), (4, .inl (Int32.ofNat x)), (3, .inl (Int32.ofNat f)), (0, .inr (.inr (.inl (some 259)))), (1, .inl (Int32.ofNat m)), (2, .inl (Int32.ofNat e))] [] h := by
  intro n
  induction n with
  | zero =>
    intro k f hn hk hi hf hV
    refine kx_go 3 (pc' := (if kc_cnd .ge (Int32.ofNat k).toInt (Int32.ofNat 100).toInt then 116 else 68)) (L' := [(6, .inl (Int32.ofNat k)), (5, .inl (Int32.ofNat u)), (4, .inl (Int32.ofNat x)), (3, .inl (Int32.ofNat f)), (0, .inr (.inr (.inl (some 259)))), (1, .inl (Int32.ofNat m)), (2, .inl (Int32.ofNat e))]) (S' := []) (h' := h) (by with_unfolding_all rfl) ?_
    rw [if_pos ((kx_ge (by omega) (by omega)).mpr (by omega))]
    refine kf_lo (L := [(4, .inl (Int32.ofNat x)), (3, .inl (Int32.ofNat f)), (0, .inr (.inr (.inl (some 259)))), (1, .inl (Int32.ofNat m)), (2, .inl (Int32.ofNat e))]) (by intro q hq; simp only [List.mem_cons, List.not_mem_nil, or_false] at hq; rcases hq with rfl | rfl | rfl | rfl | rfl <;> rfl) ?_
    rw [if_neg (by omega)] at hV
    rw [← hV]
    exact hQ
  | succ n ih =>
    intro k f hn hk hi hf hV
    refine kx_go 3 (pc' := (if kc_cnd .ge (Int32.ofNat k).toInt (Int32.ofNat 100).toInt then 116 else 68)) (L' := [(6, .inl (Int32.ofNat k)), (5, .inl (Int32.ofNat u)), (4, .inl (Int32.ofNat x)), (3, .inl (Int32.ofNat f)), (0, .inr (.inr (.inl (some 259)))), (1, .inl (Int32.ofNat m)), (2, .inl (Int32.ofNat e))]) (S' := []) (h' := h) (by with_unfolding_all rfl) ?_
    rw [if_neg (fun q => by have := (kx_ge (by omega) (by omega)).mp q; omega)]
    refine kx_go 2 (pc' := (if kc_cnd .lt (Int32.ofNat u).toInt 0 then 116 else 73)) (L' := [(6, .inl (Int32.ofNat k)), (5, .inl (Int32.ofNat u)), (4, .inl (Int32.ofNat x)), (3, .inl (Int32.ofNat f)), (0, .inr (.inr (.inl (some 259)))), (1, .inl (Int32.ofNat m)), (2, .inl (Int32.ofNat e))]) (S' := []) (h' := h) (by with_unfolding_all rfl) ?_
    rw [if_neg (fun q => by have := fu_ilt.mp q; rw [kx_ti (by omega)] at this; omega)]
    refine kx_go 3 (pc' := 78) (L' := [(6, .inl (Int32.ofNat k)), (5, .inl (Int32.ofNat u)), (4, .inl (Int32.ofNat x)), (3, .inl (Int32.ofNat f)), (0, .inr (.inr (.inl (some 259)))), (1, .inl (Int32.ofNat m)), (2, .inl (Int32.ofNat e))]) (S' := [.inr (.inr (.inl (some 259))), .inl (Int32.ofNat k), .inl (Int32.ofNat u)]) (h' := h) (by with_unfolding_all rfl) ?_
    refine kx_getf (c := 259) (v := .inr (.inr (.inl (some 260)))) rfl (by decide) (kx_ofr (hw _ _ _ kz_k.1)) ?_
    refine kx_go 1 (pc' := 82) (L' := [(6, .inl (Int32.ofNat k)), (5, .inl (Int32.ofNat u)), (4, .inl (Int32.ofNat x)), (3, .inl (Int32.ofNat f)), (0, .inr (.inr (.inl (some 259)))), (1, .inl (Int32.ofNat m)), (2, .inl (Int32.ofNat e))]) (S' := [.inl (Int32.ofNat 4), .inr (.inr (.inl (some 260))), .inl (Int32.ofNat k), .inl (Int32.ofNat u)]) (h' := h) (by with_unfolding_all rfl) ?_
    refine kx_iald (c := 260) (j := 4) (m := 650) (v := .inl (Int32.ofNat s)) rfl rfl (by decide) (by decide) (by decide) ((hC 4 (by decide) (by decide)).trans (by rw [eS])) ?_
    refine kx_go 8 (pc' := 91) (L' := [(6, .inl (Int32.ofNat k)), (5, .inl (Int32.ofNat u)), (4, .inl (Int32.ofNat x)), (3, .inl (Int32.ofNat f)), (0, .inr (.inr (.inl (some 259)))), (1, .inl (Int32.ofNat m)), (2, .inl (Int32.ofNat e))]) (S' := [.inr (.inl ((Int32.ofNat e).toInt64)), .inr (.inl ((-(Int32.ofNat e)).toInt64)), .inr (.inl (((Int32.ofNat u) - ((Int32.ofNat k) * (Int32.ofNat s))).toInt64))]) (h' := h) (by with_unfolding_all rfl) ?_
    have hks : k * s ≤ 2000 := Nat.le_trans (Nat.mul_le_mul (show k ≤ 100 by omega) hs2) (by decide)
    rw [kx_mul]
    refine kc_call_rule (M2 := wk_m22) (av := [.inr (.inl ((Int32.ofNat u - Int32.ofNat (k * s)).toInt64)), .inr (.inl ((-(Int32.ofNat e)).toInt64)), .inr (.inl ((Int32.ofNat e).toInt64))]) (r := []) rfl rfl (kc_Con_le (fu_li (d := 0) (lo := -(e : Int)) (hi := (e : Int)) hg (fh_ni he) (fh_pi he)) (by omega)) (fun rv h2 hq => ?_)
    obtain ⟨rfl, e9⟩ := hq
    rw [e9]
    clear e9
    show kc_Ev g (d + 1) wk_m90 _ 94 [(6, .inl (Int32.ofNat k)), (5, .inl (Int32.ofNat u)), (4, .inl (Int32.ofNat x)), (3, .inl (Int32.ofNat f)), (0, .inr (.inr (.inl (some 259)))), (1, .inl (Int32.ofNat m)), (2, .inl (Int32.ofNat e))] [.inl (kp_b (fu_in (Int32.ofNat u - Int32.ofNat (k * s)) (-(e : Int)) (e : Int)))] h
    refine kx_go 1 (pc' := (if kc_cnd .eq (kp_b (fu_in (Int32.ofNat u - Int32.ofNat (k * s)) (-(e : Int)) (e : Int))).toInt 0 then 108 else 97)) (L' := [(6, .inl (Int32.ofNat k)), (5, .inl (Int32.ofNat u)), (4, .inl (Int32.ofNat x)), (3, .inl (Int32.ofNat f)), (0, .inr (.inr (.inl (some 259)))), (1, .inl (Int32.ofNat m)), (2, .inl (Int32.ofNat e))]) (S' := []) (h' := h) (by with_unfolding_all rfl) ?_
    have eu := fh_si (a := u) (b := k * s) (by omega) (by omega)
    cases c : fu_in (Int32.ofNat u - Int32.ofNat (k * s)) (-(e : Int)) (e : Int) with
    | false =>
      rw [if_pos (kx_b0.mpr rfl)]
      have c := of_decide_eq_false c
      rw [eu] at c
      have kc : ¬ k = C := fun q => c (by rw [q]; exact hc2 (by omega))
      refine kx_go 4 (pc' := 61) (L' := [(6, .inl ((Int32.ofNat k) + Int32.ofInt 1)), (3, .inl (Int32.ofNat f)), (5, .inl (Int32.ofNat u)), (4, .inl (Int32.ofNat x)), (0, .inr (.inr (.inl (some 259)))), (1, .inl (Int32.ofNat m)), (2, .inl (Int32.ofNat e))]) (S' := []) (h' := h) (by with_unfolding_all rfl) ?_
      rw [kx_inc]
      refine kf_lo (L := [(6, .inl (Int32.ofNat (k + 1))), (5, .inl (Int32.ofNat u)), (4, .inl (Int32.ofNat x)), (3, .inl (Int32.ofNat f)), (0, .inr (.inr (.inl (some 259)))), (1, .inl (Int32.ofNat m)), (2, .inl (Int32.ofNat e))]) (by intro q hq; simp only [List.mem_cons, List.not_mem_nil, or_false] at hq; rcases hq with rfl | rfl | rfl | rfl | rfl | rfl | rfl <;> rfl) ?_
      exact ih (k + 1) f (by omega) (by omega) (by omega) (by omega) (by rw [hV]; split <;> split <;> omega)
    | true =>
      rw [if_neg (fun q => by have := kx_b0.mp q; cases this)]
      have c := of_decide_eq_true c
      rw [eu] at c
      have kc : ¬ k < C := fun q => hc1 k q c
      refine kx_go 3 (pc' := (if kc_cnd .ge (Int32.ofNat k).toInt (Int32.ofNat f).toInt then 108 else 103)) (L' := [(6, .inl (Int32.ofNat k)), (5, .inl (Int32.ofNat u)), (4, .inl (Int32.ofNat x)), (3, .inl (Int32.ofNat f)), (0, .inr (.inr (.inl (some 259)))), (1, .inl (Int32.ofNat m)), (2, .inl (Int32.ofNat e))]) (S' := []) (h' := h) (by with_unfolding_all rfl) ?_
      by_cases c2 : k < f
      · rw [if_neg (fun q => by have := (kx_ge (by omega) (by omega)).mp q; omega)]
        refine kx_go 5 (pc' := 61) (L' := [(6, .inl ((Int32.ofNat k) + Int32.ofInt 1)), (3, .inl (Int32.ofNat k)), (5, .inl (Int32.ofNat u)), (4, .inl (Int32.ofNat x)), (0, .inr (.inr (.inl (some 259)))), (1, .inl (Int32.ofNat m)), (2, .inl (Int32.ofNat e))]) (S' := []) (h' := h) (by with_unfolding_all rfl) ?_
        rw [kx_inc]
        refine kf_lo (L := [(6, .inl (Int32.ofNat (k + 1))), (5, .inl (Int32.ofNat u)), (4, .inl (Int32.ofNat x)), (3, .inl (Int32.ofNat k)), (0, .inr (.inr (.inl (some 259)))), (1, .inl (Int32.ofNat m)), (2, .inl (Int32.ofNat e))]) (by intro q hq; simp only [List.mem_cons, List.not_mem_nil, or_false] at hq; rcases hq with rfl | rfl | rfl | rfl | rfl | rfl | rfl <;> rfl) ?_
        exact ih (k + 1) k (by omega) (by omega) (by omega) (by omega) (by rw [hV]; split <;> split <;> omega)
      · rw [if_pos ((kx_ge (by omega) (by omega)).mpr (by omega))]
        refine kx_go 4 (pc' := 61) (L' := [(6, .inl ((Int32.ofNat k) + Int32.ofInt 1)), (3, .inl (Int32.ofNat f)), (5, .inl (Int32.ofNat u)), (4, .inl (Int32.ofNat x)), (0, .inr (.inr (.inl (some 259)))), (1, .inl (Int32.ofNat m)), (2, .inl (Int32.ofNat e))]) (S' := []) (h' := h) (by with_unfolding_all rfl) ?_
        rw [kx_inc]
        refine kf_lo (L := [(6, .inl (Int32.ofNat (k + 1))), (5, .inl (Int32.ofNat u)), (4, .inl (Int32.ofNat x)), (3, .inl (Int32.ofNat f)), (0, .inr (.inr (.inl (some 259)))), (1, .inl (Int32.ofNat m)), (2, .inl (Int32.ofNat e))]) (by intro q hq; simp only [List.mem_cons, List.not_mem_nil, or_false] at hq; rcases hq with rfl | rfl | rfl | rfl | rfl | rfl | rfl <;> rfl) ?_
        exact ih (k + 1) f (by omega) (by omega) (by omega) (by omega) (by rw [hV]; split <;> split <;> omega)
set_option maxRecDepth 20000 in
theorem fh_r90l {g : kc_G} {d : Nat} {h : kc_H} {B : Nat → Int32} {L : Nat} {m e s : Nat} {F : fh_S} (hg : kc_ok g) (hw : kd_wt kd_ty h) (hC : fu_B B h) (hB : fu_BT B) (hL : L ≤ 10) (eL : B 2 = Int32.ofNat L) (hs : 1 ≤ s) (hs2 : s ≤ 20) (hs0 : ¬ Int32.ofNat s = 0) (eS : B 4 = Int32.ofNat s) (he : e ≤ 99) (hm : m < 1024) : ∀ (u x a : Nat), m + 1 - x = u → x ≤ m + 1 → a ≤ 1000000 → fh_f (fh_g (fun x => fh_c (fh_D B L m x) e s)) m u x (a, 0, 0) = F → kc_Ev g (d + 3) wk_m90 (fun rv h' => rv = some (.inl (fh_w F)) ∧ h' = h) 30 [(4, .inl (Int32.ofNat x)), (3, .inl (Int32.ofNat (fh_cap a))), (0, .inr (.inr (.inl (some 259)))), (1, .inl (Int32.ofNat m)), (2, .inl (Int32.ofNat e))] [] h := by
  intro u
  induction u with
  | zero =>
    intro x a hu hx ha hF
    refine kx_go 3 (pc' := (if kc_cnd .gt (Int32.ofNat x).toInt (Int32.ofNat m).toInt then 122 else 36)) (L' := [(4, .inl (Int32.ofNat x)), (3, .inl (Int32.ofNat (fh_cap a))), (0, .inr (.inr (.inl (some 259)))), (1, .inl (Int32.ofNat m)), (2, .inl (Int32.ofNat e))]) (S' := []) (h' := h) (by with_unfolding_all rfl) ?_
    rw [if_pos ((kx_gt (by omega) (by omega)).mpr (by omega))]
    have hF : (a, 0, 0) = F := hF
    subst hF
    have hcp : fh_cap a ≤ 1000000 := by unfold fh_cap; split <;> omega
    refine kx_go 3 (pc' := (if kc_cnd .ne (Int32.ofNat (fh_cap a)).toInt (Int32.ofNat 1000000).toInt then 133 else 129)) (L' := [(4, .inl (Int32.ofNat x)), (3, .inl (Int32.ofNat (fh_cap a))), (0, .inr (.inr (.inl (some 259)))), (1, .inl (Int32.ofNat m)), (2, .inl (Int32.ofNat e))]) (S' := []) (h' := h) (by with_unfolding_all rfl) ?_
    by_cases c9 : a ≤ 99
    · have e9 : fh_cap a = a := if_pos c9
      rw [if_pos ((kx_ne (by omega) (by omega)).mpr (by omega))]
      refine kx_go 1 (pc' := 134) (L' := [(4, .inl (Int32.ofNat x)), (3, .inl (Int32.ofNat (fh_cap a))), (0, .inr (.inr (.inl (some 259)))), (1, .inl (Int32.ofNat m)), (2, .inl (Int32.ofNat e))]) (S' := [.inl (Int32.ofNat (fh_cap a))]) (h' := h) (by with_unfolding_all rfl) ?_
      exact kc_ret_ok rfl (rv := some (.inl (Int32.ofNat (fh_cap a)))) rfl ⟨by unfold fh_w; rw [if_pos c9, e9], rfl⟩
    · have e9 : fh_cap a = 1000000 := if_neg c9
      rw [if_neg (fun q => (kx_ne (by omega) (by omega)).mp q e9)]
      refine kx_go 2 (pc' := 134) (L' := [(4, .inl (Int32.ofNat x)), (3, .inl (Int32.ofNat (fh_cap a))), (0, .inr (.inr (.inl (some 259)))), (1, .inl (Int32.ofNat m)), (2, .inl (Int32.ofNat e))]) (S' := [.inl (Int32.ofInt (-1))]) (h' := h) (by with_unfolding_all rfl) ?_
      exact kc_ret_ok rfl (rv := some (.inl (Int32.ofInt (-1)))) rfl ⟨by unfold fh_w; rw [if_neg c9], rfl⟩
  | succ u ih =>
    intro x a hu hx ha hF
    have hD := fh_Db (m := m) (x := x) hB hL
    have hF : fh_f (fh_g (fun x => fh_c (fh_D B L m x) e s)) m u (x + 1) (if x &&& m = x then fh_g (fun x => fh_c (fh_D B L m x) e s) x (a, 0, 0) else (a, 0, 0)) = F := hF
    have hcp : fh_cap a ≤ 1000000 := by unfold fh_cap; split <;> omega
    have hcb := fh_cb (e := e) hs hs2 hD
    refine kx_go 3 (pc' := (if kc_cnd .gt (Int32.ofNat x).toInt (Int32.ofNat m).toInt then 122 else 36)) (L' := [(4, .inl (Int32.ofNat x)), (3, .inl (Int32.ofNat (fh_cap a))), (0, .inr (.inr (.inl (some 259)))), (1, .inl (Int32.ofNat m)), (2, .inl (Int32.ofNat e))]) (S' := []) (h' := h) (by with_unfolding_all rfl) ?_
    rw [if_neg (fun q => by have := (kx_gt (by omega) (by omega)).mp q; omega)]
    refine kx_go 6 (pc' := (if kc_cnd .ne ((Int32.ofNat x) &&& ((Int32.ofNat m) ^^^ (Int32.ofInt (-1)))).toInt 0 then 55 else 45)) (L' := [(4, .inl (Int32.ofNat x)), (3, .inl (Int32.ofNat (fh_cap a))), (0, .inr (.inr (.inl (some 259)))), (1, .inl (Int32.ofNat m)), (2, .inl (Int32.ofNat e))]) (S' := []) (h' := h) (by with_unfolding_all rfl) ?_
    by_cases c : x &&& m = x
    · rw [if_neg (fun q => (fh_sub (by omega) hm).mp q c)]
      rw [if_pos c] at hF
      refine kx_go 3 (pc' := 49) (L' := [(4, .inl (Int32.ofNat x)), (3, .inl (Int32.ofNat (fh_cap a))), (0, .inr (.inr (.inl (some 259)))), (1, .inl (Int32.ofNat m)), (2, .inl (Int32.ofNat e))]) (S' := [.inl (Int32.ofNat x), .inl (Int32.ofNat m), .inr (.inr (.inl (some 259)))]) (h' := h) (by with_unfolding_all rfl) ?_
      refine kc_call_rule (M2 := wk_m257) (av := [.inr (.inr (.inl (some 259))), .inl (Int32.ofNat m), .inl (Int32.ofNat x)]) (r := []) rfl rfl (kc_Con_le (fh_r257 (d := 0) hg hw hC hB hL eL hm (show x < 1024 by omega)) (by omega)) (fun rv h2 hq => ?_)
      obtain ⟨rfl, e9⟩ := hq
      rw [e9]
      clear e9
      show kc_Ev g (d + 3) wk_m90 _ 52 [(4, .inl (Int32.ofNat x)), (3, .inl (Int32.ofNat (fh_cap a))), (0, .inr (.inr (.inl (some 259)))), (1, .inl (Int32.ofNat m)), (2, .inl (Int32.ofNat e))] [.inl (Int32.ofNat (fh_D B L m x))] h
      refine kx_go 4 (pc' := 61) (L' := [(6, .inl (Int32.ofNat 0)), (5, .inl (Int32.ofNat (fh_D B L m x))), (4, .inl (Int32.ofNat x)), (3, .inl (Int32.ofNat (fh_cap a))), (0, .inr (.inr (.inl (some 259)))), (1, .inl (Int32.ofNat m)), (2, .inl (Int32.ofNat e))]) (S' := []) (h' := h) (by with_unfolding_all rfl) ?_
      refine kf_lo (L := [(6, .inl (Int32.ofNat 0)), (5, .inl (Int32.ofNat (fh_D B L m x))), (4, .inl (Int32.ofNat x)), (3, .inl (Int32.ofNat (fh_cap a))), (0, .inr (.inr (.inl (some 259)))), (1, .inl (Int32.ofNat m)), (2, .inl (Int32.ofNat e))]) (by intro q hq; simp only [List.mem_cons, List.not_mem_nil, or_false] at hq; rcases hq with rfl | rfl | rfl | rfl | rfl | rfl | rfl <;> rfl) ?_
      refine fh_r90i (d := d + 2) (u := fh_D B L m x) (x := x) (C := fh_c (fh_D B L m x) e s) (V := fh_cap (if fh_c (fh_D B L m x) e s < a then fh_c (fh_D B L m x) e s else a)) hg hw hC hs hs2 eS he hD (fh_c1 hs) (fh_c2 hs) ?_ 100 0 (fh_cap a) (by omega) (by omega) (by omega) hcp fh_capm
      refine kx_go 2 (pc' := 30) (L' := [(4, .inl ((Int32.ofNat x) + Int32.ofInt 1)), (3, .inl (Int32.ofNat (fh_cap (if fh_c (fh_D B L m x) e s < a then fh_c (fh_D B L m x) e s else a)))), (0, .inr (.inr (.inl (some 259)))), (1, .inl (Int32.ofNat m)), (2, .inl (Int32.ofNat e))]) (S' := []) (h' := h) (by with_unfolding_all rfl) ?_
      rw [kx_inc]
      exact ih (x + 1) _ (by omega) (by omega) (by split <;> omega) hF
    · rw [if_pos ((fh_sub (by omega) hm).mpr c)]
      rw [if_neg c] at hF
      refine kx_go 11 (pc' := 30) (L' := [(4, .inl ((Int32.ofNat x) + Int32.ofInt 1)), (6, .inl (Int32.ofNat 0)), (5, .inl (Int32.ofInt (-1))), (3, .inl (Int32.ofNat (fh_cap a))), (0, .inr (.inr (.inl (some 259)))), (1, .inl (Int32.ofNat m)), (2, .inl (Int32.ofNat e))]) (S' := []) (h' := h) (by with_unfolding_all rfl) ?_
      rw [kx_inc]
      refine kf_lo (L := [(4, .inl (Int32.ofNat (x + 1))), (3, .inl (Int32.ofNat (fh_cap a))), (0, .inr (.inr (.inl (some 259)))), (1, .inl (Int32.ofNat m)), (2, .inl (Int32.ofNat e))]) (by intro q hq; simp only [List.mem_cons, List.not_mem_nil, or_false] at hq; rcases hq with rfl | rfl | rfl | rfl | rfl <;> rfl) ?_
      exact ih (x + 1) a (by omega) (by omega) ha hF
theorem fh_st {B : Nat → Int32} (hB : fu_BT B) : ∃ s, 1 ≤ s ∧ s ≤ 20 ∧ B 4 = Int32.ofNat s := by
  have h := hB 4 (by decide) (by decide)
  unfold fu_ok at h
  rw [fu_f0.1.2.2.2.2.1] at h
  unfold kd_nb at h
  have h1 : 2147483648 + 1 ≤ ((B 4).toInt + 2147483648).toNat := h.1
  have h2 : ((B 4).toInt + 2147483648).toNat ≤ 2147483648 + 20 := h.2
  obtain ⟨k, k1, k2, k3⟩ := ku_nat (a := B 4) (u := 20) (by omega) (by omega)
  exact ⟨k, by omega, k1, k3⟩
set_option maxRecDepth 20000 in
theorem fu_cwin {g : kc_G} {d : Nat} {h : kc_H} {B : Nat → Int32} {a b : Int32} (hg : kc_ok g) (hw : kd_wt kd_ty h) (hC : fu_C B 1 h) (hB : fu_BT B) : kc_Con g (d + 4) 89 [.inr (.inr (.inl (some 0))), .inl a, .inl b] h (fun rv h' => rv = some (.inl (fh_win B a b)) ∧ h' = h) := by
  obtain ⟨L, hL, eL⟩ := fu_n2 hB
  have eL2 : (B 2).toInt.toNat = L := by rw [eL, kx_ti (by omega), Int.toNat_natCast]
  obtain ⟨s, hs, hs2, eS⟩ := fh_st hB
  have eS2 : (B 4).toInt.toNat = s := by rw [eS, kx_ti (by omega), Int.toNat_natCast]
  have hs0 : ¬ Int32.ofNat s = 0 := fun q => by
    have q2 := congrArg Int32.toInt q
    rw [kx_ti (by omega), show (0 : Int32).toInt = 0 from by decide] at q2
    omega
  
  refine kc_Con_new hg (M := wk_m89) rfl rfl rfl (show 3 ≤ 7 by decide) ?_
  refine kx_go 1 (pc' := 1) (L' := [(0, .inr (.inr (.inl (some 0)))), (1, .inl (a)), (2, .inl (b))]) (S' := [.inr (.inr (.inl (some 0)))]) (h' := h) (by with_unfolding_all rfl) ?_
  refine kx_getf (c := 0) (v := .inr (.inr (.inl (some 1)))) rfl (by decide) (kx_ofr (hw _ _ _ kv_k0.1)) ?_
  refine kx_go 1 (pc' := 5) (L' := [(0, .inr (.inr (.inl (some 0)))), (1, .inl (a)), (2, .inl (b))]) (S' := [.inl (a), .inr (.inr (.inl (some 1)))]) (h' := h) (by with_unfolding_all rfl) ?_
  refine kc_call_rule (M2 := wk_m86) (av := [.inr (.inr (.inl (some 1))), .inl (a)]) (r := []) rfl rfl (kc_Con_le (fh_c86 (d := 0) hg hw hC hB hL eL) (by omega)) (fun rv h2 hq => ?_)
  obtain ⟨rfl, e9⟩ := hq
  rw [e9]
  clear e9
  show kc_Ev g (d + 3) wk_m89 _ 8 [(0, .inr (.inr (.inl (some 0)))), (1, .inl (a)), (2, .inl (b))] [.inl (kp_b (fu_in a 1 (((2 ^ L : Nat) : Int) - 1)))] h
  refine kx_go 1 (pc' := (if kc_cnd .eq (kp_b (fu_in a 1 (((2 ^ L : Nat) : Int) - 1))).toInt 0 then 21 else 11)) (L' := [(0, .inr (.inr (.inl (some 0)))), (1, .inl (a)), (2, .inl (b))]) (S' := []) (h' := h) (by with_unfolding_all rfl) ?_
  cases e1 : fu_in a 1 (((2 ^ L : Nat) : Int) - 1) with
  | false =>
    rw [if_pos (kx_b0.mpr rfl)]
    refine kx_go 1 (pc' := 23) (L' := [(0, .inr (.inr (.inl (some 0)))), (1, .inl (a)), (2, .inl (b))]) (S' := [.inl (Int32.ofInt (-2))]) (h' := h) (by with_unfolding_all rfl) ?_
    exact kc_ret_ok rfl (rv := some (.inl (Int32.ofInt (-2)))) rfl ⟨by unfold fh_win; rw [eL2, e1, Bool.false_and]; rfl, rfl⟩
  | true =>
    rw [if_neg (fun q => by have := kx_b0.mp q; cases this)]
    refine kx_go 3 (pc' := 15) (L' := [(0, .inr (.inr (.inl (some 0)))), (1, .inl (a)), (2, .inl (b))]) (S' := [.inl (Int32.ofNat 99), .inl (Int32.ofNat 0), .inl (b)]) (h' := h) (by with_unfolding_all rfl) ?_
    refine kc_call_rule (M2 := wk_m19) (av := [.inl (b), .inl (Int32.ofNat 0), .inl (Int32.ofNat 99)]) (r := []) rfl rfl (kc_Con_le (fu_bt (d := 0) (lo := 0) (hi := 99) hg rfl rfl) (by omega)) (fun rv h2 hq => ?_)
    obtain ⟨rfl, e9⟩ := hq
    rw [e9]
    clear e9
    show kc_Ev g (d + 3) wk_m89 _ 18 [(0, .inr (.inr (.inl (some 0)))), (1, .inl (a)), (2, .inl (b))] [.inl (kp_b (fu_in b 0 99))] h
    refine kx_go 1 (pc' := (if kc_cnd .ne (kp_b (fu_in b 0 99)).toInt 0 then 24 else 21)) (L' := [(0, .inr (.inr (.inl (some 0)))), (1, .inl (a)), (2, .inl (b))]) (S' := []) (h' := h) (by with_unfolding_all rfl) ?_
    cases e2 : fu_in b 0 99 with
    | false =>
      rw [if_neg (fun q => by have := kx_b1.mp q; cases this)]
      refine kx_go 1 (pc' := 23) (L' := [(0, .inr (.inr (.inl (some 0)))), (1, .inl (a)), (2, .inl (b))]) (S' := [.inl (Int32.ofInt (-2))]) (h' := h) (by with_unfolding_all rfl) ?_
      exact kc_ret_ok rfl (rv := some (.inl (Int32.ofInt (-2)))) rfl ⟨by unfold fh_win; rw [eL2, e1, e2]; rfl, rfl⟩
    | true =>
      rw [if_pos (kx_b1.mpr rfl)]
      have h2p := fh_2p L (by omega)
      obtain ⟨m, m1, rfl, m2, m3⟩ := fu_in_n (u := 1023) e1 (by omega) (by omega)
      obtain ⟨e, c1, rfl, -, -⟩ := fu_in_n (u := 99) e2 (by omega) (by omega)
      refine kx_go 6 (pc' := 33) (L' := [(5, .inl (Int32.ofNat 0)), (4, .inl (Int32.ofNat 0)), (3, .inl (Int32.ofNat 1000000)), (0, .inr (.inr (.inl (some 0)))), (1, .inl (Int32.ofNat m)), (2, .inl (Int32.ofNat e))]) (S' := []) (h' := h) (by with_unfolding_all rfl) ?_
      have eA : fh_win B (Int32.ofNat m) (Int32.ofNat e) = fh_w (fh_G B L m e s) := by
        unfold fh_win
        rw [eL2, eS2, e1, e2, kx_ti (show m < 2147483648 by omega), kx_ti (show e < 2147483648 by omega), Int.toNat_natCast, Int.toNat_natCast]
        rfl
      rw [eA]
      show kc_Ev g (d + 3) wk_m89 (fun rv h' => rv = some (.inl (fh_w (fh_G B L m e s))) ∧ h' = h) 33 [(5, .inl (Int32.ofNat 0)), (4, .inl (Int32.ofNat 0)), (3, .inl (Int32.ofNat 1000000)), (0, .inr (.inr (.inl (some 0)))), (1, .inl (Int32.ofNat m)), (2, .inl (Int32.ofNat e))] [] h
      refine kf_lo (L := [(5, .inl (Int32.ofNat 0)), (4, .inl (Int32.ofNat 0)), (3, .inl (Int32.ofNat 1000000)), (0, .inr (.inr (.inl (some 0)))), (1, .inl (Int32.ofNat m)), (2, .inl (Int32.ofNat e))]) (by intro q hq; simp only [List.mem_cons, List.not_mem_nil, or_false] at hq; rcases hq with rfl | rfl | rfl | rfl | rfl | rfl <;> rfl) ?_
      exact fh_c89l (F := fh_G B L m e s) hg hw hC hB hL eL hs hs2 hs0 eS c1 (by omega) (m + 1) 0 0 1000000 (by omega) (by omega) (Nat.zero_and m) (by omega) (by omega) rfl
set_option maxRecDepth 20000 in
theorem fu_rwin {g : kc_G} {d : Nat} {h : kc_H} {B : Nat → Int32} {a b : Int32} (hg : kc_ok g) (hw : kd_wt kd_ty h) (hC : fu_B B h) (hB : fu_BT B) : kc_Con g (d + 4) 90 [.inr (.inr (.inl (some 259))), .inl a, .inl b] h (fun rv h' => rv = some (.inl (fh_win B a b)) ∧ h' = h) := by
  obtain ⟨L, hL, eL⟩ := fu_n2 hB
  have eL2 : (B 2).toInt.toNat = L := by rw [eL, kx_ti (by omega), Int.toNat_natCast]
  obtain ⟨s, hs, hs2, eS⟩ := fh_st hB
  have eS2 : (B 4).toInt.toNat = s := by rw [eS, kx_ti (by omega), Int.toNat_natCast]
  have hs0 : ¬ Int32.ofNat s = 0 := fun q => by
    have q2 := congrArg Int32.toInt q
    rw [kx_ti (by omega), show (0 : Int32).toInt = 0 from by decide] at q2
    omega
  
  refine kc_Con_new hg (M := wk_m90) rfl rfl rfl (show 3 ≤ 7 by decide) ?_
  refine kx_go 2 (pc' := 2) (L' := [(0, .inr (.inr (.inl (some 259)))), (1, .inl (a)), (2, .inl (b))]) (S' := [.inl (a), .inr (.inr (.inl (some 259)))]) (h' := h) (by with_unfolding_all rfl) ?_
  refine kc_call_rule (M2 := wk_m88) (av := [.inr (.inr (.inl (some 259))), .inl (a)]) (r := []) rfl rfl (kc_Con_le (fh_r88 (d := 0) hg hw hC hB hL eL) (by omega)) (fun rv h2 hq => ?_)
  obtain ⟨rfl, e9⟩ := hq
  rw [e9]
  clear e9
  show kc_Ev g (d + 3) wk_m90 _ 5 [(0, .inr (.inr (.inl (some 259)))), (1, .inl (a)), (2, .inl (b))] [.inl (kp_b (fu_in a 1 (((2 ^ L : Nat) : Int) - 1)))] h
  refine kx_go 1 (pc' := (if kc_cnd .eq (kp_b (fu_in a 1 (((2 ^ L : Nat) : Int) - 1))).toInt 0 then 20 else 8)) (L' := [(0, .inr (.inr (.inl (some 259)))), (1, .inl (a)), (2, .inl (b))]) (S' := []) (h' := h) (by with_unfolding_all rfl) ?_
  cases e1 : fu_in a 1 (((2 ^ L : Nat) : Int) - 1) with
  | false =>
    rw [if_pos (kx_b0.mpr rfl)]
    refine kx_go 1 (pc' := 22) (L' := [(0, .inr (.inr (.inl (some 259)))), (1, .inl (a)), (2, .inl (b))]) (S' := [.inl (Int32.ofInt (-2))]) (h' := h) (by with_unfolding_all rfl) ?_
    exact kc_ret_ok rfl (rv := some (.inl (Int32.ofInt (-2)))) rfl ⟨by unfold fh_win; rw [eL2, e1, Bool.false_and]; rfl, rfl⟩
  | true =>
    rw [if_neg (fun q => by have := kx_b0.mp q; cases this)]
    refine kx_go 4 (pc' := 14) (L' := [(0, .inr (.inr (.inl (some 259)))), (1, .inl (a)), (2, .inl (b))]) (S' := [.inr (.inl (Int64.ofNat 99)), .inr (.inl (Int64.ofNat 0)), .inr (.inl (b.toInt64))]) (h' := h) (by with_unfolding_all rfl) ?_
    refine kc_call_rule (M2 := wk_m22) (av := [.inr (.inl (b.toInt64)), .inr (.inl (Int64.ofNat 0)), .inr (.inl (Int64.ofNat 99))]) (r := []) rfl rfl (kc_Con_le (fu_li (d := 0) (lo := 0) (hi := 99) hg rfl rfl) (by omega)) (fun rv h2 hq => ?_)
    obtain ⟨rfl, e9⟩ := hq
    rw [e9]
    clear e9
    show kc_Ev g (d + 3) wk_m90 _ 17 [(0, .inr (.inr (.inl (some 259)))), (1, .inl (a)), (2, .inl (b))] [.inl (kp_b (fu_in b 0 99))] h
    refine kx_go 1 (pc' := (if kc_cnd .ne (kp_b (fu_in b 0 99)).toInt 0 then 23 else 20)) (L' := [(0, .inr (.inr (.inl (some 259)))), (1, .inl (a)), (2, .inl (b))]) (S' := []) (h' := h) (by with_unfolding_all rfl) ?_
    cases e2 : fu_in b 0 99 with
    | false =>
      rw [if_neg (fun q => by have := kx_b1.mp q; cases this)]
      refine kx_go 1 (pc' := 22) (L' := [(0, .inr (.inr (.inl (some 259)))), (1, .inl (a)), (2, .inl (b))]) (S' := [.inl (Int32.ofInt (-2))]) (h' := h) (by with_unfolding_all rfl) ?_
      exact kc_ret_ok rfl (rv := some (.inl (Int32.ofInt (-2)))) rfl ⟨by unfold fh_win; rw [eL2, e1, e2]; rfl, rfl⟩
    | true =>
      rw [if_pos (kx_b1.mpr rfl)]
      have h2p := fh_2p L (by omega)
      obtain ⟨m, m1, rfl, m2, m3⟩ := fu_in_n (u := 1023) e1 (by omega) (by omega)
      obtain ⟨e, c1, rfl, -, -⟩ := fu_in_n (u := 99) e2 (by omega) (by omega)
      refine kx_go 4 (pc' := 30) (L' := [(4, .inl (Int32.ofNat 0)), (3, .inl (Int32.ofNat 1000000)), (0, .inr (.inr (.inl (some 259)))), (1, .inl (Int32.ofNat m)), (2, .inl (Int32.ofNat e))]) (S' := []) (h' := h) (by with_unfolding_all rfl) ?_
      have eA : fh_win B (Int32.ofNat m) (Int32.ofNat e) = fh_w (fh_G B L m e s) := by
        unfold fh_win
        rw [eL2, eS2, e1, e2, kx_ti (show m < 2147483648 by omega), kx_ti (show e < 2147483648 by omega), Int.toNat_natCast, Int.toNat_natCast]
        rfl
      rw [eA]
      show kc_Ev g (d + 3) wk_m90 (fun rv h' => rv = some (.inl (fh_w (fh_G B L m e s))) ∧ h' = h) 30 [(4, .inl (Int32.ofNat 0)), (3, .inl (Int32.ofNat 1000000)), (0, .inr (.inr (.inl (some 259)))), (1, .inl (Int32.ofNat m)), (2, .inl (Int32.ofNat e))] [] h
      refine kf_lo (L := [(4, .inl (Int32.ofNat 0)), (3, .inl (Int32.ofNat (fh_cap 1000000))), (0, .inr (.inr (.inl (some 259)))), (1, .inl (Int32.ofNat m)), (2, .inl (Int32.ofNat e))]) (by intro q hq; simp only [List.mem_cons, List.not_mem_nil, or_false] at hq; rcases hq with rfl | rfl | rfl | rfl | rfl <;> rfl) ?_
      exact fh_r90l (F := fh_G B L m e s) hg hw hC hB hL eL hs hs2 hs0 eS c1 (by omega) (m + 1) 0 1000000 (by omega) (by omega) (by omega) rfl
theorem fU_Xwithin {g : kc_G} {h : kc_H} {a b : Int32} (hg : kc_ok g) (hI : fu_I h) : kc_Con g 30 89 [.inr (.inr (.inl (some 0))), .inl a, .inl b] h (fun rv h1 => ∃ z : Int32, rv = some (.inl z) ∧ kc_Con g 30 90 [.inr (.inr (.inl (some 259))), .inl a, .inl b] h1 (fun rv2 h2 => rv2 = some (.inl z) ∧ fu_I h2)) := by
  obtain ⟨B, hC, hR⟩ := hI.2.1
  have hB := fu_C_T hI.1 hC
  exact fu_both (S := (fh_win B a b, [])) hI hC hR fu_gd_nil (kc_Con_le (fu_cwin (d := 0) hg hI.1 hC hB) (by decide)) (fun h1 w1 r1 _ => kc_Con_le (fu_rwin (d := 0) hg w1 r1 hB) (by decide)) hI.2.2.2.2.2.1
end
section
-- 99.zq
/-! ===== the law's rows ===== -/
def wk_mL : wk_M := (99, ⟨"EvenSidesLaw", "law", "([I)Z"⟩, code, 4, (some FieldType.boolean), 289, 10466, 1, [
  [(0, .new 7, 3, (8, 0, 0), [130, 131, 113], 40, 0), (3, .dup, 1, (0, 0, 0), [], 26, 0), (4, .invokespecial 9, 3, (2, 0, 0), [132], 40, 0), (7, .astore_n 1, 1, (0, 0, 0), [], 6, 1), (8, .new 10, 3, (9, 0, 0), [1256, 1257, 123], 40, 0), (11, .dup, 1, (0, 0, 0), [], 26, 0), (12, .invokespecial 12, 3, (2, 11, 0), [1258], 40, 0), (15, .astore_n 2, 1, (0, 0, 0), [], 6, 2)],
  [(16, .iconst 0, 1, (0, 0, 0), [], 1, 0), (17, .istore_n 3, 1, (0, 0, 0), [], 5, 3), (18, .iload_n 3, 1, (0, 0, 0), [], 2, 3), (19, .aload_n 0, 1, (0, 0, 0), [], 3, 0), (20, .arraylength, 1, (0, 0, 0), [], 33, 0), (21, .iconst 5, 1, (0, 0, 0), [], 1, 5), (22, .isub, 1, (0, 0, 0), [], 22, 0), (23, .if_icmp .gt 1190, 3, (0, 0, 0), [], 19, 1213), (26, .aload_n 0, 1, (0, 0, 0), [], 3, 0), (27, .iload_n 3, 1, (0, 0, 0), [], 2, 3), (28, .iaload, 1, (0, 0, 0), [], 35, 0), (29, .bipush 63, 2, (0, 0, 0), [], 1, 63), (31, .iand, 1, (0, 0, 0), [], 40, 0)],
  [(32, .tableswitch 1175 0 36 #[164, 177, 220, 243, 276, 319, 362, 415, 448, 481, 514, 587, 610, 633, 646, 669, 712, 735, 768, 801, 844, 867, 880, 893, 906, 919, 942, 965, 978, 991, 1004, 1027, 1070, 1093, 1116, 1139, 1162], 164, (0, 0, 0), [], 40, 0)],
  [],
  [],
  [],
  [],
  [],
  [],
  [],
  [],
  [],
  [(196, .aload_n 1, 1, (0, 0, 0), [], 3, 1), (197, .invokevirtual 13, 3, (0, 13, 0), [541], 40, 0), (200, .pop, 1, (0, 0, 0), [], 40, 0), (201, .aload_n 2, 1, (0, 0, 0), [], 3, 2), (202, .invokevirtual 17, 3, (0, 15, 0), [1414], 40, 0), (205, .pop, 1, (0, 0, 0), [], 40, 0), (206, .goto 1001, 3, (0, 0, 0), [], 8, 1207)],
  [(209, .aload_n 1, 1, (0, 0, 0), [], 3, 1), (210, .aload_n 0, 1, (0, 0, 0), [], 3, 0), (211, .iload_n 3, 1, (0, 0, 0), [], 2, 3), (212, .iconst 1, 1, (0, 0, 0), [], 1, 1), (213, .iadd, 1, (0, 0, 0), [], 21, 0), (214, .iaload, 1, (0, 0, 0), [], 35, 0), (215, .aload_n 0, 1, (0, 0, 0), [], 3, 0), (216, .iload_n 3, 1, (0, 0, 0), [], 2, 3), (217, .iconst 2, 1, (0, 0, 0), [], 1, 2), (218, .iadd, 1, (0, 0, 0), [], 21, 0), (219, .iaload, 1, (0, 0, 0), [], 35, 0), (220, .aload_n 0, 1, (0, 0, 0), [], 3, 0), (221, .iload_n 3, 1, (0, 0, 0), [], 2, 3), (222, .iconst 3, 1, (0, 0, 0), [], 1, 3), (223, .iadd, 1, (0, 0, 0), [], 21, 0)],
  [(224, .iaload, 1, (0, 0, 0), [], 35, 0), (225, .invokevirtual 18, 3, (0, 16, 0), [549], 40, 0), (228, .pop, 1, (0, 0, 0), [], 40, 0), (229, .aload_n 2, 1, (0, 0, 0), [], 3, 2), (230, .aload_n 0, 1, (0, 0, 0), [], 3, 0), (231, .iload_n 3, 1, (0, 0, 0), [], 2, 3), (232, .iconst 1, 1, (0, 0, 0), [], 1, 1), (233, .iadd, 1, (0, 0, 0), [], 21, 0), (234, .iaload, 1, (0, 0, 0), [], 35, 0), (235, .aload_n 0, 1, (0, 0, 0), [], 3, 0), (236, .iload_n 3, 1, (0, 0, 0), [], 2, 3), (237, .iconst 2, 1, (0, 0, 0), [], 1, 2), (238, .iadd, 1, (0, 0, 0), [], 21, 0), (239, .iaload, 1, (0, 0, 0), [], 35, 0)],
  [(240, .aload_n 0, 1, (0, 0, 0), [], 3, 0), (241, .iload_n 3, 1, (0, 0, 0), [], 2, 3), (242, .iconst 3, 1, (0, 0, 0), [], 1, 3), (243, .iadd, 1, (0, 0, 0), [], 21, 0), (244, .iaload, 1, (0, 0, 0), [], 35, 0), (245, .invokevirtual 22, 3, (0, 20, 0), [1418], 40, 0), (248, .pop, 1, (0, 0, 0), [], 40, 0), (249, .goto 958, 3, (0, 0, 0), [], 8, 1207), (252, .aload_n 1, 1, (0, 0, 0), [], 3, 1), (253, .aload_n 0, 1, (0, 0, 0), [], 3, 0), (254, .iload_n 3, 1, (0, 0, 0), [], 2, 3), (255, .iconst 1, 1, (0, 0, 0), [], 1, 1)],
  [(256, .iadd, 1, (0, 0, 0), [], 21, 0), (257, .iaload, 1, (0, 0, 0), [], 35, 0), (258, .invokevirtual 23, 3, (0, 23, 0), [564], 40, 0), (261, .pop, 1, (0, 0, 0), [], 40, 0), (262, .aload_n 2, 1, (0, 0, 0), [], 3, 2), (263, .aload_n 0, 1, (0, 0, 0), [], 3, 0), (264, .iload_n 3, 1, (0, 0, 0), [], 2, 3), (265, .iconst 1, 1, (0, 0, 0), [], 1, 1), (266, .iadd, 1, (0, 0, 0), [], 21, 0), (267, .iaload, 1, (0, 0, 0), [], 35, 0), (268, .invokevirtual 27, 3, (0, 26, 0), [1434], 40, 0), (271, .pop, 1, (0, 0, 0), [], 40, 0)],
  [(272, .goto 935, 3, (0, 0, 0), [], 8, 1207), (275, .aload_n 1, 1, (0, 0, 0), [], 3, 1), (276, .aload_n 0, 1, (0, 0, 0), [], 3, 0), (277, .iload_n 3, 1, (0, 0, 0), [], 2, 3), (278, .iconst 1, 1, (0, 0, 0), [], 1, 1), (279, .iadd, 1, (0, 0, 0), [], 21, 0), (280, .iaload, 1, (0, 0, 0), [], 35, 0), (281, .aload_n 0, 1, (0, 0, 0), [], 3, 0), (282, .iload_n 3, 1, (0, 0, 0), [], 2, 3), (283, .iconst 2, 1, (0, 0, 0), [], 1, 2), (284, .iadd, 1, (0, 0, 0), [], 21, 0), (285, .iaload, 1, (0, 0, 0), [], 35, 0), (286, .invokevirtual 28, 3, (0, 28, 0), [576], 40, 0)],
  [(289, .pop, 1, (0, 0, 0), [], 40, 0), (290, .aload_n 2, 1, (0, 0, 0), [], 3, 2), (291, .aload_n 0, 1, (0, 0, 0), [], 3, 0), (292, .iload_n 3, 1, (0, 0, 0), [], 2, 3), (293, .iconst 1, 1, (0, 0, 0), [], 1, 1), (294, .iadd, 1, (0, 0, 0), [], 21, 0), (295, .iaload, 1, (0, 0, 0), [], 35, 0), (296, .aload_n 0, 1, (0, 0, 0), [], 3, 0), (297, .iload_n 3, 1, (0, 0, 0), [], 2, 3), (298, .iconst 2, 1, (0, 0, 0), [], 1, 2), (299, .iadd, 1, (0, 0, 0), [], 21, 0), (300, .iaload, 1, (0, 0, 0), [], 35, 0), (301, .invokevirtual 32, 3, (0, 30, 0), [1442], 40, 0)],
  [(304, .pop, 1, (0, 0, 0), [], 40, 0), (305, .goto 902, 3, (0, 0, 0), [], 8, 1207), (308, .aload_n 1, 1, (0, 0, 0), [], 3, 1), (309, .aload_n 0, 1, (0, 0, 0), [], 3, 0), (310, .iload_n 3, 1, (0, 0, 0), [], 2, 3), (311, .iconst 1, 1, (0, 0, 0), [], 1, 1), (312, .iadd, 1, (0, 0, 0), [], 21, 0), (313, .iaload, 1, (0, 0, 0), [], 35, 0), (314, .aload_n 0, 1, (0, 0, 0), [], 3, 0), (315, .iload_n 3, 1, (0, 0, 0), [], 2, 3), (316, .iconst 2, 1, (0, 0, 0), [], 1, 2), (317, .iadd, 1, (0, 0, 0), [], 21, 0), (318, .iaload, 1, (0, 0, 0), [], 35, 0), (319, .aload_n 0, 1, (0, 0, 0), [], 3, 0)],
  [(320, .iload_n 3, 1, (0, 0, 0), [], 2, 3), (321, .iconst 3, 1, (0, 0, 0), [], 1, 3), (322, .iadd, 1, (0, 0, 0), [], 21, 0), (323, .iaload, 1, (0, 0, 0), [], 35, 0), (324, .invokevirtual 33, 3, (0, 32, 0), [584], 40, 0), (327, .pop, 1, (0, 0, 0), [], 40, 0), (328, .aload_n 2, 1, (0, 0, 0), [], 3, 2), (329, .aload_n 0, 1, (0, 0, 0), [], 3, 0), (330, .iload_n 3, 1, (0, 0, 0), [], 2, 3), (331, .iconst 1, 1, (0, 0, 0), [], 1, 1), (332, .iadd, 1, (0, 0, 0), [], 21, 0), (333, .iaload, 1, (0, 0, 0), [], 35, 0), (334, .aload_n 0, 1, (0, 0, 0), [], 3, 0), (335, .iload_n 3, 1, (0, 0, 0), [], 2, 3)],
  [(336, .iconst 2, 1, (0, 0, 0), [], 1, 2), (337, .iadd, 1, (0, 0, 0), [], 21, 0), (338, .iaload, 1, (0, 0, 0), [], 35, 0), (339, .aload_n 0, 1, (0, 0, 0), [], 3, 0), (340, .iload_n 3, 1, (0, 0, 0), [], 2, 3), (341, .iconst 3, 1, (0, 0, 0), [], 1, 3), (342, .iadd, 1, (0, 0, 0), [], 21, 0), (343, .iaload, 1, (0, 0, 0), [], 35, 0), (344, .invokevirtual 36, 3, (0, 34, 0), [1447], 40, 0), (347, .pop, 1, (0, 0, 0), [], 40, 0), (348, .goto 859, 3, (0, 0, 0), [], 8, 1207), (351, .aload_n 1, 1, (0, 0, 0), [], 3, 1)],
  [(352, .aload_n 0, 1, (0, 0, 0), [], 3, 0), (353, .iload_n 3, 1, (0, 0, 0), [], 2, 3), (354, .iconst 1, 1, (0, 0, 0), [], 1, 1), (355, .iadd, 1, (0, 0, 0), [], 21, 0), (356, .iaload, 1, (0, 0, 0), [], 35, 0), (357, .aload_n 0, 1, (0, 0, 0), [], 3, 0), (358, .iload_n 3, 1, (0, 0, 0), [], 2, 3), (359, .iconst 2, 1, (0, 0, 0), [], 1, 2), (360, .iadd, 1, (0, 0, 0), [], 21, 0), (361, .iaload, 1, (0, 0, 0), [], 35, 0), (362, .aload_n 0, 1, (0, 0, 0), [], 3, 0), (363, .iload_n 3, 1, (0, 0, 0), [], 2, 3), (364, .iconst 3, 1, (0, 0, 0), [], 1, 3), (365, .iadd, 1, (0, 0, 0), [], 21, 0), (366, .iaload, 1, (0, 0, 0), [], 35, 0), (367, .invokevirtual 37, 3, (0, 35, 0), [592], 40, 0)],
  [(370, .pop, 1, (0, 0, 0), [], 40, 0), (371, .aload_n 2, 1, (0, 0, 0), [], 3, 2), (372, .aload_n 0, 1, (0, 0, 0), [], 3, 0), (373, .iload_n 3, 1, (0, 0, 0), [], 2, 3), (374, .iconst 1, 1, (0, 0, 0), [], 1, 1), (375, .iadd, 1, (0, 0, 0), [], 21, 0), (376, .iaload, 1, (0, 0, 0), [], 35, 0), (377, .aload_n 0, 1, (0, 0, 0), [], 3, 0), (378, .iload_n 3, 1, (0, 0, 0), [], 2, 3), (379, .iconst 2, 1, (0, 0, 0), [], 1, 2), (380, .iadd, 1, (0, 0, 0), [], 21, 0), (381, .iaload, 1, (0, 0, 0), [], 35, 0), (382, .aload_n 0, 1, (0, 0, 0), [], 3, 0), (383, .iload_n 3, 1, (0, 0, 0), [], 2, 3)],
  [(384, .iconst 3, 1, (0, 0, 0), [], 1, 3), (385, .iadd, 1, (0, 0, 0), [], 21, 0), (386, .iaload, 1, (0, 0, 0), [], 35, 0), (387, .invokevirtual 40, 3, (0, 39, 0), [1452], 40, 0), (390, .pop, 1, (0, 0, 0), [], 40, 0), (391, .goto 816, 3, (0, 0, 0), [], 8, 1207), (394, .aload_n 1, 1, (0, 0, 0), [], 3, 1), (395, .aload_n 0, 1, (0, 0, 0), [], 3, 0), (396, .iload_n 3, 1, (0, 0, 0), [], 2, 3), (397, .iconst 1, 1, (0, 0, 0), [], 1, 1), (398, .iadd, 1, (0, 0, 0), [], 21, 0), (399, .iaload, 1, (0, 0, 0), [], 35, 0)],
  [(400, .aload_n 0, 1, (0, 0, 0), [], 3, 0), (401, .iload_n 3, 1, (0, 0, 0), [], 2, 3), (402, .iconst 2, 1, (0, 0, 0), [], 1, 2), (403, .iadd, 1, (0, 0, 0), [], 21, 0), (404, .iaload, 1, (0, 0, 0), [], 35, 0), (405, .aload_n 0, 1, (0, 0, 0), [], 3, 0), (406, .iload_n 3, 1, (0, 0, 0), [], 2, 3), (407, .iconst 3, 1, (0, 0, 0), [], 1, 3), (408, .iadd, 1, (0, 0, 0), [], 21, 0), (409, .iaload, 1, (0, 0, 0), [], 35, 0), (410, .aload_n 0, 1, (0, 0, 0), [], 3, 0), (411, .iload_n 3, 1, (0, 0, 0), [], 2, 3), (412, .iconst 4, 1, (0, 0, 0), [], 1, 4), (413, .iadd, 1, (0, 0, 0), [], 21, 0), (414, .iaload, 1, (0, 0, 0), [], 35, 0), (415, .invokevirtual 41, 3, (0, 41, 0), [608], 40, 0)],
  [(418, .pop, 1, (0, 0, 0), [], 40, 0), (419, .aload_n 2, 1, (0, 0, 0), [], 3, 2), (420, .aload_n 0, 1, (0, 0, 0), [], 3, 0), (421, .iload_n 3, 1, (0, 0, 0), [], 2, 3), (422, .iconst 1, 1, (0, 0, 0), [], 1, 1), (423, .iadd, 1, (0, 0, 0), [], 21, 0), (424, .iaload, 1, (0, 0, 0), [], 35, 0), (425, .aload_n 0, 1, (0, 0, 0), [], 3, 0), (426, .iload_n 3, 1, (0, 0, 0), [], 2, 3), (427, .iconst 2, 1, (0, 0, 0), [], 1, 2), (428, .iadd, 1, (0, 0, 0), [], 21, 0), (429, .iaload, 1, (0, 0, 0), [], 35, 0), (430, .aload_n 0, 1, (0, 0, 0), [], 3, 0), (431, .iload_n 3, 1, (0, 0, 0), [], 2, 3)],
  [(432, .iconst 3, 1, (0, 0, 0), [], 1, 3), (433, .iadd, 1, (0, 0, 0), [], 21, 0), (434, .iaload, 1, (0, 0, 0), [], 35, 0), (435, .aload_n 0, 1, (0, 0, 0), [], 3, 0), (436, .iload_n 3, 1, (0, 0, 0), [], 2, 3), (437, .iconst 4, 1, (0, 0, 0), [], 1, 4), (438, .iadd, 1, (0, 0, 0), [], 21, 0), (439, .iaload, 1, (0, 0, 0), [], 35, 0), (440, .invokevirtual 45, 3, (0, 43, 0), [1463], 40, 0), (443, .pop, 1, (0, 0, 0), [], 40, 0), (444, .goto 763, 3, (0, 0, 0), [], 8, 1207), (447, .aload_n 1, 1, (0, 0, 0), [], 3, 1)],
  [(448, .aload_n 0, 1, (0, 0, 0), [], 3, 0), (449, .iload_n 3, 1, (0, 0, 0), [], 2, 3), (450, .iconst 1, 1, (0, 0, 0), [], 1, 1), (451, .iadd, 1, (0, 0, 0), [], 21, 0), (452, .iaload, 1, (0, 0, 0), [], 35, 0), (453, .aload_n 0, 1, (0, 0, 0), [], 3, 0), (454, .iload_n 3, 1, (0, 0, 0), [], 2, 3), (455, .iconst 2, 1, (0, 0, 0), [], 1, 2), (456, .iadd, 1, (0, 0, 0), [], 21, 0), (457, .iaload, 1, (0, 0, 0), [], 35, 0), (458, .invokevirtual 46, 3, (0, 44, 0), [616], 40, 0), (461, .pop, 1, (0, 0, 0), [], 40, 0), (462, .aload_n 2, 1, (0, 0, 0), [], 3, 2), (463, .aload_n 0, 1, (0, 0, 0), [], 3, 0)],
  [(464, .iload_n 3, 1, (0, 0, 0), [], 2, 3), (465, .iconst 1, 1, (0, 0, 0), [], 1, 1), (466, .iadd, 1, (0, 0, 0), [], 21, 0), (467, .iaload, 1, (0, 0, 0), [], 35, 0), (468, .aload_n 0, 1, (0, 0, 0), [], 3, 0), (469, .iload_n 3, 1, (0, 0, 0), [], 2, 3), (470, .iconst 2, 1, (0, 0, 0), [], 1, 2), (471, .iadd, 1, (0, 0, 0), [], 21, 0), (472, .iaload, 1, (0, 0, 0), [], 35, 0), (473, .invokevirtual 49, 3, (0, 47, 0), [1467], 40, 0), (476, .pop, 1, (0, 0, 0), [], 40, 0), (477, .goto 730, 3, (0, 0, 0), [], 8, 1207)],
  [(480, .aload_n 1, 1, (0, 0, 0), [], 3, 1), (481, .aload_n 0, 1, (0, 0, 0), [], 3, 0), (482, .iload_n 3, 1, (0, 0, 0), [], 2, 3), (483, .iconst 1, 1, (0, 0, 0), [], 1, 1), (484, .iadd, 1, (0, 0, 0), [], 21, 0), (485, .iaload, 1, (0, 0, 0), [], 35, 0), (486, .aload_n 0, 1, (0, 0, 0), [], 3, 0), (487, .iload_n 3, 1, (0, 0, 0), [], 2, 3), (488, .iconst 2, 1, (0, 0, 0), [], 1, 2), (489, .iadd, 1, (0, 0, 0), [], 21, 0), (490, .iaload, 1, (0, 0, 0), [], 35, 0), (491, .invokevirtual 50, 3, (0, 49, 0), [628], 40, 0), (494, .pop, 1, (0, 0, 0), [], 40, 0), (495, .aload_n 2, 1, (0, 0, 0), [], 3, 2)],
  [(496, .aload_n 0, 1, (0, 0, 0), [], 3, 0), (497, .iload_n 3, 1, (0, 0, 0), [], 2, 3), (498, .iconst 1, 1, (0, 0, 0), [], 1, 1), (499, .iadd, 1, (0, 0, 0), [], 21, 0), (500, .iaload, 1, (0, 0, 0), [], 35, 0), (501, .aload_n 0, 1, (0, 0, 0), [], 3, 0), (502, .iload_n 3, 1, (0, 0, 0), [], 2, 3), (503, .iconst 2, 1, (0, 0, 0), [], 1, 2), (504, .iadd, 1, (0, 0, 0), [], 21, 0), (505, .iaload, 1, (0, 0, 0), [], 35, 0), (506, .invokevirtual 53, 3, (0, 50, 0), [1476], 40, 0), (509, .pop, 1, (0, 0, 0), [], 40, 0), (510, .goto 697, 3, (0, 0, 0), [], 8, 1207)],
  [(513, .aload_n 1, 1, (0, 0, 0), [], 3, 1), (514, .aload_n 0, 1, (0, 0, 0), [], 3, 0), (515, .iload_n 3, 1, (0, 0, 0), [], 2, 3), (516, .iconst 1, 1, (0, 0, 0), [], 1, 1), (517, .iadd, 1, (0, 0, 0), [], 21, 0), (518, .iaload, 1, (0, 0, 0), [], 35, 0), (519, .aload_n 0, 1, (0, 0, 0), [], 3, 0), (520, .iload_n 3, 1, (0, 0, 0), [], 2, 3), (521, .iconst 2, 1, (0, 0, 0), [], 1, 2), (522, .iadd, 1, (0, 0, 0), [], 21, 0), (523, .iaload, 1, (0, 0, 0), [], 35, 0), (524, .invokevirtual 54, 3, (0, 51, 0), [632], 40, 0), (527, .pop, 1, (0, 0, 0), [], 40, 0)],
  [(528, .aload_n 2, 1, (0, 0, 0), [], 3, 2), (529, .aload_n 0, 1, (0, 0, 0), [], 3, 0), (530, .iload_n 3, 1, (0, 0, 0), [], 2, 3), (531, .iconst 1, 1, (0, 0, 0), [], 1, 1), (532, .iadd, 1, (0, 0, 0), [], 21, 0), (533, .iaload, 1, (0, 0, 0), [], 35, 0), (534, .aload_n 0, 1, (0, 0, 0), [], 3, 0), (535, .iload_n 3, 1, (0, 0, 0), [], 2, 3), (536, .iconst 2, 1, (0, 0, 0), [], 1, 2), (537, .iadd, 1, (0, 0, 0), [], 21, 0), (538, .iaload, 1, (0, 0, 0), [], 35, 0), (539, .invokevirtual 57, 3, (0, 53, 0), [1480], 40, 0), (542, .pop, 1, (0, 0, 0), [], 40, 0), (543, .goto 664, 3, (0, 0, 0), [], 8, 1207)],
  [(546, .aload_n 1, 1, (0, 0, 0), [], 3, 1), (547, .aload_n 0, 1, (0, 0, 0), [], 3, 0), (548, .iload_n 3, 1, (0, 0, 0), [], 2, 3), (549, .iconst 1, 1, (0, 0, 0), [], 1, 1), (550, .iadd, 1, (0, 0, 0), [], 21, 0), (551, .iaload, 1, (0, 0, 0), [], 35, 0), (552, .aload_n 0, 1, (0, 0, 0), [], 3, 0), (553, .iload_n 3, 1, (0, 0, 0), [], 2, 3), (554, .iconst 2, 1, (0, 0, 0), [], 1, 2), (555, .iadd, 1, (0, 0, 0), [], 21, 0), (556, .iaload, 1, (0, 0, 0), [], 35, 0), (557, .i2l, 1, (0, 0, 0), [], 24, 0), (558, .bipush 32, 2, (0, 0, 0), [], 1, 32)],
  [(560, .lshl, 1, (0, 0, 0), [], 40, 0), (561, .aload_n 0, 1, (0, 0, 0), [], 3, 0), (562, .iload_n 3, 1, (0, 0, 0), [], 2, 3), (563, .iconst 3, 1, (0, 0, 0), [], 1, 3), (564, .iadd, 1, (0, 0, 0), [], 21, 0), (565, .iaload, 1, (0, 0, 0), [], 35, 0), (566, .i2l, 1, (0, 0, 0), [], 24, 0), (567, .ldc2_w 58, 3, (0, 0, 4294967295), [1910], 28, 4294967295), (570, .land, 1, (0, 0, 0), [], 40, 0), (571, .lor, 1, (0, 0, 0), [], 40, 0), (572, .aload_n 0, 1, (0, 0, 0), [], 3, 0), (573, .iload_n 3, 1, (0, 0, 0), [], 2, 3), (574, .iconst 4, 1, (0, 0, 0), [], 1, 4), (575, .iadd, 1, (0, 0, 0), [], 21, 0)],
  [(576, .iaload, 1, (0, 0, 0), [], 35, 0), (577, .invokevirtual 60, 3, (0, 54, 0), [640], 40, 0), (580, .pop, 1, (0, 0, 0), [], 40, 0), (581, .aload_n 2, 1, (0, 0, 0), [], 3, 2), (582, .aload_n 0, 1, (0, 0, 0), [], 3, 0), (583, .iload_n 3, 1, (0, 0, 0), [], 2, 3), (584, .iconst 1, 1, (0, 0, 0), [], 1, 1), (585, .iadd, 1, (0, 0, 0), [], 21, 0), (586, .iaload, 1, (0, 0, 0), [], 35, 0), (587, .aload_n 0, 1, (0, 0, 0), [], 3, 0), (588, .iload_n 3, 1, (0, 0, 0), [], 2, 3), (589, .iconst 2, 1, (0, 0, 0), [], 1, 2), (590, .iadd, 1, (0, 0, 0), [], 21, 0), (591, .iaload, 1, (0, 0, 0), [], 35, 0)],
  [(592, .i2l, 1, (0, 0, 0), [], 24, 0), (593, .bipush 32, 2, (0, 0, 0), [], 1, 32), (595, .lshl, 1, (0, 0, 0), [], 40, 0), (596, .aload_n 0, 1, (0, 0, 0), [], 3, 0), (597, .iload_n 3, 1, (0, 0, 0), [], 2, 3), (598, .iconst 3, 1, (0, 0, 0), [], 1, 3), (599, .iadd, 1, (0, 0, 0), [], 21, 0), (600, .iaload, 1, (0, 0, 0), [], 35, 0), (601, .i2l, 1, (0, 0, 0), [], 24, 0), (602, .ldc2_w 58, 3, (0, 0, 4294967295), [1910], 28, 4294967295), (605, .land, 1, (0, 0, 0), [], 40, 0), (606, .lor, 1, (0, 0, 0), [], 40, 0), (607, .aload_n 0, 1, (0, 0, 0), [], 3, 0)],
  [(608, .iload_n 3, 1, (0, 0, 0), [], 2, 3), (609, .iconst 4, 1, (0, 0, 0), [], 1, 4), (610, .iadd, 1, (0, 0, 0), [], 21, 0), (611, .iaload, 1, (0, 0, 0), [], 35, 0), (612, .invokevirtual 64, 3, (0, 56, 0), [1485], 40, 0), (615, .pop, 1, (0, 0, 0), [], 40, 0), (616, .goto 591, 3, (0, 0, 0), [], 8, 1207), (619, .aload_n 1, 1, (0, 0, 0), [], 3, 1), (620, .aload_n 0, 1, (0, 0, 0), [], 3, 0), (621, .iload_n 3, 1, (0, 0, 0), [], 2, 3), (622, .iconst 1, 1, (0, 0, 0), [], 1, 1), (623, .iadd, 1, (0, 0, 0), [], 21, 0)],
  [(624, .iaload, 1, (0, 0, 0), [], 35, 0), (625, .invokevirtual 65, 3, (0, 58, 0), [648], 40, 0), (628, .pop, 1, (0, 0, 0), [], 40, 0), (629, .aload_n 2, 1, (0, 0, 0), [], 3, 2), (630, .aload_n 0, 1, (0, 0, 0), [], 3, 0), (631, .iload_n 3, 1, (0, 0, 0), [], 2, 3), (632, .iconst 1, 1, (0, 0, 0), [], 1, 1), (633, .iadd, 1, (0, 0, 0), [], 21, 0), (634, .iaload, 1, (0, 0, 0), [], 35, 0), (635, .invokevirtual 68, 3, (0, 59, 0), [1494], 40, 0), (638, .pop, 1, (0, 0, 0), [], 40, 0), (639, .goto 568, 3, (0, 0, 0), [], 8, 1207)],
  [(642, .aload_n 1, 1, (0, 0, 0), [], 3, 1), (643, .aload_n 0, 1, (0, 0, 0), [], 3, 0), (644, .iload_n 3, 1, (0, 0, 0), [], 2, 3), (645, .iconst 1, 1, (0, 0, 0), [], 1, 1), (646, .iadd, 1, (0, 0, 0), [], 21, 0), (647, .iaload, 1, (0, 0, 0), [], 35, 0), (648, .invokevirtual 69, 3, (0, 60, 0), [653], 40, 0), (651, .pop, 1, (0, 0, 0), [], 40, 0), (652, .aload_n 2, 1, (0, 0, 0), [], 3, 2), (653, .aload_n 0, 1, (0, 0, 0), [], 3, 0), (654, .iload_n 3, 1, (0, 0, 0), [], 2, 3), (655, .iconst 1, 1, (0, 0, 0), [], 1, 1)],
  [(656, .iadd, 1, (0, 0, 0), [], 21, 0), (657, .iaload, 1, (0, 0, 0), [], 35, 0), (658, .invokevirtual 72, 3, (0, 63, 0), [1498], 40, 0), (661, .pop, 1, (0, 0, 0), [], 40, 0), (662, .goto 545, 3, (0, 0, 0), [], 8, 1207), (665, .aload_n 1, 1, (0, 0, 0), [], 3, 1), (666, .invokevirtual 73, 3, (0, 67, 0), [771], 40, 0), (669, .pop, 1, (0, 0, 0), [], 40, 0), (670, .aload_n 2, 1, (0, 0, 0), [], 3, 2), (671, .invokevirtual 76, 3, (0, 71, 0), [1547], 40, 0)],
  [(674, .pop, 1, (0, 0, 0), [], 40, 0), (675, .goto 532, 3, (0, 0, 0), [], 8, 1207), (678, .aload_n 1, 1, (0, 0, 0), [], 3, 1), (679, .aload_n 0, 1, (0, 0, 0), [], 3, 0), (680, .iload_n 3, 1, (0, 0, 0), [], 2, 3), (681, .iconst 1, 1, (0, 0, 0), [], 1, 1), (682, .iadd, 1, (0, 0, 0), [], 21, 0), (683, .iaload, 1, (0, 0, 0), [], 35, 0), (684, .invokevirtual 77, 3, (0, 72, 0), [804], 40, 0), (687, .pop, 1, (0, 0, 0), [], 40, 0)],
  [(688, .aload_n 2, 1, (0, 0, 0), [], 3, 2), (689, .aload_n 0, 1, (0, 0, 0), [], 3, 0), (690, .iload_n 3, 1, (0, 0, 0), [], 2, 3), (691, .iconst 1, 1, (0, 0, 0), [], 1, 1), (692, .iadd, 1, (0, 0, 0), [], 21, 0), (693, .iaload, 1, (0, 0, 0), [], 35, 0), (694, .invokevirtual 80, 3, (0, 77, 0), [1568], 40, 0), (697, .pop, 1, (0, 0, 0), [], 40, 0), (698, .goto 509, 3, (0, 0, 0), [], 8, 1207), (701, .aload_n 1, 1, (0, 0, 0), [], 3, 1), (702, .aload_n 0, 1, (0, 0, 0), [], 3, 0), (703, .iload_n 3, 1, (0, 0, 0), [], 2, 3)],
  [(704, .iconst 1, 1, (0, 0, 0), [], 1, 1), (705, .iadd, 1, (0, 0, 0), [], 21, 0), (706, .iaload, 1, (0, 0, 0), [], 35, 0), (707, .aload_n 0, 1, (0, 0, 0), [], 3, 0), (708, .iload_n 3, 1, (0, 0, 0), [], 2, 3), (709, .iconst 2, 1, (0, 0, 0), [], 1, 2), (710, .iadd, 1, (0, 0, 0), [], 21, 0), (711, .iaload, 1, (0, 0, 0), [], 35, 0), (712, .aload_n 0, 1, (0, 0, 0), [], 3, 0), (713, .iload_n 3, 1, (0, 0, 0), [], 2, 3), (714, .iconst 3, 1, (0, 0, 0), [], 1, 3), (715, .iadd, 1, (0, 0, 0), [], 21, 0), (716, .iaload, 1, (0, 0, 0), [], 35, 0), (717, .invokevirtual 81, 3, (0, 80, 0), [900], 40, 0)],
  [(720, .pop, 1, (0, 0, 0), [], 40, 0), (721, .aload_n 2, 1, (0, 0, 0), [], 3, 2), (722, .aload_n 0, 1, (0, 0, 0), [], 3, 0), (723, .iload_n 3, 1, (0, 0, 0), [], 2, 3), (724, .iconst 1, 1, (0, 0, 0), [], 1, 1), (725, .iadd, 1, (0, 0, 0), [], 21, 0), (726, .iaload, 1, (0, 0, 0), [], 35, 0), (727, .aload_n 0, 1, (0, 0, 0), [], 3, 0), (728, .iload_n 3, 1, (0, 0, 0), [], 2, 3), (729, .iconst 2, 1, (0, 0, 0), [], 1, 2), (730, .iadd, 1, (0, 0, 0), [], 21, 0), (731, .iaload, 1, (0, 0, 0), [], 35, 0), (732, .aload_n 0, 1, (0, 0, 0), [], 3, 0), (733, .iload_n 3, 1, (0, 0, 0), [], 2, 3), (734, .iconst 3, 1, (0, 0, 0), [], 1, 3), (735, .iadd, 1, (0, 0, 0), [], 21, 0)],
  [(736, .iaload, 1, (0, 0, 0), [], 35, 0), (737, .invokevirtual 84, 3, (0, 81, 0), [1665], 40, 0), (740, .pop, 1, (0, 0, 0), [], 40, 0), (741, .goto 466, 3, (0, 0, 0), [], 8, 1207), (744, .aload_n 1, 1, (0, 0, 0), [], 3, 1), (745, .aload_n 0, 1, (0, 0, 0), [], 3, 0), (746, .iload_n 3, 1, (0, 0, 0), [], 2, 3), (747, .iconst 1, 1, (0, 0, 0), [], 1, 1), (748, .iadd, 1, (0, 0, 0), [], 21, 0), (749, .iaload, 1, (0, 0, 0), [], 35, 0), (750, .invokevirtual 85, 3, (0, 83, 0), [907], 40, 0)],
  [(753, .pop, 1, (0, 0, 0), [], 40, 0), (754, .aload_n 2, 1, (0, 0, 0), [], 3, 2), (755, .aload_n 0, 1, (0, 0, 0), [], 3, 0), (756, .iload_n 3, 1, (0, 0, 0), [], 2, 3), (757, .iconst 1, 1, (0, 0, 0), [], 1, 1), (758, .iadd, 1, (0, 0, 0), [], 21, 0), (759, .iaload, 1, (0, 0, 0), [], 35, 0), (760, .invokevirtual 88, 3, (0, 84, 0), [1670], 40, 0), (763, .pop, 1, (0, 0, 0), [], 40, 0), (764, .goto 443, 3, (0, 0, 0), [], 8, 1207), (767, .aload_n 1, 1, (0, 0, 0), [], 3, 1)],
  [(768, .aload_n 0, 1, (0, 0, 0), [], 3, 0), (769, .iload_n 3, 1, (0, 0, 0), [], 2, 3), (770, .iconst 1, 1, (0, 0, 0), [], 1, 1), (771, .iadd, 1, (0, 0, 0), [], 21, 0), (772, .iaload, 1, (0, 0, 0), [], 35, 0), (773, .aload_n 0, 1, (0, 0, 0), [], 3, 0), (774, .iload_n 3, 1, (0, 0, 0), [], 2, 3), (775, .iconst 2, 1, (0, 0, 0), [], 1, 2), (776, .iadd, 1, (0, 0, 0), [], 21, 0), (777, .iaload, 1, (0, 0, 0), [], 35, 0), (778, .invokevirtual 89, 3, (0, 85, 0), [912], 40, 0), (781, .pop, 1, (0, 0, 0), [], 40, 0), (782, .aload_n 2, 1, (0, 0, 0), [], 3, 2), (783, .aload_n 0, 1, (0, 0, 0), [], 3, 0)],
  [(784, .iload_n 3, 1, (0, 0, 0), [], 2, 3), (785, .iconst 1, 1, (0, 0, 0), [], 1, 1), (786, .iadd, 1, (0, 0, 0), [], 21, 0), (787, .iaload, 1, (0, 0, 0), [], 35, 0), (788, .aload_n 0, 1, (0, 0, 0), [], 3, 0), (789, .iload_n 3, 1, (0, 0, 0), [], 2, 3), (790, .iconst 2, 1, (0, 0, 0), [], 1, 2), (791, .iadd, 1, (0, 0, 0), [], 21, 0), (792, .iaload, 1, (0, 0, 0), [], 35, 0), (793, .invokevirtual 92, 3, (0, 87, 0), [1674], 40, 0), (796, .pop, 1, (0, 0, 0), [], 40, 0), (797, .goto 410, 3, (0, 0, 0), [], 8, 1207)],
  [(800, .aload_n 1, 1, (0, 0, 0), [], 3, 1), (801, .aload_n 0, 1, (0, 0, 0), [], 3, 0), (802, .iload_n 3, 1, (0, 0, 0), [], 2, 3), (803, .iconst 1, 1, (0, 0, 0), [], 1, 1), (804, .iadd, 1, (0, 0, 0), [], 21, 0), (805, .iaload, 1, (0, 0, 0), [], 35, 0), (806, .aload_n 0, 1, (0, 0, 0), [], 3, 0), (807, .iload_n 3, 1, (0, 0, 0), [], 2, 3), (808, .iconst 2, 1, (0, 0, 0), [], 1, 2), (809, .iadd, 1, (0, 0, 0), [], 21, 0), (810, .iaload, 1, (0, 0, 0), [], 35, 0), (811, .invokevirtual 93, 3, (0, 89, 0), [929], 40, 0), (814, .aload_n 2, 1, (0, 0, 0), [], 3, 2), (815, .aload_n 0, 1, (0, 0, 0), [], 3, 0)],
  [(816, .iload_n 3, 1, (0, 0, 0), [], 2, 3), (817, .iconst 1, 1, (0, 0, 0), [], 1, 1), (818, .iadd, 1, (0, 0, 0), [], 21, 0), (819, .iaload, 1, (0, 0, 0), [], 35, 0), (820, .aload_n 0, 1, (0, 0, 0), [], 3, 0), (821, .iload_n 3, 1, (0, 0, 0), [], 2, 3), (822, .iconst 2, 1, (0, 0, 0), [], 1, 2), (823, .iadd, 1, (0, 0, 0), [], 21, 0), (824, .iaload, 1, (0, 0, 0), [], 35, 0), (825, .invokevirtual 96, 3, (0, 90, 0), [1688], 40, 0), (828, .if_icmp .eq 379, 3, (0, 0, 0), [], 15, 1207), (831, .iconst 0, 1, (0, 0, 0), [], 1, 0)],
  [(832, .ireturn, 1, (0, 0, 0), [], 40, 0), (833, .aload_n 1, 1, (0, 0, 0), [], 3, 1), (834, .aload_n 0, 1, (0, 0, 0), [], 3, 0), (835, .iload_n 3, 1, (0, 0, 0), [], 2, 3), (836, .iconst 1, 1, (0, 0, 0), [], 1, 1), (837, .iadd, 1, (0, 0, 0), [], 21, 0), (838, .iaload, 1, (0, 0, 0), [], 35, 0), (839, .aload_n 0, 1, (0, 0, 0), [], 3, 0), (840, .iload_n 3, 1, (0, 0, 0), [], 2, 3), (841, .iconst 2, 1, (0, 0, 0), [], 1, 2), (842, .iadd, 1, (0, 0, 0), [], 21, 0), (843, .iaload, 1, (0, 0, 0), [], 35, 0), (844, .aload_n 0, 1, (0, 0, 0), [], 3, 0), (845, .iload_n 3, 1, (0, 0, 0), [], 2, 3), (846, .iconst 3, 1, (0, 0, 0), [], 1, 3), (847, .iadd, 1, (0, 0, 0), [], 21, 0)],
  [(848, .iaload, 1, (0, 0, 0), [], 35, 0), (849, .invokevirtual 97, 3, (0, 91, 0), [937], 40, 0), (852, .pop, 1, (0, 0, 0), [], 40, 0), (853, .aload_n 2, 1, (0, 0, 0), [], 3, 2), (854, .aload_n 0, 1, (0, 0, 0), [], 3, 0), (855, .iload_n 3, 1, (0, 0, 0), [], 2, 3), (856, .iconst 1, 1, (0, 0, 0), [], 1, 1), (857, .iadd, 1, (0, 0, 0), [], 21, 0), (858, .iaload, 1, (0, 0, 0), [], 35, 0), (859, .aload_n 0, 1, (0, 0, 0), [], 3, 0), (860, .iload_n 3, 1, (0, 0, 0), [], 2, 3), (861, .iconst 2, 1, (0, 0, 0), [], 1, 2), (862, .iadd, 1, (0, 0, 0), [], 21, 0), (863, .iaload, 1, (0, 0, 0), [], 35, 0)],
  [(864, .aload_n 0, 1, (0, 0, 0), [], 3, 0), (865, .iload_n 3, 1, (0, 0, 0), [], 2, 3), (866, .iconst 3, 1, (0, 0, 0), [], 1, 3), (867, .iadd, 1, (0, 0, 0), [], 21, 0), (868, .iaload, 1, (0, 0, 0), [], 35, 0), (869, .invokevirtual 100, 3, (0, 92, 0), [1692], 40, 0), (872, .pop, 1, (0, 0, 0), [], 40, 0), (873, .goto 334, 3, (0, 0, 0), [], 8, 1207), (876, .aload_n 1, 1, (0, 0, 0), [], 3, 1), (877, .aload_n 0, 1, (0, 0, 0), [], 3, 0), (878, .iload_n 3, 1, (0, 0, 0), [], 2, 3), (879, .iconst 1, 1, (0, 0, 0), [], 1, 1)],
  [(880, .iadd, 1, (0, 0, 0), [], 21, 0), (881, .iaload, 1, (0, 0, 0), [], 35, 0), (882, .invokevirtual 101, 3, (0, 93, 0), [942], 40, 0), (885, .pop, 1, (0, 0, 0), [], 40, 0), (886, .aload_n 2, 1, (0, 0, 0), [], 3, 2), (887, .aload_n 0, 1, (0, 0, 0), [], 3, 0), (888, .iload_n 3, 1, (0, 0, 0), [], 2, 3), (889, .iconst 1, 1, (0, 0, 0), [], 1, 1), (890, .iadd, 1, (0, 0, 0), [], 21, 0), (891, .iaload, 1, (0, 0, 0), [], 35, 0), (892, .invokevirtual 104, 3, (0, 94, 0), [1697], 40, 0), (895, .pop, 1, (0, 0, 0), [], 40, 0)],
  [(896, .goto 311, 3, (0, 0, 0), [], 8, 1207), (899, .aload_n 1, 1, (0, 0, 0), [], 3, 1), (900, .invokevirtual 105, 3, (0, 95, 0), [951], 40, 0), (903, .pop, 1, (0, 0, 0), [], 40, 0), (904, .aload_n 2, 1, (0, 0, 0), [], 3, 2), (905, .invokevirtual 108, 3, (0, 96, 0), [1709], 40, 0), (908, .pop, 1, (0, 0, 0), [], 40, 0), (909, .goto 298, 3, (0, 0, 0), [], 8, 1207)],
  [(912, .aload_n 1, 1, (0, 0, 0), [], 3, 1), (913, .invokevirtual 109, 3, (0, 97, 0), [955], 40, 0), (916, .pop, 1, (0, 0, 0), [], 40, 0), (917, .aload_n 2, 1, (0, 0, 0), [], 3, 2), (918, .invokevirtual 112, 3, (0, 103, 0), [1713], 40, 0), (921, .pop, 1, (0, 0, 0), [], 40, 0), (922, .goto 285, 3, (0, 0, 0), [], 8, 1207), (925, .aload_n 1, 1, (0, 0, 0), [], 3, 1), (926, .invokevirtual 113, 3, (0, 107, 0), [1003], 40, 0)],
  [(929, .pop, 1, (0, 0, 0), [], 40, 0), (930, .aload_n 2, 1, (0, 0, 0), [], 3, 2), (931, .invokevirtual 116, 3, (0, 109, 0), [1733], 40, 0), (934, .pop, 1, (0, 0, 0), [], 40, 0), (935, .goto 272, 3, (0, 0, 0), [], 8, 1207), (938, .aload_n 1, 1, (0, 0, 0), [], 3, 1), (939, .invokevirtual 117, 3, (0, 111, 0), [1017], 40, 0), (942, .pop, 1, (0, 0, 0), [], 40, 0), (943, .aload_n 2, 1, (0, 0, 0), [], 3, 2)],
  [(944, .invokevirtual 120, 3, (0, 113, 0), [1745], 40, 0), (947, .pop, 1, (0, 0, 0), [], 40, 0), (948, .goto 259, 3, (0, 0, 0), [], 8, 1207), (951, .aload_n 1, 1, (0, 0, 0), [], 3, 1), (952, .aload_n 0, 1, (0, 0, 0), [], 3, 0), (953, .iload_n 3, 1, (0, 0, 0), [], 2, 3), (954, .iconst 1, 1, (0, 0, 0), [], 1, 1), (955, .iadd, 1, (0, 0, 0), [], 21, 0), (956, .iaload, 1, (0, 0, 0), [], 35, 0), (957, .invokevirtual 121, 3, (0, 114, 0), [1025], 40, 0)],
  [(960, .pop, 1, (0, 0, 0), [], 40, 0), (961, .aload_n 2, 1, (0, 0, 0), [], 3, 2), (962, .aload_n 0, 1, (0, 0, 0), [], 3, 0), (963, .iload_n 3, 1, (0, 0, 0), [], 2, 3), (964, .iconst 1, 1, (0, 0, 0), [], 1, 1), (965, .iadd, 1, (0, 0, 0), [], 21, 0), (966, .iaload, 1, (0, 0, 0), [], 35, 0), (967, .invokevirtual 124, 3, (0, 120, 0), [1757], 40, 0), (970, .pop, 1, (0, 0, 0), [], 40, 0), (971, .goto 236, 3, (0, 0, 0), [], 8, 1207), (974, .aload_n 1, 1, (0, 0, 0), [], 3, 1), (975, .aload_n 0, 1, (0, 0, 0), [], 3, 0)],
  [(976, .iload_n 3, 1, (0, 0, 0), [], 2, 3), (977, .iconst 1, 1, (0, 0, 0), [], 1, 1), (978, .iadd, 1, (0, 0, 0), [], 21, 0), (979, .iaload, 1, (0, 0, 0), [], 35, 0), (980, .invokevirtual 125, 3, (0, 125, 0), [1072], 40, 0), (983, .pop, 1, (0, 0, 0), [], 40, 0), (984, .aload_n 2, 1, (0, 0, 0), [], 3, 2), (985, .aload_n 0, 1, (0, 0, 0), [], 3, 0), (986, .iload_n 3, 1, (0, 0, 0), [], 2, 3), (987, .iconst 1, 1, (0, 0, 0), [], 1, 1), (988, .iadd, 1, (0, 0, 0), [], 21, 0), (989, .iaload, 1, (0, 0, 0), [], 35, 0), (990, .invokevirtual 128, 3, (0, 129, 0), [1777], 40, 0)],
  [(993, .pop, 1, (0, 0, 0), [], 40, 0), (994, .goto 213, 3, (0, 0, 0), [], 8, 1207), (997, .aload_n 1, 1, (0, 0, 0), [], 3, 1), (998, .invokevirtual 129, 3, (0, 134, 0), [1097], 40, 0), (1001, .pop, 1, (0, 0, 0), [], 40, 0), (1002, .aload_n 2, 1, (0, 0, 0), [], 3, 2), (1003, .invokevirtual 132, 3, (0, 136, 0), [1805], 40, 0), (1006, .pop, 1, (0, 0, 0), [], 40, 0), (1007, .goto 200, 3, (0, 0, 0), [], 8, 1207)],
  [(1010, .aload_n 1, 1, (0, 0, 0), [], 3, 1), (1011, .invokevirtual 133, 3, (0, 137, 0), [1135], 40, 0), (1014, .pop, 1, (0, 0, 0), [], 40, 0), (1015, .aload_n 2, 1, (0, 0, 0), [], 3, 2), (1016, .invokevirtual 136, 3, (0, 138, 0), [1837], 40, 0), (1019, .pop, 1, (0, 0, 0), [], 40, 0), (1020, .goto 187, 3, (0, 0, 0), [], 8, 1207), (1023, .aload_n 1, 1, (0, 0, 0), [], 3, 1)],
  [(1024, .invokevirtual 137, 3, (0, 139, 0), [1149], 40, 0), (1027, .pop, 1, (0, 0, 0), [], 40, 0), (1028, .aload_n 2, 1, (0, 0, 0), [], 3, 2), (1029, .invokevirtual 140, 3, (0, 145, 0), [1845], 40, 0), (1032, .pop, 1, (0, 0, 0), [], 40, 0), (1033, .goto 174, 3, (0, 0, 0), [], 8, 1207), (1036, .aload_n 1, 1, (0, 0, 0), [], 3, 1), (1037, .aload_n 0, 1, (0, 0, 0), [], 3, 0), (1038, .iload_n 3, 1, (0, 0, 0), [], 2, 3), (1039, .iconst 1, 1, (0, 0, 0), [], 1, 1)],
  [(1040, .iadd, 1, (0, 0, 0), [], 21, 0), (1041, .iaload, 1, (0, 0, 0), [], 35, 0), (1042, .invokevirtual 141, 3, (0, 151, 0), [1176], 40, 0), (1045, .pop, 1, (0, 0, 0), [], 40, 0), (1046, .aload_n 2, 1, (0, 0, 0), [], 3, 2), (1047, .aload_n 0, 1, (0, 0, 0), [], 3, 0), (1048, .iload_n 3, 1, (0, 0, 0), [], 2, 3), (1049, .iconst 1, 1, (0, 0, 0), [], 1, 1), (1050, .iadd, 1, (0, 0, 0), [], 21, 0), (1051, .iaload, 1, (0, 0, 0), [], 35, 0), (1052, .invokevirtual 144, 3, (0, 152, 0), [1868], 40, 0), (1055, .pop, 1, (0, 0, 0), [], 40, 0)],
  [(1056, .goto 151, 3, (0, 0, 0), [], 8, 1207), (1059, .aload_n 1, 1, (0, 0, 0), [], 3, 1), (1060, .aload_n 0, 1, (0, 0, 0), [], 3, 0), (1061, .iload_n 3, 1, (0, 0, 0), [], 2, 3), (1062, .iconst 1, 1, (0, 0, 0), [], 1, 1), (1063, .iadd, 1, (0, 0, 0), [], 21, 0), (1064, .iaload, 1, (0, 0, 0), [], 35, 0), (1065, .aload_n 0, 1, (0, 0, 0), [], 3, 0), (1066, .iload_n 3, 1, (0, 0, 0), [], 2, 3), (1067, .iconst 2, 1, (0, 0, 0), [], 1, 2), (1068, .iadd, 1, (0, 0, 0), [], 21, 0), (1069, .iaload, 1, (0, 0, 0), [], 35, 0), (1070, .aload_n 0, 1, (0, 0, 0), [], 3, 0), (1071, .iload_n 3, 1, (0, 0, 0), [], 2, 3)],
  [(1072, .iconst 3, 1, (0, 0, 0), [], 1, 3), (1073, .iadd, 1, (0, 0, 0), [], 21, 0), (1074, .iaload, 1, (0, 0, 0), [], 35, 0), (1075, .invokevirtual 145, 3, (0, 153, 0), [1186], 40, 0), (1078, .pop, 1, (0, 0, 0), [], 40, 0), (1079, .aload_n 2, 1, (0, 0, 0), [], 3, 2), (1080, .aload_n 0, 1, (0, 0, 0), [], 3, 0), (1081, .iload_n 3, 1, (0, 0, 0), [], 2, 3), (1082, .iconst 1, 1, (0, 0, 0), [], 1, 1), (1083, .iadd, 1, (0, 0, 0), [], 21, 0), (1084, .iaload, 1, (0, 0, 0), [], 35, 0), (1085, .aload_n 0, 1, (0, 0, 0), [], 3, 0), (1086, .iload_n 3, 1, (0, 0, 0), [], 2, 3), (1087, .iconst 2, 1, (0, 0, 0), [], 1, 2)],
  [(1088, .iadd, 1, (0, 0, 0), [], 21, 0), (1089, .iaload, 1, (0, 0, 0), [], 35, 0), (1090, .aload_n 0, 1, (0, 0, 0), [], 3, 0), (1091, .iload_n 3, 1, (0, 0, 0), [], 2, 3), (1092, .iconst 3, 1, (0, 0, 0), [], 1, 3), (1093, .iadd, 1, (0, 0, 0), [], 21, 0), (1094, .iaload, 1, (0, 0, 0), [], 35, 0), (1095, .invokevirtual 148, 3, (0, 154, 0), [1872], 40, 0), (1098, .pop, 1, (0, 0, 0), [], 40, 0), (1099, .goto 108, 3, (0, 0, 0), [], 8, 1207), (1102, .aload_n 1, 1, (0, 0, 0), [], 3, 1), (1103, .aload_n 0, 1, (0, 0, 0), [], 3, 0)],
  [(1104, .iload_n 3, 1, (0, 0, 0), [], 2, 3), (1105, .iconst 1, 1, (0, 0, 0), [], 1, 1), (1106, .iadd, 1, (0, 0, 0), [], 21, 0), (1107, .iaload, 1, (0, 0, 0), [], 35, 0), (1108, .invokevirtual 149, 3, (0, 155, 0), [1212], 40, 0), (1111, .pop2, 1, (0, 0, 0), [], 40, 0), (1112, .aload_n 2, 1, (0, 0, 0), [], 3, 2), (1113, .aload_n 0, 1, (0, 0, 0), [], 3, 0), (1114, .iload_n 3, 1, (0, 0, 0), [], 2, 3), (1115, .iconst 1, 1, (0, 0, 0), [], 1, 1), (1116, .iadd, 1, (0, 0, 0), [], 21, 0), (1117, .iaload, 1, (0, 0, 0), [], 35, 0), (1118, .invokevirtual 153, 3, (0, 156, 0), [1880], 40, 0)],
  [(1121, .pop2, 1, (0, 0, 0), [], 40, 0), (1122, .goto 85, 3, (0, 0, 0), [], 8, 1207), (1125, .aload_n 1, 1, (0, 0, 0), [], 3, 1), (1126, .aload_n 0, 1, (0, 0, 0), [], 3, 0), (1127, .iload_n 3, 1, (0, 0, 0), [], 2, 3), (1128, .iconst 1, 1, (0, 0, 0), [], 1, 1), (1129, .iadd, 1, (0, 0, 0), [], 21, 0), (1130, .iaload, 1, (0, 0, 0), [], 35, 0), (1131, .invokevirtual 154, 3, (0, 157, 0), [1217], 40, 0), (1134, .pop, 1, (0, 0, 0), [], 40, 0), (1135, .aload_n 2, 1, (0, 0, 0), [], 3, 2)],
  [(1136, .aload_n 0, 1, (0, 0, 0), [], 3, 0), (1137, .iload_n 3, 1, (0, 0, 0), [], 2, 3), (1138, .iconst 1, 1, (0, 0, 0), [], 1, 1), (1139, .iadd, 1, (0, 0, 0), [], 21, 0), (1140, .iaload, 1, (0, 0, 0), [], 35, 0), (1141, .invokevirtual 157, 3, (0, 158, 0), [1884], 40, 0), (1144, .pop, 1, (0, 0, 0), [], 40, 0), (1145, .goto 62, 3, (0, 0, 0), [], 8, 1207), (1148, .aload_n 1, 1, (0, 0, 0), [], 3, 1), (1149, .aload_n 0, 1, (0, 0, 0), [], 3, 0), (1150, .iload_n 3, 1, (0, 0, 0), [], 2, 3), (1151, .iconst 1, 1, (0, 0, 0), [], 1, 1)],
  [(1152, .iadd, 1, (0, 0, 0), [], 21, 0), (1153, .iaload, 1, (0, 0, 0), [], 35, 0), (1154, .invokevirtual 158, 3, (0, 159, 0), [1221], 40, 0), (1157, .pop, 1, (0, 0, 0), [], 40, 0), (1158, .aload_n 2, 1, (0, 0, 0), [], 3, 2), (1159, .aload_n 0, 1, (0, 0, 0), [], 3, 0), (1160, .iload_n 3, 1, (0, 0, 0), [], 2, 3), (1161, .iconst 1, 1, (0, 0, 0), [], 1, 1), (1162, .iadd, 1, (0, 0, 0), [], 21, 0), (1163, .iaload, 1, (0, 0, 0), [], 35, 0), (1164, .invokevirtual 161, 3, (0, 160, 0), [1888], 40, 0), (1167, .pop, 1, (0, 0, 0), [], 40, 0)],
  [(1168, .goto 39, 3, (0, 0, 0), [], 8, 1207), (1171, .aload_n 1, 1, (0, 0, 0), [], 3, 1), (1172, .aload_n 0, 1, (0, 0, 0), [], 3, 0), (1173, .iload_n 3, 1, (0, 0, 0), [], 2, 3), (1174, .iconst 1, 1, (0, 0, 0), [], 1, 1), (1175, .iadd, 1, (0, 0, 0), [], 21, 0), (1176, .iaload, 1, (0, 0, 0), [], 35, 0), (1177, .invokevirtual 162, 3, (0, 161, 0), [1225], 40, 0), (1180, .pop, 1, (0, 0, 0), [], 40, 0), (1181, .aload_n 2, 1, (0, 0, 0), [], 3, 2), (1182, .aload_n 0, 1, (0, 0, 0), [], 3, 0), (1183, .iload_n 3, 1, (0, 0, 0), [], 2, 3)],
  [(1184, .iconst 1, 1, (0, 0, 0), [], 1, 1), (1185, .iadd, 1, (0, 0, 0), [], 21, 0), (1186, .iaload, 1, (0, 0, 0), [], 35, 0), (1187, .invokevirtual 165, 3, (0, 163, 0), [1892], 40, 0), (1190, .pop, 1, (0, 0, 0), [], 40, 0), (1191, .goto 16, 3, (0, 0, 0), [], 8, 1207), (1194, .aload_n 1, 1, (0, 0, 0), [], 3, 1), (1195, .invokevirtual 166, 3, (0, 165, 0), [1233], 40, 0), (1198, .pop2, 1, (0, 0, 0), [], 40, 0), (1199, .aload_n 2, 1, (0, 0, 0), [], 3, 2)],
  [(1200, .invokevirtual 170, 3, (0, 170, 0), [1900], 40, 0), (1203, .pop2, 1, (0, 0, 0), [], 40, 0), (1204, .goto 3, 3, (0, 0, 0), [], 8, 1207), (1207, .iinc 3 5, 3, (3, 0, 5), [], 7, 5), (1210, .goto (-1192), 3, (0, 0, 0), [], 8, 18), (1213, .iconst 1, 1, (0, 0, 0), [], 1, 1), (1214, .ireturn, 1, (0, 0, 0), [], 40, 0)]])
theorem wk_L_len : (wk_Mx wk_mL).length = 76 := by decide +kernel
set_option maxRecDepth 100000 in
theorem wk_okLF : wq_sqs (wk_Mb wk_mL) (wq_f (wk_My wk_mL) 10 wk_mw) (wk_Mx wk_mL) 0 (wk_Mb wk_mL).data.toList = true := by decide +kernel
theorem wk_okLc : wq_cn 10 = (wk_My wk_mL).cls := by decide +kernel
theorem wk_L_ok : ∀ r ∈ wk_Mx wk_mL, ∀ row ∈ r, wk_okx wk_mt wk_mw (wk_My wk_mL) (wk_Mb wk_mL) row = true := by
  intro r hr row hrow
  obtain ⟨h7, h8⟩ := wq_sqs_ok (pc := 0) wk_okLF r hr row hrow
  obtain ⟨pc, i, n, x, wd, t, a⟩ := row
  unfold wq_f at h7
  simp only [Bool.and_eq_true] at h7
  unfold wk_okx
  simp only [Bool.and_eq_true, decide_eq_true_eq]
  exact ⟨h8, h7.1, wq_w_ok wk_okLc h7.2.1, h7.2.2⟩
end
