/-! ===== what each call of a day answers and writes, by the places of the book ===== -/
def fu_in (v : Int32) (lo hi : Int) : Bool := decide (lo ≤ v.toInt ∧ v.toInt ≤ hi)
abbrev fu_S : Type := Int32 × List (Nat × Int32)
theorem fu_tn {x : Nat} (h : x < 2147483648) : (Int32.ofNat x).toInt.toNat = x := by
  rw [kx_ti h]
  rfl
theorem fu_in_t {v : Int32} {lo hi : Int} (h : fu_in v lo hi = true) : lo ≤ v.toInt ∧ v.toInt ≤ hi := of_decide_eq_true h
theorem fu_in_n {v : Int32} {lo : Int} {u : Nat} {hi : Int} (h : fu_in v lo hi = true) (h0 : 0 ≤ lo) (hu : hi ≤ (u : Int)) : ∃ k : Nat, k ≤ u ∧ v = Int32.ofNat k ∧ lo ≤ (k : Int) ∧ (k : Int) ≤ hi := by
  have h1 := fu_in_t h
  obtain ⟨k, k1, k2, k3⟩ := ku_nat (a := v) (u := u) (by omega) (by omega)
  exact ⟨k, k1, k3, by omega, by omega⟩
def fu_door (B : Nat → Int32) : fu_S := if (B 0).toInt < 5 then (B 0 + Int32.ofNat 1, [(0, B 0 + Int32.ofNat 1)]) else (Int32.ofInt (-4), [])
def fu_way (B : Nat → Int32) (a b c : Int32) : fu_S := if (fu_in a 0 (B 0).toInt && (fu_in b 0 (B 0).toInt && (!decide (a.toInt = b.toInt) && fu_in c 1 99))) = true then (B (10 + 6 * a.toInt.toNat + b.toInt.toNat), [(10 + 6 * a.toInt.toNat + b.toInt.toNat, c), (10 + 6 * b.toInt.toNat + a.toInt.toNat, c)]) else (Int32.ofInt (-2), [])
def fu_ford (B : Nat → Int32) (a : Int32) : fu_S := if fu_in a 1 (B 0).toInt = true then (if (B (46 + a.toInt.toNat)).toInt = 1 then (Int32.ofInt (-3), []) else (Int32.ofNat 1, [(46 + a.toInt.toNat, Int32.ofNat 1)])) else (Int32.ofInt (-2), [])
def fu_stones (B : Nat → Int32) (a b : Int32) : fu_S := if (fu_in a 0 (B 0).toInt && fu_in b 0 9) = true then (B (52 + a.toInt.toNat), [(52 + a.toInt.toNat, b)]) else (Int32.ofInt (-2), [])
def fu_mule (B : Nat → Int32) (a b c : Int32) : fu_S := if (fu_in a 1 999 && (fu_in b 0 99 && fu_in c 0 99)) = true then (if (B 1).toInt < 3 then (B 1, [(60 + 5 * (B 1).toInt.toNat + 0, a), (60 + 5 * (B 1).toInt.toNat + 1, b), (60 + 5 * (B 1).toInt.toNat + 2, c), (60 + 5 * (B 1).toInt.toNat + 3, Int32.ofNat 999), (60 + 5 * (B 1).toInt.toNat + 4, Int32.ofNat 999), (1, B 1 + Int32.ofNat 1)]) else (Int32.ofInt (-4), [])) else (Int32.ofInt (-2), [])
def fu_lame (B : Nat → Int32) (a b c : Int32) : fu_S := if (fu_in a 0 ((B 1).toInt - 1) && (fu_in b 0 1 && fu_in c 0 999)) = true then (B (60 + 5 * a.toInt.toNat + (3 + b.toInt.toNat)), [(60 + 5 * a.toInt.toNat + (3 + b.toInt.toNat), c)]) else (Int32.ofInt (-2), [])
def fu_load (B : Nat → Int32) (a b c e : Int32) : fu_S := if (fu_in a 1 99 && (fu_in b 0 1 && (fu_in c 0 (B 0).toInt && (fu_in e 0 (B 0).toInt && !decide (c.toInt = e.toInt))))) = true then (if (B 2).toInt < 10 then (B 2, [(80 + 7 * (B 2).toInt.toNat + 0, a), (80 + 7 * (B 2).toInt.toNat + 1, b), (80 + 7 * (B 2).toInt.toNat + 2, c), (80 + 7 * (B 2).toInt.toNat + 3, e), (80 + 7 * (B 2).toInt.toNat + 4, Int32.ofNat 100), (80 + 7 * (B 2).toInt.toNat + 5, Int32.ofNat 0), (80 + 7 * (B 2).toInt.toNat + 6, Int32.ofInt (-1)), (2, B 2 + Int32.ofNat 1)]) else (Int32.ofInt (-4), [])) else (Int32.ofInt (-2), [])
def fu_ofl (B : Nat → Int32) (k : Nat) (hi : Int) (a b : Int32) : fu_S := if (fu_in a 0 ((B 2).toInt - 1) && fu_in b 0 hi) = true then (B (80 + 7 * a.toInt.toNat + k), [(80 + 7 * a.toInt.toNat + k, b)]) else (Int32.ofInt (-2), [])
def fu_put (B : Nat → Int32) (a b : Int32) : fu_S := if (fu_in a 0 1 && fu_in b 1 (if a.toInt = 0 then 20 else 9)) = true then (B (4 + a.toInt.toNat), [(4 + a.toInt.toNat, b)]) else (Int32.ofInt (-2), [])
def fu_clr (B : Nat → Int32) (a : Int32) : fu_S := if fu_in a 0 1 = true then (B (160 + a.toInt.toNat), [(160 + a.toInt.toNat, Int32.ofNat 0)]) else (Int32.ofInt (-2), [])
def fu_unl (B : Nat → Int32) : fu_S := (B 3, [(3, Int32.ofNat 0)])
theorem fu_g_door {B : Nat → Int32} (hB : fu_BT B) : fu_gd (fu_door B).2 := by
  obtain ⟨D, D5, eD⟩ := fu_n0 hB
  unfold fu_door
  rw [eD, kx_ti (by omega)]
  split
  · rw [← Int32.ofNat_add]
    exact fu_gd_cons (by decide) (by decide) (fu_okN (by decide) fu_f0.1.1 (by omega)) fu_gd_nil
  · exact fu_gd_nil
theorem fu_g_way {B : Nat → Int32} {a b c : Int32} (hB : fu_BT B) : fu_gd (fu_way B a b c).2 := by
  obtain ⟨D, D5, eD⟩ := fu_n0 hB
  unfold fu_way
  split
  · rename_i e
    simp only [Bool.and_eq_true] at e
    obtain ⟨e1, e2, -, e4⟩ := e
    rw [eD, kx_ti (by omega)] at e1 e2
    obtain ⟨x, x5, rfl, -⟩ := fu_in_n (u := 5) e1 (by omega) (by omega)
    obtain ⟨y, y5, rfl, -⟩ := fu_in_n (u := 5) e2 (by omega) (by omega)
    have e4 := fu_in_t e4
    rw [fu_tn (by omega), fu_tn (by omega)]
    have hx : x < 6 := by omega
    have hy : y < 6 := by omega
    exact fu_gd_cons (by omega) (fu_te (fu_fmi x hx y hy).2.1) (fu_okI (fu_fmi x hx y hy).2.2 (by omega) (by omega)) (fu_gd_cons (by omega) (fu_te (fu_fmi y hy x hx).2.1) (fu_okI (fu_fmi y hy x hx).2.2 (by omega) (by omega)) fu_gd_nil)
  · exact fu_gd_nil
theorem fu_g_ford {B : Nat → Int32} {a : Int32} (hB : fu_BT B) : fu_gd (fu_ford B a).2 := by
  obtain ⟨D, D5, eD⟩ := fu_n0 hB
  unfold fu_ford
  split
  · rename_i e1
    rw [eD, kx_ti (by omega)] at e1
    obtain ⟨x, x5, rfl, -⟩ := fu_in_n (u := 5) e1 (by omega) (by omega)
    rw [fu_tn (by omega)]
    have hx : x < 6 := by omega
    split
    · exact fu_gd_nil
    · exact fu_gd_cons (by omega) (fu_te (fu_ffo x hx).2.1) (fu_okN (by decide) (fu_ffo x hx).2.2 (by omega)) fu_gd_nil
  · exact fu_gd_nil
theorem fu_g_stones {B : Nat → Int32} {a b : Int32} (hB : fu_BT B) : fu_gd (fu_stones B a b).2 := by
  obtain ⟨D, D5, eD⟩ := fu_n0 hB
  unfold fu_stones
  split
  · rename_i e
    simp only [Bool.and_eq_true] at e
    obtain ⟨e1, e2⟩ := e
    rw [eD, kx_ti (by omega)] at e1
    obtain ⟨x, x5, rfl, -⟩ := fu_in_n (u := 5) e1 (by omega) (by omega)
    have e2 := fu_in_t e2
    rw [fu_tn (by omega)]
    have hx : x < 6 := by omega
    exact fu_gd_cons (by omega) (fu_te (fu_fst x hx).2.1) (fu_okI (a := 0) (b := 9) (fu_fst x hx).2.2 (by omega) (by omega)) fu_gd_nil
  · exact fu_gd_nil
theorem fu_g_mule {B : Nat → Int32} {a b c : Int32} (hB : fu_BT B) : fu_gd (fu_mule B a b c).2 := by
  obtain ⟨M, M3, eM⟩ := fu_n1 hB
  unfold fu_mule
  split
  · rename_i e
    simp only [Bool.and_eq_true] at e
    obtain ⟨e1, e2, e3⟩ := e
    have e1 := fu_in_t e1
    have e2 := fu_in_t e2
    have e3 := fu_in_t e3
    rw [eM, kx_ti (by omega)]
    split
    · rw [← Int32.ofNat_add]
      have hm : M < 3 := by omega
      obtain ⟨f0, f1, f2, f3, f4, f5⟩ := fu_fmu M hm
      rw [Int.toNat_natCast]
      exact fu_gd_cons (by omega) (fu_te (f0 0 (by decide)).2) (fu_okI (a := 0) (b := 999) f1 (by omega) (by omega)) (fu_gd_cons (by omega) (fu_te (f0 1 (by decide)).2) (fu_okI (a := 0) (b := 99) f2 (by omega) (by omega)) (fu_gd_cons (by omega) (fu_te (f0 2 (by decide)).2) (fu_okI (a := 0) (b := 99) f3 (by omega) (by omega)) (fu_gd_cons (by omega) (fu_te (f0 3 (by decide)).2) (fu_okN (by decide) f4 (by omega)) (fu_gd_cons (by omega) (fu_te (f0 4 (by decide)).2) (fu_okN (by decide) f5 (by omega)) (fu_gd_cons (by omega) (by decide) (fu_okN (by decide) fu_f0.1.2.1 (by omega)) fu_gd_nil)))))
    · exact fu_gd_nil
  · exact fu_gd_nil
theorem fu_g_lame {B : Nat → Int32} {a b c : Int32} (hB : fu_BT B) : fu_gd (fu_lame B a b c).2 := by
  obtain ⟨M, M3, eM⟩ := fu_n1 hB
  unfold fu_lame
  split
  · rename_i e
    simp only [Bool.and_eq_true] at e
    obtain ⟨e1, e2, e3⟩ := e
    rw [eM, kx_ti (by omega)] at e1
    obtain ⟨x, x5, rfl, x6, x7⟩ := fu_in_n (u := 3) e1 (by omega) (by omega)
    obtain ⟨y, y5, rfl, -⟩ := fu_in_n (u := 1) e2 (by omega) (by omega)
    have e3 := fu_in_t e3
    rw [fu_tn (by omega), fu_tn (by omega)]
    have hm : x < 3 := by omega
    obtain ⟨f0, -, -, -, f4, f5⟩ := fu_fmu x hm
    rcases (show y = 0 ∨ y = 1 by omega) with rfl | rfl
    · exact fu_gd_cons (by omega) (fu_te (f0 3 (by decide)).2) (fu_okI (a := 0) (b := 999) f4 (by omega) (by omega)) fu_gd_nil
    · exact fu_gd_cons (by omega) (fu_te (f0 4 (by decide)).2) (fu_okI (a := 0) (b := 999) f5 (by omega) (by omega)) fu_gd_nil
  · exact fu_gd_nil
theorem fu_g_load {B : Nat → Int32} {a b c e : Int32} (hB : fu_BT B) : fu_gd (fu_load B a b c e).2 := by
  obtain ⟨D, D5, eD⟩ := fu_n0 hB
  obtain ⟨L, L10, eL⟩ := fu_n2 hB
  unfold fu_load
  split
  · rename_i q
    simp only [Bool.and_eq_true] at q
    obtain ⟨e1, e2, e3, e4, -⟩ := q
    rw [eD, kx_ti (by omega)] at e3 e4
    have e1 := fu_in_t e1
    have e2 := fu_in_t e2
    have e3 := fu_in_t e3
    have e4 := fu_in_t e4
    rw [eL, kx_ti (by omega)]
    split
    · rw [← Int32.ofNat_add]
      have hm : L < 10 := by omega
      obtain ⟨f0, f1, f2, f3, f4, f5, f6, f7⟩ := fu_flo L hm
      rw [Int.toNat_natCast]
      exact fu_gd_cons (by omega) (f0 0 (by decide)).2.1 (fu_okI (a := 0) (b := 99) f1 (by omega) (by omega)) (fu_gd_cons (by omega) (f0 1 (by decide)).2.1 (fu_okI (a := 0) (b := 1) f2 (by omega) (by omega)) (fu_gd_cons (by omega) (f0 2 (by decide)).2.1 (fu_okI (a := 0) (b := 5) f3 (by omega) (by omega)) (fu_gd_cons (by omega) (f0 3 (by decide)).2.1 (fu_okI (a := 0) (b := 5) f4 (by omega) (by omega)) (fu_gd_cons (by omega) (f0 4 (by decide)).2.1 (fu_okN (by decide) f5 (by omega)) (fu_gd_cons (by omega) (f0 5 (by decide)).2.1 (fu_okN (by decide) f6 (by omega)) (fu_gd_cons (by omega) (f0 6 (by decide)).2.1 (by unfold fu_ok; rw [f7]; decide) (fu_gd_cons (by omega) (by decide) (fu_okN (by decide) fu_f0.1.2.2.1 (by omega)) fu_gd_nil)))))))
    · exact fu_gd_nil
  · exact fu_gd_nil
theorem fu_g_ask {B : Nat → Int32} {a b : Int32} (hB : fu_BT B) : fu_gd (fu_ofl B 4 100 a b).2 := by
  obtain ⟨L, L10, eL⟩ := fu_n2 hB
  unfold fu_ofl
  split
  · rename_i e
    simp only [Bool.and_eq_true] at e
    obtain ⟨e1, e2⟩ := e
    rw [eL, kx_ti (by omega)] at e1
    obtain ⟨x, x5, rfl, x6, x7⟩ := fu_in_n (u := 10) e1 (by omega) (by omega)
    have e2 := fu_in_t e2
    rw [fu_tn (by omega)]
    have hm : x < 10 := by omega
    obtain ⟨f0, -, -, -, -, f5, -, -⟩ := fu_flo x hm
    exact fu_gd_cons (by omega) (f0 4 (by decide)).2.1 (fu_okI (a := 0) (b := 100) f5 (by omega) (by omega)) fu_gd_nil
  · exact fu_gd_nil
theorem fu_g_drain {B : Nat → Int32} {a b : Int32} (hB : fu_BT B) : fu_gd (fu_ofl B 5 9 a b).2 := by
  obtain ⟨L, L10, eL⟩ := fu_n2 hB
  unfold fu_ofl
  split
  · rename_i e
    simp only [Bool.and_eq_true] at e
    obtain ⟨e1, e2⟩ := e
    rw [eL, kx_ti (by omega)] at e1
    obtain ⟨x, x5, rfl, x6, x7⟩ := fu_in_n (u := 10) e1 (by omega) (by omega)
    have e2 := fu_in_t e2
    rw [fu_tn (by omega)]
    have hm : x < 10 := by omega
    obtain ⟨f0, -, -, -, -, -, f6, -⟩ := fu_flo x hm
    exact fu_gd_cons (by omega) (f0 5 (by decide)).2.1 (fu_okI (a := 0) (b := 9) f6 (by omega) (by omega)) fu_gd_nil
  · exact fu_gd_nil
theorem fu_g_put {B : Nat → Int32} {a b : Int32} : fu_gd (fu_put B a b).2 := by
  unfold fu_put
  by_cases e : (fu_in a 0 1 && fu_in b 1 (if a.toInt = 0 then 20 else 9)) = true
  · rw [if_pos e]
    rw [Bool.and_eq_true] at e
    obtain ⟨e1, e2⟩ := e
    obtain ⟨x, x5, rfl, x6, x7⟩ := fu_in_n (u := 1) e1 (by omega) (by omega)
    have e2 := fu_in_t e2
    rw [fu_tn (by omega)]
    rcases (show x = 0 ∨ x = 1 by omega) with rfl | rfl
    · rw [if_pos (by decide)] at e2
      exact fu_gd_cons (by omega) (by decide) (fu_okI (a := 1) (b := 20) fu_f0.1.2.2.2.2.1 (by omega) (by omega)) fu_gd_nil
    · rw [if_neg (by decide)] at e2
      exact fu_gd_cons (by omega) (by decide) (fu_okI (a := 1) (b := 9) fu_f0.1.2.2.2.2.2 (by omega) (by omega)) fu_gd_nil
  · rw [if_neg e]
    exact fu_gd_nil
theorem fu_g_clr {B : Nat → Int32} {a : Int32} : fu_gd (fu_clr B a).2 := by
  unfold fu_clr
  split
  · rename_i e1
    obtain ⟨x, x5, rfl, x6, x7⟩ := fu_in_n (u := 1) e1 (by omega) (by omega)
    rw [fu_tn (by omega)]
    have hx : x < 2 := by omega
    exact fu_gd_cons (by omega) (fu_te (fu_fby x hx).2.1) (fu_okN (by decide) (fu_fby x hx).2.2 (by omega)) fu_gd_nil
  · exact fu_gd_nil
theorem fu_g_unl {B : Nat → Int32} : fu_gd (fu_unl B).2 := fu_gd_cons (by omega) (by decide) (fu_okN (by decide) fu_f0.1.2.2.2.1 (by omega)) fu_gd_nil
