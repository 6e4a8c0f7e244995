section
-- 99.zp4
/-! ===== the whole told state, by the places of the reference's book ===== -/
def fu_p (j : Nat) : Nat × Nat := if j < 4 then (0, j) else if j < 6 then (25, j - 4) else if j < 46 then (2 + (j - 10) / 6, (j - 10) % 6) else if j < 52 then (8, j - 46) else if j < 60 then (9, j - 52) else if j < 80 then (11 + (j - 60) / 5, (j - 60) % 5) else if j < 150 then (15 + (j - 80) / 7, (j - 80) % 7) else if j < 160 then (26, j - 150) else if j < 170 then (30, j - 160) else (28 + (j - 170) / 240, (j - 170) % 240)
def fu_q (c i : Nat) : Nat := if c = 0 then i else if c = 25 then 4 + i else if c < 8 then 10 + 6 * (c - 2) + i else if c = 8 then 46 + i else if c = 9 then 52 + i else if c < 14 then 60 + 5 * (c - 11) + i else if c < 25 then 80 + 7 * (c - 15) + i else if c = 26 then 150 + i else if c = 30 then 160 + i else 170 + 240 * (c - 28) + i
def fu_e (j : Nat) : Bool := Nat.blt j 6 || ((Nat.ble 10 j && Nat.blt j 58) || ((Nat.ble 60 j && Nat.blt j 75) || ((Nat.ble 80 j && Nat.blt j 155) || ((Nat.ble 160 j && Nat.blt j 162) || (Nat.ble 170 j && Nat.blt j 650)))))
def fu_t (j : Nat) : Bool := fu_e j && !(Nat.ble 80 j && (Nat.blt j 150 && Nat.beq ((j - 80) % 7) 6))
def fu_ty (j : Nat) : Nat × Nat := match kd_rn (kd_ty (1 + (fu_p j).1)) (fu_p j).2 with
  | some (0, a, b) => (a, b)
  | _ => (1, 0)
def fu_k1 (j : Nat) : Bool := !(fu_e j) || (Nat.beq (fu_q (fu_p j).1 (fu_p j).2) j && (Nat.blt (fu_p j).1 31 && Nat.blt (fu_p j).2 (kt_ln (fu_p j).1)))
theorem fu_k1_all : ∀ j, j < 650 → fu_k1 j = true := by decide +kernel
def fu_k2 (j : Nat) : Bool := !(fu_e j) || ((match kd_rn (kd_ty (1 + (fu_p j).1)) (fu_p j).2 with
  | some (0, _, _) => true
  | _ => false) && (match kd_rn (kd_ty 260) j with
  | some (0, a, b) => Nat.ble a (fu_ty j).1 && Nat.ble (fu_ty j).2 b
  | _ => false))
theorem fu_k2_all : ∀ j, j < 650 → fu_k2 j = true := by decide +kernel
theorem fu_te {j : Nat} (h : fu_t j = true) : fu_e j = true := by
  unfold fu_t at h
  rw [Bool.and_eq_true] at h
  exact h.1
theorem fu_qp {j : Nat} (hj : j < 650) (he : fu_e j = true) : fu_q (fu_p j).1 (fu_p j).2 = j ∧ (fu_p j).1 < 31 ∧ (fu_p j).2 < kt_ln (fu_p j).1 := by
  have h := fu_k1_all j hj
  unfold fu_k1 at h
  rw [he] at h
  simp only [Bool.not_true, Bool.false_or, Bool.and_eq_true] at h
  exact ⟨Nat.eq_of_beq_eq_true h.1, Nat.le_of_ble_eq_true h.2.1, Nat.le_of_ble_eq_true h.2.2⟩
theorem fu_inj {j k : Nat} (hj : j < 650) (ej : fu_e j = true) (hk : k < 650) (ek : fu_e k = true) (h1 : (fu_p j).1 = (fu_p k).1) (h2 : (fu_p j).2 = (fu_p k).2) : j = k := by
  rw [← (fu_qp hj ej).1, ← (fu_qp hk ek).1, h1, h2]
theorem fu_tyc {j : Nat} (hj : j < 650) (he : fu_e j = true) : kd_rn (kd_ty (1 + (fu_p j).1)) (fu_p j).2 = some (0, (fu_ty j).1, (fu_ty j).2) := by
  have h := fu_k2_all j hj
  unfold fu_k2 at h
  rw [he] at h
  simp only [Bool.not_true, Bool.false_or, Bool.and_eq_true] at h
  have h := h.1
  unfold fu_ty
  split at h
  · rename_i a b e
    rw [e]
  · cases h
theorem fu_tyr {j : Nat} (hj : j < 650) (he : fu_e j = true) : ∃ a b, kd_rn (kd_ty 260) j = some (0, a, b) ∧ a ≤ (fu_ty j).1 ∧ (fu_ty j).2 ≤ b := by
  have h := fu_k2_all j hj
  unfold fu_k2 at h
  rw [he] at h
  simp only [Bool.not_true, Bool.false_or, Bool.and_eq_true] at h
  have h := h.2
  split at h
  · rename_i a b e
    rw [Bool.and_eq_true] at h
    exact ⟨a, b, e, Nat.le_of_ble_eq_true h.1, Nat.le_of_ble_eq_true h.2⟩
  · cases h
/-- the pictures -/
def fu_C (B : Nat → Int32) (o : Nat) (h : kc_H) : Prop := ∀ j, j < 650 → fu_t j = true → h (o + (fu_p j).1) (fu_p j).2 = .inl (B j)
def fu_R (B : Nat → Int32) (r f : Nat) (h : kc_H) : Prop := ∀ j, j < 650 → fu_t j = true → h r (f + j) = .inl (B j)
def fu_B (B : Nat → Int32) (h : kc_H) : Prop := ∀ j, j < 650 → fu_t j = true → h 260 j = .inl (B j)
def fu_ok (j : Nat) (v : Int32) : Prop := (fu_ty j).1 ≤ kd_nb v ∧ kd_nb v ≤ (fu_ty j).2
theorem fu_RB {B : Nat → Int32} {h : kc_H} : fu_R B 260 0 h ↔ fu_B B h := by
  unfold fu_R fu_B
  simp only [Nat.zero_add]
theorem fu_ne {h : kc_H} {a b x y : Nat} {w : kc_V} (hx : ¬ (x = a ∧ y = b)) : kc_upd h a b w x y = h x y := if_neg hx
theorem fu_eq {h : kc_H} {a b : Nat} {w : kc_V} : kc_upd h a b w a b = w := if_pos ⟨rfl, rfl⟩
theorem fu_cm {h : kc_H} {a b x y : Nat} {w : kc_V} : kc_upd (kc_upd h a b w) x y w = kc_upd (kc_upd h x y w) a b w := by
  funext c i
  unfold kc_upd
  by_cases e1 : c = x ∧ i = y
  · rw [if_pos e1]
    by_cases e2 : c = a ∧ i = b
    · rw [if_pos e2]
    · rw [if_neg e2, if_pos e1]
  · rw [if_neg e1]
    by_cases e2 : c = a ∧ i = b
    · rw [if_pos e2, if_pos e2]
    · rw [if_neg e2, if_neg e2, if_neg e1]
/-- writings, in the places of the book -/
def fu_cw (o : Nat) : List (Nat × Int32) → kc_H → kc_H
  | [], h => h
  | q :: l, h => fu_cw o l (kc_upd h (o + (fu_p q.1).1) (fu_p q.1).2 (.inl q.2))
def fu_rw : List (Nat × Int32) → kc_H → kc_H
  | [], h => h
  | q :: l, h => fu_rw l (kc_upd h 260 q.1 (.inl q.2))
def fu_bw : List (Nat × Int32) → (Nat → Int32) → Nat → Int32
  | [], B => B
  | q :: l, B => fu_bw l (fun j => if j = q.1 then q.2 else B j)
def fu_gd (l : List (Nat × Int32)) : Prop := ∀ q ∈ l, q.1 < 650 ∧ fu_e q.1 = true ∧ fu_ok q.1 q.2
theorem fu_gd_t {q : Nat × Int32} {l : List (Nat × Int32)} (h : fu_gd (q :: l)) : fu_gd l := fun r hr => h r (List.mem_cons_of_mem _ hr)
theorem fu_gd_nil : fu_gd [] := fun q h => by cases h
theorem fu_gd_cons {j : Nat} {v : Int32} {l : List (Nat × Int32)} (h1 : j < 650) (h2 : fu_e j = true) (h3 : fu_ok j v) (h : fu_gd l) : fu_gd ((j, v) :: l) := fun q hq => by
  rcases List.mem_cons.mp hq with rfl | hq
  · exact ⟨h1, h2, h3⟩
  · exact h q hq
theorem fu_C_w {o : Nat} : ∀ {l : List (Nat × Int32)} {B : Nat → Int32} {h : kc_H}, fu_gd l → fu_C B o h → fu_C (fu_bw l B) o (fu_cw o l h)
  | [], _, _, _, hC => hC
  | q :: l, B, h, hl, hC => by
    obtain ⟨q1, q2, -⟩ := hl q List.mem_cons_self
    refine fu_C_w (l := l) (fu_gd_t hl) (fun j hj ht => ?_)
    by_cases e : j = q.1
    · subst e
      rw [fu_eq, if_pos rfl]
    · rw [if_neg e, fu_ne (fun k => e (fu_inj hj (fu_te ht) q1 q2 (by omega) k.2))]
      exact hC j hj ht
theorem fu_B_w : ∀ {l : List (Nat × Int32)} {B : Nat → Int32} {h : kc_H}, fu_B B h → fu_B (fu_bw l B) (fu_rw l h)
  | [], _, _, hC => hC
  | q :: l, B, h, hC => by
    refine fu_B_w (l := l) (fun j hj ht => ?_)
    by_cases e : j = q.1
    · subst e
      rw [fu_eq, if_pos rfl]
    · rw [if_neg e, fu_ne (fun k => e k.2)]
      exact hC j hj ht
theorem fu_cw_o {o : Nat} : ∀ {l : List (Nat × Int32)} {h : kc_H}, fu_gd l → ∀ {c i : Nat}, c < o ∨ o + 31 ≤ c → fu_cw o l h c i = h c i
  | [], _, _, _, _, _ => rfl
  | q :: l, h, hl, c, i, hc => by
    obtain ⟨q1, q2, -⟩ := hl q List.mem_cons_self
    have := (fu_qp q1 q2).2.1
    exact (fu_cw_o (l := l) (fu_gd_t hl) hc).trans (fu_ne (fun k => by omega))
theorem fu_rw_o : ∀ {l : List (Nat × Int32)} {h : kc_H} {c i : Nat}, ¬ c = 260 → fu_rw l h c i = h c i
  | [], _, _, _, _ => rfl
  | q :: l, h, c, i, hc => (fu_rw_o (l := l) hc).trans (fu_ne (fun k => hc k.1))
theorem fu_wtu {h : kc_H} {c i a b : Nat} {v : Int32} (ht : kd_rn (kd_ty c) i = some (0, a, b)) (hv : a ≤ kd_nb v ∧ kd_nb v ≤ b) (hw : kd_wt kd_ty h) : kd_wt kd_ty (kc_upd h c i (.inl v)) := by
  intro c' i' t hk
  unfold kc_upd
  split
  · rename_i e
    obtain ⟨rfl, rfl⟩ := e
    rw [ht] at hk
    cases hk
    exact ⟨v, rfl, hv.1, hv.2⟩
  · exact hw c' i' t hk
theorem fu_wt_c : ∀ {l : List (Nat × Int32)} {h : kc_H}, fu_gd l → kd_wt kd_ty h → kd_wt kd_ty (fu_cw 1 l h)
  | [], _, _, hw => hw
  | q :: l, h, hl, hw => by
    obtain ⟨q1, q2, q3⟩ := hl q List.mem_cons_self
    exact fu_wt_c (l := l) (fu_gd_t hl) (fu_wtu (fu_tyc q1 q2) q3 hw)
theorem fu_wt_r : ∀ {l : List (Nat × Int32)} {h : kc_H}, fu_gd l → kd_wt kd_ty h → kd_wt kd_ty (fu_rw l h)
  | [], _, _, hw => hw
  | q :: l, h, hl, hw => by
    obtain ⟨q1, q2, q3⟩ := hl q List.mem_cons_self
    obtain ⟨a, b, t1, t2, t3⟩ := fu_tyr q1 q2
    exact fu_wt_r (l := l) (fu_gd_t hl) (fu_wtu t1 ⟨Nat.le_trans t2 q3.1, Nat.le_trans q3.2 t3⟩ hw)
/-- typed contents -/
def fu_BT (B : Nat → Int32) : Prop := ∀ j, j < 650 → fu_t j = true → fu_ok j (B j)
theorem fu_C_T {B : Nat → Int32} {h : kc_H} (hw : kd_wt kd_ty h) (hC : fu_C B 1 h) : fu_BT B := fun j hj ht => by
  have h1 := hw _ _ _ (fu_tyc hj (fu_te ht))
  rw [hC j hj ht] at h1
  obtain ⟨v, e, a, b⟩ := h1
  cases e
  exact ⟨a, b⟩
theorem fu_BT_w : ∀ {l : List (Nat × Int32)} {B : Nat → Int32}, fu_gd l → fu_BT B → fu_BT (fu_bw l B)
  | [], _, _, hB => hB
  | q :: l, B, hl, hB => by
    obtain ⟨q1, q2, q3⟩ := hl q List.mem_cons_self
    refine fu_BT_w (l := l) (fu_gd_t hl) (fun j hj ht => ?_)
    by_cases e : j = q.1
    · subst e
      rw [if_pos rfl]
      exact q3
    · rw [if_neg e]
      exact hB j hj ht
theorem fu_nat {v : Int32} {j u : Nat} (hu : u < 2147483648) (ht : fu_ty j = (2147483648, 2147483648 + u)) (h : fu_ok j v) : ∃ k : Nat, k ≤ u ∧ v = Int32.ofNat k := by
  unfold fu_ok at h
  rw [ht] at h
  obtain ⟨k, k1, k2⟩ := kx_ofg (x := .inl v) hu ⟨v, rfl, h.1, h.2⟩
  exact ⟨k, k1, Sum.inl.inj k2⟩
theorem fu_okN {j u k : Nat} (hu : u < 2147483648) (ht : fu_ty j = (2147483648, 2147483648 + u)) (hk : k ≤ u) : fu_ok j (Int32.ofNat k) := by
  unfold fu_ok
  rw [ht, kx_nb (by omega)]
  exact ⟨by show 2147483648 ≤ 2147483648 + k; omega, by show 2147483648 + k ≤ 2147483648 + u; omega⟩
theorem fu_okI {j a b : Nat} {v : Int32} (ht : fu_ty j = (2147483648 + a, 2147483648 + b)) (h1 : (a : Int) ≤ v.toInt) (h2 : v.toInt ≤ (b : Int)) : fu_ok j v := by
  unfold fu_ok kd_nb
  rw [ht]
  exact ⟨by show 2147483648 + a ≤ (v.toInt + 2147483648).toNat; omega, by show (v.toInt + 2147483648).toNat ≤ 2147483648 + b; omega⟩
/-- the families of places -/
theorem fu_f0 : (fu_ty 0 = (2147483648, 2147483648 + 5) ∧ fu_ty 1 = (2147483648, 2147483648 + 3) ∧ fu_ty 2 = (2147483648, 2147483648 + 10) ∧ fu_ty 3 = (2147483648, 2147483648 + 5) ∧ fu_ty 4 = (2147483648 + 1, 2147483648 + 20) ∧ fu_ty 5 = (2147483648 + 1, 2147483648 + 9)) ∧ fu_p 0 = (0, 0) ∧ fu_p 1 = (0, 1) ∧ fu_p 2 = (0, 2) ∧ fu_p 3 = (0, 3) ∧ fu_p 4 = (25, 0) ∧ fu_p 5 = (25, 1) := by decide +kernel
theorem fu_fmi : ∀ x, x < 6 → ∀ y, y < 6 → fu_p (10 + 6 * x + y) = (2 + x, y) ∧ fu_t (10 + 6 * x + y) = true ∧ fu_ty (10 + 6 * x + y) = (2147483648 + 1, 2147483648 + 99) := by decide +kernel
theorem fu_ffo : ∀ x, x < 6 → fu_p (46 + x) = (8, x) ∧ fu_t (46 + x) = true ∧ fu_ty (46 + x) = (2147483648, 2147483648 + 1) := by decide +kernel
theorem fu_fst : ∀ x, x < 6 → fu_p (52 + x) = (9, x) ∧ fu_t (52 + x) = true ∧ fu_ty (52 + x) = (2147483648, 2147483648 + 9) := by decide +kernel
theorem fu_fmu : ∀ x, x < 3 → (∀ k, k < 5 → fu_p (60 + 5 * x + k) = (11 + x, k) ∧ fu_t (60 + 5 * x + k) = true) ∧ fu_ty (60 + 5 * x + 0) = (2147483648, 2147483648 + 999) ∧ fu_ty (60 + 5 * x + 1) = (2147483648, 2147483648 + 99) ∧ fu_ty (60 + 5 * x + 2) = (2147483648, 2147483648 + 99) ∧ fu_ty (60 + 5 * x + 3) = (2147483648, 2147483648 + 999) ∧ fu_ty (60 + 5 * x + 4) = (2147483648, 2147483648 + 999) := by decide +kernel
theorem fu_flo : ∀ x, x < 10 → (∀ k, k < 7 → fu_p (80 + 7 * x + k) = (15 + x, k) ∧ fu_e (80 + 7 * x + k) = true ∧ (k < 6 → fu_t (80 + 7 * x + k) = true)) ∧ fu_ty (80 + 7 * x + 0) = (2147483648, 2147483648 + 99) ∧ fu_ty (80 + 7 * x + 1) = (2147483648, 2147483648 + 1) ∧ fu_ty (80 + 7 * x + 2) = (2147483648, 2147483648 + 5) ∧ fu_ty (80 + 7 * x + 3) = (2147483648, 2147483648 + 5) ∧ fu_ty (80 + 7 * x + 4) = (2147483648, 2147483648 + 100) ∧ fu_ty (80 + 7 * x + 5) = (2147483648, 2147483648 + 9) ∧ fu_ty (80 + 7 * x + 6) = (2147483647, 2147483653) := by decide +kernel
theorem fu_fli : ∀ x, x < 5 → fu_p (150 + x) = (26, x) ∧ fu_t (150 + x) = true ∧ fu_ty (150 + x) = (2147483648, 2147483648 + 5) := by decide +kernel
theorem fu_fby : ∀ x, x < 2 → fu_p (160 + x) = (30, x) ∧ fu_t (160 + x) = true ∧ fu_ty (160 + x) = (2147483648, 2147483648 + 240) := by decide +kernel
theorem fu_ftx : ∀ x, x < 2 → ∀ k, k < 240 → fu_p (170 + 240 * x + k) = (28 + x, k) ∧ fu_t (170 + 240 * x + k) = true ∧ fu_ty (170 + 240 * x + k) = (2147483648, 2147483648 + 255) := by decide +kernel
theorem fu_smi : ∀ x, x < 6 → (kc_shp (1 + (2 + x)) = some (0, 0, 6) ∧ 1 + (2 + x) < kc_N) ∧ kd_rn (kd_ty 2) x = some (3, 1 + (2 + x), 1 + (2 + x)) := by decide +kernel
theorem fu_smu : ∀ x, x < 3 → (kc_shp (1 + (11 + x)) = some (0, 0, 5) ∧ 1 + (11 + x) < kc_N) ∧ kd_rn (kd_ty 11) x = some (3, 1 + (11 + x), 1 + (11 + x)) := by decide +kernel
theorem fu_slo : ∀ x, x < 10 → (kc_shp (1 + (15 + x)) = some (0, 0, 7) ∧ 1 + (15 + x) < kc_N) ∧ kd_rn (kd_ty 15) x = some (3, 1 + (15 + x), 1 + (15 + x)) := by decide +kernel
theorem fu_kr : kd_rn (kd_ty 1) 4 = some (3, 2, 2) ∧ kd_rn (kd_ty 1) 5 = some (3, 9, 9) ∧ kd_rn (kd_ty 1) 6 = some (3, 10, 10) ∧ kd_rn (kd_ty 1) 7 = some (3, 11, 11) ∧ kd_rn (kd_ty 1) 8 = some (3, 15, 15) ∧ kd_rn (kd_ty 1) 9 = some (3, 26, 26) ∧ kd_rn (kd_ty 1) 10 = some (3, 27, 27) := by decide +kernel
theorem fu_C0 {B : Nat → Int32} {h : kc_H} (hC : fu_C B 1 h) : h 1 0 = .inl (B 0) ∧ h 1 1 = .inl (B 1) ∧ h 1 2 = .inl (B 2) ∧ h 1 3 = .inl (B 3) := ⟨hC 0 (by decide) (by decide), hC 1 (by decide) (by decide), hC 2 (by decide) (by decide), hC 3 (by decide) (by decide)⟩
theorem fu_Cj {B : Nat → Int32} {h : kc_H} {j c i : Nat} (hC : fu_C B 1 h) (hj : j < 650) (ht : fu_t j = true) (hp : fu_p j = (c, i)) : h (1 + c) i = .inl (B j) := by
  have := hC j hj ht
  rw [hp] at this
  exact this
/-- the counts -/
theorem fu_n0 {B : Nat → Int32} (hB : fu_BT B) : ∃ k : Nat, k ≤ 5 ∧ B 0 = Int32.ofNat k := fu_nat (by decide) fu_f0.1.1 (hB 0 (by decide) (by decide))
theorem fu_n1 {B : Nat → Int32} (hB : fu_BT B) : ∃ k : Nat, k ≤ 3 ∧ B 1 = Int32.ofNat k := fu_nat (by decide) fu_f0.1.2.1 (hB 1 (by decide) (by decide))
theorem fu_n2 {B : Nat → Int32} (hB : fu_BT B) : ∃ k : Nat, k ≤ 10 ∧ B 2 = Int32.ofNat k := fu_nat (by decide) fu_f0.1.2.2.1 (hB 2 (by decide) (by decide))
theorem fu_n3 {B : Nat → Int32} (hB : fu_BT B) : ∃ k : Nat, k ≤ 5 ∧ B 3 = Int32.ofNat k := fu_nat (by decide) fu_f0.1.2.2.2.1 (hB 3 (by decide) (by decide))
end
section
-- 99.zp5
/-! ===== what each call of a day answers and writes, by the places of the book ===== -/
def fu_in (v : Int32) (lo hi : Int) : Bool := decide (lo ≤ v.toInt ∧ v.toInt ≤ hi)
abbrev fu_S : Type := Int32 × List (Nat × Int32)
theorem fu_tn {x : Nat} (h : x < 2147483648) : (Int32.ofNat x).toInt.toNat = x := by
  rw [kx_ti h]
  rfl
theorem fu_in_t {v : Int32} {lo hi : Int} (h : fu_in v lo hi = true) : lo ≤ v.toInt ∧ v.toInt ≤ hi := of_decide_eq_true h
theorem fu_in_n {v : Int32} {lo : Int} {u : Nat} {hi : Int} (h : fu_in v lo hi = true) (h0 : 0 ≤ lo) (hu : hi ≤ (u : Int)) : ∃ k : Nat, k ≤ u ∧ v = Int32.ofNat k ∧ lo ≤ (k : Int) ∧ (k : Int) ≤ hi := by
  have h1 := fu_in_t h
  obtain ⟨k, k1, k2, k3⟩ := ku_nat (a := v) (u := u) (by omega) (by omega)
  exact ⟨k, k1, k3, by omega, by omega⟩
def fu_door (B : Nat → Int32) : fu_S := if (B 0).toInt < 5 then (B 0 + Int32.ofNat 1, [(0, B 0 + Int32.ofNat 1)]) else (Int32.ofInt (-4), [])
def fu_way (B : Nat → Int32) (a b c : Int32) : fu_S := if (fu_in a 0 (B 0).toInt && (fu_in b 0 (B 0).toInt && (!decide (a.toInt = b.toInt) && fu_in c 1 99))) = true then (B (10 + 6 * a.toInt.toNat + b.toInt.toNat), [(10 + 6 * a.toInt.toNat + b.toInt.toNat, c), (10 + 6 * b.toInt.toNat + a.toInt.toNat, c)]) else (Int32.ofInt (-2), [])
def fu_ford (B : Nat → Int32) (a : Int32) : fu_S := if fu_in a 1 (B 0).toInt = true then (if (B (46 + a.toInt.toNat)).toInt = 1 then (Int32.ofInt (-3), []) else (Int32.ofNat 1, [(46 + a.toInt.toNat, Int32.ofNat 1)])) else (Int32.ofInt (-2), [])
def fu_stones (B : Nat → Int32) (a b : Int32) : fu_S := if (fu_in a 0 (B 0).toInt && fu_in b 0 9) = true then (B (52 + a.toInt.toNat), [(52 + a.toInt.toNat, b)]) else (Int32.ofInt (-2), [])
def fu_mule (B : Nat → Int32) (a b c : Int32) : fu_S := if (fu_in a 1 999 && (fu_in b 0 99 && fu_in c 0 99)) = true then (if (B 1).toInt < 3 then (B 1, [(60 + 5 * (B 1).toInt.toNat + 0, a), (60 + 5 * (B 1).toInt.toNat + 1, b), (60 + 5 * (B 1).toInt.toNat + 2, c), (60 + 5 * (B 1).toInt.toNat + 3, Int32.ofNat 999), (60 + 5 * (B 1).toInt.toNat + 4, Int32.ofNat 999), (1, B 1 + Int32.ofNat 1)]) else (Int32.ofInt (-4), [])) else (Int32.ofInt (-2), [])
def fu_lame (B : Nat → Int32) (a b c : Int32) : fu_S := if (fu_in a 0 ((B 1).toInt - 1) && (fu_in b 0 1 && fu_in c 0 999)) = true then (B (60 + 5 * a.toInt.toNat + (3 + b.toInt.toNat)), [(60 + 5 * a.toInt.toNat + (3 + b.toInt.toNat), c)]) else (Int32.ofInt (-2), [])
def fu_load (B : Nat → Int32) (a b c e : Int32) : fu_S := if (fu_in a 1 99 && (fu_in b 0 1 && (fu_in c 0 (B 0).toInt && (fu_in e 0 (B 0).toInt && !decide (c.toInt = e.toInt))))) = true then (if (B 2).toInt < 10 then (B 2, [(80 + 7 * (B 2).toInt.toNat + 0, a), (80 + 7 * (B 2).toInt.toNat + 1, b), (80 + 7 * (B 2).toInt.toNat + 2, c), (80 + 7 * (B 2).toInt.toNat + 3, e), (80 + 7 * (B 2).toInt.toNat + 4, Int32.ofNat 100), (80 + 7 * (B 2).toInt.toNat + 5, Int32.ofNat 0), (80 + 7 * (B 2).toInt.toNat + 6, Int32.ofInt (-1)), (2, B 2 + Int32.ofNat 1)]) else (Int32.ofInt (-4), [])) else (Int32.ofInt (-2), [])
def fu_ofl (B : Nat → Int32) (k : Nat) (hi : Int) (a b : Int32) : fu_S := if (fu_in a 0 ((B 2).toInt - 1) && fu_in b 0 hi) = true then (B (80 + 7 * a.toInt.toNat + k), [(80 + 7 * a.toInt.toNat + k, b)]) else (Int32.ofInt (-2), [])
def fu_put (B : Nat → Int32) (a b : Int32) : fu_S := if (fu_in a 0 1 && fu_in b 1 (if a.toInt = 0 then 20 else 9)) = true then (B (4 + a.toInt.toNat), [(4 + a.toInt.toNat, b)]) else (Int32.ofInt (-2), [])
def fu_clr (B : Nat → Int32) (a : Int32) : fu_S := if fu_in a 0 1 = true then (B (160 + a.toInt.toNat), [(160 + a.toInt.toNat, Int32.ofNat 0)]) else (Int32.ofInt (-2), [])
def fu_unl (B : Nat → Int32) : fu_S := (B 3, [(3, Int32.ofNat 0)])
theorem fu_g_door {B : Nat → Int32} (hB : fu_BT B) : fu_gd (fu_door B).2 := by
  obtain ⟨D, D5, eD⟩ := fu_n0 hB
  unfold fu_door
  rw [eD, kx_ti (by omega)]
  split
  · rw [← Int32.ofNat_add]
    exact fu_gd_cons (by decide) (by decide) (fu_okN (by decide) fu_f0.1.1 (by omega)) fu_gd_nil
  · exact fu_gd_nil
theorem fu_g_way {B : Nat → Int32} {a b c : Int32} (hB : fu_BT B) : fu_gd (fu_way B a b c).2 := by
  obtain ⟨D, D5, eD⟩ := fu_n0 hB
  unfold fu_way
  split
  · rename_i e
    simp only [Bool.and_eq_true] at e
    obtain ⟨e1, e2, -, e4⟩ := e
    rw [eD, kx_ti (by omega)] at e1 e2
    obtain ⟨x, x5, rfl, -⟩ := fu_in_n (u := 5) e1 (by omega) (by omega)
    obtain ⟨y, y5, rfl, -⟩ := fu_in_n (u := 5) e2 (by omega) (by omega)
    have e4 := fu_in_t e4
    rw [fu_tn (by omega), fu_tn (by omega)]
    have hx : x < 6 := by omega
    have hy : y < 6 := by omega
    exact fu_gd_cons (by omega) (fu_te (fu_fmi x hx y hy).2.1) (fu_okI (fu_fmi x hx y hy).2.2 (by omega) (by omega)) (fu_gd_cons (by omega) (fu_te (fu_fmi y hy x hx).2.1) (fu_okI (fu_fmi y hy x hx).2.2 (by omega) (by omega)) fu_gd_nil)
  · exact fu_gd_nil
theorem fu_g_ford {B : Nat → Int32} {a : Int32} (hB : fu_BT B) : fu_gd (fu_ford B a).2 := by
  obtain ⟨D, D5, eD⟩ := fu_n0 hB
  unfold fu_ford
  split
  · rename_i e1
    rw [eD, kx_ti (by omega)] at e1
    obtain ⟨x, x5, rfl, -⟩ := fu_in_n (u := 5) e1 (by omega) (by omega)
    rw [fu_tn (by omega)]
    have hx : x < 6 := by omega
    split
    · exact fu_gd_nil
    · exact fu_gd_cons (by omega) (fu_te (fu_ffo x hx).2.1) (fu_okN (by decide) (fu_ffo x hx).2.2 (by omega)) fu_gd_nil
  · exact fu_gd_nil
theorem fu_g_stones {B : Nat → Int32} {a b : Int32} (hB : fu_BT B) : fu_gd (fu_stones B a b).2 := by
  obtain ⟨D, D5, eD⟩ := fu_n0 hB
  unfold fu_stones
  split
  · rename_i e
    simp only [Bool.and_eq_true] at e
    obtain ⟨e1, e2⟩ := e
    rw [eD, kx_ti (by omega)] at e1
    obtain ⟨x, x5, rfl, -⟩ := fu_in_n (u := 5) e1 (by omega) (by omega)
    have e2 := fu_in_t e2
    rw [fu_tn (by omega)]
    have hx : x < 6 := by omega
    exact fu_gd_cons (by omega) (fu_te (fu_fst x hx).2.1) (fu_okI (a := 0) (b := 9) (fu_fst x hx).2.2 (by omega) (by omega)) fu_gd_nil
  · exact fu_gd_nil
theorem fu_g_mule {B : Nat → Int32} {a b c : Int32} (hB : fu_BT B) : fu_gd (fu_mule B a b c).2 := by
  obtain ⟨M, M3, eM⟩ := fu_n1 hB
  unfold fu_mule
  split
  · rename_i e
    simp only [Bool.and_eq_true] at e
    obtain ⟨e1, e2, e3⟩ := e
    have e1 := fu_in_t e1
    have e2 := fu_in_t e2
    have e3 := fu_in_t e3
    rw [eM, kx_ti (by omega)]
    split
    · rw [← Int32.ofNat_add]
      have hm : M < 3 := by omega
      obtain ⟨f0, f1, f2, f3, f4, f5⟩ := fu_fmu M hm
      rw [Int.toNat_natCast]
      exact fu_gd_cons (by omega) (fu_te (f0 0 (by decide)).2) (fu_okI (a := 0) (b := 999) f1 (by omega) (by omega)) (fu_gd_cons (by omega) (fu_te (f0 1 (by decide)).2) (fu_okI (a := 0) (b := 99) f2 (by omega) (by omega)) (fu_gd_cons (by omega) (fu_te (f0 2 (by decide)).2) (fu_okI (a := 0) (b := 99) f3 (by omega) (by omega)) (fu_gd_cons (by omega) (fu_te (f0 3 (by decide)).2) (fu_okN (by decide) f4 (by omega)) (fu_gd_cons (by omega) (fu_te (f0 4 (by decide)).2) (fu_okN (by decide) f5 (by omega)) (fu_gd_cons (by omega) (by decide) (fu_okN (by decide) fu_f0.1.2.1 (by omega)) fu_gd_nil)))))
    · exact fu_gd_nil
  · exact fu_gd_nil
theorem fu_g_lame {B : Nat → Int32} {a b c : Int32} (hB : fu_BT B) : fu_gd (fu_lame B a b c).2 := by
  obtain ⟨M, M3, eM⟩ := fu_n1 hB
  unfold fu_lame
  split
  · rename_i e
    simp only [Bool.and_eq_true] at e
    obtain ⟨e1, e2, e3⟩ := e
    rw [eM, kx_ti (by omega)] at e1
    obtain ⟨x, x5, rfl, x6, x7⟩ := fu_in_n (u := 3) e1 (by omega) (by omega)
    obtain ⟨y, y5, rfl, -⟩ := fu_in_n (u := 1) e2 (by omega) (by omega)
    have e3 := fu_in_t e3
    rw [fu_tn (by omega), fu_tn (by omega)]
    have hm : x < 3 := by omega
    obtain ⟨f0, -, -, -, f4, f5⟩ := fu_fmu x hm
    rcases (show y = 0 ∨ y = 1 by omega) with rfl | rfl
    · exact fu_gd_cons (by omega) (fu_te (f0 3 (by decide)).2) (fu_okI (a := 0) (b := 999) f4 (by omega) (by omega)) fu_gd_nil
    · exact fu_gd_cons (by omega) (fu_te (f0 4 (by decide)).2) (fu_okI (a := 0) (b := 999) f5 (by omega) (by omega)) fu_gd_nil
  · exact fu_gd_nil
theorem fu_g_load {B : Nat → Int32} {a b c e : Int32} (hB : fu_BT B) : fu_gd (fu_load B a b c e).2 := by
  obtain ⟨D, D5, eD⟩ := fu_n0 hB
  obtain ⟨L, L10, eL⟩ := fu_n2 hB
  unfold fu_load
  split
  · rename_i q
    simp only [Bool.and_eq_true] at q
    obtain ⟨e1, e2, e3, e4, -⟩ := q
    rw [eD, kx_ti (by omega)] at e3 e4
    have e1 := fu_in_t e1
    have e2 := fu_in_t e2
    have e3 := fu_in_t e3
    have e4 := fu_in_t e4
    rw [eL, kx_ti (by omega)]
    split
    · rw [← Int32.ofNat_add]
      have hm : L < 10 := by omega
      obtain ⟨f0, f1, f2, f3, f4, f5, f6, f7⟩ := fu_flo L hm
      rw [Int.toNat_natCast]
      exact fu_gd_cons (by omega) (f0 0 (by decide)).2.1 (fu_okI (a := 0) (b := 99) f1 (by omega) (by omega)) (fu_gd_cons (by omega) (f0 1 (by decide)).2.1 (fu_okI (a := 0) (b := 1) f2 (by omega) (by omega)) (fu_gd_cons (by omega) (f0 2 (by decide)).2.1 (fu_okI (a := 0) (b := 5) f3 (by omega) (by omega)) (fu_gd_cons (by omega) (f0 3 (by decide)).2.1 (fu_okI (a := 0) (b := 5) f4 (by omega) (by omega)) (fu_gd_cons (by omega) (f0 4 (by decide)).2.1 (fu_okN (by decide) f5 (by omega)) (fu_gd_cons (by omega) (f0 5 (by decide)).2.1 (fu_okN (by decide) f6 (by omega)) (fu_gd_cons (by omega) (f0 6 (by decide)).2.1 (by unfold fu_ok; rw [f7]; decide) (fu_gd_cons (by omega) (by decide) (fu_okN (by decide) fu_f0.1.2.2.1 (by omega)) fu_gd_nil)))))))
    · exact fu_gd_nil
  · exact fu_gd_nil
theorem fu_g_ask {B : Nat → Int32} {a b : Int32} (hB : fu_BT B) : fu_gd (fu_ofl B 4 100 a b).2 := by
  obtain ⟨L, L10, eL⟩ := fu_n2 hB
  unfold fu_ofl
  split
  · rename_i e
    simp only [Bool.and_eq_true] at e
    obtain ⟨e1, e2⟩ := e
    rw [eL, kx_ti (by omega)] at e1
    obtain ⟨x, x5, rfl, x6, x7⟩ := fu_in_n (u := 10) e1 (by omega) (by omega)
    have e2 := fu_in_t e2
    rw [fu_tn (by omega)]
    have hm : x < 10 := by omega
    obtain ⟨f0, -, -, -, -, f5, -, -⟩ := fu_flo x hm
    exact fu_gd_cons (by omega) (f0 4 (by decide)).2.1 (fu_okI (a := 0) (b := 100) f5 (by omega) (by omega)) fu_gd_nil
  · exact fu_gd_nil
theorem fu_g_drain {B : Nat → Int32} {a b : Int32} (hB : fu_BT B) : fu_gd (fu_ofl B 5 9 a b).2 := by
  obtain ⟨L, L10, eL⟩ := fu_n2 hB
  unfold fu_ofl
  split
  · rename_i e
    simp only [Bool.and_eq_true] at e
    obtain ⟨e1, e2⟩ := e
    rw [eL, kx_ti (by omega)] at e1
    obtain ⟨x, x5, rfl, x6, x7⟩ := fu_in_n (u := 10) e1 (by omega) (by omega)
    have e2 := fu_in_t e2
    rw [fu_tn (by omega)]
    have hm : x < 10 := by omega
    obtain ⟨f0, -, -, -, -, -, f6, -⟩ := fu_flo x hm
    exact fu_gd_cons (by omega) (f0 5 (by decide)).2.1 (fu_okI (a := 0) (b := 9) f6 (by omega) (by omega)) fu_gd_nil
  · exact fu_gd_nil
theorem fu_g_put {B : Nat → Int32} {a b : Int32} : fu_gd (fu_put B a b).2 := by
  unfold fu_put
  by_cases e : (fu_in a 0 1 && fu_in b 1 (if a.toInt = 0 then 20 else 9)) = true
  · rw [if_pos e]
    rw [Bool.and_eq_true] at e
    obtain ⟨e1, e2⟩ := e
    obtain ⟨x, x5, rfl, x6, x7⟩ := fu_in_n (u := 1) e1 (by omega) (by omega)
    have e2 := fu_in_t e2
    rw [fu_tn (by omega)]
    rcases (show x = 0 ∨ x = 1 by omega) with rfl | rfl
    · rw [if_pos (by decide)] at e2
      exact fu_gd_cons (by omega) (by decide) (fu_okI (a := 1) (b := 20) fu_f0.1.2.2.2.2.1 (by omega) (by omega)) fu_gd_nil
    · rw [if_neg (by decide)] at e2
      exact fu_gd_cons (by omega) (by decide) (fu_okI (a := 1) (b := 9) fu_f0.1.2.2.2.2.2 (by omega) (by omega)) fu_gd_nil
  · rw [if_neg e]
    exact fu_gd_nil
theorem fu_g_clr {B : Nat → Int32} {a : Int32} : fu_gd (fu_clr B a).2 := by
  unfold fu_clr
  split
  · rename_i e1
    obtain ⟨x, x5, rfl, x6, x7⟩ := fu_in_n (u := 1) e1 (by omega) (by omega)
    rw [fu_tn (by omega)]
    have hx : x < 2 := by omega
    exact fu_gd_cons (by omega) (fu_te (fu_fby x hx).2.1) (fu_okN (by decide) (fu_fby x hx).2.2 (by omega)) fu_gd_nil
  · exact fu_gd_nil
theorem fu_g_unl {B : Nat → Int32} : fu_gd (fu_unl B).2 := fu_gd_cons (by omega) (by decide) (fu_okN (by decide) fu_f0.1.2.2.2.1 (by omega)) fu_gd_nil
end
section
-- 99.zp6
/-! ===== bounds, places, doors, mules, loads, sides: both sides ===== -/
theorem fu_jlt {a b : Int64} : (kc_cnd .lt (kc_lcmp a b).toInt 0 = true) ↔ a.toInt < b.toInt := by
  unfold kc_lcmp
  by_cases h1 : b.toInt < a.toInt
  · rw [if_pos h1]
    constructor
    · intro q; exact absurd q (by decide)
    · intro q; omega
  · rw [if_neg h1]
    by_cases h2 : a.toInt < b.toInt
    · rw [if_pos h2]
      exact ⟨fun _ => by omega, fun _ => by decide⟩
    · rw [if_neg h2]
      constructor
      · intro q; exact absurd q (by decide)
      · intro q; omega
theorem fu_jgt {a b : Int64} : (kc_cnd .gt (kc_lcmp a b).toInt 0 = true) ↔ b.toInt < a.toInt := by
  unfold kc_lcmp
  by_cases h1 : b.toInt < a.toInt
  · rw [if_pos h1]
    exact ⟨fun _ => by omega, fun _ => by decide⟩
  · rw [if_neg h1]
    by_cases h2 : a.toInt < b.toInt
    · rw [if_pos h2]
      constructor
      · intro q; exact absurd q (by decide)
      · intro q; omega
    · rw [if_neg h2]
      constructor
      · intro q; exact absurd q (by decide)
      · intro q; omega
theorem fu_ilt {a b : Int} : (kc_cnd .lt a b = true) ↔ a < b := by unfold kc_cnd; exact decide_eq_true_iff
theorem fu_igt {a b : Int} : (kc_cnd .gt a b = true) ↔ b < a := by unfold kc_cnd; exact decide_eq_true_iff
theorem fu_ieq {a b : Int} : (kc_cnd .eq a b = true) ↔ a = b := by unfold kc_cnd; exact decide_eq_true_iff
theorem fu_ine {a b : Int} : (kc_cnd .ne a b = true) ↔ ¬ a = b := by unfold kc_cnd; rw [Bool.not_eq_true', decide_eq_false_iff_not]
theorem fu_ige {a b : Int} : (kc_cnd .ge a b = true) ↔ ¬ a < b := by unfold kc_cnd; rw [Bool.not_eq_true', decide_eq_false_iff_not]
theorem fu_ile {a b : Int} : (kc_cnd .le a b = true) ↔ ¬ b < a := by unfold kc_cnd; rw [Bool.not_eq_true', decide_eq_false_iff_not]
theorem fu_in0 {a : Int32} {lo hi : Int} (h : ¬ (lo ≤ a.toInt ∧ a.toInt ≤ hi)) : fu_in a lo hi = false := decide_eq_false h
theorem fu_in1 {a : Int32} {lo hi : Int} (h : lo ≤ a.toInt ∧ a.toInt ≤ hi) : fu_in a lo hi = true := decide_eq_true h
theorem fu_dec : ∀ M, M < 12 → (Int32.ofNat M - Int32.ofNat 1).toInt = (M : Int) - 1 := by decide
set_option maxRecDepth 20000 in
theorem fu_bt {g : kc_G} {d : Nat} {h : kc_H} {a : Int32} {v u : Int32} {lo hi : Int} (hg : kc_ok g) (h1 : v.toInt = lo) (h2 : u.toInt = hi) : kc_Con g (d + 1) 19 [.inl a, .inl v, .inl u] h (fun rv h' => rv = some (.inl (kp_b (fu_in a lo hi))) ∧ h' = h) := by
  refine kc_Con_new hg (M := wk_m19) rfl rfl rfl (show 3 ≤ 3 by decide) ?_
  refine kx_go 3 (pc' := (if kc_cnd .lt (a).toInt (v).toInt then 14 else 5)) (L' := [(0, .inl (a)), (1, .inl (v)), (2, .inl (u))]) (S' := []) (h' := h) (by with_unfolding_all rfl) ?_
  by_cases e1 : a.toInt < v.toInt
  · rw [if_pos (fu_ilt.mpr e1)]
    refine kx_go 1 (pc' := 15) (L' := [(0, .inl (a)), (1, .inl (v)), (2, .inl (u))]) (S' := [.inl (Int32.ofNat 0)]) (h' := h) (by with_unfolding_all rfl) ?_
    exact kc_ret_ok rfl (rv := some (.inl (Int32.ofNat 0))) rfl ⟨by rw [fu_in0 (by omega)]; rfl, rfl⟩
  · rw [if_neg (fun q => e1 (fu_ilt.mp q))]
    refine kx_go 3 (pc' := (if kc_cnd .gt (a).toInt (u).toInt then 14 else 10)) (L' := [(0, .inl (a)), (1, .inl (v)), (2, .inl (u))]) (S' := []) (h' := h) (by with_unfolding_all rfl) ?_
    by_cases e2 : u.toInt < a.toInt
    · rw [if_pos (fu_igt.mpr e2)]
      refine kx_go 1 (pc' := 15) (L' := [(0, .inl (a)), (1, .inl (v)), (2, .inl (u))]) (S' := [.inl (Int32.ofNat 0)]) (h' := h) (by with_unfolding_all rfl) ?_
      exact kc_ret_ok rfl (rv := some (.inl (Int32.ofNat 0))) rfl ⟨by rw [fu_in0 (by omega)]; rfl, rfl⟩
    · rw [if_neg (fun q => e2 (fu_igt.mp q))]
      refine kx_go 2 (pc' := 15) (L' := [(0, .inl (a)), (1, .inl (v)), (2, .inl (u))]) (S' := [.inl (Int32.ofNat 1)]) (h' := h) (by with_unfolding_all rfl) ?_
      exact kc_ret_ok rfl (rv := some (.inl (Int32.ofNat 1))) rfl ⟨by rw [fu_in1 (by omega)]; rfl, rfl⟩
set_option maxRecDepth 20000 in
theorem fu_li {g : kc_G} {d : Nat} {h : kc_H} {a : Int32} {v u : Int64} {lo hi : Int} (hg : kc_ok g) (h1 : v.toInt = lo) (h2 : u.toInt = hi) : kc_Con g (d + 1) 22 [.inr (.inl a.toInt64), .inr (.inl v), .inr (.inl u)] h (fun rv h' => rv = some (.inl (kp_b (fu_in a lo hi))) ∧ h' = h) := by
  refine kc_Con_new hg (M := wk_m22) rfl rfl rfl (show 6 ≤ 6 by decide) ?_
  have ha := Int32.toInt_toInt64 a
  refine kx_go 4 (pc' := (if kc_cnd .lt (kc_lcmp a.toInt64 v).toInt 0 then 17 else 6)) (L' := [(0, .inr (.inl (a.toInt64))), (2, .inr (.inl (v))), (4, .inr (.inl (u)))]) (S' := []) (h' := h) (by with_unfolding_all rfl) ?_
  by_cases e1 : a.toInt64.toInt < v.toInt
  · rw [if_pos (fu_jlt.mpr e1)]
    refine kx_go 1 (pc' := 18) (L' := [(0, .inr (.inl (a.toInt64))), (2, .inr (.inl (v))), (4, .inr (.inl (u)))]) (S' := [.inl (Int32.ofNat 0)]) (h' := h) (by with_unfolding_all rfl) ?_
    exact kc_ret_ok rfl (rv := some (.inl (Int32.ofNat 0))) rfl ⟨by rw [fu_in0 (by omega)]; rfl, rfl⟩
  · rw [if_neg (fun q => e1 (fu_jlt.mp q))]
    refine kx_go 4 (pc' := (if kc_cnd .gt (kc_lcmp a.toInt64 u).toInt 0 then 17 else 13)) (L' := [(0, .inr (.inl (a.toInt64))), (2, .inr (.inl (v))), (4, .inr (.inl (u)))]) (S' := []) (h' := h) (by with_unfolding_all rfl) ?_
    by_cases e2 : u.toInt < a.toInt64.toInt
    · rw [if_pos (fu_jgt.mpr e2)]
      refine kx_go 1 (pc' := 18) (L' := [(0, .inr (.inl (a.toInt64))), (2, .inr (.inl (v))), (4, .inr (.inl (u)))]) (S' := [.inl (Int32.ofNat 0)]) (h' := h) (by with_unfolding_all rfl) ?_
      exact kc_ret_ok rfl (rv := some (.inl (Int32.ofNat 0))) rfl ⟨by rw [fu_in0 (by omega)]; rfl, rfl⟩
    · rw [if_neg (fun q => e2 (fu_jgt.mp q))]
      refine kx_go 2 (pc' := 18) (L' := [(0, .inr (.inl (a.toInt64))), (2, .inr (.inl (v))), (4, .inr (.inl (u)))]) (S' := [.inl (Int32.ofNat 1)]) (h' := h) (by with_unfolding_all rfl) ?_
      exact kc_ret_ok rfl (rv := some (.inl (Int32.ofNat 1))) rfl ⟨by rw [fu_in1 (by omega)]; rfl, rfl⟩
set_option maxRecDepth 20000 in
theorem fu_c18 {g : kc_G} {d : Nat} {h : kc_H} {B : Nat → Int32} {a : Int32} (hg : kc_ok g) (hC : fu_C B 1 h) : kc_Con g (d + 2) 18 [.inr (.inr (.inl (some 1))), .inl a] h (fun rv h' => rv = some (.inl (kp_b (fu_in a 0 (B 0).toInt))) ∧ h' = h) := by
  refine kc_Con_new hg (M := wk_m18) rfl rfl rfl (show 2 ≤ 2 by decide) ?_
  refine kx_go 3 (pc' := 3) (L' := [(0, .inr (.inr (.inl (some 1)))), (1, .inl (a))]) (S' := [.inr (.inr (.inl (some 1))), .inl (Int32.ofNat 0), .inl (a)]) (h' := h) (by with_unfolding_all rfl) ?_
  refine kx_getf (c := 1) (v := .inl (B 0)) rfl (by decide) (fu_C0 hC).1 ?_
  refine kc_call_rule (M2 := wk_m19) (av := [.inl (a), .inl (Int32.ofNat 0), .inl (B 0)]) (r := []) rfl rfl (kc_Con_le (fu_bt (d := 0) (lo := 0) (hi := (B 0).toInt) hg rfl rfl) (by omega)) (fun rv h2 hq => ?_)
  obtain ⟨rfl, e⟩ := hq
  rw [e]
  clear e
  cases fu_in a 0 (B 0).toInt with
  | false => exact kc_ret_ok rfl (rv := some (.inl (kp_b false))) rfl ⟨rfl, rfl⟩
  | true => exact kc_ret_ok rfl (rv := some (.inl (kp_b true))) rfl ⟨rfl, rfl⟩
set_option maxRecDepth 20000 in
theorem fu_c25 {g : kc_G} {d : Nat} {h : kc_H} {B : Nat → Int32} {a : Int32} (hg : kc_ok g) (hC : fu_C B 1 h) : kc_Con g (d + 2) 25 [.inr (.inr (.inl (some 1))), .inl a] h (fun rv h' => rv = some (.inl (kp_b (fu_in a 1 (B 0).toInt))) ∧ h' = h) := by
  refine kc_Con_new hg (M := wk_m25) rfl rfl rfl (show 2 ≤ 2 by decide) ?_
  refine kx_go 3 (pc' := 3) (L' := [(0, .inr (.inr (.inl (some 1)))), (1, .inl (a))]) (S' := [.inr (.inr (.inl (some 1))), .inl (Int32.ofNat 1), .inl (a)]) (h' := h) (by with_unfolding_all rfl) ?_
  refine kx_getf (c := 1) (v := .inl (B 0)) rfl (by decide) (fu_C0 hC).1 ?_
  refine kc_call_rule (M2 := wk_m19) (av := [.inl (a), .inl (Int32.ofNat 1), .inl (B 0)]) (r := []) rfl rfl (kc_Con_le (fu_bt (d := 0) (lo := 1) (hi := (B 0).toInt) hg rfl rfl) (by omega)) (fun rv h2 hq => ?_)
  obtain ⟨rfl, e⟩ := hq
  rw [e]
  clear e
  cases fu_in a 1 (B 0).toInt with
  | false => exact kc_ret_ok rfl (rv := some (.inl (kp_b false))) rfl ⟨rfl, rfl⟩
  | true => exact kc_ret_ok rfl (rv := some (.inl (kp_b true))) rfl ⟨rfl, rfl⟩
set_option maxRecDepth 20000 in
theorem fu_c38 {g : kc_G} {d : Nat} {h : kc_H} {B : Nat → Int32} {a : Int32} (hg : kc_ok g) (hC : fu_C B 1 h) (hB : fu_BT B) : kc_Con g (d + 2) 38 [.inr (.inr (.inl (some 1))), .inl a] h (fun rv h' => rv = some (.inl (kp_b (fu_in a 0 ((B 1).toInt - 1)))) ∧ h' = h) := by
  refine kc_Con_new hg (M := wk_m38) rfl rfl rfl (show 2 ≤ 2 by decide) ?_
  obtain ⟨K, K1, eK⟩ := fu_n1 hB
  refine kx_go 3 (pc' := 3) (L' := [(0, .inr (.inr (.inl (some 1)))), (1, .inl (a))]) (S' := [.inr (.inr (.inl (some 1))), .inl (Int32.ofNat 0), .inl (a)]) (h' := h) (by with_unfolding_all rfl) ?_
  refine kx_getf (c := 1) (v := .inl (B 1)) rfl (by decide) (fu_C0 hC).2.1 ?_
  refine kx_go 2 (pc' := 8) (L' := [(0, .inr (.inr (.inl (some 1)))), (1, .inl (a))]) (S' := [.inl ((B 1) - (Int32.ofNat 1)), .inl (Int32.ofNat 0), .inl (a)]) (h' := h) (by with_unfolding_all rfl) ?_
  refine kc_call_rule (M2 := wk_m19) (av := [.inl (a), .inl (Int32.ofNat 0), .inl ((B 1) - (Int32.ofNat 1))]) (r := []) rfl rfl (kc_Con_le (fu_bt (d := 0) (lo := 0) (hi := ((B 1).toInt - 1)) hg rfl (by rw [eK, fu_dec _ (by omega), kx_ti (by omega)])) (by omega)) (fun rv h2 hq => ?_)
  obtain ⟨rfl, e⟩ := hq
  rw [e]
  clear e
  cases fu_in a 0 ((B 1).toInt - 1) with
  | false => exact kc_ret_ok rfl (rv := some (.inl (kp_b false))) rfl ⟨rfl, rfl⟩
  | true => exact kc_ret_ok rfl (rv := some (.inl (kp_b true))) rfl ⟨rfl, rfl⟩
set_option maxRecDepth 20000 in
theorem fu_c46 {g : kc_G} {d : Nat} {h : kc_H} {B : Nat → Int32} {a : Int32} (hg : kc_ok g) (hC : fu_C B 1 h) (hB : fu_BT B) : kc_Con g (d + 2) 46 [.inr (.inr (.inl (some 1))), .inl a] h (fun rv h' => rv = some (.inl (kp_b (fu_in a 0 ((B 2).toInt - 1)))) ∧ h' = h) := by
  refine kc_Con_new hg (M := wk_m46) rfl rfl rfl (show 2 ≤ 2 by decide) ?_
  obtain ⟨K, K1, eK⟩ := fu_n2 hB
  refine kx_go 3 (pc' := 3) (L' := [(0, .inr (.inr (.inl (some 1)))), (1, .inl (a))]) (S' := [.inr (.inr (.inl (some 1))), .inl (Int32.ofNat 0), .inl (a)]) (h' := h) (by with_unfolding_all rfl) ?_
  refine kx_getf (c := 1) (v := .inl (B 2)) rfl (by decide) (fu_C0 hC).2.2.1 ?_
  refine kx_go 2 (pc' := 8) (L' := [(0, .inr (.inr (.inl (some 1)))), (1, .inl (a))]) (S' := [.inl ((B 2) - (Int32.ofNat 1)), .inl (Int32.ofNat 0), .inl (a)]) (h' := h) (by with_unfolding_all rfl) ?_
  refine kc_call_rule (M2 := wk_m19) (av := [.inl (a), .inl (Int32.ofNat 0), .inl ((B 2) - (Int32.ofNat 1))]) (r := []) rfl rfl (kc_Con_le (fu_bt (d := 0) (lo := 0) (hi := ((B 2).toInt - 1)) hg rfl (by rw [eK, fu_dec _ (by omega), kx_ti (by omega)])) (by omega)) (fun rv h2 hq => ?_)
  obtain ⟨rfl, e⟩ := hq
  rw [e]
  clear e
  cases fu_in a 0 ((B 2).toInt - 1) with
  | false => exact kc_ret_ok rfl (rv := some (.inl (kp_b false))) rfl ⟨rfl, rfl⟩
  | true => exact kc_ret_ok rfl (rv := some (.inl (kp_b true))) rfl ⟨rfl, rfl⟩
set_option maxRecDepth 20000 in
theorem fu_c37 {g : kc_G} {d : Nat} {h : kc_H} {B : Nat → Int32} {a b : Int32} (hg : kc_ok g) (hC : fu_C B 1 h) (hB : fu_BT B) : kc_Con g (d + 3) 37 [.inr (.inr (.inl (some 1))), .inl a, .inl b] h (fun rv h' => rv = some (.inl (kp_b (fu_in a 0 ((B 1).toInt - 1) && fu_in b 0 1))) ∧ h' = h) := by
  refine kc_Con_new hg (M := wk_m37) rfl rfl rfl (show 3 ≤ 3 by decide) ?_
  refine kx_go 2 (pc' := 2) (L' := [(0, .inr (.inr (.inl (some 1)))), (1, .inl (a)), (2, .inl (b))]) (S' := [.inl (a), .inr (.inr (.inl (some 1)))]) (h' := h) (by with_unfolding_all rfl) ?_
  refine kc_call_rule (M2 := wk_m38) (av := [.inr (.inr (.inl (some 1))), .inl (a)]) (r := []) rfl rfl (kc_Con_le (fu_c38 (d := 0) hg hC hB) (by omega)) (fun rv h2 hq => ?_)
  obtain ⟨rfl, e⟩ := hq
  rw [e]
  clear e
  show kc_Ev g (d + 2) wk_m37 _ 5 [(0, .inr (.inr (.inl (some 1)))), (1, .inl (a)), (2, .inl (b))] [.inl (kp_b (fu_in a 0 ((B 1).toInt - 1)))] h
  refine kx_go 1 (pc' := (if kc_cnd .eq (kp_b (fu_in a 0 ((B 1).toInt - 1))).toInt 0 then 21 else 8)) (L' := [(0, .inr (.inr (.inl (some 1)))), (1, .inl (a)), (2, .inl (b))]) (S' := []) (h' := h) (by with_unfolding_all rfl) ?_
  cases e1 : fu_in a 0 ((B 1).toInt - 1) with
  | false =>
    rw [if_pos (kx_b0.mpr rfl)]
    refine kx_go 1 (pc' := 22) (L' := [(0, .inr (.inr (.inl (some 1)))), (1, .inl (a)), (2, .inl (b))]) (S' := [.inl (Int32.ofNat 0)]) (h' := h) (by with_unfolding_all rfl) ?_
    exact kc_ret_ok rfl (rv := some (.inl (Int32.ofNat 0))) rfl ⟨rfl, rfl⟩
  | true =>
    rw [if_neg (fun q => by have := kx_b0.mp q; cases this)]
    refine kx_go 3 (pc' := 11) (L' := [(0, .inr (.inr (.inl (some 1)))), (1, .inl (a)), (2, .inl (b))]) (S' := [.inl (Int32.ofNat 1), .inl (Int32.ofNat 0), .inl (b)]) (h' := h) (by with_unfolding_all rfl) ?_
    refine kc_call_rule (M2 := wk_m19) (av := [.inl (b), .inl (Int32.ofNat 0), .inl (Int32.ofNat 1)]) (r := []) rfl rfl (kc_Con_le (fu_bt (d := 0) (lo := 0) (hi := 1) hg rfl rfl) (by omega)) (fun rv h2 hq => ?_)
    obtain ⟨rfl, e⟩ := hq
    rw [e]
    clear e
    show kc_Ev g (d + 2) wk_m37 _ 14 [(0, .inr (.inr (.inl (some 1)))), (1, .inl (a)), (2, .inl (b))] [.inl (kp_b (fu_in b 0 1))] h
    refine kx_go 1 (pc' := (if kc_cnd .eq (kp_b (fu_in b 0 1)).toInt 0 then 21 else 17)) (L' := [(0, .inr (.inr (.inl (some 1)))), (1, .inl (a)), (2, .inl (b))]) (S' := []) (h' := h) (by with_unfolding_all rfl) ?_
    cases e2 : fu_in b 0 1 with
    | false =>
      rw [if_pos (kx_b0.mpr rfl)]
      refine kx_go 1 (pc' := 22) (L' := [(0, .inr (.inr (.inl (some 1)))), (1, .inl (a)), (2, .inl (b))]) (S' := [.inl (Int32.ofNat 0)]) (h' := h) (by with_unfolding_all rfl) ?_
      exact kc_ret_ok rfl (rv := some (.inl (Int32.ofNat 0))) rfl ⟨rfl, rfl⟩
    | true =>
      rw [if_neg (fun q => by have := kx_b0.mp q; cases this)]
      refine kx_go 2 (pc' := 22) (L' := [(0, .inr (.inr (.inl (some 1)))), (1, .inl (a)), (2, .inl (b))]) (S' := [.inl (Int32.ofNat 1)]) (h' := h) (by with_unfolding_all rfl) ?_
      exact kc_ret_ok rfl (rv := some (.inl (Int32.ofNat 1))) rfl ⟨rfl, rfl⟩
set_option maxRecDepth 20000 in
theorem fu_r21 {g : kc_G} {d : Nat} {h : kc_H} {B : Nat → Int32} {a : Int32} (hg : kc_ok g) (hw : kd_wt kd_ty h) (hC : fu_B B h) : kc_Con g (d + 2) 21 [.inr (.inr (.inl (some 259))), .inl a] h (fun rv h' => rv = some (.inl (kp_b (fu_in a 0 (B 0).toInt))) ∧ h' = h) := by
  refine kc_Con_new hg (M := wk_m21) rfl rfl rfl (show 2 ≤ 2 by decide) ?_
  refine kx_go 4 (pc' := 4) (L' := [(0, .inr (.inr (.inl (some 259)))), (1, .inl (a))]) (S' := [.inr (.inr (.inl (some 259))), .inr (.inl (Int64.ofNat 0)), .inr (.inl (a.toInt64))]) (h' := h) (by with_unfolding_all rfl) ?_
  refine kx_getf (c := 259) (v := .inr (.inr (.inl (some 260)))) rfl (by decide) (kx_ofr (hw _ _ _ kz_k.1)) ?_
  refine kx_go 1 (pc' := 8) (L' := [(0, .inr (.inr (.inl (some 259)))), (1, .inl (a))]) (S' := [.inl (Int32.ofNat 0), .inr (.inr (.inl (some 260))), .inr (.inl (Int64.ofNat 0)), .inr (.inl (a.toInt64))]) (h' := h) (by with_unfolding_all rfl) ?_
  refine kx_iald (c := 260) (j := 0) (m := 650) (v := .inl (B 0)) rfl rfl (by decide) (by decide) (by decide) (hC 0 (by decide) (by decide)) ?_
  refine kx_go 1 (pc' := 10) (L' := [(0, .inr (.inr (.inl (some 259)))), (1, .inl (a))]) (S' := [.inr (.inl ((B 0).toInt64)), .inr (.inl (Int64.ofNat 0)), .inr (.inl (a.toInt64))]) (h' := h) (by with_unfolding_all rfl) ?_
  refine kc_call_rule (M2 := wk_m22) (av := [.inr (.inl (a.toInt64)), .inr (.inl (Int64.ofNat 0)), .inr (.inl ((B 0).toInt64))]) (r := []) rfl rfl (kc_Con_le (fu_li (d := 0) (lo := 0) (hi := (B 0).toInt) hg rfl (Int32.toInt_toInt64 _)) (by omega)) (fun rv h2 hq => ?_)
  obtain ⟨rfl, e⟩ := hq
  rw [e]
  clear e
  cases fu_in a 0 (B 0).toInt with
  | false => exact kc_ret_ok rfl (rv := some (.inl (kp_b false))) rfl ⟨rfl, rfl⟩
  | true => exact kc_ret_ok rfl (rv := some (.inl (kp_b true))) rfl ⟨rfl, rfl⟩
set_option maxRecDepth 20000 in
theorem fu_r27 {g : kc_G} {d : Nat} {h : kc_H} {B : Nat → Int32} {a : Int32} (hg : kc_ok g) (hw : kd_wt kd_ty h) (hC : fu_B B h) : kc_Con g (d + 2) 27 [.inr (.inr (.inl (some 259))), .inl a] h (fun rv h' => rv = some (.inl (kp_b (fu_in a 1 (B 0).toInt))) ∧ h' = h) := by
  refine kc_Con_new hg (M := wk_m27) rfl rfl rfl (show 2 ≤ 2 by decide) ?_
  refine kx_go 4 (pc' := 4) (L' := [(0, .inr (.inr (.inl (some 259)))), (1, .inl (a))]) (S' := [.inr (.inr (.inl (some 259))), .inr (.inl (Int64.ofNat 1)), .inr (.inl (a.toInt64))]) (h' := h) (by with_unfolding_all rfl) ?_
  refine kx_getf (c := 259) (v := .inr (.inr (.inl (some 260)))) rfl (by decide) (kx_ofr (hw _ _ _ kz_k.1)) ?_
  refine kx_go 1 (pc' := 8) (L' := [(0, .inr (.inr (.inl (some 259)))), (1, .inl (a))]) (S' := [.inl (Int32.ofNat 0), .inr (.inr (.inl (some 260))), .inr (.inl (Int64.ofNat 1)), .inr (.inl (a.toInt64))]) (h' := h) (by with_unfolding_all rfl) ?_
  refine kx_iald (c := 260) (j := 0) (m := 650) (v := .inl (B 0)) rfl rfl (by decide) (by decide) (by decide) (hC 0 (by decide) (by decide)) ?_
  refine kx_go 1 (pc' := 10) (L' := [(0, .inr (.inr (.inl (some 259)))), (1, .inl (a))]) (S' := [.inr (.inl ((B 0).toInt64)), .inr (.inl (Int64.ofNat 1)), .inr (.inl (a.toInt64))]) (h' := h) (by with_unfolding_all rfl) ?_
  refine kc_call_rule (M2 := wk_m22) (av := [.inr (.inl (a.toInt64)), .inr (.inl (Int64.ofNat 1)), .inr (.inl ((B 0).toInt64))]) (r := []) rfl rfl (kc_Con_le (fu_li (d := 0) (lo := 1) (hi := (B 0).toInt) hg rfl (Int32.toInt_toInt64 _)) (by omega)) (fun rv h2 hq => ?_)
  obtain ⟨rfl, e⟩ := hq
  rw [e]
  clear e
  cases fu_in a 1 (B 0).toInt with
  | false => exact kc_ret_ok rfl (rv := some (.inl (kp_b false))) rfl ⟨rfl, rfl⟩
  | true => exact kc_ret_ok rfl (rv := some (.inl (kp_b true))) rfl ⟨rfl, rfl⟩
set_option maxRecDepth 20000 in
theorem fu_r40 {g : kc_G} {d : Nat} {h : kc_H} {B : Nat → Int32} {a : Int32} (hg : kc_ok g) (hw : kd_wt kd_ty h) (hC : fu_B B h) (hB : fu_BT B) : kc_Con g (d + 2) 40 [.inr (.inr (.inl (some 259))), .inl a] h (fun rv h' => rv = some (.inl (kp_b (fu_in a 0 ((B 1).toInt - 1)))) ∧ h' = h) := by
  refine kc_Con_new hg (M := wk_m40) rfl rfl rfl (show 2 ≤ 2 by decide) ?_
  obtain ⟨K, K1, eK⟩ := fu_n1 hB
  refine kx_go 4 (pc' := 4) (L' := [(0, .inr (.inr (.inl (some 259)))), (1, .inl (a))]) (S' := [.inr (.inr (.inl (some 259))), .inr (.inl (Int64.ofNat 0)), .inr (.inl (a.toInt64))]) (h' := h) (by with_unfolding_all rfl) ?_
  refine kx_getf (c := 259) (v := .inr (.inr (.inl (some 260)))) rfl (by decide) (kx_ofr (hw _ _ _ kz_k.1)) ?_
  refine kx_go 1 (pc' := 8) (L' := [(0, .inr (.inr (.inl (some 259)))), (1, .inl (a))]) (S' := [.inl (Int32.ofNat 1), .inr (.inr (.inl (some 260))), .inr (.inl (Int64.ofNat 0)), .inr (.inl (a.toInt64))]) (h' := h) (by with_unfolding_all rfl) ?_
  refine kx_iald (c := 260) (j := 1) (m := 650) (v := .inl (B 1)) rfl rfl (by decide) (by decide) (by decide) (hC 1 (by decide) (by decide)) ?_
  refine kx_go 3 (pc' := 12) (L' := [(0, .inr (.inr (.inl (some 259)))), (1, .inl (a))]) (S' := [.inr (.inl (((B 1) - (Int32.ofNat 1)).toInt64)), .inr (.inl (Int64.ofNat 0)), .inr (.inl (a.toInt64))]) (h' := h) (by with_unfolding_all rfl) ?_
  refine kc_call_rule (M2 := wk_m22) (av := [.inr (.inl (a.toInt64)), .inr (.inl (Int64.ofNat 0)), .inr (.inl (((B 1) - (Int32.ofNat 1)).toInt64))]) (r := []) rfl rfl (kc_Con_le (fu_li (d := 0) (lo := 0) (hi := ((B 1).toInt - 1)) hg rfl (by rw [Int32.toInt_toInt64, eK, fu_dec _ (by omega), kx_ti (by omega)])) (by omega)) (fun rv h2 hq => ?_)
  obtain ⟨rfl, e⟩ := hq
  rw [e]
  clear e
  cases fu_in a 0 ((B 1).toInt - 1) with
  | false => exact kc_ret_ok rfl (rv := some (.inl (kp_b false))) rfl ⟨rfl, rfl⟩
  | true => exact kc_ret_ok rfl (rv := some (.inl (kp_b true))) rfl ⟨rfl, rfl⟩
set_option maxRecDepth 20000 in
theorem fu_r48 {g : kc_G} {d : Nat} {h : kc_H} {B : Nat → Int32} {a : Int32} (hg : kc_ok g) (hw : kd_wt kd_ty h) (hC : fu_B B h) (hB : fu_BT B) : kc_Con g (d + 2) 48 [.inr (.inr (.inl (some 259))), .inl a] h (fun rv h' => rv = some (.inl (kp_b (fu_in a 0 ((B 2).toInt - 1)))) ∧ h' = h) := by
  refine kc_Con_new hg (M := wk_m48) rfl rfl rfl (show 2 ≤ 2 by decide) ?_
  obtain ⟨K, K1, eK⟩ := fu_n2 hB
  refine kx_go 4 (pc' := 4) (L' := [(0, .inr (.inr (.inl (some 259)))), (1, .inl (a))]) (S' := [.inr (.inr (.inl (some 259))), .inr (.inl (Int64.ofNat 0)), .inr (.inl (a.toInt64))]) (h' := h) (by with_unfolding_all rfl) ?_
  refine kx_getf (c := 259) (v := .inr (.inr (.inl (some 260)))) rfl (by decide) (kx_ofr (hw _ _ _ kz_k.1)) ?_
  refine kx_go 1 (pc' := 8) (L' := [(0, .inr (.inr (.inl (some 259)))), (1, .inl (a))]) (S' := [.inl (Int32.ofNat 2), .inr (.inr (.inl (some 260))), .inr (.inl (Int64.ofNat 0)), .inr (.inl (a.toInt64))]) (h' := h) (by with_unfolding_all rfl) ?_
  refine kx_iald (c := 260) (j := 2) (m := 650) (v := .inl (B 2)) rfl rfl (by decide) (by decide) (by decide) (hC 2 (by decide) (by decide)) ?_
  refine kx_go 3 (pc' := 12) (L' := [(0, .inr (.inr (.inl (some 259)))), (1, .inl (a))]) (S' := [.inr (.inl (((B 2) - (Int32.ofNat 1)).toInt64)), .inr (.inl (Int64.ofNat 0)), .inr (.inl (a.toInt64))]) (h' := h) (by with_unfolding_all rfl) ?_
  refine kc_call_rule (M2 := wk_m22) (av := [.inr (.inl (a.toInt64)), .inr (.inl (Int64.ofNat 0)), .inr (.inl (((B 2) - (Int32.ofNat 1)).toInt64))]) (r := []) rfl rfl (kc_Con_le (fu_li (d := 0) (lo := 0) (hi := ((B 2).toInt - 1)) hg rfl (by rw [Int32.toInt_toInt64, eK, fu_dec _ (by omega), kx_ti (by omega)])) (by omega)) (fun rv h2 hq => ?_)
  obtain ⟨rfl, e⟩ := hq
  rw [e]
  clear e
  cases fu_in a 0 ((B 2).toInt - 1) with
  | false => exact kc_ret_ok rfl (rv := some (.inl (kp_b false))) rfl ⟨rfl, rfl⟩
  | true => exact kc_ret_ok rfl (rv := some (.inl (kp_b true))) rfl ⟨rfl, rfl⟩
set_option maxRecDepth 20000 in
theorem fu_r231 {g : kc_G} {d : Nat} {h : kc_H} {a : Int32} (hg : kc_ok g) : kc_Con g (d + 2) 231 [.inl a] h (fun rv h' => rv = some (.inl (kp_b (fu_in a 0 1))) ∧ h' = h) := by
  refine kc_Con_new hg (M := wk_m231) rfl rfl rfl (show 1 ≤ 1 by decide) ?_
  refine kx_go 4 (pc' := 4) (L' := [(0, .inl (a))]) (S' := [.inr (.inl (Int64.ofNat 1)), .inr (.inl (Int64.ofNat 0)), .inr (.inl (a.toInt64))]) (h' := h) (by with_unfolding_all rfl) ?_
  refine kc_call_rule (M2 := wk_m22) (av := [.inr (.inl (a.toInt64)), .inr (.inl (Int64.ofNat 0)), .inr (.inl (Int64.ofNat 1))]) (r := []) rfl rfl (kc_Con_le (fu_li (d := 0) (lo := 0) (hi := 1) hg rfl rfl) (by omega)) (fun rv h2 hq => ?_)
  obtain ⟨rfl, e⟩ := hq
  rw [e]
  clear e
  cases fu_in a 0 1 with
  | false => exact kc_ret_ok rfl (rv := some (.inl (kp_b false))) rfl ⟨rfl, rfl⟩
  | true => exact kc_ret_ok rfl (rv := some (.inl (kp_b true))) rfl ⟨rfl, rfl⟩
set_option maxRecDepth 20000 in
theorem fu_r57 {g : kc_G} {d : Nat} {h : kc_H} {a : Int32} (hg : kc_ok g) : kc_Con g (d + 2) 57 [.inl a] h (fun rv h' => rv = some (.inl (kp_b (fu_in a 0 1))) ∧ h' = h) := by
  refine kc_Con_new hg (M := wk_m57) rfl rfl rfl (show 1 ≤ 1 by decide) ?_
  refine kx_go 4 (pc' := 4) (L' := [(0, .inl (a))]) (S' := [.inr (.inl (Int64.ofNat 1)), .inr (.inl (Int64.ofNat 0)), .inr (.inl (a.toInt64))]) (h' := h) (by with_unfolding_all rfl) ?_
  refine kc_call_rule (M2 := wk_m22) (av := [.inr (.inl (a.toInt64)), .inr (.inl (Int64.ofNat 0)), .inr (.inl (Int64.ofNat 1))]) (r := []) rfl rfl (kc_Con_le (fu_li (d := 0) (lo := 0) (hi := 1) hg rfl rfl) (by omega)) (fun rv h2 hq => ?_)
  obtain ⟨rfl, e⟩ := hq
  rw [e]
  clear e
  cases fu_in a 0 1 with
  | false => exact kc_ret_ok rfl (rv := some (.inl (kp_b false))) rfl ⟨rfl, rfl⟩
  | true => exact kc_ret_ok rfl (rv := some (.inl (kp_b true))) rfl ⟨rfl, rfl⟩
set_option maxRecDepth 20000 in
theorem fu_r31 {g : kc_G} {d j : Nat} {h : kc_H} {w : Int32} {v : Int64} (hg : kc_ok g) (hw : kd_wt kd_ty h) (hj : j < 650) (hv : h 260 j = .inl w) : kc_Con g (d + 1) 31 [.inr (.inr (.inl (some 259))), .inl (Int32.ofNat j), .inr (.inl v)] h (fun rv h' => rv = some (.inl w) ∧ h' = kc_upd h 260 j (.inl v.toInt32)) := by
  refine kc_Con_new hg (M := wk_m31) rfl rfl rfl (show 4 ≤ 5 by decide) ?_
  refine kx_go 1 (pc' := 1) (L' := [(0, .inr (.inr (.inl (some 259)))), (1, .inl (Int32.ofNat j)), (2, .inr (.inl (v)))]) (S' := [.inr (.inr (.inl (some 259)))]) (h' := h) (by with_unfolding_all rfl) ?_
  refine kx_getf (c := 259) (v := .inr (.inr (.inl (some 260)))) rfl (by decide) (kx_ofr (hw _ _ _ kz_k.1)) ?_
  refine kx_go 1 (pc' := 5) (L' := [(0, .inr (.inr (.inl (some 259)))), (1, .inl (Int32.ofNat j)), (2, .inr (.inl (v)))]) (S' := [.inl (Int32.ofNat j), .inr (.inr (.inl (some 260)))]) (h' := h) (by with_unfolding_all rfl) ?_
  refine kx_iald (c := 260) (j := j) (m := 650) (v := .inl w) rfl rfl (by decide) (by decide) hj hv ?_
  refine kx_go 2 (pc' := 9) (L' := [(4, .inl (w)), (0, .inr (.inr (.inl (some 259)))), (1, .inl (Int32.ofNat j)), (2, .inr (.inl (v)))]) (S' := [.inr (.inr (.inl (some 259)))]) (h' := h) (by with_unfolding_all rfl) ?_
  refine kx_getf (c := 259) (v := .inr (.inr (.inl (some 260)))) rfl (by decide) (kx_ofr (hw _ _ _ kz_k.1)) ?_
  refine kx_go 3 (pc' := 15) (L' := [(4, .inl (w)), (0, .inr (.inr (.inl (some 259)))), (1, .inl (Int32.ofNat j)), (2, .inr (.inl (v)))]) (S' := [.inl (v.toInt32), .inl (Int32.ofNat j), .inr (.inr (.inl (some 260)))]) (h' := h) (by with_unfolding_all rfl) ?_
  refine kx_iast (c := 260) (j := j) (m := 650) rfl rfl (by decide) (by decide) hj ?_
  refine kx_go 1 (pc' := 18) (L' := [(4, .inl (w)), (0, .inr (.inr (.inl (some 259)))), (1, .inl (Int32.ofNat j)), (2, .inr (.inl (v)))]) (S' := [.inl (w)]) (h' := (kc_upd h 260 j (.inl v.toInt32))) (by with_unfolding_all rfl) ?_
  exact kc_ret_ok rfl (rv := some (.inl w)) rfl ⟨rfl, rfl⟩
end
