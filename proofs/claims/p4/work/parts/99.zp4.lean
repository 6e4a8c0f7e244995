/-! ===== the whole told state, by the places of the reference's book ===== -/
def fu_p (j : Nat) : Nat × Nat := if j < 4 then (0, j) else if j < 6 then (25, j - 4) else if j < 46 then (2 + (j - 10) / 6, (j - 10) % 6) else if j < 52 then (8, j - 46) else if j < 60 then (9, j - 52) else if j < 80 then (11 + (j - 60) / 5, (j - 60) % 5) else if j < 150 then (15 + (j - 80) / 7, (j - 80) % 7) else if j < 160 then (26, j - 150) else if j < 170 then (30, j - 160) else (28 + (j - 170) / 240, (j - 170) % 240)
def fu_q (c i : Nat) : Nat := if c = 0 then i else if c = 25 then 4 + i else if c < 8 then 10 + 6 * (c - 2) + i else if c = 8 then 46 + i else if c = 9 then 52 + i else if c < 14 then 60 + 5 * (c - 11) + i else if c < 25 then 80 + 7 * (c - 15) + i else if c = 26 then 150 + i else if c = 30 then 160 + i else 170 + 240 * (c - 28) + i
def fu_e (j : Nat) : Bool := Nat.blt j 6 || ((Nat.ble 10 j && Nat.blt j 58) || ((Nat.ble 60 j && Nat.blt j 75) || ((Nat.ble 80 j && Nat.blt j 155) || ((Nat.ble 160 j && Nat.blt j 162) || (Nat.ble 170 j && Nat.blt j 650)))))
def fu_t (j : Nat) : Bool := fu_e j && !(Nat.ble 80 j && (Nat.blt j 150 && Nat.beq ((j - 80) % 7) 6))
def fu_ty (j : Nat) : Nat × Nat := match kd_rn (kd_ty (1 + (fu_p j).1)) (fu_p j).2 with
  | some (0, a, b) => (a, b)
  | _ => (1, 0)
def fu_k1 (j : Nat) : Bool := !(fu_e j) || (Nat.beq (fu_q (fu_p j).1 (fu_p j).2) j && (Nat.blt (fu_p j).1 31 && Nat.blt (fu_p j).2 (kt_ln (fu_p j).1)))
theorem fu_k1_all : ∀ j, j < 650 → fu_k1 j = true := by decide +kernel
def fu_k2 (j : Nat) : Bool := !(fu_e j) || ((match kd_rn (kd_ty (1 + (fu_p j).1)) (fu_p j).2 with
  | some (0, _, _) => true
  | _ => false) && (match kd_rn (kd_ty 260) j with
  | some (0, a, b) => Nat.ble a (fu_ty j).1 && Nat.ble (fu_ty j).2 b
  | _ => false))
theorem fu_k2_all : ∀ j, j < 650 → fu_k2 j = true := by decide +kernel
theorem fu_te {j : Nat} (h : fu_t j = true) : fu_e j = true := by
  unfold fu_t at h
  rw [Bool.and_eq_true] at h
  exact h.1
theorem fu_qp {j : Nat} (hj : j < 650) (he : fu_e j = true) : fu_q (fu_p j).1 (fu_p j).2 = j ∧ (fu_p j).1 < 31 ∧ (fu_p j).2 < kt_ln (fu_p j).1 := by
  have h := fu_k1_all j hj
  unfold fu_k1 at h
  rw [he] at h
  simp only [Bool.not_true, Bool.false_or, Bool.and_eq_true] at h
  exact ⟨Nat.eq_of_beq_eq_true h.1, Nat.le_of_ble_eq_true h.2.1, Nat.le_of_ble_eq_true h.2.2⟩
theorem fu_inj {j k : Nat} (hj : j < 650) (ej : fu_e j = true) (hk : k < 650) (ek : fu_e k = true) (h1 : (fu_p j).1 = (fu_p k).1) (h2 : (fu_p j).2 = (fu_p k).2) : j = k := by
  rw [← (fu_qp hj ej).1, ← (fu_qp hk ek).1, h1, h2]
theorem fu_tyc {j : Nat} (hj : j < 650) (he : fu_e j = true) : kd_rn (kd_ty (1 + (fu_p j).1)) (fu_p j).2 = some (0, (fu_ty j).1, (fu_ty j).2) := by
  have h := fu_k2_all j hj
  unfold fu_k2 at h
  rw [he] at h
  simp only [Bool.not_true, Bool.false_or, Bool.and_eq_true] at h
  have h := h.1
  unfold fu_ty
  split at h
  · rename_i a b e
    rw [e]
  · cases h
theorem fu_tyr {j : Nat} (hj : j < 650) (he : fu_e j = true) : ∃ a b, kd_rn (kd_ty 260) j = some (0, a, b) ∧ a ≤ (fu_ty j).1 ∧ (fu_ty j).2 ≤ b := by
  have h := fu_k2_all j hj
  unfold fu_k2 at h
  rw [he] at h
  simp only [Bool.not_true, Bool.false_or, Bool.and_eq_true] at h
  have h := h.2
  split at h
  · rename_i a b e
    rw [Bool.and_eq_true] at h
    exact ⟨a, b, e, Nat.le_of_ble_eq_true h.1, Nat.le_of_ble_eq_true h.2⟩
  · cases h
/-- the pictures -/
def fu_C (B : Nat → Int32) (o : Nat) (h : kc_H) : Prop := ∀ j, j < 650 → fu_t j = true → h (o + (fu_p j).1) (fu_p j).2 = .inl (B j)
def fu_R (B : Nat → Int32) (r f : Nat) (h : kc_H) : Prop := ∀ j, j < 650 → fu_t j = true → h r (f + j) = .inl (B j)
def fu_B (B : Nat → Int32) (h : kc_H) : Prop := ∀ j, j < 650 → fu_t j = true → h 260 j = .inl (B j)
def fu_ok (j : Nat) (v : Int32) : Prop := (fu_ty j).1 ≤ kd_nb v ∧ kd_nb v ≤ (fu_ty j).2
theorem fu_RB {B : Nat → Int32} {h : kc_H} : fu_R B 260 0 h ↔ fu_B B h := by
  unfold fu_R fu_B
  simp only [Nat.zero_add]
theorem fu_ne {h : kc_H} {a b x y : Nat} {w : kc_V} (hx : ¬ (x = a ∧ y = b)) : kc_upd h a b w x y = h x y := if_neg hx
theorem fu_eq {h : kc_H} {a b : Nat} {w : kc_V} : kc_upd h a b w a b = w := if_pos ⟨rfl, rfl⟩
theorem fu_cm {h : kc_H} {a b x y : Nat} {w : kc_V} : kc_upd (kc_upd h a b w) x y w = kc_upd (kc_upd h x y w) a b w := by
  funext c i
  unfold kc_upd
  by_cases e1 : c = x ∧ i = y
  · rw [if_pos e1]
    by_cases e2 : c = a ∧ i = b
    · rw [if_pos e2]
    · rw [if_neg e2, if_pos e1]
  · rw [if_neg e1]
    by_cases e2 : c = a ∧ i = b
    · rw [if_pos e2, if_pos e2]
    · rw [if_neg e2, if_neg e2, if_neg e1]
/-- writings, in the places of the book -/
def fu_cw (o : Nat) : List (Nat × Int32) → kc_H → kc_H
  | [], h => h
  | q :: l, h => fu_cw o l (kc_upd h (o + (fu_p q.1).1) (fu_p q.1).2 (.inl q.2))
def fu_rw : List (Nat × Int32) → kc_H → kc_H
  | [], h => h
  | q :: l, h => fu_rw l (kc_upd h 260 q.1 (.inl q.2))
def fu_bw : List (Nat × Int32) → (Nat → Int32) → Nat → Int32
  | [], B => B
  | q :: l, B => fu_bw l (fun j => if j = q.1 then q.2 else B j)
def fu_gd (l : List (Nat × Int32)) : Prop := ∀ q ∈ l, q.1 < 650 ∧ fu_e q.1 = true ∧ fu_ok q.1 q.2
theorem fu_gd_t {q : Nat × Int32} {l : List (Nat × Int32)} (h : fu_gd (q :: l)) : fu_gd l := fun r hr => h r (List.mem_cons_of_mem _ hr)
theorem fu_gd_nil : fu_gd [] := fun q h => by cases h
theorem fu_gd_cons {j : Nat} {v : Int32} {l : List (Nat × Int32)} (h1 : j < 650) (h2 : fu_e j = true) (h3 : fu_ok j v) (h : fu_gd l) : fu_gd ((j, v) :: l) := fun q hq => by
  rcases List.mem_cons.mp hq with rfl | hq
  · exact ⟨h1, h2, h3⟩
  · exact h q hq
theorem fu_C_w {o : Nat} : ∀ {l : List (Nat × Int32)} {B : Nat → Int32} {h : kc_H}, fu_gd l → fu_C B o h → fu_C (fu_bw l B) o (fu_cw o l h)
  | [], _, _, _, hC => hC
  | q :: l, B, h, hl, hC => by
    obtain ⟨q1, q2, -⟩ := hl q List.mem_cons_self
    refine fu_C_w (l := l) (fu_gd_t hl) (fun j hj ht => ?_)
    by_cases e : j = q.1
    · subst e
      rw [fu_eq, if_pos rfl]
    · rw [if_neg e, fu_ne (fun k => e (fu_inj hj (fu_te ht) q1 q2 (by omega) k.2))]
      exact hC j hj ht
theorem fu_B_w : ∀ {l : List (Nat × Int32)} {B : Nat → Int32} {h : kc_H}, fu_B B h → fu_B (fu_bw l B) (fu_rw l h)
  | [], _, _, hC => hC
  | q :: l, B, h, hC => by
    refine fu_B_w (l := l) (fun j hj ht => ?_)
    by_cases e : j = q.1
    · subst e
      rw [fu_eq, if_pos rfl]
    · rw [if_neg e, fu_ne (fun k => e k.2)]
      exact hC j hj ht
theorem fu_cw_o {o : Nat} : ∀ {l : List (Nat × Int32)} {h : kc_H}, fu_gd l → ∀ {c i : Nat}, c < o ∨ o + 31 ≤ c → fu_cw o l h c i = h c i
  | [], _, _, _, _, _ => rfl
  | q :: l, h, hl, c, i, hc => by
    obtain ⟨q1, q2, -⟩ := hl q List.mem_cons_self
    have := (fu_qp q1 q2).2.1
    exact (fu_cw_o (l := l) (fu_gd_t hl) hc).trans (fu_ne (fun k => by omega))
theorem fu_rw_o : ∀ {l : List (Nat × Int32)} {h : kc_H} {c i : Nat}, ¬ c = 260 → fu_rw l h c i = h c i
  | [], _, _, _, _ => rfl
  | q :: l, h, c, i, hc => (fu_rw_o (l := l) hc).trans (fu_ne (fun k => hc k.1))
theorem fu_wtu {h : kc_H} {c i a b : Nat} {v : Int32} (ht : kd_rn (kd_ty c) i = some (0, a, b)) (hv : a ≤ kd_nb v ∧ kd_nb v ≤ b) (hw : kd_wt kd_ty h) : kd_wt kd_ty (kc_upd h c i (.inl v)) := by
  intro c' i' t hk
  unfold kc_upd
  split
  · rename_i e
    obtain ⟨rfl, rfl⟩ := e
    rw [ht] at hk
    cases hk
    exact ⟨v, rfl, hv.1, hv.2⟩
  · exact hw c' i' t hk
theorem fu_wt_c : ∀ {l : List (Nat × Int32)} {h : kc_H}, fu_gd l → kd_wt kd_ty h → kd_wt kd_ty (fu_cw 1 l h)
  | [], _, _, hw => hw
  | q :: l, h, hl, hw => by
    obtain ⟨q1, q2, q3⟩ := hl q List.mem_cons_self
    exact fu_wt_c (l := l) (fu_gd_t hl) (fu_wtu (fu_tyc q1 q2) q3 hw)
theorem fu_wt_r : ∀ {l : List (Nat × Int32)} {h : kc_H}, fu_gd l → kd_wt kd_ty h → kd_wt kd_ty (fu_rw l h)
  | [], _, _, hw => hw
  | q :: l, h, hl, hw => by
    obtain ⟨q1, q2, q3⟩ := hl q List.mem_cons_self
    obtain ⟨a, b, t1, t2, t3⟩ := fu_tyr q1 q2
    exact fu_wt_r (l := l) (fu_gd_t hl) (fu_wtu t1 ⟨Nat.le_trans t2 q3.1, Nat.le_trans q3.2 t3⟩ hw)
/-- typed contents -/
def fu_BT (B : Nat → Int32) : Prop := ∀ j, j < 650 → fu_t j = true → fu_ok j (B j)
theorem fu_C_T {B : Nat → Int32} {h : kc_H} (hw : kd_wt kd_ty h) (hC : fu_C B 1 h) : fu_BT B := fun j hj ht => by
  have h1 := hw _ _ _ (fu_tyc hj (fu_te ht))
  rw [hC j hj ht] at h1
  obtain ⟨v, e, a, b⟩ := h1
  cases e
  exact ⟨a, b⟩
theorem fu_BT_w : ∀ {l : List (Nat × Int32)} {B : Nat → Int32}, fu_gd l → fu_BT B → fu_BT (fu_bw l B)
  | [], _, _, hB => hB
  | q :: l, B, hl, hB => by
    obtain ⟨q1, q2, q3⟩ := hl q List.mem_cons_self
    refine fu_BT_w (l := l) (fu_gd_t hl) (fun j hj ht => ?_)
    by_cases e : j = q.1
    · subst e
      rw [if_pos rfl]
      exact q3
    · rw [if_neg e]
      exact hB j hj ht
theorem fu_nat {v : Int32} {j u : Nat} (hu : u < 2147483648) (ht : fu_ty j = (2147483648, 2147483648 + u)) (h : fu_ok j v) : ∃ k : Nat, k ≤ u ∧ v = Int32.ofNat k := by
  unfold fu_ok at h
  rw [ht] at h
  obtain ⟨k, k1, k2⟩ := kx_ofg (x := .inl v) hu ⟨v, rfl, h.1, h.2⟩
  exact ⟨k, k1, Sum.inl.inj k2⟩
theorem fu_okN {j u k : Nat} (hu : u < 2147483648) (ht : fu_ty j = (2147483648, 2147483648 + u)) (hk : k ≤ u) : fu_ok j (Int32.ofNat k) := by
  unfold fu_ok
  rw [ht, kx_nb (by omega)]
  exact ⟨by show 2147483648 ≤ 2147483648 + k; omega, by show 2147483648 + k ≤ 2147483648 + u; omega⟩
theorem fu_okI {j a b : Nat} {v : Int32} (ht : fu_ty j = (2147483648 + a, 2147483648 + b)) (h1 : (a : Int) ≤ v.toInt) (h2 : v.toInt ≤ (b : Int)) : fu_ok j v := by
  unfold fu_ok kd_nb
  rw [ht]
  exact ⟨by show 2147483648 + a ≤ (v.toInt + 2147483648).toNat; omega, by show (v.toInt + 2147483648).toNat ≤ 2147483648 + b; omega⟩
/-- the families of places -/
theorem fu_f0 : (fu_ty 0 = (2147483648, 2147483648 + 5) ∧ fu_ty 1 = (2147483648, 2147483648 + 3) ∧ fu_ty 2 = (2147483648, 2147483648 + 10) ∧ fu_ty 3 = (2147483648, 2147483648 + 5) ∧ fu_ty 4 = (2147483648 + 1, 2147483648 + 20) ∧ fu_ty 5 = (2147483648 + 1, 2147483648 + 9)) ∧ fu_p 0 = (0, 0) ∧ fu_p 1 = (0, 1) ∧ fu_p 2 = (0, 2) ∧ fu_p 3 = (0, 3) ∧ fu_p 4 = (25, 0) ∧ fu_p 5 = (25, 1) := by decide +kernel
theorem fu_fmi : ∀ x, x < 6 → ∀ y, y < 6 → fu_p (10 + 6 * x + y) = (2 + x, y) ∧ fu_t (10 + 6 * x + y) = true ∧ fu_ty (10 + 6 * x + y) = (2147483648 + 1, 2147483648 + 99) := by decide +kernel
theorem fu_ffo : ∀ x, x < 6 → fu_p (46 + x) = (8, x) ∧ fu_t (46 + x) = true ∧ fu_ty (46 + x) = (2147483648, 2147483648 + 1) := by decide +kernel
theorem fu_fst : ∀ x, x < 6 → fu_p (52 + x) = (9, x) ∧ fu_t (52 + x) = true ∧ fu_ty (52 + x) = (2147483648, 2147483648 + 9) := by decide +kernel
theorem fu_fmu : ∀ x, x < 3 → (∀ k, k < 5 → fu_p (60 + 5 * x + k) = (11 + x, k) ∧ fu_t (60 + 5 * x + k) = true) ∧ fu_ty (60 + 5 * x + 0) = (2147483648, 2147483648 + 999) ∧ fu_ty (60 + 5 * x + 1) = (2147483648, 2147483648 + 99) ∧ fu_ty (60 + 5 * x + 2) = (2147483648, 2147483648 + 99) ∧ fu_ty (60 + 5 * x + 3) = (2147483648, 2147483648 + 999) ∧ fu_ty (60 + 5 * x + 4) = (2147483648, 2147483648 + 999) := by decide +kernel
theorem fu_flo : ∀ x, x < 10 → (∀ k, k < 7 → fu_p (80 + 7 * x + k) = (15 + x, k) ∧ fu_e (80 + 7 * x + k) = true ∧ (k < 6 → fu_t (80 + 7 * x + k) = true)) ∧ fu_ty (80 + 7 * x + 0) = (2147483648, 2147483648 + 99) ∧ fu_ty (80 + 7 * x + 1) = (2147483648, 2147483648 + 1) ∧ fu_ty (80 + 7 * x + 2) = (2147483648, 2147483648 + 5) ∧ fu_ty (80 + 7 * x + 3) = (2147483648, 2147483648 + 5) ∧ fu_ty (80 + 7 * x + 4) = (2147483648, 2147483648 + 100) ∧ fu_ty (80 + 7 * x + 5) = (2147483648, 2147483648 + 9) ∧ fu_ty (80 + 7 * x + 6) = (2147483647, 2147483653) := by decide +kernel
theorem fu_fli : ∀ x, x < 5 → fu_p (150 + x) = (26, x) ∧ fu_t (150 + x) = true ∧ fu_ty (150 + x) = (2147483648, 2147483648 + 5) := by decide +kernel
theorem fu_fby : ∀ x, x < 2 → fu_p (160 + x) = (30, x) ∧ fu_t (160 + x) = true ∧ fu_ty (160 + x) = (2147483648, 2147483648 + 240) := by decide +kernel
theorem fu_ftx : ∀ x, x < 2 → ∀ k, k < 240 → fu_p (170 + 240 * x + k) = (28 + x, k) ∧ fu_t (170 + 240 * x + k) = true ∧ fu_ty (170 + 240 * x + k) = (2147483648, 2147483648 + 255) := by decide +kernel
theorem fu_smi : ∀ x, x < 6 → (kc_shp (1 + (2 + x)) = some (0, 0, 6) ∧ 1 + (2 + x) < kc_N) ∧ kd_rn (kd_ty 2) x = some (3, 1 + (2 + x), 1 + (2 + x)) := by decide +kernel
theorem fu_smu : ∀ x, x < 3 → (kc_shp (1 + (11 + x)) = some (0, 0, 5) ∧ 1 + (11 + x) < kc_N) ∧ kd_rn (kd_ty 11) x = some (3, 1 + (11 + x), 1 + (11 + x)) := by decide +kernel
theorem fu_slo : ∀ x, x < 10 → (kc_shp (1 + (15 + x)) = some (0, 0, 7) ∧ 1 + (15 + x) < kc_N) ∧ kd_rn (kd_ty 15) x = some (3, 1 + (15 + x), 1 + (15 + x)) := by decide +kernel
theorem fu_kr : kd_rn (kd_ty 1) 4 = some (3, 2, 2) ∧ kd_rn (kd_ty 1) 5 = some (3, 9, 9) ∧ kd_rn (kd_ty 1) 6 = some (3, 10, 10) ∧ kd_rn (kd_ty 1) 7 = some (3, 11, 11) ∧ kd_rn (kd_ty 1) 8 = some (3, 15, 15) ∧ kd_rn (kd_ty 1) 9 = some (3, 26, 26) ∧ kd_rn (kd_ty 1) 10 = some (3, 27, 27) := by decide +kernel
theorem fu_C0 {B : Nat → Int32} {h : kc_H} (hC : fu_C B 1 h) : h 1 0 = .inl (B 0) ∧ h 1 1 = .inl (B 1) ∧ h 1 2 = .inl (B 2) ∧ h 1 3 = .inl (B 3) := ⟨hC 0 (by decide) (by decide), hC 1 (by decide) (by decide), hC 2 (by decide) (by decide), hC 3 (by decide) (by decide)⟩
theorem fu_Cj {B : Nat → Int32} {h : kc_H} {j c i : Nat} (hC : fu_C B 1 h) (hj : j < 650) (ht : fu_t j = true) (hp : fu_p j = (c, i)) : h (1 + c) i = .inl (B j) := by
  have := hC j hj ht
  rw [hp] at this
  exact this
/-- the counts -/
theorem fu_n0 {B : Nat → Int32} (hB : fu_BT B) : ∃ k : Nat, k ≤ 5 ∧ B 0 = Int32.ofNat k := fu_nat (by decide) fu_f0.1.1 (hB 0 (by decide) (by decide))
theorem fu_n1 {B : Nat → Int32} (hB : fu_BT B) : ∃ k : Nat, k ≤ 3 ∧ B 1 = Int32.ofNat k := fu_nat (by decide) fu_f0.1.2.1 (hB 1 (by decide) (by decide))
theorem fu_n2 {B : Nat → Int32} (hB : fu_BT B) : ∃ k : Nat, k ≤ 10 ∧ B 2 = Int32.ofNat k := fu_nat (by decide) fu_f0.1.2.2.1 (hB 2 (by decide) (by decide))
theorem fu_n3 {B : Nat → Int32} (hB : fu_BT B) : ∃ k : Nat, k ≤ 5 ∧ B 3 = Int32.ofNat k := fu_nat (by decide) fu_f0.1.2.2.2.1 (hB 3 (by decide) (by decide))
