/-! ===== by hand: tokens ===== -/
def kp_skip (P : Nat → Bool) (t : Nat → Nat) : Nat → Nat → Nat
  | 0, p => p
  | m + 1, p => bif P (t p) then kp_skip P t m (p + 1) else p
theorem kp_skip_le (P : Nat → Bool) (t : Nat → Nat) : ∀ m p, p ≤ kp_skip P t m p ∧ kp_skip P t m p ≤ p + m
  | 0, p => ⟨Nat.le_refl _, Nat.le_refl _⟩
  | m + 1, p => by
    have h := kp_skip_le P t m (p + 1)
    show p ≤ (bif P (t p) then kp_skip P t m (p + 1) else p) ∧ (bif P (t p) then kp_skip P t m (p + 1) else p) ≤ p + (m + 1)
    cases P (t p) with
    | true => exact ⟨by show p ≤ kp_skip P t m (p + 1); omega, by show kp_skip P t m (p + 1) ≤ _; omega⟩
    | false => exact ⟨Nat.le_refl _, by show p ≤ _; omega⟩
def kp_sp (b : Nat) : Bool := decide (b = 32)
def kp_let (b : Nat) : Bool := decide (97 ≤ b ∧ b ≤ 122)
def kp_fig (b : Nat) : Bool := decide (48 ≤ b ∧ b ≤ 57)
/-- the reader's fields: text, length, next, kind, start -/
def kr_H (h : kc_H) (c n p k s : Nat) : kc_H := fun a b => if a = 127 then (if b = 4 then .inr (.inr (.inl (some c))) else if b = 5 then .inl (Int32.ofNat n) else if b = 6 then .inl (Int32.ofNat p) else if b = 7 then .inl (Int32.ofNat k) else if b = 8 then .inl (Int32.ofNat s) else h 127 b) else h a b
theorem kr_6 {h : kc_H} {c n p k s p' : Nat} : kc_upd (kr_H h c n p k s) 127 6 (.inl (Int32.ofNat p')) = kr_H h c n p' k s := by
  funext a b
  unfold kc_upd kr_H
  by_cases ha : a = 127
  · by_cases hb : b = 6
    · simp [ha, hb]
    · simp [ha, hb]
  · simp [ha]
theorem kr_7 {h : kc_H} {c n p k s k' : Nat} : kc_upd (kr_H h c n p k s) 127 7 (.inl (Int32.ofNat k')) = kr_H h c n p k' s := by
  funext a b
  unfold kc_upd kr_H
  by_cases ha : a = 127
  · by_cases hb : b = 7
    · simp [ha, hb]
    · simp [ha, hb]
  · simp [ha]
theorem kr_8 {h : kc_H} {c n p k s s' : Nat} : kc_upd (kr_H h c n p k s) 127 8 (.inl (Int32.ofNat s')) = kr_H h c n p k s' := by
  funext a b
  unfold kc_upd kr_H
  by_cases ha : a = 127
  · by_cases hb : b = 8
    · simp [ha, hb]
    · simp [ha, hb]
  · simp [ha]
theorem kr_o {h : kc_H} {c n p k s a b : Nat} (ha : ¬ a = 127) : kr_H h c n p k s a b = h a b := if_neg ha
