/-! ===== parts of a set, in order ===== -/
def fh_s (W : Nat → Nat) (m o : Nat) : Nat → Int
  | 0 => 0
  | k + 1 => fh_s W m o k + (if m / 2 ^ k % 2 = 1 then (if o / 2 ^ k % 2 = 1 then (W k : Int) else -(W k : Int)) else 0)
theorem fh_s_b {W : Nat → Nat} {m o : Nat} (hW : ∀ l, l < 10 → W l ≤ 99) : ∀ k : Nat, k ≤ 10 → -(99 * (k : Int)) ≤ fh_s W m o k ∧ fh_s W m o k ≤ 99 * (k : Int)
  | 0, _ => by
    unfold fh_s
    omega
  | k + 1, hk => by
    have ih := fh_s_b (m := m) (o := o) hW k (by omega)
    have := hW k (by omega)
    unfold fh_s
    split
    · split <;> omega
    · omega
def fh_bk (k : Nat) : Nat → Bool
  | 0 => true
  | m + 1 => decide ((Int32.ofNat m >>> (Int32.ofNat k &&& 31)) &&& Int32.ofNat 1 = Int32.ofNat (m / 2 ^ k % 2)) && fh_bk k m
theorem fh_bk_r {k : Nat} : ∀ n : Nat, fh_bk k n = true → ∀ m, m < n → (Int32.ofNat m >>> (Int32.ofNat k &&& 31)) &&& Int32.ofNat 1 = Int32.ofNat (m / 2 ^ k % 2)
  | 0, _, m, hm => absurd hm (Nat.not_lt_zero _)
  | n + 1, h, m, hm => by
    have h : (decide ((Int32.ofNat n >>> (Int32.ofNat k &&& 31)) &&& Int32.ofNat 1 = Int32.ofNat (n / 2 ^ k % 2)) && fh_bk k n) = true := h
    rw [Bool.and_eq_true] at h
    by_cases e : m = n
    · subst e
      exact of_decide_eq_true h.1
    · exact fh_bk_r n h.2 m (by omega)
set_option maxRecDepth 100000 in
theorem fh_bk0 : fh_bk 0 1024 = true := by decide +kernel
set_option maxRecDepth 100000 in
theorem fh_bk1 : fh_bk 1 1024 = true := by decide +kernel
set_option maxRecDepth 100000 in
theorem fh_bk2 : fh_bk 2 1024 = true := by decide +kernel
set_option maxRecDepth 100000 in
theorem fh_bk3 : fh_bk 3 1024 = true := by decide +kernel
set_option maxRecDepth 100000 in
theorem fh_bk4 : fh_bk 4 1024 = true := by decide +kernel
set_option maxRecDepth 100000 in
theorem fh_bk5 : fh_bk 5 1024 = true := by decide +kernel
set_option maxRecDepth 100000 in
theorem fh_bk6 : fh_bk 6 1024 = true := by decide +kernel
set_option maxRecDepth 100000 in
theorem fh_bk7 : fh_bk 7 1024 = true := by decide +kernel
set_option maxRecDepth 100000 in
theorem fh_bk8 : fh_bk 8 1024 = true := by decide +kernel
set_option maxRecDepth 100000 in
theorem fh_bk9 : fh_bk 9 1024 = true := by decide +kernel
theorem fh_bit {m k : Nat} (hm : m < 1024) (hk : k < 10) : (Int32.ofNat m >>> (Int32.ofNat k &&& 31)) &&& Int32.ofNat 1 = Int32.ofNat (m / 2 ^ k % 2) := by
  rcases (show k = 0 ∨ k = 1 ∨ k = 2 ∨ k = 3 ∨ k = 4 ∨ k = 5 ∨ k = 6 ∨ k = 7 ∨ k = 8 ∨ k = 9 by omega) with rfl | rfl | rfl | rfl | rfl | rfl | rfl | rfl | rfl | rfl
  · exact fh_bk_r 1024 fh_bk0 m hm
  · exact fh_bk_r 1024 fh_bk1 m hm
  · exact fh_bk_r 1024 fh_bk2 m hm
  · exact fh_bk_r 1024 fh_bk3 m hm
  · exact fh_bk_r 1024 fh_bk4 m hm
  · exact fh_bk_r 1024 fh_bk5 m hm
  · exact fh_bk_r 1024 fh_bk6 m hm
  · exact fh_bk_r 1024 fh_bk7 m hm
  · exact fh_bk_r 1024 fh_bk8 m hm
  · exact fh_bk_r 1024 fh_bk9 m hm
theorem fh_land {x m : Nat} (hm : m < 1024) : x &&& m = (x % 1024) &&& m := by
  have e : 1023 &&& m = m := by
    rw [Nat.and_comm, show (1023 : Nat) = 2 ^ 10 - 1 from rfl, Nat.and_two_pow_sub_one_eq_mod]
    exact Nat.mod_eq_of_lt hm
  have e2 : x % 1024 = x &&& 1023 := by
    rw [show (1023 : Nat) = 2 ^ 10 - 1 from rfl, Nat.and_two_pow_sub_one_eq_mod]
  rw [e2, Nat.and_assoc, e]
theorem fh_next {o m : Nat} (ho : o < 1024) (hm : m < 1024) : (Int32.ofNat o - Int32.ofNat m) &&& Int32.ofNat m = Int32.ofNat ((o + 1024 - m) &&& m) := by
  apply Int32.toBitVec_inj.mp
  rw [Int32.toBitVec_and, Int32.toBitVec_sub, Int32.toBitVec_ofNat', Int32.toBitVec_ofNat', Int32.toBitVec_ofNat']
  apply BitVec.eq_of_toNat_eq
  rw [BitVec.toNat_and, BitVec.toNat_sub, BitVec.toNat_ofNat, BitVec.toNat_ofNat, BitVec.toNat_ofNat]
  have h1 : (o + 1024 - m) &&& m ≤ m := Nat.and_le_right
  rw [Nat.mod_eq_of_lt (show m < 2 ^ 32 by omega), Nat.mod_eq_of_lt (show o < 2 ^ 32 by omega), Nat.mod_eq_of_lt (show (o + 1024 - m) &&& m < 2 ^ 32 by omega), fh_land hm, fh_land (x := o + 1024 - m) hm]
  congr 1
  omega
theorem fh_subb {x m : Nat} (hx : x < 1024) (hm : m < 1024) : (Int32.ofNat x &&& (Int32.ofNat m ^^^ Int32.ofInt (-1))) = 0 ↔ x &&& m = x := by
  rw [← Int32.toBitVec_inj, Int32.toBitVec_and, Int32.toBitVec_xor, Int32.toBitVec_ofNat', Int32.toBitVec_ofNat', show (Int32.ofInt (-1)).toBitVec = BitVec.allOnes 32 from by decide, show (0 : Int32).toBitVec = 0#32 from by decide]
  have key : ∀ a b : BitVec 32, (a &&& (b ^^^ BitVec.allOnes 32) = 0#32) ↔ a &&& b = a := fun a b => by
    constructor
    · intro h
      apply BitVec.eq_of_getLsbD_eq
      intro i hi
      have k := congrArg (fun v => BitVec.getLsbD v i) h
      simp only [BitVec.getLsbD_and, BitVec.getLsbD_xor, BitVec.getLsbD_allOnes, BitVec.getLsbD_zero, hi, decide_true] at k
      rw [BitVec.getLsbD_and]
      revert k
      cases a.getLsbD i <;> cases b.getLsbD i <;> decide
    · intro h
      apply BitVec.eq_of_getLsbD_eq
      intro i hi
      have k := congrArg (fun v => BitVec.getLsbD v i) h
      simp only [BitVec.getLsbD_and] at k
      simp only [BitVec.getLsbD_and, BitVec.getLsbD_xor, BitVec.getLsbD_allOnes, BitVec.getLsbD_zero, hi, decide_true]
      revert k
      cases a.getLsbD i <;> cases b.getLsbD i <;> decide
  rw [key, ← BitVec.toNat_inj, BitVec.toNat_and, BitVec.toNat_ofNat, BitVec.toNat_ofNat, Nat.mod_eq_of_lt (show x < 2 ^ 32 by omega), Nat.mod_eq_of_lt (show m < 2 ^ 32 by omega)]
theorem fh_sub {x m : Nat} (hx : x < 1024) (hm : m < 1024) : (kc_cnd .ne (Int32.ofNat x &&& (Int32.ofNat m ^^^ Int32.ofInt (-1))).toInt 0 = true) ↔ ¬ x &&& m = x := by
  rw [fu_ine, ← fh_subb hx hm, show (0 : Int) = (0 : Int32).toInt from by decide, Int32.toInt_inj]
/-- each part's next part, by going through all -/
def fh_ck (m : Nat) : Nat → Nat → Bool
  | 0, _ => true
  | u + 1, e => bif Nat.beq (Nat.land (m - u) m) (m - u) then (Nat.beq (m - u) e && fh_ck m u (Nat.land (m - u + 1024 - m) m)) else fh_ck m u e
def fh_cks : Nat → Nat → Bool
  | 0, _ => true
  | n + 1, b => fh_ck (b + n) (b + n + 1) 0 && fh_cks n b
set_option maxRecDepth 100000 in
theorem fh_cks0 : fh_cks 128 0 = true := by decide +kernel
set_option maxRecDepth 100000 in
theorem fh_cks1 : fh_cks 128 128 = true := by decide +kernel
set_option maxRecDepth 100000 in
theorem fh_cks2 : fh_cks 128 256 = true := by decide +kernel
set_option maxRecDepth 100000 in
theorem fh_cks3 : fh_cks 128 384 = true := by decide +kernel
set_option maxRecDepth 100000 in
theorem fh_cks4 : fh_cks 128 512 = true := by decide +kernel
set_option maxRecDepth 100000 in
theorem fh_cks5 : fh_cks 128 640 = true := by decide +kernel
set_option maxRecDepth 100000 in
theorem fh_cks6 : fh_cks 128 768 = true := by decide +kernel
set_option maxRecDepth 100000 in
theorem fh_cks7 : fh_cks 128 896 = true := by decide +kernel
theorem fh_cks_r : ∀ (n b m : Nat), b ≤ m → m < b + n → fh_cks n b = true → fh_ck m (m + 1) 0 = true
  | 0, b, m, h1, h2, _ => by omega
  | n + 1, b, m, h1, h2, h => by
    have h : (fh_ck (b + n) (b + n + 1) 0 && fh_cks n b) = true := h
    rw [Bool.and_eq_true] at h
    by_cases e : m = b + n
    · subst e
      exact h.1
    · exact fh_cks_r n b m h1 (by omega) h.2
theorem fh_ck_all {m : Nat} (hm : m < 1024) : fh_ck m (m + 1) 0 = true := by
  rcases (show m < 128 ∨ (128 ≤ m ∧ m < 256) ∨ (256 ≤ m ∧ m < 384) ∨ (384 ≤ m ∧ m < 512) ∨ (512 ≤ m ∧ m < 640) ∨ (640 ≤ m ∧ m < 768) ∨ (768 ≤ m ∧ m < 896) ∨ 896 ≤ m by omega) with k | k | k | k | k | k | k | k
  · exact fh_cks_r 128 0 m (by omega) (by omega) fh_cks0
  · exact fh_cks_r 128 128 m (by omega) (by omega) fh_cks1
  · exact fh_cks_r 128 256 m (by omega) (by omega) fh_cks2
  · exact fh_cks_r 128 384 m (by omega) (by omega) fh_cks3
  · exact fh_cks_r 128 512 m (by omega) (by omega) fh_cks4
  · exact fh_cks_r 128 640 m (by omega) (by omega) fh_cks5
  · exact fh_cks_r 128 768 m (by omega) (by omega) fh_cks6
  · exact fh_cks_r 128 896 m (by omega) (by omega) fh_cks7
theorem fh_ck_r {m : Nat} : ∀ (u e : Nat), u ≤ m + 1 → fh_ck m u e = true → (∀ y, m + 1 - u ≤ y → y ≤ m → y &&& m = y → (∀ z, m + 1 - u ≤ z → z < y → ¬ z &&& m = z) → y = e) ∧ (∀ o y, m + 1 - u ≤ o → o < y → y ≤ m → o &&& m = o → y &&& m = y → (∀ z, o < z → z < y → ¬ z &&& m = z) → y = (o + 1024 - m) &&& m)
  | 0, e, _, _ => ⟨fun y h1 h2 => by omega, fun o y h1 h2 h3 => by omega⟩
  | u + 1, e, hu, h => by
    have h : (bif Nat.beq (Nat.land (m - u) m) (m - u) then (Nat.beq (m - u) e && fh_ck m u (Nat.land (m - u + 1024 - m) m)) else fh_ck m u e) = true := h
    cases c : Nat.beq (Nat.land (m - u) m) (m - u) with
    | true =>
      rw [c] at h
      have h : (Nat.beq (m - u) e && fh_ck m u (Nat.land (m - u + 1024 - m) m)) = true := h
      rw [Bool.and_eq_true] at h
      have e1 := Nat.eq_of_beq_eq_true h.1
      have e2 : (m - u) &&& m = m - u := Nat.eq_of_beq_eq_true c
      obtain ⟨i1, i2⟩ := fh_ck_r u _ (by omega) h.2
      refine ⟨fun y h1 h2 h3 h4 => ?_, fun o y h1 h2 h3 h4 h5 h6 => ?_⟩
      · by_cases q : y = m - u
        · omega
        · exact absurd e2 (h4 (m - u) (by omega) (by omega))
      · by_cases q : o = m - u
        · subst q
          exact i1 y (by omega) h3 h5 (fun z z1 z2 => h6 z (by omega) z2)
        · exact i2 o y (by omega) h2 h3 h4 h5 h6
    | false =>
      rw [c] at h
      have h : fh_ck m u e = true := h
      have e2 : ¬ (m - u) &&& m = m - u := fun k => by
        have k2 : Nat.beq (Nat.land (m - u) m) (m - u) = true := by
          rw [show Nat.land (m - u) m = m - u from k]
          exact Nat.beq_refl _
        rw [k2] at c
        cases c
      obtain ⟨i1, i2⟩ := fh_ck_r u e (by omega) h
      refine ⟨fun y h1 h2 h3 h4 => ?_, fun o y h1 h2 h3 h4 h5 h6 => ?_⟩
      · have q : ¬ y = m - u := fun q => by
          rw [q] at h3
          exact e2 h3
        exact i1 y (by omega) h2 h3 (fun z z1 z2 => h4 z (by omega) z2)
      · have q : ¬ o = m - u := fun q => by
          rw [q] at h4
          exact e2 h4
        exact i2 o y (by omega) h2 h3 h4 h5 h6
theorem fh_ex {m o : Nat} : ∀ u x : Nat, o < x → x + u = m → (∀ z, o < z → z < x → ¬ z &&& m = z) → ∃ y, o < y ∧ y ≤ m ∧ y &&& m = y ∧ ∀ z, o < z → z < y → ¬ z &&& m = z
  | 0, x, h1, h2, h3 => ⟨m, by omega, Nat.le_refl _, Nat.and_self _, fun z z1 z2 => h3 z z1 (by omega)⟩
  | u + 1, x, h1, h2, h3 => by
    by_cases e : x &&& m = x
    · exact ⟨x, h1, by omega, e, h3⟩
    · refine fh_ex u (x + 1) (by omega) (by omega) (fun z z1 z2 => ?_)
      by_cases q : z = x
      · rw [q]
        exact e
      · exact h3 z z1 (by omega)
theorem fh_nx {m o : Nat} (hm : m < 1024) (ho : o < m) (hs : o &&& m = o) : o < (o + 1024 - m) &&& m ∧ (o + 1024 - m) &&& m ≤ m ∧ ((o + 1024 - m) &&& m) &&& m = (o + 1024 - m) &&& m ∧ ∀ z, o < z → z < (o + 1024 - m) &&& m → ¬ z &&& m = z := by
  obtain ⟨y, y1, y2, y3, y4⟩ := fh_ex (m := m) (o := o) (m - (o + 1)) (o + 1) (by omega) (by omega) (fun z z1 z2 => by omega)
  have e := (fh_ck_r (m + 1) 0 (Nat.le_refl _) (fh_ck_all hm)).2 o y (by omega) y1 y2 hs y3 y4
  rw [← e]
  exact ⟨y1, y2, y3, y4⟩
/-- the least, how often, the first -/
abbrev fh_S : Type := Nat × Nat × Int32
def fh_u (d x : Nat) (s : fh_S) : fh_S := if d < s.1 then (d, 1, Int32.ofNat x) else if d = s.1 then (s.1, s.2.1 + 1, s.2.2) else s
def fh_f (f : Nat → fh_S → fh_S) (m : Nat) : Nat → Nat → fh_S → fh_S
  | 0, _, s => s
  | u + 1, x, s => fh_f f m u (x + 1) (if x &&& m = x then f x s else s)
theorem fh_skip {f : Nat → fh_S → fh_S} {m : Nat} : ∀ (n u x : Nat) (s : fh_S), (∀ z, x ≤ z → z < x + n → ¬ z &&& m = z) → fh_f f m (n + u) x s = fh_f f m u (x + n) s
  | 0, u, x, s, _ => by rw [Nat.zero_add, Nat.add_zero]
  | n + 1, u, x, s, h => by
    rw [show n + 1 + u = (n + u) + 1 from by omega]
    show fh_f f m (n + u) (x + 1) (if x &&& m = x then f x s else s) = _
    rw [if_neg (h x (Nat.le_refl _) (by omega)), fh_skip n u (x + 1) s (fun z z1 z2 => h z (by omega) (by omega)), show x + 1 + n = x + (n + 1) from by omega]
theorem fh_stp {f : Nat → fh_S → fh_S} {m o : Nat} {s : fh_S} (hm : m < 1024) (ho : o < m) (hs : o &&& m = o) : fh_f f m (m + 1 - o) o s = fh_f f m (m + 1 - ((o + 1024 - m) &&& m)) ((o + 1024 - m) &&& m) (f o s) := by
  obtain ⟨y1, y2, y3, y4⟩ := fh_nx hm ho hs
  generalize (o + 1024 - m) &&& m = y at y1 y2 y3 y4 ⊢
  rw [show m + 1 - o = ((y - (o + 1)) + (m + 1 - y)) + 1 from by omega]
  show fh_f f m ((y - (o + 1)) + (m + 1 - y)) (o + 1) (if o &&& m = o then f o s else s) = _
  rw [if_pos hs, fh_skip _ _ _ _ (fun z z1 z2 => y4 z (by omega) (by omega)), show o + 1 + (y - (o + 1)) = y from by omega]
theorem fh_end {f : Nat → fh_S → fh_S} {m : Nat} {s : fh_S} : fh_f f m (m + 1 - m) m s = f m s := by
  rw [show m + 1 - m = 0 + 1 from by omega]
  show (if m &&& m = m then f m s else s) = _
  rw [if_pos (Nat.and_self _)]
