/-! ===== the second engine's numbers are right ===== -/
theorem kd_nb_i (x : Int32) : (kd_nb x : Int) = x.toInt + 2147483648 := by
  have := Int32.minValue_le_toInt x
  have e : Int32.minValue.toInt = -2147483648 := by decide
  unfold kd_nb
  omega
theorem kd_nb_M (x : Int32) : kd_nb x ≤ 4294967295 := by
  have h1 := kd_nb_i x
  have h2 := Int32.toInt_le x
  have e : Int32.maxValue.toInt = 2147483647 := by decide
  omega
theorem kd_ofN_r {x : Int32} {l : Nat} (h : kd_nb x = l) : kd_ofN l = x := by
  have h1 := kd_nb_i x
  unfold kd_ofN
  rw [show (l : Int) - 2147483648 = x.toInt by omega, Int32.ofInt_toInt]
theorem kd_toI {r : Int} (h1 : -2147483648 ≤ r) (h2 : r ≤ 2147483647) : (Int32.ofInt r).toInt = r := wk_in32_r (by
  unfold wk_in32
  simp [h1, h2])
theorem kd_add_i {x y : Int32} (h1 : -2147483648 ≤ x.toInt + y.toInt) (h2 : x.toInt + y.toInt ≤ 2147483647) : (x + y).toInt = x.toInt + y.toInt := by
  have e : x + y = Int32.ofInt (x.toInt + y.toInt) := by rw [Int32.ofInt_add, Int32.ofInt_toInt, Int32.ofInt_toInt]
  rw [e, kd_toI h1 h2]
theorem kd_sub_i {x y : Int32} (h1 : -2147483648 ≤ x.toInt - y.toInt) (h2 : x.toInt - y.toInt ≤ 2147483647) : (x - y).toInt = x.toInt - y.toInt := by
  have e : x - y = Int32.ofInt (x.toInt - y.toInt) := by rw [Int32.ofInt_sub, Int32.ofInt_toInt, Int32.ofInt_toInt]
  rw [e, kd_toI h1 h2]
theorem kd_mul_i {x y : Int32} (h1 : -2147483648 ≤ x.toInt * y.toInt) (h2 : x.toInt * y.toInt ≤ 2147483647) : (x * y).toInt = x.toInt * y.toInt := by
  have e : x * y = Int32.ofInt (x.toInt * y.toInt) := by rw [Int32.ofInt_mul, Int32.ofInt_toInt, Int32.ofInt_toInt]
  rw [e, kd_toI h1 h2]
theorem kd_neg_i {x : Int32} (h1 : -2147483648 < x.toInt) : (-x).toInt = -x.toInt := by
  have h2 := Int32.toInt_le x
  have e0 : Int32.maxValue.toInt = 2147483647 := by decide
  have e : -x = Int32.ofInt (-x.toInt) := by rw [Int32.ofInt_neg, Int32.ofInt_toInt]
  rw [e, kd_toI (by omega) (by omega)]
/-- numbers not below 0, by their bits -/
theorem kd_tn {x : Int32} (h : 0 ≤ x.toInt) : (x.toBitVec.toNat : Int) = x.toInt := by
  have e : x.toInt = x.toBitVec.toInt := rfl
  rw [e] at h ⊢
  rw [BitVec.toInt_eq_toNat_cond] at h ⊢
  have := x.toBitVec.isLt
  split
  · rfl
  · rename_i hc
    rw [if_neg hc] at h
    omega
theorem kd_tn2 {x : Int32} (h : x.toBitVec.toNat < 2147483648) : x.toInt = (x.toBitVec.toNat : Int) := by
  have e : x.toInt = x.toBitVec.toInt := rfl
  rw [e, BitVec.toInt_eq_toNat_cond, if_pos (by omega)]
theorem kd_and_i {x y : Int32} (h : 0 ≤ y.toInt) : 0 ≤ (x &&& y).toInt ∧ (x &&& y).toInt ≤ y.toInt := by
  have hy := kd_tn h
  have h2 := Int32.toInt_le y
  have e0 : Int32.maxValue.toInt = 2147483647 := by decide
  have hb : (x &&& y).toBitVec.toNat ≤ y.toBitVec.toNat := by
    rw [Int32.toBitVec_and, BitVec.toNat_and]
    exact Nat.and_le_right
  rw [kd_tn2 (x := x &&& y) (by omega)]
  omega
theorem kd_and_i2 {x y : Int32} (h : 0 ≤ x.toInt) : 0 ≤ (x &&& y).toInt ∧ (x &&& y).toInt ≤ x.toInt := by
  have hy := kd_tn h
  have h2 := Int32.toInt_le x
  have e0 : Int32.maxValue.toInt = 2147483647 := by decide
  have hb : (x &&& y).toBitVec.toNat ≤ x.toBitVec.toNat := by
    rw [Int32.toBitVec_and, BitVec.toNat_and]
    exact Nat.and_le_left
  rw [kd_tn2 (x := x &&& y) (by omega)]
  omega
theorem kd_or_i {x y : Int32} {m : Nat} (hx : 0 ≤ x.toInt) (hy : 0 ≤ y.toInt) (hm : 2 ^ m ≤ 2147483648) (h1 : x.toInt < ((2 ^ m : Nat) : Int)) (h2 : y.toInt < ((2 ^ m : Nat) : Int)) : 0 ≤ (x ||| y).toInt ∧ (x ||| y).toInt < ((2 ^ m : Nat) : Int) := by
  have ex := kd_tn hx
  have ey := kd_tn hy
  have hb : (x ||| y).toBitVec.toNat < 2 ^ m := by
    rw [Int32.toBitVec_or, BitVec.toNat_or]
    exact Nat.or_lt_two_pow (by omega) (by omega)
  rw [kd_tn2 (x := x ||| y) (by omega)]
  omega
theorem kd_sh : ∀ n, n < 32 → ((kd_ofN (n + 2147483648) &&& 31).toBitVec.smod 32).toNat = n := by decide +kernel
theorem kd_shr_i {x y : Int32} {s : Nat} (hy : y.toInt = (s : Int)) (hs : s < 32) : (x >>> (y &&& 31)).toInt = x.toInt / ((2 ^ s : Nat) : Int) := by
  have ey : y = kd_ofN (s + 2147483648) := by
    refine (kd_ofN_r ?_).symm
    have := kd_nb_i y
    omega
  have e : (x >>> (y &&& 31)).toInt = (x.toBitVec.sshiftRight ((y &&& 31).toBitVec.smod 32).toNat).toInt := rfl
  rw [e, ey, kd_sh s hs, BitVec.toInt_sshiftRight, Int.shiftRight_eq_div_pow]
  rfl
theorem kd_div_i {x y : Int32} (hx : 0 ≤ x.toInt) (hy : 0 < y.toInt) : (x / y).toInt = x.toInt / y.toInt := by
  have h2 := Int32.toInt_le x
  have e0 : Int32.maxValue.toInt = 2147483647 := by decide
  have h3 : 0 ≤ x.toInt / y.toInt := Int.ediv_nonneg hx (by omega)
  have h4 : x.toInt / y.toInt ≤ x.toInt := Int.ediv_le_self _ hx
  rw [Int32.toInt_div, Int.tdiv_eq_ediv_of_nonneg hx]
  rw [Int.bmod_eq_of_le (by omega) (by omega)]
theorem kd_rem_i {x y : Int32} (hx : 0 ≤ x.toInt) (hy : 0 < y.toInt) : (x - x / y * y).toInt = x.toInt % y.toInt := by
  have h2 := Int32.toInt_le x
  have e0 : Int32.maxValue.toInt = 2147483647 := by decide
  have hd := kd_div_i hx hy
  have h3 : 0 ≤ x.toInt / y.toInt := Int.ediv_nonneg hx (by omega)
  have h5 := Int.emod_add_mul_ediv x.toInt y.toInt
  have h6 := Int.emod_nonneg x.toInt (show y.toInt ≠ 0 by omega)
  have h7 : 0 ≤ x.toInt / y.toInt * y.toInt := Int.mul_nonneg h3 (by omega)
  have h8 : x.toInt / y.toInt * y.toInt = y.toInt * (x.toInt / y.toInt) := Int.mul_comm _ _
  have hm : (x / y * y).toInt = x.toInt / y.toInt * y.toInt := by
    rw [kd_mul_i (by rw [hd]; omega) (by rw [hd]; omega), hd]
  rw [kd_sub_i (by rw [hm]; omega) (by rw [hm]; omega), hm]
  omega
/-! longs -/
def kd_nj (y : Int64) : Nat := (y.toInt + 9223372036854775808).toNat
theorem kd_nj_i (x : Int64) : (kd_nj x : Int) = x.toInt + 9223372036854775808 := by
  have := Int64.minValue_le_toInt x
  have e : Int64.minValue.toInt = -9223372036854775808 := by decide
  unfold kd_nj
  omega
theorem kd_nj_J (x : Int64) : kd_nj x ≤ 18446744073709551615 := by
  have h1 := kd_nj_i x
  have h2 := Int64.toInt_le x
  have e : Int64.maxValue.toInt = 9223372036854775807 := by decide
  omega
theorem kd_tnj {x : Int64} (h : 0 ≤ x.toInt) : (x.toBitVec.toNat : Int) = x.toInt := by
  have e : x.toInt = x.toBitVec.toInt := rfl
  rw [e] at h ⊢
  rw [BitVec.toInt_eq_toNat_cond] at h ⊢
  have := x.toBitVec.isLt
  split
  · rfl
  · rename_i hc
    rw [if_neg hc] at h
    omega
theorem kd_tnj2 {x : Int64} (h : x.toBitVec.toNat < 9223372036854775808) : x.toInt = (x.toBitVec.toNat : Int) := by
  have e : x.toInt = x.toBitVec.toInt := rfl
  rw [e, BitVec.toInt_eq_toNat_cond, if_pos (by omega)]
theorem kd_landj_i {x y : Int64} (h : 0 ≤ y.toInt) : 0 ≤ (x &&& y).toInt ∧ (x &&& y).toInt ≤ y.toInt := by
  have hy := kd_tnj h
  have h2 := Int64.toInt_le y
  have e0 : Int64.maxValue.toInt = 9223372036854775807 := by decide
  have hb : (x &&& y).toBitVec.toNat ≤ y.toBitVec.toNat := by
    rw [Int64.toBitVec_and, BitVec.toNat_and]
    exact Nat.and_le_right
  rw [kd_tnj2 (x := x &&& y) (by omega)]
  omega
theorem kd_landj_i2 {x y : Int64} (h : 0 ≤ x.toInt) : 0 ≤ (x &&& y).toInt ∧ (x &&& y).toInt ≤ x.toInt := by
  have hy := kd_tnj h
  have h2 := Int64.toInt_le x
  have e0 : Int64.maxValue.toInt = 9223372036854775807 := by decide
  have hb : (x &&& y).toBitVec.toNat ≤ x.toBitVec.toNat := by
    rw [Int64.toBitVec_and, BitVec.toNat_and]
    exact Nat.and_le_left
  rw [kd_tnj2 (x := x &&& y) (by omega)]
  omega
theorem kd_l2i_i {x : Int64} (h1 : -2147483648 ≤ x.toInt) (h2 : x.toInt ≤ 2147483647) : x.toInt32.toInt = x.toInt := by
  rw [Int64.toInt_toInt32, Int.bmod_eq_of_le (by omega) (by omega)]
