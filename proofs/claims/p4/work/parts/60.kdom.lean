/-! ===== THE SECOND ENGINE: intervals, named values, facts about cells, stations with a measure; run by the kernel over the clean logic ===== -/
/-- a value: (0, lo, hi) an int within bounds (each number plus 2^31), (1, j, k) the variable j plus k (2^31 is none), (2, lo, hi) a long within bounds (plus 2^63), (3, a, b) a reference to one of the cells a .. b, (5, _, _) the script, (6, j, k) as 1 but a long; else nothing is known -/
abbrev kd_V : Type := Nat × Nat × Nat
/-- the box: bounds of the variables, the newest first -/
abbrev kd_I : Type := List (Nat × Nat)
/-- what is known of places: cell, place, value -/
abbrev kd_F : Type := List (Nat × Nat × kd_V)
/-- what was written: cells from, to, places from, to -/
abbrev kd_W : Type := List (Nat × Nat × Nat × Nat)
/-- a row: place, operation, three numbers, length, targets -/
abbrev kd_X : Type := Nat × Nat × Nat × Nat × Nat × Nat × List Nat
def kd_B : Nat := 2147483648
def kd_M : Nat := 4294967295
def kd_C : Nat := 9223372036854775808
def kd_J : Nat := 18446744073709551615
def kd_tI : kd_V := (0, 0, 4294967295)
def kd_tJ : kd_V := (2, 0, 18446744073709551615)
def kd_at (iv : kd_I) (n j : Nat) : Option (Nat × Nat) := bif Nat.blt j n then wk_at iv (n - 1 - j) else none
/-- bounds of an int -/
def kd_bd (iv : kd_I) (n : Nat) (v : kd_V) (k : Nat → Nat → Bool) : Bool := match v with
  | (t, a, b) => bif Nat.beq t 0 then k a b else bif Nat.beq t 1 then (match kd_at iv n a with
    | some (l, h) => bif Nat.ble kd_B (l + b) then wk_fN (l + b - kd_B) fun l => wk_fN (h + b - kd_B) fun h => k l h else false
    | none => false) else false
/-- bounds of a long -/
def kd_bj (iv : kd_I) (n : Nat) (v : kd_V) (k : Nat → Nat → Bool) : Bool := match v with
  | (t, a, b) => bif Nat.beq t 2 then k a b else bif Nat.beq t 6 then (match kd_at iv n a with
    | some (l, h) => bif Nat.ble kd_B (l + b) then wk_fN (l + b + kd_C - kd_B - kd_B) fun l => wk_fN (h + b + kd_C - kd_B - kd_B) fun h => k l h else false
    | none => false) else false
/-- below a closed value -/
def kd_le (iv : kd_I) (n : Nat) (v w : kd_V) : Bool := match w with
  | (t, a, b) => bif Nat.beq t 0 then kd_bd iv n v (fun l h => Nat.ble a l && Nat.ble h b) else bif Nat.beq t 2 then kd_bj iv n v (fun l h => Nat.ble a l && Nat.ble h b) else bif Nat.beq t 3 then (match v with
    | (s, c, d) => Nat.beq s 3 && (Nat.ble a c && Nat.ble d b)) else bif Nat.beq t 5 then (match v with
    | (s, _, _) => Nat.beq s 5) else false
def kd_fV (v : kd_V) (k : kd_V → Bool) : Bool := match v with
  | (t, a, b) => wk_fN a fun a => wk_fN b fun b => k (t, a, b)
/-- a value gets a name -/
def kd_nm (iv : kd_I) (n : Nat) (v : kd_V) (k : kd_I → Nat → kd_V → Bool) : Bool := match v with
  | (t, a, b) => bif Nat.beq t 0 && Nat.blt a b then wk_fN n fun n => k ((a, b) :: iv) (n + 1) (1, n, kd_B) else k iv n (t, a, b)
/-- narrower bounds for a value's variable -/
def kd_rf (iv : kd_I) (n : Nat) (v : kd_V) (lo hi : Nat) (k : kd_I → Bool) : Bool := match v with
  | (t, j, o) => bif Nat.beq t 1 && Nat.blt j n then wk_fN (lo + kd_B - o) fun lo => wk_fN (hi + kd_B - o) fun hi => wk_put iv (n - 1 - j) (lo, hi) k else k iv
def kd_rj (iv : kd_I) (n : Nat) (v : kd_V) (lo hi : Nat) (k : kd_I → Bool) : Bool := match v with
  | (t, j, o) => bif Nat.beq t 6 && (Nat.blt j n && Nat.ble (kd_C - kd_B) lo) then wk_fN (lo - (kd_C - kd_B) + kd_B - o) fun lo => wk_fN (hi - (kd_C - kd_B) + kd_B - o) fun hi => wk_put iv (n - 1 - j) (lo, hi) k else k iv
def kd_mn (a b : Nat) : Nat := bif Nat.ble a b then a else b
def kd_mx (a b : Nat) : Nat := bif Nat.ble a b then b else a
abbrev kd_4 : Type := Nat → Nat → Nat → Nat → Bool
def kd_clt (l1 h1 l2 h2 : Nat) (kt kf : kd_4) : Bool := bif Nat.blt h1 l2 then kt l1 h1 l2 h2 else bif Nat.ble h2 l1 then kf l1 h1 l2 h2 else kt l1 (kd_mn h1 (h2 - 1)) (kd_mx l2 (l1 + 1)) h2 && kf (kd_mx l1 l2) h1 l2 (kd_mn h2 h1)
def kd_ceq (l1 h1 l2 h2 : Nat) (kt kf : kd_4) : Bool := bif Nat.beq l1 h1 && (Nat.beq l2 h2 && Nat.beq l1 l2) then kt l1 h1 l2 h2 else bif Nat.blt h1 l2 || Nat.blt h2 l1 then kf l1 h1 l2 h2 else kt (kd_mx l1 l2) (kd_mn h1 h2) (kd_mx l1 l2) (kd_mn h1 h2) && (bif Nat.beq l2 h2 then (bif Nat.beq l1 l2 then kf (l1 + 1) h1 l2 h2 else bif Nat.beq h1 l2 then kf l1 (h1 - 1) l2 h2 else kf l1 h1 l2 h2) else bif Nat.beq l1 h1 then (bif Nat.beq l2 l1 then kf l1 h1 (l2 + 1) h2 else bif Nat.beq h2 l1 then kf l1 h1 l2 (h2 - 1) else kf l1 h1 l2 h2) else kf l1 h1 l2 h2)
/-- conditions: 0 eq, 1 ne, 2 lt, 3 ge, 4 gt, 5 le -/
def kd_cmp (c l1 h1 l2 h2 : Nat) (kt kf : kd_4) : Bool :=
  bif Nat.ble c 1 then (bif Nat.beq c 0 then kd_ceq l1 h1 l2 h2 kt kf else kd_ceq l1 h1 l2 h2 kf kt)
  else bif Nat.ble c 3 then (bif Nat.beq c 2 then kd_clt l1 h1 l2 h2 kt kf else kd_clt l1 h1 l2 h2 kf kt)
  else (bif Nat.beq c 4 then kd_clt l2 h2 l1 h1 (fun a b c d => kt c d a b) (fun a b c d => kf c d a b) else kd_clt l2 h2 l1 h1 (fun a b c d => kf c d a b) (fun a b c d => kt c d a b))
/-- a branch on two ints -/
def kd_br (c : Nat) (iv : kd_I) (n : Nat) (v w : kd_V) (kt kf : kd_I → Bool) : Bool := kd_bd iv n v fun l1 h1 => kd_bd iv n w fun l2 h2 => kd_cmp c l1 h1 l2 h2 (fun a b c d => kd_rf iv n v a b fun iv => kd_rf iv n w c d kt) (fun a b c d => kd_rf iv n v a b fun iv => kd_rf iv n w c d kf)
def kd_brj (c : Nat) (iv : kd_I) (n : Nat) (v w : kd_V) (kt kf : kd_I → Bool) : Bool := kd_bj iv n v fun l1 h1 => kd_bj iv n w fun l2 h2 => kd_cmp c l1 h1 l2 h2 (fun a b c d => kd_rj iv n v a b fun iv => kd_rj iv n w c d kt) (fun a b c d => kd_rj iv n v a b fun iv => kd_rj iv n w c d kf)
/-- every number of a row of them -/
def kd_each (f : Nat → Bool) : Nat → Nat → Bool
  | 0, _ => true
  | m + 1, a => f a && wk_fN (a + 1) fun a => kd_each f m a
/-- a variable of few values, one after another -/
def kd_cut (few : Nat) (iv : kd_I) (n : Nat) (v : kd_V) (k : kd_I → Bool) : Bool := match v with
  | (t, j, _) => bif Nat.beq t 1 then (match kd_at iv n j with
    | some (l, h) => bif Nat.blt l h && Nat.blt (h - l) few then kd_each (fun a => wk_put iv (n - 1 - j) (a, a) k) (h - l + 1) l else k iv
    | none => false) else k iv
/-! arithmetic on bounds (each plus 2^31) -/
def kd_fit (lo hi : Nat) (k : kd_V → Bool) : Bool := wk_fN lo fun lo => wk_fN hi fun hi => k (0, lo, hi)
/-- bounds that are known with 2^31 added twice -/
def kd_fit2 (lo hi : Nat) (k : kd_V → Bool) : Bool := bif Nat.ble kd_B lo && Nat.ble hi (kd_M + kd_B) then kd_fit (lo - kd_B) (hi - kd_B) k else k kd_tI
def kd_add (iv : kd_I) (n : Nat) (v w : kd_V) (k : kd_V → Bool) : Bool := kd_bd iv n v fun l1 h1 => kd_bd iv n w fun l2 h2 =>
  bif Nat.beq l2 h2 && Nat.beq v.1 1 then (bif Nat.ble kd_B (l1 + l2) && (Nat.ble (h1 + l2) (kd_M + kd_B) && Nat.ble kd_B (v.2.2 + l2)) then wk_fN (v.2.2 + l2 - kd_B) fun o => k (1, v.2.1, o) else k kd_tI)
  else bif Nat.beq l1 h1 && Nat.beq w.1 1 then (bif Nat.ble kd_B (l2 + l1) && (Nat.ble (h2 + l1) (kd_M + kd_B) && Nat.ble kd_B (w.2.2 + l1)) then wk_fN (w.2.2 + l1 - kd_B) fun o => k (1, w.2.1, o) else k kd_tI)
  else kd_fit2 (l1 + l2) (h1 + h2) k
def kd_sub (iv : kd_I) (n : Nat) (v w : kd_V) (k : kd_V → Bool) : Bool := kd_bd iv n v fun l1 h1 => kd_bd iv n w fun l2 h2 =>
  bif Nat.beq l2 h2 && Nat.beq v.1 1 then (bif Nat.ble l2 (l1 + kd_B) && (Nat.ble (h1 + kd_B) (kd_M + l2) && Nat.ble l2 (v.2.2 + kd_B)) then wk_fN (v.2.2 + kd_B - l2) fun o => k (1, v.2.1, o) else k kd_tI)
  else bif Nat.ble h2 (l1 + kd_B) && Nat.ble (h1 + kd_B) (kd_M + l2) then kd_fit (l1 + kd_B - h2) (h1 + kd_B - l2) k else k kd_tI
/-- one number out of two, by the operation itself -/
def kd_nb (x : Int32) : Nat := (x.toInt + 2147483648).toNat
def kd_ofN (l : Nat) : Int32 := Int32.ofInt ((l : Int) - 2147483648)
def kd_1 (G : Int32 → Int32 → Int32) (l1 l2 : Nat) (k : kd_V → Bool) : Bool := wk_fN (kd_nb (G (kd_ofN l1) (kd_ofN l2))) fun a => k (0, a, a)
def kd_one (l1 h1 l2 h2 : Nat) : Bool := Nat.beq l1 h1 && Nat.beq l2 h2
/-- numbers that are not below 0 -/
def kd_pos (l : Nat) : Bool := Nat.ble kd_B l
def kd_mul (l1 h1 l2 h2 : Nat) (k : kd_V → Bool) : Bool := bif kd_pos l1 && kd_pos l2 then (bif Nat.ble ((h1 - kd_B) * (h2 - kd_B)) 2147483647 then kd_fit ((l1 - kd_B) * (l2 - kd_B) + kd_B) ((h1 - kd_B) * (h2 - kd_B) + kd_B) k else k kd_tI) else bif kd_one l1 h1 l2 h2 then kd_1 (fun a b => a * b) l1 l2 k else k kd_tI
def kd_and (l1 h1 l2 h2 : Nat) (k : kd_V → Bool) : Bool := bif kd_one l1 h1 l2 h2 then kd_1 (fun a b => a &&& b) l1 l2 k else bif kd_pos l2 then k (0, kd_B, h2) else bif kd_pos l1 then k (0, kd_B, h1) else k kd_tI
def kd_pw (n : Nat) : Nat := 2 ^ (Nat.log2 n + 1) - 1
def kd_or (l1 h1 l2 h2 : Nat) (k : kd_V → Bool) : Bool := bif kd_one l1 h1 l2 h2 then kd_1 (fun a b => a ||| b) l1 l2 k else bif kd_pos l1 && (kd_pos l2 && Nat.ble (kd_pw (kd_mx (h1 - kd_B) (h2 - kd_B))) 2147483647) then kd_fit kd_B (kd_pw (kd_mx (h1 - kd_B) (h2 - kd_B)) + kd_B) k else k kd_tI
def kd_xor (l1 h1 l2 h2 : Nat) (k : kd_V → Bool) : Bool := bif kd_one l1 h1 l2 h2 then kd_1 (fun a b => a ^^^ b) l1 l2 k else k kd_tI
def kd_shl (l1 h1 l2 h2 : Nat) (k : kd_V → Bool) : Bool := bif kd_one l1 h1 l2 h2 then kd_1 (fun a b => a <<< (b &&& 31)) l1 l2 k else k kd_tI
def kd_shr (l1 h1 l2 h2 : Nat) (k : kd_V → Bool) : Bool := bif kd_one l1 h1 l2 h2 then kd_1 (fun a b => a >>> (b &&& 31)) l1 l2 k else bif kd_pos l2 && (Nat.beq l2 h2 && Nat.ble (l2 - kd_B) 30) then kd_fit (l1 / 2 ^ (l2 - kd_B) + (kd_B - kd_B / 2 ^ (l2 - kd_B))) (h1 / 2 ^ (l2 - kd_B) + (kd_B - kd_B / 2 ^ (l2 - kd_B))) k else k kd_tI
def kd_div (l1 h1 l2 h2 : Nat) (k : kd_V → Bool) : Bool := bif Nat.blt kd_B l2 then (bif kd_pos l1 && Nat.beq l2 h2 then kd_fit ((l1 - kd_B) / (l2 - kd_B) + kd_B) ((h1 - kd_B) / (l2 - kd_B) + kd_B) k else k kd_tI) else false
def kd_rem (l1 h1 l2 h2 : Nat) (k : kd_V → Bool) : Bool := bif Nat.blt kd_B l2 then (bif kd_one l1 h1 l2 h2 then kd_1 (fun a b => a - a / b * b) l1 l2 k else bif kd_pos l1 then wk_fN (h2 - 1) (fun h => k (0, kd_B, h)) else k kd_tI) else false
def kd_neg (l h : Nat) (k : kd_V → Bool) : Bool := bif Nat.blt 0 l then kd_fit (kd_B + kd_B - h) (kd_B + kd_B - l) k else k kd_tI
def kd_b2 (iv : kd_I) (n : Nat) (v w : kd_V) (f : Nat → Nat → Nat → Nat → (kd_V → Bool) → Bool) (k : kd_V → Bool) : Bool := kd_bd iv n v fun l1 h1 => kd_bd iv n w fun l2 h2 => f l1 h1 l2 h2 k
/-- int to long, long to int -/
def kd_il (iv : kd_I) (n : Nat) (v : kd_V) (k : kd_V → Bool) : Bool := bif Nat.beq v.1 1 then kd_bd iv n v (fun _ _ => k (6, v.2.1, v.2.2)) else kd_bd iv n v fun l h => wk_fN (l + (kd_C - kd_B)) fun l => wk_fN (h + (kd_C - kd_B)) fun h => k (2, l, h)
def kd_li (iv : kd_I) (n : Nat) (v : kd_V) (k : kd_V → Bool) : Bool := bif Nat.beq v.1 6 then kd_bj iv n v (fun l h => bif Nat.ble (kd_C - kd_B) l && Nat.ble h (kd_C - kd_B + kd_M) then k (1, v.2.1, v.2.2) else false) else kd_bj iv n v fun l h => bif Nat.ble (kd_C - kd_B) l && Nat.ble h (kd_C - kd_B + kd_M) then kd_fit (l - (kd_C - kd_B)) (h - (kd_C - kd_B)) k else k kd_tI
/-- and of two longs -/
def kd_landj (l1 h1 l2 h2 : Nat) (k : kd_V → Bool) : Bool := bif Nat.ble kd_C l2 then k (2, kd_C, h2) else bif Nat.ble kd_C l1 then k (2, kd_C, h1) else k kd_tJ
