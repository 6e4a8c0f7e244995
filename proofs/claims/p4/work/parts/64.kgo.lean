/-! ===== the second engine's run ===== -/
/-- a cell's kinds: how many places, the value -/
abbrev kd_T : Type := Nat → List (Nat × kd_V)
def kd_rn : List (Nat × kd_V) → Nat → Option kd_V
  | [], _ => none
  | (m, v) :: r, i => bif Nat.blt i m then some v else kd_rn r (i - m)
def kd_jn (v w : kd_V) : kd_V := match v, w with
  | (t, a, b), (s, c, d) => bif Nat.beq t s && (Nat.beq t 0 || (Nat.beq t 2 || Nat.beq t 3)) then (t, kd_mn a c, kd_mx b d) else (9, 0, 0)
/-- the places lo .. hi together -/
def kd_rgj : List (Nat × kd_V) → Nat → Nat → Option kd_V
  | [], _, _ => none
  | (m, v) :: r, lo, hi => bif Nat.blt hi m then some v else bif Nat.ble m lo then kd_rgj r (lo - m) (hi - m) else match kd_rgj r 0 (hi - m) with
    | some w => some (kd_jn v w)
    | none => none
/-- the same of cells in a row -/
def kd_rgc (ty : kd_T) : Nat → Nat → Nat → Nat → Option kd_V
  | 0, _, _, _ => none
  | m + 1, c, lo, hi => match kd_rgj (ty c) lo hi with
    | none => none
    | some v => bif Nat.beq m 0 then some v else match kd_rgc ty m (c + 1) lo hi with
      | some w => some (kd_jn v w)
      | none => none
/-- below the kinds of the places lo .. hi -/
def kd_rle (iv : kd_I) (n : Nat) (v : kd_V) : List (Nat × kd_V) → Nat → Nat → Bool
  | [], _, _ => false
  | (m, w) :: r, lo, hi => bif Nat.ble m lo then kd_rle iv n v r (lo - m) (hi - m) else kd_le iv n v w && (bif Nat.blt hi m then true else kd_rle iv n v r 0 (hi - m))
def kd_fa : kd_F → Nat → Nat → Option kd_V
  | [], _, _ => none
  | (c, i, v) :: r, c0, i0 => bif Nat.beq c c0 && Nat.beq i i0 then some v else kd_fa r c0 i0
def kd_inr (c c1 c2 i i1 i2 : Nat) : Bool := Nat.ble c1 c && (Nat.ble c c2 && (Nat.ble i1 i && Nat.ble i i2))
/-- what is known but of these places -/
def kd_kl : kd_F → Nat → Nat → Nat → Nat → (kd_F → Bool) → Bool
  | [], _, _, _, _, k => k []
  | (c, i, v) :: r, c1, c2, i1, i2, k => bif kd_inr c c1 c2 i i1 i2 then kd_kl r c1 c2 i1 i2 k else kd_kl r c1 c2 i1 i2 (fun r => k ((c, i, v) :: r))
def kd_klW : kd_W → kd_F → (kd_F → Bool) → Bool
  | [], F, k => k F
  | (c1, c2, i1, i2) :: r, F, k => kd_kl F c1 c2 i1 i2 (fun F => kd_klW r F k)
def kd_cov : kd_W → Nat → Nat → Nat → Nat → Bool
  | [], _, _, _, _ => false
  | (a, b, x, y) :: r, c1, c2, i1, i2 => bif Nat.ble a c1 && (Nat.ble c2 b && (Nat.ble x i1 && Nat.ble i2 y)) then true else kd_cov r c1 c2 i1 i2
def kd_adw (W : kd_W) (c1 c2 i1 i2 : Nat) : kd_W := bif kd_cov W c1 c2 i1 i2 then W else (c1, c2, i1, i2) :: W
def kd_aw (W : kd_W) (c1 c2 i1 i2 : Nat) (k : kd_W → Bool) : Bool := bif kd_cov W c1 c2 i1 i2 then k W else k ((c1, c2, i1, i2) :: W)
def kd_awW : kd_W → kd_W → (kd_W → Bool) → Bool
  | [], W, k => k W
  | (c1, c2, i1, i2) :: r, W, k => kd_aw W c1 c2 i1 i2 (fun W => kd_awW r W k)
abbrev kd_KF : Type := kd_I → Nat → kd_F → kd_V → Bool
/-- a value gets a name, and the place is known by it -/
def kd_nmF (iv : kd_I) (n : Nat) (F : kd_F) (c i : Nat) (v : kd_V) (k : kd_KF) : Bool := bif Nat.beq v.1 0 && Nat.blt v.2.1 v.2.2 then kd_nm iv n v (fun iv n v => k iv n ((c, i, v) :: F) v) else k iv n F v
def kd_ld (ty : kd_T) (iv : kd_I) (n : Nat) (F : kd_F) (c1 c2 i1 i2 : Nat) (k : kd_KF) : Bool :=
  bif Nat.beq c1 c2 && Nat.beq i1 i2 then (match kd_fa F c1 i1 with
    | some v => kd_nmF iv n F c1 i1 v k
    | none => match kd_rn (ty c1) i1 with
      | some v => kd_nmF iv n F c1 i1 v k
      | none => false)
  else match kd_rgc ty (c2 - c1 + 1) c1 i1 i2 with
    | some v => kd_fV v fun v => kd_nm iv n v (fun iv n v => k iv n F v)
    | none => false
def kd_sto (ty : kd_T) (iv : kd_I) (n : Nat) (F : kd_F) (W : kd_W) (c1 c2 i1 i2 : Nat) (v : kd_V) (k : kd_I → Nat → kd_F → kd_W → Bool) : Bool :=
  bif kd_each (fun c => kd_rle iv n v (ty c) i1 i2) (c2 - c1 + 1) c1 then kd_kl F c1 c2 i1 i2 fun F => kd_aw W c1 c2 i1 i2 fun W => (bif Nat.beq c1 c2 && Nat.beq i1 i2 then kd_nm iv n v (fun iv n v => k iv n ((c1, i1, v) :: F) W) else k iv n F W) else false
/-- shapes -/
def kd_shA (p : Nat → Bool) (hi c : Nat) : Bool := match kc_shp c with
  | some (s, t, m) => Nat.beq s 0 && (p t && (Nat.blt hi m && Nat.blt c kc_N))
  | none => false
def kd_shO (ci f c : Nat) : Bool := match kc_shp c with
  | some (s, t, m) => Nat.beq s 1 && (Nat.beq t ci && (Nat.blt f m && (Nat.blt c kc_N && Nat.blt t 1000)))
  | none => false
def kd_ix (iv : kd_I) (n : Nat) (v : kd_V) (k : Nat → Nat → Bool) : Bool := kd_bd iv n v fun l h => bif Nat.ble kd_B l then wk_fN (l - kd_B) fun l => wk_fN (h - kd_B) fun h => k l h else false
def kd_rf3 (v : kd_V) (k : Nat → Nat → Bool) : Bool := match v with
  | (t, a, b) => bif Nat.beq t 3 && Nat.ble a b then k a b else false
def kd_get (AL : List kd_V) (i : Nat) (p : Nat → Bool) (k : kd_V → Bool) : Bool := match wk_at AL i with
  | some (t, a, b) => bif p t then k (t, a, b) else false
  | none => false
def kd_lj (t : Nat) : Bool := Nat.beq t 2 || Nat.beq t 6
def kd_okp (AL : List kd_V) (i : Nat) : Bool := bif Nat.beq i 0 then true else match wk_at AL (i - 1) with
  | some (t, _, _) => bif kd_lj t then false else true
  | none => true
def kd_st1 (nL : Nat) (AL : List kd_V) (i : Nat) (v : kd_V) (k : List kd_V → Bool) : Bool := bif Nat.blt i nL && kd_okp AL i then wk_put AL i v k else false
def kd_st2 (nL : Nat) (AL : List kd_V) (i : Nat) (v : kd_V) (k : List kd_V → Bool) : Bool := bif Nat.blt (i + 1) nL && kd_okp AL i then wk_put AL i v (fun AL => wk_put AL (i + 1) (9, 0, 0) k) else false
def kd_isI (t : Nat) : Bool := Nat.ble t 1
def kd_isA (t : Nat) : Bool := Nat.beq t 3 || Nat.beq t 5
abbrev kd_Go : Type := Nat → kd_I → Nat → List kd_V → List kd_V → kd_F → kd_W → Bool
abbrev kd_R : Type := kd_I → Nat → Option kd_V → kd_F → kd_W → Bool
abbrev kd_Cl : Type := Nat → List kd_V → kd_I → Nat → kd_F → kd_W → kd_R → Bool
/-- a binary operation: what it does with two values -/
def kd_bin (go : kd_V → kd_V → (kd_V → Bool) → Bool) (AS : List kd_V) (k : List kd_V → Bool) : Bool := match AS with
  | w :: v :: AS => go v w (fun u => k (u :: AS))
  | _ => false
/-- operations 22 .. 32 on ints -/
def kd_ar (op : Nat) (iv : kd_I) (n : Nat) (v w : kd_V) (k : kd_V → Bool) : Bool :=
  bif Nat.ble op 24 then (bif Nat.beq op 22 then kd_add iv n v w k else bif Nat.beq op 23 then kd_sub iv n v w k else kd_b2 iv n v w kd_mul k)
  else bif Nat.ble op 27 then (bif Nat.beq op 25 then kd_b2 iv n v w kd_and k else bif Nat.beq op 26 then kd_b2 iv n v w kd_or k else kd_b2 iv n v w kd_xor k)
  else bif Nat.ble op 29 then (bif Nat.beq op 28 then kd_b2 iv n v w kd_shl k else kd_b2 iv n v w kd_shr k)
  else (bif Nat.beq op 30 then kd_b2 iv n v w kd_div k else kd_b2 iv n v w kd_rem k)
/-- where values of few kinds are cut -/
def kd_few (op : Nat) : Nat := bif Nat.ble op 23 then 0 else bif Nat.beq op 24 then 16 else bif Nat.beq op 25 then 8 else bif Nat.ble op 28 then 16 else 0
def kd_two (op : Nat) (iv : kd_I) (n : Nat) (AS : List kd_V) (k : kd_I → List kd_V → Bool) : Bool := match AS with
  | w :: v :: AS => kd_cut (kd_few op) iv n v (fun iv => kd_cut (kd_few op) iv n w (fun iv => kd_ar op iv n v w (fun u => k iv (u :: AS))))
  | _ => false
/-- the targets of a switch, one after another -/
def kd_sw (f : Nat → kd_I → Bool) (iv : kd_I) (n : Nat) (v : kd_V) (l h : Nat) : List Nat → Nat → Bool
  | [], _ => true
  | t :: r, a => (bif Nat.ble l a && Nat.ble a h then kd_rf iv n v a a (fun iv => f t iv) else true) && wk_fN (a + 1) (fun a => kd_sw f iv n v l h r a)
def kd_c1 (t : Nat) : Bool := Nat.ble t 1 || (Nat.beq t 3 || Nat.beq t 5)
def kd_cat : List kd_V → Nat
  | [] => 0
  | (t, _, _) :: l => (bif kd_c1 t then 1 else 2) + kd_cat l
def kd_tk : Nat → List kd_V → List kd_V → (List kd_V → List kd_V → Bool) → Bool
  | 0, AS, acc, k => k acc AS
  | m + 1, v :: AS, acc, k => kd_tk m AS (v :: acc) k
  | _ + 1, [], _, _ => false
/-- operations 41 .. 44 on the stack -/
def kd_stk (op : Nat) (AS : List kd_V) (k : List kd_V → Bool) : Bool := match AS with
  | [] => false
  | v :: AS => bif kd_c1 v.1 then (bif Nat.beq op 41 then k (v :: v :: AS) else bif Nat.beq op 44 then k AS else match AS with
    | [] => false
    | w :: AS => bif kd_c1 w.1 then (bif Nat.beq op 42 then k (v :: w :: v :: AS) else k (v :: w :: v :: w :: AS)) else false) else false
/-- operations 36, 38, 39, 37 on longs -/
def kd_lg (op : Nat) (iv : kd_I) (n : Nat) (v w : kd_V) (k : kd_V → Bool) : Bool :=
  bif Nat.ble op 37 then kd_bj iv n v (fun l1 h1 => kd_bj iv n w (fun l2 h2 => bif Nat.beq op 36 then k kd_tJ else kd_landj l1 h1 l2 h2 k))
  else bif Nat.beq op 38 then kd_bj iv n v (fun _ _ => kd_bd iv n w (fun _ _ => k kd_tJ))
  else kd_bj iv n v (fun _ _ => kd_bj iv n w (fun l2 _ => bif Nat.blt kd_C l2 then k kd_tJ else false))
/-- operations 56 .. 58 -/
def kd_mth (op : Nat) (iv : kd_I) (n : Nat) (AS : List kd_V) (k : List kd_V → Bool) : Bool := match AS with
  | [] => false
  | w :: AS => bif Nat.beq op 57 then (bif Nat.ble (kd_cat AS) 8 then kd_bd iv n w (fun l h => bif Nat.ble kd_B l then k ((0, l, h) :: AS) else k (kd_tI :: AS)) else false) else match AS with
    | [] => false
    | v :: AS => bif Nat.ble (kd_cat AS) 8 then kd_bd iv n v (fun l1 h1 => kd_bd iv n w (fun l2 h2 => bif Nat.beq op 56 then kd_fit (kd_mn l1 l2) (kd_mn h1 h2) (fun u => k (u :: AS)) else kd_fit (kd_mx l1 l2) (kd_mx h1 h2) (fun u => k (u :: AS)))) else false
/-- may the value be put into a field of that kind: 0 an int, 1 a boolean, 2 a long, 3 a reference -/
def kd_fk (c : Nat) (iv : kd_I) (n : Nat) (w : kd_V) : Bool := bif Nat.beq c 1 then kd_le iv n w (0, 2147483648, 2147483649) else bif Nat.beq c 0 then kd_bd iv n w (fun _ _ => true) else bif Nat.beq c 2 then kd_bj iv n w (fun _ _ => true) else bif Nat.beq c 3 then Nat.beq w.1 3 else false
/-- operations 46 .. 53 on cells -/
def kd_cel (ty : kd_T) (op a b c : Nat) (iv : kd_I) (n : Nat) (AS : List kd_V) (F : kd_F) (W : kd_W) (k : kd_I → Nat → List kd_V → kd_F → kd_W → Bool) : Bool := match AS with
  | [] => false
  | w :: AS =>
    bif Nat.beq op 46 then kd_rf3 w (fun c1 c2 => bif kd_each (kd_shO a b) (c2 - c1 + 1) c1 then kd_ld ty iv n F c1 c2 b b (fun iv n F v => k iv n (v :: AS) F W) else false)
    else bif Nat.beq op 53 then kd_rf3 w (fun c1 c2 => match kc_shp c1 with
      | some (_, _, m) => bif Nat.blt m 1000000 && (Nat.beq c1 c2 && kd_shA (fun _ => true) (m - 1) c1) then wk_fN (m + kd_B) (fun m => k iv n ((0, m, m) :: AS) F W) else false
      | none => false)
    else match AS with
    | [] => false
    | v :: AS =>
      bif Nat.beq op 47 then (bif kd_fk c iv n w then kd_rf3 v (fun c1 c2 => bif kd_each (kd_shO a b) (c2 - c1 + 1) c1 then kd_sto ty iv n F W c1 c2 b b w (fun iv n F W => k iv n AS F W) else false) else false)
      else bif Nat.ble op 50 then kd_rf3 v (fun c1 c2 => kd_ix iv n w (fun i1 i2 => bif kd_each (kd_shA (fun t => bif Nat.beq op 48 then Nat.beq t 0 else bif Nat.beq op 49 then Nat.beq t 1 else Nat.ble 2 t) i2) (c2 - c1 + 1) c1 then kd_ld ty iv n F c1 c2 i1 i2 (fun iv n F v => k iv n (v :: AS) F W) else false))
      else match AS with
      | [] => false
      | q :: AS => kd_rf3 q (fun c1 c2 => kd_ix iv n v (fun i1 i2 => bif kd_fk (op - 51) iv n w && kd_each (kd_shA (fun t => Nat.beq t (op - 51)) i2) (c2 - c1 + 1) c1 then kd_sto ty iv n F W c1 c2 i1 i2 w (fun iv n F W => k iv n AS F W) else false))
/-- arraycopy of whole rows -/
def kd_tq (a b : List (Nat × kd_V)) : Bool := match a, b with
  | [], [] => true
  | (m, v) :: r, (q, w) :: s => Nat.beq m q && (kd_le [] 0 v w && kd_tq r s)
  | _, _ => false
def kd_len (c : Nat) : Nat := match kc_shp c with
  | some (_, _, q) => q
  | none => 0
def kd_cpy (ty : kd_T) (iv : kd_I) (n : Nat) (AS : List kd_V) (F : kd_F) (W : kd_W) (k : List kd_V → kd_F → kd_W → Bool) : Bool := match AS with
  | m :: dp :: b :: sp :: a :: AS => kd_rf3 a (fun a1 a2 => kd_rf3 b (fun b1 b2 => wk_fN (kd_len b1) (fun q => bif Nat.beq a1 a2 && Nat.beq b1 b2 then (bif kd_shA (fun t => Nat.beq t 0) (q - 1) a1 && kd_shA (fun t => Nat.beq t 0) (q - 1) b1 then (bif Nat.beq (kd_len a1) q && Nat.blt 0 q then (bif kd_le iv n m (0, q + kd_B, q + kd_B) && (kd_le iv n dp (0, 2147483648, 2147483648) && kd_le iv n sp (0, 2147483648, 2147483648)) then (bif Nat.ble (kd_cat AS) 8 && kd_tq (ty a1) (ty b1) then kd_kl F b1 b1 0 (q - 1) (fun F => kd_aw W b1 b1 0 (q - 1) (fun W => k AS F W)) else false) else false) else false) else false) else false)))
  | _ => false
def kd_fnd : List kd_X → Nat → Option kd_X
  | [], _ => none
  | x :: r, pc => bif Nat.beq x.1 pc then some x else kd_fnd r pc
theorem kd_fnd_r : ∀ {l : List kd_X} {pc : Nat} {x : kd_X}, kd_fnd l pc = some x → x.1 = pc ∧ x ∈ l
  | [], _, _, h => by cases h
  | y :: r, pc, x, h => by
    unfold kd_fnd at h
    cases hb : Nat.beq y.1 pc with
    | true =>
      rw [hb] at h
      cases h
      exact ⟨Nat.eq_of_beq_eq_true hb, List.mem_cons_self⟩
    | false =>
      rw [hb] at h
      obtain ⟨h1, h2⟩ := kd_fnd_r h
      exact ⟨h1, List.mem_cons_of_mem _ h2⟩
def kd_fetch (X : List (List kd_X)) (pc : Nat) : Option kd_X := match wk_at X (pc / 16) with
  | some r => kd_fnd r pc
  | none => none
/-- what is returned: a 0 an int, 1 a boolean, 2 a long, 3 nothing -/
def kd_rt (a : Nat) (iv : kd_I) (n : Nat) (AS : List kd_V) (F : kd_F) (W : kd_W) (ret : kd_R) : Bool := match AS with
  | [] => bif Nat.beq a 3 then ret iv n none F W else false
  | [v] => bif Nat.blt a 3 && kd_fk a iv n v then ret iv n (some v) F W else false
  | _ => false
/-- one row -/
def kd_row (ty : kd_T) (nL : Nat) (call : kd_Cl) (ret : kd_R) (go : kd_Go) (x : kd_X) (iv : kd_I) (n : Nat) (AL AS : List kd_V) (F : kd_F) (W : kd_W) : Bool := match x with
  | (pc, op, a, b, c, len, l) =>
    bif Nat.ble op 9 then (
      bif Nat.ble op 4 then (
        bif Nat.beq op 1 then wk_fN (pc + len) (fun pc => go pc iv n AL ((0, a, a) :: AS) F W)
        else kd_get AL a (fun t => bif Nat.beq op 2 then kd_isI t else bif Nat.beq op 3 then kd_isA t else kd_lj t) (fun v => wk_fN (pc + len) (fun pc => go pc iv n AL (v :: AS) F W)))
      else bif Nat.ble op 7 then (match AS with
        | [] => false
        | v :: AS => bif (bif Nat.beq op 5 then kd_isI v.1 else bif Nat.beq op 6 then kd_isA v.1 else kd_lj v.1) then (bif Nat.beq op 7 then kd_st2 nL AL a v (fun AL => wk_fN (pc + len) (fun pc => go pc iv n AL AS F W)) else kd_nm iv n v (fun iv n v => kd_st1 nL AL a v (fun AL => wk_fN (pc + len) (fun pc => go pc iv n AL AS F W)))) else false)
      else bif Nat.beq op 8 then kd_get AL a kd_isI (fun v => kd_add iv n v (0, b, b) (fun v => kd_st1 nL AL a v (fun AL => wk_fN (pc + len) (fun pc => go pc iv n AL AS F W))))
      else go a iv n AL AS F W)
    else bif Nat.ble op 21 then (
      bif Nat.ble op 15 then (match AS with
        | [] => false
        | v :: AS => kd_br (op - 10) iv n v (0, 2147483648, 2147483648) (fun iv => go a iv n AL AS F W) (fun iv => wk_fN (pc + len) (fun pc => go pc iv n AL AS F W)))
      else (match AS with
        | w :: v :: AS => kd_br (op - 16) iv n v w (fun iv => go a iv n AL AS F W) (fun iv => wk_fN (pc + len) (fun pc => go pc iv n AL AS F W))
        | _ => false))
    else bif Nat.ble op 31 then kd_two op iv n AS (fun iv AS => wk_fN (pc + len) (fun pc => go pc iv n AL AS F W))
    else bif Nat.ble op 40 then (
      bif Nat.ble op 34 then (match AS with
        | [] => false
        | v :: AS => (bif Nat.beq op 32 then kd_bd iv n v (fun l h => kd_neg l h (fun u => wk_fN (pc + len) (fun pc => go pc iv n AL (u :: AS) F W))) else bif Nat.beq op 33 then kd_il iv n v (fun u => wk_fN (pc + len) (fun pc => go pc iv n AL (u :: AS) F W)) else kd_li iv n v (fun u => wk_fN (pc + len) (fun pc => go pc iv n AL (u :: AS) F W))))
      else bif Nat.beq op 35 then (match AS with
        | w :: v :: AS => kd_brj b iv n v w (fun iv => go a iv n AL AS F W) (fun iv => wk_fN (pc + len) (fun pc => go pc iv n AL AS F W))
        | _ => false)
      else bif Nat.beq op 40 then wk_fN (pc + len) (fun pc => go pc iv n AL ((2, a, a) :: AS) F W)
      else kd_bin (kd_lg op iv n) AS (fun AS => wk_fN (pc + len) (fun pc => go pc iv n AL AS F W)))
    else bif Nat.ble op 45 then (
      bif Nat.ble op 44 then kd_stk op AS (fun AS => wk_fN (pc + len) (fun pc => go pc iv n AL AS F W))
      else (match AS with
        | [] => false
        | v :: AS => kd_bd iv n v (fun lo hi => kd_sw (fun t iv => go t iv n AL AS F W) iv n v lo hi l a && (bif Nat.ble a lo && Nat.blt hi (a + l.length) then true else go b iv n AL AS F W))))
    else bif Nat.ble op 53 then kd_cel ty op a b c iv n AS F W (fun iv n AS F W => wk_fN (pc + len) (fun pc => go pc iv n AL AS F W))
    else bif Nat.beq op 54 then kd_tk b AS [] (fun av AS => bif Nat.ble (kd_cat AS) 8 && (bif Nat.beq c 99 then true else match av with
      | (t, c1, c2) :: _ => Nat.beq t 3 && (Nat.ble c1 c2 && kd_each (kd_shO c 0) (c2 - c1 + 1) c1)
      | [] => false) then call a av iv n F W (fun iv n rv F W => wk_fN (pc + 3) (fun pc => go pc iv n AL (match rv with
      | some v => v :: AS
      | none => AS) F W)) else false)
    else bif Nat.beq op 55 then kd_cpy ty iv n AS F W (fun AS F W => wk_fN (pc + len) (fun pc => go pc iv n AL AS F W))
    else bif Nat.ble op 58 then kd_mth op iv n AS (fun AS => wk_fN (pc + len) (fun pc => go pc iv n AL AS F W))
    else kd_rt a iv n AS F W ret
/-! the same row, chosen by its operation first: little is copied a step -/
abbrev kd_Arm : Type := kd_T → Nat → kd_Cl → kd_R → kd_Go → Nat → Nat → Nat → Nat → Nat → Nat → List Nat → kd_I → Nat → List kd_V → List kd_V → kd_F → kd_W → Bool
def kd_a1 (ty : kd_T) (nL : Nat) (call : kd_Cl) (ret : kd_R) (go : kd_Go) (pc op a b c len : Nat) (l : List Nat) (iv : kd_I) (n : Nat) (AL AS : List kd_V) (F : kd_F) (W : kd_W) : Bool := wk_fN (pc + len) (fun pc => go pc iv n AL ((0, a, a) :: AS) F W)
def kd_a2 (ty : kd_T) (nL : Nat) (call : kd_Cl) (ret : kd_R) (go : kd_Go) (pc op a b c len : Nat) (l : List Nat) (iv : kd_I) (n : Nat) (AL AS : List kd_V) (F : kd_F) (W : kd_W) : Bool := kd_get AL a (fun t => bif Nat.beq op 2 then kd_isI t else bif Nat.beq op 3 then kd_isA t else kd_lj t) (fun v => wk_fN (pc + len) (fun pc => go pc iv n AL (v :: AS) F W))
def kd_a5 (ty : kd_T) (nL : Nat) (call : kd_Cl) (ret : kd_R) (go : kd_Go) (pc op a b c len : Nat) (l : List Nat) (iv : kd_I) (n : Nat) (AL AS : List kd_V) (F : kd_F) (W : kd_W) : Bool := match AS with
  | [] => false
  | v :: AS => bif (bif Nat.beq op 5 then kd_isI v.1 else bif Nat.beq op 6 then kd_isA v.1 else kd_lj v.1) then (bif Nat.beq op 7 then kd_st2 nL AL a v (fun AL => wk_fN (pc + len) (fun pc => go pc iv n AL AS F W)) else kd_nm iv n v (fun iv n v => kd_st1 nL AL a v (fun AL => wk_fN (pc + len) (fun pc => go pc iv n AL AS F W)))) else false
def kd_a8 (ty : kd_T) (nL : Nat) (call : kd_Cl) (ret : kd_R) (go : kd_Go) (pc op a b c len : Nat) (l : List Nat) (iv : kd_I) (n : Nat) (AL AS : List kd_V) (F : kd_F) (W : kd_W) : Bool := kd_get AL a kd_isI (fun v => kd_add iv n v (0, b, b) (fun v => kd_st1 nL AL a v (fun AL => wk_fN (pc + len) (fun pc => go pc iv n AL AS F W))))
def kd_a9 (ty : kd_T) (nL : Nat) (call : kd_Cl) (ret : kd_R) (go : kd_Go) (pc op a b c len : Nat) (l : List Nat) (iv : kd_I) (n : Nat) (AL AS : List kd_V) (F : kd_F) (W : kd_W) : Bool := go a iv n AL AS F W
def kd_a10 (ty : kd_T) (nL : Nat) (call : kd_Cl) (ret : kd_R) (go : kd_Go) (pc op a b c len : Nat) (l : List Nat) (iv : kd_I) (n : Nat) (AL AS : List kd_V) (F : kd_F) (W : kd_W) : Bool := match AS with
  | [] => false
  | v :: AS => kd_br (op - 10) iv n v (0, 2147483648, 2147483648) (fun iv => go a iv n AL AS F W) (fun iv => wk_fN (pc + len) (fun pc => go pc iv n AL AS F W))
def kd_a16 (ty : kd_T) (nL : Nat) (call : kd_Cl) (ret : kd_R) (go : kd_Go) (pc op a b c len : Nat) (l : List Nat) (iv : kd_I) (n : Nat) (AL AS : List kd_V) (F : kd_F) (W : kd_W) : Bool := match AS with
  | w :: v :: AS => kd_br (op - 16) iv n v w (fun iv => go a iv n AL AS F W) (fun iv => wk_fN (pc + len) (fun pc => go pc iv n AL AS F W))
  | _ => false
def kd_a22 (ty : kd_T) (nL : Nat) (call : kd_Cl) (ret : kd_R) (go : kd_Go) (pc op a b c len : Nat) (l : List Nat) (iv : kd_I) (n : Nat) (AL AS : List kd_V) (F : kd_F) (W : kd_W) : Bool := kd_two op iv n AS (fun iv AS => wk_fN (pc + len) (fun pc => go pc iv n AL AS F W))
def kd_a32 (ty : kd_T) (nL : Nat) (call : kd_Cl) (ret : kd_R) (go : kd_Go) (pc op a b c len : Nat) (l : List Nat) (iv : kd_I) (n : Nat) (AL AS : List kd_V) (F : kd_F) (W : kd_W) : Bool := match AS with
  | [] => false
  | v :: AS => (bif Nat.beq op 32 then kd_bd iv n v (fun l h => kd_neg l h (fun u => wk_fN (pc + len) (fun pc => go pc iv n AL (u :: AS) F W))) else bif Nat.beq op 33 then kd_il iv n v (fun u => wk_fN (pc + len) (fun pc => go pc iv n AL (u :: AS) F W)) else kd_li iv n v (fun u => wk_fN (pc + len) (fun pc => go pc iv n AL (u :: AS) F W)))
def kd_a35 (ty : kd_T) (nL : Nat) (call : kd_Cl) (ret : kd_R) (go : kd_Go) (pc op a b c len : Nat) (l : List Nat) (iv : kd_I) (n : Nat) (AL AS : List kd_V) (F : kd_F) (W : kd_W) : Bool := match AS with
  | w :: v :: AS => kd_brj b iv n v w (fun iv => go a iv n AL AS F W) (fun iv => wk_fN (pc + len) (fun pc => go pc iv n AL AS F W))
  | _ => false
def kd_a40 (ty : kd_T) (nL : Nat) (call : kd_Cl) (ret : kd_R) (go : kd_Go) (pc op a b c len : Nat) (l : List Nat) (iv : kd_I) (n : Nat) (AL AS : List kd_V) (F : kd_F) (W : kd_W) : Bool := wk_fN (pc + len) (fun pc => go pc iv n AL ((2, a, a) :: AS) F W)
def kd_a36 (ty : kd_T) (nL : Nat) (call : kd_Cl) (ret : kd_R) (go : kd_Go) (pc op a b c len : Nat) (l : List Nat) (iv : kd_I) (n : Nat) (AL AS : List kd_V) (F : kd_F) (W : kd_W) : Bool := kd_bin (kd_lg op iv n) AS (fun AS => wk_fN (pc + len) (fun pc => go pc iv n AL AS F W))
def kd_a41 (ty : kd_T) (nL : Nat) (call : kd_Cl) (ret : kd_R) (go : kd_Go) (pc op a b c len : Nat) (l : List Nat) (iv : kd_I) (n : Nat) (AL AS : List kd_V) (F : kd_F) (W : kd_W) : Bool := kd_stk op AS (fun AS => wk_fN (pc + len) (fun pc => go pc iv n AL AS F W))
def kd_a45 (ty : kd_T) (nL : Nat) (call : kd_Cl) (ret : kd_R) (go : kd_Go) (pc op a b c len : Nat) (l : List Nat) (iv : kd_I) (n : Nat) (AL AS : List kd_V) (F : kd_F) (W : kd_W) : Bool := match AS with
  | [] => false
  | v :: AS => kd_bd iv n v (fun lo hi => kd_sw (fun t iv => go t iv n AL AS F W) iv n v lo hi l a && (bif Nat.ble a lo && Nat.blt hi (a + l.length) then true else go b iv n AL AS F W))
def kd_a46 (ty : kd_T) (nL : Nat) (call : kd_Cl) (ret : kd_R) (go : kd_Go) (pc op a b c len : Nat) (l : List Nat) (iv : kd_I) (n : Nat) (AL AS : List kd_V) (F : kd_F) (W : kd_W) : Bool := kd_cel ty op a b c iv n AS F W (fun iv n AS F W => wk_fN (pc + len) (fun pc => go pc iv n AL AS F W))
def kd_a54 (ty : kd_T) (nL : Nat) (call : kd_Cl) (ret : kd_R) (go : kd_Go) (pc op a b c len : Nat) (l : List Nat) (iv : kd_I) (n : Nat) (AL AS : List kd_V) (F : kd_F) (W : kd_W) : Bool := kd_tk b AS [] (fun av AS => bif Nat.ble (kd_cat AS) 8 && (bif Nat.beq c 99 then true else match av with
  | (t, c1, c2) :: _ => Nat.beq t 3 && (Nat.ble c1 c2 && kd_each (kd_shO c 0) (c2 - c1 + 1) c1)
  | [] => false) then call a av iv n F W (fun iv n rv F W => wk_fN (pc + 3) (fun pc => go pc iv n AL (match rv with
  | some v => v :: AS
  | none => AS) F W)) else false)
def kd_a55 (ty : kd_T) (nL : Nat) (call : kd_Cl) (ret : kd_R) (go : kd_Go) (pc op a b c len : Nat) (l : List Nat) (iv : kd_I) (n : Nat) (AL AS : List kd_V) (F : kd_F) (W : kd_W) : Bool := kd_cpy ty iv n AS F W (fun AS F W => wk_fN (pc + len) (fun pc => go pc iv n AL AS F W))
def kd_a56 (ty : kd_T) (nL : Nat) (call : kd_Cl) (ret : kd_R) (go : kd_Go) (pc op a b c len : Nat) (l : List Nat) (iv : kd_I) (n : Nat) (AL AS : List kd_V) (F : kd_F) (W : kd_W) : Bool := kd_mth op iv n AS (fun AS => wk_fN (pc + len) (fun pc => go pc iv n AL AS F W))
def kd_a59 (ty : kd_T) (nL : Nat) (call : kd_Cl) (ret : kd_R) (go : kd_Go) (pc op a b c len : Nat) (l : List Nat) (iv : kd_I) (n : Nat) (AL AS : List kd_V) (F : kd_F) (W : kd_W) : Bool := kd_rt a iv n AS F W ret
def kd_sel1 (op : Nat) : kd_Arm := bif Nat.ble op 4 then (bif Nat.beq op 1 then kd_a1 else kd_a2) else bif Nat.ble op 7 then kd_a5 else bif Nat.beq op 8 then kd_a8 else kd_a9
def kd_sel2 (op : Nat) : kd_Arm := bif Nat.ble op 15 then kd_a10 else kd_a16
def kd_sel3 (op : Nat) : kd_Arm := bif Nat.ble op 34 then kd_a32 else bif Nat.beq op 35 then kd_a35 else bif Nat.beq op 40 then kd_a40 else kd_a36
def kd_sel4 (op : Nat) : kd_Arm := bif Nat.ble op 44 then kd_a41 else kd_a45
def kd_sel5 (op : Nat) : kd_Arm := bif Nat.beq op 54 then kd_a54 else bif Nat.beq op 55 then kd_a55 else bif Nat.ble op 58 then kd_a56 else kd_a59
def kd_sel (op : Nat) : kd_Arm := bif Nat.ble op 31 then (bif Nat.ble op 9 then kd_sel1 op else bif Nat.ble op 21 then kd_sel2 op else kd_a22) else bif Nat.ble op 53 then (bif Nat.ble op 45 then (bif Nat.ble op 40 then kd_sel3 op else kd_sel4 op) else kd_a46) else kd_sel5 op
def kd_rowf (ty : kd_T) (nL : Nat) (call : kd_Cl) (ret : kd_R) (go : kd_Go) (x : kd_X) (iv : kd_I) (n : Nat) (AL AS : List kd_V) (F : kd_F) (W : kd_W) : Bool := match x with
  | (pc, op, a, b, c, len, l) => kd_sel op ty nL call ret go pc op a b c len l iv n AL AS F W
theorem kd_ble_tr {op a b : Nat} (h : Nat.ble op a = true) (hab : a ≤ b) : Nat.ble op b = true := Nat.ble_eq.mpr (Nat.le_trans (Nat.le_of_ble_eq_true h) hab)
theorem kd_ble_fa {op a b : Nat} (h : Nat.ble op b = false) (hab : a ≤ b) : Nat.ble op a = false := by
  cases hb : Nat.ble op a with
  | false => rfl
  | true => rw [kd_ble_tr hb hab] at h; cases h
theorem kd_rowf_eq (ty : kd_T) (nL : Nat) (call : kd_Cl) (ret : kd_R) (go : kd_Go) (x : kd_X) (iv : kd_I) (n : Nat) (AL AS : List kd_V) (F : kd_F) (W : kd_W) : kd_rowf ty nL call ret go x iv n AL AS F W = kd_row ty nL call ret go x iv n AL AS F W := by
  obtain ⟨pc, op, a, b, c, len, l⟩ := x
  show kd_sel op ty nL call ret go pc op a b c len l iv n AL AS F W = _
  unfold kd_sel kd_row
  simp only
  cases h31 : Nat.ble op 31 with
  | true =>
    cases h9 : Nat.ble op 9 with
    | true =>
      unfold kd_sel1
      cases h4 : Nat.ble op 4 with
      | true => cases h1 : Nat.beq op 1 <;> rfl
      | false =>
        cases h7 : Nat.ble op 7 with
        | true => rfl
        | false => cases h8 : Nat.beq op 8 <;> rfl
    | false =>
      cases h21 : Nat.ble op 21 with
      | true =>
        unfold kd_sel2
        cases h15 : Nat.ble op 15 <;> rfl
      | false => rfl
  | false =>
    rw [kd_ble_fa h31 (by decide : 9 ≤ 31), kd_ble_fa h31 (by decide : 21 ≤ 31)]
    cases h53 : Nat.ble op 53 with
    | true =>
      cases h45 : Nat.ble op 45 with
      | true =>
        cases h40 : Nat.ble op 40 with
        | true =>
          unfold kd_sel3
          cases h34 : Nat.ble op 34 with
          | true => rfl
          | false =>
            cases h35 : Nat.beq op 35 with
            | true => rfl
            | false => cases h40b : Nat.beq op 40 <;> rfl
        | false =>
          unfold kd_sel4
          cases h44 : Nat.ble op 44 <;> rfl
      | false =>
        rw [kd_ble_fa h45 (by decide : 40 ≤ 45)]
        rfl
    | false =>
      rw [kd_ble_fa h53 (by decide : 40 ≤ 53), kd_ble_fa h53 (by decide : 45 ≤ 53)]
      unfold kd_sel5
      cases h54 : Nat.beq op 54 with
      | true => rfl
      | false =>
        cases h55 : Nat.beq op 55 with
        | true => rfl
        | false => cases h58 : Nat.ble op 58 <;> rfl
/-- stations are met where the stack is empty alone -/
def kd_ct0 (AS : List kd_V) (b : Bool) : Bool := match AS with
  | [] => b
  | _ :: _ => false
theorem kd_ct0_r {AS : List kd_V} {b : Bool} (h : kd_ct0 AS b = true) : b = true := by
  cases AS with
  | nil => exact h
  | cons _ _ => cases h
abbrev kd_Cu : Type := Nat → kd_I → Nat → List kd_V → List kd_V → kd_F → kd_W → Bool
noncomputable def kd_go (ty : kd_T) (X : List (List kd_X)) (nL : Nat) (cut : kd_Cu) (call : kd_Cl) (ret : kd_R) (fuel : Nat) : kd_Go :=
  Nat.rec (fun _ _ _ _ _ _ _ => false) (fun _ go pc iv n AL AS F W => bif kd_ct0 AS (cut pc iv n AL AS F W) then true else match kd_fetch X pc with
    | none => false
    | some x => kd_rowf ty nL call ret go x iv n AL AS F W) fuel
