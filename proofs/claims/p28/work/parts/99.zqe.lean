/-! ===== BEST: what is sought ===== -/
def pb_D (S : Nat → Nat) (n : Nat) (l : List Nat) : Nat → Nat := fun j => if j < n then S (pb_g l j) else 0
abbrev pb_U := Nat × Nat × (Nat → Nat)
def pb_v (B : Nat → Int32) (S : Nat → Nat) (n L M : Nat) (l : List Nat) : Nat := (fs_T B (pb_D S n l) n L M 1000000 (fun _ => 0)).1
def pb_f (B : Nat → Int32) (S : Nat → Nat) (n : Nat) (l : List Nat) : Nat := fs_far B (pb_D S n l) n
def pb_st (B : Nat → Int32) (S : Nat → Nat) (n L M : Nat) (l : List Nat) (U : pb_U) : pb_U := if pb_v B S n L M l < 1000000 ∧ (pb_v B S n L M l < U.1 ∨ (pb_v B S n L M l = U.1 ∧ pb_f B S n l < U.2.1)) then (pb_v B S n L M l, pb_f B S n l, pb_D S n l) else U
def pb_it (B : Nat → Int32) (S : Nat → Nat) (n L M : Nat) : Nat → List Nat → pb_U → pb_U
  | 0, _, U => U
  | u + 1, l, U => match pb_m n (pb_nr n n (pb_g l)) with
    | none => pb_st B S n L M l U
    | some l2 => pb_it B S n L M u l2 (pb_st B S n L M l U)
def pb_B (B : Nat → Int32) (D : Nat → Nat) (n : Nat) : Nat → Int32 := fun j => if 150 ≤ j ∧ j < 150 + n then Int32.ofNat (D (j - 150)) else B j
theorem pb_Bo {B : Nat → Int32} {D : Nat → Nat} {n j : Nat} (hn : n ≤ 5) (hj : j < 150 ∨ 155 ≤ j) : pb_B B D n j = B j := if_neg (by omega)
theorem pb_Bn {B : Nat → Int32} {D : Nat → Nat} {n j : Nat} (hn : n ≤ 5) (hj : j < 150 ∨ 155 ≤ j) : fa_n (pb_B B D n) j = fa_n B j := by
  unfold fa_n
  rw [pb_Bo hn hj]
theorem pb_Bi {B : Nat → Int32} {D : Nat → Nat} {n k : Nat} (hk : k < n) : pb_B B D n (150 + k) = Int32.ofNat (D k) := by
  unfold pb_B
  rw [if_pos (by omega), Nat.add_sub_cancel_left]
theorem pb_BT {B : Nat → Int32} {D : Nat → Nat} {n : Nat} (hB : fu_BT B) (hn : n ≤ 5) (hD : ∀ k, D k < 6) : fu_BT (pb_B B D n) := fun j hj ht => by
  unfold pb_B
  by_cases e : 150 ≤ j ∧ j < 150 + n
  · rw [if_pos e]
    have q := (fu_fli (j - 150) (by omega)).2.2
    rw [show 150 + (j - 150) = j by omega] at q
    have h1 := hD (j - 150)
    have h2 := fa_nbn (show D (j - 150) < 2147483648 by omega)
    unfold fu_ok
    rw [q, h2]
    exact ⟨Nat.le_add_left _ _, by omega⟩
  · rw [if_neg e]; exact hB j hj ht
theorem pb_B0 {B : Nat → Int32} {n : Nat} (hB : fu_BT B) (hn : n ≤ 5) : pb_B B (fs_D B n) n = B := by
  funext j
  unfold pb_B
  by_cases e : 150 ≤ j ∧ j < 150 + n
  · rw [if_pos e]
    have := fs_Dv hB hn (show j - 150 < n by omega)
    rw [show 150 + (j - 150) = j by omega] at this
    exact this.symm
  · rw [if_neg e]
theorem ms_all_c {p q : Nat → Bool} : ∀ k, (∀ j, j < k → p j = q j) → ms_all p k = ms_all q k
  | 0, _ => rfl
  | k + 1, h => by
    show (ms_all p k && p k) = (ms_all q k && q k)
    rw [ms_all_c k (fun j hj => h j (by omega)), h k (by omega)]
theorem ms_max_c {p q : Nat → Nat} : ∀ k, (∀ j, j < k → p j = q j) → ms_max p k = ms_max q k
  | 0, _ => rfl
  | k + 1, h => by
    show Nat.max (ms_max p k) (p k) = Nat.max (ms_max q k) (q k)
    rw [ms_max_c k (fun j hj => h j (by omega)), h k (by omega)]
theorem ms_s_V {V V' : Nat → Nat → Nat} {c : Nat → Nat} {s i : Nat} : ∀ l, (∀ j, j < l → V j i = V' j i) → ms_s V c s i l = ms_s V' c s i l
  | 0, _ => rfl
  | l + 1, h => by
    show ms_s V c s i l + (if c l = s then V l i else 0) = ms_s V' c s i l + (if c l = s then V' l i else 0)
    rw [ms_s_V l (fun j hj => h j (by omega)), h l (by omega)]
theorem pb_T {B : Nat → Int32} {D D' : Nat → Nat} {n L M v : Nat} {f : Nat → Nat} (hn : n ≤ 5) (hL : L ≤ 10) (hM : M ≤ 3) : fs_T (pb_B B D' n) D n L M v f = fs_T B D n L M v f := by
  have hF : ∀ l, l < L → fs_F (pb_B B D' n) D n l = fs_F B D n l := fun l hl => by
    unfold fs_F
    rw [pb_Bn hn (Or.inl (by omega))]
  have hco : ∀ l, l < L → fs_co (pb_B B D' n) D n l = fs_co B D n l := fun l hl => by
    unfold fs_co
    rw [hF l hl, pb_Bn hn (Or.inl (by omega))]
  have hE : ∀ l, l < L → fs_E (pb_B B D' n) D n l = fs_E B D n l := fun l hl => by
    unfold fs_E
    rw [hco l hl, pb_Bn hn (Or.inl (by omega))]
  have hw : ∀ l i, l < L → fa_w (pb_B B D' n) l i = fa_w B l i := fun l i hl => by
    unfold fa_w
    rw [pb_Bn hn (Or.inl (by omega)), pb_Bn hn (Or.inl (by omega))]
  have hO : ∀ l i, l < L → fs_O (fs_F (pb_B B D' n) D n) (fs_E (pb_B B D' n) D n) l i = fs_O (fs_F B D n) (fs_E B D n) l i := fun l i hl => by
    unfold fs_O
    rw [hF l hl, hE l hl]
  have hV : ∀ (W W' : Nat → Nat → Nat) (c : Nat → Nat) (s i : Nat), (∀ l, l < L → W l i = W' l i) → ms_s (ms_v W (fs_O (fs_F (pb_B B D' n) D n) (fs_E (pb_B B D' n) D n))) c s i L = ms_s (ms_v W' (fs_O (fs_F B D n) (fs_E B D n))) c s i L := fun W W' c s i h => ms_s_V L (fun l hl => by
    unfold ms_v
    rw [hO l i hl, h l hl])
  have hcap : ∀ m, m < M → fs_cap (pb_B B D' n) (2 * m) = fs_cap B (2 * m) ∧ fs_cap (pb_B B D' n) (2 * m + 1) = fs_cap B (2 * m + 1) := fun m hm => by
    rw [fs_cap0.1, fs_cap0.2, fs_cap0.1, fs_cap0.2, pb_Bn hn (Or.inl (by omega)), pb_Bn hn (Or.inl (by omega))]
    exact ⟨rfl, rfl⟩
  have hmost : ∀ m, m < M → fs_most (pb_B B D' n) m = fs_most B m := fun m hm => pb_Bn hn (Or.inl (by omega))
  have e1 : fs_bor (pb_B B D' n) D n L M = fs_bor B D n L M := by
    funext c
    unfold fs_bor ms_bor
    refine ms_all_c n (fun i _ => ms_all_c M (fun m hm => ?_))
    unfold ms_bm
    rw [hV _ (fun l i => fa_w B l i) c (2 * m) i (fun l hl => hw l i hl), hV _ (fun l i => fa_w B l i) c (2 * m + 1) i (fun l hl => hw l i hl), hV _ (fun _ _ => 1) c (2 * m) i (fun _ _ => rfl), hV _ (fun _ _ => 1) c (2 * m + 1) i (fun _ _ => rfl), (hcap m hm).1, (hcap m hm).2, hmost m hm]
  have e2 : fs_wo (pb_B B D' n) D n L M = fs_wo B D n L M := by
    funext c
    unfold fs_wo ms_wo ms_wl
    refine ms_max_c n (fun i _ => ms_max_c M (fun m hm => ?_))
    rw [hV _ (fun l i => fa_w B l i) c (2 * m) i (fun l hl => hw l i hl), hV _ (fun l i => fa_w B l i) c (2 * m + 1) i (fun l hl => hw l i hl)]
  unfold fs_T
  rw [e1, e2]
theorem pb_mi {B : Nat → Int32} {D D' : Nat → Nat} {n k : Nat} (hn : n ≤ 5) (hD : ∀ k, D k < 6) : fs_mi (pb_B B D' n) D k = fs_mi B D k := by
  unfold fs_mi
  have h1 := fs_lal hD k
  have h2 := hD k
  exact pb_Bn hn (Or.inl (by omega))
theorem pb_Dl {S : Nat → Nat} {n : Nat} {l : List Nat} (hS : ∀ j, j < n → S j < 6) (hl : ∀ j, j < n → pb_g l j < n) (k : Nat) : pb_D S n l k < 6 := by
  unfold pb_D
  by_cases e : k < n
  · rw [if_pos e]; exact hS _ (hl k e)
  · rw [if_neg e]; exact Nat.zero_lt_succ _
theorem pb_Di {S : Nat → Nat} {n : Nat} {l : List Nat} (hS : ∀ i j, i < n → j < n → S i = S j → i = j) (hl : ∀ j, j < n → pb_g l j < n) (hi : ∀ i j, i < n → j < n → pb_g l i = pb_g l j → i = j) : ∀ i j, i < n → j < n → pb_D S n l i = pb_D S n l j → i = j := fun i j h1 h2 e => by
  unfold pb_D at e
  rw [if_pos h1, if_pos h2] at e
  exact hi i j h1 h2 (hS _ _ (hl i h1) (hl j h2) e)
theorem pb_stl {B : Nat → Int32} {S : Nat → Nat} {n L M : Nat} {l : List Nat} {U : pb_U} (hU : U.1 ≤ 1000000) : (pb_st B S n L M l U).1 ≤ 1000000 := by
  unfold pb_st
  by_cases e : pb_v B S n L M l < 1000000 ∧ (pb_v B S n L M l < U.1 ∨ (pb_v B S n L M l = U.1 ∧ pb_f B S n l < U.2.1))
  · rw [if_pos e]; exact Nat.le_of_lt e.1
  · rw [if_neg e]; exact hU
def fs_BS (h0 : kc_H) (B : Nat → Int32) (S D0 : Nat → Nat) (n : Nat) (l : List Nat) (U : pb_U) (h : kc_H) : Prop := kd_wt kd_ty h ∧ (∃ D, (∀ k, D k < 6) ∧ fu_B (pb_B B D n) h) ∧ h 259 35 = .inl (Int32.ofNat n) ∧ fs_row (pb_g l) n h ∧ (∀ j, j < n → h 280 j = .inl (Int32.ofNat (S j))) ∧ (h 259 39 = .inl (Int32.ofNat U.1) ∧ U.1 ≤ 1000000) ∧ (h 259 38 = .inl (Int32.ofNat U.2.1) ∧ U.2.1 ≤ 1000) ∧ (U.1 < 1000000 → ∀ j, j < n → h 281 j = .inl (Int32.ofNat (U.2.2 j))) ∧ (∀ j, j < n → h 282 j = .inl (Int32.ofNat (D0 j))) ∧ ∀ a x, ¬ (a = 259 ∧ 33 ≤ x ∧ x ≤ 39) → ¬ (272 ≤ a ∧ a ≤ 282) → ¬ (a = 260 ∧ 150 ≤ x ∧ x < 155) → h a x = h0 a x
/-- a DOOR of THE LINE is put down -/
theorem pb_B_u {B : Nat → Int32} {D : Nat → Nat} {n k v : Nat} {h : kc_H} (hk : k < n) (hC : fu_B (pb_B B D n) h) : fu_B (pb_B B (ms_u D k v) n) (kc_upd h 260 (150 + k) (.inl (Int32.ofNat v))) := fun j hj ht => by
  by_cases e : j = 150 + k
  · rw [e, fu_eq, pb_Bi hk, ms_ue]
  · rw [fu_ne (fun q => e q.2), hC j hj ht]
    unfold pb_B
    by_cases c : 150 ≤ j ∧ j < 150 + n
    · rw [if_pos c, if_pos c, ms_un (by omega)]
    · rw [if_neg c, if_neg c]
theorem pb_B_e {B : Nat → Int32} {D D' : Nat → Nat} {n : Nat} (e : ∀ j, j < n → D j = D' j) : pb_B B D n = pb_B B D' n := by
  funext j
  unfold pb_B
  by_cases c : 150 ≤ j ∧ j < 150 + n
  · rw [if_pos c, if_pos c, e (j - 150) (by omega)]
  · rw [if_neg c, if_neg c]
def fs_BE (h0 : kc_H) (D0 : Nat → Nat) (n : Nat) (U : pb_U) (h : kc_H) : Prop := kd_wt kd_ty h ∧ (h 259 39 = .inl (Int32.ofNat U.1) ∧ U.1 ≤ 1000000) ∧ h 259 38 = .inl (Int32.ofNat U.2.1) ∧ (U.1 < 1000000 → ∀ j, j < n → h 281 j = .inl (Int32.ofNat (U.2.2 j))) ∧ (∀ j, j < n → h 282 j = .inl (Int32.ofNat (D0 j))) ∧ ∀ a x, ¬ (a = 259 ∧ 33 ≤ x ∧ x ≤ 39) → ¬ (272 ≤ a ∧ a ≤ 282) → ¬ (a = 260 ∧ 150 ≤ x ∧ x < 150 + n) → h a x = h0 a x
set_option maxRecDepth 20000 in
theorem fs_r130e {g : kc_G} {d : Nat} {h0 : kc_H} {D0 : Nat → Nat} {n : Nat} {U : pb_U} (hn : n ≤ 5) (hD0 : ∀ j, D0 j < 6) : ∀ (u k : Nat) (h : kc_H), n - k = u → k ≤ n → fs_BE h0 D0 n U h → (∀ j, j < k → h 260 (150 + j) = .inl (Int32.ofNat (D0 j))) → kc_Ev g d wk_m130 (fun rv h' => rv = some (.inl (kp_b (decide ((U).1 < 1000000)))) ∧ kd_wt kd_ty h' ∧ (h' 259 39 = .inl (Int32.ofNat (U).1)) ∧ (h' 259 38 = .inl (Int32.ofNat (U).2.1)) ∧ ((U).1 < 1000000 → ∀ j, j < n → h' 281 j = .inl (Int32.ofNat ((U).2.2 j))) ∧ (∀ j, j < n → h' 260 (150 + j) = .inl (Int32.ofNat (D0 j))) ∧ ∀ a x, ¬ (a = 259 ∧ 33 ≤ x ∧ x ≤ 39) → ¬ (272 ≤ a ∧ a ≤ 282) → ¬ (a = 260 ∧ 150 ≤ x ∧ x < 150 + n) → h' a x = h0 a x) 217 [(4, .inl (Int32.ofNat k)), (0, .inr (.inr (.inl (some 259)))), (2, .inl (Int32.ofNat n))] [] h := by
  intro u
  induction u with
  | zero =>
    intro k h hu hk hE hl
    obtain ⟨hw, e39, e38, e281, e282, hF⟩ := hE
    refine kx_go 3 (pc' := (if kc_cnd .ge (Int32.ofNat k).toInt (Int32.ofNat n).toInt then 247 else 223)) (L' := [(4, .inl (Int32.ofNat k)), (0, .inr (.inr (.inl (some 259)))), (2, .inl (Int32.ofNat n))]) (S' := []) (h' := h) (by with_unfolding_all rfl) ?_
    rw [if_pos ((kx_ge (by omega) (by omega)).mpr (by omega))]
    have l39 := e39.2
    refine kx_go 1 (pc' := 248) (L' := [(4, .inl (Int32.ofNat k)), (0, .inr (.inr (.inl (some 259)))), (2, .inl (Int32.ofNat n))]) (S' := [.inr (.inr (.inl (some 259)))]) (h' := h) (by with_unfolding_all rfl) ?_
    refine kx_getf (c := 259) (v := .inl (Int32.ofNat U.1)) rfl (by decide) e39.1 ?_
    refine kx_go 2 (pc' := (if kc_cnd .ge (Int32.ofNat U.1).toInt (Int32.ofNat 1000000).toInt then 261 else 257)) (L' := [(4, .inl (Int32.ofNat k)), (0, .inr (.inr (.inl (some 259)))), (2, .inl (Int32.ofNat n))]) (S' := []) (h' := h) (by with_unfolding_all rfl) ?_
    by_cases c : U.1 < 1000000
    · rw [if_neg (fun q => by have := (kx_ge (by omega) (by omega)).mp q; omega), decide_eq_true c]
      refine kx_go 2 (pc' := 262) (L' := [(4, .inl (Int32.ofNat k)), (0, .inr (.inr (.inl (some 259)))), (2, .inl (Int32.ofNat n))]) (S' := [.inl (Int32.ofNat 1)]) (h' := h) (by with_unfolding_all rfl) ?_
      exact kc_ret_ok rfl (rv := some (.inl (Int32.ofNat 1))) rfl ⟨rfl, hw, e39.1, e38, e281, fun j hj => hl j (by omega), hF⟩
    · rw [if_pos ((kx_ge (by omega) (by omega)).mpr (by omega)), decide_eq_false c]
      refine kx_go 1 (pc' := 262) (L' := [(4, .inl (Int32.ofNat k)), (0, .inr (.inr (.inl (some 259)))), (2, .inl (Int32.ofNat n))]) (S' := [.inl (Int32.ofNat 0)]) (h' := h) (by with_unfolding_all rfl) ?_
      exact kc_ret_ok rfl (rv := some (.inl (Int32.ofNat 0))) rfl ⟨rfl, hw, e39.1, e38, e281, fun j hj => hl j (by omega), hF⟩
  | succ u ih =>
    intro k h hu hk hE hl
    obtain ⟨hw, e39, e38, e281, e282, hF⟩ := hE
    refine kx_go 3 (pc' := (if kc_cnd .ge (Int32.ofNat k).toInt (Int32.ofNat n).toInt then 247 else 223)) (L' := [(4, .inl (Int32.ofNat k)), (0, .inr (.inr (.inl (some 259)))), (2, .inl (Int32.ofNat n))]) (S' := []) (h' := h) (by with_unfolding_all rfl) ?_
    rw [if_neg (fun q => by have := (kx_ge (by omega) (by omega)).mp q; omega)]
    have hkn : k < n := by omega
    have d0 := hD0 k
    refine kx_go 1 (pc' := 224) (L' := [(4, .inl (Int32.ofNat k)), (0, .inr (.inr (.inl (some 259)))), (2, .inl (Int32.ofNat n))]) (S' := [.inr (.inr (.inl (some 259)))]) (h' := h) (by with_unfolding_all rfl) ?_
    refine kx_getf (c := 259) (v := .inr (.inr (.inl (some 260)))) rfl (by decide) (kx_ofr (hw _ _ _ fs_k259_0)) ?_
    refine kx_go 4 (pc' := 234) (L' := [(4, .inl (Int32.ofNat k)), (0, .inr (.inr (.inl (some 259)))), (2, .inl (Int32.ofNat n))]) (S' := [.inr (.inr (.inl (some 259))), .inl ((Int32.ofNat 150) + (Int32.ofNat k)), .inr (.inr (.inl (some 260)))]) (h' := h) (by with_unfolding_all rfl) ?_
    refine kx_getf (c := 259) (v := .inr (.inr (.inl (some 282)))) rfl (by decide) (kx_ofr (hw _ _ _ fs_k259_40)) ?_
    refine kx_go 1 (pc' := 239) (L' := [(4, .inl (Int32.ofNat k)), (0, .inr (.inr (.inl (some 259)))), (2, .inl (Int32.ofNat n))]) (S' := [.inl (Int32.ofNat k), .inr (.inr (.inl (some 282))), .inl ((Int32.ofNat 150) + (Int32.ofNat k)), .inr (.inr (.inl (some 260)))]) (h' := h) (by with_unfolding_all rfl) ?_
    refine kx_iald (c := 282) (j := k) (m := 5) (v := .inl (Int32.ofNat (D0 k))) rfl rfl (by decide) (by decide) (by omega) (e282 k hkn) ?_
    rw [kx_add]
    refine kx_iast (c := 260) (j := 150 + k) (m := 650) rfl rfl (by decide) (by decide) (by omega) ?_
    refine kx_go 2 (pc' := 217) (L' := [(4, .inl ((Int32.ofNat k) + Int32.ofInt 1)), (0, .inr (.inr (.inl (some 259)))), (2, .inl (Int32.ofNat n))]) (S' := []) (h' := (kc_upd h 260 (150 + k) (.inl (Int32.ofNat (D0 k))))) (by with_unfolding_all rfl) ?_
    rw [kx_inc]
    refine ih (k + 1) _ (by omega) (by omega) ⟨fa_wn (fs_k279.2.2.2.2.1 k (by omega)) (show D0 k ≤ 5 by omega) (by decide) hw, ⟨(fu_ne (by omega)).trans e39.1, e39.2⟩, (fu_ne (by omega)).trans e38, fun q j hj => (fu_ne (by omega)).trans (e281 q j hj), fun j hj => (fu_ne (by omega)).trans (e282 j hj), fun a y h1 h2 h3 => (fu_ne (by omega)).trans (hF a y h1 h2 h3)⟩ (fun j hj => ?_)
    by_cases e : j = k
    · rw [e]; exact fu_eq
    · exact (fu_ne (fun q => by omega)).trans (hl j (by omega))
theorem fs_BF {h0 h : kc_H} {B : Nat → Int32} {D0 : Nat → Nat} {n : Nat} (hn : n ≤ 5) (hF : ∀ a x, ¬ (a = 259 ∧ 33 ≤ x ∧ x ≤ 39) → ¬ (272 ≤ a ∧ a ≤ 282) → ¬ (a = 260 ∧ 150 ≤ x ∧ x < 155) → h a x = h0 a x) (hB2 : ∃ D, (∀ k, D k < 6) ∧ fu_B (pb_B B D n) h) (hC0 : fu_B (pb_B B D0 n) h0) : ∀ a x, ¬ (a = 259 ∧ 33 ≤ x ∧ x ≤ 39) → ¬ (272 ≤ a ∧ a ≤ 282) → ¬ (a = 260 ∧ 150 ≤ x ∧ x < 150 + n) → h a x = h0 a x := fun a x h1 h2 h3 => by
  by_cases c : a = 260 ∧ 150 ≤ x ∧ x < 155
  · obtain ⟨rfl, c1, c2⟩ := c
    obtain ⟨D, -, hD⟩ := hB2
    have ht := (fu_fli (x - 150) (by omega)).2.1
    rw [show 150 + (x - 150) = x by omega] at ht
    have e1 : pb_B B D n x = B x := if_neg (by omega)
    have e2 : pb_B B D0 n x = B x := if_neg (by omega)
    rw [hD x (by omega) ht, hC0 x (by omega) ht, e1, e2]
  · exact hF a x h1 h2 c
set_option maxRecDepth 20000 in
theorem fs_r130l {g : kc_G} {d : Nat} {h0 : kc_H} {B : Nat → Int32} {S D0 : Nat → Nat} {n L M : Nat} (hg : kc_ok g) (hB : fu_BT B) (hn : n ≤ 5) (en : B 3 = Int32.ofNat n) (hL : L ≤ 10) (eL : B 2 = Int32.ofNat L) (hM : M ≤ 3) (eM : B 1 = Int32.ofNat M) (hN : fs_hn M L ≤ 5000) (hS : ∀ j, j < n → S j < 6) (hSi : ∀ i j, i < n → j < n → S i = S j → i = j) (hD0 : ∀ j, D0 j < 6) (hC0 : fu_B (pb_B B D0 n) h0) : ∀ (u : Nat) (l : List Nat) (U : pb_U) (h : kc_H), pb_w n u l = true → fs_BS h0 B S D0 n l U h → kc_Ev g (d + 9) wk_m130 (fun rv h' => rv = some (.inl (kp_b (decide ((pb_it B S n L M u l U).1 < 1000000)))) ∧ kd_wt kd_ty h' ∧ (h' 259 39 = .inl (Int32.ofNat (pb_it B S n L M u l U).1)) ∧ (h' 259 38 = .inl (Int32.ofNat (pb_it B S n L M u l U).2.1)) ∧ ((pb_it B S n L M u l U).1 < 1000000 → ∀ j, j < n → h' 281 j = .inl (Int32.ofNat ((pb_it B S n L M u l U).2.2 j))) ∧ (∀ j, j < n → h' 260 (150 + j) = .inl (Int32.ofNat (D0 j))) ∧ ∀ a x, ¬ (a = 259 ∧ 33 ≤ x ∧ x ≤ 39) → ¬ (272 ≤ a ∧ a ≤ 282) → ¬ (a = 260 ∧ 150 ≤ x ∧ x < 150 + n) → h' a x = h0 a x) 54 [(3, .inl (kp_b true)), (0, .inr (.inr (.inl (some 259)))), (1, .inl (Int32.ofNat (fs_hn M L))), (2, .inl (Int32.ofNat n))] [] h := by
  intro u
  induction u with
  | zero =>
    intro l U h hp
    have hp : false = true := hp
    cases hp
  | succ u ih =>
    intro l U h9 hp hR
    obtain ⟨w1, w2, w3, w4⟩ := pb_w_s hp
    have hDl := pb_Dl hS w2
    have hDi := pb_Di hSi w2 w3
    have hend : ∀ (U2 : pb_U) (h : kc_H), fs_BE h0 D0 n U2 h → kc_Ev g (d + 9) wk_m130 (fun rv h' => rv = some (.inl (kp_b (decide ((U2).1 < 1000000)))) ∧ kd_wt kd_ty h' ∧ (h' 259 39 = .inl (Int32.ofNat (U2).1)) ∧ (h' 259 38 = .inl (Int32.ofNat (U2).2.1)) ∧ ((U2).1 < 1000000 → ∀ j, j < n → h' 281 j = .inl (Int32.ofNat ((U2).2.2 j))) ∧ (∀ j, j < n → h' 260 (150 + j) = .inl (Int32.ofNat (D0 j))) ∧ ∀ a x, ¬ (a = 259 ∧ 33 ≤ x ∧ x ≤ 39) → ¬ (272 ≤ a ∧ a ≤ 282) → ¬ (a = 260 ∧ 150 ≤ x ∧ x < 150 + n) → h' a x = h0 a x) 54 [(3, .inl (kp_b false)), (0, .inr (.inr (.inl (some 259)))), (1, .inl (Int32.ofNat (fs_hn M L))), (2, .inl (Int32.ofNat n))] [] h := by
      intro U2 h hE
      refine kx_go 2 (pc' := (if kc_cnd .eq (kp_b false).toInt 0 then 214 else 58)) (L' := [(3, .inl (kp_b false)), (0, .inr (.inr (.inl (some 259)))), (1, .inl (Int32.ofNat (fs_hn M L))), (2, .inl (Int32.ofNat n))]) (S' := []) (h' := h) (by with_unfolding_all rfl) ?_
      rw [if_pos (kx_b0.mpr rfl)]
      refine kx_go 2 (pc' := 217) (L' := [(4, .inl (Int32.ofNat 0)), (3, .inl (kp_b false)), (0, .inr (.inr (.inl (some 259)))), (1, .inl (Int32.ofNat (fs_hn M L))), (2, .inl (Int32.ofNat n))]) (S' := []) (h' := h) (by with_unfolding_all rfl) ?_
      refine kf_lo (L := [(4, .inl (Int32.ofNat 0)), (0, .inr (.inr (.inl (some 259)))), (2, .inl (Int32.ofNat n))]) (by intro q hq; simp only [List.mem_cons, List.not_mem_nil, or_false] at hq; rcases hq with rfl | rfl | rfl <;> rfl) ?_
      exact fs_r130e hn hD0 n 0 h (by omega) (by omega) hE (fun j hj => by omega)
    obtain ⟨hw, ⟨D, hD6, hCD⟩, e35, hr, h280, e39, e38, e281, e282, hF⟩ := hR
    refine kx_go 2 (pc' := (if kc_cnd .eq (kp_b true).toInt 0 then 214 else 58)) (L' := [(3, .inl (kp_b true)), (0, .inr (.inr (.inl (some 259)))), (1, .inl (Int32.ofNat (fs_hn M L))), (2, .inl (Int32.ofNat n))]) (S' := []) (h' := h9) (by with_unfolding_all rfl) ?_
    rw [if_neg fa_b0t]
    have next : ∀ (h : kc_H) (sm : Nat) (k9 : Int32), fs_BS h0 B S D0 n l (pb_st B S n L M l U) h → kc_Ev g (d + 9) wk_m130 (fun rv h' => rv = some (.inl (kp_b (decide ((pb_it B S n L M (u + 1) l U).1 < 1000000)))) ∧ kd_wt kd_ty h' ∧ (h' 259 39 = .inl (Int32.ofNat (pb_it B S n L M (u + 1) l U).1)) ∧ (h' 259 38 = .inl (Int32.ofNat (pb_it B S n L M (u + 1) l U).2.1)) ∧ ((pb_it B S n L M (u + 1) l U).1 < 1000000 → ∀ j, j < n → h' 281 j = .inl (Int32.ofNat ((pb_it B S n L M (u + 1) l U).2.2 j))) ∧ (∀ j, j < n → h' 260 (150 + j) = .inl (Int32.ofNat (D0 j))) ∧ ∀ a x, ¬ (a = 259 ∧ 33 ≤ x ∧ x ≤ 39) → ¬ (272 ≤ a ∧ a ≤ 282) → ¬ (a = 260 ∧ 150 ≤ x ∧ x < 150 + n) → h' a x = h0 a x) 206 [(5, .inl (k9)), (4, .inl (Int32.ofNat sm)), (3, .inl (kp_b true)), (0, .inr (.inr (.inl (some 259)))), (1, .inl (Int32.ofNat (fs_hn M L))), (2, .inl (Int32.ofNat n))] [] h := by
      intro h sm k9 hR
      obtain ⟨hw, hB2, e35, hr, h280, e39, e38, e281, e282, hF⟩ := hR
      refine kx_go 1 (pc' := 207) (L' := [(5, .inl (k9)), (4, .inl (Int32.ofNat sm)), (3, .inl (kp_b true)), (0, .inr (.inr (.inl (some 259)))), (1, .inl (Int32.ofNat (fs_hn M L))), (2, .inl (Int32.ofNat n))]) (S' := [.inr (.inr (.inl (some 259)))]) (h' := h) (by with_unfolding_all rfl) ?_
      refine kc_call_rule (M2 := wk_m133) (av := [.inr (.inr (.inl (some 259)))]) (r := []) rfl rfl (kc_Con_le (fs_r133 (d := d) hw hg hn e35 hr w2) (by omega)) (fun rv h2 hq => ?_)
      obtain ⟨hw2, hF2, hq⟩ := hq
      have stay : ∀ l2, fs_row (pb_g l2) n h2 → fs_BS h0 B S D0 n l2 (pb_st B S n L M l U) h2 := fun l2 hr2 => ⟨hw2, hB2.elim (fun D q => ⟨D, q.1, fs_B_f (fun x => hF2 260 x (by decide)) q.2⟩), (hF2 _ _ (by decide)).trans e35, hr2, fun j hj => (hF2 _ _ (by decide)).trans (h280 j hj), ⟨(hF2 _ _ (by decide)).trans e39.1, e39.2⟩, ⟨(hF2 _ _ (by decide)).trans e38.1, e38.2⟩, fun q j hj => (hF2 _ _ (by decide)).trans (e281 q j hj), fun j hj => (hF2 _ _ (by decide)).trans (e282 j hj), fun a y h1 h3 h4 => (hF2 a y (by omega)).trans (hF a y h1 h3 h4)⟩
      cases ez : pb_nr n n (pb_g l) with
      | none =>
        rw [ez] at hq
        have hq : rv = some (.inl (kp_b false)) := hq
        subst hq
        have em : pb_m n (pb_nr n n (pb_g l)) = none := by rw [ez]; rfl
        have eI : pb_it B S n L M (u + 1) l U = pb_st B S n L M l U := by
          show (match pb_m n (pb_nr n n (pb_g l)) with | none => pb_st B S n L M l U | some l2 => pb_it B S n L M u l2 (pb_st B S n L M l U)) = _
          rw [em]
        rw [eI]
        show kc_Ev g (d + 9) wk_m130 _ 210 [(5, .inl (k9)), (4, .inl (Int32.ofNat sm)), (3, .inl (kp_b true)), (0, .inr (.inr (.inl (some 259)))), (1, .inl (Int32.ofNat (fs_hn M L))), (2, .inl (Int32.ofNat n))] [.inl (kp_b false)] h2
        refine kx_go 2 (pc' := 54) (L' := [(3, .inl (kp_b false)), (5, .inl (k9)), (4, .inl (Int32.ofNat sm)), (0, .inr (.inr (.inl (some 259)))), (1, .inl (Int32.ofNat (fs_hn M L))), (2, .inl (Int32.ofNat n))]) (S' := []) (h' := h2) (by with_unfolding_all rfl) ?_
        refine kf_lo (L := [(3, .inl (kp_b false)), (0, .inr (.inr (.inl (some 259)))), (1, .inl (Int32.ofNat (fs_hn M L))), (2, .inl (Int32.ofNat n))]) (by intro q hq; simp only [List.mem_cons, List.not_mem_nil, or_false] at hq; rcases hq with rfl | rfl | rfl | rfl <;> rfl) ?_
        exact hend _ h2 ⟨hw2, ⟨(hF2 _ _ (by decide)).trans e39.1, e39.2⟩, (hF2 _ _ (by decide)).trans e38.1, fun q j hj => (hF2 _ _ (by decide)).trans (e281 q j hj), fun j hj => (hF2 _ _ (by decide)).trans (e282 j hj), fun a y h1 h3 h4 => (hF2 a y (by omega)).trans (fs_BF hn hF hB2 hC0 a y h1 h3 h4)⟩
      | some f2 =>
        rw [ez] at hq
        obtain ⟨hq, hr2⟩ : rv = some (.inl (kp_b true)) ∧ fs_row f2 n h2 := hq
        subst hq
        have em : pb_m n (pb_nr n n (pb_g l)) = some ((List.range n).map f2) := by rw [ez]; rfl
        have eI : pb_it B S n L M (u + 1) l U = pb_it B S n L M u ((List.range n).map f2) (pb_st B S n L M l U) := by
          show (match pb_m n (pb_nr n n (pb_g l)) with | none => pb_st B S n L M l U | some l2 => pb_it B S n L M u l2 (pb_st B S n L M l U)) = _
          rw [em]
        rw [eI]
        show kc_Ev g (d + 9) wk_m130 _ 210 [(5, .inl (k9)), (4, .inl (Int32.ofNat sm)), (3, .inl (kp_b true)), (0, .inr (.inr (.inl (some 259)))), (1, .inl (Int32.ofNat (fs_hn M L))), (2, .inl (Int32.ofNat n))] [.inl (kp_b true)] h2
        refine kx_go 2 (pc' := 54) (L' := [(3, .inl (kp_b true)), (5, .inl (k9)), (4, .inl (Int32.ofNat sm)), (0, .inr (.inr (.inl (some 259)))), (1, .inl (Int32.ofNat (fs_hn M L))), (2, .inl (Int32.ofNat n))]) (S' := []) (h' := h2) (by with_unfolding_all rfl) ?_
        refine kf_lo (L := [(3, .inl (kp_b true)), (0, .inr (.inr (.inl (some 259)))), (1, .inl (Int32.ofNat (fs_hn M L))), (2, .inl (Int32.ofNat n))]) (by intro q hq; simp only [List.mem_cons, List.not_mem_nil, or_false] at hq; rcases hq with rfl | rfl | rfl | rfl <;> rfl) ?_
        exact ih ((List.range n).map f2) _ h2 (w4 _ em) (stay _ (fun j hj => by rw [pb_gm hj]; exact hr2 j hj))
    have lb : ∀ (h : kc_H), kd_wt kd_ty h → fu_B (pb_B B (pb_D S n l) n) h → (∀ a x, ¬ (a = 260 ∧ 150 ≤ x ∧ x < 155) → h a x = h9 a x) → kc_Ev g (d + 9) wk_m130 (fun rv h' => rv = some (.inl (kp_b (decide ((pb_it B S n L M (u + 1) l U).1 < 1000000)))) ∧ kd_wt kd_ty h' ∧ (h' 259 39 = .inl (Int32.ofNat (pb_it B S n L M (u + 1) l U).1)) ∧ (h' 259 38 = .inl (Int32.ofNat (pb_it B S n L M (u + 1) l U).2.1)) ∧ ((pb_it B S n L M (u + 1) l U).1 < 1000000 → ∀ j, j < n → h' 281 j = .inl (Int32.ofNat ((pb_it B S n L M (u + 1) l U).2.2 j))) ∧ (∀ j, j < n → h' 260 (150 + j) = .inl (Int32.ofNat (D0 j))) ∧ ∀ a x, ¬ (a = 259 ∧ 33 ≤ x ∧ x ≤ 39) → ¬ (272 ≤ a ∧ a ≤ 282) → ¬ (a = 260 ∧ 150 ≤ x ∧ x < 150 + n) → h' a x = h0 a x) 102 [(5, .inl (Int32.ofNat 0)), (4, .inl (Int32.ofNat 0)), (3, .inl (kp_b true)), (0, .inr (.inr (.inl (some 259)))), (1, .inl (Int32.ofNat (fs_hn M L))), (2, .inl (Int32.ofNat n))] [] h := by
      intro h hw hC hF9
      have hB' : fu_BT (pb_B B (pb_D S n l) n) := pb_BT hB hn hDl
      have en' : (pb_B B (pb_D S n l) n) 3 = Int32.ofNat n := (pb_Bo hn (by decide)).trans en
      have eL' : (pb_B B (pb_D S n l) n) 2 = Int32.ofNat L := (pb_Bo hn (by decide)).trans eL
      have eM' : (pb_B B (pb_D S n l) n) 1 = Int32.ofNat M := (pb_Bo hn (by decide)).trans eM
      have miles : ∀ (v k : Nat), n - k = v → k ≤ n → kc_Ev g (d + 9) wk_m130 (fun rv h' => rv = some (.inl (kp_b (decide ((pb_it B S n L M (u + 1) l U).1 < 1000000)))) ∧ kd_wt kd_ty h' ∧ (h' 259 39 = .inl (Int32.ofNat (pb_it B S n L M (u + 1) l U).1)) ∧ (h' 259 38 = .inl (Int32.ofNat (pb_it B S n L M (u + 1) l U).2.1)) ∧ ((pb_it B S n L M (u + 1) l U).1 < 1000000 → ∀ j, j < n → h' 281 j = .inl (Int32.ofNat ((pb_it B S n L M (u + 1) l U).2.2 j))) ∧ (∀ j, j < n → h' 260 (150 + j) = .inl (Int32.ofNat (D0 j))) ∧ ∀ a x, ¬ (a = 259 ∧ 33 ≤ x ∧ x ≤ 39) → ¬ (272 ≤ a ∧ a ≤ 282) → ¬ (a = 260 ∧ 150 ≤ x ∧ x < 150 + n) → h' a x = h0 a x) 102 [(5, .inl (Int32.ofNat k)), (4, .inl (Int32.ofNat (fs_far B (pb_D S n l) k))), (3, .inl (kp_b true)), (0, .inr (.inr (.inl (some 259)))), (1, .inl (Int32.ofNat (fs_hn M L))), (2, .inl (Int32.ofNat n))] [] h := by
        intro v
        induction v with
        | zero =>
          intro k hv hk
          refine kx_go 3 (pc' := (if kc_cnd .ge (Int32.ofNat k).toInt (Int32.ofNat n).toInt then 125 else 108)) (L' := [(5, .inl (Int32.ofNat k)), (4, .inl (Int32.ofNat (fs_far B (pb_D S n l) k))), (3, .inl (kp_b true)), (0, .inr (.inr (.inl (some 259)))), (1, .inl (Int32.ofNat (fs_hn M L))), (2, .inl (Int32.ofNat n))]) (S' := []) (h' := h) (by with_unfolding_all rfl) ?_
          rw [if_pos ((kx_ge (by omega) (by omega)).mpr (by omega))]
          have ek : k = n := by omega
          rw [ek]
          obtain ⟨f, hf⟩ := fs_fnd2 (c := 278) hw hL fs_k273.2.2.2.2.2.2.1
          have ep := fs_hn_pow L hN
          have hml : 0 < fs_hn M L → 0 < M ∨ L = 0 := fun q => by
            rcases Nat.eq_zero_or_pos M with e | e
            · rw [ep, e] at q
              cases L with
              | zero => exact Or.inr rfl
              | succ L => rw [Nat.mul_zero, Nat.zero_pow (Nat.succ_pos L)] at q; omega
            · exact Or.inl e
          have eT : (ms_it (2 * M) L (ms_J (fs_bor (pb_B B (pb_D S n l) n) (pb_D S n l) n L M) (fs_wo (pb_B B (pb_D S n l) n) (pb_D S n l) n L M)) (fs_hn M L) ((fun _ => 0), (1000000, f))).2 = fs_T B (pb_D S n l) n L M 1000000 f := by
            rw [ep, ← pb_T (D' := pb_D S n l) hn hL hM]
            exact ms_it_all
          have H122 := fs_r122 (g := g) (d := d) (D := pb_D S n l) (f := f) hw hg hB' hC hn en' hL eL' hM eM' hN hml (fun k hk => pb_Bi hk) hDl hDi hf
          rw [eT] at H122
          have h22 := fs_T_2 (B := B) (D := pb_D S n l) (n := n) (L := L) (M := M) (v := 1000000) (f := f) (g := fun _ => 0)
          have ev : (fs_T B (pb_D S n l) n L M 1000000 f).1 = pb_v B S n L M l := h22.1
          have farl := fs_farl hB hDl n
          refine kx_go 2 (pc' := 127) (L' := [(5, .inl (Int32.ofNat n)), (4, .inl (Int32.ofNat (fs_far B (pb_D S n l) n))), (3, .inl (kp_b true)), (0, .inr (.inr (.inl (some 259)))), (1, .inl (Int32.ofNat (fs_hn M L))), (2, .inl (Int32.ofNat n))]) (S' := [.inl (Int32.ofNat (fs_hn M L)), .inr (.inr (.inl (some 259)))]) (h' := h) (by with_unfolding_all rfl) ?_
          refine kc_call_rule (M2 := wk_m122) (av := [.inr (.inr (.inl (some 259))), .inl (Int32.ofNat (fs_hn M L))]) (r := []) rfl rfl (kc_Con_le (H122) (by omega)) (fun rv h2 hq => ?_)
          obtain ⟨rfl, c9, hR9⟩ := hq
          show kc_Ev g (d + 9) wk_m130 _ 130 [(5, .inl (Int32.ofNat n)), (4, .inl (Int32.ofNat (fs_far B (pb_D S n l) n))), (3, .inl (kp_b true)), (0, .inr (.inr (.inl (some 259)))), (1, .inl (Int32.ofNat (fs_hn M L))), (2, .inl (Int32.ofNat n))] [.inl (kp_b (decide ((fs_T B (pb_D S n l) n L M 1000000 f).1 < 1000000)))] h2
          obtain ⟨hw2, -, -, ⟨e33, l33⟩, -, -, hF2⟩ := hR9
          rw [ev] at e33 l33
          rw [ev]
          have o2 : ∀ a x, ¬ (a = 259 ∧ x = 33) → ¬ (272 ≤ a ∧ a ≤ 278) → ¬ (a = 260 ∧ 150 ≤ x ∧ x < 155) → h2 a x = h9 a x := fun a y q1 q2 q3 => (hF2 a y q1 q2).trans (hF9 a y q3)
          have C2 : fu_B (pb_B B (pb_D S n l) n) h2 := fs_B_f (fun x => hF2 260 x (by omega) (by omega)) hC
          have R2 : fs_BS h0 B S D0 n l U h2 := ⟨hw2, ⟨_, hDl, C2⟩, (o2 _ _ (by omega) (by omega) (by omega)).trans e35, fun j hj => ⟨(o2 _ _ (by omega) (by omega) (by omega)).trans (hr j hj).1, (hr j hj).2⟩, fun j hj => (o2 _ _ (by omega) (by omega) (by omega)).trans (h280 j hj), ⟨(o2 _ _ (by omega) (by omega) (by omega)).trans e39.1, e39.2⟩, ⟨(o2 _ _ (by omega) (by omega) (by omega)).trans e38.1, e38.2⟩, fun q j hj => (o2 _ _ (by omega) (by omega) (by omega)).trans (e281 q j hj), fun j hj => (o2 _ _ (by omega) (by omega) (by omega)).trans (e282 j hj), fun a y h1 h3 h4 => (o2 a y (by omega) (by omega) (by omega)).trans (hF a y h1 h3 h4)⟩
          have l39 := e39.2
          have l38 := e38.2
          refine kx_go 1 (pc' := (if kc_cnd .eq (kp_b (decide (pb_v B S n L M l < 1000000))).toInt 0 then 206 else 133)) (L' := [(5, .inl (Int32.ofNat n)), (4, .inl (Int32.ofNat (fs_far B (pb_D S n l) n))), (3, .inl (kp_b true)), (0, .inr (.inr (.inl (some 259)))), (1, .inl (Int32.ofNat (fs_hn M L))), (2, .inl (Int32.ofNat n))]) (S' := []) (h' := h2) (by with_unfolding_all rfl) ?_
          have skip : ¬ (pb_v B S n L M l < 1000000 ∧ (pb_v B S n L M l < U.1 ∨ (pb_v B S n L M l = U.1 ∧ pb_f B S n l < U.2.1))) → kc_Ev g (d + 9) wk_m130 (fun rv h' => rv = some (.inl (kp_b (decide ((pb_it B S n L M (u + 1) l U).1 < 1000000)))) ∧ kd_wt kd_ty h' ∧ (h' 259 39 = .inl (Int32.ofNat (pb_it B S n L M (u + 1) l U).1)) ∧ (h' 259 38 = .inl (Int32.ofNat (pb_it B S n L M (u + 1) l U).2.1)) ∧ ((pb_it B S n L M (u + 1) l U).1 < 1000000 → ∀ j, j < n → h' 281 j = .inl (Int32.ofNat ((pb_it B S n L M (u + 1) l U).2.2 j))) ∧ (∀ j, j < n → h' 260 (150 + j) = .inl (Int32.ofNat (D0 j))) ∧ ∀ a x, ¬ (a = 259 ∧ 33 ≤ x ∧ x ≤ 39) → ¬ (272 ≤ a ∧ a ≤ 282) → ¬ (a = 260 ∧ 150 ≤ x ∧ x < 150 + n) → h' a x = h0 a x) 206 [(5, .inl (Int32.ofNat n)), (4, .inl (Int32.ofNat (fs_far B (pb_D S n l) n))), (3, .inl (kp_b true)), (0, .inr (.inr (.inl (some 259)))), (1, .inl (Int32.ofNat (fs_hn M L))), (2, .inl (Int32.ofNat n))] [] h2 := fun q => next h2 _ _ (by rw [show pb_st B S n L M l U = U from if_neg q]; exact R2)
          have keep : pb_v B S n L M l < 1000000 ∧ (pb_v B S n L M l < U.1 ∨ (pb_v B S n L M l = U.1 ∧ pb_f B S n l < U.2.1)) → kc_Ev g (d + 9) wk_m130 (fun rv h' => rv = some (.inl (kp_b (decide ((pb_it B S n L M (u + 1) l U).1 < 1000000)))) ∧ kd_wt kd_ty h' ∧ (h' 259 39 = .inl (Int32.ofNat (pb_it B S n L M (u + 1) l U).1)) ∧ (h' 259 38 = .inl (Int32.ofNat (pb_it B S n L M (u + 1) l U).2.1)) ∧ ((pb_it B S n L M (u + 1) l U).1 < 1000000 → ∀ j, j < n → h' 281 j = .inl (Int32.ofNat ((pb_it B S n L M (u + 1) l U).2.2 j))) ∧ (∀ j, j < n → h' 260 (150 + j) = .inl (Int32.ofNat (D0 j))) ∧ ∀ a x, ¬ (a = 259 ∧ 33 ≤ x ∧ x ≤ 39) → ¬ (272 ≤ a ∧ a ≤ 282) → ¬ (a = 260 ∧ 150 ≤ x ∧ x < 150 + n) → h' a x = h0 a x) 164 [(5, .inl (Int32.ofNat n)), (4, .inl (Int32.ofNat (fs_far B (pb_D S n l) n))), (3, .inl (kp_b true)), (0, .inr (.inr (.inl (some 259)))), (1, .inl (Int32.ofNat (fs_hn M L))), (2, .inl (Int32.ofNat n))] [] h2 := by
            intro hq
            have est : pb_st B S n L M l U = (pb_v B S n L M l, pb_f B S n l, pb_D S n l) := if_pos hq
            refine kx_go 2 (pc' := 166) (L' := [(5, .inl (Int32.ofNat n)), (4, .inl (Int32.ofNat (fs_far B (pb_D S n l) n))), (3, .inl (kp_b true)), (0, .inr (.inr (.inl (some 259)))), (1, .inl (Int32.ofNat (fs_hn M L))), (2, .inl (Int32.ofNat n))]) (S' := [.inr (.inr (.inl (some 259))), .inr (.inr (.inl (some 259)))]) (h' := h2) (by with_unfolding_all rfl) ?_
            refine kx_getf (c := 259) (v := .inl (Int32.ofNat (pb_v B S n L M l))) rfl (by decide) e33 ?_
            have hw3 : kd_wt kd_ty (kc_upd h2 259 39 (.inl (Int32.ofNat (pb_v B S n L M l)))) := fa_wa fs_k279.2.2.2.2.2.2.2 hw2
            refine kx_go 1 (pc' := 172) (L' := [(5, .inl (Int32.ofNat n)), (4, .inl (Int32.ofNat (fs_far B (pb_D S n l) n))), (3, .inl (kp_b true)), (0, .inr (.inr (.inl (some 259)))), (1, .inl (Int32.ofNat (fs_hn M L))), (2, .inl (Int32.ofNat n))]) (S' := []) (h' := (kc_upd h2 259 39 (.inl (Int32.ofNat (pb_v B S n L M l))))) (by with_unfolding_all rfl) ?_
            refine kx_go 2 (pc' := 175) (L' := [(5, .inl (Int32.ofNat n)), (4, .inl (Int32.ofNat (fs_far B (pb_D S n l) n))), (3, .inl (kp_b true)), (0, .inr (.inr (.inl (some 259)))), (1, .inl (Int32.ofNat (fs_hn M L))), (2, .inl (Int32.ofNat n))]) (S' := [.inl (Int32.ofNat (fs_far B (pb_D S n l) n)), .inr (.inr (.inl (some 259)))]) (h' := (kc_upd h2 259 39 (.inl (Int32.ofNat (pb_v B S n L M l))))) (by with_unfolding_all rfl) ?_
            have hw4 : kd_wt kd_ty (kc_upd (kc_upd h2 259 39 (.inl (Int32.ofNat (pb_v B S n L M l)))) 259 38 (.inl (Int32.ofNat (fs_far B (pb_D S n l) n)))) := fa_wa fs_k279.2.2.2.2.2.2.1 hw3
            refine kx_go 1 (pc' := 178) (L' := [(5, .inl (Int32.ofNat n)), (4, .inl (Int32.ofNat (fs_far B (pb_D S n l) n))), (3, .inl (kp_b true)), (0, .inr (.inr (.inl (some 259)))), (1, .inl (Int32.ofNat (fs_hn M L))), (2, .inl (Int32.ofNat n))]) (S' := []) (h' := (kc_upd (kc_upd h2 259 39 (.inl (Int32.ofNat (pb_v B S n L M l)))) 259 38 (.inl (Int32.ofNat (fs_far B (pb_D S n l) n))))) (by with_unfolding_all rfl) ?_
            have e4 : (kc_upd (kc_upd h2 259 39 (.inl (Int32.ofNat (pb_v B S n L M l)))) 259 38 (.inl (Int32.ofNat (fs_far B (pb_D S n l) n)))) 259 38 = .inl (Int32.ofNat (pb_f B S n l)) := fu_eq
            have e5 : (kc_upd (kc_upd h2 259 39 (.inl (Int32.ofNat (pb_v B S n L M l)))) 259 38 (.inl (Int32.ofNat (fs_far B (pb_D S n l) n)))) 259 39 = .inl (Int32.ofNat (pb_v B S n L M l)) := (fu_ne (by decide)).trans fu_eq
            have o4 : ∀ a x, ¬ (a = 259 ∧ 38 ≤ x ∧ x ≤ 39) → (kc_upd (kc_upd h2 259 39 (.inl (Int32.ofNat (pb_v B S n L M l)))) 259 38 (.inl (Int32.ofNat (fs_far B (pb_D S n l) n)))) a x = h2 a x := fun a y q => (fu_ne (by omega)).trans (fu_ne (by omega))
            generalize (kc_upd (kc_upd h2 259 39 (.inl (Int32.ofNat (pb_v B S n L M l)))) 259 38 (.inl (Int32.ofNat (fs_far B (pb_D S n l) n)))) = h4 at hw4 e4 e5 o4 ⊢
            refine kx_go 2 (pc' := 181) (L' := [(5, .inl (Int32.ofNat 0)), (4, .inl (Int32.ofNat (fs_far B (pb_D S n l) n))), (3, .inl (kp_b true)), (0, .inr (.inr (.inl (some 259)))), (1, .inl (Int32.ofNat (fs_hn M L))), (2, .inl (Int32.ofNat n))]) (S' := []) (h' := h4) (by with_unfolding_all rfl) ?_
            have cpy : ∀ (v k : Nat) (h : kc_H), n - k = v → k ≤ n → kd_wt kd_ty h → (∀ j, j < k → h 281 j = .inl (Int32.ofNat (pb_D S n l j))) → (∀ a x, ¬ a = 281 → h a x = h4 a x) → kc_Ev g (d + 9) wk_m130 (fun rv h' => rv = some (.inl (kp_b (decide ((pb_it B S n L M (u + 1) l U).1 < 1000000)))) ∧ kd_wt kd_ty h' ∧ (h' 259 39 = .inl (Int32.ofNat (pb_it B S n L M (u + 1) l U).1)) ∧ (h' 259 38 = .inl (Int32.ofNat (pb_it B S n L M (u + 1) l U).2.1)) ∧ ((pb_it B S n L M (u + 1) l U).1 < 1000000 → ∀ j, j < n → h' 281 j = .inl (Int32.ofNat ((pb_it B S n L M (u + 1) l U).2.2 j))) ∧ (∀ j, j < n → h' 260 (150 + j) = .inl (Int32.ofNat (D0 j))) ∧ ∀ a x, ¬ (a = 259 ∧ 33 ≤ x ∧ x ≤ 39) → ¬ (272 ≤ a ∧ a ≤ 282) → ¬ (a = 260 ∧ 150 ≤ x ∧ x < 150 + n) → h' a x = h0 a x) 181 [(5, .inl (Int32.ofNat k)), (4, .inl (Int32.ofNat (fs_far B (pb_D S n l) n))), (3, .inl (kp_b true)), (0, .inr (.inr (.inl (some 259)))), (1, .inl (Int32.ofNat (fs_hn M L))), (2, .inl (Int32.ofNat n))] [] h := by
              intro v
              induction v with
              | zero =>
                intro k h hv hk hw hz hF5
                refine kx_go 3 (pc' := (if kc_cnd .ge (Int32.ofNat k).toInt (Int32.ofNat n).toInt then 206 else 187)) (L' := [(5, .inl (Int32.ofNat k)), (4, .inl (Int32.ofNat (fs_far B (pb_D S n l) n))), (3, .inl (kp_b true)), (0, .inr (.inr (.inl (some 259)))), (1, .inl (Int32.ofNat (fs_hn M L))), (2, .inl (Int32.ofNat n))]) (S' := []) (h' := h) (by with_unfolding_all rfl) ?_
                rw [if_pos ((kx_ge (by omega) (by omega)).mpr (by omega))]
                have o5 : ∀ a x, ¬ a = 281 → ¬ (a = 259 ∧ 38 ≤ x ∧ x ≤ 39) → h a x = h2 a x := fun a y q1 q2 => (hF5 a y q1).trans (o4 a y q2)
                refine next h _ _ ?_
                rw [est]
                obtain ⟨-, -, r35, rr, r280, -, -, -, r282, rF⟩ := R2
                exact ⟨hw, ⟨_, hDl, fs_B_f (fun x => o5 260 x (by decide) (by omega)) C2⟩, (o5 _ _ (by decide) (by decide)).trans r35, fun j hj => ⟨(o5 _ _ (by decide) (by omega)).trans (rr j hj).1, (rr j hj).2⟩, fun j hj => (o5 _ _ (by decide) (by omega)).trans (r280 j hj), ⟨(hF5 _ _ (by decide)).trans e5, Nat.le_of_lt hq.1⟩, ⟨(hF5 _ _ (by decide)).trans e4, by show fs_far B (pb_D S n l) n ≤ 1000; omega⟩, fun _ j hj => hz j (by omega), fun j hj => (o5 _ _ (by decide) (by omega)).trans (r282 j hj), fun a y h1 h3 h4 => (o5 a y (by omega) (by omega)).trans (rF a y h1 h3 h4)⟩
              | succ v ihv =>
                intro k h hv hk hw hz hF5
                refine kx_go 3 (pc' := (if kc_cnd .ge (Int32.ofNat k).toInt (Int32.ofNat n).toInt then 206 else 187)) (L' := [(5, .inl (Int32.ofNat k)), (4, .inl (Int32.ofNat (fs_far B (pb_D S n l) n))), (3, .inl (kp_b true)), (0, .inr (.inr (.inl (some 259)))), (1, .inl (Int32.ofNat (fs_hn M L))), (2, .inl (Int32.ofNat n))]) (S' := []) (h' := h) (by with_unfolding_all rfl) ?_
                rw [if_neg (fun q => by have := (kx_ge (by omega) (by omega)).mp q; omega)]
                have hkn : k < n := by omega
                have C5 : fu_B (pb_B B (pb_D S n l) n) h := fs_B_f (fun x => (hF5 260 x (by decide)).trans (o4 260 x (by omega))) C2
                refine kx_go 1 (pc' := 188) (L' := [(5, .inl (Int32.ofNat k)), (4, .inl (Int32.ofNat (fs_far B (pb_D S n l) n))), (3, .inl (kp_b true)), (0, .inr (.inr (.inl (some 259)))), (1, .inl (Int32.ofNat (fs_hn M L))), (2, .inl (Int32.ofNat n))]) (S' := [.inr (.inr (.inl (some 259)))]) (h' := h) (by with_unfolding_all rfl) ?_
                refine kx_getf (c := 259) (v := .inr (.inr (.inl (some 281)))) rfl (by decide) (kx_ofr (hw _ _ _ fs_k259_37)) ?_
                refine kx_go 3 (pc' := 196) (L' := [(5, .inl (Int32.ofNat k)), (4, .inl (Int32.ofNat (fs_far B (pb_D S n l) n))), (3, .inl (kp_b true)), (0, .inr (.inr (.inl (some 259)))), (1, .inl (Int32.ofNat (fs_hn M L))), (2, .inl (Int32.ofNat n))]) (S' := [.inl (Int32.ofNat k), .inr (.inr (.inl (some 259))), .inl (Int32.ofNat k), .inr (.inr (.inl (some 281)))]) (h' := h) (by with_unfolding_all rfl) ?_
                refine kc_call_rule (M2 := wk_m259) (av := [.inr (.inr (.inl (some 259))), .inl (Int32.ofNat k)]) (r := [.inl (Int32.ofNat k), .inr (.inr (.inl (some 281)))]) rfl rfl (kc_Con_le (fs_r259 (d := d) (D := pb_D S n l) hg hw C5 hn (fun k hk => pb_Bi hk) hkn) (by omega)) (fun rv hcc hq => ?_)
                obtain ⟨rfl, e9⟩ := hq
                rw [e9]
                clear e9
                show kc_Ev g (d + 9) wk_m130 _ 199 [(5, .inl (Int32.ofNat k)), (4, .inl (Int32.ofNat (fs_far B (pb_D S n l) n))), (3, .inl (kp_b true)), (0, .inr (.inr (.inl (some 259)))), (1, .inl (Int32.ofNat (fs_hn M L))), (2, .inl (Int32.ofNat n))] [.inl (Int32.ofNat (pb_D S n l k)), .inl (Int32.ofNat k), .inr (.inr (.inl (some 281)))] h
                refine kx_iast (c := 281) (j := k) (m := 5) rfl rfl (by decide) (by decide) (by omega) ?_
                refine kx_go 2 (pc' := 181) (L' := [(5, .inl ((Int32.ofNat k) + Int32.ofInt 1)), (4, .inl (Int32.ofNat (fs_far B (pb_D S n l) n))), (3, .inl (kp_b true)), (0, .inr (.inr (.inl (some 259)))), (1, .inl (Int32.ofNat (fs_hn M L))), (2, .inl (Int32.ofNat n))]) (S' := []) (h' := (kc_upd h 281 k (.inl (Int32.ofNat (pb_D S n l k))))) (by with_unfolding_all rfl) ?_
                rw [kx_inc]
                refine ihv (k + 1) _ (by omega) (by omega) (fa_wa (fs_k279.2.2.1 k (by omega)) hw) (fun j hj => ?_) (fun a y ha => (fu_ne (fun q => ha q.1)).trans (hF5 a y ha))
                by_cases e : j = k
                · rw [e]; exact fu_eq
                · exact (fu_ne (fun q => e q.2)).trans (hz j (by omega))
            exact cpy n 0 h4 (by omega) (by omega) hw4 (fun j hj => by omega) (fun _ _ _ => rfl)
          by_cases c1 : pb_v B S n L M l < 1000000
          · rw [decide_eq_true c1, if_neg fa_b0t]
            refine kx_go 1 (pc' := 134) (L' := [(5, .inl (Int32.ofNat n)), (4, .inl (Int32.ofNat (fs_far B (pb_D S n l) n))), (3, .inl (kp_b true)), (0, .inr (.inr (.inl (some 259)))), (1, .inl (Int32.ofNat (fs_hn M L))), (2, .inl (Int32.ofNat n))]) (S' := [.inr (.inr (.inl (some 259)))]) (h' := h2) (by with_unfolding_all rfl) ?_
            refine kx_getf (c := 259) (v := .inl (Int32.ofNat (pb_v B S n L M l))) rfl (by decide) e33 ?_
            refine kx_go 1 (pc' := 138) (L' := [(5, .inl (Int32.ofNat n)), (4, .inl (Int32.ofNat (fs_far B (pb_D S n l) n))), (3, .inl (kp_b true)), (0, .inr (.inr (.inl (some 259)))), (1, .inl (Int32.ofNat (fs_hn M L))), (2, .inl (Int32.ofNat n))]) (S' := [.inr (.inr (.inl (some 259))), .inl (Int32.ofNat (pb_v B S n L M l))]) (h' := h2) (by with_unfolding_all rfl) ?_
            refine kx_getf (c := 259) (v := .inl (Int32.ofNat U.1)) rfl (by decide) R2.2.2.2.2.2.1.1 ?_
            refine kx_go 1 (pc' := (if kc_cnd .lt (Int32.ofNat (pb_v B S n L M l)).toInt (Int32.ofNat U.1).toInt then 164 else 144)) (L' := [(5, .inl (Int32.ofNat n)), (4, .inl (Int32.ofNat (fs_far B (pb_D S n l) n))), (3, .inl (kp_b true)), (0, .inr (.inr (.inl (some 259)))), (1, .inl (Int32.ofNat (fs_hn M L))), (2, .inl (Int32.ofNat n))]) (S' := []) (h' := h2) (by with_unfolding_all rfl) ?_
            by_cases c2 : pb_v B S n L M l < U.1
            · rw [if_pos ((kx_lt (by omega) (by omega)).mpr c2)]
              exact keep ⟨c1, Or.inl c2⟩
            · rw [if_neg (fun q => c2 ((kx_lt (by omega) (by omega)).mp q))]
              refine kx_go 1 (pc' := 145) (L' := [(5, .inl (Int32.ofNat n)), (4, .inl (Int32.ofNat (fs_far B (pb_D S n l) n))), (3, .inl (kp_b true)), (0, .inr (.inr (.inl (some 259)))), (1, .inl (Int32.ofNat (fs_hn M L))), (2, .inl (Int32.ofNat n))]) (S' := [.inr (.inr (.inl (some 259)))]) (h' := h2) (by with_unfolding_all rfl) ?_
              refine kx_getf (c := 259) (v := .inl (Int32.ofNat (pb_v B S n L M l))) rfl (by decide) e33 ?_
              refine kx_go 1 (pc' := 149) (L' := [(5, .inl (Int32.ofNat n)), (4, .inl (Int32.ofNat (fs_far B (pb_D S n l) n))), (3, .inl (kp_b true)), (0, .inr (.inr (.inl (some 259)))), (1, .inl (Int32.ofNat (fs_hn M L))), (2, .inl (Int32.ofNat n))]) (S' := [.inr (.inr (.inl (some 259))), .inl (Int32.ofNat (pb_v B S n L M l))]) (h' := h2) (by with_unfolding_all rfl) ?_
              refine kx_getf (c := 259) (v := .inl (Int32.ofNat U.1)) rfl (by decide) R2.2.2.2.2.2.1.1 ?_
              refine kx_go 1 (pc' := (if kc_cnd .ne (Int32.ofNat (pb_v B S n L M l)).toInt (Int32.ofNat U.1).toInt then 206 else 155)) (L' := [(5, .inl (Int32.ofNat n)), (4, .inl (Int32.ofNat (fs_far B (pb_D S n l) n))), (3, .inl (kp_b true)), (0, .inr (.inr (.inl (some 259)))), (1, .inl (Int32.ofNat (fs_hn M L))), (2, .inl (Int32.ofNat n))]) (S' := []) (h' := h2) (by with_unfolding_all rfl) ?_
              by_cases c3 : pb_v B S n L M l = U.1
              · rw [if_neg (fun q => (kx_ne (by omega) (by omega)).mp q c3)]
                refine kx_go 2 (pc' := 158) (L' := [(5, .inl (Int32.ofNat n)), (4, .inl (Int32.ofNat (fs_far B (pb_D S n l) n))), (3, .inl (kp_b true)), (0, .inr (.inr (.inl (some 259)))), (1, .inl (Int32.ofNat (fs_hn M L))), (2, .inl (Int32.ofNat n))]) (S' := [.inr (.inr (.inl (some 259))), .inl (Int32.ofNat (fs_far B (pb_D S n l) n))]) (h' := h2) (by with_unfolding_all rfl) ?_
                refine kx_getf (c := 259) (v := .inl (Int32.ofNat U.2.1)) rfl (by decide) R2.2.2.2.2.2.2.1.1 ?_
                refine kx_go 1 (pc' := (if kc_cnd .ge (Int32.ofNat (fs_far B (pb_D S n l) n)).toInt (Int32.ofNat U.2.1).toInt then 206 else 164)) (L' := [(5, .inl (Int32.ofNat n)), (4, .inl (Int32.ofNat (fs_far B (pb_D S n l) n))), (3, .inl (kp_b true)), (0, .inr (.inr (.inl (some 259)))), (1, .inl (Int32.ofNat (fs_hn M L))), (2, .inl (Int32.ofNat n))]) (S' := []) (h' := h2) (by with_unfolding_all rfl) ?_
                by_cases c4 : pb_f B S n l < U.2.1
                · have c4 : fs_far B (pb_D S n l) n < U.2.1 := c4
                  rw [if_neg (fun q => by have := (kx_ge (by omega) (by omega)).mp q; omega)]
                  exact keep ⟨c1, Or.inr ⟨c3, c4⟩⟩
                · have c4 : ¬ fs_far B (pb_D S n l) n < U.2.1 := c4
                  rw [if_pos ((kx_ge (by omega) (by omega)).mpr (by omega))]
                  exact skip (fun q => q.2.elim c2 (fun q => c4 q.2))
              · rw [if_pos ((kx_ne (by omega) (by omega)).mpr c3)]
                exact skip (fun q => q.2.elim c2 (fun q => c3 q.1))
          · rw [decide_eq_false c1, if_pos (kx_b0.mpr rfl)]
            exact skip (fun q => c1 q.1)
        | succ v ihv =>
          intro k hv hk
          refine kx_go 3 (pc' := (if kc_cnd .ge (Int32.ofNat k).toInt (Int32.ofNat n).toInt then 125 else 108)) (L' := [(5, .inl (Int32.ofNat k)), (4, .inl (Int32.ofNat (fs_far B (pb_D S n l) k))), (3, .inl (kp_b true)), (0, .inr (.inr (.inl (some 259)))), (1, .inl (Int32.ofNat (fs_hn M L))), (2, .inl (Int32.ofNat n))]) (S' := []) (h' := h) (by with_unfolding_all rfl) ?_
          rw [if_neg (fun q => by have := (kx_ge (by omega) (by omega)).mp q; omega)]
          refine kx_go 3 (pc' := 113) (L' := [(5, .inl (Int32.ofNat k)), (4, .inl (Int32.ofNat (fs_far B (pb_D S n l) k))), (3, .inl (kp_b true)), (0, .inr (.inr (.inl (some 259)))), (1, .inl (Int32.ofNat (fs_hn M L))), (2, .inl (Int32.ofNat n))]) (S' := [.inl (Int32.ofNat k), .inr (.inr (.inl (some 259))), .inl (Int32.ofNat (fs_far B (pb_D S n l) k))]) (h' := h) (by with_unfolding_all rfl) ?_
          refine kc_call_rule (M2 := wk_m263) (av := [.inr (.inr (.inl (some 259))), .inl (Int32.ofNat k)]) (r := [.inl (Int32.ofNat (fs_far B (pb_D S n l) k))]) rfl rfl (kc_Con_le (fs_r263 (d := d) (D := pb_D S n l) hg hw hC hB' hn (fun k hk => pb_Bi hk) hDl (show k < n by omega)) (by omega)) (fun rv hcc hq => ?_)
          obtain ⟨rfl, e9⟩ := hq
          rw [e9]
          clear e9
          rw [pb_mi hn hDl]
          show kc_Ev g (d + 9) wk_m130 _ 116 [(5, .inl (Int32.ofNat k)), (4, .inl (Int32.ofNat (fs_far B (pb_D S n l) k))), (3, .inl (kp_b true)), (0, .inr (.inr (.inl (some 259)))), (1, .inl (Int32.ofNat (fs_hn M L))), (2, .inl (Int32.ofNat n))] [.inl (Int32.ofNat (fs_mi B (pb_D S n l) k)), .inl (Int32.ofNat (fs_far B (pb_D S n l) k))] h
          refine kx_go 4 (pc' := 102) (L' := [(5, .inl ((Int32.ofNat k) + Int32.ofInt 1)), (4, .inl ((Int32.ofNat (fs_far B (pb_D S n l) k)) + (Int32.ofNat (fs_mi B (pb_D S n l) k)))), (3, .inl (kp_b true)), (0, .inr (.inr (.inl (some 259)))), (1, .inl (Int32.ofNat (fs_hn M L))), (2, .inl (Int32.ofNat n))]) (S' := []) (h' := h) (by with_unfolding_all rfl) ?_
          rw [kx_inc, kx_add]
          refine kf_lo (L := [(5, .inl (Int32.ofNat (k + 1))), (4, .inl (Int32.ofNat (fs_far B (pb_D S n l) (k + 1)))), (3, .inl (kp_b true)), (0, .inr (.inr (.inl (some 259)))), (1, .inl (Int32.ofNat (fs_hn M L))), (2, .inl (Int32.ofNat n))]) (by intro q hq; simp only [List.mem_cons, List.not_mem_nil, or_false] at hq; rcases hq with rfl | rfl | rfl | rfl | rfl | rfl <;> rfl) ?_
          exact ihv (k + 1) (by omega) (by omega)
      exact miles n 0 (by omega) (by omega)
    have la : ∀ (v k : Nat) (D : Nat → Nat) (h : kc_H), n - k = v → k ≤ n → kd_wt kd_ty h → (∀ j, D j < 6) → (∀ j, j < k → D j = pb_D S n l j) → fu_B (pb_B B D n) h → (∀ a x, ¬ (a = 260 ∧ 150 ≤ x ∧ x < 155) → h a x = h9 a x) → kc_Ev g (d + 9) wk_m130 (fun rv h' => rv = some (.inl (kp_b (decide ((pb_it B S n L M (u + 1) l U).1 < 1000000)))) ∧ kd_wt kd_ty h' ∧ (h' 259 39 = .inl (Int32.ofNat (pb_it B S n L M (u + 1) l U).1)) ∧ (h' 259 38 = .inl (Int32.ofNat (pb_it B S n L M (u + 1) l U).2.1)) ∧ ((pb_it B S n L M (u + 1) l U).1 < 1000000 → ∀ j, j < n → h' 281 j = .inl (Int32.ofNat ((pb_it B S n L M (u + 1) l U).2.2 j))) ∧ (∀ j, j < n → h' 260 (150 + j) = .inl (Int32.ofNat (D0 j))) ∧ ∀ a x, ¬ (a = 259 ∧ 33 ≤ x ∧ x ≤ 39) → ¬ (272 ≤ a ∧ a ≤ 282) → ¬ (a = 260 ∧ 150 ≤ x ∧ x < 150 + n) → h' a x = h0 a x) 64 [(5, .inl (Int32.ofNat k)), (4, .inl (Int32.ofNat 0)), (3, .inl (kp_b true)), (0, .inr (.inr (.inl (some 259)))), (1, .inl (Int32.ofNat (fs_hn M L))), (2, .inl (Int32.ofNat n))] [] h := by
      intro v
      induction v with
      | zero =>
        intro k D h hv hk hw hD6 hDk hC hF9
        refine kx_go 3 (pc' := (if kc_cnd .ge (Int32.ofNat k).toInt (Int32.ofNat n).toInt then 99 else 70)) (L' := [(5, .inl (Int32.ofNat k)), (4, .inl (Int32.ofNat 0)), (3, .inl (kp_b true)), (0, .inr (.inr (.inl (some 259)))), (1, .inl (Int32.ofNat (fs_hn M L))), (2, .inl (Int32.ofNat n))]) (S' := []) (h' := h) (by with_unfolding_all rfl) ?_
        rw [if_pos ((kx_ge (by omega) (by omega)).mpr (by omega))]
        rw [pb_B_e (fun j hj => hDk j (by omega))] at hC
        refine kx_go 2 (pc' := 102) (L' := [(5, .inl (Int32.ofNat 0)), (4, .inl (Int32.ofNat 0)), (3, .inl (kp_b true)), (0, .inr (.inr (.inl (some 259)))), (1, .inl (Int32.ofNat (fs_hn M L))), (2, .inl (Int32.ofNat n))]) (S' := []) (h' := h) (by with_unfolding_all rfl) ?_
        refine kf_lo (L := [(5, .inl (Int32.ofNat 0)), (4, .inl (Int32.ofNat 0)), (3, .inl (kp_b true)), (0, .inr (.inr (.inl (some 259)))), (1, .inl (Int32.ofNat (fs_hn M L))), (2, .inl (Int32.ofNat n))]) (by intro q hq; simp only [List.mem_cons, List.not_mem_nil, or_false] at hq; rcases hq with rfl | rfl | rfl | rfl | rfl | rfl <;> rfl) ?_
        exact lb h hw hC hF9
      | succ v ihv =>
        intro k D h hv hk hw hD6 hDk hC hF9
        refine kx_go 3 (pc' := (if kc_cnd .ge (Int32.ofNat k).toInt (Int32.ofNat n).toInt then 99 else 70)) (L' := [(5, .inl (Int32.ofNat k)), (4, .inl (Int32.ofNat 0)), (3, .inl (kp_b true)), (0, .inr (.inr (.inl (some 259)))), (1, .inl (Int32.ofNat (fs_hn M L))), (2, .inl (Int32.ofNat n))]) (S' := []) (h' := h) (by with_unfolding_all rfl) ?_
        rw [if_neg (fun q => by have := (kx_ge (by omega) (by omega)).mp q; omega)]
        have hkn : k < n := by omega
        have g1 := w2 k hkn
        have s1 := hS _ g1
        have eD : pb_D S n l k = S (pb_g l k) := if_pos hkn
        refine kx_go 1 (pc' := 71) (L' := [(5, .inl (Int32.ofNat k)), (4, .inl (Int32.ofNat 0)), (3, .inl (kp_b true)), (0, .inr (.inr (.inl (some 259)))), (1, .inl (Int32.ofNat (fs_hn M L))), (2, .inl (Int32.ofNat n))]) (S' := [.inr (.inr (.inl (some 259)))]) (h' := h) (by with_unfolding_all rfl) ?_
        refine kx_getf (c := 259) (v := .inr (.inr (.inl (some 260)))) rfl (by decide) (kx_ofr (hw _ _ _ fs_k259_0)) ?_
        refine kx_go 4 (pc' := 81) (L' := [(5, .inl (Int32.ofNat k)), (4, .inl (Int32.ofNat 0)), (3, .inl (kp_b true)), (0, .inr (.inr (.inl (some 259)))), (1, .inl (Int32.ofNat (fs_hn M L))), (2, .inl (Int32.ofNat n))]) (S' := [.inr (.inr (.inl (some 259))), .inl ((Int32.ofNat 150) + (Int32.ofNat k)), .inr (.inr (.inl (some 260)))]) (h' := h) (by with_unfolding_all rfl) ?_
        refine kx_getf (c := 259) (v := .inr (.inr (.inl (some 280)))) rfl (by decide) (kx_ofr (hw _ _ _ fs_k259_36)) ?_
        refine kx_go 1 (pc' := 85) (L' := [(5, .inl (Int32.ofNat k)), (4, .inl (Int32.ofNat 0)), (3, .inl (kp_b true)), (0, .inr (.inr (.inl (some 259)))), (1, .inl (Int32.ofNat (fs_hn M L))), (2, .inl (Int32.ofNat n))]) (S' := [.inr (.inr (.inl (some 259))), .inr (.inr (.inl (some 280))), .inl ((Int32.ofNat 150) + (Int32.ofNat k)), .inr (.inr (.inl (some 260)))]) (h' := h) (by with_unfolding_all rfl) ?_
        refine kx_getf (c := 259) (v := .inr (.inr (.inl (some 279)))) rfl (by decide) (kx_ofr (hw _ _ _ fs_k259_34)) ?_
        refine kx_go 1 (pc' := 90) (L' := [(5, .inl (Int32.ofNat k)), (4, .inl (Int32.ofNat 0)), (3, .inl (kp_b true)), (0, .inr (.inr (.inl (some 259)))), (1, .inl (Int32.ofNat (fs_hn M L))), (2, .inl (Int32.ofNat n))]) (S' := [.inl (Int32.ofNat k), .inr (.inr (.inl (some 279))), .inr (.inr (.inl (some 280))), .inl ((Int32.ofNat 150) + (Int32.ofNat k)), .inr (.inr (.inl (some 260)))]) (h' := h) (by with_unfolding_all rfl) ?_
        refine kx_iald (c := 279) (j := k) (m := 10) (v := .inl (Int32.ofNat (pb_g l k))) rfl rfl (by decide) (by decide) (by omega) ((hF9 279 k (by omega)).trans (hr k hkn).1) ?_
        refine kx_iald (c := 280) (j := pb_g l k) (m := 5) (v := .inl (Int32.ofNat (S (pb_g l k)))) rfl rfl (by decide) (by decide) (by omega) ((hF9 280 _ (by omega)).trans (h280 _ g1)) ?_
        rw [kx_add]
        refine kx_iast (c := 260) (j := 150 + k) (m := 650) rfl rfl (by decide) (by decide) (by omega) ?_
        refine kx_go 2 (pc' := 64) (L' := [(5, .inl ((Int32.ofNat k) + Int32.ofInt 1)), (4, .inl (Int32.ofNat 0)), (3, .inl (kp_b true)), (0, .inr (.inr (.inl (some 259)))), (1, .inl (Int32.ofNat (fs_hn M L))), (2, .inl (Int32.ofNat n))]) (S' := []) (h' := (kc_upd h 260 (150 + k) (.inl (Int32.ofNat (S (pb_g l k)))))) (by with_unfolding_all rfl) ?_
        rw [kx_inc]
        refine ihv (k + 1) (ms_u D k (S (pb_g l k))) _ (by omega) (by omega) (fa_wn (fs_k279.2.2.2.2.1 k (by omega)) (show S (pb_g l k) ≤ 5 by omega) (by decide) hw) (fun j => ?_) (fun j hj => ?_) (pb_B_u hkn hC) (fun a y ha => (fu_ne (by omega)).trans (hF9 a y ha))
        · by_cases e : j = k
          · rw [e, ms_ue]; exact s1
          · rw [ms_un e]; exact hD6 j
        · by_cases e : j = k
          · rw [e, ms_ue, eD]
          · rw [ms_un e]; exact hDk j (by omega)
    refine kx_go 4 (pc' := 64) (L' := [(5, .inl (Int32.ofNat 0)), (4, .inl (Int32.ofNat 0)), (3, .inl (kp_b true)), (0, .inr (.inr (.inl (some 259)))), (1, .inl (Int32.ofNat (fs_hn M L))), (2, .inl (Int32.ofNat n))]) (S' := []) (h' := h9) (by with_unfolding_all rfl) ?_
    exact la n 0 D h9 (by omega) (by omega) hw hD6 (fun j hj => by omega) hCD (fun _ _ _ => rfl)
set_option maxRecDepth 20000 in
theorem fs_r130r {g : kc_G} {d : Nat} {h0 : kc_H} {B : Nat → Int32} {n L M X : Nat} (hw0 : kd_wt kd_ty h0) (hg : kc_ok g) (hB : fu_BT B) (hC0 : fu_B B h0) (hn : n ≤ 5) (en : B 3 = Int32.ofNat n) (hL : L ≤ 10) (eL : B 2 = Int32.ofNat L) (hM : M ≤ 3) (eM : B 1 = Int32.ofNat M) (hX : X ≤ 5) (eX : B 0 = Int32.ofNat X) (hN : fs_hn M L ≤ 5000) (hdl : ∀ i j, i < n → j < n → fs_D B n i = fs_D B n j → i = j) (hdp : ∀ i, i < n → 1 ≤ fs_D B n i ∧ fs_D B n i ≤ X) : kc_Con g (d + 10) 130 [.inr (.inr (.inl (some 259))), .inl (Int32.ofNat (fs_hn M L))] h0 (fun rv h' => rv = some (.inl (kp_b (decide ((pb_it B (pb_ls (fs_D B n) n X).2 n L M 120 (List.range n) (1000000, 0, fun _ => 0)).1 < 1000000)))) ∧ kd_wt kd_ty h' ∧ (h' 259 39 = .inl (Int32.ofNat (pb_it B (pb_ls (fs_D B n) n X).2 n L M 120 (List.range n) (1000000, 0, fun _ => 0)).1)) ∧ (h' 259 38 = .inl (Int32.ofNat (pb_it B (pb_ls (fs_D B n) n X).2 n L M 120 (List.range n) (1000000, 0, fun _ => 0)).2.1)) ∧ ((pb_it B (pb_ls (fs_D B n) n X).2 n L M 120 (List.range n) (1000000, 0, fun _ => 0)).1 < 1000000 → ∀ j, j < n → h' 281 j = .inl (Int32.ofNat ((pb_it B (pb_ls (fs_D B n) n X).2 n L M 120 (List.range n) (1000000, 0, fun _ => 0)).2.2 j))) ∧ (∀ j, j < n → h' 260 (150 + j) = .inl (Int32.ofNat (fs_D B n j))) ∧ ∀ a x, ¬ (a = 259 ∧ 33 ≤ x ∧ x ≤ 39) → ¬ (272 ≤ a ∧ a ≤ 282) → ¬ (a = 260 ∧ 150 ≤ x ∧ x < 150 + n) → h' a x = h0 a x) := by
  have hD6 := fun k => fs_Dl hB hn k
  have pl := pb_ls_p (D := fs_D B n) (n := n) X
  have pn := pb_ls_n hdp hdl
  have hS6 : ∀ j, j < n → (pb_ls (fs_D B n) n X).2 j < 6 := fun j hj => by have := (pl.2.1 j (by omega)).2; omega
  have hSi : ∀ i j, i < n → j < n → (pb_ls (fs_D B n) n X).2 i = (pb_ls (fs_D B n) n X).2 j → i = j := fun i j hi hj e => by
    rcases Nat.lt_trichotomy i j with q | q | q
    · have := pl.2.2.1 i j q (by omega); omega
    · exact q
    · have := pl.2.2.1 j i q (by omega); omega
  refine kc_Con_new hg (M := wk_m130) rfl rfl rfl (show 2 ≤ 6 by decide) ?_
  have hC := hC0
  refine kx_go 1 (pc' := 1) (L' := [(0, .inr (.inr (.inl (some 259)))), (1, .inl (Int32.ofNat (fs_hn M L)))]) (S' := [.inr (.inr (.inl (some 259)))]) (h' := h0) (by with_unfolding_all rfl) ?_
  refine kx_getf (c := 259) (v := .inr (.inr (.inl (some 260)))) rfl (by decide) (kx_ofr (hw0 _ _ _ fs_k259_0)) ?_
  refine kx_go 1 (pc' := 5) (L' := [(0, .inr (.inr (.inl (some 259)))), (1, .inl (Int32.ofNat (fs_hn M L)))]) (S' := [.inl (Int32.ofNat 3), .inr (.inr (.inl (some 260)))]) (h' := h0) (by with_unfolding_all rfl) ?_
  refine kx_iald (c := 260) (j := 3) (m := 650) (v := .inl (Int32.ofNat n)) rfl rfl (by decide) (by decide) (by omega) ((hC 3 (by decide) (by decide)).trans (by rw [en])) ?_
  refine kx_go 2 (pc' := 8) (L' := [(2, .inl (Int32.ofNat n)), (0, .inr (.inr (.inl (some 259)))), (1, .inl (Int32.ofNat (fs_hn M L)))]) (S' := [.inr (.inr (.inl (some 259)))]) (h' := h0) (by with_unfolding_all rfl) ?_
  refine kc_call_rule (M2 := wk_m131) (av := [.inr (.inr (.inl (some 259)))]) (r := []) rfl rfl (kc_Con_le (fs_r131 (d := d) (D := fs_D B n) hw0 hg hC0 en eX hX hn (fun k hk => fs_Dv hB hn hk) hD6 hdl) (by omega)) (fun rv h2 hq => ?_)
  obtain ⟨rfl, hw2, hls, hF2⟩ := hq
  show kc_Ev g (d + 9) wk_m130 _ 11 [(2, .inl (Int32.ofNat n)), (0, .inr (.inr (.inl (some 259)))), (1, .inl (Int32.ofNat (fs_hn M L)))] [] h2
  refine kx_go 2 (pc' := 13) (L' := [(3, .inl (Int32.ofNat 0)), (2, .inl (Int32.ofNat n)), (0, .inr (.inr (.inl (some 259)))), (1, .inl (Int32.ofNat (fs_hn M L)))]) (S' := []) (h' := h2) (by with_unfolding_all rfl) ?_
  have had : ∀ (v k : Nat) (h : kc_H), n - k = v → k ≤ n → kd_wt kd_ty h → (∀ j, j < k → h 282 j = .inl (Int32.ofNat (fs_D B n j))) → (∀ a x, ¬ a = 282 → h a x = h2 a x) → kc_Ev g (d + 9) wk_m130 (fun rv h' => rv = some (.inl (kp_b (decide ((pb_it B (pb_ls (fs_D B n) n X).2 n L M 120 (List.range n) (1000000, 0, fun _ => 0)).1 < 1000000)))) ∧ kd_wt kd_ty h' ∧ (h' 259 39 = .inl (Int32.ofNat (pb_it B (pb_ls (fs_D B n) n X).2 n L M 120 (List.range n) (1000000, 0, fun _ => 0)).1)) ∧ (h' 259 38 = .inl (Int32.ofNat (pb_it B (pb_ls (fs_D B n) n X).2 n L M 120 (List.range n) (1000000, 0, fun _ => 0)).2.1)) ∧ ((pb_it B (pb_ls (fs_D B n) n X).2 n L M 120 (List.range n) (1000000, 0, fun _ => 0)).1 < 1000000 → ∀ j, j < n → h' 281 j = .inl (Int32.ofNat ((pb_it B (pb_ls (fs_D B n) n X).2 n L M 120 (List.range n) (1000000, 0, fun _ => 0)).2.2 j))) ∧ (∀ j, j < n → h' 260 (150 + j) = .inl (Int32.ofNat (fs_D B n j))) ∧ ∀ a x, ¬ (a = 259 ∧ 33 ≤ x ∧ x ≤ 39) → ¬ (272 ≤ a ∧ a ≤ 282) → ¬ (a = 260 ∧ 150 ≤ x ∧ x < 150 + n) → h' a x = h0 a x) 13 [(3, .inl (Int32.ofNat k)), (2, .inl (Int32.ofNat n)), (0, .inr (.inr (.inl (some 259)))), (1, .inl (Int32.ofNat (fs_hn M L)))] [] h := by
    intro v
    induction v with
    | zero =>
      intro k h hv hk hw hz hF
      refine kx_go 3 (pc' := (if kc_cnd .ge (Int32.ofNat k).toInt (Int32.ofNat n).toInt then 35 else 18)) (L' := [(3, .inl (Int32.ofNat k)), (2, .inl (Int32.ofNat n)), (0, .inr (.inr (.inl (some 259)))), (1, .inl (Int32.ofNat (fs_hn M L)))]) (S' := []) (h' := h) (by with_unfolding_all rfl) ?_
      rw [if_pos ((kx_ge (by omega) (by omega)).mpr (by omega))]
      refine kx_go 2 (pc' := 39) (L' := [(3, .inl (Int32.ofNat k)), (2, .inl (Int32.ofNat n)), (0, .inr (.inr (.inl (some 259)))), (1, .inl (Int32.ofNat (fs_hn M L)))]) (S' := [.inl (Int32.ofNat 1000000), .inr (.inr (.inl (some 259)))]) (h' := h) (by with_unfolding_all rfl) ?_
      have hw3 : kd_wt kd_ty (kc_upd h 259 39 (.inl (Int32.ofNat 1000000))) := fa_wa fs_k279.2.2.2.2.2.2.2 hw
      refine kx_go 1 (pc' := 42) (L' := [(3, .inl (Int32.ofNat k)), (2, .inl (Int32.ofNat n)), (0, .inr (.inr (.inl (some 259)))), (1, .inl (Int32.ofNat (fs_hn M L)))]) (S' := []) (h' := (kc_upd h 259 39 (.inl (Int32.ofNat 1000000)))) (by with_unfolding_all rfl) ?_
      refine kx_go 2 (pc' := 44) (L' := [(3, .inl (Int32.ofNat k)), (2, .inl (Int32.ofNat n)), (0, .inr (.inr (.inl (some 259)))), (1, .inl (Int32.ofNat (fs_hn M L)))]) (S' := [.inl (Int32.ofNat 0), .inr (.inr (.inl (some 259)))]) (h' := (kc_upd h 259 39 (.inl (Int32.ofNat 1000000)))) (by with_unfolding_all rfl) ?_
      have hw4 : kd_wt kd_ty (kc_upd (kc_upd h 259 39 (.inl (Int32.ofNat 1000000))) 259 38 (.inl (Int32.ofNat 0))) := fa_wa fs_k279.2.2.2.2.2.2.1 hw3
      refine kx_go 1 (pc' := 47) (L' := [(3, .inl (Int32.ofNat k)), (2, .inl (Int32.ofNat n)), (0, .inr (.inr (.inl (some 259)))), (1, .inl (Int32.ofNat (fs_hn M L)))]) (S' := []) (h' := (kc_upd (kc_upd h 259 39 (.inl (Int32.ofNat 1000000))) 259 38 (.inl (Int32.ofNat 0)))) (by with_unfolding_all rfl) ?_
      have e4 : (kc_upd (kc_upd h 259 39 (.inl (Int32.ofNat 1000000))) 259 38 (.inl (Int32.ofNat 0))) 259 38 = .inl (Int32.ofNat 0) := fu_eq
      have e5 : (kc_upd (kc_upd h 259 39 (.inl (Int32.ofNat 1000000))) 259 38 (.inl (Int32.ofNat 0))) 259 39 = .inl (Int32.ofNat 1000000) := (fu_ne (by decide)).trans fu_eq
      have o4 : ∀ a x, ¬ (a = 259 ∧ 38 ≤ x ∧ x ≤ 39) → (kc_upd (kc_upd h 259 39 (.inl (Int32.ofNat 1000000))) 259 38 (.inl (Int32.ofNat 0))) a x = h a x := fun a y q => (fu_ne (by omega)).trans (fu_ne (by omega))
      generalize (kc_upd (kc_upd h 259 39 (.inl (Int32.ofNat 1000000))) 259 38 (.inl (Int32.ofNat 0))) = h4 at hw4 e4 e5 o4 ⊢
      refine kx_go 2 (pc' := 49) (L' := [(3, .inl (Int32.ofNat k)), (2, .inl (Int32.ofNat n)), (0, .inr (.inr (.inl (some 259)))), (1, .inl (Int32.ofNat (fs_hn M L)))]) (S' := [.inl (Int32.ofNat n), .inr (.inr (.inl (some 259)))]) (h' := h4) (by with_unfolding_all rfl) ?_
      refine kc_call_rule (M2 := wk_m132) (av := [.inr (.inr (.inl (some 259))), .inl (Int32.ofNat n)]) (r := []) rfl rfl (kc_Con_le (fs_r132 (d := d) hg hw4 hn) (by omega)) (fun rv h5 hq => ?_)
      obtain ⟨rfl, hw5, e35, hr5, hF5⟩ := hq
      show kc_Ev g (d + 9) wk_m130 _ 52 [(3, .inl (Int32.ofNat k)), (2, .inl (Int32.ofNat n)), (0, .inr (.inr (.inl (some 259)))), (1, .inl (Int32.ofNat (fs_hn M L)))] [] h5
      refine kx_go 2 (pc' := 54) (L' := [(3, .inl (Int32.ofNat 1)), (2, .inl (Int32.ofNat n)), (0, .inr (.inr (.inl (some 259)))), (1, .inl (Int32.ofNat (fs_hn M L)))]) (S' := []) (h' := h5) (by with_unfolding_all rfl) ?_
      refine kf_lo (L := [(3, .inl (kp_b true)), (0, .inr (.inr (.inl (some 259)))), (1, .inl (Int32.ofNat (fs_hn M L))), (2, .inl (Int32.ofNat n))]) (by intro q hq; simp only [List.mem_cons, List.not_mem_nil, or_false] at hq; rcases hq with rfl | rfl | rfl | rfl <;> rfl) ?_
      have oo : ∀ a x, ¬ (a = 259 ∧ 35 ≤ x ∧ x ≤ 39) → ¬ a = 279 → ¬ a = 282 → h5 a x = h2 a x := fun a y q1 q2 q3 => (hF5 a y q2 (by omega)).trans ((o4 a y (by omega)).trans (hF a y q3))
      have H := fs_r130l (g := g) (d := d) (h0 := h0) (S := (pb_ls (fs_D B n) n X).2) (D0 := fs_D B n) hg hB hn en hL eL hM eM hN hS6 hSi hD6 (by rw [pb_B0 hB hn]; exact hC0) 120 (List.range n) (1000000, 0, fun _ => 0) h5 (pb_w_ok n (by omega)) ⟨hw5, ⟨fs_D B n, hD6, by rw [pb_B0 hB hn]; exact fs_B_f (fun x => (oo 260 x (by omega) (by omega) (by omega)).trans (hF2 260 x (by decide))) hC0⟩, e35, fun j hj => by rw [pb_gr hj]; exact hr5 j hj, fun j hj => (oo 280 j (by omega) (by omega) (by omega)).trans (hls j (by omega)), ⟨(hF5 _ _ (by decide) (by decide)).trans e5, Nat.le_refl _⟩, ⟨(hF5 _ _ (by decide) (by decide)).trans e4, Nat.zero_le _⟩, fun q => absurd q (Nat.lt_irrefl _), fun j hj => (hF5 282 j (by omega) (by omega)).trans ((o4 282 j (by omega)).trans (hz j (by omega))), fun a y h1 h3 h4 => (oo a y (by omega) (by omega) (by omega)).trans (hF2 a y (by omega))⟩
      exact H
    | succ v ihv =>
      intro k h hv hk hw hz hF
      refine kx_go 3 (pc' := (if kc_cnd .ge (Int32.ofNat k).toInt (Int32.ofNat n).toInt then 35 else 18)) (L' := [(3, .inl (Int32.ofNat k)), (2, .inl (Int32.ofNat n)), (0, .inr (.inr (.inl (some 259)))), (1, .inl (Int32.ofNat (fs_hn M L)))]) (S' := []) (h' := h) (by with_unfolding_all rfl) ?_
      rw [if_neg (fun q => by have := (kx_ge (by omega) (by omega)).mp q; omega)]
      have hkn : k < n := by omega
      have hd6 := hD6 k
      have hC5 : fu_B B h := fs_B_f (fun x => (hF 260 x (by decide)).trans (hF2 260 x (by decide))) hC0
      refine kx_go 1 (pc' := 19) (L' := [(3, .inl (Int32.ofNat k)), (2, .inl (Int32.ofNat n)), (0, .inr (.inr (.inl (some 259)))), (1, .inl (Int32.ofNat (fs_hn M L)))]) (S' := [.inr (.inr (.inl (some 259)))]) (h' := h) (by with_unfolding_all rfl) ?_
      refine kx_getf (c := 259) (v := .inr (.inr (.inl (some 282)))) rfl (by decide) (kx_ofr (hw _ _ _ fs_k259_40)) ?_
      refine kx_go 3 (pc' := 25) (L' := [(3, .inl (Int32.ofNat k)), (2, .inl (Int32.ofNat n)), (0, .inr (.inr (.inl (some 259)))), (1, .inl (Int32.ofNat (fs_hn M L)))]) (S' := [.inl (Int32.ofNat k), .inr (.inr (.inl (some 259))), .inl (Int32.ofNat k), .inr (.inr (.inl (some 282)))]) (h' := h) (by with_unfolding_all rfl) ?_
      refine kc_call_rule (M2 := wk_m259) (av := [.inr (.inr (.inl (some 259))), .inl (Int32.ofNat k)]) (r := [.inl (Int32.ofNat k), .inr (.inr (.inl (some 282)))]) rfl rfl (kc_Con_le (fs_r259 (d := d) (D := fs_D B n) hg hw hC5 hn (fun k hk => fs_Dv hB hn hk) hkn) (by omega)) (fun rv hcc hq => ?_)
      obtain ⟨rfl, e9⟩ := hq
      rw [e9]
      clear e9
      show kc_Ev g (d + 9) wk_m130 _ 28 [(3, .inl (Int32.ofNat k)), (2, .inl (Int32.ofNat n)), (0, .inr (.inr (.inl (some 259)))), (1, .inl (Int32.ofNat (fs_hn M L)))] [.inl (Int32.ofNat (fs_D B n k)), .inl (Int32.ofNat k), .inr (.inr (.inl (some 282)))] h
      refine kx_iast (c := 282) (j := k) (m := 5) rfl rfl (by decide) (by decide) (by omega) ?_
      refine kx_go 2 (pc' := 13) (L' := [(3, .inl ((Int32.ofNat k) + Int32.ofInt 1)), (2, .inl (Int32.ofNat n)), (0, .inr (.inr (.inl (some 259)))), (1, .inl (Int32.ofNat (fs_hn M L)))]) (S' := []) (h' := (kc_upd h 282 k (.inl (Int32.ofNat (fs_D B n k))))) (by with_unfolding_all rfl) ?_
      rw [kx_inc]
      refine ihv (k + 1) _ (by omega) (by omega) (fa_wn (fs_k279.2.2.2.1 k (by omega)) (show fs_D B n k ≤ 5 by omega) (by decide) hw) (fun j hj => ?_) (fun a y ha => (fu_ne (fun q => ha q.1)).trans (hF a y ha))
      by_cases e : j = k
      · rw [e]; exact fu_eq
      · exact (fu_ne (fun q => e q.2)).trans (hz j (by omega))
  exact had n 0 h2 (by omega) (by omega) hw2 (fun j hj => by omega) (fun _ _ _ => rfl)
set_option maxRecDepth 20000 in
theorem fs_r130 {g : kc_G} {d : Nat} {h0 : kc_H} {B : Nat → Int32} {n L M X : Nat} (hw0 : kd_wt kd_ty h0) (hg : kc_ok g) (hB : fu_BT B) (hC0 : fu_B B h0) (hn : n ≤ 5) (en : B 3 = Int32.ofNat n) (hL : L ≤ 10) (eL : B 2 = Int32.ofNat L) (hM : M ≤ 3) (eM : B 1 = Int32.ofNat M) (hX : X ≤ 5) (eX : B 0 = Int32.ofNat X) (hN : fs_hn M L ≤ 5000) (hdl : ∀ i j, i < n → j < n → fs_D B n i = fs_D B n j → i = j) (hdp : ∀ i, i < n → 1 ≤ fs_D B n i ∧ fs_D B n i ≤ X) : kc_Con g (d + 10) 130 [.inr (.inr (.inl (some 259))), .inl (Int32.ofNat (fs_hn M L))] h0 (fun rv h' => rv = some (.inl (kp_b (decide ((pb_it B (pb_ls (fs_D B n) n X).2 n L M 120 (List.range n) (1000000, 0, fun _ => 0)).1 < 1000000)))) ∧ kd_wt kd_ty h' ∧ (h' 259 39 = .inl (Int32.ofNat (pb_it B (pb_ls (fs_D B n) n X).2 n L M 120 (List.range n) (1000000, 0, fun _ => 0)).1)) ∧ (h' 259 38 = .inl (Int32.ofNat (pb_it B (pb_ls (fs_D B n) n X).2 n L M 120 (List.range n) (1000000, 0, fun _ => 0)).2.1)) ∧ ((pb_it B (pb_ls (fs_D B n) n X).2 n L M 120 (List.range n) (1000000, 0, fun _ => 0)).1 < 1000000 → ∀ j, j < n → h' 281 j = .inl (Int32.ofNat ((pb_it B (pb_ls (fs_D B n) n X).2 n L M 120 (List.range n) (1000000, 0, fun _ => 0)).2.2 j))) ∧ ∀ a x, ¬ (a = 259 ∧ 33 ≤ x ∧ x ≤ 39) → ¬ (272 ≤ a ∧ a ≤ 282) → h' a x = h0 a x) := by
  refine kc_Con_mono (fs_r130r hw0 hg hB hC0 hn en hL eL hM eM hX eX hN hdl hdp) (fun rv h' hq => ?_)
  obtain ⟨q1, q2, q3, q4, q5, q6, q7⟩ := hq
  refine ⟨q1, q2, q3, q4, q5, fun a y h1 h3 => ?_⟩
  by_cases c : a = 260 ∧ 150 ≤ y ∧ y < 150 + n
  · obtain ⟨rfl, c1, c2⟩ := c
    have e6 := q6 (y - 150) (by omega)
    have e7 := hC0 (150 + (y - 150)) (by omega) (fu_fli (y - 150) (by omega)).2.1
    rw [show 150 + (y - 150) = y by omega] at e6 e7
    have e8 := fs_Dv hB hn (show y - 150 < n by omega)
    rw [show 150 + (y - 150) = y by omega] at e8
    rw [e6, e7, e8]
  · exact q7 a y h1 h3 c
def pb_bv (B : Nat → Int32) (X n L M : Nat) (a : Int32) : Int32 := if 5000 < fs_hn M L then Int32.ofInt (-20) else if (pb_it B (pb_ls (fs_D B n) n X).2 n L M 120 (List.range n) (1000000, 0, fun _ => 0)).1 < 1000000 then (if a = Int32.ofInt (-1) then Int32.ofNat (pb_it B (pb_ls (fs_D B n) n X).2 n L M 120 (List.range n) (1000000, 0, fun _ => 0)).1 else if a = Int32.ofNat 10 then Int32.ofNat (pb_it B (pb_ls (fs_D B n) n X).2 n L M 120 (List.range n) (1000000, 0, fun _ => 0)).2.1 else Int32.ofNat ((pb_it B (pb_ls (fs_D B n) n X).2 n L M 120 (List.range n) (1000000, 0, fun _ => 0)).2.2 a.toInt.toNat)) else Int32.ofInt (-5)
def pb_best (B : Nat → Int32) (X n L M : Nat) (a : Int32) : Int32 := if a = Int32.ofInt (-1) ∨ a = Int32.ofNat 10 ∨ fu_in a 0 ((n : Int) - 1) = true then pb_bv B X n L M a else Int32.ofInt (-10)
set_option maxRecDepth 20000 in
theorem fs_r129t {g : kc_G} {d : Nat} {h0 : kc_H} {B : Nat → Int32} {n L M X : Nat} {a : Int32} (hw0 : kd_wt kd_ty h0) (hg : kc_ok g) (hB : fu_BT B) (hC0 : fu_B B h0) (hn : n ≤ 5) (en : B 3 = Int32.ofNat n) (hL : L ≤ 10) (eL : B 2 = Int32.ofNat L) (hM : M ≤ 3) (eM : B 1 = Int32.ofNat M) (hX : X ≤ 5) (eX : B 0 = Int32.ofNat X) (hdl : ∀ i j, i < n → j < n → fs_D B n i = fs_D B n j → i = j) (hdp : ∀ i, i < n → 1 ≤ fs_D B n i ∧ fs_D B n i ≤ X) (ha : a = Int32.ofInt (-1) ∨ a = Int32.ofNat 10 ∨ ∃ l, l < n ∧ a = Int32.ofNat l) : kc_Ev g (d + 11) wk_m129 (fun rv h' => rv = some (.inl (pb_bv B X n L M a)) ∧ kd_wt kd_ty h' ∧ ∀ a x, ¬ (a = 259 ∧ 33 ≤ x ∧ x ≤ 39) → ¬ (272 ≤ a ∧ a ≤ 282) → h' a x = h0 a x) 32 [(0, .inr (.inr (.inl (some 259)))), (1, .inl (a))] [] h0 := by
  unfold pb_bv
  have b := fs_hn_b hM L
  refine kx_go 1 (pc' := 33) (L' := [(0, .inr (.inr (.inl (some 259)))), (1, .inl (a))]) (S' := [.inr (.inr (.inl (some 259)))]) (h' := h0) (by with_unfolding_all rfl) ?_
  refine kc_call_rule (M2 := wk_m121) (av := [.inr (.inr (.inl (some 259)))]) (r := []) rfl rfl (kc_Con_le (fs_r121 (d := d) hg hw0 hC0 hM eM hL eL) (by omega)) (fun rv hcc hq => ?_)
  obtain ⟨rfl, e9⟩ := hq
  rw [e9]
  clear e9
  show kc_Ev g (d + 11) wk_m129 _ 36 [(0, .inr (.inr (.inl (some 259)))), (1, .inl (a))] [.inl (fs_hv M L)] h0
  refine kx_go 4 (pc' := (if kc_cnd .ne (fs_hv M L).toInt (Int32.ofInt (-1)).toInt then 45 else 42)) (L' := [(2, .inl (fs_hv M L)), (0, .inr (.inr (.inl (some 259)))), (1, .inl (a))]) (S' := []) (h' := h0) (by with_unfolding_all rfl) ?_
  by_cases c : 5000 < fs_hn M L
  · rw [show fs_hv M L = Int32.ofInt (-1) from if_pos c, if_neg kx_m2, if_pos c]
    refine kx_go 1 (pc' := 44) (L' := [(2, .inl (Int32.ofInt (-1))), (0, .inr (.inr (.inl (some 259)))), (1, .inl (a))]) (S' := [.inl (Int32.ofInt (-20))]) (h' := h0) (by with_unfolding_all rfl) ?_
    exact kc_ret_ok rfl (rv := some (.inl (Int32.ofInt (-20)))) rfl ⟨rfl, hw0, fun _ _ _ _ => rfl⟩
  · rw [show fs_hv M L = Int32.ofNat (fs_hn M L) from if_neg c, if_pos (kx_nm2 (by omega)), if_neg c]
    have H130 := fs_r130 (g := g) (d := d) hw0 hg hB hC0 hn en hL eL hM eM hX eX (show fs_hn M L ≤ 5000 by omega) hdl hdp
    generalize pb_it B (pb_ls (fs_D B n) n X).2 n L M 120 (List.range n) (1000000, 0, fun _ => 0) = U at H130 ⊢
    refine kx_go 2 (pc' := 47) (L' := [(2, .inl (Int32.ofNat (fs_hn M L))), (0, .inr (.inr (.inl (some 259)))), (1, .inl (a))]) (S' := [.inl (Int32.ofNat (fs_hn M L)), .inr (.inr (.inl (some 259)))]) (h' := h0) (by with_unfolding_all rfl) ?_
    refine kc_call_rule (M2 := wk_m130) (av := [.inr (.inr (.inl (some 259))), .inl (Int32.ofNat (fs_hn M L))]) (r := []) rfl rfl (kc_Con_le (H130) (by omega)) (fun rv h2 hq => ?_)
    obtain ⟨rfl, hw2, e39, e38, e281, hF2⟩ := hq
    show kc_Ev g (d + 11) wk_m129 _ 50 [(2, .inl (Int32.ofNat (fs_hn M L))), (0, .inr (.inr (.inl (some 259)))), (1, .inl (a))] [.inl (kp_b (decide (U.1 < 1000000)))] h2
    refine kx_go 1 (pc' := (if kc_cnd .ne (kp_b (decide (U.1 < 1000000))).toInt 0 then 58 else 53)) (L' := [(2, .inl (Int32.ofNat (fs_hn M L))), (0, .inr (.inr (.inl (some 259)))), (1, .inl (a))]) (S' := []) (h' := h2) (by with_unfolding_all rfl) ?_
    by_cases c2 : U.1 < 1000000
    · rw [decide_eq_true c2, if_pos (kx_b1.mpr rfl), if_pos c2]
      refine kx_go 3 (pc' := (if kc_cnd .ne (a).toInt (Int32.ofInt (-1)).toInt then 70 else 63)) (L' := [(2, .inl (Int32.ofNat (fs_hn M L))), (0, .inr (.inr (.inl (some 259)))), (1, .inl (a))]) (S' := []) (h' := h2) (by with_unfolding_all rfl) ?_
      rcases ha with ha | ha | ⟨l, hll, ha⟩
      · subst ha
        rw [if_neg kx_m2, if_pos rfl]
        refine kx_go 1 (pc' := 64) (L' := [(2, .inl (Int32.ofNat (fs_hn M L))), (0, .inr (.inr (.inl (some 259)))), (1, .inl (Int32.ofInt (-1)))]) (S' := [.inr (.inr (.inl (some 259)))]) (h' := h2) (by with_unfolding_all rfl) ?_
        refine kx_getf (c := 259) (v := .inl (Int32.ofNat U.1)) rfl (by decide) e39 ?_
        refine kx_go 1 (pc' := 89) (L' := [(2, .inl (Int32.ofNat (fs_hn M L))), (0, .inr (.inr (.inl (some 259)))), (1, .inl (Int32.ofInt (-1)))]) (S' := [.inl (Int32.ofNat U.1)]) (h' := h2) (by with_unfolding_all rfl) ?_
        exact kc_ret_ok rfl (rv := some (.inl (Int32.ofNat U.1))) rfl ⟨rfl, hw2, hF2⟩
      · subst ha
        rw [if_pos (kx_nm2 (by decide)), if_neg (by decide), if_pos rfl]
        refine kx_go 3 (pc' := (if kc_cnd .ne (Int32.ofNat 10).toInt (Int32.ofNat 10).toInt then 83 else 76)) (L' := [(2, .inl (Int32.ofNat (fs_hn M L))), (0, .inr (.inr (.inl (some 259)))), (1, .inl (Int32.ofNat 10))]) (S' := []) (h' := h2) (by with_unfolding_all rfl) ?_
        rw [if_neg (fun q => (kx_ne (by omega) (by omega)).mp q rfl)]
        refine kx_go 1 (pc' := 77) (L' := [(2, .inl (Int32.ofNat (fs_hn M L))), (0, .inr (.inr (.inl (some 259)))), (1, .inl (Int32.ofNat 10))]) (S' := [.inr (.inr (.inl (some 259)))]) (h' := h2) (by with_unfolding_all rfl) ?_
        refine kx_getf (c := 259) (v := .inl (Int32.ofNat U.2.1)) rfl (by decide) e38 ?_
        refine kx_go 1 (pc' := 89) (L' := [(2, .inl (Int32.ofNat (fs_hn M L))), (0, .inr (.inr (.inl (some 259)))), (1, .inl (Int32.ofNat 10))]) (S' := [.inl (Int32.ofNat U.2.1)]) (h' := h2) (by with_unfolding_all rfl) ?_
        exact kc_ret_ok rfl (rv := some (.inl (Int32.ofNat U.2.1))) rfl ⟨rfl, hw2, hF2⟩
      · subst ha
        have l1 : ¬ Int32.ofNat l = Int32.ofInt (-1) := fun q => by have := congrArg Int32.toInt q; rw [kx_ti (by omega), show (Int32.ofInt (-1)).toInt = -1 by decide] at this; omega
        have l2 : ¬ Int32.ofNat l = Int32.ofNat 10 := fun q => by have := congrArg Int32.toInt q; rw [kx_ti (by omega), kx_ti (by omega)] at this; omega
        rw [if_pos (kx_nm2 (by omega)), if_neg l1, if_neg l2, kx_ti (show l < 2147483648 by omega), Int.toNat_natCast]
        refine kx_go 3 (pc' := (if kc_cnd .ne (Int32.ofNat l).toInt (Int32.ofNat 10).toInt then 83 else 76)) (L' := [(2, .inl (Int32.ofNat (fs_hn M L))), (0, .inr (.inr (.inl (some 259)))), (1, .inl (Int32.ofNat l))]) (S' := []) (h' := h2) (by with_unfolding_all rfl) ?_
        rw [if_pos ((kx_ne (by omega) (by omega)).mpr (by omega))]
        refine kx_go 1 (pc' := 84) (L' := [(2, .inl (Int32.ofNat (fs_hn M L))), (0, .inr (.inr (.inl (some 259)))), (1, .inl (Int32.ofNat l))]) (S' := [.inr (.inr (.inl (some 259)))]) (h' := h2) (by with_unfolding_all rfl) ?_
        refine kx_getf (c := 259) (v := .inr (.inr (.inl (some 281)))) rfl (by decide) (kx_ofr (hw2 _ _ _ fs_k259_37)) ?_
        refine kx_go 1 (pc' := 88) (L' := [(2, .inl (Int32.ofNat (fs_hn M L))), (0, .inr (.inr (.inl (some 259)))), (1, .inl (Int32.ofNat l))]) (S' := [.inl (Int32.ofNat l), .inr (.inr (.inl (some 281)))]) (h' := h2) (by with_unfolding_all rfl) ?_
        refine kx_iald (c := 281) (j := l) (m := 5) (v := .inl (Int32.ofNat (U.2.2 l))) rfl rfl (by decide) (by decide) (by omega) (e281 c2 l hll) ?_
        exact kc_ret_ok rfl (rv := some (.inl (Int32.ofNat (U.2.2 l)))) rfl ⟨rfl, hw2, hF2⟩
    · rw [decide_eq_false c2, if_neg (show ¬ (kc_cnd .ne (kp_b false).toInt 0 = true) from fun q => by have := kx_b1.mp q; cases this), if_neg c2]
      refine kx_go 2 (pc' := 89) (L' := [(2, .inl (Int32.ofNat (fs_hn M L))), (0, .inr (.inr (.inl (some 259)))), (1, .inl (a))]) (S' := [.inl (Int32.ofInt (-5))]) (h' := h2) (by with_unfolding_all rfl) ?_
      exact kc_ret_ok rfl (rv := some (.inl (Int32.ofInt (-5)))) rfl ⟨rfl, hw2, hF2⟩
set_option maxRecDepth 20000 in
theorem fs_r129 {g : kc_G} {d : Nat} {h0 : kc_H} {B : Nat → Int32} {n L M X : Nat} {a : Int32} (hw0 : kd_wt kd_ty h0) (hg : kc_ok g) (hB : fu_BT B) (hC0 : fu_B B h0) (hn : n ≤ 5) (en : B 3 = Int32.ofNat n) (hL : L ≤ 10) (eL : B 2 = Int32.ofNat L) (hM : M ≤ 3) (eM : B 1 = Int32.ofNat M) (hX : X ≤ 5) (eX : B 0 = Int32.ofNat X) (hdl : ∀ i j, i < n → j < n → fs_D B n i = fs_D B n j → i = j) (hdp : ∀ i, i < n → 1 ≤ fs_D B n i ∧ fs_D B n i ≤ X) : kc_Con g (d + 12) 129 [.inr (.inr (.inl (some 259))), .inl a] h0 (fun rv h' => rv = some (.inl (pb_best B X n L M a)) ∧ kd_wt kd_ty h' ∧ ∀ a x, ¬ (a = 259 ∧ 33 ≤ x ∧ x ≤ 39) → ¬ (272 ≤ a ∧ a ≤ 282) → h' a x = h0 a x) := by
  have z3 : (Int32.ofNat n - Int32.ofNat 1).toInt64.toInt = (n : Int) - 1 := by rw [Int32.toInt_toInt64, fs_im3, fs_ti (by omega) (by omega)]
  unfold pb_best
  refine kc_Con_new hg (M := wk_m129) rfl rfl rfl (show 2 ≤ 3 by decide) ?_
  have hC := hC0
  refine kx_go 3 (pc' := (if kc_cnd .eq (a).toInt (Int32.ofInt (-1)).toInt then 32 else 5)) (L' := [(0, .inr (.inr (.inl (some 259)))), (1, .inl (a))]) (S' := []) (h' := h0) (by with_unfolding_all rfl) ?_
  by_cases e : a = Int32.ofInt (-1)
  · rw [if_pos (fu_ieq.mpr (by rw [e])), if_pos (Or.inl e)]
    exact fs_r129t hw0 hg hB hC0 hn en hL eL hM eM hX eX hdl hdp (Or.inl e)
  · rw [if_neg (fun q => fs_m1n e (fu_ieq.mp q))]
    refine kx_go 3 (pc' := (if kc_cnd .eq (a).toInt (Int32.ofNat 10).toInt then 32 else 11)) (L' := [(0, .inr (.inr (.inl (some 259)))), (1, .inl (a))]) (S' := []) (h' := h0) (by with_unfolding_all rfl) ?_
    by_cases e1 : a = Int32.ofNat 10
    · rw [if_pos (fu_ieq.mpr (by rw [e1])), if_pos (Or.inr (Or.inl e1))]
      exact fs_r129t hw0 hg hB hC0 hn en hL eL hM eM hX eX hdl hdp (Or.inr (Or.inl e1))
    · rw [if_neg (fun q => e1 (Int32.toInt_inj.mp (fu_ieq.mp q)))]
      refine kx_go 4 (pc' := 15) (L' := [(0, .inr (.inr (.inl (some 259)))), (1, .inl (a))]) (S' := [.inr (.inr (.inl (some 259))), .inr (.inl (Int64.ofNat 0)), .inr (.inl (a.toInt64))]) (h' := h0) (by with_unfolding_all rfl) ?_
      refine kx_getf (c := 259) (v := .inr (.inr (.inl (some 260)))) rfl (by decide) (kx_ofr (hw0 _ _ _ fs_k259_0)) ?_
      refine kx_go 1 (pc' := 19) (L' := [(0, .inr (.inr (.inl (some 259)))), (1, .inl (a))]) (S' := [.inl (Int32.ofNat 3), .inr (.inr (.inl (some 260))), .inr (.inl (Int64.ofNat 0)), .inr (.inl (a.toInt64))]) (h' := h0) (by with_unfolding_all rfl) ?_
      refine kx_iald (c := 260) (j := 3) (m := 650) (v := .inl (Int32.ofNat n)) rfl rfl (by decide) (by decide) (by omega) ((hC 3 (by decide) (by decide)).trans (by rw [en])) ?_
      refine kx_go 3 (pc' := 23) (L' := [(0, .inr (.inr (.inl (some 259)))), (1, .inl (a))]) (S' := [.inr (.inl (((Int32.ofNat n) - (Int32.ofNat 1)).toInt64)), .inr (.inl (Int64.ofNat 0)), .inr (.inl (a.toInt64))]) (h' := h0) (by with_unfolding_all rfl) ?_
      refine kc_call_rule (M2 := wk_m22) (av := [.inr (.inl (a.toInt64)), .inr (.inl (Int64.ofNat 0)), .inr (.inl (((Int32.ofNat n) - (Int32.ofNat 1)).toInt64))]) (r := []) rfl rfl (kc_Con_le (fu_li (d := 0) (lo := 0) (hi := (n : Int) - 1) hg rfl z3) (by omega)) (fun rv hcc hq => ?_)
      obtain ⟨rfl, e9⟩ := hq
      rw [e9]
      clear e9
      show kc_Ev g (d + 11) wk_m129 _ 26 [(0, .inr (.inr (.inl (some 259)))), (1, .inl (a))] [.inl (kp_b (fu_in a 0 ((n : Int) - 1)))] h0
      refine kx_go 1 (pc' := (if kc_cnd .ne (kp_b (fu_in a 0 ((n : Int) - 1))).toInt 0 then 32 else 29)) (L' := [(0, .inr (.inr (.inl (some 259)))), (1, .inl (a))]) (S' := []) (h' := h0) (by with_unfolding_all rfl) ?_
      cases e2 : fu_in a 0 ((n : Int) - 1) with
      | false =>
        rw [if_neg (show ¬ (kc_cnd .ne (kp_b false).toInt 0 = true) from fun q => by have := kx_b1.mp q; cases this), if_neg (fun q => q.elim e (fun q => q.elim e1 (fun q => by cases q)))]
        refine kx_go 1 (pc' := 31) (L' := [(0, .inr (.inr (.inl (some 259)))), (1, .inl (a))]) (S' := [.inl (Int32.ofInt (-10))]) (h' := h0) (by with_unfolding_all rfl) ?_
        exact kc_ret_ok rfl (rv := some (.inl (Int32.ofInt (-10)))) rfl ⟨rfl, hw0, fun _ _ _ _ => rfl⟩
      | true =>
        rw [if_pos (kx_b1.mpr rfl), if_pos (Or.inr (Or.inr rfl))]
        obtain ⟨l, hl9, el, -, hl⟩ := fu_in_n (u := 4) e2 (Int.le_refl 0) (by omega)
        exact fs_r129t hw0 hg hB hC0 hn en hL eL hM eM hX eX hdl hdp (Or.inr (Or.inr ⟨l, by omega, el⟩))
