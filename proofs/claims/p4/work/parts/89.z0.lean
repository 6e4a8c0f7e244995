/-! ===== by hand: divisor, tells, wholeChance of the reference ===== -/
theorem kx_rem (a b : Int64) : (a - a / b * b).toInt = a.toInt.tmod b.toInt := by
  rw [Int64.toInt_sub, Int64.toInt_mul, Int64.toInt_div, Int.bmod_mul_bmod, Int.sub_bmod_bmod, Int.mul_comm, ← Int.tmod_def, ← Int64.toInt_mod]
  exact Int64.toInt_bmod (a % b)
theorem kx_rem_lt {a b : Int64} (hb : ¬ b = 0) : (a - a / b * b).toInt.natAbs < b.toInt.natAbs := by
  rw [kx_rem, Int.natAbs_tmod]
  apply Nat.mod_lt
  have : ¬ b.toInt = 0 := fun e => hb (Int64.toInt_inj.mp (e.trans (by decide)))
  omega
theorem kx_j0 {b : Int64} : (kc_cnd .eq (kc_lcmp b (Int64.ofNat 0)).toInt 0 = true) ↔ b = 0 := by
  constructor
  · intro h
    by_cases e : b = 0
    · exact e
    · exfalso
      have e0 : ¬ b.toInt = 0 := fun q => e (Int64.toInt_inj.mp (q.trans (by decide)))
      unfold kc_lcmp at h
      rw [show (Int64.ofNat 0).toInt = 0 from by decide] at h
      by_cases h1 : 0 < b.toInt
      · rw [if_pos h1] at h; exact absurd h (by decide)
      · rw [if_neg h1, if_pos (by omega)] at h; exact absurd h (by decide)
  · intro h
    subst h
    decide
set_option maxRecDepth 20000 in
theorem km_dvl {g : kc_G} {d : Nat} {Q : Option kc_V → kc_H → Prop} {h : kc_H} {a b : Int64} (hQ : ∀ x : Int64, ¬ x = 0 → Q (some (.inr (.inl x))) h) : ∀ (m : Nat) (x y : Int64), y.toInt.natAbs < m → (y = 0 → ¬ x = 0) → kc_Ev g d wk_m150 Q 6 [(6, .inr (.inl (y))), (4, .inr (.inl (x))), (0, .inr (.inl (a))), (2, .inr (.inl (b)))] [] h := by
  intro m
  induction m with
  | zero => intro x y hm; omega
  | succ m ih =>
    intro x y hm hxy
    refine kx_go 4 (pc' := (if kc_cnd .eq (kc_lcmp y (Int64.ofNat 0)).toInt 0 then 31 else 13)) (L' := [(6, .inr (.inl (y))), (4, .inr (.inl (x))), (0, .inr (.inl (a))), (2, .inr (.inl (b)))]) (S' := []) (h' := h) (by with_unfolding_all rfl) ?_
    by_cases e : y = 0
    · rw [if_pos (kx_j0.mpr e)]
      refine kx_go 1 (pc' := 33) (L' := [(6, .inr (.inl (y))), (4, .inr (.inl (x))), (0, .inr (.inl (a))), (2, .inr (.inl (b)))]) (S' := [.inr (.inl (x))]) (h' := h) (by with_unfolding_all rfl) ?_
      exact kc_ret_ok rfl (rv := some (.inr (.inl x))) rfl (hQ x (hxy e))
    · rw [if_neg (fun q => e (kx_j0.mp q))]
      refine kx_go 2 (pc' := 17) (L' := [(6, .inr (.inl (y))), (4, .inr (.inl (x))), (0, .inr (.inl (a))), (2, .inr (.inl (b)))]) (S' := [.inr (.inl (y)), .inr (.inl (x))]) (h' := h) (by with_unfolding_all rfl) ?_
      refine ks_st 18 (L' := [(6, .inr (.inl (y))), (4, .inr (.inl (x))), (0, .inr (.inl (a))), (2, .inr (.inl (b)))]) (S' := [.inr (.inl (x - x / y * y))]) rfl (if_neg e) ?_
      refine kx_go 6 (pc' := 6) (L' := [(6, .inr (.inl (x - x / y * y))), (4, .inr (.inl (y))), (8, .inr (.inl (x - x / y * y))), (0, .inr (.inl (a))), (2, .inr (.inl (b)))]) (S' := []) (h' := h) (by with_unfolding_all rfl) ?_
      have hr := kx_rem_lt (a := x) e
      refine kf_lo (L := [(6, .inr (.inl (x - x / y * y))), (4, .inr (.inl (y))), (0, .inr (.inl (a))), (2, .inr (.inl (b)))]) ?_ (ih y (x - x / y * y) (by omega) (fun _ => e))
      intro q hq
      simp only [List.mem_cons, List.not_mem_nil, or_false] at hq
      rcases hq with rfl | rfl | rfl | rfl <;> rfl
set_option maxRecDepth 20000 in
theorem km_dv {g : kc_G} {d : Nat} {h : kc_H} {a b : Int64} (hg : kc_ok g) (hb : ¬ b = 0) : kc_Con g (d + 1) 150 [.inr (.inl a), .inr (.inl b)] h (fun rv h' => ∃ x : Int64, ¬ x = 0 ∧ rv = some (.inr (.inl x)) ∧ h' = h) := by
  refine kc_Con_new hg (M := wk_m150) rfl rfl rfl (show 4 ≤ 10 by decide) ?_
  refine kx_go 4 (pc' := 6) (L' := [(6, .inr (.inl (b))), (4, .inr (.inl (a))), (0, .inr (.inl (a))), (2, .inr (.inl (b)))]) (S' := []) (h' := h) (by with_unfolding_all rfl) ?_
  exact km_dvl (fun x hx => ⟨x, hx, rfl, rfl⟩) (b.toInt.natAbs + 1) a b (Nat.lt_succ_self _) (fun e => absurd e hb)
set_option maxRecDepth 20000 in
theorem km_tells {g : kc_G} {d : Nat} {h : kc_H} {a b : Int64} (hg : kc_ok g) (hb : ¬ b = 0) : kc_Con g (d + 2) 149 [.inr (.inr (.inl (some 259))), .inr (.inl a), .inr (.inl b)] h (fun rv h' => ∃ x y : Int64, rv = some (.inl (Int32.ofNat 1)) ∧ h' = kc_upd (kc_upd h 259 4 (.inr (.inl x))) 259 5 (.inr (.inl y))) := by
  refine kc_Con_new hg (M := wk_m149) rfl rfl rfl (show 5 ≤ 7 by decide) ?_
  refine kx_go 2 (pc' := 2) (L' := [(0, .inr (.inr (.inl (some 259)))), (1, .inr (.inl (a))), (3, .inr (.inl (b)))]) (S' := [.inr (.inl (b)), .inr (.inl (a))]) (h' := h) (by with_unfolding_all rfl) ?_
  refine kc_call_rule (M2 := wk_m150) (av := [.inr (.inl a), .inr (.inl b)]) (r := []) rfl rfl (km_dv (d := d) hg hb) (fun rv h' hq => ?_)
  obtain ⟨x, hx, rfl, rfl⟩ := hq
  show kc_Ev g (d + 1) wk_m149 _ 5 [(0, .inr (.inr (.inl (some 259)))), (1, .inr (.inl (a))), (3, .inr (.inl (b)))] [.inr (.inl (x))] h'
  refine kx_go 4 (pc' := 11) (L' := [(5, .inr (.inl (x))), (0, .inr (.inr (.inl (some 259)))), (1, .inr (.inl (a))), (3, .inr (.inl (b)))]) (S' := [.inr (.inl (x)), .inr (.inl (a)), .inr (.inr (.inl (some 259)))]) (h' := h') (by with_unfolding_all rfl) ?_
  refine ks_st 12 (L' := [(5, .inr (.inl (x))), (0, .inr (.inr (.inl (some 259)))), (1, .inr (.inl (a))), (3, .inr (.inl (b)))]) (S' := [.inr (.inl (a / x)), .inr (.inr (.inl (some 259)))]) rfl (if_neg hx) ?_
  refine kx_go 1 (pc' := 15) (L' := [(5, .inr (.inl (x))), (0, .inr (.inr (.inl (some 259)))), (1, .inr (.inl (a))), (3, .inr (.inl (b)))]) (S' := []) (h' := (kc_upd h' 259 4 (.inr (.inl (a / x))))) (by with_unfolding_all rfl) ?_
  refine kx_go 3 (pc' := 19) (L' := [(5, .inr (.inl (x))), (0, .inr (.inr (.inl (some 259)))), (1, .inr (.inl (a))), (3, .inr (.inl (b)))]) (S' := [.inr (.inl (x)), .inr (.inl (b)), .inr (.inr (.inl (some 259)))]) (h' := (kc_upd h' 259 4 (.inr (.inl (a / x))))) (by with_unfolding_all rfl) ?_
  refine ks_st 20 (L' := [(5, .inr (.inl (x))), (0, .inr (.inr (.inl (some 259)))), (1, .inr (.inl (a))), (3, .inr (.inl (b)))]) (S' := [.inr (.inl (b / x)), .inr (.inr (.inl (some 259)))]) rfl (if_neg hx) ?_
  refine kx_go 2 (pc' := 24) (L' := [(5, .inr (.inl (x))), (0, .inr (.inr (.inl (some 259)))), (1, .inr (.inl (a))), (3, .inr (.inl (b)))]) (S' := [.inl (Int32.ofNat 1)]) (h' := (kc_upd (kc_upd h' 259 4 (.inr (.inl (a / x)))) 259 5 (.inr (.inl (b / x))))) (by with_unfolding_all rfl) ?_
  exact kc_ret_ok rfl (rv := some (.inl (Int32.ofNat 1))) rfl ⟨a / x, b / x, rfl, rfl⟩
theorem kx_hmul (w : Nat) : Int64.ofNat w * Int64.ofNat 100 = Int64.ofNat (w * 100) := (Int64.ofNat_mul w 100).symm
set_option maxRecDepth 20000 in
theorem km_whl {g : kc_G} {d : Nat} {Q : Option kc_V → kc_H → Prop} {h : kc_H} {n : Nat} (hn : n ≤ 10) (he : h 259 47 = .inl (Int32.ofNat n)) (hQ : Q (some (.inr (.inl (Int64.ofNat (100 ^ n))))) h) : ∀ (m k : Nat), n - k = m → k ≤ n → kc_Ev g d wk_m148 Q 4 [(3, .inl (Int32.ofNat k)), (1, .inr (.inl (Int64.ofNat (100 ^ k)))), (0, .inr (.inr (.inl (some 259))))] [] h := by
  intro m
  induction m with
  | zero =>
    intro k hm hk
    refine kx_go 2 (pc' := 6) (L' := [(3, .inl (Int32.ofNat k)), (1, .inr (.inl (Int64.ofNat (100 ^ k)))), (0, .inr (.inr (.inl (some 259))))]) (S' := [.inr (.inr (.inl (some 259))), .inl (Int32.ofNat k)]) (h' := h) (by with_unfolding_all rfl) ?_
    refine kx_getf (c := 259) rfl (by decide) he ?_
    refine kx_go 1 (pc' := (if kc_cnd .ge (Int32.ofNat k).toInt (Int32.ofNat n).toInt then 24 else 12)) (L' := [(3, .inl (Int32.ofNat k)), (1, .inr (.inl (Int64.ofNat (100 ^ k)))), (0, .inr (.inr (.inl (some 259))))]) (S' := []) (h' := h) (by with_unfolding_all rfl) ?_
    rw [if_pos ((kx_ge (by omega) (by omega)).mpr (by omega))]
    refine kx_go 1 (pc' := 25) (L' := [(3, .inl (Int32.ofNat k)), (1, .inr (.inl (Int64.ofNat (100 ^ k)))), (0, .inr (.inr (.inl (some 259))))]) (S' := [.inr (.inl (Int64.ofNat (100 ^ k)))]) (h' := h) (by with_unfolding_all rfl) ?_
    obtain rfl : k = n := by omega
    exact kc_ret_ok rfl (rv := some (.inr (.inl (Int64.ofNat (100 ^ k))))) rfl hQ
  | succ m ih =>
    intro k hm hk
    refine kx_go 2 (pc' := 6) (L' := [(3, .inl (Int32.ofNat k)), (1, .inr (.inl (Int64.ofNat (100 ^ k)))), (0, .inr (.inr (.inl (some 259))))]) (S' := [.inr (.inr (.inl (some 259))), .inl (Int32.ofNat k)]) (h' := h) (by with_unfolding_all rfl) ?_
    refine kx_getf (c := 259) rfl (by decide) he ?_
    refine kx_go 1 (pc' := (if kc_cnd .ge (Int32.ofNat k).toInt (Int32.ofNat n).toInt then 24 else 12)) (L' := [(3, .inl (Int32.ofNat k)), (1, .inr (.inl (Int64.ofNat (100 ^ k)))), (0, .inr (.inr (.inl (some 259))))]) (S' := []) (h' := h) (by with_unfolding_all rfl) ?_
    rw [if_neg (fun q => by have := (kx_ge (by omega) (by omega)).mp q; omega)]
    refine kx_go 6 (pc' := 4) (L' := [(3, .inl ((Int32.ofNat k) + Int32.ofInt 1)), (1, .inr (.inl ((Int64.ofNat (100 ^ k)) * (Int64.ofNat 100)))), (0, .inr (.inr (.inl (some 259))))]) (S' := []) (h' := h) (by with_unfolding_all rfl) ?_
    rw [kx_inc, kx_hmul, ← Nat.pow_succ]
    exact ih (k + 1) (by omega) (by omega)
theorem km_wpos : ∀ n, n ≤ 10 → 9223372036854775809 ≤ kd_nj (Int64.ofNat (100 ^ n)) := by
  intro n hn
  have : ∀ n, n < 11 → 9223372036854775809 ≤ kd_nj (Int64.ofNat (100 ^ n)) := by decide +kernel
  exact this n (by omega)
def kd_T148b : kd_Tc := ([(3, 259, 259)], [], [(some (2, 9223372036854775809, 18446744073709551615), [], [])])
theorem kd_h148b {g : kc_G} (hg : kc_ok g) : kd_hold g 1 kd_ty 148 kd_T148b := by
  intro xs h hw hv hF
  match xs, hv with
  | [], hv => exact hv.elim
  | _ :: _ :: _, hv => exact hv.2.elim
  | [x1], hv =>
    have h1 := kx_ofr hv.1
    subst h1
    obtain ⟨n, hn, en⟩ := kx_ofg (u := 10) (by omega) (hw 259 47 _ (by decide +kernel))
    refine kc_Con_new hg (M := wk_m148) rfl rfl rfl (show 1 ≤ 4 by decide) ?_
    refine kx_go 4 (pc' := 4) (L' := [(3, .inl (Int32.ofNat 0)), (1, .inr (.inl (Int64.ofNat (100 ^ 0)))), (0, .inr (.inr (.inl (some 259))))]) (S' := []) (h' := h) (by with_unfolding_all rfl) ?_
    exact km_whl hn en ⟨_, List.mem_cons_self, ⟨_, rfl, km_wpos n hn, kd_nj_J _⟩, fun q hq => (by cases hq), hw, fun c i _ => rfl⟩ n 0 (by omega) (by omega)
def kd_T149 : kd_Tc := ([(3, 259, 259), kd_tJ, (2, 9223372036854775809, 18446744073709551615)], [], [(some (0, 2147483649, 2147483649), [], [(259, 259, 4, 5)])])
theorem kd_h149 {g : kc_G} (hg : kc_ok g) : kd_hold g 2 kd_ty 149 kd_T149 := by
  intro xs h hw hv hF
  match xs, hv with
  | [], hv => exact hv.elim
  | [_], hv => exact hv.2.elim
  | [_, _], hv => exact hv.2.2.elim
  | _ :: _ :: _ :: _ :: _, hv => exact hv.2.2.2.elim
  | [x0, x1, x2], hv =>
    obtain ⟨h0, h1, h2, -⟩ := hv
    have h0 := kx_ofr h0
    subst h0
    obtain ⟨a, rfl, -, -⟩ := h1
    obtain ⟨b, rfl, hb1, -⟩ := h2
    have hb : ¬ b = 0 := fun e => by
      subst e
      revert hb1
      decide
    refine kc_Con_mono (km_tells (d := 0) hg hb) (fun rv h' hq => ?_)
    obtain ⟨x, y, rfl, rfl⟩ := hq
    refine ⟨_, List.mem_cons_self, ⟨_, rfl, by decide, by decide⟩, fun q hq => (by cases hq), kf_wtJ (by decide +kernel) (kf_wtJ (by decide +kernel) hw), fun c i hn => ?_⟩
    have hn := kd_inr_f (hn (259, 259, 4, 5) List.mem_cons_self)
    simp only at hn
    unfold kc_upd
    rw [if_neg (by omega), if_neg (by omega)]
