/-! ===== by hand, over the clean logic: the ground ===== -/
theorem kf_get_f2 {as : List Nat} {z : Nat → Nat} {ρ : Nat → Int32} : ∀ (L : kc_L) (lv : List (Nat × Value)) (i : Nat) (v : kc_V), wk_f2 (wk_rl as z ρ) (kc_el L) lv → kc_get L i = some v → ∃ val, (i, val) ∈ lv ∧ wk_r as z ρ (kc_e v) val
  | [], _, _, _, _, h => by cases h
  | (j, u) :: L, [], _, _, h, _ => h.elim
  | (j, u) :: L, (j2, val) :: lv, i, v, h, hg => by
    have h : wk_rl as z ρ (j, kc_e u) (j2, val) ∧ wk_f2 (wk_rl as z ρ) (kc_el L) lv := h
    have hg : (if Nat.beq j i then some u else kc_get L i) = some v := hg
    cases hb : Nat.beq j i with
    | true =>
      rw [hb, if_pos rfl] at hg
      cases hg
      obtain rfl := Nat.eq_of_beq_eq_true hb
      obtain ⟨e1, e2⟩ := h.1
      simp only at e1 e2
      subst e1
      exact ⟨val, List.mem_cons_self, e2⟩
    | false =>
      rw [hb, if_neg (by decide)] at hg
      obtain ⟨w, h1, h2⟩ := kf_get_f2 L lv i v h.2 hg
      exact ⟨w, List.mem_cons_of_mem _ h1, h2⟩
theorem kf_sub_f2 {as : List Nat} {z : Nat → Nat} {ρ : Nat → Int32} {L' : kc_L} {lv' : List (Nat × Value)} (hf : wk_f2 (wk_rl as z ρ) (kc_el L') lv') : ∀ L : kc_L, (∀ q ∈ L, kc_get L' q.1 = some q.2) → ∃ lv, wk_f2 (wk_rl as z ρ) (kc_el L) lv ∧ ∀ q ∈ lv, q ∈ lv'
  | [], _ => ⟨[], trivial, fun q hq => by cases hq⟩
  | (i, v) :: L, h => by
    obtain ⟨lv, h1, h2⟩ := kf_sub_f2 hf L (fun q hq => h q (List.mem_cons_of_mem _ hq))
    obtain ⟨val, h3, h4⟩ := kf_get_f2 L' lv' i v hf (h (i, v) List.mem_cons_self)
    refine ⟨(i, val) :: lv, ⟨⟨rfl, h4⟩, h1⟩, fun q hq => ?_⟩
    rcases List.mem_cons.mp hq with rfl | hq
    · exact h3
    · exact h2 q hq
/-- what holds with fewer locals known holds with more -/
theorem kf_lo {g : kc_G} {d : Nat} {M : wk_M} {Q : Option kc_V → kc_H → Prop} {pc : Nat} {L L' : kc_L} {S : List kc_V} {h : kc_H} (hs : ∀ q ∈ L, kc_get L' q.1 = some q.2) (k : kc_Ev g d M Q pc L S h) : kc_Ev g d M Q pc L' S h := by
  intro p e R s m args below meth c as hF H locs ws ls lv st hS hr hl ha hst
  obtain ⟨lv2, h1, h2⟩ := kf_sub_f2 ha L hs
  exact k p e R s m args below meth c as hF H locs ws ls lv2 st hS hr ⟨hl.1, hl.2.1, fun q hq => hl.2.2 q (h2 q hq)⟩ h1 hst
/-- a step, its next place given -/
theorem kf_st {g : kc_G} {d : Nat} {M : wk_M} {Q : Option kc_V → kc_H → Prop} {pc : Nat} {L L' : kc_L} {S S' : List kc_V} {h : kc_H} {i : Instr} {n : Nat} {x : Nat × Nat × Int} {wd : List Nat} {t : Nat} {a : Int} (pc' : Nat) (hf : wk_fetch M pc = some (pc, i, n, x, wd, t, a)) (hp : kc_pure (wk_Ml M) i x.2.2 pc L S = some (pc', L', S')) (k : kc_Ev g d M Q pc' L' S' h) : kc_Ev g d M Q pc L S h := kc_pure_ok hf hp k
/-! ===== sharedDivisor ===== -/
theorem kf_lc0 {b : Int64} (h : ¬ kc_cnd .eq (kc_lcmp b (Int64.ofNat 0)).toInt 0 = true) : ¬ b = 0 := by
  intro e
  subst e
  exact h (by decide)
theorem kf_144 {g : kc_G} {d : Nat} {Q : Option kc_V → kc_H → Prop} {h : kc_H} (hQ : ∀ v : Int64, Q (some (.inr (.inl v))) h) : ∀ (n : Nat) (a b : Int64) (k : Int32), (200 - k.toInt).toNat < n → 0 ≤ k.toInt → kc_Ev g d wk_m144 Q 3 [(0, .inr (.inl a)), (2, .inr (.inl b)), (4, .inl k)] [] h := by
  intro n
  induction n with
  | zero => intro a b k hn; omega
  | succ n ih =>
    intro a b k hn hk
    have exit : ∀ (L : kc_L), kc_get L 0 = some (.inr (.inl a)) → kc_Ev g d wk_m144 Q 33 L [] h := fun L hL => by
      refine kf_lo (L := [(0, .inr (.inl a))]) (fun q hq => ?_) ?_
      · rcases List.mem_cons.mp hq with rfl | hq
        · exact hL
        · cases hq
      · refine kf_st 34 rfl rfl ?_
        exact kc_ret_ok rfl (rv := some (.inr (.inl a))) rfl (hQ a)
    refine kf_st 5 rfl rfl ?_
    refine kf_st 8 rfl rfl ?_
    refine kf_st (if kc_cnd .ge k.toInt ((Int16.ofInt 200).toInt32).toInt then 33 else 11) rfl rfl ?_
    show kc_Ev g d wk_m144 Q (if kc_cnd .ge k.toInt ((Int16.ofInt 200).toInt32).toInt then 33 else 11) [(0, .inr (.inl a)), (2, .inr (.inl b)), (4, .inl k)] [] h
    split
    · exact exit _ rfl
    · rename_i hc
      have e200 : ((Int16.ofInt 200).toInt32).toInt = 200 := by decide
      have hk2 : k.toInt < 200 := by
        rw [e200] at hc
        unfold kc_cnd at hc
        simpa using hc
      refine kf_st 12 rfl rfl ?_
      refine kf_st 13 rfl rfl ?_
      refine kf_st 14 rfl rfl ?_
      refine kf_st (if kc_cnd .eq (kc_lcmp b (Int64.ofNat 0)).toInt 0 then 33 else 17) rfl rfl ?_
      show kc_Ev g d wk_m144 Q (if kc_cnd .eq (kc_lcmp b (Int64.ofNat 0)).toInt 0 then 33 else 17) [(0, .inr (.inl a)), (2, .inr (.inl b)), (4, .inl k)] [] h
      split
      · exact exit _ rfl
      · rename_i hb
        have hb := kf_lc0 hb
        refine kf_st 18 rfl rfl ?_
        refine kf_st 19 rfl rfl ?_
        refine kf_st 20 (L' := [(0, .inr (.inl a)), (2, .inr (.inl b)), (4, .inl k)]) (S' := [.inr (.inl (a - a / b * b))]) rfl (if_neg hb) ?_
        refine kf_st 22 rfl rfl ?_
        refine kf_st 23 rfl rfl ?_
        refine kf_st 24 rfl rfl ?_
        refine kf_st 26 rfl rfl ?_
        refine kf_st 27 rfl rfl ?_
        refine kf_st 30 rfl rfl ?_
        refine kf_st 3 rfl rfl ?_
        have e1 : (Int32.ofInt 1).toInt = 1 := by decide
        have ek : (k + Int32.ofInt 1).toInt = k.toInt + 1 := by
          rw [kd_add_i (by omega) (by omega), e1]
        refine kf_lo (L := [(0, .inr (.inl b)), (2, .inr (.inl (a - a / b * b))), (4, .inl (k + Int32.ofInt 1))]) (fun q hq => ?_) (ih b (a - a / b * b) (k + Int32.ofInt 1) (by omega) (by omega))
        rcases List.mem_cons.mp hq with rfl | hq
        · rfl
        · rcases List.mem_cons.mp hq with rfl | hq
          · rfl
          · rcases List.mem_cons.mp hq with rfl | hq
            · rfl
            · cases hq
theorem kf_h144 {g : kc_G} (hg : kc_ok g) : kd_hold g 1 kd_ty 144 ([kd_tJ, kd_tJ], [], [(some kd_tJ, [], [])]) := by
  intro xs h hw hv hF
  match xs, hv with
  | [], hv => exact hv.elim
  | [_], hv => exact hv.2.elim
  | _ :: _ :: _ :: _, hv => exact hv.2.2.elim
  | [x1, x2], hv =>
    obtain ⟨h1, h2, -⟩ := hv
    obtain ⟨a, rfl, -, -⟩ := h1
    obtain ⟨b, rfl, -, -⟩ := h2
    refine kc_Con_new hg (M := wk_m144) rfl rfl rfl (show 4 ≤ 7 by decide) ?_
    refine kf_st 1 rfl rfl ?_
    refine kf_st 3 rfl rfl ?_
    refine kf_lo (L := [(0, .inr (.inl a)), (2, .inr (.inl b)), (4, .inl (Int32.ofInt 0))]) (fun q hq => ?_) (kf_144 (fun v => ⟨(some kd_tJ, [], []), List.mem_cons_self, ⟨v, rfl, Nat.zero_le _, kd_nj_J v⟩, fun q hq => (by cases hq), hw, fun c i _ => rfl⟩) 201 a b _ (by decide) (by decide))
    rcases List.mem_cons.mp hq with rfl | hq
    · rfl
    · rcases List.mem_cons.mp hq with rfl | hq
      · rfl
      · rcases List.mem_cons.mp hq with rfl | hq
        · rfl
        · cases hq
