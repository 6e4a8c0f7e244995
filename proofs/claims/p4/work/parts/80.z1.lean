/-! ===== by hand: setFraction ===== -/
theorem kf_lc1 {b : Int64} (h : kc_cnd .ge (kc_lcmp b (Int64.ofNat 1)).toInt 0 = true) : ¬ b = 0 := by
  intro e
  subst e
  revert h
  decide
/-- a long written where any may stand -/
theorem kf_wtJ {h : kc_H} {ty : kd_T} {c i : Nat} {w : Int64} (ht : kd_rn (ty c) i = some kd_tJ) (hw : kd_wt ty h) : kd_wt ty (kc_upd h c i (.inr (.inl w))) := by
  intro c' i' v hv
  unfold kc_upd
  split
  · rename_i e
    obtain ⟨rfl, rfl⟩ := e
    rw [ht] at hv
    cases hv
    exact ⟨w, rfl, Nat.zero_le _, kd_nj_J w⟩
  · exact hw c' i' v hv
theorem kf_h143 {g : kc_G} (hg : kc_ok g) : kd_hold g 2 kd_ty 143 ([(3, 0, 0), kd_tJ, kd_tJ], [], [(none, [], [(0, 0, 11, 12)])]) := by
  intro xs h hw hv hF
  match xs, hv with
  | [], hv => exact hv.elim
  | [_], hv => exact hv.2.elim
  | [_, _], hv => exact hv.2.2.elim
  | _ :: _ :: _ :: _ :: _, hv => exact hv.2.2.2.elim
  | [x0, x1, x2], hv =>
    obtain ⟨h0, h1, h2, -⟩ := hv
    obtain ⟨c, rfl, c1, c2⟩ := h0
    obtain rfl : c = 0 := by omega
    obtain ⟨a, rfl, -, -⟩ := h1
    obtain ⟨b, rfl, -, -⟩ := h2
    refine kc_Con_new hg (M := wk_m143) rfl rfl rfl (show 5 ≤ 7 by decide) ?_
    refine kf_st 1 rfl rfl ?_
    refine kf_st 2 rfl rfl ?_
    refine kc_call_rule (M2 := wk_m144) (av := [.inr (.inl a), .inr (.inl b)]) (r := []) rfl rfl (kf_h144 hg [.inr (.inl a), .inr (.inl b)] h hw ⟨⟨a, rfl, Nat.zero_le _, kd_nj_J a⟩, ⟨b, rfl, Nat.zero_le _, kd_nj_J b⟩, trivial⟩ (fun q hq => by cases hq)) (fun rv h' hq => ?_)
    obtain ⟨p, p1, p2, -, p4, p5⟩ := hq
    obtain rfl := List.mem_singleton.mp p1
    cases rv with
    | none => exact p2.elim
    | some y =>
      obtain ⟨v, rfl, -, -⟩ := p2
      show kc_Ev g 1 wk_m143 _ 5 _ [.inr (.inl v)] h'
      refine kf_st 7 rfl rfl ?_
      refine kf_st 9 rfl rfl ?_
      refine kf_st 10 rfl rfl ?_
      refine kf_st 11 rfl rfl ?_
      refine kf_st (if kc_cnd .ge (kc_lcmp v (Int64.ofNat 1)).toInt 0 then 15 else 14) rfl rfl ?_
      split
      · rename_i hc
        have hv := kf_lc1 hc
        refine kf_st 16 rfl rfl ?_
        refine kf_st 17 rfl rfl ?_
        refine kf_st 19 rfl rfl ?_
        refine kf_st 20 (S' := [.inr (.inl (a / v)), .inr (.inr (.inl (some 0)))]) rfl (if_neg hv) ?_
        refine kc_heap_ok (dd := 3) (AS' := []) (h' := kc_upd h' 0 11 (.inr (.inl (a / v)))) rfl rfl ?_
        show kc_Ev g 1 wk_m143 _ 23 _ [] _
        refine kf_st 24 rfl rfl ?_
        refine kf_st 25 rfl rfl ?_
        refine kf_st 27 rfl rfl ?_
        refine kf_st 28 (S' := [.inr (.inl (b / v)), .inr (.inr (.inl (some 0)))]) rfl (if_neg hv) ?_
        refine kc_heap_ok (dd := 3) (AS' := []) (h' := kc_upd (kc_upd h' 0 11 (.inr (.inl (a / v)))) 0 12 (.inr (.inl (b / v)))) rfl rfl ?_
        show kc_Ev g 1 wk_m143 _ 31 _ [] _
        refine kc_ret_ok rfl (rv := none) rfl ⟨_, List.mem_cons_self, trivial, fun q hq => (by cases hq), kf_wtJ rfl (kf_wtJ rfl p4), fun c i hn => ?_⟩
        have e := p5 c i (fun q hq => by cases hq)
        have hn := hn (0, 0, 11, 12) List.mem_cons_self
        rw [← e]
        unfold kc_upd
        split
        · rename_i q
          obtain ⟨rfl, rfl⟩ := q
          cases hn
        · split
          · rename_i q
            obtain ⟨rfl, rfl⟩ := q
            cases hn
          · rfl
      · exact kc_ret_ok rfl (rv := none) rfl ⟨_, List.mem_cons_self, trivial, fun q hq => (by cases hq), p4, fun c i hn => p5 c i (fun q hq => by cases hq)⟩
