/-! ===== by hand: the loop of the reference's alone ===== -/
set_option maxRecDepth 20000 in
theorem kw_end {g : kc_G} {d : Nat} {Q : Option kc_V → kc_H → Prop} {h : kc_H} {n : Nat} {f : Nat → Nat} {x7 c6 c5 mu ti wh : Int32} (hQ : ∀ r : Int32, Q (some (.inl r)) (kw_H h n f)) : kc_Ev g d wk_m154 Q 183 [(7, .inl (x7)), (6, .inl (c6)), (5, .inl (c5)), (4, .inl (Int32.ofNat n)), (0, .inr (.inr (.inl (some 259)))), (1, .inl (mu)), (2, .inl (ti)), (3, .inl (wh))] [] (kw_H h n f) := by
  refine kx_go 3 (pc' := (if kc_cnd .ne (wh).toInt (Int32.ofInt (-1)).toInt then 193 else 188)) (L' := [(7, .inl (x7)), (6, .inl (c6)), (5, .inl (c5)), (4, .inl (Int32.ofNat n)), (0, .inr (.inr (.inl (some 259)))), (1, .inl (mu)), (2, .inl (ti)), (3, .inl (wh))]) (S' := []) (h' := (kw_H h n f)) (by with_unfolding_all rfl) ?_
  by_cases e1 : kc_cnd .ne wh.toInt (Int32.ofInt (-1)).toInt = true
  · rw [if_pos e1]
    refine kx_go 3 (pc' := (if kc_cnd .ne (c6).toInt (Int32.ofInt (-1)).toInt then 204 else 199)) (L' := [(7, .inl (x7)), (6, .inl (c6)), (5, .inl (c5)), (4, .inl (Int32.ofNat n)), (0, .inr (.inr (.inl (some 259)))), (1, .inl (mu)), (2, .inl (ti)), (3, .inl (wh))]) (S' := []) (h' := (kw_H h n f)) (by with_unfolding_all rfl) ?_
    by_cases e2 : kc_cnd .ne c6.toInt (Int32.ofInt (-1)).toInt = true
    · rw [if_pos e2]
      refine kx_go 1 (pc' := 206) (L' := [(7, .inl (x7)), (6, .inl (c6)), (5, .inl (c5)), (4, .inl (Int32.ofNat n)), (0, .inr (.inr (.inl (some 259)))), (1, .inl (mu)), (2, .inl (ti)), (3, .inl (wh))]) (S' := [.inl (c6)]) (h' := (kw_H h n f)) (by with_unfolding_all rfl) ?_
      exact kc_ret_ok rfl (rv := some (.inl c6)) rfl (hQ c6)
    · rw [if_neg e2]
      refine kx_go 2 (pc' := 206) (L' := [(7, .inl (x7)), (6, .inl (c6)), (5, .inl (c5)), (4, .inl (Int32.ofNat n)), (0, .inr (.inr (.inl (some 259)))), (1, .inl (mu)), (2, .inl (ti)), (3, .inl (wh))]) (S' := [.inl (Int32.ofInt (-5))]) (h' := (kw_H h n f)) (by with_unfolding_all rfl) ?_
      exact kc_ret_ok rfl (rv := some (.inl (Int32.ofInt (-5)))) rfl (hQ _)
  · rw [if_neg e1]
    refine kx_go 2 (pc' := 206) (L' := [(7, .inl (x7)), (6, .inl (c6)), (5, .inl (c5)), (4, .inl (Int32.ofNat n)), (0, .inr (.inr (.inl (some 259)))), (1, .inl (mu)), (2, .inl (ti)), (3, .inl (wh))]) (S' := [.inl (c5)]) (h' := (kw_H h n f)) (by with_unfolding_all rfl) ?_
    exact kc_ret_ok rfl (rv := some (.inl c5)) rfl (hQ c5)
set_option maxRecDepth 20000 in
theorem kw_nx {g : kc_G} {d : Nat} {Q : Option kc_V → kc_H → Prop} {h : kc_H} {n : Nat} {f : Nat → Nat} {x7 c6 c5 mu ti wh : Int32} (hg : kc_ok g) (hd : 3 ≤ d) (hn : n < 7) (hf : ∀ j, j < 10 → f j ≤ 10) (hfn : ∀ j, j < n → f j < n)
    (hK1 : ∀ (f2 : Nat → Nat) (c6 c5 : Int32), (∀ j, j < 10 → f2 j ≤ 10) → (∀ j, j < n → f2 j < n) → kw_v f n < kw_v f2 n → kc_Ev g d wk_m154 Q 122 [(7, .inl (Int32.ofNat 1)), (6, .inl (c6)), (5, .inl (c5)), (4, .inl (Int32.ofNat n)), (0, .inr (.inr (.inl (some 259)))), (1, .inl (mu)), (2, .inl (ti)), (3, .inl (wh))] [] (kw_H h n f2)) (hK0 : ∀ (f2 : Nat → Nat) (c6 c5 : Int32), (∀ j, j < 10 → f2 j ≤ 10) → kc_Ev g d wk_m154 Q 122 [(7, .inl (Int32.ofNat 0)), (6, .inl (c6)), (5, .inl (c5)), (4, .inl (Int32.ofNat n)), (0, .inr (.inr (.inl (some 259)))), (1, .inl (mu)), (2, .inl (ti)), (3, .inl (wh))] [] (kw_H h n f2)) : kc_Ev g d wk_m154 Q 174 [(7, .inl (x7)), (6, .inl (c6)), (5, .inl (c5)), (4, .inl (Int32.ofNat n)), (0, .inr (.inr (.inl (some 259)))), (1, .inl (mu)), (2, .inl (ti)), (3, .inl (wh))] [] (kw_H h n f) := by
  refine kx_go 1 (pc' := 175) (L' := [(7, .inl (x7)), (6, .inl (c6)), (5, .inl (c5)), (4, .inl (Int32.ofNat n)), (0, .inr (.inr (.inl (some 259)))), (1, .inl (mu)), (2, .inl (ti)), (3, .inl (wh))]) (S' := [.inr (.inr (.inl (some 259)))]) (h' := (kw_H h n f)) (by with_unfolding_all rfl) ?_
  refine kc_call_rule (M2 := wk_m133) (av := [.inr (.inr (.inl (some 259)))]) (r := []) rfl rfl (kc_Con_le (kw_next (d := 0) hg (by omega) hf hfn) (by omega)) (fun rv h' hq => ?_)
  rcases hq with ⟨k, f2, rfl, b0, b1, b2, b3, b4, b5, rfl⟩ | ⟨f2, rfl, b5, rfl⟩
  · show kc_Ev g d wk_m154 Q 178 [(7, .inl (x7)), (6, .inl (c6)), (5, .inl (c5)), (4, .inl (Int32.ofNat n)), (0, .inr (.inr (.inl (some 259)))), (1, .inl (mu)), (2, .inl (ti)), (3, .inl (wh))] [.inl (Int32.ofNat 1)] (kw_H h n f2)
    refine kx_go 2 (pc' := 122) (L' := [(7, .inl (Int32.ofNat 1)), (6, .inl (c6)), (5, .inl (c5)), (4, .inl (Int32.ofNat n)), (0, .inr (.inr (.inl (some 259)))), (1, .inl (mu)), (2, .inl (ti)), (3, .inl (wh))]) (S' := []) (h' := (kw_H h n f2)) (by with_unfolding_all rfl) ?_
    refine kf_lo (L := [(7, .inl (Int32.ofNat 1)), (6, .inl (c6)), (5, .inl (c5)), (4, .inl (Int32.ofNat n)), (0, .inr (.inr (.inl (some 259)))), (1, .inl (mu)), (2, .inl (ti)), (3, .inl (wh))]) ?_ (hK1 f2 c6 c5 b5 (fun j hj => ?_) (kw_v_lt (n := n) (fun j hj => hf j (by omega)) b1 b2 n (by omega) (Nat.le_refl _)))
    · intro q hq
      simp only [List.mem_cons, List.not_mem_nil, or_false] at hq
      rcases hq with rfl | rfl | rfl | rfl | rfl | rfl | rfl | rfl <;> rfl
    · by_cases q : j < k
      · rw [b1 j q]; exact hfn j hj
      · by_cases q2 : j = k
        · rw [q2]; exact b3
        · have := b4 j (by omega) hj; omega
  · show kc_Ev g d wk_m154 Q 178 [(7, .inl (x7)), (6, .inl (c6)), (5, .inl (c5)), (4, .inl (Int32.ofNat n)), (0, .inr (.inr (.inl (some 259)))), (1, .inl (mu)), (2, .inl (ti)), (3, .inl (wh))] [.inl (Int32.ofNat 0)] (kw_H h n f2)
    refine kx_go 2 (pc' := 122) (L' := [(7, .inl (Int32.ofNat 0)), (6, .inl (c6)), (5, .inl (c5)), (4, .inl (Int32.ofNat n)), (0, .inr (.inr (.inl (some 259)))), (1, .inl (mu)), (2, .inl (ti)), (3, .inl (wh))]) (S' := []) (h' := (kw_H h n f2)) (by with_unfolding_all rfl) ?_
    refine kf_lo (L := [(7, .inl (Int32.ofNat 0)), (6, .inl (c6)), (5, .inl (c5)), (4, .inl (Int32.ofNat n)), (0, .inr (.inr (.inl (some 259)))), (1, .inl (mu)), (2, .inl (ti)), (3, .inl (wh))]) ?_ (hK0 f2 c6 c5 b5)
    intro q hq
    simp only [List.mem_cons, List.not_mem_nil, or_false] at hq
    rcases hq with rfl | rfl | rfl | rfl | rfl | rfl | rfl | rfl <;> rfl
set_option maxRecDepth 20000 in
theorem kw_no {g : kc_G} {d : Nat} {Q : Option kc_V → kc_H → Prop} {h : kc_H} {n : Nat} {f : Nat → Nat} {c6 c5 mu ti wh : Int32} (hQ : ∀ r : Int32, Q (some (.inl r)) (kw_H h n f)) : kc_Ev g d wk_m154 Q 122 [(7, .inl (Int32.ofNat 0)), (6, .inl (c6)), (5, .inl (c5)), (4, .inl (Int32.ofNat n)), (0, .inr (.inr (.inl (some 259)))), (1, .inl (mu)), (2, .inl (ti)), (3, .inl (wh))] [] (kw_H h n f) := by
  refine kx_go 2 (pc' := 183) (L' := [(7, .inl (Int32.ofNat 0)), (6, .inl (c6)), (5, .inl (c5)), (4, .inl (Int32.ofNat n)), (0, .inr (.inr (.inl (some 259)))), (1, .inl (mu)), (2, .inl (ti)), (3, .inl (wh))]) (S' := []) (h' := (kw_H h n f)) (by with_unfolding_all rfl) ?_
  exact kw_end hQ
set_option maxRecDepth 20000 in
theorem kw_loop {g : kc_G} {d : Nat} {Q : Option kc_V → kc_H → Prop} {h : kc_H} {n : Nat} {mu ti wh : Int32} (hg : kc_ok g) (hd : 4 ≤ d) (hn : n < 7) (hord : kw_ord g n) (hw : kd_wt kd_ty h) (hmu : kd_g 0 (fun _ => 0) (0, 2147483648, 2147483650) (.inl mu)) (hti : kd_g 0 (fun _ => 0) (0, 2147483648, 2147484647) (.inl ti)) (hQ : ∀ (r : Int32) (f2 : Nat → Nat), (∀ j, j < 10 → f2 j ≤ 10) → Q (some (.inl r)) (kw_H h n f2)) : ∀ (u : Nat) (f : Nat → Nat) (c6 c5 : Int32), 11 ^ n - kw_v f n < u → (∀ j, j < 10 → f j ≤ 10) → (∀ j, j < n → f j < n) → kc_Ev g d wk_m154 Q 122 [(7, .inl (Int32.ofNat 1)), (6, .inl (c6)), (5, .inl (c5)), (4, .inl (Int32.ofNat n)), (0, .inr (.inr (.inl (some 259)))), (1, .inl (mu)), (2, .inl (ti)), (3, .inl (wh))] [] (kw_H h n f) := by
  intro u
  induction u with
  | zero => intro f c6 c5 hu; omega
  | succ u ih =>
    intro f c6 c5 hu hf hfn
    have hw2 := kw_wt (n := n) hw (by omega) hf
    have hnx : ∀ (x7 c6 c5 : Int32), kc_Ev g d wk_m154 Q 174 [(7, .inl (x7)), (6, .inl (c6)), (5, .inl (c5)), (4, .inl (Int32.ofNat n)), (0, .inr (.inr (.inl (some 259)))), (1, .inl (mu)), (2, .inl (ti)), (3, .inl (wh))] [] (kw_H h n f) := fun x7 c6 c5 => kw_nx hg (by omega) hn hf hfn (fun f2 c6 c5 a1 a2 a3 => ih f2 c6 c5 (by have := kw_v_le (f := f2) n (fun j hj => a1 j (by omega)); omega) a1 a2) (fun f2 c6 c5 a1 => kw_no (fun r => hQ r f2 a1))
    refine kx_go 6 (pc' := 132) (L' := [(7, .inl (Int32.ofNat 1)), (6, .inl (c6)), (5, .inl (c5)), (4, .inl (Int32.ofNat n)), (0, .inr (.inr (.inl (some 259)))), (1, .inl (mu)), (2, .inl (ti)), (3, .inl (wh))]) (S' := [.inl (ti), .inl (mu), .inl (Int32.ofNat n), .inr (.inr (.inl (some 259)))]) (h' := (kw_H h n f)) (by with_unfolding_all rfl) ?_
    refine kc_call_rule (M2 := wk_m275) (av := [.inr (.inr (.inl (some 259))), .inl (Int32.ofNat n), .inl mu, .inl ti]) (r := []) rfl rfl (kc_Con_le (hord mu ti (kw_H h n f) hw2 hmu hti (fun j hj => by rw [kw_r (by omega)]; exact kx_gof (u := 9) (by omega) (by have := hfn j hj; omega))) (by omega)) (fun rv h' hq => ?_)
    obtain ⟨b, rfl, rfl⟩ := hq
    show kc_Ev g d wk_m154 Q 135 [(7, .inl (Int32.ofNat 1)), (6, .inl (c6)), (5, .inl (c5)), (4, .inl (Int32.ofNat n)), (0, .inr (.inr (.inl (some 259)))), (1, .inl (mu)), (2, .inl (ti)), (3, .inl (wh))] [.inl (kp_b b)] (kw_H h n f)
    refine kx_go 1 (pc' := (if kc_cnd .eq (kp_b b).toInt 0 then 174 else 138)) (L' := [(7, .inl (Int32.ofNat 1)), (6, .inl (c6)), (5, .inl (c5)), (4, .inl (Int32.ofNat n)), (0, .inr (.inr (.inl (some 259)))), (1, .inl (mu)), (2, .inl (ti)), (3, .inl (wh))]) (S' := []) (h' := (kw_H h n f)) (by with_unfolding_all rfl) ?_
    cases b with
    | false => rw [if_pos (kx_b0.mpr rfl)]; exact hnx _ _ _
    | true =>
      rw [if_neg (fun q => by have := kx_b0.mp q; cases this)]
      have h169 : ∀ z : Int32, kc_Ev g d wk_m154 Q 169 [(7, .inl (Int32.ofNat 1)), (6, .inl (c6)), (5, .inl (c5)), (4, .inl (Int32.ofNat n)), (0, .inr (.inr (.inl (some 259)))), (1, .inl (mu)), (2, .inl (ti)), (3, .inl (wh))] [.inl z] (kw_H h n f) := by
        intro z
        refine kx_go 2 (pc' := 174) (L' := [(5, .inl (c5 + Int32.ofInt 1)), (6, .inl (z)), (7, .inl (Int32.ofNat 1)), (4, .inl (Int32.ofNat n)), (0, .inr (.inr (.inl (some 259)))), (1, .inl (mu)), (2, .inl (ti)), (3, .inl (wh))]) (S' := []) (h' := (kw_H h n f)) (by with_unfolding_all rfl) ?_
        refine kf_lo (L := [(7, .inl (Int32.ofNat 1)), (6, .inl (z)), (5, .inl (c5 + Int32.ofInt 1)), (4, .inl (Int32.ofNat n)), (0, .inr (.inr (.inl (some 259)))), (1, .inl (mu)), (2, .inl (ti)), (3, .inl (wh))]) ?_ (hnx (Int32.ofNat 1) z (c5 + Int32.ofInt 1))
        intro q hq
        simp only [List.mem_cons, List.not_mem_nil, or_false] at hq
        rcases hq with rfl | rfl | rfl | rfl | rfl | rfl | rfl | rfl <;> rfl
      have h167 : kc_Ev g d wk_m154 Q 167 [(7, .inl (Int32.ofNat 1)), (6, .inl (c6)), (5, .inl (c5)), (4, .inl (Int32.ofNat n)), (0, .inr (.inr (.inl (some 259)))), (1, .inl (mu)), (2, .inl (ti)), (3, .inl (wh))] [] (kw_H h n f) := by
        refine kx_go 1 (pc' := 169) (L' := [(7, .inl (Int32.ofNat 1)), (6, .inl (c6)), (5, .inl (c5)), (4, .inl (Int32.ofNat n)), (0, .inr (.inr (.inl (some 259)))), (1, .inl (mu)), (2, .inl (ti)), (3, .inl (wh))]) (S' := [.inl (c6)]) (h' := (kw_H h n f)) (by with_unfolding_all rfl) ?_
        exact h169 c6
      refine kx_go 2 (pc' := (if kc_cnd .ne (c5).toInt 0 then 167 else 143)) (L' := [(7, .inl (Int32.ofNat 1)), (6, .inl (c6)), (5, .inl (c5)), (4, .inl (Int32.ofNat n)), (0, .inr (.inr (.inl (some 259)))), (1, .inl (mu)), (2, .inl (ti)), (3, .inl (wh))]) (S' := []) (h' := (kw_H h n f)) (by with_unfolding_all rfl) ?_
      by_cases e1 : kc_cnd .ne c5.toInt 0 = true
      · rw [if_pos e1]; exact h167
      · rw [if_neg e1]
        refine kx_go 2 (pc' := (if kc_cnd .lt (wh).toInt 0 then 167 else 147)) (L' := [(7, .inl (Int32.ofNat 1)), (6, .inl (c6)), (5, .inl (c5)), (4, .inl (Int32.ofNat n)), (0, .inr (.inr (.inl (some 259)))), (1, .inl (mu)), (2, .inl (ti)), (3, .inl (wh))]) (S' := []) (h' := (kw_H h n f)) (by with_unfolding_all rfl) ?_
        by_cases e2 : kc_cnd .lt wh.toInt 0 = true
        · rw [if_pos e2]; exact h167
        · rw [if_neg e2]
          refine kx_go 3 (pc' := (if kc_cnd .ge (wh).toInt (Int32.ofNat n).toInt then 167 else 153)) (L' := [(7, .inl (Int32.ofNat 1)), (6, .inl (c6)), (5, .inl (c5)), (4, .inl (Int32.ofNat n)), (0, .inr (.inr (.inl (some 259)))), (1, .inl (mu)), (2, .inl (ti)), (3, .inl (wh))]) (S' := []) (h' := (kw_H h n f)) (by with_unfolding_all rfl) ?_
          by_cases e3 : kc_cnd .ge wh.toInt (Int32.ofNat n).toInt = true
          · rw [if_pos e3]; exact h167
          · rw [if_neg e3]
            obtain ⟨w, hwn, hwh⟩ : ∃ w, w < n ∧ wh = Int32.ofNat w := by
              unfold kc_cnd at e2 e3
              rw [kx_ti (by omega)] at e3
              simp only [decide_eq_true_eq, Bool.not_eq_true', decide_eq_false_iff_not] at e2 e3
              refine ⟨wh.toInt.toNat, by omega, Int32.toInt_inj.mp ?_⟩
              rw [kx_ti (by omega)]
              omega
            subst hwh
            refine kx_go 1 (pc' := 154) (L' := [(7, .inl (Int32.ofNat 1)), (6, .inl (c6)), (5, .inl (c5)), (4, .inl (Int32.ofNat n)), (0, .inr (.inr (.inl (some 259)))), (1, .inl (mu)), (2, .inl (ti)), (3, .inl (Int32.ofNat w))]) (S' := [.inr (.inr (.inl (some 259)))]) (h' := (kw_H h n f)) (by with_unfolding_all rfl) ?_
            refine kx_getf (c := 259) (v := .inr (.inr (.inl (some 288)))) rfl (by decide) ((show (kw_H h n f) 259 48 = h 259 48 from rfl).trans (kx_ofr (hw _ _ _ kw_k.2.2))) ?_
            refine kx_go 3 (pc' := 162) (L' := [(7, .inl (Int32.ofNat 1)), (6, .inl (c6)), (5, .inl (c5)), (4, .inl (Int32.ofNat n)), (0, .inr (.inr (.inl (some 259)))), (1, .inl (mu)), (2, .inl (ti)), (3, .inl (Int32.ofNat w))]) (S' := [.inl (Int32.ofNat w), .inr (.inr (.inl (some 279))), .inr (.inr (.inl (some 288)))]) (h' := (kw_H h n f)) (by with_unfolding_all rfl) ?_
            have hfw := hfn w hwn
            refine kx_iald rfl (c := 279) (j := w) (m := 10) rfl (by decide) (by decide) (by omega) (kw_r (by omega)) ?_
            obtain ⟨z, -, ez⟩ := kx_ofg (u := 9) (by omega) (hw _ _ _ (kw_k279 (f w) (by omega)).2)
            refine kx_iald rfl (c := 288) (j := f w) (m := 10) (v := .inl (Int32.ofNat z)) rfl (by decide) (by decide) (by omega) ((show (kw_H h n f) 288 (f w) = h 288 (f w) from rfl).trans ez) ?_
            refine kx_go 1 (pc' := 169) (L' := [(7, .inl (Int32.ofNat 1)), (6, .inl (c6)), (5, .inl (c5)), (4, .inl (Int32.ofNat n)), (0, .inr (.inr (.inl (some 259)))), (1, .inl (mu)), (2, .inl (ti)), (3, .inl (Int32.ofNat w))]) (S' := [.inl (Int32.ofNat z)]) (h' := (kw_H h n f)) (by with_unfolding_all rfl) ?_
            exact h169 (Int32.ofNat z)
