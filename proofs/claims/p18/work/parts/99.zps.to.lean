section
-- 99.zps
/-! ===== the acts: over and swap, stone, drop ===== -/
def fa_move (B : Nat → Int32) (A : Nat → Nat) (M m s k t : Nat) : Nat × (Nat → Nat) := if m < M ∧ s < 2 then (if k < M ∧ t < 2 then (if m = k ∧ s = t then (1, A) else if A (20 + (2 * m + s)) = 0 then (2, A) else if fa_cm B A (fa_top A (2 * m + s)) (2 * k + t) k t (!decide (m = k)) = 0 then (0, fa_push (fa_s A (20 + (2 * m + s)) (A (20 + (2 * m + s)) - 1)) (2 * k + t) (fa_top A (2 * m + s))) else (fa_cm B A (fa_top A (2 * m + s)) (2 * k + t) k t (!decide (m = k)), A)) else (1, A)) else (1, A)
def fa_add (B : Nat → Int32) (A : Nat → Nat) (M m s : Nat) : Nat × (Nat → Nat) := if m < M ∧ s < 2 then (if A (60 + A 4) = 0 then (2, A) else if fa_ok B A m s (fa_n B 4) true = true then (0, fa_s (fa_s A (60 + A 4) (A (60 + A 4) - 1)) (30 + (2 * m + s)) (A (30 + (2 * m + s)) + 1)) else (5, A)) else (1, A)
def fa_drop (A : Nat → Nat) (M m s : Nat) : Nat × (Nat → Nat) := if m < M ∧ s < 2 then (if A (30 + (2 * m + s)) = 0 then (2, A) else (0, fa_s (fa_s A (30 + (2 * m + s)) (A (30 + (2 * m + s)) - 1)) (60 + A 4) (A (60 + A 4) + 1))) else (1, A)
theorem fa_dk {m k : Nat} : (!decide (k = m)) = (!decide (m = k)) := by
  by_cases c : m = k
  · rw [decide_eq_true c, decide_eq_true c.symm]
  · rw [decide_eq_false c, decide_eq_false (fun q => c q.symm)]
set_option maxRecDepth 20000 in
theorem fa_c192 {g : kc_G} {d : Nat} {h0 h : kc_H} {B : Nat → Int32} {A : Nat → Nat} {D M L i : Nat} {m s k t : Nat} (hg : kc_ok g) (hBB : fa_BB B D M L) (hC0 : fu_C B 1 h0) (hi : i ≤ 60) (hI : fa_I B A L i) (hMx : fa_M B A M) (hH : fa_Hc h0 A L h) (hW : fa_W B A L h) (hm : m < 1000) (hs : s < 1000) (hk : k < 1000) (ht : t < 1000) : kc_Con g (d + 9) 192 [.inr (.inr (.inl (some 190))), .inl (Int32.ofNat m), .inl (Int32.ofNat s), .inl (Int32.ofNat k), .inl (Int32.ofNat t)] h (fun rv h' => rv = some (.inl (Int32.ofNat (fa_move B A M m s k t).1)) ∧ fa_Hc h0 ((fa_move B A M m s k t).2) L h' ∧ fa_W B ((fa_move B A M m s k t).2) L h') := by
  have hBB1 := hBB
  obtain ⟨hB, ⟨eD, hD⟩, ⟨eM, hM⟩, eL, hL⟩ := hBB1
  have h3 := hI.2.2.2.2.2.2.1
  have hH1 := hH
  obtain ⟨hw, hA, hF⟩ := hH
  have hC := fa_hc hF hC0
  have a4 := hI.2.2.2.1
  have z1 : (B 1).toInt - 1 = (M : Int) - 1 := by rw [eM, kx_ti (by omega)]
  have z2 : (B 2).toInt - 1 = (L : Int) - 1 := by rw [eL, kx_ti (by omega)]
  unfold fa_move
  refine kc_Con_new hg (M := wk_m192) rfl rfl rfl (show 5 ≤ 9 by decide) ?_
  refine kx_go 1 (pc' := 1) (L' := [(0, .inr (.inr (.inl (some 190)))), (1, .inl (Int32.ofNat m)), (2, .inl (Int32.ofNat s)), (3, .inl (Int32.ofNat k)), (4, .inl (Int32.ofNat t))]) (S' := [.inr (.inr (.inl (some 190)))]) (h' := h) (by with_unfolding_all rfl) ?_
  refine kx_getf (c := 190) (v := .inr (.inr (.inl (some 1)))) rfl (by decide) (kx_ofr (hw _ _ _ fa_k.1)) ?_
  refine kx_go 2 (pc' := 6) (L' := [(0, .inr (.inr (.inl (some 190)))), (1, .inl (Int32.ofNat m)), (2, .inl (Int32.ofNat s)), (3, .inl (Int32.ofNat k)), (4, .inl (Int32.ofNat t))]) (S' := [.inl (Int32.ofNat s), .inl (Int32.ofNat m), .inr (.inr (.inl (some 1)))]) (h' := h) (by with_unfolding_all rfl) ?_
  refine kc_call_rule (M2 := wk_m37) (av := [.inr (.inr (.inl (some 1))), .inl (Int32.ofNat m), .inl (Int32.ofNat s)]) (r := []) rfl rfl (kc_Con_le (fu_c37 (d := 0) hg hC hB) (by omega)) (fun rv h2 hq => ?_)
  obtain ⟨rfl, e9⟩ := hq
  rw [e9]
  clear e9
  rw [fa_inb hm z1, fa_inb (u := 2) (z := 1) hs rfl, fa_dn]
  show kc_Ev g (d + 8) wk_m192 _ 9 [(0, .inr (.inr (.inl (some 190)))), (1, .inl (Int32.ofNat m)), (2, .inl (Int32.ofNat s)), (3, .inl (Int32.ofNat k)), (4, .inl (Int32.ofNat t))] [.inl (kp_b (decide (m < M ∧ s < 2)))] h
  refine kx_go 1 (pc' := (if kc_cnd .eq (kp_b (decide (m < M ∧ s < 2))).toInt 0 then 36 else 12)) (L' := [(0, .inr (.inr (.inl (some 190)))), (1, .inl (Int32.ofNat m)), (2, .inl (Int32.ofNat s)), (3, .inl (Int32.ofNat k)), (4, .inl (Int32.ofNat t))]) (S' := []) (h' := h) (by with_unfolding_all rfl) ?_
  by_cases c2 : m < M ∧ s < 2
  · rw [decide_eq_true c2, if_neg fa_b0t, if_pos c2]
    refine kx_go 1 (pc' := 13) (L' := [(0, .inr (.inr (.inl (some 190)))), (1, .inl (Int32.ofNat m)), (2, .inl (Int32.ofNat s)), (3, .inl (Int32.ofNat k)), (4, .inl (Int32.ofNat t))]) (S' := [.inr (.inr (.inl (some 190)))]) (h' := h) (by with_unfolding_all rfl) ?_
    refine kx_getf (c := 190) (v := .inr (.inr (.inl (some 1)))) rfl (by decide) (kx_ofr (hw _ _ _ fa_k.1)) ?_
    refine kx_go 2 (pc' := 19) (L' := [(0, .inr (.inr (.inl (some 190)))), (1, .inl (Int32.ofNat m)), (2, .inl (Int32.ofNat s)), (3, .inl (Int32.ofNat k)), (4, .inl (Int32.ofNat t))]) (S' := [.inl (Int32.ofNat t), .inl (Int32.ofNat k), .inr (.inr (.inl (some 1)))]) (h' := h) (by with_unfolding_all rfl) ?_
    refine kc_call_rule (M2 := wk_m37) (av := [.inr (.inr (.inl (some 1))), .inl (Int32.ofNat k), .inl (Int32.ofNat t)]) (r := []) rfl rfl (kc_Con_le (fu_c37 (d := 0) hg hC hB) (by omega)) (fun rv h2 hq => ?_)
    obtain ⟨rfl, e9⟩ := hq
    rw [e9]
    clear e9
    rw [fa_inb hk z1, fa_inb (u := 2) (z := 1) ht rfl, fa_dn]
    show kc_Ev g (d + 8) wk_m192 _ 22 [(0, .inr (.inr (.inl (some 190)))), (1, .inl (Int32.ofNat m)), (2, .inl (Int32.ofNat s)), (3, .inl (Int32.ofNat k)), (4, .inl (Int32.ofNat t))] [.inl (kp_b (decide (k < M ∧ t < 2)))] h
    refine kx_go 1 (pc' := (if kc_cnd .eq (kp_b (decide (k < M ∧ t < 2))).toInt 0 then 36 else 25)) (L' := [(0, .inr (.inr (.inl (some 190)))), (1, .inl (Int32.ofNat m)), (2, .inl (Int32.ofNat s)), (3, .inl (Int32.ofNat k)), (4, .inl (Int32.ofNat t))]) (S' := []) (h' := h) (by with_unfolding_all rfl) ?_
    by_cases c3 : k < M ∧ t < 2
    · rw [decide_eq_true c3, if_neg fa_b0t, if_pos c3]
      refine kx_go 3 (pc' := (if kc_cnd .ne (Int32.ofNat m).toInt (Int32.ofNat k).toInt then 38 else 30)) (L' := [(0, .inr (.inr (.inl (some 190)))), (1, .inl (Int32.ofNat m)), (2, .inl (Int32.ofNat s)), (3, .inl (Int32.ofNat k)), (4, .inl (Int32.ofNat t))]) (S' := []) (h' := h) (by with_unfolding_all rfl) ?_
      have mid : ¬ (m = k ∧ s = t) → kc_Ev g (d + 8) wk_m192 (fun rv h' => rv = some (.inl (Int32.ofNat ((if A (20 + (2 * m + s)) = 0 then (2, A) else if fa_cm B A (fa_top A (2 * m + s)) (2 * k + t) k t (!decide (m = k)) = 0 then (0, fa_push (fa_s A (20 + (2 * m + s)) (A (20 + (2 * m + s)) - 1)) (2 * k + t) (fa_top A (2 * m + s))) else (fa_cm B A (fa_top A (2 * m + s)) (2 * k + t) k t (!decide (m = k)), A)) : Nat × (Nat → Nat)).1)) ∧ fa_Hc h0 (((if A (20 + (2 * m + s)) = 0 then (2, A) else if fa_cm B A (fa_top A (2 * m + s)) (2 * k + t) k t (!decide (m = k)) = 0 then (0, fa_push (fa_s A (20 + (2 * m + s)) (A (20 + (2 * m + s)) - 1)) (2 * k + t) (fa_top A (2 * m + s))) else (fa_cm B A (fa_top A (2 * m + s)) (2 * k + t) k t (!decide (m = k)), A)) : Nat × (Nat → Nat)).2) L h' ∧ fa_W B (((if A (20 + (2 * m + s)) = 0 then (2, A) else if fa_cm B A (fa_top A (2 * m + s)) (2 * k + t) k t (!decide (m = k)) = 0 then (0, fa_push (fa_s A (20 + (2 * m + s)) (A (20 + (2 * m + s)) - 1)) (2 * k + t) (fa_top A (2 * m + s))) else (fa_cm B A (fa_top A (2 * m + s)) (2 * k + t) k t (!decide (m = k)), A)) : Nat × (Nat → Nat)).2) L h') 38 [(0, .inr (.inr (.inl (some 190)))), (1, .inl (Int32.ofNat m)), (2, .inl (Int32.ofNat s)), (3, .inl (Int32.ofNat k)), (4, .inl (Int32.ofNat t))] [] h := by
        intro c4
        have s6 : 2 * m + s < 6 := by omega
        have t6 : 2 * k + t < 6 := by omega
        have ne : ¬ 2 * m + s = 2 * k + t := by omega
        have a3 := h3 (2 * m + s) s6
        have b3 := h3 (2 * k + t) t6
        refine kx_go 13 (pc' := 54) (L' := [(6, .inl (((Int32.ofNat 2) * (Int32.ofNat k)) + (Int32.ofNat t))), (5, .inl (((Int32.ofNat 2) * (Int32.ofNat m)) + (Int32.ofNat s))), (0, .inr (.inr (.inl (some 190)))), (1, .inl (Int32.ofNat m)), (2, .inl (Int32.ofNat s)), (3, .inl (Int32.ofNat k)), (4, .inl (Int32.ofNat t))]) (S' := [.inr (.inr (.inl (some 190)))]) (h' := h) (by with_unfolding_all rfl) ?_
        refine kx_getf (c := 190) (v := .inr (.inr (.inl (some 192)))) rfl (by decide) (kx_ofr (hw _ _ _ fa_k.2.2.2.1)) ?_
        refine kx_go 1 (pc' := 59) (L' := [(6, .inl (((Int32.ofNat 2) * (Int32.ofNat k)) + (Int32.ofNat t))), (5, .inl (((Int32.ofNat 2) * (Int32.ofNat m)) + (Int32.ofNat s))), (0, .inr (.inr (.inl (some 190)))), (1, .inl (Int32.ofNat m)), (2, .inl (Int32.ofNat s)), (3, .inl (Int32.ofNat k)), (4, .inl (Int32.ofNat t))]) (S' := [.inl (((Int32.ofNat 2) * (Int32.ofNat m)) + (Int32.ofNat s)), .inr (.inr (.inl (some 192)))]) (h' := h) (by with_unfolding_all rfl) ?_
        rw [kx_mul, kx_add, kx_mul, kx_add]
        refine kx_iald (c := 192) (j := 2 * m + s) (m := 6) (v := .inl (Int32.ofNat (A (20 + (2 * m + s))))) rfl rfl (by decide) (by decide) (by omega) (hA.2.2.1 (2 * m + s) (by omega)) ?_
        refine kx_go 1 (pc' := (if kc_cnd .ne (Int32.ofNat (A (20 + (2 * m + s)))).toInt 0 then 65 else 63)) (L' := [(6, .inl (Int32.ofNat (2 * k + t))), (5, .inl (Int32.ofNat (2 * m + s))), (0, .inr (.inr (.inl (some 190)))), (1, .inl (Int32.ofNat m)), (2, .inl (Int32.ofNat s)), (3, .inl (Int32.ofNat k)), (4, .inl (Int32.ofNat t))]) (S' := []) (h' := h) (by with_unfolding_all rfl) ?_
        by_cases c5 : A (20 + (2 * m + s)) = 0
        · rw [if_neg (fa_z (by omega) c5), if_pos c5]
          refine kx_go 1 (pc' := 64) (L' := [(6, .inl (Int32.ofNat (2 * k + t))), (5, .inl (Int32.ofNat (2 * m + s))), (0, .inr (.inr (.inl (some 190)))), (1, .inl (Int32.ofNat m)), (2, .inl (Int32.ofNat s)), (3, .inl (Int32.ofNat k)), (4, .inl (Int32.ofNat t))]) (S' := [.inl (Int32.ofNat 2)]) (h' := h) (by with_unfolding_all rfl) ?_
          exact kc_ret_ok rfl (rv := some (.inl (Int32.ofNat 2))) rfl ⟨rfl, hH1, hW⟩
        · rw [if_pos (fa_nz (by omega) c5), if_neg c5]
          have htl : fa_top A (2 * m + s) < L := hI.2.2.2.2.2.2.2.2.1 _ s6 (A (20 + (2 * m + s)) - 1) (by omega)
          have etp : fa_tp A (2 * m + s) = Int32.ofNat (fa_top A (2 * m + s)) := if_neg c5
          have cl := fa_cml (B := B) (A := A) (l := fa_top A (2 * m + s)) (s := 2 * k + t) (m := k) (t := t) (nw := !decide (m = k))
          refine kx_go 2 (pc' := 68) (L' := [(6, .inl (Int32.ofNat (2 * k + t))), (5, .inl (Int32.ofNat (2 * m + s))), (0, .inr (.inr (.inl (some 190)))), (1, .inl (Int32.ofNat m)), (2, .inl (Int32.ofNat s)), (3, .inl (Int32.ofNat k)), (4, .inl (Int32.ofNat t))]) (S' := [.inl (Int32.ofNat (2 * m + s)), .inr (.inr (.inl (some 190)))]) (h' := h) (by with_unfolding_all rfl) ?_
          refine kc_call_rule (M2 := wk_m187) (av := [.inr (.inr (.inl (some 190))), .inl (Int32.ofNat (2 * m + s))]) (r := []) rfl rfl (kc_Con_le (fa_c187 (d := 0) hg hw hC hB hL hi hI hA s6) (by omega)) (fun rv h2 hq => ?_)
          obtain ⟨rfl, e9⟩ := hq
          rw [e9]
          clear e9
          rw [etp]
          show kc_Ev g (d + 8) wk_m192 _ 71 [(6, .inl (Int32.ofNat (2 * k + t))), (5, .inl (Int32.ofNat (2 * m + s))), (0, .inr (.inr (.inl (some 190)))), (1, .inl (Int32.ofNat m)), (2, .inl (Int32.ofNat s)), (3, .inl (Int32.ofNat k)), (4, .inl (Int32.ofNat t))] [.inl (Int32.ofNat (fa_top A (2 * m + s)))] h
          refine kx_go 7 (pc' := (if kc_cnd .eq (Int32.ofNat m).toInt (Int32.ofNat k).toInt then 87 else 83)) (L' := [(7, .inl (Int32.ofNat (fa_top A (2 * m + s)))), (6, .inl (Int32.ofNat (2 * k + t))), (5, .inl (Int32.ofNat (2 * m + s))), (0, .inr (.inr (.inl (some 190)))), (1, .inl (Int32.ofNat m)), (2, .inl (Int32.ofNat s)), (3, .inl (Int32.ofNat k)), (4, .inl (Int32.ofNat t))]) (S' := [.inl (Int32.ofNat (2 * k + t)), .inl (Int32.ofNat (fa_top A (2 * m + s))), .inr (.inr (.inl (some 190)))]) (h' := h) (by with_unfolding_all rfl) ?_
          have tail : ∀ nw, nw = (!decide (m = k)) → kc_Ev g (d + 8) wk_m192 (fun rv h' => rv = some (.inl (Int32.ofNat ((if fa_cm B A (fa_top A (2 * m + s)) (2 * k + t) k t (!decide (m = k)) = 0 then (0, fa_push (fa_s A (20 + (2 * m + s)) (A (20 + (2 * m + s)) - 1)) (2 * k + t) (fa_top A (2 * m + s))) else (fa_cm B A (fa_top A (2 * m + s)) (2 * k + t) k t (!decide (m = k)), A)) : Nat × (Nat → Nat)).1)) ∧ fa_Hc h0 (((if fa_cm B A (fa_top A (2 * m + s)) (2 * k + t) k t (!decide (m = k)) = 0 then (0, fa_push (fa_s A (20 + (2 * m + s)) (A (20 + (2 * m + s)) - 1)) (2 * k + t) (fa_top A (2 * m + s))) else (fa_cm B A (fa_top A (2 * m + s)) (2 * k + t) k t (!decide (m = k)), A)) : Nat × (Nat → Nat)).2) L h' ∧ fa_W B (((if fa_cm B A (fa_top A (2 * m + s)) (2 * k + t) k t (!decide (m = k)) = 0 then (0, fa_push (fa_s A (20 + (2 * m + s)) (A (20 + (2 * m + s)) - 1)) (2 * k + t) (fa_top A (2 * m + s))) else (fa_cm B A (fa_top A (2 * m + s)) (2 * k + t) k t (!decide (m = k)), A)) : Nat × (Nat → Nat)).2) L h') 88 [(7, .inl (Int32.ofNat (fa_top A (2 * m + s)))), (6, .inl (Int32.ofNat (2 * k + t))), (5, .inl (Int32.ofNat (2 * m + s))), (0, .inr (.inr (.inl (some 190)))), (1, .inl (Int32.ofNat m)), (2, .inl (Int32.ofNat s)), (3, .inl (Int32.ofNat k)), (4, .inl (Int32.ofNat t))] [.inl (kp_b nw), .inl (Int32.ofNat (2 * k + t)), .inl (Int32.ofNat (fa_top A (2 * m + s))), .inr (.inr (.inl (some 190)))] h := by
            intro nw enw
            refine kc_call_rule (M2 := wk_m185) (av := [.inr (.inr (.inl (some 190))), .inl (Int32.ofNat (fa_top A (2 * m + s))), .inl (Int32.ofNat (2 * k + t)), .inl (kp_b nw)]) (r := []) rfl rfl (kc_Con_le (fa_c185 (d := 0) rfl (show k < 3 by omega) c3.2 hg hw hC hB hL hi hI hA hW hMx c3.1 htl) (by omega)) (fun rv h2 hq => ?_)
            obtain ⟨rfl, e9⟩ := hq
            rw [e9]
            clear e9
            rw [enw]
            show kc_Ev g (d + 8) wk_m192 _ 91 [(7, .inl (Int32.ofNat (fa_top A (2 * m + s)))), (6, .inl (Int32.ofNat (2 * k + t))), (5, .inl (Int32.ofNat (2 * m + s))), (0, .inr (.inr (.inl (some 190)))), (1, .inl (Int32.ofNat m)), (2, .inl (Int32.ofNat s)), (3, .inl (Int32.ofNat k)), (4, .inl (Int32.ofNat t))] [.inl (Int32.ofNat (fa_cm B A (fa_top A (2 * m + s)) (2 * k + t) k t (!decide (m = k))))] h
            refine kx_go 3 (pc' := (if kc_cnd .eq (Int32.ofNat (fa_cm B A (fa_top A (2 * m + s)) (2 * k + t) k t (!decide (m = k)))).toInt 0 then 101 else 98)) (L' := [(8, .inl (Int32.ofNat (fa_cm B A (fa_top A (2 * m + s)) (2 * k + t) k t (!decide (m = k))))), (7, .inl (Int32.ofNat (fa_top A (2 * m + s)))), (6, .inl (Int32.ofNat (2 * k + t))), (5, .inl (Int32.ofNat (2 * m + s))), (0, .inr (.inr (.inl (some 190)))), (1, .inl (Int32.ofNat m)), (2, .inl (Int32.ofNat s)), (3, .inl (Int32.ofNat k)), (4, .inl (Int32.ofNat t))]) (S' := []) (h' := h) (by with_unfolding_all rfl) ?_
            by_cases c6 : fa_cm B A (fa_top A (2 * m + s)) (2 * k + t) k t (!decide (m = k)) = 0
            · rw [if_pos (fa_ez (by omega) c6), if_pos c6, c6]
              refine kx_go 1 (pc' := 102) (L' := [(8, .inl (Int32.ofNat 0)), (7, .inl (Int32.ofNat (fa_top A (2 * m + s)))), (6, .inl (Int32.ofNat (2 * k + t))), (5, .inl (Int32.ofNat (2 * m + s))), (0, .inr (.inr (.inl (some 190)))), (1, .inl (Int32.ofNat m)), (2, .inl (Int32.ofNat s)), (3, .inl (Int32.ofNat k)), (4, .inl (Int32.ofNat t))]) (S' := [.inr (.inr (.inl (some 190)))]) (h' := h) (by with_unfolding_all rfl) ?_
              refine kx_getf (c := 190) (v := .inr (.inr (.inl (some 192)))) rfl (by decide) (kx_ofr (hw _ _ _ fa_k.2.2.2.1)) ?_
              refine kx_go 2 (pc' := 108) (L' := [(8, .inl (Int32.ofNat 0)), (7, .inl (Int32.ofNat (fa_top A (2 * m + s)))), (6, .inl (Int32.ofNat (2 * k + t))), (5, .inl (Int32.ofNat (2 * m + s))), (0, .inr (.inr (.inl (some 190)))), (1, .inl (Int32.ofNat m)), (2, .inl (Int32.ofNat s)), (3, .inl (Int32.ofNat k)), (4, .inl (Int32.ofNat t))]) (S' := [.inl (Int32.ofNat (2 * m + s)), .inr (.inr (.inl (some 192))), .inl (Int32.ofNat (2 * m + s)), .inr (.inr (.inl (some 192)))]) (h' := h) (by with_unfolding_all rfl) ?_
              refine kx_iald (c := 192) (j := 2 * m + s) (m := 6) (v := .inl (Int32.ofNat (A (20 + (2 * m + s))))) rfl rfl (by decide) (by decide) (by omega) (hA.2.2.1 (2 * m + s) (by omega)) ?_
              refine kx_go 2 (pc' := 111) (L' := [(8, .inl (Int32.ofNat 0)), (7, .inl (Int32.ofNat (fa_top A (2 * m + s)))), (6, .inl (Int32.ofNat (2 * k + t))), (5, .inl (Int32.ofNat (2 * m + s))), (0, .inr (.inr (.inl (some 190)))), (1, .inl (Int32.ofNat m)), (2, .inl (Int32.ofNat s)), (3, .inl (Int32.ofNat k)), (4, .inl (Int32.ofNat t))]) (S' := [.inl ((Int32.ofNat (A (20 + (2 * m + s)))) - (Int32.ofNat 1)), .inl (Int32.ofNat (2 * m + s)), .inr (.inr (.inl (some 192)))]) (h' := h) (by with_unfolding_all rfl) ?_
              rw [kx_sub (show 1 ≤ A (20 + (2 * m + s)) by omega)]
              refine kx_iast (c := 192) (j := 2 * m + s) (m := 6) rfl rfl (by decide) (by decide) (by omega) ?_
              have H2 := fa_lo_c (v := A (20 + (2 * m + s)) - 1) s6 (Nat.sub_le _ _) hL h3 hH1
              have W2 : fa_W B (fa_s A (20 + (2 * m + s)) (A (20 + (2 * m + s)) - 1)) L (kc_upd h 192 (2 * m + s) (.inl (Int32.ofNat (A (20 + (2 * m + s)) - 1)))) := fa_W_s (by decide) (by omega) hW
              generalize (kc_upd h 192 (2 * m + s) (.inl (Int32.ofNat (A (20 + (2 * m + s)) - 1)))) = h5 at H2 W2 ⊢
              have k3 : (fa_s A (20 + (2 * m + s)) (A (20 + (2 * m + s)) - 1)) (20 + (2 * k + t)) < 3 := by rw [fa_sn (by omega)]; exact fa_cm_lt b3 c6
              refine kx_go 3 (pc' := 117) (L' := [(8, .inl (Int32.ofNat 0)), (7, .inl (Int32.ofNat (fa_top A (2 * m + s)))), (6, .inl (Int32.ofNat (2 * k + t))), (5, .inl (Int32.ofNat (2 * m + s))), (0, .inr (.inr (.inl (some 190)))), (1, .inl (Int32.ofNat m)), (2, .inl (Int32.ofNat s)), (3, .inl (Int32.ofNat k)), (4, .inl (Int32.ofNat t))]) (S' := [.inl (Int32.ofNat (2 * k + t)), .inl (Int32.ofNat (fa_top A (2 * m + s))), .inr (.inr (.inl (some 190)))]) (h' := h5) (by with_unfolding_all rfl) ?_
              refine kc_call_rule (M2 := wk_m190) (av := [.inr (.inr (.inl (some 190))), .inl (Int32.ofNat (fa_top A (2 * m + s))), .inl (Int32.ofNat (2 * k + t))]) (r := []) rfl rfl (kc_Con_le (fa_c190 (d := 0) hg hL (fa_h3o h3 (Nat.sub_le _ _)) H2 W2 t6 htl k3) (by omega)) (fun rv h2 hq => ?_)
              obtain ⟨rfl, H3⟩ := hq
              show kc_Ev g (d + 8) wk_m192 _ 120 [(8, .inl (Int32.ofNat 0)), (7, .inl (Int32.ofNat (fa_top A (2 * m + s)))), (6, .inl (Int32.ofNat (2 * k + t))), (5, .inl (Int32.ofNat (2 * m + s))), (0, .inr (.inr (.inl (some 190)))), (1, .inl (Int32.ofNat m)), (2, .inl (Int32.ofNat s)), (3, .inl (Int32.ofNat k)), (4, .inl (Int32.ofNat t))] [] h2
              refine kx_go 1 (pc' := 121) (L' := [(8, .inl (Int32.ofNat 0)), (7, .inl (Int32.ofNat (fa_top A (2 * m + s)))), (6, .inl (Int32.ofNat (2 * k + t))), (5, .inl (Int32.ofNat (2 * m + s))), (0, .inr (.inr (.inl (some 190)))), (1, .inl (Int32.ofNat m)), (2, .inl (Int32.ofNat s)), (3, .inl (Int32.ofNat k)), (4, .inl (Int32.ofNat t))]) (S' := [.inl (Int32.ofNat 0)]) (h' := h2) (by with_unfolding_all rfl) ?_
              exact kc_ret_ok rfl (rv := some (.inl (Int32.ofNat 0))) rfl ⟨rfl, H3⟩
            · rw [if_neg (fa_enz (by omega) c6), if_neg c6]
              refine kx_go 1 (pc' := 100) (L' := [(8, .inl (Int32.ofNat (fa_cm B A (fa_top A (2 * m + s)) (2 * k + t) k t (!decide (m = k))))), (7, .inl (Int32.ofNat (fa_top A (2 * m + s)))), (6, .inl (Int32.ofNat (2 * k + t))), (5, .inl (Int32.ofNat (2 * m + s))), (0, .inr (.inr (.inl (some 190)))), (1, .inl (Int32.ofNat m)), (2, .inl (Int32.ofNat s)), (3, .inl (Int32.ofNat k)), (4, .inl (Int32.ofNat t))]) (S' := [.inl (Int32.ofNat (fa_cm B A (fa_top A (2 * m + s)) (2 * k + t) k t (!decide (m = k))))]) (h' := h) (by with_unfolding_all rfl) ?_
              exact kc_ret_ok rfl (rv := some (.inl (Int32.ofNat (fa_cm B A (fa_top A (2 * m + s)) (2 * k + t) k t (!decide (m = k)))))) rfl ⟨rfl, hH1, hW⟩
          by_cases ck : m = k
          · rw [if_pos ((kx_eq (by omega) (by omega)).mpr ck)]
            refine kx_go 1 (pc' := 88) (L' := [(7, .inl (Int32.ofNat (fa_top A (2 * m + s)))), (6, .inl (Int32.ofNat (2 * k + t))), (5, .inl (Int32.ofNat (2 * m + s))), (0, .inr (.inr (.inl (some 190)))), (1, .inl (Int32.ofNat m)), (2, .inl (Int32.ofNat s)), (3, .inl (Int32.ofNat k)), (4, .inl (Int32.ofNat t))]) (S' := [.inl (Int32.ofNat 0), .inl (Int32.ofNat (2 * k + t)), .inl (Int32.ofNat (fa_top A (2 * m + s))), .inr (.inr (.inl (some 190)))]) (h' := h) (by with_unfolding_all rfl) ?_
            exact tail false (by rw [decide_eq_true ck]; rfl)
          · rw [if_neg (mt (kx_eq (by omega) (by omega)).mp ck)]
            refine kx_go 2 (pc' := 88) (L' := [(7, .inl (Int32.ofNat (fa_top A (2 * m + s)))), (6, .inl (Int32.ofNat (2 * k + t))), (5, .inl (Int32.ofNat (2 * m + s))), (0, .inr (.inr (.inl (some 190)))), (1, .inl (Int32.ofNat m)), (2, .inl (Int32.ofNat s)), (3, .inl (Int32.ofNat k)), (4, .inl (Int32.ofNat t))]) (S' := [.inl (Int32.ofNat 1), .inl (Int32.ofNat (2 * k + t)), .inl (Int32.ofNat (fa_top A (2 * m + s))), .inr (.inr (.inl (some 190)))]) (h' := h) (by with_unfolding_all rfl) ?_
            exact tail true (by rw [decide_eq_false ck]; rfl)
      by_cases e1 : m = k
      · rw [if_neg (mt (kx_ne (by omega) (by omega)).mp (not_not_intro e1))]
        refine kx_go 3 (pc' := (if kc_cnd .ne (Int32.ofNat s).toInt (Int32.ofNat t).toInt then 38 else 36)) (L' := [(0, .inr (.inr (.inl (some 190)))), (1, .inl (Int32.ofNat m)), (2, .inl (Int32.ofNat s)), (3, .inl (Int32.ofNat k)), (4, .inl (Int32.ofNat t))]) (S' := []) (h' := h) (by with_unfolding_all rfl) ?_
        by_cases e2 : s = t
        · rw [if_neg (mt (kx_ne (by omega) (by omega)).mp (not_not_intro e2)), if_pos ⟨e1, e2⟩]
          refine kx_go 1 (pc' := 37) (L' := [(0, .inr (.inr (.inl (some 190)))), (1, .inl (Int32.ofNat m)), (2, .inl (Int32.ofNat s)), (3, .inl (Int32.ofNat k)), (4, .inl (Int32.ofNat t))]) (S' := [.inl (Int32.ofNat 1)]) (h' := h) (by with_unfolding_all rfl) ?_
          exact kc_ret_ok rfl (rv := some (.inl (Int32.ofNat 1))) rfl ⟨rfl, hH1, hW⟩
        · rw [if_pos ((kx_ne (by omega) (by omega)).mpr e2), if_neg (fun q => e2 q.2)]
          exact mid (fun q => e2 q.2)
      · rw [if_pos ((kx_ne (by omega) (by omega)).mpr e1), if_neg (fun q => e1 q.1)]
        exact mid (fun q => e1 q.1)
    · rw [decide_eq_false c3, if_pos fa_b0f, if_neg c3]
      refine kx_go 1 (pc' := 37) (L' := [(0, .inr (.inr (.inl (some 190)))), (1, .inl (Int32.ofNat m)), (2, .inl (Int32.ofNat s)), (3, .inl (Int32.ofNat k)), (4, .inl (Int32.ofNat t))]) (S' := [.inl (Int32.ofNat 1)]) (h' := h) (by with_unfolding_all rfl) ?_
      exact kc_ret_ok rfl (rv := some (.inl (Int32.ofNat 1))) rfl ⟨rfl, hH1, hW⟩
  · rw [decide_eq_false c2, if_pos fa_b0f, if_neg c2]
    refine kx_go 1 (pc' := 37) (L' := [(0, .inr (.inr (.inl (some 190)))), (1, .inl (Int32.ofNat m)), (2, .inl (Int32.ofNat s)), (3, .inl (Int32.ofNat k)), (4, .inl (Int32.ofNat t))]) (S' := [.inl (Int32.ofNat 1)]) (h' := h) (by with_unfolding_all rfl) ?_
    exact kc_ret_ok rfl (rv := some (.inl (Int32.ofNat 1))) rfl ⟨rfl, hH1, hW⟩
set_option maxRecDepth 20000 in
theorem fa_c192n {g : kc_G} {d : Nat} {h0 h : kc_H} {B : Nat → Int32} {A : Nat → Nat} {D M L i : Nat} {m s k : Nat} {z : Int32} (hg : kc_ok g) (hBB : fa_BB B D M L) (hC0 : fu_C B 1 h0) (hi : i ≤ 60) (hI : fa_I B A L i) (hMx : fa_M B A M) (hH : fa_Hc h0 A L h) (hW : fa_W B A L h) (hm : m < 1000) (hs : s < 1000) (c2 : ¬ (m < M ∧ s < 2)) : kc_Con g (d + 9) 192 [.inr (.inr (.inl (some 190))), .inl (Int32.ofNat m), .inl (Int32.ofNat s), .inl (Int32.ofNat k), .inl z] h (fun rv h' => rv = some (.inl (Int32.ofNat 1)) ∧ fa_Hc h0 (A) L h' ∧ fa_W B (A) L h') := by
  have hBB1 := hBB
  obtain ⟨hB, ⟨eD, hD⟩, ⟨eM, hM⟩, eL, hL⟩ := hBB1
  have h3 := hI.2.2.2.2.2.2.1
  have hH1 := hH
  obtain ⟨hw, hA, hF⟩ := hH
  have hC := fa_hc hF hC0
  have a4 := hI.2.2.2.1
  have z1 : (B 1).toInt - 1 = (M : Int) - 1 := by rw [eM, kx_ti (by omega)]
  have z2 : (B 2).toInt - 1 = (L : Int) - 1 := by rw [eL, kx_ti (by omega)]
  refine kc_Con_new hg (M := wk_m192) rfl rfl rfl (show 5 ≤ 9 by decide) ?_
  refine kx_go 1 (pc' := 1) (L' := [(0, .inr (.inr (.inl (some 190)))), (1, .inl (Int32.ofNat m)), (2, .inl (Int32.ofNat s)), (3, .inl (Int32.ofNat k)), (4, .inl (z))]) (S' := [.inr (.inr (.inl (some 190)))]) (h' := h) (by with_unfolding_all rfl) ?_
  refine kx_getf (c := 190) (v := .inr (.inr (.inl (some 1)))) rfl (by decide) (kx_ofr (hw _ _ _ fa_k.1)) ?_
  refine kx_go 2 (pc' := 6) (L' := [(0, .inr (.inr (.inl (some 190)))), (1, .inl (Int32.ofNat m)), (2, .inl (Int32.ofNat s)), (3, .inl (Int32.ofNat k)), (4, .inl (z))]) (S' := [.inl (Int32.ofNat s), .inl (Int32.ofNat m), .inr (.inr (.inl (some 1)))]) (h' := h) (by with_unfolding_all rfl) ?_
  refine kc_call_rule (M2 := wk_m37) (av := [.inr (.inr (.inl (some 1))), .inl (Int32.ofNat m), .inl (Int32.ofNat s)]) (r := []) rfl rfl (kc_Con_le (fu_c37 (d := 0) hg hC hB) (by omega)) (fun rv h2 hq => ?_)
  obtain ⟨rfl, e9⟩ := hq
  rw [e9]
  clear e9
  rw [fa_inb hm z1, fa_inb (u := 2) (z := 1) hs rfl, fa_dn]
  show kc_Ev g (d + 8) wk_m192 _ 9 [(0, .inr (.inr (.inl (some 190)))), (1, .inl (Int32.ofNat m)), (2, .inl (Int32.ofNat s)), (3, .inl (Int32.ofNat k)), (4, .inl (z))] [.inl (kp_b (decide (m < M ∧ s < 2)))] h
  refine kx_go 1 (pc' := (if kc_cnd .eq (kp_b (decide (m < M ∧ s < 2))).toInt 0 then 36 else 12)) (L' := [(0, .inr (.inr (.inl (some 190)))), (1, .inl (Int32.ofNat m)), (2, .inl (Int32.ofNat s)), (3, .inl (Int32.ofNat k)), (4, .inl (z))]) (S' := []) (h' := h) (by with_unfolding_all rfl) ?_
  rw [decide_eq_false c2, if_pos fa_b0f]
  refine kx_go 1 (pc' := 37) (L' := [(0, .inr (.inr (.inl (some 190)))), (1, .inl (Int32.ofNat m)), (2, .inl (Int32.ofNat s)), (3, .inl (Int32.ofNat k)), (4, .inl (z))]) (S' := [.inl (Int32.ofNat 1)]) (h' := h) (by with_unfolding_all rfl) ?_
  exact kc_ret_ok rfl (rv := some (.inl (Int32.ofNat 1))) rfl ⟨rfl, hH1, hW⟩
set_option maxRecDepth 20000 in
theorem fa_r250 {g : kc_G} {d : Nat} {h0 h : kc_H} {B : Nat → Int32} {A : Nat → Nat} {D M L i : Nat} {m s k t : Nat} (hg : kc_ok g) (hBB : fa_BB B D M L) (hC0 : fu_B B h0) (hi : i ≤ 60) (hI : fa_I B A L i) (hH : fa_Hr h0 A L h) (hm : m < 1000) (hs : s < 1000) (hk : k < 1000) (ht : t < 1000) : kc_Con g (d + 9) 250 [.inr (.inr (.inl (some 259))), .inl (Int32.ofNat m), .inl (Int32.ofNat s), .inl (Int32.ofNat k), .inl (Int32.ofNat t)] h (fun rv h' => rv = some (.inl (Int32.ofNat (fa_move B A M m s k t).1)) ∧ fa_Hr h0 ((fa_move B A M m s k t).2) L h') := by
  have hBB1 := hBB
  obtain ⟨hB, ⟨eD, hD⟩, ⟨eM, hM⟩, eL, hL⟩ := hBB1
  have h3 := hI.2.2.2.2.2.2.1
  have hH1 := hH
  obtain ⟨hw, hA, hF⟩ := hH
  have hC := fa_hr hF hC0
  have a4 := hI.2.2.2.1
  have z1 : (B 1).toInt - 1 = (M : Int) - 1 := by rw [eM, kx_ti (by omega)]
  have z2 : (B 2).toInt - 1 = (L : Int) - 1 := by rw [eL, kx_ti (by omega)]
  unfold fa_move
  refine kc_Con_new hg (M := wk_m250) rfl rfl rfl (show 5 ≤ 9 by decide) ?_
  refine kx_go 3 (pc' := 3) (L' := [(0, .inr (.inr (.inl (some 259)))), (1, .inl (Int32.ofNat m)), (2, .inl (Int32.ofNat s)), (3, .inl (Int32.ofNat k)), (4, .inl (Int32.ofNat t))]) (S' := [.inl (Int32.ofNat s), .inl (Int32.ofNat m), .inr (.inr (.inl (some 259)))]) (h' := h) (by with_unfolding_all rfl) ?_
  refine kc_call_rule (M2 := wk_m82) (av := [.inr (.inr (.inl (some 259))), .inl (Int32.ofNat m), .inl (Int32.ofNat s)]) (r := []) rfl rfl (kc_Con_le (fa_r82 (d := 0) hg hw hC hBB hm hs) (by omega)) (fun rv h2 hq => ?_)
  obtain ⟨rfl, e9⟩ := hq
  rw [e9]
  clear e9
  show kc_Ev g (d + 8) wk_m250 _ 6 [(0, .inr (.inr (.inl (some 259)))), (1, .inl (Int32.ofNat m)), (2, .inl (Int32.ofNat s)), (3, .inl (Int32.ofNat k)), (4, .inl (Int32.ofNat t))] [.inl (kp_b (decide (m < M ∧ s < 2)))] h
  refine kx_go 1 (pc' := (if kc_cnd .eq (kp_b (decide (m < M ∧ s < 2))).toInt 0 then 30 else 9)) (L' := [(0, .inr (.inr (.inl (some 259)))), (1, .inl (Int32.ofNat m)), (2, .inl (Int32.ofNat s)), (3, .inl (Int32.ofNat k)), (4, .inl (Int32.ofNat t))]) (S' := []) (h' := h) (by with_unfolding_all rfl) ?_
  by_cases c2 : m < M ∧ s < 2
  · rw [decide_eq_true c2, if_neg fa_b0t, if_pos c2]
    refine kx_go 3 (pc' := 13) (L' := [(0, .inr (.inr (.inl (some 259)))), (1, .inl (Int32.ofNat m)), (2, .inl (Int32.ofNat s)), (3, .inl (Int32.ofNat k)), (4, .inl (Int32.ofNat t))]) (S' := [.inl (Int32.ofNat t), .inl (Int32.ofNat k), .inr (.inr (.inl (some 259)))]) (h' := h) (by with_unfolding_all rfl) ?_
    refine kc_call_rule (M2 := wk_m82) (av := [.inr (.inr (.inl (some 259))), .inl (Int32.ofNat k), .inl (Int32.ofNat t)]) (r := []) rfl rfl (kc_Con_le (fa_r82 (d := 0) hg hw hC hBB hk ht) (by omega)) (fun rv h2 hq => ?_)
    obtain ⟨rfl, e9⟩ := hq
    rw [e9]
    clear e9
    show kc_Ev g (d + 8) wk_m250 _ 16 [(0, .inr (.inr (.inl (some 259)))), (1, .inl (Int32.ofNat m)), (2, .inl (Int32.ofNat s)), (3, .inl (Int32.ofNat k)), (4, .inl (Int32.ofNat t))] [.inl (kp_b (decide (k < M ∧ t < 2)))] h
    refine kx_go 1 (pc' := (if kc_cnd .eq (kp_b (decide (k < M ∧ t < 2))).toInt 0 then 30 else 19)) (L' := [(0, .inr (.inr (.inl (some 259)))), (1, .inl (Int32.ofNat m)), (2, .inl (Int32.ofNat s)), (3, .inl (Int32.ofNat k)), (4, .inl (Int32.ofNat t))]) (S' := []) (h' := h) (by with_unfolding_all rfl) ?_
    by_cases c3 : k < M ∧ t < 2
    · rw [decide_eq_true c3, if_neg fa_b0t, if_pos c3]
      refine kx_go 3 (pc' := (if kc_cnd .ne (Int32.ofNat m).toInt (Int32.ofNat k).toInt then 32 else 24)) (L' := [(0, .inr (.inr (.inl (some 259)))), (1, .inl (Int32.ofNat m)), (2, .inl (Int32.ofNat s)), (3, .inl (Int32.ofNat k)), (4, .inl (Int32.ofNat t))]) (S' := []) (h' := h) (by with_unfolding_all rfl) ?_
      have mid : ¬ (m = k ∧ s = t) → kc_Ev g (d + 8) wk_m250 (fun rv h' => rv = some (.inl (Int32.ofNat ((if A (20 + (2 * m + s)) = 0 then (2, A) else if fa_cm B A (fa_top A (2 * m + s)) (2 * k + t) k t (!decide (m = k)) = 0 then (0, fa_push (fa_s A (20 + (2 * m + s)) (A (20 + (2 * m + s)) - 1)) (2 * k + t) (fa_top A (2 * m + s))) else (fa_cm B A (fa_top A (2 * m + s)) (2 * k + t) k t (!decide (m = k)), A)) : Nat × (Nat → Nat)).1)) ∧ fa_Hr h0 (((if A (20 + (2 * m + s)) = 0 then (2, A) else if fa_cm B A (fa_top A (2 * m + s)) (2 * k + t) k t (!decide (m = k)) = 0 then (0, fa_push (fa_s A (20 + (2 * m + s)) (A (20 + (2 * m + s)) - 1)) (2 * k + t) (fa_top A (2 * m + s))) else (fa_cm B A (fa_top A (2 * m + s)) (2 * k + t) k t (!decide (m = k)), A)) : Nat × (Nat → Nat)).2) L h') 32 [(0, .inr (.inr (.inl (some 259)))), (1, .inl (Int32.ofNat m)), (2, .inl (Int32.ofNat s)), (3, .inl (Int32.ofNat k)), (4, .inl (Int32.ofNat t))] [] h := by
        intro c4
        have s6 : 2 * m + s < 6 := by omega
        have t6 : 2 * k + t < 6 := by omega
        have ne : ¬ 2 * m + s = 2 * k + t := by omega
        have a3 := h3 (2 * m + s) s6
        have b3 := h3 (2 * k + t) t6
        refine kx_go 13 (pc' := 48) (L' := [(6, .inl (((Int32.ofNat 2) * (Int32.ofNat k)) + (Int32.ofNat t))), (5, .inl (((Int32.ofNat 2) * (Int32.ofNat m)) + (Int32.ofNat s))), (0, .inr (.inr (.inl (some 259)))), (1, .inl (Int32.ofNat m)), (2, .inl (Int32.ofNat s)), (3, .inl (Int32.ofNat k)), (4, .inl (Int32.ofNat t))]) (S' := [.inr (.inr (.inl (some 259)))]) (h' := h) (by with_unfolding_all rfl) ?_
        refine kx_getf (c := 259) (v := .inr (.inr (.inl (some 268)))) rfl (by decide) (kx_ofr (hw _ _ _ fa_kr.2.2.1)) ?_
        refine kx_go 1 (pc' := 53) (L' := [(6, .inl (((Int32.ofNat 2) * (Int32.ofNat k)) + (Int32.ofNat t))), (5, .inl (((Int32.ofNat 2) * (Int32.ofNat m)) + (Int32.ofNat s))), (0, .inr (.inr (.inl (some 259)))), (1, .inl (Int32.ofNat m)), (2, .inl (Int32.ofNat s)), (3, .inl (Int32.ofNat k)), (4, .inl (Int32.ofNat t))]) (S' := [.inl (((Int32.ofNat 2) * (Int32.ofNat m)) + (Int32.ofNat s)), .inr (.inr (.inl (some 268)))]) (h' := h) (by with_unfolding_all rfl) ?_
        rw [kx_mul, kx_add, kx_mul, kx_add]
        refine kx_iald (c := 268) (j := 2 * m + s) (m := 6) (v := .inl (Int32.ofNat (A (20 + (2 * m + s))))) rfl rfl (by decide) (by decide) (by omega) (hA.2.2.1 (2 * m + s) (by omega)) ?_
        refine kx_go 1 (pc' := (if kc_cnd .ne (Int32.ofNat (A (20 + (2 * m + s)))).toInt 0 then 61 else 57)) (L' := [(6, .inl (Int32.ofNat (2 * k + t))), (5, .inl (Int32.ofNat (2 * m + s))), (0, .inr (.inr (.inl (some 259)))), (1, .inl (Int32.ofNat m)), (2, .inl (Int32.ofNat s)), (3, .inl (Int32.ofNat k)), (4, .inl (Int32.ofNat t))]) (S' := []) (h' := h) (by with_unfolding_all rfl) ?_
        by_cases c5 : A (20 + (2 * m + s)) = 0
        · rw [if_neg (fa_z (by omega) c5), if_pos c5]
          refine kx_go 5 (pc' := (if kc_cnd .ne (Int32.ofNat 2).toInt 0 then 109 else 82)) (L' := [(7, .inl (Int32.ofNat 2)), (6, .inl (Int32.ofNat (2 * k + t))), (5, .inl (Int32.ofNat (2 * m + s))), (0, .inr (.inr (.inl (some 259)))), (1, .inl (Int32.ofNat m)), (2, .inl (Int32.ofNat s)), (3, .inl (Int32.ofNat k)), (4, .inl (Int32.ofNat t))]) (S' := []) (h' := h) (by with_unfolding_all rfl) ?_
          rw [if_pos (fa_nz (X := 2) (by decide) (by decide))]
          refine kx_go 1 (pc' := 111) (L' := [(7, .inl (Int32.ofNat 2)), (6, .inl (Int32.ofNat (2 * k + t))), (5, .inl (Int32.ofNat (2 * m + s))), (0, .inr (.inr (.inl (some 259)))), (1, .inl (Int32.ofNat m)), (2, .inl (Int32.ofNat s)), (3, .inl (Int32.ofNat k)), (4, .inl (Int32.ofNat t))]) (S' := [.inl (Int32.ofNat 2)]) (h' := h) (by with_unfolding_all rfl) ?_
          exact kc_ret_ok rfl (rv := some (.inl (Int32.ofNat 2))) rfl ⟨rfl, hH1⟩
        · rw [if_pos (fa_nz (by omega) c5), if_neg c5]
          have htl : fa_top A (2 * m + s) < L := hI.2.2.2.2.2.2.2.2.1 _ s6 (A (20 + (2 * m + s)) - 1) (by omega)
          have etp : fa_tp A (2 * m + s) = Int32.ofNat (fa_top A (2 * m + s)) := if_neg c5
          have cl := fa_cml (B := B) (A := A) (l := fa_top A (2 * m + s)) (s := 2 * k + t) (m := k) (t := t) (nw := !decide (m = k))
          refine kx_go 3 (pc' := 65) (L' := [(6, .inl (Int32.ofNat (2 * k + t))), (5, .inl (Int32.ofNat (2 * m + s))), (0, .inr (.inr (.inl (some 259)))), (1, .inl (Int32.ofNat m)), (2, .inl (Int32.ofNat s)), (3, .inl (Int32.ofNat k)), (4, .inl (Int32.ofNat t))]) (S' := [.inl (Int32.ofNat (2 * m + s)), .inr (.inr (.inl (some 259))), .inr (.inr (.inl (some 259)))]) (h' := h) (by with_unfolding_all rfl) ?_
          refine kc_call_rule (M2 := wk_m242) (av := [.inr (.inr (.inl (some 259))), .inl (Int32.ofNat (2 * m + s))]) (r := [.inr (.inr (.inl (some 259)))]) rfl rfl (kc_Con_le (fa_r242 (d := 0) hg hw hC hB hL hi hI hA s6) (by omega)) (fun rv h2 hq => ?_)
          obtain ⟨rfl, e9⟩ := hq
          rw [e9]
          clear e9
          rw [etp]
          show kc_Ev g (d + 8) wk_m250 _ 68 [(6, .inl (Int32.ofNat (2 * k + t))), (5, .inl (Int32.ofNat (2 * m + s))), (0, .inr (.inr (.inl (some 259)))), (1, .inl (Int32.ofNat m)), (2, .inl (Int32.ofNat s)), (3, .inl (Int32.ofNat k)), (4, .inl (Int32.ofNat t))] [.inl (Int32.ofNat (fa_top A (2 * m + s))), .inr (.inr (.inl (some 259)))] h
          refine kx_go 2 (pc' := 72) (L' := [(6, .inl (Int32.ofNat (2 * k + t))), (5, .inl (Int32.ofNat (2 * m + s))), (0, .inr (.inr (.inl (some 259)))), (1, .inl (Int32.ofNat m)), (2, .inl (Int32.ofNat s)), (3, .inl (Int32.ofNat k)), (4, .inl (Int32.ofNat t))]) (S' := [.inl (Int32.ofNat (2 * m + s)), .inl (Int32.ofNat (2 * k + t)), .inl (Int32.ofNat (fa_top A (2 * m + s))), .inr (.inr (.inl (some 259)))]) (h' := h) (by with_unfolding_all rfl) ?_
          refine kc_call_rule (M2 := wk_m240) (av := [.inr (.inr (.inl (some 259))), .inl (Int32.ofNat (fa_top A (2 * m + s))), .inl (Int32.ofNat (2 * k + t)), .inl (Int32.ofNat (2 * m + s))]) (r := []) rfl rfl (kc_Con_le (fa_r240s (d := 0) rfl (show k < 3 by omega) c3.2 (show m < 3 by omega) c2.2 hg hw hC hB hL hi hI hA htl) (by omega)) (fun rv h2 hq => ?_)
          obtain ⟨rfl, e9⟩ := hq
          rw [e9]
          clear e9
          show kc_Ev g (d + 8) wk_m250 _ 75 [(6, .inl (Int32.ofNat (2 * k + t))), (5, .inl (Int32.ofNat (2 * m + s))), (0, .inr (.inr (.inl (some 259)))), (1, .inl (Int32.ofNat m)), (2, .inl (Int32.ofNat s)), (3, .inl (Int32.ofNat k)), (4, .inl (Int32.ofNat t))] [.inl (Int32.ofNat (fa_cm B A (fa_top A (2 * m + s)) (2 * k + t) k t (!decide (m = k))))] h
          refine kx_go 3 (pc' := (if kc_cnd .ne (Int32.ofNat (fa_cm B A (fa_top A (2 * m + s)) (2 * k + t) k t (!decide (m = k)))).toInt 0 then 109 else 82)) (L' := [(7, .inl (Int32.ofNat (fa_cm B A (fa_top A (2 * m + s)) (2 * k + t) k t (!decide (m = k))))), (6, .inl (Int32.ofNat (2 * k + t))), (5, .inl (Int32.ofNat (2 * m + s))), (0, .inr (.inr (.inl (some 259)))), (1, .inl (Int32.ofNat m)), (2, .inl (Int32.ofNat s)), (3, .inl (Int32.ofNat k)), (4, .inl (Int32.ofNat t))]) (S' := []) (h' := h) (by with_unfolding_all rfl) ?_
          by_cases c6 : fa_cm B A (fa_top A (2 * m + s)) (2 * k + t) k t (!decide (m = k)) = 0
          · rw [if_neg (fa_z (by omega) c6), if_pos c6, c6]
            refine kx_go 2 (pc' := 85) (L' := [(7, .inl (Int32.ofNat 0)), (6, .inl (Int32.ofNat (2 * k + t))), (5, .inl (Int32.ofNat (2 * m + s))), (0, .inr (.inr (.inl (some 259)))), (1, .inl (Int32.ofNat m)), (2, .inl (Int32.ofNat s)), (3, .inl (Int32.ofNat k)), (4, .inl (Int32.ofNat t))]) (S' := [.inl (Int32.ofNat (2 * m + s)), .inr (.inr (.inl (some 259)))]) (h' := h) (by with_unfolding_all rfl) ?_
            refine kc_call_rule (M2 := wk_m242) (av := [.inr (.inr (.inl (some 259))), .inl (Int32.ofNat (2 * m + s))]) (r := []) rfl rfl (kc_Con_le (fa_r242 (d := 0) hg hw hC hB hL hi hI hA s6) (by omega)) (fun rv h2 hq => ?_)
            obtain ⟨rfl, e9⟩ := hq
            rw [e9]
            clear e9
            rw [etp]
            show kc_Ev g (d + 8) wk_m250 _ 88 [(7, .inl (Int32.ofNat 0)), (6, .inl (Int32.ofNat (2 * k + t))), (5, .inl (Int32.ofNat (2 * m + s))), (0, .inr (.inr (.inl (some 259)))), (1, .inl (Int32.ofNat m)), (2, .inl (Int32.ofNat s)), (3, .inl (Int32.ofNat k)), (4, .inl (Int32.ofNat t))] [.inl (Int32.ofNat (fa_top A (2 * m + s)))] h
            refine kx_go 2 (pc' := 91) (L' := [(8, .inl (Int32.ofNat (fa_top A (2 * m + s)))), (7, .inl (Int32.ofNat 0)), (6, .inl (Int32.ofNat (2 * k + t))), (5, .inl (Int32.ofNat (2 * m + s))), (0, .inr (.inr (.inl (some 259)))), (1, .inl (Int32.ofNat m)), (2, .inl (Int32.ofNat s)), (3, .inl (Int32.ofNat k)), (4, .inl (Int32.ofNat t))]) (S' := [.inr (.inr (.inl (some 259)))]) (h' := h) (by with_unfolding_all rfl) ?_
            refine kx_getf (c := 259) (v := .inr (.inr (.inl (some 268)))) rfl (by decide) (kx_ofr (hw _ _ _ fa_kr.2.2.1)) ?_
            refine kx_go 2 (pc' := 97) (L' := [(8, .inl (Int32.ofNat (fa_top A (2 * m + s)))), (7, .inl (Int32.ofNat 0)), (6, .inl (Int32.ofNat (2 * k + t))), (5, .inl (Int32.ofNat (2 * m + s))), (0, .inr (.inr (.inl (some 259)))), (1, .inl (Int32.ofNat m)), (2, .inl (Int32.ofNat s)), (3, .inl (Int32.ofNat k)), (4, .inl (Int32.ofNat t))]) (S' := [.inl (Int32.ofNat (2 * m + s)), .inr (.inr (.inl (some 268))), .inl (Int32.ofNat (2 * m + s)), .inr (.inr (.inl (some 268)))]) (h' := h) (by with_unfolding_all rfl) ?_
            refine kx_iald (c := 268) (j := 2 * m + s) (m := 6) (v := .inl (Int32.ofNat (A (20 + (2 * m + s))))) rfl rfl (by decide) (by decide) (by omega) (hA.2.2.1 (2 * m + s) (by omega)) ?_
            refine kx_go 2 (pc' := 100) (L' := [(8, .inl (Int32.ofNat (fa_top A (2 * m + s)))), (7, .inl (Int32.ofNat 0)), (6, .inl (Int32.ofNat (2 * k + t))), (5, .inl (Int32.ofNat (2 * m + s))), (0, .inr (.inr (.inl (some 259)))), (1, .inl (Int32.ofNat m)), (2, .inl (Int32.ofNat s)), (3, .inl (Int32.ofNat k)), (4, .inl (Int32.ofNat t))]) (S' := [.inl ((Int32.ofNat (A (20 + (2 * m + s)))) - (Int32.ofNat 1)), .inl (Int32.ofNat (2 * m + s)), .inr (.inr (.inl (some 268)))]) (h' := h) (by with_unfolding_all rfl) ?_
            rw [kx_sub (show 1 ≤ A (20 + (2 * m + s)) by omega)]
            refine kx_iast (c := 268) (j := 2 * m + s) (m := 6) rfl rfl (by decide) (by decide) (by omega) ?_
            have H2 := fa_lo_r (v := A (20 + (2 * m + s)) - 1) s6 (Nat.sub_le _ _) hL h3 hH1
            generalize (kc_upd h 268 (2 * m + s) (.inl (Int32.ofNat (A (20 + (2 * m + s)) - 1)))) = h5 at H2 ⊢
            have k3 : (fa_s A (20 + (2 * m + s)) (A (20 + (2 * m + s)) - 1)) (20 + (2 * k + t)) < 3 := by rw [fa_sn (by omega)]; exact fa_cm_lt b3 c6
            refine kx_go 3 (pc' := 106) (L' := [(8, .inl (Int32.ofNat (fa_top A (2 * m + s)))), (7, .inl (Int32.ofNat 0)), (6, .inl (Int32.ofNat (2 * k + t))), (5, .inl (Int32.ofNat (2 * m + s))), (0, .inr (.inr (.inl (some 259)))), (1, .inl (Int32.ofNat m)), (2, .inl (Int32.ofNat s)), (3, .inl (Int32.ofNat k)), (4, .inl (Int32.ofNat t))]) (S' := [.inl (Int32.ofNat (2 * k + t)), .inl (Int32.ofNat (fa_top A (2 * m + s))), .inr (.inr (.inl (some 259)))]) (h' := h5) (by with_unfolding_all rfl) ?_
            refine kc_call_rule (M2 := wk_m248) (av := [.inr (.inr (.inl (some 259))), .inl (Int32.ofNat (fa_top A (2 * m + s))), .inl (Int32.ofNat (2 * k + t))]) (r := []) rfl rfl (kc_Con_le (fa_r248 (d := 0) hg hL (fa_h3o h3 (Nat.sub_le _ _)) H2 t6 htl k3) (by omega)) (fun rv h2 hq => ?_)
            obtain ⟨rfl, H3⟩ := hq
            show kc_Ev g (d + 8) wk_m250 _ 109 [(8, .inl (Int32.ofNat (fa_top A (2 * m + s)))), (7, .inl (Int32.ofNat 0)), (6, .inl (Int32.ofNat (2 * k + t))), (5, .inl (Int32.ofNat (2 * m + s))), (0, .inr (.inr (.inl (some 259)))), (1, .inl (Int32.ofNat m)), (2, .inl (Int32.ofNat s)), (3, .inl (Int32.ofNat k)), (4, .inl (Int32.ofNat t))] [] h2
            refine kx_go 1 (pc' := 111) (L' := [(8, .inl (Int32.ofNat (fa_top A (2 * m + s)))), (7, .inl (Int32.ofNat 0)), (6, .inl (Int32.ofNat (2 * k + t))), (5, .inl (Int32.ofNat (2 * m + s))), (0, .inr (.inr (.inl (some 259)))), (1, .inl (Int32.ofNat m)), (2, .inl (Int32.ofNat s)), (3, .inl (Int32.ofNat k)), (4, .inl (Int32.ofNat t))]) (S' := [.inl (Int32.ofNat 0)]) (h' := h2) (by with_unfolding_all rfl) ?_
            exact kc_ret_ok rfl (rv := some (.inl (Int32.ofNat 0))) rfl ⟨rfl, H3⟩
          · rw [if_pos (fa_nz (by omega) c6), if_neg c6]
            refine kx_go 1 (pc' := 111) (L' := [(7, .inl (Int32.ofNat (fa_cm B A (fa_top A (2 * m + s)) (2 * k + t) k t (!decide (m = k))))), (6, .inl (Int32.ofNat (2 * k + t))), (5, .inl (Int32.ofNat (2 * m + s))), (0, .inr (.inr (.inl (some 259)))), (1, .inl (Int32.ofNat m)), (2, .inl (Int32.ofNat s)), (3, .inl (Int32.ofNat k)), (4, .inl (Int32.ofNat t))]) (S' := [.inl (Int32.ofNat (fa_cm B A (fa_top A (2 * m + s)) (2 * k + t) k t (!decide (m = k))))]) (h' := h) (by with_unfolding_all rfl) ?_
            exact kc_ret_ok rfl (rv := some (.inl (Int32.ofNat (fa_cm B A (fa_top A (2 * m + s)) (2 * k + t) k t (!decide (m = k)))))) rfl ⟨rfl, hH1⟩
      by_cases e1 : m = k
      · rw [if_neg (mt (kx_ne (by omega) (by omega)).mp (not_not_intro e1))]
        refine kx_go 3 (pc' := (if kc_cnd .ne (Int32.ofNat s).toInt (Int32.ofNat t).toInt then 32 else 30)) (L' := [(0, .inr (.inr (.inl (some 259)))), (1, .inl (Int32.ofNat m)), (2, .inl (Int32.ofNat s)), (3, .inl (Int32.ofNat k)), (4, .inl (Int32.ofNat t))]) (S' := []) (h' := h) (by with_unfolding_all rfl) ?_
        by_cases e2 : s = t
        · rw [if_neg (mt (kx_ne (by omega) (by omega)).mp (not_not_intro e2)), if_pos ⟨e1, e2⟩]
          refine kx_go 1 (pc' := 31) (L' := [(0, .inr (.inr (.inl (some 259)))), (1, .inl (Int32.ofNat m)), (2, .inl (Int32.ofNat s)), (3, .inl (Int32.ofNat k)), (4, .inl (Int32.ofNat t))]) (S' := [.inl (Int32.ofNat 1)]) (h' := h) (by with_unfolding_all rfl) ?_
          exact kc_ret_ok rfl (rv := some (.inl (Int32.ofNat 1))) rfl ⟨rfl, hH1⟩
        · rw [if_pos ((kx_ne (by omega) (by omega)).mpr e2), if_neg (fun q => e2 q.2)]
          exact mid (fun q => e2 q.2)
      · rw [if_pos ((kx_ne (by omega) (by omega)).mpr e1), if_neg (fun q => e1 q.1)]
        exact mid (fun q => e1 q.1)
    · rw [decide_eq_false c3, if_pos fa_b0f, if_neg c3]
      refine kx_go 1 (pc' := 31) (L' := [(0, .inr (.inr (.inl (some 259)))), (1, .inl (Int32.ofNat m)), (2, .inl (Int32.ofNat s)), (3, .inl (Int32.ofNat k)), (4, .inl (Int32.ofNat t))]) (S' := [.inl (Int32.ofNat 1)]) (h' := h) (by with_unfolding_all rfl) ?_
      exact kc_ret_ok rfl (rv := some (.inl (Int32.ofNat 1))) rfl ⟨rfl, hH1⟩
  · rw [decide_eq_false c2, if_pos fa_b0f, if_neg c2]
    refine kx_go 1 (pc' := 31) (L' := [(0, .inr (.inr (.inl (some 259)))), (1, .inl (Int32.ofNat m)), (2, .inl (Int32.ofNat s)), (3, .inl (Int32.ofNat k)), (4, .inl (Int32.ofNat t))]) (S' := [.inl (Int32.ofNat 1)]) (h' := h) (by with_unfolding_all rfl) ?_
    exact kc_ret_ok rfl (rv := some (.inl (Int32.ofNat 1))) rfl ⟨rfl, hH1⟩
set_option maxRecDepth 20000 in
theorem fa_r250n {g : kc_G} {d : Nat} {h0 h : kc_H} {B : Nat → Int32} {A : Nat → Nat} {D M L i : Nat} {m s k : Nat} {z : Int32} (hg : kc_ok g) (hBB : fa_BB B D M L) (hC0 : fu_B B h0) (hi : i ≤ 60) (hI : fa_I B A L i) (hH : fa_Hr h0 A L h) (hm : m < 1000) (hs : s < 1000) (c2 : ¬ (m < M ∧ s < 2)) : kc_Con g (d + 9) 250 [.inr (.inr (.inl (some 259))), .inl (Int32.ofNat m), .inl (Int32.ofNat s), .inl (Int32.ofNat k), .inl z] h (fun rv h' => rv = some (.inl (Int32.ofNat 1)) ∧ fa_Hr h0 (A) L h') := by
  have hBB1 := hBB
  obtain ⟨hB, ⟨eD, hD⟩, ⟨eM, hM⟩, eL, hL⟩ := hBB1
  have h3 := hI.2.2.2.2.2.2.1
  have hH1 := hH
  obtain ⟨hw, hA, hF⟩ := hH
  have hC := fa_hr hF hC0
  have a4 := hI.2.2.2.1
  have z1 : (B 1).toInt - 1 = (M : Int) - 1 := by rw [eM, kx_ti (by omega)]
  have z2 : (B 2).toInt - 1 = (L : Int) - 1 := by rw [eL, kx_ti (by omega)]
  refine kc_Con_new hg (M := wk_m250) rfl rfl rfl (show 5 ≤ 9 by decide) ?_
  refine kx_go 3 (pc' := 3) (L' := [(0, .inr (.inr (.inl (some 259)))), (1, .inl (Int32.ofNat m)), (2, .inl (Int32.ofNat s)), (3, .inl (Int32.ofNat k)), (4, .inl (z))]) (S' := [.inl (Int32.ofNat s), .inl (Int32.ofNat m), .inr (.inr (.inl (some 259)))]) (h' := h) (by with_unfolding_all rfl) ?_
  refine kc_call_rule (M2 := wk_m82) (av := [.inr (.inr (.inl (some 259))), .inl (Int32.ofNat m), .inl (Int32.ofNat s)]) (r := []) rfl rfl (kc_Con_le (fa_r82 (d := 0) hg hw hC hBB hm hs) (by omega)) (fun rv h2 hq => ?_)
  obtain ⟨rfl, e9⟩ := hq
  rw [e9]
  clear e9
  show kc_Ev g (d + 8) wk_m250 _ 6 [(0, .inr (.inr (.inl (some 259)))), (1, .inl (Int32.ofNat m)), (2, .inl (Int32.ofNat s)), (3, .inl (Int32.ofNat k)), (4, .inl (z))] [.inl (kp_b (decide (m < M ∧ s < 2)))] h
  refine kx_go 1 (pc' := (if kc_cnd .eq (kp_b (decide (m < M ∧ s < 2))).toInt 0 then 30 else 9)) (L' := [(0, .inr (.inr (.inl (some 259)))), (1, .inl (Int32.ofNat m)), (2, .inl (Int32.ofNat s)), (3, .inl (Int32.ofNat k)), (4, .inl (z))]) (S' := []) (h' := h) (by with_unfolding_all rfl) ?_
  rw [decide_eq_false c2, if_pos fa_b0f]
  refine kx_go 1 (pc' := 31) (L' := [(0, .inr (.inr (.inl (some 259)))), (1, .inl (Int32.ofNat m)), (2, .inl (Int32.ofNat s)), (3, .inl (Int32.ofNat k)), (4, .inl (z))]) (S' := [.inl (Int32.ofNat 1)]) (h' := h) (by with_unfolding_all rfl) ?_
  exact kc_ret_ok rfl (rv := some (.inl (Int32.ofNat 1))) rfl ⟨rfl, hH1⟩
set_option maxRecDepth 20000 in
theorem fa_c193 {g : kc_G} {d : Nat} {h0 h : kc_H} {B : Nat → Int32} {A : Nat → Nat} {D M L i : Nat} {m s : Nat} (hg : kc_ok g) (hBB : fa_BB B D M L) (hC0 : fu_C B 1 h0) (hi : i ≤ 60) (hI : fa_I B A L i) (hMx : fa_M B A M) (hH : fa_Hc h0 A L h) (hW : fa_W B A L h) (hm : m < 1000) (hs : s < 1000) : kc_Con g (d + 7) 193 [.inr (.inr (.inl (some 190))), .inl (Int32.ofNat m), .inl (Int32.ofNat s)] h (fun rv h' => rv = some (.inl (Int32.ofNat (fa_add B A M m s).1)) ∧ fa_Hc h0 ((fa_add B A M m s).2) L h' ∧ fa_W B ((fa_add B A M m s).2) L h') := by
  have hBB1 := hBB
  obtain ⟨hB, ⟨eD, hD⟩, ⟨eM, hM⟩, eL, hL⟩ := hBB1
  have h3 := hI.2.2.2.2.2.2.1
  have hH1 := hH
  obtain ⟨hw, hA, hF⟩ := hH
  have hC := fa_hc hF hC0
  have a4 := hI.2.2.2.1
  have z1 : (B 1).toInt - 1 = (M : Int) - 1 := by rw [eM, kx_ti (by omega)]
  have z2 : (B 2).toInt - 1 = (L : Int) - 1 := by rw [eL, kx_ti (by omega)]
  unfold fa_add
  refine kc_Con_new hg (M := wk_m193) rfl rfl rfl (show 3 ≤ 4 by decide) ?_
  refine kx_go 1 (pc' := 1) (L' := [(0, .inr (.inr (.inl (some 190)))), (1, .inl (Int32.ofNat m)), (2, .inl (Int32.ofNat s))]) (S' := [.inr (.inr (.inl (some 190)))]) (h' := h) (by with_unfolding_all rfl) ?_
  refine kx_getf (c := 190) (v := .inr (.inr (.inl (some 1)))) rfl (by decide) (kx_ofr (hw _ _ _ fa_k.1)) ?_
  refine kx_go 2 (pc' := 6) (L' := [(0, .inr (.inr (.inl (some 190)))), (1, .inl (Int32.ofNat m)), (2, .inl (Int32.ofNat s))]) (S' := [.inl (Int32.ofNat s), .inl (Int32.ofNat m), .inr (.inr (.inl (some 1)))]) (h' := h) (by with_unfolding_all rfl) ?_
  refine kc_call_rule (M2 := wk_m37) (av := [.inr (.inr (.inl (some 1))), .inl (Int32.ofNat m), .inl (Int32.ofNat s)]) (r := []) rfl rfl (kc_Con_le (fu_c37 (d := 0) hg hC hB) (by omega)) (fun rv h2 hq => ?_)
  obtain ⟨rfl, e9⟩ := hq
  rw [e9]
  clear e9
  rw [fa_inb hm z1, fa_inb (u := 2) (z := 1) hs rfl, fa_dn]
  show kc_Ev g (d + 6) wk_m193 _ 9 [(0, .inr (.inr (.inl (some 190)))), (1, .inl (Int32.ofNat m)), (2, .inl (Int32.ofNat s))] [.inl (kp_b (decide (m < M ∧ s < 2)))] h
  refine kx_go 1 (pc' := (if kc_cnd .ne (kp_b (decide (m < M ∧ s < 2))).toInt 0 then 14 else 12)) (L' := [(0, .inr (.inr (.inl (some 190)))), (1, .inl (Int32.ofNat m)), (2, .inl (Int32.ofNat s))]) (S' := []) (h' := h) (by with_unfolding_all rfl) ?_
  by_cases c2 : m < M ∧ s < 2
  · rw [decide_eq_true c2, if_pos fa_b1t, if_pos c2]
    have s6 : 2 * m + s < 6 := by omega
    have a5 := hI.2.2.2.2.2.2.2.1 (2 * m + s) s6
    have a6 := hI.2.2.2.2.2.2.2.2.2.1 (A 4) a4
    have n4 := (fa_n4 hB).2
    refine kx_go 1 (pc' := 15) (L' := [(0, .inr (.inr (.inl (some 190)))), (1, .inl (Int32.ofNat m)), (2, .inl (Int32.ofNat s))]) (S' := [.inr (.inr (.inl (some 190)))]) (h' := h) (by with_unfolding_all rfl) ?_
    refine kx_getf (c := 190) (v := .inr (.inr (.inl (some 201)))) rfl (by decide) (kx_ofr (hw _ _ _ fa_k.2.2.2.2.2.2.1)) ?_
    refine kx_go 1 (pc' := 19) (L' := [(0, .inr (.inr (.inl (some 190)))), (1, .inl (Int32.ofNat m)), (2, .inl (Int32.ofNat s))]) (S' := [.inr (.inr (.inl (some 190))), .inr (.inr (.inl (some 201)))]) (h' := h) (by with_unfolding_all rfl) ?_
    refine kx_getf (c := 190) (v := .inl (Int32.ofNat (A 4))) rfl (by decide) hA.1.2.2.2.2.1 ?_
    refine kx_iald (c := 201) (j := A 4) (m := 6) (v := .inl (Int32.ofNat (A (60 + (A 4))))) rfl rfl (by decide) (by decide) (by omega) (hA.2.2.2.2.2.1 (A 4) (by omega)) ?_
    refine kx_go 1 (pc' := (if kc_cnd .ne (Int32.ofNat (A (60 + (A 4)))).toInt 0 then 28 else 26)) (L' := [(0, .inr (.inr (.inl (some 190)))), (1, .inl (Int32.ofNat m)), (2, .inl (Int32.ofNat s))]) (S' := []) (h' := h) (by with_unfolding_all rfl) ?_
    by_cases c3 : A (60 + A 4) = 0
    · rw [if_neg (fa_z (by omega) c3), if_pos c3]
      refine kx_go 1 (pc' := 27) (L' := [(0, .inr (.inr (.inl (some 190)))), (1, .inl (Int32.ofNat m)), (2, .inl (Int32.ofNat s))]) (S' := [.inl (Int32.ofNat 2)]) (h' := h) (by with_unfolding_all rfl) ?_
      exact kc_ret_ok rfl (rv := some (.inl (Int32.ofNat 2))) rfl ⟨rfl, hH1, hW⟩
    · rw [if_pos (fa_nz (by omega) c3), if_neg c3]
      refine kx_go 8 (pc' := 36) (L' := [(3, .inl (((Int32.ofNat 2) * (Int32.ofNat m)) + (Int32.ofNat s))), (0, .inr (.inr (.inl (some 190)))), (1, .inl (Int32.ofNat m)), (2, .inl (Int32.ofNat s))]) (S' := [.inr (.inr (.inl (some 190))), .inr (.inr (.inl (some 190)))]) (h' := h) (by with_unfolding_all rfl) ?_
      refine kx_getf (c := 190) (v := .inr (.inr (.inl (some 1)))) rfl (by decide) (kx_ofr (hw _ _ _ fa_k.1)) ?_
      refine kx_getf (c := 1) (v := .inr (.inr (.inl (some 26)))) rfl (by decide) (kx_ofr (hw _ _ _ fu_kr.2.2.2.2.2.1)) ?_
      refine kx_go 1 (pc' := 43) (L' := [(3, .inl (((Int32.ofNat 2) * (Int32.ofNat m)) + (Int32.ofNat s))), (0, .inr (.inr (.inl (some 190)))), (1, .inl (Int32.ofNat m)), (2, .inl (Int32.ofNat s))]) (S' := [.inl (Int32.ofNat 0), .inr (.inr (.inl (some 26))), .inr (.inr (.inl (some 190)))]) (h' := h) (by with_unfolding_all rfl) ?_
      refine kx_iald (c := 26) (j := 0) (m := 2) (v := .inl (Int32.ofNat (fa_n B 4))) rfl rfl (by decide) (by decide) (by decide) ((fu_Cj (c := 25) (i := 0) hC (by decide) (by decide) fu_f0.2.2.2.2.2.1).trans (by rw [← (fa_n4 hB).1])) ?_
      refine kx_go 2 (pc' := 46) (L' := [(3, .inl (((Int32.ofNat 2) * (Int32.ofNat m)) + (Int32.ofNat s))), (0, .inr (.inr (.inl (some 190)))), (1, .inl (Int32.ofNat m)), (2, .inl (Int32.ofNat s))]) (S' := [.inl (Int32.ofNat 1), .inl (((Int32.ofNat 2) * (Int32.ofNat m)) + (Int32.ofNat s)), .inl (Int32.ofNat (fa_n B 4)), .inr (.inr (.inl (some 190)))]) (h' := h) (by with_unfolding_all rfl) ?_
      rw [kx_mul, kx_add]
      show kc_Ev g (d + 6) wk_m193 _ 46 [(3, .inl (Int32.ofNat (2 * m + s))), (0, .inr (.inr (.inl (some 190)))), (1, .inl (Int32.ofNat m)), (2, .inl (Int32.ofNat s))] [.inl (kp_b true), .inl (Int32.ofNat (2 * m + s)), .inl (Int32.ofNat (fa_n B 4)), .inr (.inr (.inl (some 190)))] h
      refine kc_call_rule (M2 := wk_m188) (av := [.inr (.inr (.inl (some 190))), .inl (Int32.ofNat (fa_n B 4)), .inl (Int32.ofNat (2 * m + s)), .inl (kp_b true)]) (r := []) rfl rfl (kc_Con_le (fa_c188 (d := 0) rfl (show m < 3 by omega) c2.2 hg hw hC hB hL hi hI hA hW hMx c2.1 (show fa_n B 4 ≤ 200 by omega)) (by omega)) (fun rv h2 hq => ?_)
      obtain ⟨rfl, e9⟩ := hq
      rw [e9]
      clear e9
      show kc_Ev g (d + 6) wk_m193 _ 49 [(3, .inl (Int32.ofNat (2 * m + s))), (0, .inr (.inr (.inl (some 190)))), (1, .inl (Int32.ofNat m)), (2, .inl (Int32.ofNat s))] [.inl (kp_b (!fa_ok B A m s (fa_n B 4) true))] h
      refine kx_go 1 (pc' := (if kc_cnd .eq (kp_b (!fa_ok B A m s (fa_n B 4) true)).toInt 0 then 54 else 52)) (L' := [(3, .inl (Int32.ofNat (2 * m + s))), (0, .inr (.inr (.inl (some 190)))), (1, .inl (Int32.ofNat m)), (2, .inl (Int32.ofNat s))]) (S' := []) (h' := h) (by with_unfolding_all rfl) ?_
      cases e : fa_ok B A m s (fa_n B 4) true with
      | false =>
        rw [show (!false) = true from rfl, if_neg fa_b0t, if_neg (show ¬ (false = true) from Bool.false_ne_true)]
        refine kx_go 1 (pc' := 53) (L' := [(3, .inl (Int32.ofNat (2 * m + s))), (0, .inr (.inr (.inl (some 190)))), (1, .inl (Int32.ofNat m)), (2, .inl (Int32.ofNat s))]) (S' := [.inl (Int32.ofNat 5)]) (h' := h) (by with_unfolding_all rfl) ?_
        exact kc_ret_ok rfl (rv := some (.inl (Int32.ofNat 5))) rfl ⟨rfl, hH1, hW⟩
      | true =>
        rw [show (!true) = false from rfl, if_pos fa_b0f, if_pos (show true = true from rfl)]
        refine kx_go 1 (pc' := 55) (L' := [(3, .inl (Int32.ofNat (2 * m + s))), (0, .inr (.inr (.inl (some 190)))), (1, .inl (Int32.ofNat m)), (2, .inl (Int32.ofNat s))]) (S' := [.inr (.inr (.inl (some 190)))]) (h' := h) (by with_unfolding_all rfl) ?_
        refine kx_getf (c := 190) (v := .inr (.inr (.inl (some 201)))) rfl (by decide) (kx_ofr (hw _ _ _ fa_k.2.2.2.2.2.2.1)) ?_
        refine kx_go 1 (pc' := 59) (L' := [(3, .inl (Int32.ofNat (2 * m + s))), (0, .inr (.inr (.inl (some 190)))), (1, .inl (Int32.ofNat m)), (2, .inl (Int32.ofNat s))]) (S' := [.inr (.inr (.inl (some 190))), .inr (.inr (.inl (some 201)))]) (h' := h) (by with_unfolding_all rfl) ?_
        refine kx_getf (c := 190) (v := .inl (Int32.ofNat (A 4))) rfl (by decide) hA.1.2.2.2.2.1 ?_
        refine kx_go 1 (pc' := 63) (L' := [(3, .inl (Int32.ofNat (2 * m + s))), (0, .inr (.inr (.inl (some 190)))), (1, .inl (Int32.ofNat m)), (2, .inl (Int32.ofNat s))]) (S' := [.inl (Int32.ofNat (A 4)), .inr (.inr (.inl (some 201))), .inl (Int32.ofNat (A 4)), .inr (.inr (.inl (some 201)))]) (h' := h) (by with_unfolding_all rfl) ?_
        refine kx_iald (c := 201) (j := A 4) (m := 6) (v := .inl (Int32.ofNat (A (60 + (A 4))))) rfl rfl (by decide) (by decide) (by omega) (hA.2.2.2.2.2.1 (A 4) (by omega)) ?_
        refine kx_go 2 (pc' := 66) (L' := [(3, .inl (Int32.ofNat (2 * m + s))), (0, .inr (.inr (.inl (some 190)))), (1, .inl (Int32.ofNat m)), (2, .inl (Int32.ofNat s))]) (S' := [.inl ((Int32.ofNat (A (60 + (A 4)))) - (Int32.ofNat 1)), .inl (Int32.ofNat (A 4)), .inr (.inr (.inl (some 201)))]) (h' := h) (by with_unfolding_all rfl) ?_
        rw [kx_sub (show 1 ≤ A (60 + A 4) by omega)]
        refine kx_iast (c := 201) (j := A 4) (m := 6) rfl rfl (by decide) (by decide) (by omega) ?_
        have H2 := fa_li_c (v := A (60 + A 4) - 1) a4 hL h3 hH1
        have e8 : (kc_upd h 201 (A 4) (.inl (Int32.ofNat (A (60 + A 4) - 1)))) 193 (2 * m + s) = .inl (Int32.ofNat (A (30 + (2 * m + s)))) := (fu_ne (fun q => by omega)).trans (hA.2.2.2.1 (2 * m + s) s6)
        have W2 : fa_W B (fa_s A (60 + A 4) (A (60 + A 4) - 1)) L (kc_upd h 201 (A 4) (.inl (Int32.ofNat (A (60 + A 4) - 1)))) := fa_W_s (by decide) (by omega) hW
        generalize (kc_upd h 201 (A 4) (.inl (Int32.ofNat (A (60 + A 4) - 1)))) = h2 at H2 e8 W2 ⊢
        have hw2 := H2.1
        refine kx_go 1 (pc' := 68) (L' := [(3, .inl (Int32.ofNat (2 * m + s))), (0, .inr (.inr (.inl (some 190)))), (1, .inl (Int32.ofNat m)), (2, .inl (Int32.ofNat s))]) (S' := [.inr (.inr (.inl (some 190)))]) (h' := h2) (by with_unfolding_all rfl) ?_
        refine kx_getf (c := 190) (v := .inr (.inr (.inl (some 193)))) rfl (by decide) (kx_ofr (hw2 _ _ _ fa_k.2.2.2.2.1)) ?_
        refine kx_go 2 (pc' := 73) (L' := [(3, .inl (Int32.ofNat (2 * m + s))), (0, .inr (.inr (.inl (some 190)))), (1, .inl (Int32.ofNat m)), (2, .inl (Int32.ofNat s))]) (S' := [.inl (Int32.ofNat (2 * m + s)), .inr (.inr (.inl (some 193))), .inl (Int32.ofNat (2 * m + s)), .inr (.inr (.inl (some 193)))]) (h' := h2) (by with_unfolding_all rfl) ?_
        refine kx_iald (c := 193) (j := 2 * m + s) (m := 6) (v := .inl (Int32.ofNat (A (30 + (2 * m + s))))) rfl rfl (by decide) (by decide) (by omega) e8 ?_
        refine kx_go 2 (pc' := 76) (L' := [(3, .inl (Int32.ofNat (2 * m + s))), (0, .inr (.inr (.inl (some 190)))), (1, .inl (Int32.ofNat m)), (2, .inl (Int32.ofNat s))]) (S' := [.inl ((Int32.ofNat (A (30 + (2 * m + s)))) + (Int32.ofNat 1)), .inl (Int32.ofNat (2 * m + s)), .inr (.inr (.inl (some 193)))]) (h' := h2) (by with_unfolding_all rfl) ?_
        rw [kx_add]
        refine kx_iast (c := 193) (j := 2 * m + s) (m := 6) rfl rfl (by decide) (by decide) (by omega) ?_
        refine kx_go 1 (pc' := 78) (L' := [(3, .inl (Int32.ofNat (2 * m + s))), (0, .inr (.inr (.inl (some 190)))), (1, .inl (Int32.ofNat m)), (2, .inl (Int32.ofNat s))]) (S' := [.inl (Int32.ofNat 0)]) (h' := (kc_upd h2 193 (2 * m + s) (.inl (Int32.ofNat (A (30 + (2 * m + s)) + 1))))) (by with_unfolding_all rfl) ?_
        exact kc_ret_ok rfl (rv := some (.inl (Int32.ofNat 0))) rfl ⟨rfl, fa_st_c (v := A (30 + (2 * m + s)) + 1) s6 hL (fun t ht => by rw [fa_sn (by omega)]; exact h3 t ht) H2, fa_W_s (by decide) (by omega) W2⟩
  · rw [decide_eq_false c2, if_neg fa_b1f, if_neg c2]
    refine kx_go 1 (pc' := 13) (L' := [(0, .inr (.inr (.inl (some 190)))), (1, .inl (Int32.ofNat m)), (2, .inl (Int32.ofNat s))]) (S' := [.inl (Int32.ofNat 1)]) (h' := h) (by with_unfolding_all rfl) ?_
    exact kc_ret_ok rfl (rv := some (.inl (Int32.ofNat 1))) rfl ⟨rfl, hH1, hW⟩
set_option maxRecDepth 20000 in
theorem fa_r251 {g : kc_G} {d : Nat} {h0 h : kc_H} {B : Nat → Int32} {A : Nat → Nat} {D M L i : Nat} {m s : Nat} (hg : kc_ok g) (hBB : fa_BB B D M L) (hC0 : fu_B B h0) (hi : i ≤ 60) (hI : fa_I B A L i) (hH : fa_Hr h0 A L h) (hm : m < 1000) (hs : s < 1000) : kc_Con g (d + 7) 251 [.inr (.inr (.inl (some 259))), .inl (Int32.ofNat m), .inl (Int32.ofNat s)] h (fun rv h' => rv = some (.inl (Int32.ofNat (fa_add B A M m s).1)) ∧ fa_Hr h0 ((fa_add B A M m s).2) L h') := by
  have hBB1 := hBB
  obtain ⟨hB, ⟨eD, hD⟩, ⟨eM, hM⟩, eL, hL⟩ := hBB1
  have h3 := hI.2.2.2.2.2.2.1
  have hH1 := hH
  obtain ⟨hw, hA, hF⟩ := hH
  have hC := fa_hr hF hC0
  have a4 := hI.2.2.2.1
  have z1 : (B 1).toInt - 1 = (M : Int) - 1 := by rw [eM, kx_ti (by omega)]
  have z2 : (B 2).toInt - 1 = (L : Int) - 1 := by rw [eL, kx_ti (by omega)]
  unfold fa_add
  refine kc_Con_new hg (M := wk_m251) rfl rfl rfl (show 3 ≤ 3 by decide) ?_
  refine kx_go 3 (pc' := 3) (L' := [(0, .inr (.inr (.inl (some 259)))), (1, .inl (Int32.ofNat m)), (2, .inl (Int32.ofNat s))]) (S' := [.inl (Int32.ofNat s), .inl (Int32.ofNat m), .inr (.inr (.inl (some 259)))]) (h' := h) (by with_unfolding_all rfl) ?_
  refine kc_call_rule (M2 := wk_m82) (av := [.inr (.inr (.inl (some 259))), .inl (Int32.ofNat m), .inl (Int32.ofNat s)]) (r := []) rfl rfl (kc_Con_le (fa_r82 (d := 0) hg hw hC hBB hm hs) (by omega)) (fun rv h2 hq => ?_)
  obtain ⟨rfl, e9⟩ := hq
  rw [e9]
  clear e9
  show kc_Ev g (d + 6) wk_m251 _ 6 [(0, .inr (.inr (.inl (some 259)))), (1, .inl (Int32.ofNat m)), (2, .inl (Int32.ofNat s))] [.inl (kp_b (decide (m < M ∧ s < 2)))] h
  refine kx_go 1 (pc' := (if kc_cnd .ne (kp_b (decide (m < M ∧ s < 2))).toInt 0 then 11 else 9)) (L' := [(0, .inr (.inr (.inl (some 259)))), (1, .inl (Int32.ofNat m)), (2, .inl (Int32.ofNat s))]) (S' := []) (h' := h) (by with_unfolding_all rfl) ?_
  by_cases c2 : m < M ∧ s < 2
  · rw [decide_eq_true c2, if_pos fa_b1t, if_pos c2]
    have s6 : 2 * m + s < 6 := by omega
    have a5 := hI.2.2.2.2.2.2.2.1 (2 * m + s) s6
    have a6 := hI.2.2.2.2.2.2.2.2.2.1 (A 4) a4
    have n4 := (fa_n4 hB).2
    refine kx_go 1 (pc' := 12) (L' := [(0, .inr (.inr (.inl (some 259)))), (1, .inl (Int32.ofNat m)), (2, .inl (Int32.ofNat s))]) (S' := [.inr (.inr (.inl (some 259)))]) (h' := h) (by with_unfolding_all rfl) ?_
    refine kx_getf (c := 259) (v := .inr (.inr (.inl (some 270)))) rfl (by decide) (kx_ofr (hw _ _ _ fa_kr.2.2.2.2.1)) ?_
    refine kx_go 1 (pc' := 16) (L' := [(0, .inr (.inr (.inl (some 259)))), (1, .inl (Int32.ofNat m)), (2, .inl (Int32.ofNat s))]) (S' := [.inr (.inr (.inl (some 259))), .inr (.inr (.inl (some 270)))]) (h' := h) (by with_unfolding_all rfl) ?_
    refine kx_getf (c := 259) (v := .inl (Int32.ofNat (A 4))) rfl (by decide) hA.1.2.2.2.2.1 ?_
    refine kx_iald (c := 270) (j := A 4) (m := 6) (v := .inl (Int32.ofNat (A (60 + (A 4))))) rfl rfl (by decide) (by decide) (by omega) (hA.2.2.2.2.2.1 (A 4) (by omega)) ?_
    refine kx_go 1 (pc' := (if kc_cnd .ne (Int32.ofNat (A (60 + (A 4)))).toInt 0 then 25 else 23)) (L' := [(0, .inr (.inr (.inl (some 259)))), (1, .inl (Int32.ofNat m)), (2, .inl (Int32.ofNat s))]) (S' := []) (h' := h) (by with_unfolding_all rfl) ?_
    by_cases c3 : A (60 + A 4) = 0
    · rw [if_neg (fa_z (by omega) c3), if_pos c3]
      refine kx_go 1 (pc' := 24) (L' := [(0, .inr (.inr (.inl (some 259)))), (1, .inl (Int32.ofNat m)), (2, .inl (Int32.ofNat s))]) (S' := [.inl (Int32.ofNat 2)]) (h' := h) (by with_unfolding_all rfl) ?_
      exact kc_ret_ok rfl (rv := some (.inl (Int32.ofNat 2))) rfl ⟨rfl, hH1⟩
    · rw [if_pos (fa_nz (by omega) c3), if_neg c3]
      refine kx_go 7 (pc' := 32) (L' := [(0, .inr (.inr (.inl (some 259)))), (1, .inl (Int32.ofNat m)), (2, .inl (Int32.ofNat s))]) (S' := [.inr (.inr (.inl (some 259))), .inl (((Int32.ofNat 2) * (Int32.ofNat m)) + (Int32.ofNat s)), .inr (.inr (.inl (some 259)))]) (h' := h) (by with_unfolding_all rfl) ?_
      refine kx_getf (c := 259) (v := .inr (.inr (.inl (some 260)))) rfl (by decide) (kx_ofr (hw _ _ _ kz_k.1)) ?_
      refine kx_go 1 (pc' := 36) (L' := [(0, .inr (.inr (.inl (some 259)))), (1, .inl (Int32.ofNat m)), (2, .inl (Int32.ofNat s))]) (S' := [.inl (Int32.ofNat 4), .inr (.inr (.inl (some 260))), .inl (((Int32.ofNat 2) * (Int32.ofNat m)) + (Int32.ofNat s)), .inr (.inr (.inl (some 259)))]) (h' := h) (by with_unfolding_all rfl) ?_
      refine kx_iald (c := 260) (j := 4) (m := 650) (v := .inl (Int32.ofNat (fa_n B 4))) rfl rfl (by decide) (by decide) (by decide) ((hC 4 (by decide) (by decide)).trans (by rw [← (fa_n4 hB).1])) ?_
      refine kx_go 1 (pc' := 38) (L' := [(0, .inr (.inr (.inl (some 259)))), (1, .inl (Int32.ofNat m)), (2, .inl (Int32.ofNat s))]) (S' := [.inl (Int32.ofInt (-1)), .inl (Int32.ofNat (fa_n B 4)), .inl (((Int32.ofNat 2) * (Int32.ofNat m)) + (Int32.ofNat s)), .inr (.inr (.inl (some 259)))]) (h' := h) (by with_unfolding_all rfl) ?_
      rw [kx_mul, kx_add]
      refine kc_call_rule (M2 := wk_m244) (av := [.inr (.inr (.inl (some 259))), .inl (Int32.ofNat (2 * m + s)), .inl (Int32.ofNat (fa_n B 4)), .inl (Int32.ofInt (-1))]) (r := []) rfl rfl (kc_Con_le (fa_r244n (d := 0) rfl (show m < 3 by omega) c2.2 hg hw hC hB hL hi hI hA (show fa_n B 4 ≤ 200 by omega)) (by omega)) (fun rv h2 hq => ?_)
      obtain ⟨rfl, e9⟩ := hq
      rw [e9]
      clear e9
      show kc_Ev g (d + 6) wk_m251 _ 41 [(0, .inr (.inr (.inl (some 259)))), (1, .inl (Int32.ofNat m)), (2, .inl (Int32.ofNat s))] [.inl (kp_b (fa_ok B A m s (fa_n B 4) true))] h
      refine kx_go 1 (pc' := (if kc_cnd .ne (kp_b (fa_ok B A m s (fa_n B 4) true)).toInt 0 then 46 else 44)) (L' := [(0, .inr (.inr (.inl (some 259)))), (1, .inl (Int32.ofNat m)), (2, .inl (Int32.ofNat s))]) (S' := []) (h' := h) (by with_unfolding_all rfl) ?_
      cases e : fa_ok B A m s (fa_n B 4) true with
      | false =>
        rw [if_neg fa_b1f, if_neg (show ¬ (false = true) from Bool.false_ne_true)]
        refine kx_go 1 (pc' := 45) (L' := [(0, .inr (.inr (.inl (some 259)))), (1, .inl (Int32.ofNat m)), (2, .inl (Int32.ofNat s))]) (S' := [.inl (Int32.ofNat 5)]) (h' := h) (by with_unfolding_all rfl) ?_
        exact kc_ret_ok rfl (rv := some (.inl (Int32.ofNat 5))) rfl ⟨rfl, hH1⟩
      | true =>
        rw [if_pos fa_b1t, if_pos (show true = true from rfl)]
        refine kx_go 1 (pc' := 47) (L' := [(0, .inr (.inr (.inl (some 259)))), (1, .inl (Int32.ofNat m)), (2, .inl (Int32.ofNat s))]) (S' := [.inr (.inr (.inl (some 259)))]) (h' := h) (by with_unfolding_all rfl) ?_
        refine kx_getf (c := 259) (v := .inr (.inr (.inl (some 270)))) rfl (by decide) (kx_ofr (hw _ _ _ fa_kr.2.2.2.2.1)) ?_
        refine kx_go 1 (pc' := 51) (L' := [(0, .inr (.inr (.inl (some 259)))), (1, .inl (Int32.ofNat m)), (2, .inl (Int32.ofNat s))]) (S' := [.inr (.inr (.inl (some 259))), .inr (.inr (.inl (some 270)))]) (h' := h) (by with_unfolding_all rfl) ?_
        refine kx_getf (c := 259) (v := .inl (Int32.ofNat (A 4))) rfl (by decide) hA.1.2.2.2.2.1 ?_
        refine kx_go 1 (pc' := 55) (L' := [(0, .inr (.inr (.inl (some 259)))), (1, .inl (Int32.ofNat m)), (2, .inl (Int32.ofNat s))]) (S' := [.inl (Int32.ofNat (A 4)), .inr (.inr (.inl (some 270))), .inl (Int32.ofNat (A 4)), .inr (.inr (.inl (some 270)))]) (h' := h) (by with_unfolding_all rfl) ?_
        refine kx_iald (c := 270) (j := A 4) (m := 6) (v := .inl (Int32.ofNat (A (60 + (A 4))))) rfl rfl (by decide) (by decide) (by omega) (hA.2.2.2.2.2.1 (A 4) (by omega)) ?_
        refine kx_go 2 (pc' := 58) (L' := [(0, .inr (.inr (.inl (some 259)))), (1, .inl (Int32.ofNat m)), (2, .inl (Int32.ofNat s))]) (S' := [.inl ((Int32.ofNat (A (60 + (A 4)))) - (Int32.ofNat 1)), .inl (Int32.ofNat (A 4)), .inr (.inr (.inl (some 270)))]) (h' := h) (by with_unfolding_all rfl) ?_
        rw [kx_sub (show 1 ≤ A (60 + A 4) by omega)]
        refine kx_iast (c := 270) (j := A 4) (m := 6) rfl rfl (by decide) (by decide) (by omega) ?_
        have H2 := fa_li_r (v := A (60 + A 4) - 1) a4 hL h3 hH1
        have e8 : (kc_upd h 270 (A 4) (.inl (Int32.ofNat (A (60 + A 4) - 1)))) 269 (2 * m + s) = .inl (Int32.ofNat (A (30 + (2 * m + s)))) := (fu_ne (fun q => by omega)).trans (hA.2.2.2.1 (2 * m + s) s6)
        generalize (kc_upd h 270 (A 4) (.inl (Int32.ofNat (A (60 + A 4) - 1)))) = h2 at H2 e8 ⊢
        have hw2 := H2.1
        refine kx_go 1 (pc' := 60) (L' := [(0, .inr (.inr (.inl (some 259)))), (1, .inl (Int32.ofNat m)), (2, .inl (Int32.ofNat s))]) (S' := [.inr (.inr (.inl (some 259)))]) (h' := h2) (by with_unfolding_all rfl) ?_
        refine kx_getf (c := 259) (v := .inr (.inr (.inl (some 269)))) rfl (by decide) (kx_ofr (hw2 _ _ _ fa_kr.2.2.2.1)) ?_
        refine kx_go 6 (pc' := 69) (L' := [(0, .inr (.inr (.inl (some 259)))), (1, .inl (Int32.ofNat m)), (2, .inl (Int32.ofNat s))]) (S' := [.inl (((Int32.ofNat 2) * (Int32.ofNat m)) + (Int32.ofNat s)), .inr (.inr (.inl (some 269))), .inl (((Int32.ofNat 2) * (Int32.ofNat m)) + (Int32.ofNat s)), .inr (.inr (.inl (some 269)))]) (h' := h2) (by with_unfolding_all rfl) ?_
        rw [kx_mul, kx_add]
        refine kx_iald (c := 269) (j := 2 * m + s) (m := 6) (v := .inl (Int32.ofNat (A (30 + (2 * m + s))))) rfl rfl (by decide) (by decide) (by omega) e8 ?_
        refine kx_go 2 (pc' := 72) (L' := [(0, .inr (.inr (.inl (some 259)))), (1, .inl (Int32.ofNat m)), (2, .inl (Int32.ofNat s))]) (S' := [.inl ((Int32.ofNat (A (30 + (2 * m + s)))) + (Int32.ofNat 1)), .inl (Int32.ofNat (2 * m + s)), .inr (.inr (.inl (some 269)))]) (h' := h2) (by with_unfolding_all rfl) ?_
        rw [kx_add]
        refine kx_iast (c := 269) (j := 2 * m + s) (m := 6) rfl rfl (by decide) (by decide) (by omega) ?_
        refine kx_go 1 (pc' := 74) (L' := [(0, .inr (.inr (.inl (some 259)))), (1, .inl (Int32.ofNat m)), (2, .inl (Int32.ofNat s))]) (S' := [.inl (Int32.ofNat 0)]) (h' := (kc_upd h2 269 (2 * m + s) (.inl (Int32.ofNat (A (30 + (2 * m + s)) + 1))))) (by with_unfolding_all rfl) ?_
        exact kc_ret_ok rfl (rv := some (.inl (Int32.ofNat 0))) rfl ⟨rfl, fa_st_r (v := A (30 + (2 * m + s)) + 1) s6 hL (fun t ht => by rw [fa_sn (by omega)]; exact h3 t ht) H2⟩
  · rw [decide_eq_false c2, if_neg fa_b1f, if_neg c2]
    refine kx_go 1 (pc' := 10) (L' := [(0, .inr (.inr (.inl (some 259)))), (1, .inl (Int32.ofNat m)), (2, .inl (Int32.ofNat s))]) (S' := [.inl (Int32.ofNat 1)]) (h' := h) (by with_unfolding_all rfl) ?_
    exact kc_ret_ok rfl (rv := some (.inl (Int32.ofNat 1))) rfl ⟨rfl, hH1⟩
set_option maxRecDepth 20000 in
theorem fa_c194 {g : kc_G} {d : Nat} {h0 h : kc_H} {B : Nat → Int32} {A : Nat → Nat} {D M L i : Nat} {m s : Nat} (hg : kc_ok g) (hBB : fa_BB B D M L) (hC0 : fu_C B 1 h0) (hi : i ≤ 60) (hI : fa_I B A L i) (hMx : fa_M B A M) (hH : fa_Hc h0 A L h) (hW : fa_W B A L h) (hm : m < 1000) (hs : s < 1000) : kc_Con g (d + 7) 194 [.inr (.inr (.inl (some 190))), .inl (Int32.ofNat m), .inl (Int32.ofNat s)] h (fun rv h' => rv = some (.inl (Int32.ofNat (fa_drop A M m s).1)) ∧ fa_Hc h0 ((fa_drop A M m s).2) L h' ∧ fa_W B ((fa_drop A M m s).2) L h') := by
  have hBB1 := hBB
  obtain ⟨hB, ⟨eD, hD⟩, ⟨eM, hM⟩, eL, hL⟩ := hBB1
  have h3 := hI.2.2.2.2.2.2.1
  have hH1 := hH
  obtain ⟨hw, hA, hF⟩ := hH
  have hC := fa_hc hF hC0
  have a4 := hI.2.2.2.1
  have z1 : (B 1).toInt - 1 = (M : Int) - 1 := by rw [eM, kx_ti (by omega)]
  have z2 : (B 2).toInt - 1 = (L : Int) - 1 := by rw [eL, kx_ti (by omega)]
  unfold fa_drop
  refine kc_Con_new hg (M := wk_m194) rfl rfl rfl (show 3 ≤ 4 by decide) ?_
  refine kx_go 1 (pc' := 1) (L' := [(0, .inr (.inr (.inl (some 190)))), (1, .inl (Int32.ofNat m)), (2, .inl (Int32.ofNat s))]) (S' := [.inr (.inr (.inl (some 190)))]) (h' := h) (by with_unfolding_all rfl) ?_
  refine kx_getf (c := 190) (v := .inr (.inr (.inl (some 1)))) rfl (by decide) (kx_ofr (hw _ _ _ fa_k.1)) ?_
  refine kx_go 2 (pc' := 6) (L' := [(0, .inr (.inr (.inl (some 190)))), (1, .inl (Int32.ofNat m)), (2, .inl (Int32.ofNat s))]) (S' := [.inl (Int32.ofNat s), .inl (Int32.ofNat m), .inr (.inr (.inl (some 1)))]) (h' := h) (by with_unfolding_all rfl) ?_
  refine kc_call_rule (M2 := wk_m37) (av := [.inr (.inr (.inl (some 1))), .inl (Int32.ofNat m), .inl (Int32.ofNat s)]) (r := []) rfl rfl (kc_Con_le (fu_c37 (d := 0) hg hC hB) (by omega)) (fun rv h2 hq => ?_)
  obtain ⟨rfl, e9⟩ := hq
  rw [e9]
  clear e9
  rw [fa_inb hm z1, fa_inb (u := 2) (z := 1) hs rfl, fa_dn]
  show kc_Ev g (d + 6) wk_m194 _ 9 [(0, .inr (.inr (.inl (some 190)))), (1, .inl (Int32.ofNat m)), (2, .inl (Int32.ofNat s))] [.inl (kp_b (decide (m < M ∧ s < 2)))] h
  refine kx_go 1 (pc' := (if kc_cnd .ne (kp_b (decide (m < M ∧ s < 2))).toInt 0 then 14 else 12)) (L' := [(0, .inr (.inr (.inl (some 190)))), (1, .inl (Int32.ofNat m)), (2, .inl (Int32.ofNat s))]) (S' := []) (h' := h) (by with_unfolding_all rfl) ?_
  by_cases c2 : m < M ∧ s < 2
  · rw [decide_eq_true c2, if_pos fa_b1t, if_pos c2]
    have s6 : 2 * m + s < 6 := by omega
    have a5 := hI.2.2.2.2.2.2.2.1 (2 * m + s) s6
    have a6 := hI.2.2.2.2.2.2.2.2.2.1 (A 4) a4
    have n4 := (fa_n4 hB).2
    refine kx_go 7 (pc' := 21) (L' := [(3, .inl (((Int32.ofNat 2) * (Int32.ofNat m)) + (Int32.ofNat s))), (0, .inr (.inr (.inl (some 190)))), (1, .inl (Int32.ofNat m)), (2, .inl (Int32.ofNat s))]) (S' := [.inr (.inr (.inl (some 190)))]) (h' := h) (by with_unfolding_all rfl) ?_
    refine kx_getf (c := 190) (v := .inr (.inr (.inl (some 193)))) rfl (by decide) (kx_ofr (hw _ _ _ fa_k.2.2.2.2.1)) ?_
    refine kx_go 1 (pc' := 25) (L' := [(3, .inl (((Int32.ofNat 2) * (Int32.ofNat m)) + (Int32.ofNat s))), (0, .inr (.inr (.inl (some 190)))), (1, .inl (Int32.ofNat m)), (2, .inl (Int32.ofNat s))]) (S' := [.inl (((Int32.ofNat 2) * (Int32.ofNat m)) + (Int32.ofNat s)), .inr (.inr (.inl (some 193)))]) (h' := h) (by with_unfolding_all rfl) ?_
    rw [kx_mul, kx_add]
    refine kx_iald (c := 193) (j := 2 * m + s) (m := 6) (v := .inl (Int32.ofNat (A (30 + (2 * m + s))))) rfl rfl (by decide) (by decide) (by omega) (hA.2.2.2.1 (2 * m + s) (by omega)) ?_
    refine kx_go 1 (pc' := (if kc_cnd .ne (Int32.ofNat (A (30 + (2 * m + s)))).toInt 0 then 31 else 29)) (L' := [(3, .inl (Int32.ofNat (2 * m + s))), (0, .inr (.inr (.inl (some 190)))), (1, .inl (Int32.ofNat m)), (2, .inl (Int32.ofNat s))]) (S' := []) (h' := h) (by with_unfolding_all rfl) ?_
    by_cases c3 : A (30 + (2 * m + s)) = 0
    · rw [if_neg (fa_z (by omega) c3), if_pos c3]
      refine kx_go 1 (pc' := 30) (L' := [(3, .inl (Int32.ofNat (2 * m + s))), (0, .inr (.inr (.inl (some 190)))), (1, .inl (Int32.ofNat m)), (2, .inl (Int32.ofNat s))]) (S' := [.inl (Int32.ofNat 2)]) (h' := h) (by with_unfolding_all rfl) ?_
      exact kc_ret_ok rfl (rv := some (.inl (Int32.ofNat 2))) rfl ⟨rfl, hH1, hW⟩
    · rw [if_pos (fa_nz (by omega) c3), if_neg c3]
      refine kx_go 1 (pc' := 32) (L' := [(3, .inl (Int32.ofNat (2 * m + s))), (0, .inr (.inr (.inl (some 190)))), (1, .inl (Int32.ofNat m)), (2, .inl (Int32.ofNat s))]) (S' := [.inr (.inr (.inl (some 190)))]) (h' := h) (by with_unfolding_all rfl) ?_
      refine kx_getf (c := 190) (v := .inr (.inr (.inl (some 193)))) rfl (by decide) (kx_ofr (hw _ _ _ fa_k.2.2.2.2.1)) ?_
      refine kx_go 2 (pc' := 37) (L' := [(3, .inl (Int32.ofNat (2 * m + s))), (0, .inr (.inr (.inl (some 190)))), (1, .inl (Int32.ofNat m)), (2, .inl (Int32.ofNat s))]) (S' := [.inl (Int32.ofNat (2 * m + s)), .inr (.inr (.inl (some 193))), .inl (Int32.ofNat (2 * m + s)), .inr (.inr (.inl (some 193)))]) (h' := h) (by with_unfolding_all rfl) ?_
      refine kx_iald (c := 193) (j := 2 * m + s) (m := 6) (v := .inl (Int32.ofNat (A (30 + (2 * m + s))))) rfl rfl (by decide) (by decide) (by omega) (hA.2.2.2.1 (2 * m + s) (by omega)) ?_
      refine kx_go 2 (pc' := 40) (L' := [(3, .inl (Int32.ofNat (2 * m + s))), (0, .inr (.inr (.inl (some 190)))), (1, .inl (Int32.ofNat m)), (2, .inl (Int32.ofNat s))]) (S' := [.inl ((Int32.ofNat (A (30 + (2 * m + s)))) - (Int32.ofNat 1)), .inl (Int32.ofNat (2 * m + s)), .inr (.inr (.inl (some 193)))]) (h' := h) (by with_unfolding_all rfl) ?_
      rw [kx_sub (show 1 ≤ A (30 + (2 * m + s)) by omega)]
      refine kx_iast (c := 193) (j := 2 * m + s) (m := 6) rfl rfl (by decide) (by decide) (by omega) ?_
      have H2 := fa_st_c (v := A (30 + (2 * m + s)) - 1) s6 hL h3 hH1
      have e8 : (kc_upd h 193 (2 * m + s) (.inl (Int32.ofNat (A (30 + (2 * m + s)) - 1)))) 201 (A 4) = .inl (Int32.ofNat (A (60 + A 4))) := (fu_ne (fun q => by omega)).trans (hA.2.2.2.2.2.1 (A 4) a4)
      have e6 : (kc_upd h 193 (2 * m + s) (.inl (Int32.ofNat (A (30 + (2 * m + s)) - 1)))) 190 6 = .inl (Int32.ofNat (A 4)) := (fu_ne (fun q => by omega)).trans hA.1.2.2.2.2.1
      have W2 : fa_W B (fa_s A (30 + (2 * m + s)) (A (30 + (2 * m + s)) - 1)) L (kc_upd h 193 (2 * m + s) (.inl (Int32.ofNat (A (30 + (2 * m + s)) - 1)))) := fa_W_s (by decide) (by omega) hW
      generalize (kc_upd h 193 (2 * m + s) (.inl (Int32.ofNat (A (30 + (2 * m + s)) - 1)))) = h2 at H2 e8 e6 W2 ⊢
      have hw2 := H2.1
      refine kx_go 1 (pc' := 42) (L' := [(3, .inl (Int32.ofNat (2 * m + s))), (0, .inr (.inr (.inl (some 190)))), (1, .inl (Int32.ofNat m)), (2, .inl (Int32.ofNat s))]) (S' := [.inr (.inr (.inl (some 190)))]) (h' := h2) (by with_unfolding_all rfl) ?_
      refine kx_getf (c := 190) (v := .inr (.inr (.inl (some 201)))) rfl (by decide) (kx_ofr (hw2 _ _ _ fa_k.2.2.2.2.2.2.1)) ?_
      refine kx_go 1 (pc' := 46) (L' := [(3, .inl (Int32.ofNat (2 * m + s))), (0, .inr (.inr (.inl (some 190)))), (1, .inl (Int32.ofNat m)), (2, .inl (Int32.ofNat s))]) (S' := [.inr (.inr (.inl (some 190))), .inr (.inr (.inl (some 201)))]) (h' := h2) (by with_unfolding_all rfl) ?_
      refine kx_getf (c := 190) (v := .inl (Int32.ofNat (A 4))) rfl (by decide) e6 ?_
      refine kx_go 1 (pc' := 50) (L' := [(3, .inl (Int32.ofNat (2 * m + s))), (0, .inr (.inr (.inl (some 190)))), (1, .inl (Int32.ofNat m)), (2, .inl (Int32.ofNat s))]) (S' := [.inl (Int32.ofNat (A 4)), .inr (.inr (.inl (some 201))), .inl (Int32.ofNat (A 4)), .inr (.inr (.inl (some 201)))]) (h' := h2) (by with_unfolding_all rfl) ?_
      refine kx_iald (c := 201) (j := A 4) (m := 6) (v := .inl (Int32.ofNat (A (60 + A 4)))) rfl rfl (by decide) (by decide) (by omega) e8 ?_
      refine kx_go 2 (pc' := 53) (L' := [(3, .inl (Int32.ofNat (2 * m + s))), (0, .inr (.inr (.inl (some 190)))), (1, .inl (Int32.ofNat m)), (2, .inl (Int32.ofNat s))]) (S' := [.inl ((Int32.ofNat (A (60 + A 4))) + (Int32.ofNat 1)), .inl (Int32.ofNat (A 4)), .inr (.inr (.inl (some 201)))]) (h' := h2) (by with_unfolding_all rfl) ?_
      rw [kx_add]
      refine kx_iast (c := 201) (j := A 4) (m := 6) rfl rfl (by decide) (by decide) (by omega) ?_
      refine kx_go 1 (pc' := 55) (L' := [(3, .inl (Int32.ofNat (2 * m + s))), (0, .inr (.inr (.inl (some 190)))), (1, .inl (Int32.ofNat m)), (2, .inl (Int32.ofNat s))]) (S' := [.inl (Int32.ofNat 0)]) (h' := (kc_upd h2 201 (A 4) (.inl (Int32.ofNat (A (60 + A 4) + 1))))) (by with_unfolding_all rfl) ?_
      exact kc_ret_ok rfl (rv := some (.inl (Int32.ofNat 0))) rfl ⟨rfl, fa_li_c (v := A (60 + A 4) + 1) a4 hL (fun t ht => by rw [fa_sn (by omega)]; exact h3 t ht) H2, fa_W_s (by decide) (by omega) W2⟩
  · rw [decide_eq_false c2, if_neg fa_b1f, if_neg c2]
    refine kx_go 1 (pc' := 13) (L' := [(0, .inr (.inr (.inl (some 190)))), (1, .inl (Int32.ofNat m)), (2, .inl (Int32.ofNat s))]) (S' := [.inl (Int32.ofNat 1)]) (h' := h) (by with_unfolding_all rfl) ?_
    exact kc_ret_ok rfl (rv := some (.inl (Int32.ofNat 1))) rfl ⟨rfl, hH1, hW⟩
set_option maxRecDepth 20000 in
theorem fa_r252 {g : kc_G} {d : Nat} {h0 h : kc_H} {B : Nat → Int32} {A : Nat → Nat} {D M L i : Nat} {m s : Nat} (hg : kc_ok g) (hBB : fa_BB B D M L) (hC0 : fu_B B h0) (hi : i ≤ 60) (hI : fa_I B A L i) (hH : fa_Hr h0 A L h) (hm : m < 1000) (hs : s < 1000) : kc_Con g (d + 7) 252 [.inr (.inr (.inl (some 259))), .inl (Int32.ofNat m), .inl (Int32.ofNat s)] h (fun rv h' => rv = some (.inl (Int32.ofNat (fa_drop A M m s).1)) ∧ fa_Hr h0 ((fa_drop A M m s).2) L h') := by
  have hBB1 := hBB
  obtain ⟨hB, ⟨eD, hD⟩, ⟨eM, hM⟩, eL, hL⟩ := hBB1
  have h3 := hI.2.2.2.2.2.2.1
  have hH1 := hH
  obtain ⟨hw, hA, hF⟩ := hH
  have hC := fa_hr hF hC0
  have a4 := hI.2.2.2.1
  have z1 : (B 1).toInt - 1 = (M : Int) - 1 := by rw [eM, kx_ti (by omega)]
  have z2 : (B 2).toInt - 1 = (L : Int) - 1 := by rw [eL, kx_ti (by omega)]
  unfold fa_drop
  refine kc_Con_new hg (M := wk_m252) rfl rfl rfl (show 3 ≤ 3 by decide) ?_
  refine kx_go 3 (pc' := 3) (L' := [(0, .inr (.inr (.inl (some 259)))), (1, .inl (Int32.ofNat m)), (2, .inl (Int32.ofNat s))]) (S' := [.inl (Int32.ofNat s), .inl (Int32.ofNat m), .inr (.inr (.inl (some 259)))]) (h' := h) (by with_unfolding_all rfl) ?_
  refine kc_call_rule (M2 := wk_m82) (av := [.inr (.inr (.inl (some 259))), .inl (Int32.ofNat m), .inl (Int32.ofNat s)]) (r := []) rfl rfl (kc_Con_le (fa_r82 (d := 0) hg hw hC hBB hm hs) (by omega)) (fun rv h2 hq => ?_)
  obtain ⟨rfl, e9⟩ := hq
  rw [e9]
  clear e9
  show kc_Ev g (d + 6) wk_m252 _ 6 [(0, .inr (.inr (.inl (some 259)))), (1, .inl (Int32.ofNat m)), (2, .inl (Int32.ofNat s))] [.inl (kp_b (decide (m < M ∧ s < 2)))] h
  refine kx_go 1 (pc' := (if kc_cnd .ne (kp_b (decide (m < M ∧ s < 2))).toInt 0 then 11 else 9)) (L' := [(0, .inr (.inr (.inl (some 259)))), (1, .inl (Int32.ofNat m)), (2, .inl (Int32.ofNat s))]) (S' := []) (h' := h) (by with_unfolding_all rfl) ?_
  by_cases c2 : m < M ∧ s < 2
  · rw [decide_eq_true c2, if_pos fa_b1t, if_pos c2]
    have s6 : 2 * m + s < 6 := by omega
    have a5 := hI.2.2.2.2.2.2.2.1 (2 * m + s) s6
    have a6 := hI.2.2.2.2.2.2.2.2.2.1 (A 4) a4
    have n4 := (fa_n4 hB).2
    refine kx_go 1 (pc' := 12) (L' := [(0, .inr (.inr (.inl (some 259)))), (1, .inl (Int32.ofNat m)), (2, .inl (Int32.ofNat s))]) (S' := [.inr (.inr (.inl (some 259)))]) (h' := h) (by with_unfolding_all rfl) ?_
    refine kx_getf (c := 259) (v := .inr (.inr (.inl (some 269)))) rfl (by decide) (kx_ofr (hw _ _ _ fa_kr.2.2.2.1)) ?_
    refine kx_go 5 (pc' := 20) (L' := [(0, .inr (.inr (.inl (some 259)))), (1, .inl (Int32.ofNat m)), (2, .inl (Int32.ofNat s))]) (S' := [.inl (((Int32.ofNat 2) * (Int32.ofNat m)) + (Int32.ofNat s)), .inr (.inr (.inl (some 269)))]) (h' := h) (by with_unfolding_all rfl) ?_
    rw [kx_mul, kx_add]
    refine kx_iald (c := 269) (j := 2 * m + s) (m := 6) (v := .inl (Int32.ofNat (A (30 + (2 * m + s))))) rfl rfl (by decide) (by decide) (by omega) (hA.2.2.2.1 (2 * m + s) (by omega)) ?_
    refine kx_go 1 (pc' := (if kc_cnd .ne (Int32.ofNat (A (30 + (2 * m + s)))).toInt 0 then 26 else 24)) (L' := [(0, .inr (.inr (.inl (some 259)))), (1, .inl (Int32.ofNat m)), (2, .inl (Int32.ofNat s))]) (S' := []) (h' := h) (by with_unfolding_all rfl) ?_
    by_cases c3 : A (30 + (2 * m + s)) = 0
    · rw [if_neg (fa_z (by omega) c3), if_pos c3]
      refine kx_go 1 (pc' := 25) (L' := [(0, .inr (.inr (.inl (some 259)))), (1, .inl (Int32.ofNat m)), (2, .inl (Int32.ofNat s))]) (S' := [.inl (Int32.ofNat 2)]) (h' := h) (by with_unfolding_all rfl) ?_
      exact kc_ret_ok rfl (rv := some (.inl (Int32.ofNat 2))) rfl ⟨rfl, hH1⟩
    · rw [if_pos (fa_nz (by omega) c3), if_neg c3]
      refine kx_go 1 (pc' := 27) (L' := [(0, .inr (.inr (.inl (some 259)))), (1, .inl (Int32.ofNat m)), (2, .inl (Int32.ofNat s))]) (S' := [.inr (.inr (.inl (some 259)))]) (h' := h) (by with_unfolding_all rfl) ?_
      refine kx_getf (c := 259) (v := .inr (.inr (.inl (some 269)))) rfl (by decide) (kx_ofr (hw _ _ _ fa_kr.2.2.2.1)) ?_
      refine kx_go 6 (pc' := 36) (L' := [(0, .inr (.inr (.inl (some 259)))), (1, .inl (Int32.ofNat m)), (2, .inl (Int32.ofNat s))]) (S' := [.inl (((Int32.ofNat 2) * (Int32.ofNat m)) + (Int32.ofNat s)), .inr (.inr (.inl (some 269))), .inl (((Int32.ofNat 2) * (Int32.ofNat m)) + (Int32.ofNat s)), .inr (.inr (.inl (some 269)))]) (h' := h) (by with_unfolding_all rfl) ?_
      rw [kx_mul, kx_add]
      refine kx_iald (c := 269) (j := 2 * m + s) (m := 6) (v := .inl (Int32.ofNat (A (30 + (2 * m + s))))) rfl rfl (by decide) (by decide) (by omega) (hA.2.2.2.1 (2 * m + s) (by omega)) ?_
      refine kx_go 2 (pc' := 39) (L' := [(0, .inr (.inr (.inl (some 259)))), (1, .inl (Int32.ofNat m)), (2, .inl (Int32.ofNat s))]) (S' := [.inl ((Int32.ofNat (A (30 + (2 * m + s)))) - (Int32.ofNat 1)), .inl (Int32.ofNat (2 * m + s)), .inr (.inr (.inl (some 269)))]) (h' := h) (by with_unfolding_all rfl) ?_
      rw [kx_sub (show 1 ≤ A (30 + (2 * m + s)) by omega)]
      refine kx_iast (c := 269) (j := 2 * m + s) (m := 6) rfl rfl (by decide) (by decide) (by omega) ?_
      have H2 := fa_st_r (v := A (30 + (2 * m + s)) - 1) s6 hL h3 hH1
      have e8 : (kc_upd h 269 (2 * m + s) (.inl (Int32.ofNat (A (30 + (2 * m + s)) - 1)))) 270 (A 4) = .inl (Int32.ofNat (A (60 + A 4))) := (fu_ne (fun q => by omega)).trans (hA.2.2.2.2.2.1 (A 4) a4)
      have e6 : (kc_upd h 269 (2 * m + s) (.inl (Int32.ofNat (A (30 + (2 * m + s)) - 1)))) 259 20 = .inl (Int32.ofNat (A 4)) := (fu_ne (fun q => by omega)).trans hA.1.2.2.2.2.1
      generalize (kc_upd h 269 (2 * m + s) (.inl (Int32.ofNat (A (30 + (2 * m + s)) - 1)))) = h2 at H2 e8 e6 ⊢
      have hw2 := H2.1
      refine kx_go 1 (pc' := 41) (L' := [(0, .inr (.inr (.inl (some 259)))), (1, .inl (Int32.ofNat m)), (2, .inl (Int32.ofNat s))]) (S' := [.inr (.inr (.inl (some 259)))]) (h' := h2) (by with_unfolding_all rfl) ?_
      refine kx_getf (c := 259) (v := .inr (.inr (.inl (some 270)))) rfl (by decide) (kx_ofr (hw2 _ _ _ fa_kr.2.2.2.2.1)) ?_
      refine kx_go 1 (pc' := 45) (L' := [(0, .inr (.inr (.inl (some 259)))), (1, .inl (Int32.ofNat m)), (2, .inl (Int32.ofNat s))]) (S' := [.inr (.inr (.inl (some 259))), .inr (.inr (.inl (some 270)))]) (h' := h2) (by with_unfolding_all rfl) ?_
      refine kx_getf (c := 259) (v := .inl (Int32.ofNat (A 4))) rfl (by decide) e6 ?_
      refine kx_go 1 (pc' := 49) (L' := [(0, .inr (.inr (.inl (some 259)))), (1, .inl (Int32.ofNat m)), (2, .inl (Int32.ofNat s))]) (S' := [.inl (Int32.ofNat (A 4)), .inr (.inr (.inl (some 270))), .inl (Int32.ofNat (A 4)), .inr (.inr (.inl (some 270)))]) (h' := h2) (by with_unfolding_all rfl) ?_
      refine kx_iald (c := 270) (j := A 4) (m := 6) (v := .inl (Int32.ofNat (A (60 + A 4)))) rfl rfl (by decide) (by decide) (by omega) e8 ?_
      refine kx_go 2 (pc' := 52) (L' := [(0, .inr (.inr (.inl (some 259)))), (1, .inl (Int32.ofNat m)), (2, .inl (Int32.ofNat s))]) (S' := [.inl ((Int32.ofNat (A (60 + A 4))) + (Int32.ofNat 1)), .inl (Int32.ofNat (A 4)), .inr (.inr (.inl (some 270)))]) (h' := h2) (by with_unfolding_all rfl) ?_
      rw [kx_add]
      refine kx_iast (c := 270) (j := A 4) (m := 6) rfl rfl (by decide) (by decide) (by omega) ?_
      refine kx_go 1 (pc' := 54) (L' := [(0, .inr (.inr (.inl (some 259)))), (1, .inl (Int32.ofNat m)), (2, .inl (Int32.ofNat s))]) (S' := [.inl (Int32.ofNat 0)]) (h' := (kc_upd h2 270 (A 4) (.inl (Int32.ofNat (A (60 + A 4) + 1))))) (by with_unfolding_all rfl) ?_
      exact kc_ret_ok rfl (rv := some (.inl (Int32.ofNat 0))) rfl ⟨rfl, fa_li_r (v := A (60 + A 4) + 1) a4 hL (fun t ht => by rw [fa_sn (by omega)]; exact h3 t ht) H2⟩
  · rw [decide_eq_false c2, if_neg fa_b1f, if_neg c2]
    refine kx_go 1 (pc' := 10) (L' := [(0, .inr (.inr (.inl (some 259)))), (1, .inl (Int32.ofNat m)), (2, .inl (Int32.ofNat s))]) (S' := [.inl (Int32.ofNat 1)]) (h' := h) (by with_unfolding_all rfl) ?_
    exact kc_ret_ok rfl (rv := some (.inl (Int32.ofNat 1))) rfl ⟨rfl, hH1⟩
end
section
-- 99.zpt
/-! ===== the acts: go ===== -/
/-- something soft lies lowest on one of the first n SIDES -/
def fa_wt (B : Nat → Int32) (A : Nat → Nat) : Nat → Bool
  | 0 => false
  | n + 1 => fa_wt B A n || (decide (0 < A (20 + n)) && !fa_hd B (A (40 + 3 * n + 0)))
theorem fa_wt_le {B : Nat → Int32} {A : Nat → Nat} {m : Nat} (h : fa_wt B A m = true) : ∀ k, fa_wt B A (m + k) = true
  | 0 => h
  | k + 1 => by
    show (fa_wt B A (m + k) || _) = true
    rw [fa_wt_le h k]
    rfl
def fa_un (B : Nat → Int32) (A : Nat → Nat) (m : Nat) : Nat := (fa_bw B A (2 * m) - fa_bw B A (2 * m + 1)) + (fa_bw B A (2 * m + 1) - fa_bw B A (2 * m))
def fa_so (B : Nat → Int32) (A : Nat → Nat) (m : Nat) : Nat := if fa_n B (60 + 5 * m + 1) < fa_un B A m then A (70 + m) + 1 else 0
/-- the first m MULES a mile on -/
def fa_sr (B : Nat → Int32) (A : Nat → Nat) : Nat → Nat → Nat
  | 0 => A
  | m + 1 => fa_s (fa_sr B A m) (70 + m) (fa_so B A m)
def fa_fr (B : Nat → Int32) (A : Nat → Nat) : Nat → Bool
  | 0 => false
  | m + 1 => fa_fr B A m || decide (fa_n B (60 + 5 * m + 2) < fa_so B A m)
def fa_mi (B : Nat → Int32) (M : Nat) : Nat → (Nat → Nat) → Nat × (Nat → Nat)
  | 0, A => (0, A)
  | k + 1, A => if fa_fr B (fa_s A 2 (A 2 + 1)) M = true then (6, fa_sr B (fa_s A 2 (A 2 + 1)) M) else fa_mi B M k (fa_sr B (fa_s A 2 (A 2 + 1)) M)
def fa_fin (e : Nat) (X : Nat × (Nat → Nat)) : Nat × (Nat → Nat) := if X.1 = 0 then (0, fa_s (fa_s X.2 4 e) 5 (X.2 5 + 1)) else X
def fa_go (B : Nat → Int32) (A : Nat → Nat) (D M e : Nat) : Nat × (Nat → Nat) := if e < D + 1 then (if e = A 4 then (1, A) else if fa_n B (46 + e) = 1 ∧ fa_wt B A (2 * M) = true then (7, A) else fa_fin e (fa_mi B M (fa_n B (10 + 6 * A 4 + e)) A)) else (1, A)
theorem fa_sr_o {B : Nat → Int32} {A : Nat → Nat} {j : Nat} (hj : j < 70) : ∀ m, fa_sr B A m j = A j
  | 0 => rfl
  | m + 1 => by
    show fa_s (fa_sr B A m) (70 + m) (fa_so B A m) j = A j
    rw [fa_sn (by omega)]
    exact fa_sr_o hj m
theorem fa_sr_h {B : Nat → Int32} {A : Nat → Nat} {j : Nat} : ∀ m, m ≤ j → fa_sr B A m (70 + j) = A (70 + j)
  | 0, _ => rfl
  | m + 1, h => by
    show fa_s (fa_sr B A m) (70 + m) (fa_so B A m) (70 + j) = A (70 + j)
    rw [fa_sn (by omega)]
    exact fa_sr_h m (by omega)
/-- what a SIDE bears hangs on these places alone -/
theorem fa_b_eq {B : Nat → Int32} {A A' : Nat → Nat} {s : Nat} (hs : s < 6) (h : ∀ j, j < 58 → (j = 5 ∨ 20 ≤ j) → A j = A' j) : ∀ k, k ≤ 3 → fa_b B A s k = fa_b B A' s k
  | 0, _ => by
    unfold fa_b
    rw [h (30 + s) (by omega) (by omega)]
  | k + 1, hk => by
    unfold fa_b
    rw [fa_b_eq hs h k (by omega), h (40 + 3 * s + k) (by omega) (by omega), h 5 (by omega) (by omega)]
theorem fa_bw_eq {B : Nat → Int32} {A A' : Nat → Nat} {s : Nat} (hs : s < 6) (h3 : A (20 + s) ≤ 3) (h : ∀ j, j < 58 → (j = 5 ∨ 20 ≤ j) → A j = A' j) : fa_bw B A s = fa_bw B A' s := by
  unfold fa_bw
  rw [← h (20 + s) (by omega) (by omega)]
  exact fa_b_eq hs h _ h3
theorem fa_ab {x y : Nat} (hx : x ≤ 100000) (hy : y ≤ 100000) : (if (0 : Int32) ≤ Int32.ofNat x - Int32.ofNat y then Int32.ofNat x - Int32.ofNat y else 0 - (Int32.ofNat x - Int32.ofNat y)) = Int32.ofNat ((x - y) + (y - x)) := by
  have e := fh_si hx hy
  have e2 := fh_si hy hx
  have z0 : (0 : Int32).toInt = 0 := by decide
  by_cases c : y ≤ x
  · rw [if_pos (Int32.le_iff_toInt_le.mpr (by rw [e, z0]; omega)), kx_sub c, show x - y + (y - x) = x - y by omega]
  · rw [if_neg (fun q => c (by have := Int32.le_iff_toInt_le.mp q; rw [e, z0] at this; omega)), show x - y + (y - x) = y - x by omega, ← kx_sub (show x ≤ y by omega)]
    apply Int32.toInt_inj.mp
    rw [e2, Int32.toInt_sub, e, z0]
    have : (0 - ((x : Int) - (y : Int))) = (y : Int) - (x : Int) := by omega
    rw [this, ← e2]
    exact Int32.toInt_bmod _
theorem fa_sr_b {B : Nat → Int32} {A : Nat → Nat} {X : Nat} (hS : ∀ m, m < 3 → A (70 + m) + 1 ≤ X) : ∀ m, m ≤ 3 → ∀ j, j < 3 → fa_sr B A m (70 + j) ≤ X
  | 0, _, j, hj => by have := hS j hj; show A (70 + j) ≤ X; omega
  | m + 1, hm, j, hj => by
    show fa_s (fa_sr B A m) (70 + m) (fa_so B A m) (70 + j) ≤ X
    by_cases e : j = m
    · subst e
      rw [fa_se]
      unfold fa_so
      have := hS j hj
      split <;> omega
    · rw [fa_sn (by omega)]
      exact fa_sr_b hS m (by omega) j hj
theorem fa_I_sr {B : Nat → Int32} {A : Nat → Nat} {L i m : Nat} (hL : L ≤ 10) (hI : fa_I B A L i) (hS : ∀ m, m < 3 → A (70 + m) + 1 ≤ 99 * i) (hm : m ≤ 3) : fa_I B (fa_sr B A m) L i := by
  have o : ∀ j, j < 70 → fa_sr B A m j = A j := fun j hj => fa_sr_o hj m
  have h3 := hI.2.2.2.2.2.2.1
  refine ⟨by rw [o 0 (by omega)]; exact hI.1, by rw [o 2 (by omega)]; exact hI.2.1, by rw [o 3 (by omega)]; exact hI.2.2.1, by rw [o 4 (by omega)]; exact hI.2.2.2.1, by rw [o 5 (by omega)]; exact hI.2.2.2.2.1, fun l hl => by rw [o (10 + l) (by omega)]; exact hI.2.2.2.2.2.1 l hl, fun s hs => by rw [o (20 + s) (by omega)]; exact h3 s hs, fun s hs => by rw [o (30 + s) (by omega)]; exact hI.2.2.2.2.2.2.2.1 s hs, fun s hs k hk => ?_, fun p hp => by rw [o (60 + p) (by omega)]; exact hI.2.2.2.2.2.2.2.2.2.1 p hp, fa_sr_b hS m hm⟩
  rw [o (20 + s) (by omega)] at hk
  have := h3 s hs
  rw [o (40 + 3 * s + k) (by omega)]
  exact hI.2.2.2.2.2.2.2.2.1 s hs k hk
theorem fa_bw_sr {B : Nat → Int32} {A : Nat → Nat} {m s : Nat} (hs : s < 6) (h3 : ∀ s, s < 6 → A (20 + s) ≤ 3) : fa_bw B (fa_sr B A m) s = fa_bw B A s := fa_bw_eq hs (by rw [fa_sr_o (by omega)]; exact h3 s hs) (fun j hj _ => fa_sr_o (by omega) m)
set_option maxRecDepth 20000 in
theorem fa_c196l {g : kc_G} {d : Nat} {h : kc_H} {B : Nat → Int32} {A : Nat → Nat} {D M L i : Nat} (hg : kc_ok g) (hBB : fa_BB B D M L) (hw : kd_wt kd_ty h) (hC : fu_C B 1 h) (hi : i ≤ 60) (hI : fa_I B A L i) (hA : fa_C A L h) : ∀ u c : Nat, 2 * M - c = u → c ≤ 2 * M → fa_wt B A c = false → kc_Ev g (d + 2) wk_m196 (fun rv h' => rv = some (.inl (kp_b (fa_wt B A (2 * M)))) ∧ h' = h) 2 [(1, .inl (Int32.ofNat c)), (0, .inr (.inr (.inl (some 190))))] [] h := by
  obtain ⟨hB, ⟨eD, hD⟩, ⟨eM, hM⟩, eL, hL⟩ := hBB
  have h3 := hI.2.2.2.2.2.2.1
  intro u
  induction u with
  | zero =>
    intro c hu hc hf
    refine kx_go 3 (pc' := 5) (L' := [(1, .inl (Int32.ofNat c)), (0, .inr (.inr (.inl (some 190))))]) (S' := [.inr (.inr (.inl (some 190))), .inl (Int32.ofNat 2), .inl (Int32.ofNat c)]) (h' := h) (by with_unfolding_all rfl) ?_
    refine kx_getf (c := 190) (v := .inr (.inr (.inl (some 1)))) rfl (by decide) (kx_ofr (hw _ _ _ fa_k.1)) ?_
    refine kx_getf (c := 1) (v := .inl (Int32.ofNat M)) rfl (by decide) ((fu_C0 hC).2.1.trans (by rw [eM])) ?_
    refine kx_go 2 (pc' := (if kc_cnd .ge (Int32.ofNat c).toInt ((Int32.ofNat 2) * (Int32.ofNat M)).toInt then 50 else 15)) (L' := [(1, .inl (Int32.ofNat c)), (0, .inr (.inr (.inl (some 190))))]) (S' := []) (h' := h) (by with_unfolding_all rfl) ?_
    rw [kx_mul]
    rw [if_pos ((kx_ge (by omega) (by omega)).mpr (show 2 * M ≤ c by omega))]
    have ec : 2 * M = c := by omega
    refine kx_go 1 (pc' := 51) (L' := [(1, .inl (Int32.ofNat c)), (0, .inr (.inr (.inl (some 190))))]) (S' := [.inl (Int32.ofNat 0)]) (h' := h) (by with_unfolding_all rfl) ?_
    exact kc_ret_ok rfl (rv := some (.inl (Int32.ofNat 0))) rfl ⟨by rw [ec, hf]; rfl, rfl⟩
  | succ u ih =>
    intro c hu hc hf
    refine kx_go 3 (pc' := 5) (L' := [(1, .inl (Int32.ofNat c)), (0, .inr (.inr (.inl (some 190))))]) (S' := [.inr (.inr (.inl (some 190))), .inl (Int32.ofNat 2), .inl (Int32.ofNat c)]) (h' := h) (by with_unfolding_all rfl) ?_
    refine kx_getf (c := 190) (v := .inr (.inr (.inl (some 1)))) rfl (by decide) (kx_ofr (hw _ _ _ fa_k.1)) ?_
    refine kx_getf (c := 1) (v := .inl (Int32.ofNat M)) rfl (by decide) ((fu_C0 hC).2.1.trans (by rw [eM])) ?_
    refine kx_go 2 (pc' := (if kc_cnd .ge (Int32.ofNat c).toInt ((Int32.ofNat 2) * (Int32.ofNat M)).toInt then 50 else 15)) (L' := [(1, .inl (Int32.ofNat c)), (0, .inr (.inr (.inl (some 190))))]) (S' := []) (h' := h) (by with_unfolding_all rfl) ?_
    rw [kx_mul]
    rw [if_neg (mt (kx_ge (by omega) (by omega)).mp (show ¬ 2 * M ≤ c by omega))]
    have c6 : c < 6 := by omega
    have a3 := h3 c c6
    refine kx_go 1 (pc' := 16) (L' := [(1, .inl (Int32.ofNat c)), (0, .inr (.inr (.inl (some 190))))]) (S' := [.inr (.inr (.inl (some 190)))]) (h' := h) (by with_unfolding_all rfl) ?_
    refine kx_getf (c := 190) (v := .inr (.inr (.inl (some 192)))) rfl (by decide) (kx_ofr (hw _ _ _ fa_k.2.2.2.1)) ?_
    refine kx_go 1 (pc' := 20) (L' := [(1, .inl (Int32.ofNat c)), (0, .inr (.inr (.inl (some 190))))]) (S' := [.inl (Int32.ofNat c), .inr (.inr (.inl (some 192)))]) (h' := h) (by with_unfolding_all rfl) ?_
    refine kx_iald (c := 192) (j := c) (m := 6) (v := .inl (Int32.ofNat (A (20 + c)))) rfl rfl (by decide) (by decide) (by omega) (hA.2.2.1 c (by omega)) ?_
    refine kx_go 1 (pc' := (if kc_cnd .le (Int32.ofNat (A (20 + c))).toInt 0 then 44 else 24)) (L' := [(1, .inl (Int32.ofNat c)), (0, .inr (.inr (.inl (some 190))))]) (S' := []) (h' := h) (by with_unfolding_all rfl) ?_
    have next : fa_wt B A (c + 1) = false → kc_Ev g (d + 2) wk_m196 (fun rv h' => rv = some (.inl (kp_b (fa_wt B A (2 * M)))) ∧ h' = h) 44 [(1, .inl (Int32.ofNat c)), (0, .inr (.inr (.inl (some 190))))] [] h := by
      intro hf2
      refine kx_go 2 (pc' := 2) (L' := [(1, .inl ((Int32.ofNat c) + Int32.ofInt 1)), (0, .inr (.inr (.inl (some 190))))]) (S' := []) (h' := h) (by with_unfolding_all rfl) ?_
      rw [kx_inc]
      refine kf_lo (L := [(1, .inl (Int32.ofNat (c + 1))), (0, .inr (.inr (.inl (some 190))))]) (by intro q hq; simp only [List.mem_cons, List.not_mem_nil, or_false] at hq; rcases hq with rfl | rfl <;> rfl) ?_
      exact ih (c + 1) (by omega) (by omega) hf2
    by_cases c0 : A (20 + c) = 0
    · rw [if_pos (fa_lz (by omega) c0)]
      exact next (by show (fa_wt B A c || (decide (0 < A (20 + c)) && !fa_hd B (A (40 + 3 * c + 0)))) = false; rw [hf, decide_eq_false (by omega)]; rfl)
    · rw [if_neg (fa_lnz (by omega) c0)]
      have htl := hI.2.2.2.2.2.2.2.2.1 c c6 0 (by omega)
      refine kx_go 1 (pc' := 25) (L' := [(1, .inl (Int32.ofNat c)), (0, .inr (.inr (.inl (some 190))))]) (S' := [.inr (.inr (.inl (some 190)))]) (h' := h) (by with_unfolding_all rfl) ?_
      refine kx_getf (c := 190) (v := .inr (.inr (.inl (some 1)))) rfl (by decide) (kx_ofr (hw _ _ _ fa_k.1)) ?_
      refine kx_go 1 (pc' := 29) (L' := [(1, .inl (Int32.ofNat c)), (0, .inr (.inr (.inl (some 190))))]) (S' := [.inr (.inr (.inl (some 190))), .inr (.inr (.inl (some 1)))]) (h' := h) (by with_unfolding_all rfl) ?_
      refine kx_getf (c := 190) (v := .inr (.inr (.inl (some 194)))) rfl (by decide) (kx_ofr (hw _ _ _ fa_k.2.2.2.2.2.1)) ?_
      refine kx_go 1 (pc' := 33) (L' := [(1, .inl (Int32.ofNat c)), (0, .inr (.inr (.inl (some 190))))]) (S' := [.inl (Int32.ofNat c), .inr (.inr (.inl (some 194))), .inr (.inr (.inl (some 1)))]) (h' := h) (by with_unfolding_all rfl) ?_
      refine kx_aald rfl (c := 194) (j := c) (m := 6) (t0 := 2) (v := .inr (.inr (.inl (some (195 + c))))) rfl (by decide) (by decide) (by decide) (by omega) (kx_ofr (hw _ _ _ (fa_kp c (by omega)).1)) ?_
      refine kx_go 1 (pc' := 35) (L' := [(1, .inl (Int32.ofNat c)), (0, .inr (.inr (.inl (some 190))))]) (S' := [.inl (Int32.ofNat 0), .inr (.inr (.inl (some (195 + c)))), .inr (.inr (.inl (some 1)))]) (h' := h) (by with_unfolding_all rfl) ?_
      refine kx_iald (c := 195 + c) (j := 0) (m := 3) (v := .inl (Int32.ofNat (A (40 + 3 * c + 0)))) rfl (fa_kp c (by omega)).2.1 (fa_kp c (by omega)).2.2 (by decide) (by omega) (hA.2.2.2.2.1 c (by omega) 0 (by omega)) ?_
      refine kc_call_rule (M2 := wk_m186) (av := [.inr (.inr (.inl (some 1))), .inl (Int32.ofNat (A (40 + 3 * c + 0)))]) (r := []) rfl rfl (kc_Con_le (fa_c186 (d := 0) hg hw hC hB (show A (40 + 3 * c + 0) < 10 by omega)) (by omega)) (fun rv h2 hq => ?_)
      obtain ⟨rfl, e9⟩ := hq
      rw [e9]
      clear e9
      show kc_Ev g (d + 2) wk_m196 _ 39 [(1, .inl (Int32.ofNat c)), (0, .inr (.inr (.inl (some 190))))] [.inl (kp_b (fa_hd B (A (40 + 3 * c + 0))))] h
      refine kx_go 1 (pc' := (if kc_cnd .ne (kp_b (fa_hd B (A (40 + 3 * c + 0)))).toInt 0 then 44 else 42)) (L' := [(1, .inl (Int32.ofNat c)), (0, .inr (.inr (.inl (some 190))))]) (S' := []) (h' := h) (by with_unfolding_all rfl) ?_
      cases e : fa_hd B (A (40 + 3 * c + 0)) with
      | true =>
        rw [if_pos fa_b1t]
        exact next (by show (fa_wt B A c || (decide (0 < A (20 + c)) && !fa_hd B (A (40 + 3 * c + 0)))) = false; rw [hf, e, Bool.not_true, Bool.and_false]; rfl)
      | false =>
        rw [if_neg fa_b1f]
        have k1 : fa_wt B A (c + 1) = true := by show (fa_wt B A c || (decide (0 < A (20 + c)) && !fa_hd B (A (40 + 3 * c + 0)))) = true; rw [hf, e, decide_eq_true (by omega)]; rfl
        have k2 := fa_wt_le k1 (2 * M - (c + 1))
        rw [show c + 1 + (2 * M - (c + 1)) = 2 * M by omega] at k2
        refine kx_go 1 (pc' := 43) (L' := [(1, .inl (Int32.ofNat c)), (0, .inr (.inr (.inl (some 190))))]) (S' := [.inl (Int32.ofNat 1)]) (h' := h) (by with_unfolding_all rfl) ?_
        exact kc_ret_ok rfl (rv := some (.inl (Int32.ofNat 1))) rfl ⟨by rw [k2]; rfl, rfl⟩
set_option maxRecDepth 20000 in
theorem fa_c196 {g : kc_G} {d : Nat} {h : kc_H} {B : Nat → Int32} {A : Nat → Nat} {D M L i : Nat} (hg : kc_ok g) (hBB : fa_BB B D M L) (hw : kd_wt kd_ty h) (hC : fu_C B 1 h) (hi : i ≤ 60) (hI : fa_I B A L i) (hA : fa_C A L h) : kc_Con g (d + 3) 196 [.inr (.inr (.inl (some 190)))] h (fun rv h' => rv = some (.inl (kp_b (fa_wt B A (2 * M)))) ∧ h' = h) := by
  refine kc_Con_new hg (M := wk_m196) rfl rfl rfl (show 1 ≤ 2 by decide) ?_
  refine kx_go 2 (pc' := 2) (L' := [(1, .inl (Int32.ofNat 0)), (0, .inr (.inr (.inl (some 190))))]) (S' := []) (h' := h) (by with_unfolding_all rfl) ?_
  exact fa_c196l hg hBB hw hC hi hI hA (2 * M) 0 (by omega) (Nat.zero_le _) rfl
set_option maxRecDepth 20000 in
theorem fa_c197l {g : kc_G} {d : Nat} {h0 : kc_H} {B : Nat → Int32} {A : Nat → Nat} {D M L i : Nat} (hg : kc_ok g) (hBB : fa_BB B D M L) (hC0 : fu_C B 1 h0) (hi : i ≤ 60) (hI : fa_I B A L i) (hS : ∀ m, m < 3 → A (70 + m) + 1 ≤ 99 * i) : ∀ (u m : Nat) (h : kc_H), M - m = u → m ≤ M → fa_Hc h0 (fa_sr B A m) L h → fa_W B (fa_sr B A m) L h → kc_Ev g (d + 3) wk_m197 (fun rv h' => rv = some (.inl (kp_b (fa_fr B A M))) ∧ fa_Hc h0 (fa_sr B A M) L h' ∧ fa_W B (fa_sr B A M) L h') 4 [(2, .inl (Int32.ofNat m)), (1, .inl (kp_b (fa_fr B A m))), (0, .inr (.inr (.inl (some 190))))] [] h := by
  obtain ⟨hB, ⟨eD, hD⟩, ⟨eM, hM⟩, eL, hL⟩ := hBB
  have h3 := hI.2.2.2.2.2.2.1
  intro u
  induction u with
  | zero =>
    intro m h hu hm hH hW
    have hH1 := hH
    obtain ⟨hw, hA, hF⟩ := hH
    have hC := fa_hc hF hC0
    refine kx_go 2 (pc' := 6) (L' := [(2, .inl (Int32.ofNat m)), (1, .inl (kp_b (fa_fr B A m))), (0, .inr (.inr (.inl (some 190))))]) (S' := [.inr (.inr (.inl (some 190))), .inl (Int32.ofNat m)]) (h' := h) (by with_unfolding_all rfl) ?_
    refine kx_getf (c := 190) (v := .inr (.inr (.inl (some 1)))) rfl (by decide) (kx_ofr (hw _ _ _ fa_k.1)) ?_
    refine kx_getf (c := 1) (v := .inl (Int32.ofNat M)) rfl (by decide) ((fu_C0 hC).2.1.trans (by rw [eM])) ?_
    refine kx_go 1 (pc' := (if kc_cnd .ge (Int32.ofNat m).toInt (Int32.ofNat M).toInt then 97 else 15)) (L' := [(2, .inl (Int32.ofNat m)), (1, .inl (kp_b (fa_fr B A m))), (0, .inr (.inr (.inl (some 190))))]) (S' := []) (h' := h) (by with_unfolding_all rfl) ?_
    rw [if_pos ((kx_ge (by omega) (by omega)).mpr (show M ≤ m by omega))]
    have em : M = m := by omega
    refine kx_go 1 (pc' := 98) (L' := [(2, .inl (Int32.ofNat m)), (1, .inl (kp_b (fa_fr B A m))), (0, .inr (.inr (.inl (some 190))))]) (S' := [.inl (kp_b (fa_fr B A m))]) (h' := h) (by with_unfolding_all rfl) ?_
    rw [em]
    exact kc_ret_ok rfl (rv := some (.inl (kp_b (fa_fr B A m)))) (by cases fa_fr B A m <;> rfl) ⟨rfl, hH1, hW⟩
  | succ u ih =>
    intro m h hu hm hH hW
    have hH1 := hH
    obtain ⟨hw, hA, hF⟩ := hH
    have hC := fa_hc hF hC0
    refine kx_go 2 (pc' := 6) (L' := [(2, .inl (Int32.ofNat m)), (1, .inl (kp_b (fa_fr B A m))), (0, .inr (.inr (.inl (some 190))))]) (S' := [.inr (.inr (.inl (some 190))), .inl (Int32.ofNat m)]) (h' := h) (by with_unfolding_all rfl) ?_
    refine kx_getf (c := 190) (v := .inr (.inr (.inl (some 1)))) rfl (by decide) (kx_ofr (hw _ _ _ fa_k.1)) ?_
    refine kx_getf (c := 1) (v := .inl (Int32.ofNat M)) rfl (by decide) ((fu_C0 hC).2.1.trans (by rw [eM])) ?_
    refine kx_go 1 (pc' := (if kc_cnd .ge (Int32.ofNat m).toInt (Int32.ofNat M).toInt then 97 else 15)) (L' := [(2, .inl (Int32.ofNat m)), (1, .inl (kp_b (fa_fr B A m))), (0, .inr (.inr (.inl (some 190))))]) (S' := []) (h' := h) (by with_unfolding_all rfl) ?_
    rw [if_neg (mt (kx_ge (by omega) (by omega)).mp (show ¬ M ≤ m by omega))]
    have hI1 := fa_I_sr (m := m) hL hI hS (by omega)
    have m3 : m < 3 := by omega
    have b1 := fa_bwl (s := 2 * m) hB hL (by omega) hI hi
    have b2 := fa_bwl (s := 2 * m + 1) hB hL (by omega) hI hi
    have h31 := hI1.2.2.2.2.2.2.1
    have n1 := (fa_nm (e := 1) hB m3 (by decide) (by decide) (fa_tm m m3).2.1).2
    have n2 := (fa_nm (e := 2) hB m3 (by decide) (by decide) (fa_tm m m3).2.2.1).2
    have s1 := hS m m3
    refine kx_go 4 (pc' := 19) (L' := [(2, .inl (Int32.ofNat m)), (1, .inl (kp_b (fa_fr B A m))), (0, .inr (.inr (.inl (some 190))))]) (S' := [.inl ((Int32.ofNat 2) * (Int32.ofNat m)), .inr (.inr (.inl (some 190)))]) (h' := h) (by with_unfolding_all rfl) ?_
    rw [kx_mul]
    refine kc_call_rule (M2 := wk_m189) (av := [.inr (.inr (.inl (some 190))), .inl (Int32.ofNat (2 * m))]) (r := []) rfl rfl (kc_Con_le (fa_c189 (d := 0) (s := 2 * m) hg hw hC hB hL hi hI1 hA hW (by omega)) (by omega)) (fun rv h2 hq => ?_)
    obtain ⟨rfl, e9⟩ := hq
    rw [e9]
    clear e9
    rw [fa_bw_sr (by omega) h3]
    show kc_Ev g (d + 3) wk_m197 _ 22 [(2, .inl (Int32.ofNat m)), (1, .inl (kp_b (fa_fr B A m))), (0, .inr (.inr (.inl (some 190))))] [.inl (Int32.ofNat (fa_bw B A (2 * m)))] h
    refine kx_go 6 (pc' := 28) (L' := [(2, .inl (Int32.ofNat m)), (1, .inl (kp_b (fa_fr B A m))), (0, .inr (.inr (.inl (some 190))))]) (S' := [.inl (((Int32.ofNat 2) * (Int32.ofNat m)) + (Int32.ofNat 1)), .inr (.inr (.inl (some 190))), .inl (Int32.ofNat (fa_bw B A (2 * m)))]) (h' := h) (by with_unfolding_all rfl) ?_
    rw [kx_mul, kx_add]
    refine kc_call_rule (M2 := wk_m189) (av := [.inr (.inr (.inl (some 190))), .inl (Int32.ofNat (2 * m + 1))]) (r := [.inl (Int32.ofNat (fa_bw B A (2 * m)))]) rfl rfl (kc_Con_le (fa_c189 (d := 0) (s := 2 * m + 1) hg hw hC hB hL hi hI1 hA hW (by omega)) (by omega)) (fun rv h2 hq => ?_)
    obtain ⟨rfl, e9⟩ := hq
    rw [e9]
    clear e9
    rw [fa_bw_sr (by omega) h3]
    show kc_Ev g (d + 3) wk_m197 _ 31 [(2, .inl (Int32.ofNat m)), (1, .inl (kp_b (fa_fr B A m))), (0, .inr (.inr (.inl (some 190))))] [.inl (Int32.ofNat (fa_bw B A (2 * m + 1))), .inl (Int32.ofNat (fa_bw B A (2 * m)))] h
    refine kx_go 1 (pc' := 32) (L' := [(2, .inl (Int32.ofNat m)), (1, .inl (kp_b (fa_fr B A m))), (0, .inr (.inr (.inl (some 190))))]) (S' := [.inl ((Int32.ofNat (fa_bw B A (2 * m))) - (Int32.ofNat (fa_bw B A (2 * m + 1))))]) (h' := h) (by with_unfolding_all rfl) ?_
    refine kc_math_ok (AS' := [.inl (if (0 : Int32) ≤ Int32.ofNat (fa_bw B A (2 * m)) - Int32.ofNat (fa_bw B A (2 * m + 1)) then Int32.ofNat (fa_bw B A (2 * m)) - Int32.ofNat (fa_bw B A (2 * m + 1)) else 0 - (Int32.ofNat (fa_bw B A (2 * m)) - Int32.ofNat (fa_bw B A (2 * m + 1))))]) rfl (by with_unfolding_all rfl) ?_
    rw [fa_ab (by omega) (by omega)]
    show kc_Ev g (d + 3) wk_m197 _ 35 [(2, .inl (Int32.ofNat m)), (1, .inl (kp_b (fa_fr B A m))), (0, .inr (.inr (.inl (some 190))))] [.inl (Int32.ofNat (fa_un B A m))] h
    have un : fa_un B A m ≤ 3000 := by unfold fa_un; omega
    refine kx_go 2 (pc' := 37) (L' := [(3, .inl (Int32.ofNat (fa_un B A m))), (2, .inl (Int32.ofNat m)), (1, .inl (kp_b (fa_fr B A m))), (0, .inr (.inr (.inl (some 190))))]) (S' := [.inr (.inr (.inl (some 190)))]) (h' := h) (by with_unfolding_all rfl) ?_
    refine kx_getf (c := 190) (v := .inr (.inr (.inl (some 202)))) rfl (by decide) (kx_ofr (hw _ _ _ fa_k.2.2.2.2.2.2.2.1)) ?_
    refine kx_go 3 (pc' := 43) (L' := [(3, .inl (Int32.ofNat (fa_un B A m))), (2, .inl (Int32.ofNat m)), (1, .inl (kp_b (fa_fr B A m))), (0, .inr (.inr (.inl (some 190))))]) (S' := [.inr (.inr (.inl (some 190))), .inl (Int32.ofNat (fa_un B A m)), .inl (Int32.ofNat m), .inr (.inr (.inl (some 202)))]) (h' := h) (by with_unfolding_all rfl) ?_
    refine kx_getf (c := 190) (v := .inr (.inr (.inl (some 1)))) rfl (by decide) (kx_ofr (hw _ _ _ fa_k.1)) ?_
    refine kx_getf (c := 1) (v := .inr (.inr (.inl (some 11)))) rfl (by decide) (kx_ofr (hw _ _ _ fu_kr.2.2.2.1)) ?_
    refine kx_go 1 (pc' := 50) (L' := [(3, .inl (Int32.ofNat (fa_un B A m))), (2, .inl (Int32.ofNat m)), (1, .inl (kp_b (fa_fr B A m))), (0, .inr (.inr (.inl (some 190))))]) (S' := [.inl (Int32.ofNat m), .inr (.inr (.inl (some 11))), .inl (Int32.ofNat (fa_un B A m)), .inl (Int32.ofNat m), .inr (.inr (.inl (some 202)))]) (h' := h) (by with_unfolding_all rfl) ?_
    refine kx_aald rfl (c := 11) (j := m) (m := 3) (t0 := 2) (v := .inr (.inr (.inl (some (1 + (11 + m)))))) rfl (by decide) (by decide) (by decide) (by omega) (kx_ofr (hw _ _ _ (fu_smu m (by omega)).2)) ?_
    refine kx_go 1 (pc' := 52) (L' := [(3, .inl (Int32.ofNat (fa_un B A m))), (2, .inl (Int32.ofNat m)), (1, .inl (kp_b (fa_fr B A m))), (0, .inr (.inr (.inl (some 190))))]) (S' := [.inl (Int32.ofNat 1), .inr (.inr (.inl (some (1 + (11 + m))))), .inl (Int32.ofNat (fa_un B A m)), .inl (Int32.ofNat m), .inr (.inr (.inl (some 202)))]) (h' := h) (by with_unfolding_all rfl) ?_
    refine kx_iald (c := 1 + (11 + m)) (j := 1) (m := 5) (v := .inl (Int32.ofNat (fa_n B (60 + 5 * m + 1)))) rfl (fu_smu m (by omega)).1.1 (fu_smu m (by omega)).1.2 (by decide) (by decide) ((fu_Cj (c := 11 + m) (i := 1) hC (by omega) ((fu_fmu m (by omega)).1 1 (by decide)).2 ((fu_fmu m (by omega)).1 1 (by decide)).1).trans (by rw [(fa_nm (e := 1) hB (show m < 3 by omega) (by decide) (by decide) (fa_tm m (by omega)).2.1).1])) ?_
    refine kx_go 1 (pc' := (if kc_cnd .le (Int32.ofNat (fa_un B A m)).toInt (Int32.ofNat (fa_n B (60 + 5 * m + 1))).toInt then 67 else 56)) (L' := [(3, .inl (Int32.ofNat (fa_un B A m))), (2, .inl (Int32.ofNat m)), (1, .inl (kp_b (fa_fr B A m))), (0, .inr (.inr (.inl (some 190))))]) (S' := [.inl (Int32.ofNat m), .inr (.inr (.inl (some 202)))]) (h' := h) (by with_unfolding_all rfl) ?_
    have tail : kc_Ev g (d + 3) wk_m197 (fun rv h' => rv = some (.inl (kp_b (fa_fr B A M))) ∧ fa_Hc h0 (fa_sr B A M) L h' ∧ fa_W B (fa_sr B A M) L h') 69 [(3, .inl (Int32.ofNat (fa_un B A m))), (2, .inl (Int32.ofNat m)), (1, .inl (kp_b (fa_fr B A m))), (0, .inr (.inr (.inl (some 190))))] [] (kc_upd h 202 m (.inl (Int32.ofNat (fa_so B A m)))) := by
      have so : fa_so B A m ≤ A (70 + m) + 1 := by unfold fa_so; split <;> omega
      have H2 := fa_so_c (m := m) (v := fa_so B A m) m3 hL h31 hH1
      have W2 : fa_W B (fa_s (fa_sr B A m) (70 + m) (fa_so B A m)) L (kc_upd h 202 m (.inl (Int32.ofNat (fa_so B A m)))) := fa_W_s (by decide) (by omega) hW
      have e7 : (kc_upd h 202 m (.inl (Int32.ofNat (fa_so B A m)))) 202 m = .inl (Int32.ofNat (fa_so B A m)) := fu_eq
      generalize (kc_upd h 202 m (.inl (Int32.ofNat (fa_so B A m)))) = h2 at H2 W2 e7 ⊢
      have hw2 := H2.1
      have hC2 := fa_hc H2.2.2 hC0
      refine kx_go 1 (pc' := 70) (L' := [(3, .inl (Int32.ofNat (fa_un B A m))), (2, .inl (Int32.ofNat m)), (1, .inl (kp_b (fa_fr B A m))), (0, .inr (.inr (.inl (some 190))))]) (S' := [.inr (.inr (.inl (some 190)))]) (h' := h2) (by with_unfolding_all rfl) ?_
      refine kx_getf (c := 190) (v := .inr (.inr (.inl (some 202)))) rfl (by decide) (kx_ofr (hw2 _ _ _ fa_k.2.2.2.2.2.2.2.1)) ?_
      refine kx_go 1 (pc' := 74) (L' := [(3, .inl (Int32.ofNat (fa_un B A m))), (2, .inl (Int32.ofNat m)), (1, .inl (kp_b (fa_fr B A m))), (0, .inr (.inr (.inl (some 190))))]) (S' := [.inl (Int32.ofNat m), .inr (.inr (.inl (some 202)))]) (h' := h2) (by with_unfolding_all rfl) ?_
      refine kx_iald (c := 202) (j := m) (m := 3) (v := .inl (Int32.ofNat (fa_so B A m))) rfl rfl (by decide) (by decide) (by omega) e7 ?_
      refine kx_go 1 (pc' := 76) (L' := [(3, .inl (Int32.ofNat (fa_un B A m))), (2, .inl (Int32.ofNat m)), (1, .inl (kp_b (fa_fr B A m))), (0, .inr (.inr (.inl (some 190))))]) (S' := [.inr (.inr (.inl (some 190))), .inl (Int32.ofNat (fa_so B A m))]) (h' := h2) (by with_unfolding_all rfl) ?_
      refine kx_getf (c := 190) (v := .inr (.inr (.inl (some 1)))) rfl (by decide) (kx_ofr (hw2 _ _ _ fa_k.1)) ?_
      refine kx_getf (c := 1) (v := .inr (.inr (.inl (some 11)))) rfl (by decide) (kx_ofr (hw2 _ _ _ fu_kr.2.2.2.1)) ?_
      refine kx_go 1 (pc' := 83) (L' := [(3, .inl (Int32.ofNat (fa_un B A m))), (2, .inl (Int32.ofNat m)), (1, .inl (kp_b (fa_fr B A m))), (0, .inr (.inr (.inl (some 190))))]) (S' := [.inl (Int32.ofNat m), .inr (.inr (.inl (some 11))), .inl (Int32.ofNat (fa_so B A m))]) (h' := h2) (by with_unfolding_all rfl) ?_
      refine kx_aald rfl (c := 11) (j := m) (m := 3) (t0 := 2) (v := .inr (.inr (.inl (some (1 + (11 + m)))))) rfl (by decide) (by decide) (by decide) (by omega) (kx_ofr (hw2 _ _ _ (fu_smu m (by omega)).2)) ?_
      refine kx_go 1 (pc' := 85) (L' := [(3, .inl (Int32.ofNat (fa_un B A m))), (2, .inl (Int32.ofNat m)), (1, .inl (kp_b (fa_fr B A m))), (0, .inr (.inr (.inl (some 190))))]) (S' := [.inl (Int32.ofNat 2), .inr (.inr (.inl (some (1 + (11 + m))))), .inl (Int32.ofNat (fa_so B A m))]) (h' := h2) (by with_unfolding_all rfl) ?_
      refine kx_iald (c := 1 + (11 + m)) (j := 2) (m := 5) (v := .inl (Int32.ofNat (fa_n B (60 + 5 * m + 2)))) rfl (fu_smu m (by omega)).1.1 (fu_smu m (by omega)).1.2 (by decide) (by decide) ((fu_Cj (c := 11 + m) (i := 2) hC2 (by omega) ((fu_fmu m (by omega)).1 2 (by decide)).2 ((fu_fmu m (by omega)).1 2 (by decide)).1).trans (by rw [(fa_nm (e := 2) hB (show m < 3 by omega) (by decide) (by decide) (fa_tm m (by omega)).2.2.1).1])) ?_
      refine kx_go 1 (pc' := (if kc_cnd .le (Int32.ofNat (fa_so B A m)).toInt (Int32.ofNat (fa_n B (60 + 5 * m + 2))).toInt then 91 else 89)) (L' := [(3, .inl (Int32.ofNat (fa_un B A m))), (2, .inl (Int32.ofNat m)), (1, .inl (kp_b (fa_fr B A m))), (0, .inr (.inr (.inl (some 190))))]) (S' := []) (h' := h2) (by with_unfolding_all rfl) ?_
      have done : ∀ f, fa_fr B A (m + 1) = f → kc_Ev g (d + 3) wk_m197 (fun rv h' => rv = some (.inl (kp_b (fa_fr B A M))) ∧ fa_Hc h0 (fa_sr B A M) L h' ∧ fa_W B (fa_sr B A M) L h') 91 [(1, .inl (kp_b f)), (3, .inl (Int32.ofNat (fa_un B A m))), (2, .inl (Int32.ofNat m)), (0, .inr (.inr (.inl (some 190))))] [] h2 := by
        intro f ef
        refine kx_go 2 (pc' := 4) (L' := [(2, .inl ((Int32.ofNat m) + Int32.ofInt 1)), (1, .inl (kp_b f)), (3, .inl (Int32.ofNat (fa_un B A m))), (0, .inr (.inr (.inl (some 190))))]) (S' := []) (h' := h2) (by with_unfolding_all rfl) ?_
        rw [kx_inc]
        refine kf_lo (L := [(2, .inl (Int32.ofNat (m + 1))), (1, .inl (kp_b (f))), (0, .inr (.inr (.inl (some 190))))]) (by intro q hq; simp only [List.mem_cons, List.not_mem_nil, or_false] at hq; rcases hq with rfl | rfl | rfl <;> rfl) ?_
        rw [← ef]
        exact ih (m + 1) h2 (by omega) (by omega) H2 W2
      by_cases c9 : fa_so B A m ≤ fa_n B (60 + 5 * m + 2)
      · rw [if_pos ((kx_le (by omega) (by omega)).mpr c9)]
        have ef : fa_fr B A (m + 1) = fa_fr B A m := by show (fa_fr B A m || decide (fa_n B (60 + 5 * m + 2) < fa_so B A m)) = _; rw [decide_eq_false (by omega), Bool.or_false]
        have k := done _ ef
        refine kf_lo (L := [(1, .inl (kp_b (fa_fr B A m))), (3, .inl (Int32.ofNat (fa_un B A m))), (2, .inl (Int32.ofNat m)), (0, .inr (.inr (.inl (some 190))))]) (by intro q hq; simp only [List.mem_cons, List.not_mem_nil, or_false] at hq; rcases hq with rfl | rfl | rfl | rfl <;> rfl) ?_
        exact k
      · rw [if_neg (mt (kx_le (by omega) (by omega)).mp c9)]
        refine kx_go 2 (pc' := 91) (L' := [(1, .inl (Int32.ofNat 1)), (3, .inl (Int32.ofNat (fa_un B A m))), (2, .inl (Int32.ofNat m)), (0, .inr (.inr (.inl (some 190))))]) (S' := []) (h' := h2) (by with_unfolding_all rfl) ?_
        exact done true (by show (fa_fr B A m || decide (fa_n B (60 + 5 * m + 2) < fa_so B A m)) = _; rw [decide_eq_true (by omega), Bool.or_true])
    by_cases c1 : fa_un B A m ≤ fa_n B (60 + 5 * m + 1)
    · rw [if_pos ((kx_le (by omega) (by omega)).mpr c1)]
      have es : fa_so B A m = 0 := if_neg (by omega)
      rw [es] at tail
      refine kx_go 1 (pc' := 68) (L' := [(3, .inl (Int32.ofNat (fa_un B A m))), (2, .inl (Int32.ofNat m)), (1, .inl (kp_b (fa_fr B A m))), (0, .inr (.inr (.inl (some 190))))]) (S' := [.inl (Int32.ofNat 0), .inl (Int32.ofNat m), .inr (.inr (.inl (some 202)))]) (h' := h) (by with_unfolding_all rfl) ?_
      refine kx_iast (c := 202) (j := m) (m := 3) rfl rfl (by decide) (by decide) (by omega) ?_
      exact tail
    · rw [if_neg (mt (kx_le (by omega) (by omega)).mp c1)]
      have es : fa_so B A m = A (70 + m) + 1 := if_pos (by omega)
      rw [es] at tail
      have er := fa_sr_h (B := B) (A := A) m (Nat.le_refl m)
      refine kx_go 1 (pc' := 57) (L' := [(3, .inl (Int32.ofNat (fa_un B A m))), (2, .inl (Int32.ofNat m)), (1, .inl (kp_b (fa_fr B A m))), (0, .inr (.inr (.inl (some 190))))]) (S' := [.inr (.inr (.inl (some 190))), .inl (Int32.ofNat m), .inr (.inr (.inl (some 202)))]) (h' := h) (by with_unfolding_all rfl) ?_
      refine kx_getf (c := 190) (v := .inr (.inr (.inl (some 202)))) rfl (by decide) (kx_ofr (hw _ _ _ fa_k.2.2.2.2.2.2.2.1)) ?_
      refine kx_go 1 (pc' := 61) (L' := [(3, .inl (Int32.ofNat (fa_un B A m))), (2, .inl (Int32.ofNat m)), (1, .inl (kp_b (fa_fr B A m))), (0, .inr (.inr (.inl (some 190))))]) (S' := [.inl (Int32.ofNat m), .inr (.inr (.inl (some 202))), .inl (Int32.ofNat m), .inr (.inr (.inl (some 202)))]) (h' := h) (by with_unfolding_all rfl) ?_
      refine kx_iald (c := 202) (j := m) (m := 3) (v := .inl (Int32.ofNat (A (70 + m)))) rfl rfl (by decide) (by decide) (by omega) ((hA.2.2.2.2.2.2 m m3).trans (by rw [er])) ?_
      refine kx_go 3 (pc' := 68) (L' := [(3, .inl (Int32.ofNat (fa_un B A m))), (2, .inl (Int32.ofNat m)), (1, .inl (kp_b (fa_fr B A m))), (0, .inr (.inr (.inl (some 190))))]) (S' := [.inl ((Int32.ofNat (A (70 + m))) + (Int32.ofNat 1)), .inl (Int32.ofNat m), .inr (.inr (.inl (some 202)))]) (h' := h) (by with_unfolding_all rfl) ?_
      rw [kx_add]
      refine kx_iast (c := 202) (j := m) (m := 3) rfl rfl (by decide) (by decide) (by omega) ?_
      exact tail
set_option maxRecDepth 20000 in
theorem fa_c197 {g : kc_G} {d : Nat} {h0 h : kc_H} {B : Nat → Int32} {A : Nat → Nat} {D M L i : Nat} (hg : kc_ok g) (hBB : fa_BB B D M L) (hC0 : fu_C B 1 h0) (hi : i ≤ 60) (hI : fa_I B A L i) (hS : ∀ m, m < 3 → A (70 + m) + 1 ≤ 99 * i) (hH : fa_Hc h0 A L h) (hW : fa_W B A L h) : kc_Con g (d + 4) 197 [.inr (.inr (.inl (some 190)))] h (fun rv h' => rv = some (.inl (kp_b (fa_fr B A M))) ∧ fa_Hc h0 (fa_sr B A M) L h' ∧ fa_W B (fa_sr B A M) L h') := by
  refine kc_Con_new hg (M := wk_m197) rfl rfl rfl (show 1 ≤ 4 by decide) ?_
  refine kx_go 4 (pc' := 4) (L' := [(2, .inl (Int32.ofNat 0)), (1, .inl (Int32.ofNat 0)), (0, .inr (.inr (.inl (some 190))))]) (S' := []) (h' := h) (by with_unfolding_all rfl) ?_
  exact fa_c197l hg hBB hC0 hi hI hS M 0 h (by omega) (Nat.zero_le _) hH hW
theorem fa_wr_c {h0 : kc_H} {A : Nat → Nat} {L : Nat} {h : kc_H} {l v : Nat} (hl : l < 10) (hL : L ≤ 10) (hH : fa_Hc h0 A L h) : fa_Hc h0 A L (kc_upd h 203 l (.inl (Int32.ofNat v))) := by
  obtain ⟨hw, hC, hF⟩ := hH
  refine ⟨fa_wa (fa_k2.2.2.2.2.2.2 l hl) hw, ⟨⟨(fu_ne (fun q => by omega)).trans hC.1.1, (fu_ne (fun q => by omega)).trans hC.1.2.1, (fu_ne (fun q => by omega)).trans hC.1.2.2.1, (fu_ne (fun q => by omega)).trans hC.1.2.2.2.1, (fu_ne (fun q => by omega)).trans hC.1.2.2.2.2.1, (fu_ne (fun q => by omega)).trans hC.1.2.2.2.2.2⟩, fun l' hl' => (fu_ne (fun q => by omega)).trans (hC.2.1 l' hl'), fun s' hs' => (fu_ne (fun q => by omega)).trans (hC.2.2.1 s' hs'), fun s' hs' => (fu_ne (fun q => by omega)).trans (hC.2.2.2.1 s' hs'), fun s' hs' k' hk' => (fu_ne (fun q => by omega)).trans (hC.2.2.2.2.1 s' hs' k' hk'), fun p' hp' => (fu_ne (fun q => by omega)).trans (hC.2.2.2.2.2.1 p' hp'), fun m' hm' => (fu_ne (fun q => by omega)).trans (hC.2.2.2.2.2.2 m' hm')⟩, fun c' x' hn => (fu_ne (fun q => by omega)).trans (hF c' x' hn)⟩
theorem fa_I_n2 {B : Nat → Int32} {A : Nat → Nat} {L i v : Nat} (hL : L ≤ 10) (hI : fa_I B A L i) (hv : v ≤ 99 * i) : fa_I B (fa_s A 2 v) L i := by
  have h3 := hI.2.2.2.2.2.2.1
  refine ⟨by rw [fa_sn (by omega)]; exact hI.1, by rw [fa_se]; exact hv, by rw [fa_sn (by omega)]; exact hI.2.2.1, by rw [fa_sn (by omega)]; exact hI.2.2.2.1, by rw [fa_sn (by omega)]; exact hI.2.2.2.2.1, fun l hl => by rw [fa_sn (by omega)]; exact hI.2.2.2.2.2.1 l hl, fun s hs => by rw [fa_sn (by omega)]; exact h3 s hs, fun s hs => by rw [fa_sn (by omega)]; exact hI.2.2.2.2.2.2.2.1 s hs, fun s hs k hk => ?_, fun p hp => by rw [fa_sn (by omega)]; exact hI.2.2.2.2.2.2.2.2.2.1 p hp, fun m hm => by rw [fa_sn (by omega)]; exact hI.2.2.2.2.2.2.2.2.2.2 m hm⟩
  rw [fa_sn (by omega)] at hk
  rw [fa_sn (by omega)]
  exact hI.2.2.2.2.2.2.2.2.1 s hs k hk
theorem fa_nf {B : Nat → Int32} (hB : fu_BT B) {x : Nat} (hx : x < 6) : B (46 + x) = Int32.ofNat (fa_n B (46 + x)) ∧ fa_n B (46 + x) ≤ 1 := by
  obtain ⟨k, k1, k2⟩ := fu_nat (by decide) (fu_ffo x hx).2.2 (hB (46 + x) (by omega) (fu_ffo x hx).2.1)
  unfold fa_n
  rw [k2, kx_ti (by omega), Int.toNat_natCast]
  exact ⟨rfl, k1⟩
theorem fa_ng {B : Nat → Int32} (hB : fu_BT B) {x y : Nat} (hx : x < 6) (hy : y < 6) : B (10 + 6 * x + y) = Int32.ofNat (fa_n B (10 + 6 * x + y)) ∧ fa_n B (10 + 6 * x + y) ≤ 99 := by
  have hok := hB (10 + 6 * x + y) (by omega) (fu_fmi x hx y hy).2.1
  have ht := (fu_fmi x hx y hy).2.2
  unfold fu_ok at hok
  rw [ht] at hok
  have hz := kd_nb_i (B (10 + 6 * x + y))
  have h1 : 1 ≤ (B (10 + 6 * x + y)).toInt := by omega
  have h2 : (B (10 + 6 * x + y)).toInt ≤ 99 := by omega
  unfold fa_n
  refine ⟨?_, by omega⟩
  apply Int32.toInt_inj.mp
  rw [kx_ti (by omega)]
  omega
set_option maxRecDepth 20000 in
theorem fa_c75l {g : kc_G} {d : Nat} {h0 : kc_H} {B : Nat → Int32} {A : Nat → Nat} {D M L : Nat} (hg : kc_ok g) (hBB : fa_BB B D M L) (hC0 : fu_C B 1 h0) (h5 : A 5 ≤ 60) : ∀ (u l : Nat) (h : kc_H), L - l = u → l ≤ L → fa_Hc h0 A L h → (∀ l2, l2 < l → h 203 l2 = .inl (Int32.ofNat (fa_w B l2 (A 5)))) → kc_Ev g (d + 1) wk_m75 (fun rv h' => rv = none ∧ fa_Hc h0 (A) L h' ∧ fa_W B (A) L h') 2 [(1, .inl (Int32.ofNat l)), (0, .inr (.inr (.inl (some 190))))] [] h := by
  obtain ⟨hB, ⟨eD, hD⟩, ⟨eM, hM⟩, eL, hL⟩ := hBB
  intro u
  induction u with
  | zero =>
    intro l h hu hl hH hp
    have hH1 := hH
    obtain ⟨hw, hA, hF⟩ := hH
    have hC := fa_hc hF hC0
    refine kx_go 2 (pc' := 4) (L' := [(1, .inl (Int32.ofNat l)), (0, .inr (.inr (.inl (some 190))))]) (S' := [.inr (.inr (.inl (some 190))), .inl (Int32.ofNat l)]) (h' := h) (by with_unfolding_all rfl) ?_
    refine kx_getf (c := 190) (v := .inr (.inr (.inl (some 1)))) rfl (by decide) (kx_ofr (hw _ _ _ fa_k.1)) ?_
    refine kx_getf (c := 1) (v := .inl (Int32.ofNat L)) rfl (by decide) ((fu_C0 hC).2.2.1.trans (by rw [eL])) ?_
    refine kx_go 1 (pc' := (if kc_cnd .ge (Int32.ofNat l).toInt (Int32.ofNat L).toInt then 37 else 13)) (L' := [(1, .inl (Int32.ofNat l)), (0, .inr (.inr (.inl (some 190))))]) (S' := []) (h' := h) (by with_unfolding_all rfl) ?_
    rw [if_pos ((kx_ge (by omega) (by omega)).mpr (show L ≤ l by omega))]
    exact kc_ret_ok rfl (rv := none) rfl ⟨rfl, hH1, fun l2 hl2 => hp l2 (by omega)⟩
  | succ u ih =>
    intro l h hu hl hH hp
    have hH1 := hH
    obtain ⟨hw, hA, hF⟩ := hH
    have hC := fa_hc hF hC0
    refine kx_go 2 (pc' := 4) (L' := [(1, .inl (Int32.ofNat l)), (0, .inr (.inr (.inl (some 190))))]) (S' := [.inr (.inr (.inl (some 190))), .inl (Int32.ofNat l)]) (h' := h) (by with_unfolding_all rfl) ?_
    refine kx_getf (c := 190) (v := .inr (.inr (.inl (some 1)))) rfl (by decide) (kx_ofr (hw _ _ _ fa_k.1)) ?_
    refine kx_getf (c := 1) (v := .inl (Int32.ofNat L)) rfl (by decide) ((fu_C0 hC).2.2.1.trans (by rw [eL])) ?_
    refine kx_go 1 (pc' := (if kc_cnd .ge (Int32.ofNat l).toInt (Int32.ofNat L).toInt then 37 else 13)) (L' := [(1, .inl (Int32.ofNat l)), (0, .inr (.inr (.inl (some 190))))]) (S' := []) (h' := h) (by with_unfolding_all rfl) ?_
    rw [if_neg (mt (kx_ge (by omega) (by omega)).mp (show ¬ L ≤ l by omega))]
    refine kx_go 1 (pc' := 14) (L' := [(1, .inl (Int32.ofNat l)), (0, .inr (.inr (.inl (some 190))))]) (S' := [.inr (.inr (.inl (some 190)))]) (h' := h) (by with_unfolding_all rfl) ?_
    refine kx_getf (c := 190) (v := .inr (.inr (.inl (some 203)))) rfl (by decide) (kx_ofr (hw _ _ _ fa_k.2.2.2.2.2.2.2.2)) ?_
    refine kx_go 2 (pc' := 19) (L' := [(1, .inl (Int32.ofNat l)), (0, .inr (.inr (.inl (some 190))))]) (S' := [.inr (.inr (.inl (some 190))), .inl (Int32.ofNat l), .inr (.inr (.inl (some 203)))]) (h' := h) (by with_unfolding_all rfl) ?_
    refine kx_getf (c := 190) (v := .inr (.inr (.inl (some 1)))) rfl (by decide) (kx_ofr (hw _ _ _ fa_k.1)) ?_
    refine kx_go 2 (pc' := 24) (L' := [(1, .inl (Int32.ofNat l)), (0, .inr (.inr (.inl (some 190))))]) (S' := [.inr (.inr (.inl (some 190))), .inl (Int32.ofNat l), .inr (.inr (.inl (some 1))), .inl (Int32.ofNat l), .inr (.inr (.inl (some 203)))]) (h' := h) (by with_unfolding_all rfl) ?_
    refine kx_getf (c := 190) (v := .inl (Int32.ofNat (A 5))) rfl (by decide) hA.1.2.2.2.2.2 ?_
    refine kc_call_rule (M2 := wk_m182) (av := [.inr (.inr (.inl (some 1))), .inl (Int32.ofNat l), .inl (Int32.ofNat (A 5))]) (r := [.inl (Int32.ofNat l), .inr (.inr (.inl (some 203)))]) rfl rfl (kc_Con_le (fa_c182 (d := 0) hg hw hC hB (show l < 10 by omega) h5) (by omega)) (fun rv h2 hq => ?_)
    obtain ⟨rfl, e9⟩ := hq
    rw [e9]
    clear e9
    show kc_Ev g (d + 1) wk_m75 _ 30 [(1, .inl (Int32.ofNat l)), (0, .inr (.inr (.inl (some 190))))] [.inl (Int32.ofNat (fa_w B l (A 5))), .inl (Int32.ofNat l), .inr (.inr (.inl (some 203)))] h
    refine kx_iast (c := 203) (j := l) (m := 10) rfl rfl (by decide) (by decide) (by omega) ?_
    have H2 := fa_wr_c (l := l) (v := fa_w B l (A 5)) (by omega) hL hH1
    have p2 : ∀ l2, l2 < l + 1 → (kc_upd h 203 l (.inl (Int32.ofNat (fa_w B l (A 5))))) 203 l2 = .inl (Int32.ofNat (fa_w B l2 (A 5))) := fun l2 hl2 => by
      by_cases e : l2 = l
      · subst e; exact fu_eq
      · exact (fu_ne (fun q => e q.2)).trans (hp l2 (by omega))
    generalize (kc_upd h 203 l (.inl (Int32.ofNat (fa_w B l (A 5))))) = h2 at H2 p2 ⊢
    refine kx_go 2 (pc' := 2) (L' := [(1, .inl ((Int32.ofNat l) + Int32.ofInt 1)), (0, .inr (.inr (.inl (some 190))))]) (S' := []) (h' := h2) (by with_unfolding_all rfl) ?_
    rw [kx_inc]
    refine kf_lo (L := [(1, .inl (Int32.ofNat (l + 1))), (0, .inr (.inr (.inl (some 190))))]) (by intro q hq; simp only [List.mem_cons, List.not_mem_nil, or_false] at hq; rcases hq with rfl | rfl <;> rfl) ?_
    exact ih (l + 1) h2 (by omega) (by omega) H2 p2
set_option maxRecDepth 20000 in
theorem fa_c75 {g : kc_G} {d : Nat} {h0 h : kc_H} {B : Nat → Int32} {A : Nat → Nat} {D M L : Nat} (hg : kc_ok g) (hBB : fa_BB B D M L) (hC0 : fu_C B 1 h0) (h5 : A 5 ≤ 60) (hH : fa_Hc h0 A L h) : kc_Con g (d + 2) 75 [.inr (.inr (.inl (some 190)))] h (fun rv h' => rv = none ∧ fa_Hc h0 (A) L h' ∧ fa_W B (A) L h') := by
  refine kc_Con_new hg (M := wk_m75) rfl rfl rfl (show 1 ≤ 2 by decide) ?_
  refine kx_go 2 (pc' := 2) (L' := [(1, .inl (Int32.ofNat 0)), (0, .inr (.inr (.inl (some 190))))]) (S' := []) (h' := h) (by with_unfolding_all rfl) ?_
  exact fa_c75l hg hBB hC0 h5 L 0 h (by omega) (Nat.zero_le _) hH (fun l2 hl2 => by omega)
set_option maxRecDepth 20000 in
theorem fa_c195l {g : kc_G} {d : Nat} {h0 : kc_H} {B : Nat → Int32} {D M L i e F : Nat} (hg : kc_ok g) (hBB : fa_BB B D M L) (hC0 : fu_C B 1 h0) (hi : i ≤ 60) (he : e < 6) (hF9 : F ≤ 99) : ∀ (r : Nat) (A : Nat → Nat) (h : kc_H) (k : Nat), k + r = F → fa_I B A L i → A 2 + r ≤ 99 * i → (∀ m, m < 3 → A (70 + m) + r ≤ 99 * i) → A 5 + 1 ≤ 60 → fa_Hc h0 A L h → fa_W B A L h → kc_Ev g (d + 5) wk_m195 (fun rv h' => rv = some (.inl (Int32.ofNat (fa_fin e (fa_mi B M r A)).1)) ∧ fa_Hc h0 ((fa_fin e (fa_mi B M r A)).2) L h' ∧ fa_W B ((fa_fin e (fa_mi B M r A)).2) L h') 61 [(3, .inl (Int32.ofNat k)), (2, .inl (Int32.ofNat F)), (0, .inr (.inr (.inl (some 190)))), (1, .inl (Int32.ofNat e))] [] h := by
  have hBB1 := hBB
  obtain ⟨hB, ⟨eD, hD⟩, ⟨eM, hM⟩, eL, hL⟩ := hBB1
  intro r
  induction r with
  | zero =>
    intro A h k hk hI hJ hS h5 hH hW
    have h3 := hI.2.2.2.2.2.2.1
    have hH1 := hH
    obtain ⟨hw, hA, hF⟩ := hH
    have hC := fa_hc hF hC0
    refine kx_go 3 (pc' := (if kc_cnd .ge (Int32.ofNat k).toInt (Int32.ofNat F).toInt then 92 else 66)) (L' := [(3, .inl (Int32.ofNat k)), (2, .inl (Int32.ofNat F)), (0, .inr (.inr (.inl (some 190)))), (1, .inl (Int32.ofNat e))]) (S' := []) (h' := h) (by with_unfolding_all rfl) ?_
    rw [if_pos ((kx_ge (by omega) (by omega)).mpr (show F ≤ k by omega))]
    refine kx_go 2 (pc' := 94) (L' := [(3, .inl (Int32.ofNat k)), (2, .inl (Int32.ofNat F)), (0, .inr (.inr (.inl (some 190)))), (1, .inl (Int32.ofNat e))]) (S' := [.inl (Int32.ofNat e), .inr (.inr (.inl (some 190)))]) (h' := h) (by with_unfolding_all rfl) ?_
    refine kx_go 1 (pc' := 97) (L' := [(3, .inl (Int32.ofNat k)), (2, .inl (Int32.ofNat F)), (0, .inr (.inr (.inl (some 190)))), (1, .inl (Int32.ofNat e))]) (S' := []) (h' := (kc_upd h 190 6 (.inl (Int32.ofNat e)))) (by with_unfolding_all rfl) ?_
    have H2 := fa_n4_c (v := e) (by omega) hL h3 hH1
    have e9 : (kc_upd h 190 6 (.inl (Int32.ofNat e))) 190 14 = .inl (Int32.ofNat (A 5)) := (fu_ne (fun q => by omega)).trans hA.1.2.2.2.2.2
    generalize (kc_upd h 190 6 (.inl (Int32.ofNat e))) = h2 at H2 e9 ⊢
    have hw2 := H2.1
    refine kx_go 2 (pc' := 99) (L' := [(3, .inl (Int32.ofNat k)), (2, .inl (Int32.ofNat F)), (0, .inr (.inr (.inl (some 190)))), (1, .inl (Int32.ofNat e))]) (S' := [.inr (.inr (.inl (some 190))), .inr (.inr (.inl (some 190)))]) (h' := h2) (by with_unfolding_all rfl) ?_
    refine kx_getf (c := 190) (v := .inl (Int32.ofNat (A 5))) rfl (by decide) e9 ?_
    refine kx_go 2 (pc' := 104) (L' := [(3, .inl (Int32.ofNat k)), (2, .inl (Int32.ofNat F)), (0, .inr (.inr (.inl (some 190)))), (1, .inl (Int32.ofNat e))]) (S' := [.inl ((Int32.ofNat (A 5)) + (Int32.ofNat 1)), .inr (.inr (.inl (some 190)))]) (h' := h2) (by with_unfolding_all rfl) ?_
    rw [kx_add]
    refine kx_go 1 (pc' := 107) (L' := [(3, .inl (Int32.ofNat k)), (2, .inl (Int32.ofNat F)), (0, .inr (.inr (.inl (some 190)))), (1, .inl (Int32.ofNat e))]) (S' := []) (h' := (kc_upd h2 190 14 (.inl (Int32.ofNat (A 5 + 1))))) (by with_unfolding_all rfl) ?_
    have H3 := fa_n5_c (v := A 5 + 1) hL (fun t ht => by rw [fa_sn (by omega)]; exact h3 t ht) H2
    generalize (kc_upd h2 190 14 (.inl (Int32.ofNat (A 5 + 1)))) = h4 at H3 ⊢
    refine kx_go 1 (pc' := 108) (L' := [(3, .inl (Int32.ofNat k)), (2, .inl (Int32.ofNat F)), (0, .inr (.inr (.inl (some 190)))), (1, .inl (Int32.ofNat e))]) (S' := [.inr (.inr (.inl (some 190)))]) (h' := h4) (by with_unfolding_all rfl) ?_
    refine kc_call_rule (M2 := wk_m75) (av := [.inr (.inr (.inl (some 190)))]) (r := []) rfl rfl (kc_Con_le (fa_c75 (d := 0) hg hBB hC0 (by rw [fa_se]; omega) H3) (by omega)) (fun rv h2 hq => ?_)
    obtain ⟨rfl, H4⟩ := hq
    show kc_Ev g (d + 5) wk_m195 _ 111 [(3, .inl (Int32.ofNat k)), (2, .inl (Int32.ofNat F)), (0, .inr (.inr (.inl (some 190)))), (1, .inl (Int32.ofNat e))] [] h2
    refine kx_go 1 (pc' := 112) (L' := [(3, .inl (Int32.ofNat k)), (2, .inl (Int32.ofNat F)), (0, .inr (.inr (.inl (some 190)))), (1, .inl (Int32.ofNat e))]) (S' := [.inl (Int32.ofNat 0)]) (h' := h2) (by with_unfolding_all rfl) ?_
    exact kc_ret_ok rfl (rv := some (.inl (Int32.ofNat 0))) rfl ⟨rfl, H4⟩
  | succ r ih =>
    intro A h k hk hI hJ hS h5 hH hW
    have h3 := hI.2.2.2.2.2.2.1
    have hH1 := hH
    obtain ⟨hw, hA, hF⟩ := hH
    have hC := fa_hc hF hC0
    refine kx_go 3 (pc' := (if kc_cnd .ge (Int32.ofNat k).toInt (Int32.ofNat F).toInt then 92 else 66)) (L' := [(3, .inl (Int32.ofNat k)), (2, .inl (Int32.ofNat F)), (0, .inr (.inr (.inl (some 190)))), (1, .inl (Int32.ofNat e))]) (S' := []) (h' := h) (by with_unfolding_all rfl) ?_
    rw [if_neg (mt (kx_ge (by omega) (by omega)).mp (show ¬ F ≤ k by omega))]
    refine kx_go 2 (pc' := 68) (L' := [(3, .inl (Int32.ofNat k)), (2, .inl (Int32.ofNat F)), (0, .inr (.inr (.inl (some 190)))), (1, .inl (Int32.ofNat e))]) (S' := [.inr (.inr (.inl (some 190))), .inr (.inr (.inl (some 190)))]) (h' := h) (by with_unfolding_all rfl) ?_
    refine kx_getf (c := 190) (v := .inl (Int32.ofNat (A 2))) rfl (by decide) hA.1.2.2.1 ?_
    refine kx_go 2 (pc' := 73) (L' := [(3, .inl (Int32.ofNat k)), (2, .inl (Int32.ofNat F)), (0, .inr (.inr (.inl (some 190)))), (1, .inl (Int32.ofNat e))]) (S' := [.inl ((Int32.ofNat (A 2)) + (Int32.ofNat 1)), .inr (.inr (.inl (some 190)))]) (h' := h) (by with_unfolding_all rfl) ?_
    rw [kx_add]
    refine kx_go 1 (pc' := 76) (L' := [(3, .inl (Int32.ofNat k)), (2, .inl (Int32.ofNat F)), (0, .inr (.inr (.inl (some 190)))), (1, .inl (Int32.ofNat e))]) (S' := []) (h' := (kc_upd h 190 4 (.inl (Int32.ofNat (A 2 + 1))))) (by with_unfolding_all rfl) ?_
    have H2 := fa_n2_c (v := A 2 + 1) hL h3 hH1
    have W2 : fa_W B (fa_s A 2 (A 2 + 1)) L (kc_upd h 190 4 (.inl (Int32.ofNat (A 2 + 1)))) := fa_W_s (by decide) (by decide) hW
    generalize (kc_upd h 190 4 (.inl (Int32.ofNat (A 2 + 1)))) = h2 at H2 W2 ⊢
    have hI2 := fa_I_n2 (v := A 2 + 1) hL hI (by omega)
    have s2 : ∀ m, m < 3 → fa_s A 2 (A 2 + 1) (70 + m) + 1 ≤ 99 * i := fun m hm => by have := hS m hm; rw [fa_sn (by omega)]; omega
    refine kx_go 1 (pc' := 77) (L' := [(3, .inl (Int32.ofNat k)), (2, .inl (Int32.ofNat F)), (0, .inr (.inr (.inl (some 190)))), (1, .inl (Int32.ofNat e))]) (S' := [.inr (.inr (.inl (some 190)))]) (h' := h2) (by with_unfolding_all rfl) ?_
    refine kc_call_rule (M2 := wk_m197) (av := [.inr (.inr (.inl (some 190)))]) (r := []) rfl rfl (kc_Con_le (fa_c197 (d := 0) hg hBB hC0 hi hI2 s2 H2 W2) (by omega)) (fun rv h2 hq => ?_)
    obtain ⟨rfl, H4, W4⟩ := hq
    show kc_Ev g (d + 5) wk_m195 _ 80 [(3, .inl (Int32.ofNat k)), (2, .inl (Int32.ofNat F)), (0, .inr (.inr (.inl (some 190)))), (1, .inl (Int32.ofNat e))] [.inl (kp_b (fa_fr B (fa_s A 2 (A 2 + 1)) M))] h2
    refine kx_go 1 (pc' := (if kc_cnd .eq (kp_b (fa_fr B (fa_s A 2 (A 2 + 1)) M)).toInt 0 then 86 else 83)) (L' := [(3, .inl (Int32.ofNat k)), (2, .inl (Int32.ofNat F)), (0, .inr (.inr (.inl (some 190)))), (1, .inl (Int32.ofNat e))]) (S' := []) (h' := h2) (by with_unfolding_all rfl) ?_
    have um : fa_mi B M (r + 1) A = if fa_fr B (fa_s A 2 (A 2 + 1)) M = true then (6, fa_sr B (fa_s A 2 (A 2 + 1)) M) else fa_mi B M r (fa_sr B (fa_s A 2 (A 2 + 1)) M) := rfl
    rw [um]
    cases e8 : fa_fr B (fa_s A 2 (A 2 + 1)) M with
    | true =>
      rw [if_neg fa_b0t, if_pos (show true = true from rfl)]
      refine kx_go 1 (pc' := 85) (L' := [(3, .inl (Int32.ofNat k)), (2, .inl (Int32.ofNat F)), (0, .inr (.inr (.inl (some 190)))), (1, .inl (Int32.ofNat e))]) (S' := [.inl (Int32.ofNat 6)]) (h' := h2) (by with_unfolding_all rfl) ?_
      exact kc_ret_ok rfl (rv := some (.inl (Int32.ofNat 6))) rfl ⟨rfl, H4, W4⟩
    | false =>
      rw [if_pos fa_b0f, if_neg (show ¬ (false = true) from Bool.false_ne_true)]
      refine kx_go 2 (pc' := 61) (L' := [(3, .inl ((Int32.ofNat k) + Int32.ofInt 1)), (2, .inl (Int32.ofNat F)), (0, .inr (.inr (.inl (some 190)))), (1, .inl (Int32.ofNat e))]) (S' := []) (h' := h2) (by with_unfolding_all rfl) ?_
      rw [kx_inc]
      refine kf_lo (L := [(3, .inl (Int32.ofNat (k + 1))), (2, .inl (Int32.ofNat F)), (0, .inr (.inr (.inl (some 190)))), (1, .inl (Int32.ofNat e))]) (by intro q hq; simp only [List.mem_cons, List.not_mem_nil, or_false] at hq; rcases hq with rfl | rfl | rfl | rfl <;> rfl) ?_
      exact ih _ _ (k + 1) (by omega) (fa_I_sr hL hI2 s2 hM) (by rw [fa_sr_o (by omega), fa_se]; omega) (fun m hm => by have := fa_sr_b (B := B) (A := fa_s A 2 (A 2 + 1)) (X := 99 * i - r) (fun j hj => by have := hS j hj; rw [fa_sn (by omega)]; omega) M hM m hm; have := hS m hm; omega) (by rw [fa_sr_o (by omega), fa_sn (by omega)]; exact h5) H4 W4
set_option maxRecDepth 20000 in
theorem fa_c195 {g : kc_G} {d : Nat} {h0 h : kc_H} {B : Nat → Int32} {A : Nat → Nat} {D M L i : Nat} {e : Nat} (hg : kc_ok g) (hBB : fa_BB B D M L) (hC0 : fu_C B 1 h0) (hi : i ≤ 60) (hI : fa_I B A L i) (hJ : A 2 + 99 ≤ 99 * i) (hS : ∀ m, m < 3 → A (70 + m) + 99 ≤ 99 * i) (h5 : A 5 + 1 ≤ 60) (hH : fa_Hc h0 A L h) (hW : fa_W B A L h) (he : e < 1000) : kc_Con g (d + 6) 195 [.inr (.inr (.inl (some 190))), .inl (Int32.ofNat e)] h (fun rv h' => rv = some (.inl (Int32.ofNat (fa_go B A D M e).1)) ∧ fa_Hc h0 ((fa_go B A D M e).2) L h' ∧ fa_W B ((fa_go B A D M e).2) L h') := by
  have hBB1 := hBB
  obtain ⟨hB, ⟨eD, hD⟩, ⟨eM, hM⟩, eL, hL⟩ := hBB1
  have h3 := hI.2.2.2.2.2.2.1
  have hH1 := hH
  obtain ⟨hw, hA, hF⟩ := hH
  have hC := fa_hc hF hC0
  have a4 := hI.2.2.2.1
  have z1 : (B 1).toInt - 1 = (M : Int) - 1 := by rw [eM, kx_ti (by omega)]
  have z2 : (B 2).toInt - 1 = (L : Int) - 1 := by rw [eL, kx_ti (by omega)]
  have z0 : (B 0).toInt = ((D + 1 : Nat) : Int) - 1 := by rw [eD, kx_ti (by omega)]; omega
  unfold fa_go
  refine kc_Con_new hg (M := wk_m195) rfl rfl rfl (show 2 ≤ 4 by decide) ?_
  refine kx_go 1 (pc' := 1) (L' := [(0, .inr (.inr (.inl (some 190)))), (1, .inl (Int32.ofNat e))]) (S' := [.inr (.inr (.inl (some 190)))]) (h' := h) (by with_unfolding_all rfl) ?_
  refine kx_getf (c := 190) (v := .inr (.inr (.inl (some 1)))) rfl (by decide) (kx_ofr (hw _ _ _ fa_k.1)) ?_
  refine kx_go 1 (pc' := 5) (L' := [(0, .inr (.inr (.inl (some 190)))), (1, .inl (Int32.ofNat e))]) (S' := [.inl (Int32.ofNat e), .inr (.inr (.inl (some 1)))]) (h' := h) (by with_unfolding_all rfl) ?_
  refine kc_call_rule (M2 := wk_m18) (av := [.inr (.inr (.inl (some 1))), .inl (Int32.ofNat e)]) (r := []) rfl rfl (kc_Con_le (fu_c18 (d := 0) hg hC) (by omega)) (fun rv h2 hq => ?_)
  obtain ⟨rfl, e9⟩ := hq
  rw [e9]
  clear e9
  rw [fa_inb he z0]
  show kc_Ev g (d + 5) wk_m195 _ 8 [(0, .inr (.inr (.inl (some 190)))), (1, .inl (Int32.ofNat e))] [.inl (kp_b (decide (e < D + 1)))] h
  refine kx_go 1 (pc' := (if kc_cnd .eq (kp_b (decide (e < D + 1))).toInt 0 then 19 else 11)) (L' := [(0, .inr (.inr (.inl (some 190)))), (1, .inl (Int32.ofNat e))]) (S' := []) (h' := h) (by with_unfolding_all rfl) ?_
  by_cases c1 : e < D + 1
  · rw [decide_eq_true c1, if_neg fa_b0t, if_pos c1]
    refine kx_go 2 (pc' := 13) (L' := [(0, .inr (.inr (.inl (some 190)))), (1, .inl (Int32.ofNat e))]) (S' := [.inr (.inr (.inl (some 190))), .inl (Int32.ofNat e)]) (h' := h) (by with_unfolding_all rfl) ?_
    refine kx_getf (c := 190) (v := .inl (Int32.ofNat (A 4))) rfl (by decide) hA.1.2.2.2.2.1 ?_
    refine kx_go 1 (pc' := (if kc_cnd .ne (Int32.ofNat e).toInt (Int32.ofNat (A 4)).toInt then 21 else 19)) (L' := [(0, .inr (.inr (.inl (some 190)))), (1, .inl (Int32.ofNat e))]) (S' := []) (h' := h) (by with_unfolding_all rfl) ?_
    by_cases c2 : e = A 4
    · rw [if_neg (mt (kx_ne (by omega) (by omega)).mp (not_not_intro c2)), if_pos c2]
      refine kx_go 1 (pc' := 20) (L' := [(0, .inr (.inr (.inl (some 190)))), (1, .inl (Int32.ofNat e))]) (S' := [.inl (Int32.ofNat 1)]) (h' := h) (by with_unfolding_all rfl) ?_
      exact kc_ret_ok rfl (rv := some (.inl (Int32.ofNat 1))) rfl ⟨rfl, hH1, hW⟩
    · rw [if_pos ((kx_ne (by omega) (by omega)).mpr c2), if_neg c2]
      have nf := (fa_nf hB (show e < 6 by omega)).2
      have ng := (fa_ng hB (show A 4 < 6 from a4) (show e < 6 by omega)).2
      have far : kc_Ev g (d + 5) wk_m195 (fun rv h' => rv = some (.inl (Int32.ofNat (fa_fin e (fa_mi B M (fa_n B (10 + 6 * A 4 + e)) A)).1)) ∧ fa_Hc h0 ((fa_fin e (fa_mi B M (fa_n B (10 + 6 * A 4 + e)) A)).2) L h' ∧ fa_W B ((fa_fin e (fa_mi B M (fa_n B (10 + 6 * A 4 + e)) A)).2) L h') 44 [(0, .inr (.inr (.inl (some 190)))), (1, .inl (Int32.ofNat e))] [] h := by
        refine kx_go 1 (pc' := 45) (L' := [(0, .inr (.inr (.inl (some 190)))), (1, .inl (Int32.ofNat e))]) (S' := [.inr (.inr (.inl (some 190)))]) (h' := h) (by with_unfolding_all rfl) ?_
        refine kx_getf (c := 190) (v := .inr (.inr (.inl (some 1)))) rfl (by decide) (kx_ofr (hw _ _ _ fa_k.1)) ?_
        refine kx_getf (c := 1) (v := .inr (.inr (.inl (some 2)))) rfl (by decide) (kx_ofr (hw _ _ _ fu_kr.1)) ?_
        refine kx_go 1 (pc' := 52) (L' := [(0, .inr (.inr (.inl (some 190)))), (1, .inl (Int32.ofNat e))]) (S' := [.inr (.inr (.inl (some 190))), .inr (.inr (.inl (some 2)))]) (h' := h) (by with_unfolding_all rfl) ?_
        refine kx_getf (c := 190) (v := .inl (Int32.ofNat (A 4))) rfl (by decide) hA.1.2.2.2.2.1 ?_
        refine kx_aald rfl (c := 2) (j := A 4) (m := 6) (t0 := 2) (v := .inr (.inr (.inl (some (1 + (2 + (A 4))))))) rfl (by decide) (by decide) (by decide) (by omega) (kx_ofr (hw _ _ _ (fu_smi (A 4) (by omega)).2)) ?_
        refine kx_go 1 (pc' := 57) (L' := [(0, .inr (.inr (.inl (some 190)))), (1, .inl (Int32.ofNat e))]) (S' := [.inl (Int32.ofNat e), .inr (.inr (.inl (some (1 + (2 + (A 4))))))]) (h' := h) (by with_unfolding_all rfl) ?_
        refine kx_iald (c := 1 + (2 + (A 4))) (j := e) (m := 6) (v := .inl (Int32.ofNat (fa_n B (10 + 6 * (A 4) + e)))) rfl (fu_smi ((A 4)) (by omega)).1.1 (fu_smi ((A 4)) (by omega)).1.2 (by decide) (by omega) ((fu_Cj (c := 2 + (A 4)) (i := e) hC (by omega) (fu_fmi ((A 4)) (by omega) e (by omega)).2.1 (fu_fmi ((A 4)) (by omega) e (by omega)).1).trans (by rw [(fa_ng hB (show (A 4) < 6 by omega) (show e < 6 by omega)).1])) ?_
        refine kx_go 3 (pc' := 61) (L' := [(3, .inl (Int32.ofNat 0)), (2, .inl (Int32.ofNat (fa_n B (10 + 6 * (A 4) + e)))), (0, .inr (.inr (.inl (some 190)))), (1, .inl (Int32.ofNat e))]) (S' := []) (h' := h) (by with_unfolding_all rfl) ?_
        refine kf_lo (L := [(3, .inl (Int32.ofNat 0)), (2, .inl (Int32.ofNat (fa_n B (10 + 6 * A 4 + e)))), (0, .inr (.inr (.inl (some 190)))), (1, .inl (Int32.ofNat e))]) (by intro q hq; simp only [List.mem_cons, List.not_mem_nil, or_false] at hq; rcases hq with rfl | rfl | rfl | rfl <;> rfl) ?_
        exact fa_c195l hg hBB hC0 hi (by omega) ng _ A h 0 (Nat.zero_add _) hI (by omega) (fun m hm => by have := hS m hm; omega) h5 hH1 hW
      refine kx_go 1 (pc' := 22) (L' := [(0, .inr (.inr (.inl (some 190)))), (1, .inl (Int32.ofNat e))]) (S' := [.inr (.inr (.inl (some 190)))]) (h' := h) (by with_unfolding_all rfl) ?_
      refine kx_getf (c := 190) (v := .inr (.inr (.inl (some 1)))) rfl (by decide) (kx_ofr (hw _ _ _ fa_k.1)) ?_
      refine kx_getf (c := 1) (v := .inr (.inr (.inl (some 9)))) rfl (by decide) (kx_ofr (hw _ _ _ fu_kr.2.1)) ?_
      refine kx_go 1 (pc' := 29) (L' := [(0, .inr (.inr (.inl (some 190)))), (1, .inl (Int32.ofNat e))]) (S' := [.inl (Int32.ofNat e), .inr (.inr (.inl (some 9)))]) (h' := h) (by with_unfolding_all rfl) ?_
      refine kx_iald (c := 9) (j := e) (m := 6) (v := .inl (Int32.ofNat (fa_n B (46 + e)))) rfl rfl (by decide) (by decide) (by omega) ((fu_Cj (c := 8) (i := e) hC (by omega) (fu_ffo e (by omega)).2.1 (fu_ffo e (by omega)).1).trans (by rw [(fa_nf hB (show e < 6 by omega)).1])) ?_
      refine kx_go 2 (pc' := (if kc_cnd .ne (Int32.ofNat (fa_n B (46 + e))).toInt (Int32.ofNat 1).toInt then 44 else 34)) (L' := [(0, .inr (.inr (.inl (some 190)))), (1, .inl (Int32.ofNat e))]) (S' := []) (h' := h) (by with_unfolding_all rfl) ?_
      by_cases c3 : fa_n B (46 + e) = 1
      · rw [if_neg (mt (kx_ne (by omega) (by omega)).mp (not_not_intro c3))]
        refine kx_go 1 (pc' := 35) (L' := [(0, .inr (.inr (.inl (some 190)))), (1, .inl (Int32.ofNat e))]) (S' := [.inr (.inr (.inl (some 190)))]) (h' := h) (by with_unfolding_all rfl) ?_
        refine kc_call_rule (M2 := wk_m196) (av := [.inr (.inr (.inl (some 190)))]) (r := []) rfl rfl (kc_Con_le (fa_c196 (d := 0) hg hBB hw hC hi hI hA) (by omega)) (fun rv h2 hq => ?_)
        obtain ⟨rfl, e9⟩ := hq
        rw [e9]
        clear e9
        show kc_Ev g (d + 5) wk_m195 _ 38 [(0, .inr (.inr (.inl (some 190)))), (1, .inl (Int32.ofNat e))] [.inl (kp_b (fa_wt B A (2 * M)))] h
        refine kx_go 1 (pc' := (if kc_cnd .eq (kp_b (fa_wt B A (2 * M))).toInt 0 then 44 else 41)) (L' := [(0, .inr (.inr (.inl (some 190)))), (1, .inl (Int32.ofNat e))]) (S' := []) (h' := h) (by with_unfolding_all rfl) ?_
        cases e4 : fa_wt B A (2 * M) with
        | true =>
          rw [if_neg fa_b0t, if_pos ⟨c3, rfl⟩]
          refine kx_go 1 (pc' := 43) (L' := [(0, .inr (.inr (.inl (some 190)))), (1, .inl (Int32.ofNat e))]) (S' := [.inl (Int32.ofNat 7)]) (h' := h) (by with_unfolding_all rfl) ?_
          exact kc_ret_ok rfl (rv := some (.inl (Int32.ofNat 7))) rfl ⟨rfl, hH1, hW⟩
        | false =>
          rw [if_pos fa_b0f, if_neg (fun q : fa_n B (46 + e) = 1 ∧ false = true => by cases q.2)]
          exact far
      · rw [if_pos ((kx_ne (by omega) (by omega)).mpr c3), if_neg (fun q : fa_n B (46 + e) = 1 ∧ fa_wt B A (2 * M) = true => c3 q.1)]
        exact far
  · rw [decide_eq_false c1, if_pos fa_b0f, if_neg c1]
    refine kx_go 1 (pc' := 20) (L' := [(0, .inr (.inr (.inl (some 190)))), (1, .inl (Int32.ofNat e))]) (S' := [.inl (Int32.ofNat 1)]) (h' := h) (by with_unfolding_all rfl) ?_
    exact kc_ret_ok rfl (rv := some (.inl (Int32.ofNat 1))) rfl ⟨rfl, hH1, hW⟩
end
