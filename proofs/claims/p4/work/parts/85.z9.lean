/-! ===== by hand: read ===== -/
theorem kr_beg {h : kc_H} {c n k0 s0 : Nat} (h2 : h 127 2 = .inr (.inr (.inl (some 128)))) (h3 : h 127 3 = .inr (.inr (.inl (some 129)))) (h7 : h 127 7 = .inl (Int32.ofNat k0)) (h8 : h 127 8 = .inl (Int32.ofNat s0)) : kc_upd (kc_upd (kc_upd (kc_upd h 127 4 (.inr (.inr (.inl (some c))))) 127 5 (.inl (Int32.ofNat n))) 127 6 (.inl (Int32.ofNat 0))) 127 1 (.inl (Int32.ofNat 0)) = kr_H (kj h 0) c n 0 k0 s0 := by
  funext a b
  unfold kc_upd kr_H kj
  by_cases ha : a = 127
  · subst ha
    by_cases b1 : b = 1
    · subst b1; simp
    · by_cases b4 : b = 4
      · subst b4; simp
      · by_cases b5 : b = 5
        · subst b5; simp
        · by_cases b6 : b = 6
          · subst b6; simp
          · by_cases b2 : b = 2
            · subst b2; simp [h2]
            · by_cases b3 : b = 3
              · subst b3; simp [h3]
              · by_cases b7 : b = 7
                · subst b7; simp [h7]
                · by_cases b8 : b = 8
                  · subst b8; simp [h8]
                  · simp [b1, b2, b3, b4, b5, b6, b7, b8]
  · simp [ha]
/-- what read leaves behind -/
def kr_Qr (t : Nat → Nat) (c n m f : Nat) (h : kc_H) : Option kc_V → kc_H → Prop := fun rv h' => match kp_its t n m f 61 0 with
  | some l => ∃ p2 k2 s2 : Nat, rv = some (.inl (Int32.ofInt (-1))) ∧ (p2 ≤ n ∧ k2 < 5 ∧ s2 ≤ n) ∧ h' = kr_H (kj (kr_ws h 0 l) l.length) c n p2 k2 s2
  | none => ∃ (h2 : kc_H) (it2 p2 k2 s2 : Nat), rv = some (.inl (Int32.ofNat s2)) ∧ (kr_D h h2 ∧ it2 ≤ 60 ∧ (s2 ≤ n ∧ p2 ≤ n ∧ k2 < 5)) ∧ h' = kr_H (kj h2 it2) c n p2 k2 s2
set_option maxRecDepth 20000 in
theorem kr_read0 {g : kc_G} {d : Nat} {n k0 s0 : Nat} {t : Nat → Nat} {h : kc_H} (hg : kc_ok g) (hn : n ≤ 240) (hb : ∀ j, j < 240 → t j < 256) (ht : ∀ j, j < 240 → h 29 j = .inl (Int32.ofNat (t j))) (hrw : ∀ i, i < 60 → h 129 i = .inr (.inr (.inl (some (130 + i))))) (a0 : h 127 0 = .inr (.inr (.inl (some 1)))) (a1 : h 1 11 = .inr (.inr (.inl (some 28)))) (a2 : h 28 0 = .inr (.inr (.inl (some 29)))) (a3 : h 1 12 = .inr (.inr (.inl (some 31)))) (a4 : h 31 0 = .inl (Int32.ofNat n)) (a5 : h 127 2 = .inr (.inr (.inl (some 128)))) (a6 : h 127 3 = .inr (.inr (.inl (some 129)))) (a7 : h 127 7 = .inl (Int32.ofNat k0)) (a8 : h 127 8 = .inl (Int32.ofNat s0)) : kc_Con g (d + 8) 61 [.inr (.inr (.inl (some 127))), .inl (Int32.ofNat 0)] h (kr_Qr t 29 n 9 0 h) := by
  refine kc_Con_new hg (M := wk_m61) rfl rfl rfl (show 2 ≤ 4 by decide) ?_
  refine kx_go 2 (pc' := 2) (L' := [(0, .inr (.inr (.inl (some 127)))), (1, .inl (Int32.ofNat 0))]) (S' := [.inr (.inr (.inl (some 127))), .inr (.inr (.inl (some 127)))]) (h' := h) (by with_unfolding_all rfl) ?_
  refine kx_getf (c := 127) rfl (by decide) a0 ?_
  refine kx_getf (c := 1) rfl (by decide) a1 ?_
  refine kx_go 1 (pc' := 9) (L' := [(0, .inr (.inr (.inl (some 127)))), (1, .inl (Int32.ofNat 0))]) (S' := [.inl (Int32.ofNat 0), .inr (.inr (.inl (some 28))), .inr (.inr (.inl (some 127)))]) (h' := h) (by with_unfolding_all rfl) ?_
  refine kx_aald rfl (c := 28) (j := 0) (m := 2) (t0 := 2) rfl (by decide) (by decide) (by decide) (by decide) a2 ?_
  refine kx_go 3 (pc' := 15) (L' := [(0, .inr (.inr (.inl (some 127)))), (1, .inl (Int32.ofNat 0))]) (S' := [.inr (.inr (.inl (some 127))), .inr (.inr (.inl (some 127)))]) (h' := kc_upd h 127 4 (.inr (.inr (.inl (some 29))))) (by with_unfolding_all rfl) ?_
  refine kx_getf (c := 127) (v := .inr (.inr (.inl (some 1)))) rfl (by decide) ((if_neg (by decide)).trans a0) ?_
  refine kx_getf (c := 1) (v := .inr (.inr (.inl (some 31)))) rfl (by decide) ((if_neg (by decide)).trans a3) ?_
  refine kx_go 1 (pc' := 22) (L' := [(0, .inr (.inr (.inl (some 127)))), (1, .inl (Int32.ofNat 0))]) (S' := [.inl (Int32.ofNat 0), .inr (.inr (.inl (some 31))), .inr (.inr (.inl (some 127)))]) (h' := kc_upd h 127 4 (.inr (.inr (.inl (some 29))))) (by with_unfolding_all rfl) ?_
  refine kx_iald rfl (c := 31) (j := 0) (m := 2) (v := .inl (Int32.ofNat n)) rfl (by decide) (by decide) (by decide) ((if_neg (by decide)).trans a4) ?_
  refine kx_go 1 (pc' := 26) (L' := [(0, .inr (.inr (.inl (some 127)))), (1, .inl (Int32.ofNat 0))]) (S' := []) (h' := kc_upd (kc_upd h 127 4 (.inr (.inr (.inl (some 29))))) 127 5 (.inl (Int32.ofNat n))) (by with_unfolding_all rfl) ?_
  refine kx_go 8 (pc' := 38) (L' := [(2, .inl (Int32.ofNat 0)), (0, .inr (.inr (.inl (some 127)))), (1, .inl (Int32.ofNat 0))]) (S' := []) (h' := kc_upd (kc_upd (kc_upd (kc_upd h 127 4 (.inr (.inr (.inl (some 29))))) 127 5 (.inl (Int32.ofNat n))) 127 6 (.inl (Int32.ofNat 0))) 127 1 (.inl (Int32.ofNat 0))) (by with_unfolding_all rfl) ?_
  rw [kr_beg a5 a6 a7 a8]
  refine kr_rdl0 (d := d) hg rfl (by decide) (by decide) hn hb 61 0 h 0 k0 s0 rfl (by omega) (by omega) ht hrw (fun l hl p2 k2 s2 b1 b2 b3 => ?_) (fun hl h2 it2 p2 k2 s2 b1 b2 b3 => ?_)
  · unfold kr_Qr
    rw [hl]
    rw [Nat.zero_add]
    exact ⟨p2, k2, s2, rfl, ⟨b1, b2, b3⟩, rfl⟩
  · unfold kr_Qr
    rw [hl]
    exact ⟨h2, it2, p2, k2, s2, rfl, ⟨b1, b2, b3⟩, rfl⟩
set_option maxRecDepth 20000 in
theorem kr_read1 {g : kc_G} {d : Nat} {n k0 s0 : Nat} {t : Nat → Nat} {h : kc_H} (hg : kc_ok g) (hn : n ≤ 240) (hb : ∀ j, j < 240 → t j < 256) (ht : ∀ j, j < 240 → h 30 j = .inl (Int32.ofNat (t j))) (hrw : ∀ i, i < 60 → h 129 i = .inr (.inr (.inl (some (130 + i))))) (a0 : h 127 0 = .inr (.inr (.inl (some 1)))) (a1 : h 1 11 = .inr (.inr (.inl (some 28)))) (a2 : h 28 1 = .inr (.inr (.inl (some 30)))) (a3 : h 1 12 = .inr (.inr (.inl (some 31)))) (a4 : h 31 1 = .inl (Int32.ofNat n)) (a5 : h 127 2 = .inr (.inr (.inl (some 128)))) (a6 : h 127 3 = .inr (.inr (.inl (some 129)))) (a7 : h 127 7 = .inl (Int32.ofNat k0)) (a8 : h 127 8 = .inl (Int32.ofNat s0)) : kc_Con g (d + 8) 61 [.inr (.inr (.inl (some 127))), .inl (Int32.ofNat 1)] h (kr_Qr t 30 n 7 9 h) := by
  refine kc_Con_new hg (M := wk_m61) rfl rfl rfl (show 2 ≤ 4 by decide) ?_
  refine kx_go 2 (pc' := 2) (L' := [(0, .inr (.inr (.inl (some 127)))), (1, .inl (Int32.ofNat 1))]) (S' := [.inr (.inr (.inl (some 127))), .inr (.inr (.inl (some 127)))]) (h' := h) (by with_unfolding_all rfl) ?_
  refine kx_getf (c := 127) rfl (by decide) a0 ?_
  refine kx_getf (c := 1) rfl (by decide) a1 ?_
  refine kx_go 1 (pc' := 9) (L' := [(0, .inr (.inr (.inl (some 127)))), (1, .inl (Int32.ofNat 1))]) (S' := [.inl (Int32.ofNat 1), .inr (.inr (.inl (some 28))), .inr (.inr (.inl (some 127)))]) (h' := h) (by with_unfolding_all rfl) ?_
  refine kx_aald rfl (c := 28) (j := 1) (m := 2) (t0 := 2) rfl (by decide) (by decide) (by decide) (by decide) a2 ?_
  refine kx_go 3 (pc' := 15) (L' := [(0, .inr (.inr (.inl (some 127)))), (1, .inl (Int32.ofNat 1))]) (S' := [.inr (.inr (.inl (some 127))), .inr (.inr (.inl (some 127)))]) (h' := kc_upd h 127 4 (.inr (.inr (.inl (some 30))))) (by with_unfolding_all rfl) ?_
  refine kx_getf (c := 127) (v := .inr (.inr (.inl (some 1)))) rfl (by decide) ((if_neg (by decide)).trans a0) ?_
  refine kx_getf (c := 1) (v := .inr (.inr (.inl (some 31)))) rfl (by decide) ((if_neg (by decide)).trans a3) ?_
  refine kx_go 1 (pc' := 22) (L' := [(0, .inr (.inr (.inl (some 127)))), (1, .inl (Int32.ofNat 1))]) (S' := [.inl (Int32.ofNat 1), .inr (.inr (.inl (some 31))), .inr (.inr (.inl (some 127)))]) (h' := kc_upd h 127 4 (.inr (.inr (.inl (some 30))))) (by with_unfolding_all rfl) ?_
  refine kx_iald rfl (c := 31) (j := 1) (m := 2) (v := .inl (Int32.ofNat n)) rfl (by decide) (by decide) (by decide) ((if_neg (by decide)).trans a4) ?_
  refine kx_go 1 (pc' := 26) (L' := [(0, .inr (.inr (.inl (some 127)))), (1, .inl (Int32.ofNat 1))]) (S' := []) (h' := kc_upd (kc_upd h 127 4 (.inr (.inr (.inl (some 30))))) 127 5 (.inl (Int32.ofNat n))) (by with_unfolding_all rfl) ?_
  refine kx_go 8 (pc' := 38) (L' := [(2, .inl (Int32.ofNat 0)), (0, .inr (.inr (.inl (some 127)))), (1, .inl (Int32.ofNat 1))]) (S' := []) (h' := kc_upd (kc_upd (kc_upd (kc_upd h 127 4 (.inr (.inr (.inl (some 30))))) 127 5 (.inl (Int32.ofNat n))) 127 6 (.inl (Int32.ofNat 0))) 127 1 (.inl (Int32.ofNat 0))) (by with_unfolding_all rfl) ?_
  rw [kr_beg a5 a6 a7 a8]
  refine kr_rdl1 (d := d) hg rfl (by decide) (by decide) hn hb 61 0 h 0 k0 s0 rfl (by omega) (by omega) ht hrw (fun l hl p2 k2 s2 b1 b2 b3 => ?_) (fun hl h2 it2 p2 k2 s2 b1 b2 b3 => ?_)
  · unfold kr_Qr
    rw [hl]
    rw [Nat.zero_add]
    exact ⟨p2, k2, s2, rfl, ⟨b1, b2, b3⟩, rfl⟩
  · unfold kr_Qr
    rw [hl]
    exact ⟨h2, it2, p2, k2, s2, rfl, ⟨b1, b2, b3⟩, rfl⟩
