/-! ===== by hand: the reference's reads ===== -/
theorem km_beg {h : kc_H} {x s0 k0 v0 : Nat} (h0 : h 259 0 = .inr (.inr (.inl (some 260)))) (h8 : h 259 8 = .inl (Int32.ofNat s0)) (h9 : h 259 9 = .inl (Int32.ofNat k0)) (h10 : h 259 10 = .inl (Int32.ofNat v0)) (h11 : h 259 11 = .inr (.inr (.inl (some 264)))) (h12 : h 259 12 = .inr (.inr (.inl (some 265)))) : kc_upd (kc_upd (kc_upd h 259 6 (.inl (Int32.ofNat x))) 259 7 (.inl (Int32.ofNat 0))) 259 13 (.inl (Int32.ofNat 0)) = km_H (kmj h 0) x 0 s0 k0 v0 := by
  funext a b
  unfold kc_upd km_H kmj
  by_cases ha : a = 259
  · subst ha
    by_cases b6 : b = 6
    · subst b6; simp
    · by_cases b7 : b = 7
      · subst b7; simp
      · by_cases b13 : b = 13
        · subst b13; simp
        · by_cases c0 : b = 0
          · subst c0; simp [h0]
          · by_cases c8 : b = 8
            · subst c8; simp [h8]
            · by_cases c9 : b = 9
              · subst c9; simp [h9]
              · by_cases c10 : b = 10
                · subst c10; simp [h10]
                · by_cases c11 : b = 11
                  · subst c11; simp [h11]
                  · by_cases c12 : b = 12
                    · subst c12; simp [h12]
                    · simp [b6, b7, b13, c0, c8, c9, c10, c11, c12]
  · simp [ha]
/-- what reads leaves behind -/
def km_Qr (t : Nat → Nat) (n x m f : Nat) (h : kc_H) : Option kc_V → kc_H → Prop := fun rv h' => match kp_its t n m f 61 0 with
  | some l => ∃ a2 s2 k2 u2 : Nat, rv = some (.inl (Int32.ofNat 1)) ∧ (s2 ≤ n ∧ a2 ≤ n ∧ k2 < 27 ∧ u2 < 1000) ∧ h' = km_H (kmj (km_ns h 0 l) l.length) x a2 s2 k2 u2
  | none => ∃ (h2 : kc_H) (it2 a2 s2 k2 u2 : Nat), rv = some (.inl (Int32.ofNat 0)) ∧ (km_D h h2 ∧ it2 ≤ 60 ∧ (s2 ≤ n ∧ a2 ≤ n ∧ k2 < 27 ∧ u2 < 1000)) ∧ h' = km_H (kmj h2 it2) x a2 s2 k2 u2
set_option maxRecDepth 20000 in
theorem km_reads0 {g : kc_G} {d n s0 k0 v0 : Nat} {t : Nat → Nat} {h : kc_H} (hg : kc_ok g) (hn : n ≤ 240) (hb : ∀ j, j < 240 → t j < 256) (hnt : h 260 (160 + 0) = .inl (Int32.ofNat n)) (ht : ∀ j, j < 240 → h 260 (170 + 240 * 0 + j) = .inl (Int32.ofNat (t j))) (hv0 : v0 < 1000) (h0 : h 259 0 = .inr (.inr (.inl (some 260)))) (h8 : h 259 8 = .inl (Int32.ofNat s0)) (h9 : h 259 9 = .inl (Int32.ofNat k0)) (h10 : h 259 10 = .inl (Int32.ofNat v0)) (h11 : h 259 11 = .inr (.inr (.inl (some 264)))) (h12 : h 259 12 = .inr (.inr (.inl (some 265)))) : kc_Con g (d + 5) 64 [.inr (.inr (.inl (some 259))), .inl (Int32.ofNat 0)] h (km_Qr t n 0 9 0 h) := by
  have hx : 0 < 2 := by decide
  refine kc_Con_new hg (M := wk_m64) rfl rfl rfl (show 2 ≤ 5 by decide) ?_
  refine kx_go 10 (pc' := 16) (L' := [(0, .inr (.inr (.inl (some 259)))), (1, .inl (Int32.ofNat 0))]) (S' := [.inr (.inr (.inl (some 259)))]) (h' := kc_upd (kc_upd (kc_upd h 259 6 (.inl (Int32.ofNat 0))) 259 7 (.inl (Int32.ofNat 0))) 259 13 (.inl (Int32.ofNat 0))) (by with_unfolding_all rfl) ?_
  rw [km_beg h0 h8 h9 h10 h11 h12]
  refine kc_call_rule (M2 := wk_m65) (av := [.inr (.inr (.inl (some 259)))]) (r := []) rfl rfl (kc_Con_le (km_scan hg hx hn ((kmj_o (by decide)).trans hnt) (fun j hj => (kmj_o (by decide)).trans (ht j hj)) hb (Nat.zero_le _)) (by omega)) (fun rv h' hq => ?_)
  obtain ⟨rfl, rfl⟩ := hq
  refine km_rdl0 (d := d) hg hn hb 61 0 h 0 v0 rfl (by omega) (by omega) hv0 hnt ht (fun l hl a2 s2 k2 u2 hb2 => ?_) (fun hl h2 it2 a2 s2 k2 u2 b1 b2 b3 => ?_)
  · unfold km_Qr
    rw [hl, Nat.zero_add]
    exact ⟨a2, s2, k2, u2, rfl, hb2, rfl⟩
  · unfold km_Qr
    rw [hl]
    exact ⟨h2, it2, a2, s2, k2, u2, rfl, ⟨b1, b2, b3⟩, rfl⟩
set_option maxRecDepth 20000 in
theorem km_reads1 {g : kc_G} {d n s0 k0 v0 : Nat} {t : Nat → Nat} {h : kc_H} (hg : kc_ok g) (hn : n ≤ 240) (hb : ∀ j, j < 240 → t j < 256) (hnt : h 260 (160 + 1) = .inl (Int32.ofNat n)) (ht : ∀ j, j < 240 → h 260 (170 + 240 * 1 + j) = .inl (Int32.ofNat (t j))) (hv0 : v0 < 1000) (h0 : h 259 0 = .inr (.inr (.inl (some 260)))) (h8 : h 259 8 = .inl (Int32.ofNat s0)) (h9 : h 259 9 = .inl (Int32.ofNat k0)) (h10 : h 259 10 = .inl (Int32.ofNat v0)) (h11 : h 259 11 = .inr (.inr (.inl (some 264)))) (h12 : h 259 12 = .inr (.inr (.inl (some 265)))) : kc_Con g (d + 5) 64 [.inr (.inr (.inl (some 259))), .inl (Int32.ofNat 1)] h (km_Qr t n 1 7 9 h) := by
  have hx : 1 < 2 := by decide
  refine kc_Con_new hg (M := wk_m64) rfl rfl rfl (show 2 ≤ 5 by decide) ?_
  refine kx_go 10 (pc' := 16) (L' := [(0, .inr (.inr (.inl (some 259)))), (1, .inl (Int32.ofNat 1))]) (S' := [.inr (.inr (.inl (some 259)))]) (h' := kc_upd (kc_upd (kc_upd h 259 6 (.inl (Int32.ofNat 1))) 259 7 (.inl (Int32.ofNat 0))) 259 13 (.inl (Int32.ofNat 0))) (by with_unfolding_all rfl) ?_
  rw [km_beg h0 h8 h9 h10 h11 h12]
  refine kc_call_rule (M2 := wk_m65) (av := [.inr (.inr (.inl (some 259)))]) (r := []) rfl rfl (kc_Con_le (km_scan hg hx hn ((kmj_o (by decide)).trans hnt) (fun j hj => (kmj_o (by decide)).trans (ht j hj)) hb (Nat.zero_le _)) (by omega)) (fun rv h' hq => ?_)
  obtain ⟨rfl, rfl⟩ := hq
  refine km_rdl1 (d := d) hg hn hb 61 0 h 0 v0 rfl (by omega) (by omega) hv0 hnt ht (fun l hl a2 s2 k2 u2 hb2 => ?_) (fun hl h2 it2 a2 s2 k2 u2 b1 b2 b3 => ?_)
  · unfold km_Qr
    rw [hl, Nat.zero_add]
    exact ⟨a2, s2, k2, u2, rfl, hb2, rfl⟩
  · unfold km_Qr
    rw [hl]
    exact ⟨h2, it2, a2, s2, k2, u2, rfl, ⟨b1, b2, b3⟩, rfl⟩
/-! what the kinds say -/
theorem kx_nb {v : Nat} (hv : v < 2147483648) : kd_nb (Int32.ofNat v) = 2147483648 + v := by
  unfold kd_nb
  rw [kx_ti hv]
  omega
theorem kx_ofg {x : kc_V} {u : Nat} (hu : u < 2147483648) (hx : kd_g 0 (fun _ => 0) (0, 2147483648, 2147483648 + u) x) : ∃ v, v ≤ u ∧ x = .inl (Int32.ofNat v) := by
  obtain ⟨z, rfl, h1, h2⟩ := hx
  unfold kd_nb at h1 h2
  refine ⟨z.toInt.toNat, by omega, ?_⟩
  congr 1
  apply Int32.toInt_inj.mp
  rw [kx_ti (by omega)]
  omega
theorem kx_ofr {x : kc_V} {a : Nat} (hx : kd_g 0 (fun _ => 0) (3, a, a) x) : x = .inr (.inr (.inl (some a))) := by
  obtain ⟨c, rfl, h1, h2⟩ := hx
  obtain rfl : c = a := by omega
  rfl
theorem kx_gof {v u : Nat} (hu : u < 2147483648) (hv : v ≤ u) : kd_g 0 (fun _ => 0) (0, 2147483648, 2147483648 + u) (.inl (Int32.ofNat v)) := ⟨_, rfl, by rw [kx_nb (by omega)]; omega, by rw [kx_nb (by omega)]; omega⟩
