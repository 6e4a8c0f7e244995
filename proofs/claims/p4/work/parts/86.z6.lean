/-! ===== read and reads as contracts ===== -/
def kp_okI (q : Nat × List Nat) : Prop := q.1 < 16 ∧ q.2.length ≤ 4 ∧ ∀ v ∈ q.2, v < 1000
theorem kp_its_ok {t : Nat → Nat} {n m f : Nat} (hn : n ≤ 240) (hf : f + m ≤ 16) : ∀ (u it p : Nat) (l : List (Nat × List Nat)), 4 * it ≤ p → p ≤ n → kp_its t n m f u p = some l → (∀ q ∈ l, kp_okI q ∧ f ≤ q.1 ∧ q.1 < f + m ∧ q.2.length = ks_L (kp_sh q.1)) ∧ it + l.length ≤ 60
  | 0, it, p, l, h4, hp, h => by
    cases h
    exact ⟨fun q hq => (by cases hq), by show it + 0 ≤ 60; omega⟩
  | u + 1, it, p, l, h4, hp, h => by
    have hst := kp_start_le (t := t) hp
    have hnx := kp_nx_le (t := t) hst.2
    unfold kp_its at h
    split at h
    · cases h
      exact ⟨fun q hq => (by cases hq), by show it + 0 ≤ 60; omega⟩
    · cases h1 : kp_item t n m f (kp_nx t n (kp_start t n p)) (kp_kd t n (kp_start t n p)) (kp_start t n p) with
      | none => rw [h1] at h; cases h
      | some q =>
        rw [h1] at h
        simp only at h
        obtain ⟨c1, c2, c3, c4, c5, c6⟩ := kp_item_le hf hnx.1 hnx.2 h1
        cases h2 : kp_its t n m f u q.2 with
        | none => rw [h2] at h; cases h
        | some l2 =>
          rw [h2] at h
          cases h
          obtain ⟨d1, d2⟩ := kp_its_ok hn hf u (it + 1) q.2 l2 (by omega) c2 h2
          refine ⟨fun r hr => ?_, by rw [List.length_cons]; omega⟩
          rcases List.mem_cons.mp hr with rfl | hr
          · exact ⟨⟨by omega, by rw [c5]; exact (kr_shl _ (by omega)).2, c6⟩, c3, c4, c5⟩
          · exact d1 r hr
theorem kr_D_rf {h : kc_H} : kr_D h h := fun _ _ => Or.inl rfl
theorem kr_D_ws : ∀ (l : List (Nat × List Nat)) (h : kc_H) (it : Nat), it + l.length ≤ 60 → (∀ q ∈ l, kp_okI q) → kr_D h (kr_ws h it l)
  | [], h, it, _, _ => kr_D_rf
  | q :: l, h, it, hl, hq => by
    rw [List.length_cons] at hl
    obtain ⟨a1, a2, a3⟩ := hq q List.mem_cons_self
    exact kr_D_tr (kr_D_w1 (by omega) a2 a1 a3) (kr_D_ws l _ (it + 1) (by omega) (fun r hr => hq r (List.mem_cons_of_mem _ hr)))
theorem km_D_ns : ∀ (l : List (Nat × List Nat)) (h : kc_H) (it : Nat), it + l.length ≤ 60 → (∀ q ∈ l, kp_okI q) → km_D h (km_ns h it l)
  | [], h, it, _, _ => km_D_rf
  | q :: l, h, it, hl, hq => by
    rw [List.length_cons] at hl
    obtain ⟨a1, a2, a3⟩ := hq q List.mem_cons_self
    exact km_D_tr (km_D_n1 (by omega) a2 a1 a3) (km_D_ns l _ (it + 1) (by omega) (fun r hr => hq r (List.mem_cons_of_mem _ hr)))
theorem kr_k128 : ∀ b, b < 60 → kd_rn (kd_ty 128) b = some (0, 2147483648, 2147483648 + 15) := by decide +kernel
theorem kr_k130 : ∀ r, r < 60 → ∀ b, b < 4 → kd_rn (kd_ty (130 + r)) b = some (0, 2147483648, 2147483648 + 999) := by decide +kernel
theorem kr_k127 : kd_rn (kd_ty 127) 1 = some (0, 2147483648, 2147483648 + 60) ∧ kd_rn (kd_ty 127) 2 = some (3, 128, 128) ∧ kd_rn (kd_ty 127) 3 = some (3, 129, 129) ∧ kd_rn (kd_ty 127) 4 = some (3, 29, 30) ∧ kd_rn (kd_ty 127) 5 = some (0, 2147483648, 2147483648 + 240) ∧ kd_rn (kd_ty 127) 6 = some (0, 2147483648, 2147483648 + 240) ∧ kd_rn (kd_ty 127) 7 = some (0, 2147483648, 2147483648 + 4) ∧ kd_rn (kd_ty 127) 8 = some (0, 2147483648, 2147483648 + 240) ∧ kd_rn (kd_ty 127) 0 = some (3, 1, 1) := by decide +kernel
theorem kr_D_wt {h h2 : kc_H} (hw : kd_wt kd_ty h) (hD : kr_D h h2) : kd_wt kd_ty h2 := by
  intro a b v hv
  rcases hD a b with e | ⟨e1, e2, e3, x, e4, e5⟩ | ⟨e1, e3, x, e4, e5⟩
  · rw [e]; exact hw a b v hv
  · obtain ⟨r, rfl⟩ : ∃ r, a = 130 + r := ⟨a - 130, by omega⟩
    rw [kr_k130 r (by omega) b e3] at hv
    cases hv
    rw [e5]
    exact kx_gof (by omega) (by omega)
  · subst e1
    rw [kr_k128 b e3] at hv
    cases hv
    rw [e5]
    exact kx_gof (by omega) (by omega)
/-- the reader's heap keeps the kinds -/
theorem kr_H_wt {h : kc_H} {it c n p k s : Nat} (hw : kd_wt kd_ty h) (hc : c = 29 ∨ c = 30) (hit : it ≤ 60) (hn : n ≤ 240) (hp : p ≤ n) (hk : k < 5) (hs : s ≤ n) : kd_wt kd_ty (kr_H (kj h it) c n p k s) := by
  obtain ⟨t1, t2, t3, t4, t5, t6, t7, t8, -⟩ := kr_k127
  intro a b v hv
  unfold kr_H
  split
  · rename_i ha
    subst ha
    split
    · rename_i e; subst e; rw [t4] at hv; cases hv; exact ⟨c, rfl, by omega, by omega⟩
    · split
      · rename_i e; subst e; rw [t5] at hv; cases hv; exact kx_gof (by omega) (by omega)
      · split
        · rename_i e; subst e; rw [t6] at hv; cases hv; exact kx_gof (by omega) (by omega)
        · split
          · rename_i e; subst e; rw [t7] at hv; cases hv; exact kx_gof (by omega) (by omega)
          · split
            · rename_i e; subst e; rw [t8] at hv; cases hv; exact kx_gof (by omega) (by omega)
            · unfold kj
              rw [if_pos rfl]
              split
              · rename_i e; subst e; rw [t1] at hv; cases hv; exact kx_gof (by omega) (by omega)
              · split
                · rename_i e; subst e; rw [t2] at hv; cases hv; exact ⟨128, rfl, by omega, by omega⟩
                · split
                  · rename_i e; subst e; rw [t3] at hv; cases hv; exact ⟨129, rfl, by omega, by omega⟩
                  · exact hw 127 b v hv
  · rename_i ha
    rw [kj_o ha]
    exact hw a b v hv
def kr_W : kd_W := [(127, 127, 1, 1), (127, 127, 4, 8), (128, 128, 0, 59), (130, 189, 0, 3)]
theorem kd_inr_f {c c1 c2 i i1 i2 : Nat} (h : kd_inr c c1 c2 i i1 i2 = false) : ¬ (c1 ≤ c ∧ c ≤ c2 ∧ i1 ≤ i ∧ i ≤ i2) := by
  intro q
  unfold kd_inr at h
  rw [Nat.ble_eq_true_of_le q.1, Nat.ble_eq_true_of_le q.2.1, Nat.ble_eq_true_of_le q.2.2.1, Nat.ble_eq_true_of_le q.2.2.2] at h
  cases h
theorem kr_H_fr {h h2 : kc_H} {it c n p k s : Nat} (hw : kd_wt kd_ty h) (hD : kr_D h h2) : kd_fr kr_W h (kr_H (kj h2 it) c n p k s) := by
  intro a b hq
  have q1 := kd_inr_f (hq (127, 127, 1, 1) (by decide))
  have q2 := kd_inr_f (hq (127, 127, 4, 8) (by decide))
  have q3 := kd_inr_f (hq (128, 128, 0, 59) (by decide))
  have q4 := kd_inr_f (hq (130, 189, 0, 3) (by decide))
  simp only at q1 q2 q3 q4
  obtain ⟨t1, t2, t3, t4, t5, t6, t7, t8, -⟩ := kr_k127
  have e2 : h 127 2 = .inr (.inr (.inl (some 128))) := kx_ofr (hw _ _ _ t2)
  have e3 : h 127 3 = .inr (.inr (.inl (some 129))) := kx_ofr (hw _ _ _ t3)
  have hh : h2 a b = h a b := by
    rcases hD a b with e | ⟨a1, a2, a3, -⟩ | ⟨a1, a3, -⟩
    · exact e
    · exact absurd ⟨a1, by omega, by omega, by omega⟩ q4
    · exact absurd ⟨by omega, by omega, by omega, by omega⟩ q3
  unfold kr_H
  split
  · rename_i ha
    subst ha
    rw [if_neg (by omega), if_neg (by omega), if_neg (by omega), if_neg (by omega), if_neg (by omega)]
    unfold kj
    rw [if_pos rfl, if_neg (by omega)]
    split
    · rename_i e; subst e; exact e2.symm
    · split
      · rename_i e; subst e; exact e3.symm
      · exact hh
  · rename_i ha
    rw [kj_o ha]
    exact hh
theorem kr_k29 : ∀ j, j < 240 → kd_rn (kd_ty 29) j = some (0, 2147483648, 2147483648 + 255) ∧ kd_rn (kd_ty 30) j = some (0, 2147483648, 2147483648 + 255) := by decide +kernel
theorem kr_k129 : ∀ j, j < 60 → kd_rn (kd_ty 129) j = some (3, 130 + j, 130 + j) := by decide +kernel
theorem kr_k1 : kd_rn (kd_ty 1) 11 = some (3, 28, 28) ∧ kd_rn (kd_ty 1) 12 = some (3, 31, 31) ∧ kd_rn (kd_ty 28) 0 = some (3, 29, 29) ∧ kd_rn (kd_ty 28) 1 = some (3, 30, 30) ∧ kd_rn (kd_ty 31) 0 = some (0, 2147483648, 2147483648 + 240) ∧ kd_rn (kd_ty 31) 1 = some (0, 2147483648, 2147483648 + 240) := by decide +kernel
/-- a text of the class -/
theorem kr_tx {h : kc_H} (hw : kd_wt kd_ty h) {c : Nat} (hc : c = 29 ∨ c = 30) : ∃ t : Nat → Nat, (∀ j, j < 240 → t j < 256) ∧ ∀ j, j < 240 → h c j = .inl (Int32.ofNat (t j)) := by
  have : ∀ j, ∃ v, j < 240 → v < 256 ∧ h c j = .inl (Int32.ofNat v) := fun j => by
    by_cases hj : j < 240
    · obtain ⟨k1, k2⟩ := kr_k29 j hj
      have hk : kd_rn (kd_ty c) j = some (0, 2147483648, 2147483648 + 255) := by rcases hc with rfl | rfl <;> assumption
      obtain ⟨v, h1, h2⟩ := kx_ofg (by omega) (hw c j _ hk)
      exact ⟨v, fun _ => ⟨by omega, h2⟩⟩
    · exact ⟨0, fun q => absurd q hj⟩
  obtain ⟨t, ht⟩ := Classical.axiomOfChoice this
  exact ⟨t, fun j hj => (ht j hj).1, fun j hj => (ht j hj).2⟩
def kd_T61 : kd_Tc := ([(3, 127, 127), (0, 2147483648, 2147483649)], [], [(some (0, 2147483647, 2147483888), [], kr_W)])
theorem kr_post {g : kc_G} {h : kc_H} {t : Nat → Nat} {c n m f : Nat} (hw : kd_wt kd_ty h) (hc : c = 29 ∨ c = 30) (hn : n ≤ 240) (hf : f + m ≤ 16) {rv : Option kc_V} {h' : kc_H} (hq : kr_Qr t c n m f h rv h') : ∃ p ∈ kd_T61.2.2, kd_rv 0 (fun _ => 0) p.1 rv ∧ kd_gF 0 (fun _ => 0) p.2.1 h' ∧ kd_wt kd_ty h' ∧ kd_fr p.2.2 h h' := by
  unfold kr_Qr at hq
  refine ⟨_, List.mem_cons_self, ?_⟩
  cases hl : kp_its t n m f 61 0 with
  | some l =>
    rw [hl] at hq
    obtain ⟨p2, k2, s2, rfl, ⟨b1, b2, b3⟩, rfl⟩ := hq
    obtain ⟨a1, a2⟩ := kp_its_ok hn hf 61 0 0 l (by omega) (by omega) hl
    have hD := kr_D_ws l h 0 a2 (fun q hq => (a1 q hq).1)
    exact ⟨⟨_, rfl, by decide, by decide⟩, fun q hq => (by cases hq), kr_H_wt (kr_D_wt hw hD) hc (by omega) hn b1 b2 b3, kr_H_fr hw hD⟩
  | none =>
    rw [hl] at hq
    obtain ⟨h2, it2, p2, k2, s2, rfl, ⟨b0, b1, b2, b3, b4⟩, rfl⟩ := hq
    exact ⟨⟨_, rfl, by rw [kx_nb (by omega)]; omega, by rw [kx_nb (by omega)]; omega⟩, fun q hq => (by cases hq), kr_H_wt (kr_D_wt hw b0) hc b1 hn b3 b4 b2, kr_H_fr hw b0⟩
theorem kd_h61 {g : kc_G} (hg : kc_ok g) : kd_hold g 8 kd_ty 61 kd_T61 := by
  intro xs h hw hv hF
  match xs, hv with
  | [], hv => exact hv.elim
  | [_], hv => exact hv.2.elim
  | _ :: _ :: _ :: _, hv => exact hv.2.2.elim
  | [x1, x2], hv =>
    obtain ⟨h1, h2, -⟩ := hv
    have h1 := kx_ofr h1
    subst h1
    obtain ⟨w, w1, rfl⟩ := kx_ofg (u := 1) (by omega) h2
    obtain ⟨t1, t2, t3, t4, t5, t6, t7, t8, t0⟩ := kr_k127
    obtain ⟨u1, u2, u3, u4, u5, u6⟩ := kr_k1
    obtain ⟨k0, -, e7⟩ := kx_ofg (by omega) (hw _ _ _ t7)
    obtain ⟨s0, -, e8⟩ := kx_ofg (by omega) (hw _ _ _ t8)
    have hrw : ∀ i, i < 60 → h 129 i = .inr (.inr (.inl (some (130 + i)))) := fun i hi => kx_ofr (hw _ _ _ (kr_k129 i hi))
    rcases (show w = 0 ∨ w = 1 by omega) with rfl | rfl
    · obtain ⟨t, hb, ht⟩ := kr_tx hw (Or.inl rfl)
      obtain ⟨n, hn, en⟩ := kx_ofg (by omega) (hw _ _ _ u5)
      exact kc_Con_mono (kr_read0 (d := 0) hg hn hb ht hrw (kx_ofr (hw _ _ _ t0)) (kx_ofr (hw _ _ _ u1)) (kx_ofr (hw _ _ _ u3)) (kx_ofr (hw _ _ _ u2)) en (kx_ofr (hw _ _ _ t2)) (kx_ofr (hw _ _ _ t3)) e7 e8) (fun rv h' hq => kr_post (g := g) hw (Or.inl rfl) hn (by omega) hq)
    · obtain ⟨t, hb, ht⟩ := kr_tx hw (Or.inr rfl)
      obtain ⟨n, hn, en⟩ := kx_ofg (by omega) (hw _ _ _ u6)
      exact kc_Con_mono (kr_read1 (d := 0) hg hn hb ht hrw (kx_ofr (hw _ _ _ t0)) (kx_ofr (hw _ _ _ u1)) (kx_ofr (hw _ _ _ u4)) (kx_ofr (hw _ _ _ u2)) en (kx_ofr (hw _ _ _ t2)) (kx_ofr (hw _ _ _ t3)) e7 e8) (fun rv h' hq => kr_post (g := g) hw (Or.inr rfl) hn (by omega) hq)
