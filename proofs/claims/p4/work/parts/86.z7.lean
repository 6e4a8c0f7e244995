/-! ===== reads as a contract ===== -/
theorem km_k264 : ∀ b, b < 60 → kd_rn (kd_ty 264) b = some (0, 2147483648, 2147483648 + 26) := by decide +kernel
theorem km_k265 : ∀ b, b < 300 → kd_rn (kd_ty 265) b = some (0, 2147483648, 2147483648 + 999) := by decide +kernel
theorem km_k259 : kd_rn (kd_ty 259) 0 = some (3, 260, 260) ∧ kd_rn (kd_ty 259) 6 = some (0, 2147483648, 2147483648 + 1) ∧ kd_rn (kd_ty 259) 7 = some (0, 2147483648, 2147483648 + 240) ∧ kd_rn (kd_ty 259) 8 = some (0, 2147483648, 2147483648 + 240) ∧ kd_rn (kd_ty 259) 9 = some (0, 2147483648, 2147483648 + 26) ∧ kd_rn (kd_ty 259) 10 = some (0, 2147483648, 2147483648 + 999) ∧ kd_rn (kd_ty 259) 11 = some (3, 264, 264) ∧ kd_rn (kd_ty 259) 12 = some (3, 265, 265) ∧ kd_rn (kd_ty 259) 13 = some (0, 2147483648, 2147483648 + 240) := by decide +kernel
theorem km_D_wt {h h2 : kc_H} (hw : kd_wt kd_ty h) (hD : km_D h h2) : kd_wt kd_ty h2 := by
  intro a b v hv
  rcases hD a b with e | ⟨e1, e3, x, e4, e5⟩ | ⟨e1, e3, x, e4, e5⟩
  · rw [e]; exact hw a b v hv
  · subst e1
    rw [km_k265 b e3] at hv
    cases hv
    rw [e5]
    exact kx_gof (by omega) (by omega)
  · subst e1
    rw [km_k264 b e3] at hv
    cases hv
    rw [e5]
    exact kx_gof (by omega) (by omega)
theorem km_H_wt {h : kc_H} {it x n a s k v : Nat} (hw : kd_wt kd_ty h) (hx : x < 2) (hit : it ≤ 60) (hn : n ≤ 240) (ha : a ≤ n) (hs : s ≤ n) (hk : k < 27) (hv1 : v < 1000) : kd_wt kd_ty (km_H (kmj h it) x a s k v) := by
  obtain ⟨t0, t6, t7, t8, t9, t10, t11, t12, t13⟩ := km_k259
  intro c b z hz
  unfold km_H
  split
  · rename_i hc
    subst hc
    split
    · rename_i e; subst e; rw [t0] at hz; cases hz; exact ⟨260, rfl, by omega, by omega⟩
    · split
      · rename_i e; subst e; rw [t6] at hz; cases hz; exact kx_gof (by omega) (by omega)
      · split
        · rename_i e; subst e; rw [t7] at hz; cases hz; exact kx_gof (by omega) (by omega)
        · split
          · rename_i e; subst e; rw [t8] at hz; cases hz; exact kx_gof (by omega) (by omega)
          · split
            · rename_i e; subst e; rw [t9] at hz; cases hz; exact kx_gof (by omega) (by omega)
            · split
              · rename_i e; subst e; rw [t10] at hz; cases hz; exact kx_gof (by omega) (by omega)
              · unfold kmj
                rw [if_pos rfl]
                split
                · rename_i e; subst e; rw [t11] at hz; cases hz; exact ⟨264, rfl, by omega, by omega⟩
                · split
                  · rename_i e; subst e; rw [t12] at hz; cases hz; exact ⟨265, rfl, by omega, by omega⟩
                  · split
                    · rename_i e; subst e; rw [t13] at hz; cases hz; exact kx_gof (by omega) (by omega)
                    · exact hw 259 b z hz
  · rename_i hc
    rw [kmj_o hc]
    exact hw c b z hz
def km_W : kd_W := [(259, 259, 6, 10), (259, 259, 13, 13), (264, 264, 0, 59), (265, 265, 0, 299)]
theorem km_H_fr {h h2 : kc_H} {it x a s k v : Nat} (hw : kd_wt kd_ty h) (hD : km_D h h2) : kd_fr km_W h (km_H (kmj h2 it) x a s k v) := by
  intro c b hq
  have q1 := kd_inr_f (hq (259, 259, 6, 10) (by decide))
  have q2 := kd_inr_f (hq (259, 259, 13, 13) (by decide))
  have q3 := kd_inr_f (hq (264, 264, 0, 59) (by decide))
  have q4 := kd_inr_f (hq (265, 265, 0, 299) (by decide))
  simp only at q1 q2 q3 q4
  obtain ⟨t0, t6, t7, t8, t9, t10, t11, t12, t13⟩ := km_k259
  have e0 : h 259 0 = .inr (.inr (.inl (some 260))) := kx_ofr (hw _ _ _ t0)
  have e11 : h 259 11 = .inr (.inr (.inl (some 264))) := kx_ofr (hw _ _ _ t11)
  have e12 : h 259 12 = .inr (.inr (.inl (some 265))) := kx_ofr (hw _ _ _ t12)
  have hh : h2 c b = h c b := by
    rcases hD c b with e | ⟨a1, a3, -⟩ | ⟨a1, a3, -⟩
    · exact e
    · exact absurd ⟨by omega, by omega, by omega, by omega⟩ q4
    · exact absurd ⟨by omega, by omega, by omega, by omega⟩ q3
  unfold km_H
  split
  · rename_i hc
    subst hc
    split
    · rename_i e; subst e; exact e0.symm
    · rw [if_neg (by omega), if_neg (by omega), if_neg (by omega), if_neg (by omega), if_neg (by omega)]
      unfold kmj
      rw [if_pos rfl]
      split
      · rename_i e; subst e; exact e11.symm
      · split
        · rename_i e; subst e; exact e12.symm
        · rw [if_neg (by omega)]
          exact hh
  · rename_i hc
    rw [kmj_o hc]
    exact hh
theorem km_k260 : (∀ x, x < 2 → kd_rn (kd_ty 260) (160 + x) = some (0, 2147483648, 2147483648 + 240)) ∧ ∀ j, j < 480 → kd_rn (kd_ty 260) (170 + j) = some (0, 2147483648, 2147483648 + 255) := by decide +kernel
/-- a text of the book -/
theorem km_tx {h : kc_H} (hw : kd_wt kd_ty h) {x : Nat} (hx : x < 2) : ∃ t : Nat → Nat, (∀ j, j < 240 → t j < 256) ∧ ∀ j, j < 240 → h 260 (170 + 240 * x + j) = .inl (Int32.ofNat (t j)) := by
  have : ∀ j, ∃ v, j < 240 → v < 256 ∧ h 260 (170 + 240 * x + j) = .inl (Int32.ofNat v) := fun j => by
    by_cases hj : j < 240
    · have hk := km_k260.2 (240 * x + j) (by omega)
      rw [← Nat.add_assoc] at hk
      obtain ⟨v, h1, h2⟩ := kx_ofg (by omega) (hw _ _ _ hk)
      exact ⟨v, fun _ => ⟨by omega, h2⟩⟩
    · exact ⟨0, fun q => absurd q hj⟩
  obtain ⟨t, ht⟩ := Classical.axiomOfChoice this
  exact ⟨t, fun j hj => (ht j hj).1, fun j hj => (ht j hj).2⟩
def kd_T64 : kd_Tc := ([(3, 259, 259), (0, 2147483648, 2147483649)], [], [(some (0, 2147483648, 2147483649), [], km_W)])
theorem km_post {h : kc_H} {t : Nat → Nat} {x n m f : Nat} (hw : kd_wt kd_ty h) (hx : x < 2) (hn : n ≤ 240) (hf : f + m ≤ 16) {rv : Option kc_V} {h' : kc_H} (hq : km_Qr t n x m f h rv h') : ∃ p ∈ kd_T64.2.2, kd_rv 0 (fun _ => 0) p.1 rv ∧ kd_gF 0 (fun _ => 0) p.2.1 h' ∧ kd_wt kd_ty h' ∧ kd_fr p.2.2 h h' := by
  unfold km_Qr at hq
  refine ⟨_, List.mem_cons_self, ?_⟩
  cases hl : kp_its t n m f 61 0 with
  | some l =>
    rw [hl] at hq
    obtain ⟨a2, s2, k2, u2, rfl, ⟨b1, b2, b3, b4⟩, rfl⟩ := hq
    obtain ⟨a1, a3⟩ := kp_its_ok hn hf 61 0 0 l (by omega) (by omega) hl
    have hD := km_D_ns l h 0 a3 (fun q hq => (a1 q hq).1)
    exact ⟨⟨_, rfl, by decide, by decide⟩, fun q hq => (by cases hq), km_H_wt (km_D_wt hw hD) hx (by omega) hn b2 b1 b3 b4, km_H_fr hw hD⟩
  | none =>
    rw [hl] at hq
    obtain ⟨h2, it2, a2, s2, k2, u2, rfl, ⟨b0, b5, b1, b2, b3, b4⟩, rfl⟩ := hq
    exact ⟨⟨_, rfl, by decide, by decide⟩, fun q hq => (by cases hq), km_H_wt (km_D_wt hw b0) hx b5 hn b2 b1 b3 b4, km_H_fr hw b0⟩
theorem kd_h64 {g : kc_G} (hg : kc_ok g) : kd_hold g 5 kd_ty 64 kd_T64 := by
  intro xs h hw hv hF
  match xs, hv with
  | [], hv => exact hv.elim
  | [_], hv => exact hv.2.elim
  | _ :: _ :: _ :: _, hv => exact hv.2.2.elim
  | [x1, x2], hv =>
    obtain ⟨h1, h2, -⟩ := hv
    have h1 := kx_ofr h1
    subst h1
    obtain ⟨w, w1, rfl⟩ := kx_ofg (u := 1) (by omega) h2
    obtain ⟨t0, t6, t7, t8, t9, t10, t11, t12, t13⟩ := km_k259
    obtain ⟨s0, -, e8⟩ := kx_ofg (by omega) (hw _ _ _ t8)
    obtain ⟨k0, -, e9⟩ := kx_ofg (by omega) (hw _ _ _ t9)
    obtain ⟨v0, hv0, e10⟩ := kx_ofg (by omega) (hw _ _ _ t10)
    obtain ⟨t, hb, ht⟩ := km_tx hw (show w < 2 by omega)
    obtain ⟨n, hn, en⟩ := kx_ofg (by omega) (hw _ _ _ (km_k260.1 w (by omega)))
    rcases (show w = 0 ∨ w = 1 by omega) with rfl | rfl
    · exact kc_Con_mono (km_reads0 (d := 0) hg hn hb en ht (by omega) (kx_ofr (hw _ _ _ t0)) e8 e9 e10 (kx_ofr (hw _ _ _ t11)) (kx_ofr (hw _ _ _ t12))) (fun rv h' hq => km_post hw (by omega) hn (by omega) hq)
    · exact kc_Con_mono (km_reads1 (d := 0) hg hn hb en ht (by omega) (kx_ofr (hw _ _ _ t0)) e8 e9 e10 (kx_ofr (hw _ _ _ t11)) (kx_ofr (hw _ _ _ t12))) (fun rv h' hq => km_post hw (by omega) hn (by omega) hq)
