/-! ===== tokens alike: the class's and the reference's ===== -/
def kp_c2 (f : Nat → Nat) : Nat → Nat
  | 0 => 0
  | m + 1 => 32 * kp_c2 f m + (f m - 96)
def kp_K (i : Nat) : Nat := kp_c2 (kp_ch i) (ks_L i)
theorem kq_con {f g : Nat → Nat} : ∀ m, (∀ j, j < m → f j = g j) → kp_c2 f m = kp_c2 g m
  | 0, _ => rfl
  | m + 1, h => by
    show 32 * kp_c2 f m + (f m - 96) = 32 * kp_c2 g m + (g m - 96)
    rw [kq_con m (fun j hj => h j (by omega)), h m (by omega)]
theorem kq_inj {f g : Nat → Nat} : ∀ m m', (∀ j, j < m → 97 ≤ f j ∧ f j ≤ 122) → (∀ j, j < m' → 97 ≤ g j ∧ g j ≤ 122) → kp_c2 f m = kp_c2 g m' → m = m' ∧ ∀ j, j < m → f j = g j
  | 0, 0, _, _, _ => ⟨rfl, fun j hj => by omega⟩
  | 0, m' + 1, _, hg, h => by
    have h : 0 = 32 * kp_c2 g m' + (g m' - 96) := h
    have := hg m' (by omega)
    omega
  | m + 1, 0, hf, _, h => by
    have h : 32 * kp_c2 f m + (f m - 96) = 0 := h
    have := hf m (by omega)
    omega
  | m + 1, m' + 1, hf, hg, h => by
    have h : 32 * kp_c2 f m + (f m - 96) = 32 * kp_c2 g m' + (g m' - 96) := h
    have h1 := hf m (by omega)
    have h2 := hg m' (by omega)
    obtain ⟨e1, e2⟩ := kq_inj m m' (fun j hj => hf j (by omega)) (fun j hj => hg j (by omega)) (by omega)
    refine ⟨by omega, fun j hj => ?_⟩
    by_cases hj2 : j = m
    · subst hj2
      subst e1
      omega
    · exact e2 j (by omega)
theorem kq_cd {t : Nat → Nat} {s : Nat} : ∀ m a, s ≤ a → kp_skip kp_let t m a - s ≤ 6 → kp_cd t s m a (kp_c2 (fun j => t (s + j)) (a - s)) = kp_c2 (fun j => t (s + j)) (kp_skip kp_let t m a - s)
  | 0, a, _, _ => rfl
  | m + 1, a, hs, he => by
    have he : (bif kp_let (t a) then kp_skip kp_let t m (a + 1) else a) - s ≤ 6 := he
    show (bif kp_let (t a) then kp_cd t s m (a + 1) (if a - s ≤ 6 then 32 * kp_c2 (fun j => t (s + j)) (a - s) + t a - 96 else 0) else kp_c2 (fun j => t (s + j)) (a - s)) = kp_c2 (fun j => t (s + j)) ((bif kp_let (t a) then kp_skip kp_let t m (a + 1) else a) - s)
    cases e : kp_let (t a) with
    | false => rfl
    | true =>
      rw [e] at he
      have he : kp_skip kp_let t m (a + 1) - s ≤ 6 := he
      have h1 := kp_skip_le kp_let t m (a + 1)
      have h2 : 97 ≤ t a ∧ t a ≤ 122 := of_decide_eq_true e
      have h3 := kq_cd m (a + 1) (by omega) he
      have h4 : kp_c2 (fun j => t (s + j)) (a + 1 - s) = 32 * kp_c2 (fun j => t (s + j)) (a - s) + t a - 96 := by
        rw [show a + 1 - s = (a - s) + 1 from by omega]
        show 32 * kp_c2 (fun j => t (s + j)) (a - s) + (t (s + (a - s)) - 96) = _
        rw [show s + (a - s) = a from by omega]
        omega
      rw [h4] at h3
      rw [if_pos (by omega)]
      exact h3
theorem kq_m {t : Nat → Nat} {i s : Nat} : ∀ m j, kp_m t i s m j = true ↔ ∀ x, j ≤ x → x < j + m → t (s + x) = kp_ch i x
  | 0, j => ⟨fun _ x h1 h2 => by omega, fun _ => rfl⟩
  | m + 1, j => by
    show (bif decide (t (s + j) = kp_ch i j) then kp_m t i s m (j + 1) else false) = true ↔ _
    by_cases e : t (s + j) = kp_ch i j
    · rw [decide_eq_true e]
      refine (kq_m m (j + 1)).trans ⟨fun h x h1 h2 => ?_, fun h x h1 h2 => h x (by omega) (by omega)⟩
      by_cases q : x = j
      · rw [q]; exact e
      · exact h x (by omega) (by omega)
    · rw [decide_eq_false e]
      exact ⟨fun h => (by cases h), fun h => absurd (h j (Nat.le_refl _) (by omega)) e⟩
theorem kq_ch : ∀ i, i < 18 → (ks_L i ≤ 6 ∧ ∀ j, j < ks_L i → 97 ≤ kp_ch i j ∧ kp_ch i j ≤ 122) := by decide +kernel
/-- a text stands here just if the word has its number -/
theorem kq_is {t : Nat → Nat} {n S i : Nat} (hi : i < 18) : kp_is t (kp_skip kp_let t (n - S) S) 1 S i = (bif decide (kp_skip kp_let t (n - S) S - S ≤ 6) then decide (kp_cd t S (n - S) S 0 = kp_K i) else false) := by
  obtain ⟨hL, hch⟩ := kq_ch i hi
  have hse := kp_skip_le kp_let t (n - S) S
  have hall := kp_skip_all (P := kp_let) (t := t) (n - S) S
  have hcd := kq_cd (t := t) (s := S) (n - S) S (Nat.le_refl _)
  rw [Nat.sub_self] at hcd
  have hcd : kp_skip kp_let t (n - S) S - S ≤ 6 → kp_cd t S (n - S) S 0 = kp_c2 (fun j => t (S + j)) (kp_skip kp_let t (n - S) S - S) := hcd
  generalize kp_skip kp_let t (n - S) S = e at hse hall hcd ⊢
  generalize kp_cd t S (n - S) S 0 = w at hcd ⊢
  unfold kp_is
  rw [show decide (1 = 1) = true from rfl]
  by_cases h6 : e - S ≤ 6
  · rw [decide_eq_true h6]
    have hcd := hcd h6
    show (bif decide (e - S = ks_L i) then kp_m t i S (ks_L i) 0 else false) = decide (w = kp_K i)
    by_cases hl : e - S = ks_L i
    · rw [decide_eq_true hl]
      show kp_m t i S (ks_L i) 0 = decide (w = kp_K i)
      by_cases hw : w = kp_K i
      · rw [decide_eq_true hw, kq_m]
        intro x h1 h2
        rw [hcd] at hw
        exact (kq_inj _ _ (fun j hj => of_decide_eq_true (hall (S + j) (by omega) (by omega))) hch hw).2 x (by omega)
      · rw [decide_eq_false hw]
        refine Bool.eq_false_iff.mpr (fun hm => hw ?_)
        rw [hcd, hl]
        exact kq_con _ (fun j hj => (kq_m _ _).mp hm j (Nat.zero_le _) (by omega))
    · rw [decide_eq_false hl]
      refine (decide_eq_false (fun hw => hl ?_)).symm
      rw [hcd] at hw
      exact (kq_inj _ _ (fun j hj => of_decide_eq_true (hall (S + j) (by omega) (by omega))) hch hw).1
  · rw [decide_eq_false h6]
    show (bif decide (e - S = ks_L i) then kp_m t i S (ks_L i) 0 else false) = false
    rw [decide_eq_false (by omega)]
    rfl
theorem kq_no {t : Nat → Nat} {p k s : Nat} (hk : ¬ k = 1) (i : Nat) : kp_is t p k s i = false := by
  unfold kp_is
  rw [decide_eq_false hk]
  rfl
theorem kq_nov {t : Nat → Nat} {p k s : Nat} (hk : ¬ k = 1) : ∀ m f, kp_vb t p k s m f = none
  | 0, _ => rfl
  | m + 1, f => by
    show (bif kp_is t p k s (f + 2) then some f else kp_vb t p k s m (f + 1)) = none
    rw [kq_no hk]
    exact kq_nov hk m (f + 1)
theorem kq_noh {t : Nat → Nat} {p k s : Nat} (hk : ¬ k = 1) : kp_hd t p k s = none := by
  unfold kp_hd
  rw [kq_no hk, kq_no hk]
  rfl
theorem kq_Ks : [263748, 638164, 447877, 408612, 146930, 23609, 394661, 212548, 1643, 4785454, 659011763, 263623, 656741, 514226, 646192, 20594117, 150000, 239] = (List.range 18).map kp_K := by decide +kernel
theorem kq_K0 : kp_K 0 = 263748 := by decide +kernel
theorem kq_K1 : kp_K 1 = 638164 := by decide +kernel
theorem kq_K2 : kp_K 2 = 447877 := by decide +kernel
theorem kq_K3 : kp_K 3 = 408612 := by decide +kernel
theorem kq_K4 : kp_K 4 = 146930 := by decide +kernel
theorem kq_K5 : kp_K 5 = 23609 := by decide +kernel
theorem kq_K6 : kp_K 6 = 394661 := by decide +kernel
theorem kq_K7 : kp_K 7 = 212548 := by decide +kernel
theorem kq_K8 : kp_K 8 = 1643 := by decide +kernel
theorem kq_K9 : kp_K 9 = 4785454 := by decide +kernel
theorem kq_K10 : kp_K 10 = 659011763 := by decide +kernel
theorem kq_K11 : kp_K 11 = 263623 := by decide +kernel
theorem kq_K12 : kp_K 12 = 656741 := by decide +kernel
theorem kq_K13 : kp_K 13 = 514226 := by decide +kernel
theorem kq_K14 : kp_K 14 = 646192 := by decide +kernel
theorem kq_K15 : kp_K 15 = 20594117 := by decide +kernel
theorem kq_K16 : kp_K 16 = 150000 := by decide +kernel
theorem kq_K17 : kp_K 17 = 239 := by decide +kernel
theorem kq_w0 {w : Nat} : (bif decide (w = 447877) then some 0 else (bif decide (w = 408612) then some 1 else (bif decide (w = 146930) then some 2 else (bif decide (w = 23609) then some 3 else (bif decide (w = 394661) then some 4 else (bif decide (w = 212548) then some 5 else (bif decide (w = 1643) then some 6 else (bif decide (w = 4785454) then some 7 else (bif decide (w = 659011763) then some 8 else none))))))))) = (if 10 ≤ kp_wo w ∧ kp_wo w ≤ 18 then some (kp_wo w - 10) else none) := by
  by_cases e0 : w = 447877
  · subst e0; decide
  · skip
    by_cases e1 : w = 408612
    · subst e1; decide
    · skip
      by_cases e2 : w = 146930
      · subst e2; decide
      · skip
        by_cases e3 : w = 23609
        · subst e3; decide
        · skip
          by_cases e4 : w = 394661
          · subst e4; decide
          · skip
            by_cases e5 : w = 212548
            · subst e5; decide
            · skip
              by_cases e6 : w = 1643
              · subst e6; decide
              · skip
                by_cases e7 : w = 4785454
                · subst e7; decide
                · skip
                  by_cases e8 : w = 659011763
                  · subst e8; decide
                  · skip
                    by_cases e9 : w = 263623
                    · subst e9; decide
                    · skip
                      by_cases e10 : w = 656741
                      · subst e10; decide
                      · skip
                        by_cases e11 : w = 514226
                        · subst e11; decide
                        · skip
                          by_cases e12 : w = 646192
                          · subst e12; decide
                          · skip
                            by_cases e13 : w = 20594117
                            · subst e13; decide
                            · skip
                              by_cases e14 : w = 150000
                              · subst e14; decide
                              · skip
                                by_cases e15 : w = 239
                                · subst e15; decide
                                · skip
                                  by_cases e16 : w = 263748
                                  · subst e16; decide
                                  · skip
                                    by_cases e17 : w = 638164
                                    · subst e17; decide
                                    · skip
                                      simp [kp_wo, kp_wd, kp_wa, kp_wf, e0, e1, e2, e3, e4, e5, e6, e7, e8, e9, e10, e11, e12, e13, e14, e15, e16, e17]
theorem kq_w1 {w : Nat} : (bif decide (w = 263623) then some 9 else (bif decide (w = 656741) then some 10 else (bif decide (w = 514226) then some 11 else (bif decide (w = 646192) then some 12 else (bif decide (w = 20594117) then some 13 else (bif decide (w = 150000) then some 14 else (bif decide (w = 239) then some 15 else none))))))) = (if 20 ≤ kp_wo w ∧ kp_wo w ≤ 26 then some (kp_wo w - 11) else none) := by
  by_cases e0 : w = 447877
  · subst e0; decide
  · skip
    by_cases e1 : w = 408612
    · subst e1; decide
    · skip
      by_cases e2 : w = 146930
      · subst e2; decide
      · skip
        by_cases e3 : w = 23609
        · subst e3; decide
        · skip
          by_cases e4 : w = 394661
          · subst e4; decide
          · skip
            by_cases e5 : w = 212548
            · subst e5; decide
            · skip
              by_cases e6 : w = 1643
              · subst e6; decide
              · skip
                by_cases e7 : w = 4785454
                · subst e7; decide
                · skip
                  by_cases e8 : w = 659011763
                  · subst e8; decide
                  · skip
                    by_cases e9 : w = 263623
                    · subst e9; decide
                    · skip
                      by_cases e10 : w = 656741
                      · subst e10; decide
                      · skip
                        by_cases e11 : w = 514226
                        · subst e11; decide
                        · skip
                          by_cases e12 : w = 646192
                          · subst e12; decide
                          · skip
                            by_cases e13 : w = 20594117
                            · subst e13; decide
                            · skip
                              by_cases e14 : w = 150000
                              · subst e14; decide
                              · skip
                                by_cases e15 : w = 239
                                · subst e15; decide
                                · skip
                                  by_cases e16 : w = 263748
                                  · subst e16; decide
                                  · skip
                                    by_cases e17 : w = 638164
                                    · subst e17; decide
                                    · skip
                                      simp [kp_wo, kp_wd, kp_wa, kp_wf, e0, e1, e2, e3, e4, e5, e6, e7, e8, e9, e10, e11, e12, e13, e14, e15, e16, e17]
theorem kq_w2 {w : Nat} : (bif decide (w = 263748) then some 1 else bif decide (w = 638164) then some 0 else none) = (if kp_wo w = 5 then some 1 else if kp_wo w = 4 then some 0 else none) := by
  by_cases e0 : w = 447877
  · subst e0; decide
  · skip
    by_cases e1 : w = 408612
    · subst e1; decide
    · skip
      by_cases e2 : w = 146930
      · subst e2; decide
      · skip
        by_cases e3 : w = 23609
        · subst e3; decide
        · skip
          by_cases e4 : w = 394661
          · subst e4; decide
          · skip
            by_cases e5 : w = 212548
            · subst e5; decide
            · skip
              by_cases e6 : w = 1643
              · subst e6; decide
              · skip
                by_cases e7 : w = 4785454
                · subst e7; decide
                · skip
                  by_cases e8 : w = 659011763
                  · subst e8; decide
                  · skip
                    by_cases e9 : w = 263623
                    · subst e9; decide
                    · skip
                      by_cases e10 : w = 656741
                      · subst e10; decide
                      · skip
                        by_cases e11 : w = 514226
                        · subst e11; decide
                        · skip
                          by_cases e12 : w = 646192
                          · subst e12; decide
                          · skip
                            by_cases e13 : w = 20594117
                            · subst e13; decide
                            · skip
                              by_cases e14 : w = 150000
                              · subst e14; decide
                              · skip
                                by_cases e15 : w = 239
                                · subst e15; decide
                                · skip
                                  by_cases e16 : w = 263748
                                  · subst e16; decide
                                  · skip
                                    by_cases e17 : w = 638164
                                    · subst e17; decide
                                    · skip
                                      simp [kp_wo, kp_wd, kp_wa, kp_wf, e0, e1, e2, e3, e4, e5, e6, e7, e8, e9, e10, e11, e12, e13, e14, e15, e16, e17]
theorem kq_w3 {w : Nat} : kp_wo w < 27 ∧ ¬ kp_wo w = 0 ∧ ¬ kp_wo w = 2 ∧ ¬ kp_wo w = 3 := by
  by_cases e0 : w = 447877
  · subst e0; decide
  · skip
    by_cases e1 : w = 408612
    · subst e1; decide
    · skip
      by_cases e2 : w = 146930
      · subst e2; decide
      · skip
        by_cases e3 : w = 23609
        · subst e3; decide
        · skip
          by_cases e4 : w = 394661
          · subst e4; decide
          · skip
            by_cases e5 : w = 212548
            · subst e5; decide
            · skip
              by_cases e6 : w = 1643
              · subst e6; decide
              · skip
                by_cases e7 : w = 4785454
                · subst e7; decide
                · skip
                  by_cases e8 : w = 659011763
                  · subst e8; decide
                  · skip
                    by_cases e9 : w = 263623
                    · subst e9; decide
                    · skip
                      by_cases e10 : w = 656741
                      · subst e10; decide
                      · skip
                        by_cases e11 : w = 514226
                        · subst e11; decide
                        · skip
                          by_cases e12 : w = 646192
                          · subst e12; decide
                          · skip
                            by_cases e13 : w = 20594117
                            · subst e13; decide
                            · skip
                              by_cases e14 : w = 150000
                              · subst e14; decide
                              · skip
                                by_cases e15 : w = 239
                                · subst e15; decide
                                · skip
                                  by_cases e16 : w = 263748
                                  · subst e16; decide
                                  · skip
                                    by_cases e17 : w = 638164
                                    · subst e17; decide
                                    · skip
                                      simp [kp_wo, kp_wd, kp_wa, kp_wf, e0, e1, e2, e3, e4, e5, e6, e7, e8, e9, e10, e11, e12, e13, e14, e15, e16, e17]
theorem kq_u0 {t : Nat → Nat} {n S : Nat} : kp_vb t (kp_skip kp_let t (n - S) S) 1 S 9 0 = (bif decide (kp_skip kp_let t (n - S) S - S ≤ 6) then (match kp_cd t S (n - S) S 0 with
  | w => (bif decide (w = 447877) then some 0 else (bif decide (w = 408612) then some 1 else (bif decide (w = 146930) then some 2 else (bif decide (w = 23609) then some 3 else (bif decide (w = 394661) then some 4 else (bif decide (w = 212548) then some 5 else (bif decide (w = 1643) then some 6 else (bif decide (w = 4785454) then some 7 else (bif decide (w = 659011763) then some 8 else none)))))))))) else none) := by
  show (bif kp_is t _ 1 S 2 then some 0 else bif kp_is t _ 1 S 3 then some 1 else bif kp_is t _ 1 S 4 then some 2 else bif kp_is t _ 1 S 5 then some 3 else bif kp_is t _ 1 S 6 then some 4 else bif kp_is t _ 1 S 7 then some 5 else bif kp_is t _ 1 S 8 then some 6 else bif kp_is t _ 1 S 9 then some 7 else bif kp_is t _ 1 S 10 then some 8 else none) = _
  rw [kq_is (i := 2) (by decide), kq_is (i := 3) (by decide), kq_is (i := 4) (by decide), kq_is (i := 5) (by decide), kq_is (i := 6) (by decide), kq_is (i := 7) (by decide), kq_is (i := 8) (by decide), kq_is (i := 9) (by decide), kq_is (i := 10) (by decide)]
  cases decide (kp_skip kp_let t (n - S) S - S ≤ 6) with
  | false => rfl
  | true => rw [kq_K2, kq_K3, kq_K4, kq_K5, kq_K6, kq_K7, kq_K8, kq_K9, kq_K10]; rfl
theorem kq_u1 {t : Nat → Nat} {n S : Nat} : kp_vb t (kp_skip kp_let t (n - S) S) 1 S 7 9 = (bif decide (kp_skip kp_let t (n - S) S - S ≤ 6) then (match kp_cd t S (n - S) S 0 with
  | w => (bif decide (w = 263623) then some 9 else (bif decide (w = 656741) then some 10 else (bif decide (w = 514226) then some 11 else (bif decide (w = 646192) then some 12 else (bif decide (w = 20594117) then some 13 else (bif decide (w = 150000) then some 14 else (bif decide (w = 239) then some 15 else none)))))))) else none) := by
  show (bif kp_is t _ 1 S 11 then some 9 else bif kp_is t _ 1 S 12 then some 10 else bif kp_is t _ 1 S 13 then some 11 else bif kp_is t _ 1 S 14 then some 12 else bif kp_is t _ 1 S 15 then some 13 else bif kp_is t _ 1 S 16 then some 14 else bif kp_is t _ 1 S 17 then some 15 else none) = _
  rw [kq_is (i := 11) (by decide), kq_is (i := 12) (by decide), kq_is (i := 13) (by decide), kq_is (i := 14) (by decide), kq_is (i := 15) (by decide), kq_is (i := 16) (by decide), kq_is (i := 17) (by decide)]
  cases decide (kp_skip kp_let t (n - S) S - S ≤ 6) with
  | false => rfl
  | true => rw [kq_K11, kq_K12, kq_K13, kq_K14, kq_K15, kq_K16, kq_K17]; rfl
theorem kq_u2 {t : Nat → Nat} {n S : Nat} : kp_hd t (kp_skip kp_let t (n - S) S) 1 S = (bif decide (kp_skip kp_let t (n - S) S - S ≤ 6) then (match kp_cd t S (n - S) S 0 with
  | w => (bif decide (w = 263748) then some 1 else bif decide (w = 638164) then some 0 else none)) else none) := by
  unfold kp_hd
  rw [kq_is (i := 0) (by decide), kq_is (i := 1) (by decide)]
  cases decide (kp_skip kp_let t (n - S) S - S ≤ 6) with
  | false => rfl
  | true => rw [kq_K0, kq_K1]; rfl
theorem kq_t0 {t : Nat → Nat} {n S : Nat} : kp_vb t (kp_nx t n S) (kp_kd t n S) S 9 0 = (if 10 ≤ kp_tk t n S ∧ kp_tk t n S ≤ 18 then some (kp_tk t n S - 10) else none) := by
  unfold kp_nx kp_kd kp_tk
  by_cases h0 : n ≤ S
  · rw [if_pos h0, if_pos h0, if_pos h0, kq_nov (by decide)]
    decide
  · rw [if_neg h0, if_neg h0, if_neg h0]
    cases h1 : kp_let (t S) with
    | true =>
      simp only [↓reduceIte]
      rw [kq_u0]
      by_cases h6 : kp_skip kp_let t (n - S) S - S ≤ 6
      · rw [decide_eq_true h6, if_pos h6]
        exact kq_w0
      · rw [decide_eq_false h6, if_neg h6]
        rfl
    | false =>
      simp only [↓reduceIte, Bool.false_eq_true]
      cases h2 : kp_fig (t S) with
      | true =>
        simp only [↓reduceIte]
        by_cases h3 : kp_skip kp_fig t (n - S) S - S ≤ 3
        · rw [if_pos h3, if_pos h3, kq_nov (by decide)]
          decide
        · rw [if_neg h3, if_neg h3, kq_nov (by decide)]
          decide
      | false =>
        simp only [↓reduceIte, Bool.false_eq_true]
        by_cases h3 : t S = 59
        · rw [if_pos h3, if_pos h3, kq_nov (by decide)]
          decide
        · rw [if_neg h3, if_neg h3, kq_nov (by decide)]
          decide
theorem kq_t1 {t : Nat → Nat} {n S : Nat} : kp_vb t (kp_nx t n S) (kp_kd t n S) S 7 9 = (if 20 ≤ kp_tk t n S ∧ kp_tk t n S ≤ 26 then some (kp_tk t n S - 11) else none) := by
  unfold kp_nx kp_kd kp_tk
  by_cases h0 : n ≤ S
  · rw [if_pos h0, if_pos h0, if_pos h0, kq_nov (by decide)]
    decide
  · rw [if_neg h0, if_neg h0, if_neg h0]
    cases h1 : kp_let (t S) with
    | true =>
      simp only [↓reduceIte]
      rw [kq_u1]
      by_cases h6 : kp_skip kp_let t (n - S) S - S ≤ 6
      · rw [decide_eq_true h6, if_pos h6]
        exact kq_w1
      · rw [decide_eq_false h6, if_neg h6]
        rfl
    | false =>
      simp only [↓reduceIte, Bool.false_eq_true]
      cases h2 : kp_fig (t S) with
      | true =>
        simp only [↓reduceIte]
        by_cases h3 : kp_skip kp_fig t (n - S) S - S ≤ 3
        · rw [if_pos h3, if_pos h3, kq_nov (by decide)]
          decide
        · rw [if_neg h3, if_neg h3, kq_nov (by decide)]
          decide
      | false =>
        simp only [↓reduceIte, Bool.false_eq_true]
        by_cases h3 : t S = 59
        · rw [if_pos h3, if_pos h3, kq_nov (by decide)]
          decide
        · rw [if_neg h3, if_neg h3, kq_nov (by decide)]
          decide
theorem kq_t2 {t : Nat → Nat} {n S : Nat} : kp_hd t (kp_nx t n S) (kp_kd t n S) S = (if kp_tk t n S = 5 then some 1 else if kp_tk t n S = 4 then some 0 else none) := by
  unfold kp_nx kp_kd kp_tk
  by_cases h0 : n ≤ S
  · rw [if_pos h0, if_pos h0, if_pos h0, kq_noh (by decide)]
    decide
  · rw [if_neg h0, if_neg h0, if_neg h0]
    cases h1 : kp_let (t S) with
    | true =>
      simp only [↓reduceIte]
      rw [kq_u2]
      by_cases h6 : kp_skip kp_let t (n - S) S - S ≤ 6
      · rw [decide_eq_true h6, if_pos h6]
        exact kq_w2
      · rw [decide_eq_false h6, if_neg h6]
        rfl
    | false =>
      simp only [↓reduceIte, Bool.false_eq_true]
      cases h2 : kp_fig (t S) with
      | true =>
        simp only [↓reduceIte]
        by_cases h3 : kp_skip kp_fig t (n - S) S - S ≤ 3
        · rw [if_pos h3, if_pos h3, kq_noh (by decide)]
          decide
        · rw [if_neg h3, if_neg h3, kq_noh (by decide)]
          decide
      | false =>
        simp only [↓reduceIte, Bool.false_eq_true]
        by_cases h3 : t S = 59
        · rw [if_pos h3, if_pos h3, kq_noh (by decide)]
          decide
        · rw [if_neg h3, if_neg h3, kq_noh (by decide)]
          decide
theorem kq_vl {t : Nat → Nat} {s : Nat} : ∀ m a v, s ≤ a → kp_skip kp_fig t m a - s ≤ 3 → kp_vl t s m a v = kp_nv t (kp_skip kp_fig t m a - a) a v
  | 0, a, v, _, _ => by
    show v = kp_nv t (a - a) a v
    rw [Nat.sub_self]
    rfl
  | m + 1, a, v, hs, he => by
    have he : (bif kp_fig (t a) then kp_skip kp_fig t m (a + 1) else a) - s ≤ 3 := he
    show (bif kp_fig (t a) then kp_vl t s m (a + 1) (if 3 ≤ a - s then v else 10 * v + t a - 48) else v) = kp_nv t ((bif kp_fig (t a) then kp_skip kp_fig t m (a + 1) else a) - a) a v
    cases e : kp_fig (t a) with
    | false =>
      show v = kp_nv t (a - a) a v
      rw [Nat.sub_self]
      rfl
    | true =>
      rw [e] at he
      have he : kp_skip kp_fig t m (a + 1) - s ≤ 3 := he
      have h1 := kp_skip_le kp_fig t m (a + 1)
      show kp_vl t s m (a + 1) (if 3 ≤ a - s then v else 10 * v + t a - 48) = kp_nv t (kp_skip kp_fig t m (a + 1) - a) a v
      rw [if_neg (by omega), kq_vl m (a + 1) _ (by omega) he]
      rw [show kp_skip kp_fig t m (a + 1) - a = (kp_skip kp_fig t m (a + 1) - (a + 1)) + 1 from by omega]
      rfl
/-- kinds and tokens -/
theorem kq_k {t : Nat → Nat} {n S : Nat} : (kp_kd t n S = 0 ↔ kp_tk t n S = 0) ∧ (kp_kd t n S = 2 ↔ kp_tk t n S = 2) ∧ (kp_kd t n S = 3 ↔ kp_tk t n S = 3) ∧ kp_tk t n S < 27 := by
  unfold kp_kd kp_tk
  by_cases h0 : n ≤ S
  · rw [if_pos h0, if_pos h0]; decide
  · rw [if_neg h0, if_neg h0]
    cases h1 : kp_let (t S) with
    | true =>
      simp only [↓reduceIte]
      by_cases h6 : kp_skip kp_let t (n - S) S - S ≤ 6
      · rw [if_pos h6]
        obtain ⟨a1, a2, a3, a4⟩ := kq_w3 (w := kp_cd t S (n - S) S 0)
        exact ⟨⟨fun h => (by cases h), fun h => absurd h a2⟩, ⟨fun h => (by cases h), fun h => absurd h a3⟩, ⟨fun h => (by cases h), fun h => absurd h a4⟩, a1⟩
      · rw [if_neg h6]; decide
    | false =>
      simp only [↓reduceIte, Bool.false_eq_true]
      cases h2 : kp_fig (t S) with
      | true =>
        simp only [↓reduceIte]
        by_cases h3 : kp_skip kp_fig t (n - S) S - S ≤ 3
        · rw [if_pos h3, if_pos h3]; decide
        · rw [if_neg h3, if_neg h3]; decide
      | false =>
        simp only [↓reduceIte, Bool.false_eq_true]
        by_cases h3 : t S = 59
        · rw [if_pos h3, if_pos h3]; decide
        · rw [if_neg h3, if_neg h3]; decide
theorem kq_v {t : Nat → Nat} {n S v : Nat} (hk : kp_kd t n S = 2) : kp_nh t (kp_nx t n S) (kp_kd t n S) S = some (kp_vv t n S v) := by
  have h3 := kp_k2 hk
  unfold kp_nh
  rw [if_pos hk]
  unfold kp_kd at hk
  unfold kp_nx at h3 ⊢
  unfold kp_vv
  split at hk
  · cases hk
  · rename_i g0
    rw [if_neg g0] at h3 ⊢
    rw [if_neg g0]
    split at hk
    · cases hk
    · rename_i g1
      rw [if_neg g1] at h3 ⊢
      rw [if_neg g1]
      split at hk
      · rename_i g2
        rw [if_pos g2] at h3 ⊢
        rw [if_pos g2, kq_vl _ _ _ (Nat.le_refl _) h3]
      · split at hk <;> cases hk
theorem kq_nv {t : Nat → Nat} {n S : Nat} (hk : ¬ kp_kd t n S = 2) : kp_nh t (kp_nx t n S) (kp_kd t n S) S = none := if_neg hk
