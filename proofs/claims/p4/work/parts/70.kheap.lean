/-! ===== rows over the heap, calls, returns ===== -/
theorem kd_i46 {i : Instr} {x : Nat × Nat × Int} {a b c : Nat} (h : kd_isF 46 i x a b c = true) : (∃ idx, i = .getfield idx) ∧ x.1 = a ∧ x.2.1 = b := by
  cases i
  all_goals first | (cases h; done) | skip
  have h : (Nat.beq x.1 a && Nat.beq x.2.1 b) = true := h
  rw [Bool.and_eq_true] at h
  exact ⟨⟨_, rfl⟩, Nat.eq_of_beq_eq_true h.1, Nat.eq_of_beq_eq_true h.2⟩
theorem kd_i47 {i : Instr} {x : Nat × Nat × Int} {a b c : Nat} (h : kd_isF 47 i x a b c = true) : (∃ idx, i = .putfield idx) ∧ x.1 = a ∧ x.2.1 = b ∧ x.2.2.toNat = c := by
  cases i
  all_goals first | (cases h; done) | skip
  have h : (Nat.beq x.1 a && (Nat.beq x.2.1 b && Nat.beq x.2.2.toNat c)) = true := h
  simp only [Bool.and_eq_true] at h
  exact ⟨⟨_, rfl⟩, Nat.eq_of_beq_eq_true h.1, Nat.eq_of_beq_eq_true h.2.1, Nat.eq_of_beq_eq_true h.2.2⟩
theorem kd_i48 {i : Instr} (h : kd_isB 48 i = true) : i = .iaload := by
  cases i
  all_goals first | rfl | (cases h; done)
theorem kd_i49 {i : Instr} (h : kd_isB 49 i = true) : i = .baload := by
  cases i
  all_goals first | rfl | (cases h; done)
theorem kd_i50 {i : Instr} (h : kd_isB 50 i = true) : i = .aaload := by
  cases i
  all_goals first | rfl | (cases h; done)
theorem kd_i51 {i : Instr} (h : kd_isB 51 i = true) : i = .iastore := by
  cases i
  all_goals first | rfl | (cases h; done)
theorem kd_i52 {i : Instr} (h : kd_isB 52 i = true) : i = .bastore := by
  cases i
  all_goals first | rfl | (cases h; done)
theorem kd_i53 {i : Instr} (h : kd_isB 53 i = true) : i = .arraylength := by
  cases i
  all_goals first | rfl | (cases h; done)
section KDH
variable {g : kc_G} {d : Nat} {M : wk_M} {Q : Option kc_V → kc_H → Prop} {ty : kd_T} {h0 : kc_H} {ρ0 : Nat → Nat} {n0 : Nat} {go : kd_Go} {pc a b c len : Nat} {iv : kd_I} {n : Nat} {AL AS : List kd_V} {F : kd_F} {W : kd_W} {i : Instr} {nn : Nat} {x : Nat × Nat × Int} {wd : List Nat} {t : Nat} {q : Int}
theorem kd_fk_r {ρ : Nat → Nat} {w : kd_V} {y : kc_V} (h : kd_fk c iv n w = true) (hb : kd_bx ρ iv n) (hw : kd_g n ρ w y) : wk_fit [] c (kc_e y) = true ∧ (c = 0 → ∃ z : Int32, y = .inl z) ∧ (c = 1 → ∃ z : Int32, y = .inl z) ∧ (c = 2 → ∃ z : Int64, y = .inr (.inl z)) := by
  unfold kd_fk at h
  rcases kd_bif h with ⟨e0, h1⟩ | ⟨e0, h1⟩
  · obtain rfl := Nat.eq_of_beq_eq_true e0
    obtain ⟨z, rfl, z1, z2⟩ : kd_g 0 (fun _ => 0) (0, 2147483648, 2147483649) y := kd_le_r h1 hb hw
    have e := kd_nb_i z
    refine ⟨?_, fun q => (by cases q), fun _ => ⟨z, rfl⟩, fun q => (by cases q)⟩
    show (decide (0 ≤ z.toInt) && decide (z.toInt ≤ 1)) = true
    rw [Bool.and_eq_true, decide_eq_true_eq, decide_eq_true_eq]
    omega
  · rcases kd_bif h1 with ⟨e1, h2⟩ | ⟨e1, h2⟩
    · obtain rfl := Nat.eq_of_beq_eq_true e1
      obtain ⟨z, _, _, rfl, -⟩ := kd_bd_r h2 hb hw
      exact ⟨rfl, fun _ => ⟨z, rfl⟩, fun q => (by cases q), fun q => (by cases q)⟩
    · rcases kd_bif h2 with ⟨e2, h3⟩ | ⟨e2, h3⟩
      · obtain rfl := Nat.eq_of_beq_eq_true e2
        obtain ⟨z, _, _, rfl, -⟩ := kd_bj_r h3 hb hw
        exact ⟨rfl, fun q => (by cases q), fun q => (by cases q), fun _ => ⟨z, rfl⟩⟩
      · obtain ⟨e3, h4⟩ := kd_bt h3
        obtain rfl := Nat.eq_of_beq_eq_true e3
        obtain ⟨s, w1, w2⟩ := w
        obtain rfl : s = 3 := Nat.eq_of_beq_eq_true h4
        obtain ⟨k, rfl, -⟩ := hw
        exact ⟨rfl, fun q => (by cases q), fun q => (by cases q), fun q => (by cases q)⟩
theorem kd_q46 (IH : kd_ih g d M Q ty h0 ρ0 n0 go) (hf : wk_fetch M pc = some (pc, i, nn, x, wd, t, q)) {w : kd_V} (his : kd_isF 46 i x a b c = true) (h : kd_rf3 w (fun c1 c2 => bif kd_each (kd_shO a b) (c2 - c1 + 1) c1 then kd_ld ty iv n F c1 c2 b b (fun iv n F v => wk_fN (pc + 3) (fun pc => go pc iv n AL (v :: AS) F W)) else false) = true) : kd_says g d M Q ty h0 ρ0 n0 pc iv n AL (w :: AS) F W := by
  intro hn ρ L S hh ha hb hL hS hF hw hfr
  obtain ⟨⟨idx, rfl⟩, i1, i2⟩ := kd_i46 his
  obtain ⟨z, S', rfl, hv, hS1⟩ := wk_f2_cons hS
  obtain ⟨c0, c1, c2, rfl, q1, q2, h⟩ := kd_rf3_r h hv
  obtain ⟨g1, h⟩ := kd_bt h
  have ho := kd_shO_r (kd_each_r _ _ g1 c0 q1 (by omega))
  obtain ⟨ρ', iv', n', F', v', a1, a2, a3, a4, a5, h⟩ := kd_ld_r h hb hF hw q1 q2 (Nat.le_refl b) (Nat.le_refl b)
  simp only [wk_fN_eq] at h
  refine kc_heap_ok hf (dd := 3) (AS' := hh c0 b :: S') (h' := hh) ?_ (IH _ _ _ _ _ _ _ h (Nat.le_trans hn a2) ρ' L _ hh (kd_ag_tr ha a1 hn) a3 (kd_gL_ag hL a1 a2) ⟨a5, kd_gS_ag hS1 a1 a2⟩ a4 hw hfr)
  simp only [kc_heap, i1, i2, ho, Option.map_some]
theorem kd_q47 (IH : kd_ih g d M Q ty h0 ρ0 n0 go) (hf : wk_fetch M pc = some (pc, i, nn, x, wd, t, q)) {v w : kd_V} (his : kd_isF 47 i x a b c = true) (h : (bif kd_fk c iv n w then kd_rf3 v (fun c1 c2 => bif kd_each (kd_shO a b) (c2 - c1 + 1) c1 then kd_sto ty iv n F W c1 c2 b b w (fun iv n F W => wk_fN (pc + 3) (fun pc => go pc iv n AL AS F W)) else false) else false) = true) : kd_says g d M Q ty h0 ρ0 n0 pc iv n AL (w :: v :: AS) F W := by
  intro hn ρ L S hh ha hb hL hS hF hw hfr
  obtain ⟨⟨idx, rfl⟩, i1, i2, i3⟩ := kd_i47 his
  obtain ⟨y, S1, rfl, hwv, hS1⟩ := wk_f2_cons hS
  obtain ⟨z, S', rfl, hv, hS2⟩ := wk_f2_cons hS1
  obtain ⟨k0, h⟩ := kd_bt h
  obtain ⟨c0, c1, c2, rfl, q1, q2, h⟩ := kd_rf3_r h hv
  obtain ⟨g1, h⟩ := kd_bt h
  have ho := kd_shO_r (kd_each_r _ _ g1 c0 q1 (by omega))
  have hfit := (kd_fk_r k0 hb hwv).1
  obtain ⟨ρ', iv', n', F', W', a1, a2, a3, a4, a5, a6, h⟩ := kd_sto_r h hb hwv hF hw hfr q1 q2 (Nat.le_refl b) (Nat.le_refl b)
  simp only [wk_fN_eq] at h
  refine kc_heap_ok hf (dd := 3) (AS' := S') (h' := kc_upd hh c0 b y) ?_ (IH _ _ _ _ _ _ _ h (Nat.le_trans hn a2) ρ' L _ _ (kd_ag_tr ha a1 hn) a3 (kd_gL_ag hL a1 a2) (kd_gS_ag hS2 a1 a2) a4 a5 a6)
  simp only [kc_heap, i1, i2, i3, ho, Option.bind_some, hfit, if_true]
/-- loads -/
theorem kd_q48 (IH : kd_ih g d M Q ty h0 ρ0 n0 go) (hf : wk_fetch M pc = some (pc, i, nn, x, wd, t, q)) {v w : kd_V} {p : Nat → Bool} (hi : ∀ (S : List kc_V) (hh : kc_H) (z : Int32) (c0 t m : Nat), p t = true → kc_ary (.inr (.inr (.inl (some c0)))) = some (c0, t, m) → kc_ix (.inl z) m = some z.toInt.toNat → kc_heap (kc_gL g) (kc_gs g) i x (.inl z :: .inr (.inr (.inl (some c0))) :: S) hh = some (1, hh c0 z.toInt.toNat :: S, hh))
    (h : kd_rf3 v (fun c1 c2 => kd_ix iv n w (fun i1 i2 => bif kd_each (kd_shA p i2) (c2 - c1 + 1) c1 then kd_ld ty iv n F c1 c2 i1 i2 (fun iv n F v => wk_fN (pc + 1) (fun pc => go pc iv n AL (v :: AS) F W)) else false)) = true) : kd_says g d M Q ty h0 ρ0 n0 pc iv n AL (w :: v :: AS) F W := by
  intro hn ρ L S hh ha hb hL hS hF hw hfr
  obtain ⟨y, S1, rfl, hwv, hS1⟩ := wk_f2_cons hS
  obtain ⟨z, S', rfl, hv, hS2⟩ := wk_f2_cons hS1
  obtain ⟨c0, c1, c2, rfl, q1, q2, h⟩ := kd_rf3_r h hv
  obtain ⟨z, i1, i2, rfl, z0, z1, z2, h⟩ := kd_ix_r h hb hwv
  obtain ⟨g1, h⟩ := kd_bt h
  obtain ⟨tt, m, s1, s2, s3, s4⟩ := kd_shA_r (kd_each_r _ _ g1 c0 q1 (by omega))
  obtain ⟨ρ', iv', n', F', v', a1, a2, a3, a4, a5, h⟩ := kd_ld_r h hb hF hw q1 q2 z1 z2
  simp only [wk_fN_eq] at h
  exact kc_heap_ok hf (hi S' hh z c0 tt m s2 (kd_ary_r s1 s4) (kd_ixc z0 z2 s3)) (IH _ _ _ _ _ _ _ h (Nat.le_trans hn a2) ρ' L _ hh (kd_ag_tr ha a1 hn) a3 (kd_gL_ag hL a1 a2) ⟨a5, kd_gS_ag hS2 a1 a2⟩ a4 hw hfr)
/-- stores -/
theorem kd_q51 (IH : kd_ih g d M Q ty h0 ρ0 n0 go) (hf : wk_fetch M pc = some (pc, i, nn, x, wd, t, q)) {u v w : kd_V} {o : Nat} (ho1 : o ≤ 1) (hi : ∀ (S : List kc_V) (hh : kc_H) (y z : Int32) (c0 m : Nat), wk_fit [] o (kc_e (.inl y)) = true → kc_ary (.inr (.inr (.inl (some c0)))) = some (c0, o, m) → kc_ix (.inl z) m = some z.toInt.toNat → kc_heap (kc_gL g) (kc_gs g) i x (.inl y :: .inl z :: .inr (.inr (.inl (some c0))) :: S) hh = some (1, S, kc_upd hh c0 z.toInt.toNat (.inl y)))
    (h : kd_rf3 u (fun c1 c2 => kd_ix iv n v (fun i1 i2 => bif kd_fk o iv n w && kd_each (kd_shA (fun t => Nat.beq t o) i2) (c2 - c1 + 1) c1 then kd_sto ty iv n F W c1 c2 i1 i2 w (fun iv n F W => wk_fN (pc + 1) (fun pc => go pc iv n AL AS F W)) else false)) = true) : kd_says g d M Q ty h0 ρ0 n0 pc iv n AL (w :: v :: u :: AS) F W := by
  intro hn ρ L S hh ha hb hL hS hF hw hfr
  obtain ⟨y, S1, rfl, hwv, hS1⟩ := wk_f2_cons hS
  obtain ⟨z, S2, rfl, hv, hS2⟩ := wk_f2_cons hS1
  obtain ⟨r, S', rfl, hu, hS3⟩ := wk_f2_cons hS2
  obtain ⟨c0, c1, c2, rfl, q1, q2, h⟩ := kd_rf3_r h hu
  obtain ⟨z, i1, i2, rfl, z0, z1, z2, h⟩ := kd_ix_r h hb hv
  obtain ⟨g1, hx⟩ := kd_bt h
  rw [Bool.and_eq_true] at g1
  obtain ⟨f1, f2, f3, -⟩ := kd_fk_r g1.1 hb hwv
  obtain ⟨y, rfl⟩ : ∃ z : Int32, y = .inl z := by
    rcases Nat.lt_or_ge o 1 with e | e
    · exact f2 (by omega)
    · exact f3 (by omega)
  obtain ⟨tt, m, s1, s2, s3, s4⟩ := kd_shA_r (kd_each_r _ _ g1.2 c0 q1 (by omega))
  obtain rfl := Nat.eq_of_beq_eq_true s2
  obtain ⟨ρ', iv', n', F', W', a1, a2, a3, a4, a5, a6, hx⟩ := kd_sto_r hx hb hwv hF hw hfr q1 q2 z1 z2
  simp only [wk_fN_eq] at hx
  exact kc_heap_ok hf (hi S' hh y z c0 m f1 (kd_ary_r s1 s4) (kd_ixc z0 z2 s3)) (IH _ _ _ _ _ _ _ hx (Nat.le_trans hn a2) ρ' L _ _ (kd_ag_tr ha a1 hn) a3 (kd_gL_ag hL a1 a2) (kd_gS_ag hS3 a1 a2) a4 a5 a6)
/-- lengths -/
theorem kd_q53 (IH : kd_ih g d M Q ty h0 ρ0 n0 go) (hf : wk_fetch M pc = some (pc, i, nn, x, wd, t, q)) {w : kd_V} (hi : i = .arraylength) (h : kd_rf3 w (fun c1 c2 => match kc_shp c1 with
      | some (_, _, m) => bif Nat.blt m 1000000 && (Nat.beq c1 c2 && kd_shA (fun _ => true) (m - 1) c1) then wk_fN (m + kd_B) (fun m => wk_fN (pc + 1) (fun pc => go pc iv n AL ((0, m, m) :: AS) F W)) else false
      | none => false) = true) : kd_says g d M Q ty h0 ρ0 n0 pc iv n AL (w :: AS) F W := by
  intro hn ρ L S hh ha hb hL hS hF hw hfr
  subst hi
  obtain ⟨z, S', rfl, hv, hS1⟩ := wk_f2_cons hS
  obtain ⟨c0, c1, c2, rfl, q1, q2, h⟩ := kd_rf3_r h hv
  generalize hB : kd_B = B at h
  have eB : B = 2147483648 := hB.symm
  cases hs : kc_shp c1 with
  | none => rw [hs] at h; cases h
  | some r =>
    obtain ⟨s, tt, m⟩ := r
    rw [hs] at h
    obtain ⟨g1, hx⟩ := kd_bt h
    simp only [Bool.and_eq_true] at g1
    obtain ⟨g1, g2, g3⟩ := g1
    have g1 := wk_blt g1
    obtain rfl := Nat.eq_of_beq_eq_true g2
    obtain rfl : c0 = c1 := by omega
    obtain ⟨t2, m2, s1, s2, s3, s4⟩ := kd_shA_r g3
    cases hs.symm.trans s1
    simp only [wk_fN_eq] at hx
    have ez : kd_nb (Int32.ofNat m) = m + B := by
      have e1 := kd_nb_i (Int32.ofNat m)
      have e2 : (Int32.ofNat m).toInt = (m : Int) := kd_toI (r := (m : Int)) (by omega) (by omega)
      omega
    refine kc_heap_ok hf (dd := 1) (AS' := .inl (Int32.ofNat m) :: S') (h' := hh) ?_ (IH _ _ _ _ _ _ _ hx hn ρ L _ hh ha hb hL ⟨⟨_, rfl, by rw [ez]; exact Nat.le_refl _, by rw [ez]; exact Nat.le_refl _⟩, hS1⟩ hF hw hfr)
    simp only [kc_heap, kd_ary_r s1 s4, Option.map_some]
end KDH
