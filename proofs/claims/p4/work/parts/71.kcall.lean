/-! ===== calls, returns, arraycopy, Math ===== -/
theorem kd_cat_r {n : Nat} {ρ : Nat → Nat} : ∀ {AS : List kd_V} {S : List kc_V}, wk_f2 (kd_g n ρ) AS S → wk_cat (S.map kc_e) ≤ kd_cat AS
  | [], [], _ => Nat.le_refl _
  | [], _ :: _, h => h.elim
  | _ :: _, [], h => h.elim
  | (t, a, b) :: AS, x :: S, h => by
    have ih := kd_cat_r h.2
    show (if wk_c2 (kc_e x) then 2 else 1) + wk_cat (S.map kc_e) ≤ (bif kd_c1 t then 1 else 2) + kd_cat AS
    cases hc : kd_c1 t with
    | true =>
      rw [kc_c2_e, (kd_c1_r (v := (t, a, b)) hc h.1).2]
      simp only [Bool.false_eq_true, if_false, cond_true]
      omega
    | false =>
      simp only [cond_false]
      split <;> omega
theorem kd_tk_r {n : Nat} {ρ : Nat → Nat} : ∀ (m : Nat) (AS acc : List kd_V) (S xacc : List kc_V) (k : List kd_V → List kd_V → Bool), kd_tk m AS acc k = true → wk_f2 (kd_g n ρ) AS S → wk_f2 (kd_g n ρ) acc xacc → ∃ av r xs S', kc_take m S xacc = some (xs, S') ∧ wk_f2 (kd_g n ρ) av xs ∧ wk_f2 (kd_g n ρ) r S' ∧ k av r = true
  | 0, AS, acc, S, xacc, k, h, h1, h2 => ⟨acc, AS, xacc, S, rfl, h2, h1, h⟩
  | m + 1, [], acc, S, xacc, k, h, _, _ => by cases h
  | m + 1, v :: AS, acc, [], xacc, k, h, h1, _ => h1.elim
  | m + 1, v :: AS, acc, x :: S, xacc, k, h, h1, h2 => kd_tk_r m AS (v :: acc) S (x :: xacc) k h h1.2 ⟨h1.1, h2⟩
theorem kd_iR {M : wk_M} {i : Instr} {a : Nat} (h : kd_isR M i a = true) : (a = 0 ∧ i = .ireturn ∧ wk_Mr M = some .int) ∨ (a = 1 ∧ i = .ireturn ∧ wk_Mr M = some .boolean) ∨ (a = 2 ∧ i = .lreturn ∧ wk_Mr M = some .long) ∨ (a = 3 ∧ i = .return_ ∧ wk_Mr M = none) := by
  unfold kd_isR at h
  split at h
  · rw [decide_eq_true_eq] at h; exact Or.inl ⟨rfl, rfl, h⟩
  · rw [decide_eq_true_eq] at h; exact Or.inr (Or.inl ⟨rfl, rfl, h⟩)
  · rw [decide_eq_true_eq] at h; exact Or.inr (Or.inr (Or.inl ⟨rfl, rfl, h⟩))
  · rw [decide_eq_true_eq] at h; exact Or.inr (Or.inr (Or.inr ⟨rfl, rfl, h⟩))
  · cases h
section KDC
variable {g : kc_G} {d : Nat} {M : wk_M} {Q : Option kc_V → kc_H → Prop} {ty : kd_T} {h0 : kc_H} {ρ0 : Nat → Nat} {n0 : Nat} {go : kd_Go} {call : kd_Cl} {ret : kd_R} {pc a b c len : Nat} {iv : kd_I} {n : Nat} {AL AS : List kd_V} {F : kd_F} {W : kd_W} {i : Instr} {nn : Nat} {x : Nat × Nat × Int} {wd : List Nat} {t : Nat} {q : Int}
theorem kd_q59 (hret : kd_rgood Q ty h0 ρ0 n0 ret) (hf : wk_fetch M pc = some (pc, i, nn, x, wd, t, q)) (his : kd_isR M i a = true) (h : kd_rt a iv n AS F W ret = true) : kd_says g d M Q ty h0 ρ0 n0 pc iv n AL AS F W := by
  intro hn ρ L S hh ha hb hL hS hF hw hfr
  unfold kd_rt at h
  split at h
  · obtain ⟨e0, h⟩ := kd_bt h
    obtain rfl := Nat.eq_of_beq_eq_true e0
    have := wk_f2_nil hS
    subst this
    rcases kd_iR his with ⟨e, -⟩ | ⟨e, -⟩ | ⟨e, -⟩ | ⟨-, rfl, hM⟩
    · cases e
    · cases e
    · cases e
    · exact kc_ret_ok hf (rv := none) (by simp only [wk_ret, hM, List.map_nil, Option.map_none]) (hret _ _ _ _ _ h hn ρ none hh ha hb trivial hF hw hfr)
  · rename_i v
    obtain ⟨e0, h⟩ := kd_bt h
    rw [Bool.and_eq_true] at e0
    have e1 := wk_blt e0.1
    obtain ⟨y, S1, rfl, hv, hS1⟩ := wk_f2_cons hS
    have := wk_f2_nil hS1
    subst this
    obtain ⟨f1, f2, f3, f4⟩ := kd_fk_r e0.2 hb hv
    have hq := hret _ _ _ _ _ h hn ρ (some y) hh ha hb hv hF hw hfr
    rcases kd_iR his with ⟨rfl, rfl, hM⟩ | ⟨rfl, rfl, hM⟩ | ⟨rfl, rfl, hM⟩ | ⟨e, -⟩
    · obtain ⟨z, rfl⟩ := f2 rfl
      exact kc_ret_ok hf (rv := some (.inl z)) (by simp only [wk_ret, hM, List.map_cons, List.map_nil, Option.map_some]; rfl) hq
    · obtain ⟨z, rfl⟩ := f3 rfl
      exact kc_ret_ok hf (rv := some (.inl z)) (by simp only [wk_ret, hM, List.map_cons, List.map_nil, Option.map_some, f1, if_true]) hq
    · obtain ⟨z, rfl⟩ := f4 rfl
      exact kc_ret_ok hf (rv := some (.inr (.inl z))) (by simp only [wk_ret, hM, List.map_cons, List.map_nil, Option.map_some]; rfl) hq
    · omega
  · cases h
theorem kd_q54 (IH : kd_ih g d M Q ty h0 ρ0 n0 go) (hcall : kd_good g d ty h0 call) (hf : wk_fetch M pc = some (pc, i, nn, x, wd, t, q)) (his : kd_isM i x a b c = true) (h : kd_tk b AS [] (fun av AS => bif Nat.ble (kd_cat AS) 8 && (bif Nat.beq c 99 then true else match av with
      | (t, c1, c2) :: _ => Nat.beq t 3 && (Nat.ble c1 c2 && kd_each (kd_shO c 0) (c2 - c1 + 1) c1)
      | [] => false) then call a av iv n F W (fun iv n rv F W => wk_fN (pc + 3) (fun pc => go pc iv n AL (match rv with
      | some v => v :: AS
      | none => AS) F W)) else false) = true) : kd_says g d M Q ty h0 ρ0 n0 pc iv n AL AS F W := by
  intro hn ρ L S hh ha hb hL hS hF hw hfr
  obtain ⟨av, r, xs, S', k1, k2, k3, h⟩ := kd_tk_r b AS [] S [] _ h hS trivial
  obtain ⟨g1, h⟩ := kd_bt h
  rw [Bool.and_eq_true] at g1
  obtain ⟨g1, g2⟩ := g1
  have g1 := Nat.le_of_ble_eq_true g1
  unfold kd_isM at his
  simp only [Bool.and_eq_true] at his
  obtain ⟨j1, j2, j3⟩ := his
  have j2 := Nat.eq_of_beq_eq_true j2
  cases hm : wk_mt a with
  | none => rw [hm] at j3; cases j3
  | some M2 =>
    rw [hm] at j3
    simp only [Bool.and_eq_true] at j3
    obtain ⟨j3, j4⟩ := j3
    have j3 := Nat.eq_of_beq_eq_true j3
    have hcl : kc_cl i x S = some (M2, xs, S') := by
      unfold kc_cl
      rw [if_pos j1, j2, hm]
      simp only [j3, k1]
      rw [if_pos (Nat.le_trans (kd_cat_r k3) g1)]
      rcases kd_bif j4 with ⟨e0, j5⟩ | ⟨e0, j5⟩
      · have e0 := Nat.eq_of_beq_eq_true e0
        rw [Bool.and_eq_true] at j5
        obtain rfl := Nat.eq_of_beq_eq_true j5.1
        have j6 := wk_blt j5.2
        rw [e0]
        rcases kd_bif g2 with ⟨e1, -⟩ | ⟨-, g3⟩
        · have := Nat.eq_of_beq_eq_true e1
          omega
        · rcases av with _ | ⟨⟨s, c1, c2⟩, av⟩
          · cases g3
          · simp only [Bool.and_eq_true] at g3
            obtain ⟨e2, e3, e4⟩ := g3
            obtain rfl := Nat.eq_of_beq_eq_true e2
            obtain ⟨v0, xs', rfl, hv0, -⟩ := wk_f2_cons k2
            obtain ⟨c0, rfl, q1, q2⟩ := hv0
            simp only
            rw [kd_shO_r (kd_each_r _ _ e4 c0 q1 (by omega))]
            rfl
      · rw [Bool.and_eq_true, Bool.or_eq_true] at j5
        rcases j5.2 with e1 | e1
        · rw [Nat.eq_of_beq_eq_true e1]
          rfl
        · rw [Nat.eq_of_beq_eq_true e1]
          rfl
    refine kc_call_rule hf hcl (by rw [j2]; exact hcall a av iv n F W _ h ρ xs hh hb k2 hF hw hfr) (fun xr h' hq => ?_)
    obtain ⟨ρ', iv', n', rv, F', W', a1, a2, a3, a4, a5, a6, a7, a8⟩ := hq
    simp only [wk_fN_eq] at a8
    have hr := kd_gS_ag k3 a1 a2
    refine IH _ _ _ _ _ _ _ a8 (Nat.le_trans hn a2) ρ' L _ h' (kd_ag_tr ha a1 hn) a3 (kd_gL_ag hL a1 a2) ?_ a5 a6 a7
    cases rv with
    | none =>
      cases xr with
      | none => exact hr
      | some _ => exact a4.elim
    | some v =>
      cases xr with
      | none => exact a4.elim
      | some y => exact ⟨a4, hr⟩
theorem kd_tq_r : ∀ (A B : List (Nat × kd_V)), kd_tq A B = true → ∀ k t, kd_rn B k = some t → ∃ s, kd_rn A k = some s ∧ ∀ y : kc_V, kd_g 0 (fun _ => 0) s y → kd_g 0 (fun _ => 0) t y
  | [], [], _, k, t, hk => by cases hk
  | [], _ :: _, h, _, _, _ => by cases h
  | _ :: _, [], h, _, _, _ => by cases h
  | (m, v) :: A, (m2, w) :: B, h, k, t, hk => by
    have h : (Nat.beq m m2 && (kd_le [] 0 v w && kd_tq A B)) = true := h
    simp only [Bool.and_eq_true] at h
    obtain ⟨e, h1, h2⟩ := h
    obtain rfl := Nat.eq_of_beq_eq_true e
    have hk : (bif Nat.blt k m then some w else kd_rn B (k - m)) = some t := hk
    show ∃ s, (bif Nat.blt k m then some v else kd_rn A (k - m)) = some s ∧ _
    cases hc : Nat.blt k m with
    | true =>
      rw [hc] at hk
      cases hk
      exact ⟨v, rfl, fun y hy => kd_le_r h1 ⟨rfl, fun j l u hj => by unfold kd_at at hj; simp [Nat.blt, Nat.ble] at hj⟩ hy⟩
    | false =>
      rw [hc] at hk
      exact kd_tq_r A B h2 (k - m) t hk
theorem kd_q55 (IH : kd_ih g d M Q ty h0 ρ0 n0 go) (hf : wk_fetch M pc = some (pc, i, nn, x, wd, t, q)) (hi : ∃ idx, i = .invokestatic idx) (hx : x.1 = 5) (h : kd_cpy ty iv n AS F W (fun AS F W => wk_fN (pc + 3) (fun pc => go pc iv n AL AS F W)) = true) : kd_says g d M Q ty h0 ρ0 n0 pc iv n AL AS F W := by
  intro hn ρ L S hh ha hb hL hS hF hw hfr
  obtain ⟨idx, rfl⟩ := hi
  unfold kd_cpy at h
  split at h
  · rename_i m dp bb sp aa AS
    obtain ⟨ym, S1, rfl, hm, hS1⟩ := wk_f2_cons hS
    obtain ⟨yd, S2, rfl, hd, hS2⟩ := wk_f2_cons hS1
    obtain ⟨yb, S3, rfl, hbb, hS3⟩ := wk_f2_cons hS2
    obtain ⟨ys, S4, rfl, hs, hS4⟩ := wk_f2_cons hS3
    obtain ⟨ya, S', rfl, haa, hS5⟩ := wk_f2_cons hS4
    obtain ⟨ca, a1, a2, rfl, p1, p2, h⟩ := kd_rf3_r h haa
    obtain ⟨cb, b1, b2, rfl, p3, p4, h⟩ := kd_rf3_r h hbb
    rw [wk_fN_eq] at h
    obtain ⟨c1, h⟩ := kd_bt h
    obtain ⟨c2, h⟩ := kd_bt h
    obtain ⟨c3, h⟩ := kd_bt h
    obtain ⟨c4, h⟩ := kd_bt h
    obtain ⟨c5, h⟩ := kd_bt h
    rw [Bool.and_eq_true] at c1 c2 c3 c5
    simp only [Bool.and_eq_true] at c4
    have e1 := Nat.eq_of_beq_eq_true c1.1
    have e2 := Nat.eq_of_beq_eq_true c1.2
    obtain rfl : a1 = ca := by omega
    obtain rfl : b1 = cb := by omega
    obtain ⟨ta, ma, s1, s2, s3, s4⟩ := kd_shA_r c2.1
    obtain ⟨tb, mb, r1, r2, r3, r4⟩ := kd_shA_r c2.2
    obtain rfl := Nat.eq_of_beq_eq_true s2
    obtain rfl := Nat.eq_of_beq_eq_true r2
    have la : kd_len a1 = ma := by unfold kd_len; rw [s1]
    have lb : kd_len b1 = mb := by unfold kd_len; rw [r1]
    have e3 := Nat.eq_of_beq_eq_true c3.1
    have e4 := wk_blt c3.2
    rw [lb] at h c4 e3 e4
    rw [la] at e3
    subst e3
    obtain ⟨zm, rfl, zm1, zm2⟩ : kd_g 0 (fun _ => 0) (0, ma + kd_B, ma + kd_B) ym := kd_le_r c4.1 hb hm
    obtain ⟨zd, rfl, zd1, zd2⟩ : kd_g 0 (fun _ => 0) (0, 2147483648, 2147483648) yd := kd_le_r c4.2.1 hb hd
    obtain ⟨zs, rfl, zs1, zs2⟩ : kd_g 0 (fun _ => 0) (0, 2147483648, 2147483648) ys := kd_le_r c4.2.2 hb hs
    have eB : kd_B = 2147483648 := rfl
    have em := kd_nb_i zm
    have ed := kd_nb_i zd
    have es := kd_nb_i zs
    have c8 := Nat.le_of_ble_eq_true c5.1
    obtain ⟨F1, f1, h⟩ := kd_kl_r F _ h
    obtain ⟨W1, h, w1, w2⟩ := kd_aw_r (W := W) h
    simp only [wk_fN_eq] at h
    refine kc_heap_ok hf (dd := 3) (AS' := S') (h' := kc_cpy hh b1 a1 ma) ?_ (IH _ _ _ _ _ _ _ h hn ρ L S' _ ha hb hL hS5 ?_ ?_ ?_)
    · simp only [kc_heap, hx, if_true, kd_ary_r r1 r4, kd_ary_r s1 s4, Option.bind_some]
      rw [if_pos ⟨trivial, trivial, by omega, trivial, by omega, by omega, Nat.le_trans (kd_cat_r hS5) c8⟩]
    · intro q hq
      obtain ⟨q1, q2⟩ := f1 q hq
      have : kc_cpy hh b1 a1 ma q.1 q.2.1 = hh q.1 q.2.1 := if_neg (fun e => by
        rw [kd_inr_r.mpr ⟨Nat.le_of_eq e.1.symm, Nat.le_of_eq e.1, Nat.zero_le _, by omega⟩] at q2
        cases q2)
      rw [this]
      exact hF q q1
    · intro cc k t ht
      by_cases e : cc = b1 ∧ k < ma
      · obtain ⟨rfl, ek⟩ := e
        obtain ⟨s, g1, g2⟩ := kd_tq_r _ _ c5.2 k t ht
        have : kc_cpy hh cc a1 ma cc k = hh a1 k := if_pos ⟨rfl, ek⟩
        rw [this]
        exact g2 _ (hw a1 k s g1)
      · have : kc_cpy hh b1 a1 ma cc k = hh cc k := if_neg e
        rw [this]
        exact hw cc k t ht
    · refine kd_fr_step hfr w1 (fun cc k hne => ?_)
      have : cc = b1 ∧ k < ma := Classical.byContradiction fun q => hne (if_neg q)
      obtain ⟨rfl, ek⟩ := this
      exact w2 cc k (Nat.le_refl _) (Nat.le_refl _) (Nat.zero_le _) (by omega)
  · cases h
theorem kd_q56 (IH : kd_ih g d M Q ty h0 ρ0 n0 go) (hf : wk_fetch M pc = some (pc, i, nn, x, wd, t, q)) (hi : ∃ idx, i = .invokestatic idx) {v w : kd_V} (hx : x.1 = 6) (h : (bif Nat.ble (kd_cat AS) 8 then kd_bd iv n v (fun l1 h1 => kd_bd iv n w (fun l2 h2 => kd_fit (kd_mn l1 l2) (kd_mn h1 h2) (fun u => wk_fN (pc + 3) (fun pc => go pc iv n AL (u :: AS) F W)))) else false) = true) : kd_says g d M Q ty h0 ρ0 n0 pc iv n AL (w :: v :: AS) F W := by
  intro hn ρ L S hh ha hb hL hS hF hw hfr
  obtain ⟨idx, rfl⟩ := hi
  obtain ⟨c8, h⟩ := kd_bt h
  have c8 := Nat.le_of_ble_eq_true c8
  obtain ⟨y, S1, rfl, hwv, hS1⟩ := wk_f2_cons hS
  obtain ⟨z, S', rfl, hv, hS2⟩ := wk_f2_cons hS1
  obtain ⟨z1, l1, u1, rfl, p1, p2, h⟩ := kd_bd_r h hb hv
  obtain ⟨z2, l2, u2, rfl, p3, p4, h⟩ := kd_bd_r h hb hwv
  rw [kd_mn_r, kd_mn_r] at h
  have e1 := kd_nb_i z1
  have e2 := kd_nb_i z2
  have hlt : z2 < z1 ↔ z2.toInt < z1.toInt := Int32.lt_iff_toInt_lt
  have hc := kd_cat_r hS2
  have hlo : min l1 l2 ≤ kd_nb (if z2 < z1 then z2 else z1) := by
    by_cases hz : z2 < z1
    · rw [if_pos hz]; omega
    · rw [if_neg hz]; omega
  have hhi : kd_nb (if z2 < z1 then z2 else z1) ≤ min u1 u2 := by
    by_cases hz : z2 < z1
    · rw [if_pos hz]; have := hlt.mp hz; omega
    · rw [if_neg hz]; have : ¬ z2.toInt < z1.toInt := fun q => hz (hlt.mpr q); omega
  obtain ⟨u, hu, h⟩ : kd_rs n ρ (.inl (if z2 < z1 then z2 else z1)) _ := kd_fit_r h hlo hhi
  simp only [wk_fN_eq] at h
  refine kc_math_ok hf (AS' := .inl (if z2 < z1 then z2 else z1) :: S') ?_ (IH _ _ _ _ _ _ _ h hn ρ L _ hh ha hb hL ⟨hu, hS2⟩ hF hw hfr)
  have c9 : wk_cat ((Sum.inl z1 :: S').map kc_e) ≤ 9 := by
    show (if wk_c2 (kc_e (.inl z1)) then 2 else 1) + wk_cat (S'.map kc_e) ≤ 9
    rw [kc_c2_e]
    show 1 + _ ≤ 9
    omega
  have c10 : wk_cat (S'.map kc_e) ≤ 8 := by omega
  unfold kc_math
  simp only [if_pos c9, hx]
  rw [if_neg (by decide)]
  simp only [if_true, if_pos c10]
theorem kd_q58 (IH : kd_ih g d M Q ty h0 ρ0 n0 go) (hf : wk_fetch M pc = some (pc, i, nn, x, wd, t, q)) (hi : ∃ idx, i = .invokestatic idx) {v w : kd_V} (hx : x.1 = 8) (h : (bif Nat.ble (kd_cat AS) 8 then kd_bd iv n v (fun l1 h1 => kd_bd iv n w (fun l2 h2 => kd_fit (kd_mx l1 l2) (kd_mx h1 h2) (fun u => wk_fN (pc + 3) (fun pc => go pc iv n AL (u :: AS) F W)))) else false) = true) : kd_says g d M Q ty h0 ρ0 n0 pc iv n AL (w :: v :: AS) F W := by
  intro hn ρ L S hh ha hb hL hS hF hw hfr
  obtain ⟨idx, rfl⟩ := hi
  obtain ⟨c8, h⟩ := kd_bt h
  have c8 := Nat.le_of_ble_eq_true c8
  obtain ⟨y, S1, rfl, hwv, hS1⟩ := wk_f2_cons hS
  obtain ⟨z, S', rfl, hv, hS2⟩ := wk_f2_cons hS1
  obtain ⟨z1, l1, u1, rfl, p1, p2, h⟩ := kd_bd_r h hb hv
  obtain ⟨z2, l2, u2, rfl, p3, p4, h⟩ := kd_bd_r h hb hwv
  rw [kd_mx_r, kd_mx_r] at h
  have e1 := kd_nb_i z1
  have e2 := kd_nb_i z2
  have hlt : z1 < z2 ↔ z1.toInt < z2.toInt := Int32.lt_iff_toInt_lt
  have hc := kd_cat_r hS2
  have hlo : max l1 l2 ≤ kd_nb (if z1 < z2 then z2 else z1) := by
    by_cases hz : z1 < z2
    · rw [if_pos hz]; have := hlt.mp hz; omega
    · rw [if_neg hz]; have : ¬ z1.toInt < z2.toInt := fun q => hz (hlt.mpr q); omega
  have hhi : kd_nb (if z1 < z2 then z2 else z1) ≤ max u1 u2 := by
    by_cases hz : z1 < z2
    · rw [if_pos hz]; have := hlt.mp hz; omega
    · rw [if_neg hz]; have : ¬ z1.toInt < z2.toInt := fun q => hz (hlt.mpr q); omega
  obtain ⟨u, hu, h⟩ : kd_rs n ρ (.inl (if z1 < z2 then z2 else z1)) _ := kd_fit_r h hlo hhi
  simp only [wk_fN_eq] at h
  refine kc_math_ok hf (AS' := .inl (if z1 < z2 then z2 else z1) :: S') ?_ (IH _ _ _ _ _ _ _ h hn ρ L _ hh ha hb hL ⟨hu, hS2⟩ hF hw hfr)
  have c9 : wk_cat ((Sum.inl z1 :: S').map kc_e) ≤ 9 := by
    show (if wk_c2 (kc_e (.inl z1)) then 2 else 1) + wk_cat (S'.map kc_e) ≤ 9
    rw [kc_c2_e]
    show 1 + _ ≤ 9
    omega
  have c10 : wk_cat (S'.map kc_e) ≤ 8 := by omega
  unfold kc_math
  simp only [if_pos c9, hx]
  rw [if_neg (by decide), if_neg (by decide)]
  simp only [if_true, if_pos c10]
theorem kd_q57 (IH : kd_ih g d M Q ty h0 ρ0 n0 go) (hf : wk_fetch M pc = some (pc, i, nn, x, wd, t, q)) (hi : ∃ idx, i = .invokestatic idx) {w : kd_V} (hx : x.1 = 7) (h : (bif Nat.ble (kd_cat AS) 8 then kd_bd iv n w (fun l h => bif Nat.ble kd_B l then wk_fN (pc + 3) (fun pc => go pc iv n AL ((0, l, h) :: AS) F W) else wk_fN (pc + 3) (fun pc => go pc iv n AL (kd_tI :: AS) F W)) else false) = true) : kd_says g d M Q ty h0 ρ0 n0 pc iv n AL (w :: AS) F W := by
  intro hn ρ L S hh ha hb hL hS hF hw hfr
  obtain ⟨idx, rfl⟩ := hi
  obtain ⟨c8, h⟩ := kd_bt h
  have c8 := Nat.le_of_ble_eq_true c8
  obtain ⟨y, S', rfl, hwv, hS1⟩ := wk_f2_cons hS
  generalize hB : kd_B = B at h
  have eB : B = 2147483648 := hB.symm
  obtain ⟨z, l2, u2, rfl, p3, p4, h⟩ := kd_bd_r h hb hwv
  have hc := kd_cat_r hS1
  have c9 : wk_cat (S'.map kc_e) ≤ 9 := by omega
  have c10 : wk_cat (S'.map kc_e) ≤ 8 := by omega
  have hm : kc_math (.invokestatic idx) x (.inl z :: S') = some (.inl (if 0 ≤ z then z else 0 - z) :: S') := by
    unfold kc_math
    simp only [if_pos c9, hx, if_true, if_pos c10]
  rcases kd_bif h with ⟨e0, h⟩ | ⟨-, h⟩
  · have e0 := Nat.le_of_ble_eq_true e0
    have e2 := kd_nb_i z
    have hz : (0 : Int32) ≤ z := Int32.le_iff_toInt_le.mpr (by have : (0 : Int32).toInt = 0 := rfl; omega)
    simp only [wk_fN_eq] at h
    refine kc_math_ok hf hm (IH _ _ _ _ _ _ _ h hn ρ L _ hh ha hb hL ⟨⟨_, rfl, ?_, ?_⟩, hS1⟩ hF hw hfr)
    · rw [if_pos hz]; exact p3
    · rw [if_pos hz]; exact p4
  · simp only [wk_fN_eq] at h
    exact kc_math_ok hf hm (IH _ _ _ _ _ _ _ h hn ρ L _ hh ha hb hL ⟨⟨_, rfl, Nat.zero_le _, kd_nb_M _⟩, hS1⟩ hF hw hfr)
end KDC
