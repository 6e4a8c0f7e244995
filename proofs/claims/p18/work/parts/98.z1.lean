/-! ===== findBest: the pieces run by the engine ===== -/
def kb_W0 : kd_W := [(272, 278, 0, 0), (281, 281, 0, 4), (276, 278, 0, 5), (272, 272, 0, 9), (278, 278, 0, 9), (273, 277, 1, 1), (273, 277, 2, 2), (273, 277, 3, 3), (273, 277, 4, 4), (273, 277, 5, 5), (273, 275, 6, 6), (273, 275, 7, 7), (273, 275, 8, 8), (273, 275, 9, 9), (259, 259, 33, 33), (259, 259, 38, 39)]
def kb_W (n : Nat) : kd_W := (260, 260, 150, 149 + n) :: kb_W0
def kb_WB : kd_W := [(279, 279, 0, 9), (259, 259, 35, 35), (259, 259, 38, 39)]
def kb_pre : Nat → kd_F
  | 0 => [(260, 1, (0, 2147483649, 2147483651))]
  | 1 => [(260, 2, (0, 2147483648, 2147483648)), (260, 1, (0, 2147483648, 2147483648))]
  | _ + 2 => [(260, 2, (0, 2147483649, 2147483658)), (260, 1, (0, 2147483648, 2147483648))]
def kb_mn : Nat → kd_V
  | 0 => (0, 0, 4294967295)
  | 1 => (0, 0, 4294967295)
  | _ + 2 => (0, 2147483647, 2147483648)
def kb_body (g : kc_G) (d q n : Nat) : Prop := ∀ (Q : Option kc_V → kc_H → Prop) (hh : kc_H) (mv : kc_V) (L : kc_L), kd_wt kd_ty hh → kd_gF 0 (fun _ => 0) (kb_pre q) hh → kd_g 0 (fun _ => 0) (kb_mn q) mv → (∀ j, j < n → ∃ v, v < n ∧ hh 279 j = .inl (Int32.ofNat v)) → kc_get L 0 = some (.inr (.inr (.inl (some 259)))) → kc_get L 1 = some mv → kc_get L 2 = some (.inl (Int32.ofNat n)) → kc_get L 3 = some (.inl (Int32.ofNat 1)) → (∀ (L' : kc_L) (hh' : kc_H), kd_wt kd_ty hh' → kd_fr (kb_W n) hh hh' → kc_get L' 0 = some (.inr (.inr (.inl (some 259)))) → (∃ mv', kc_get L' 1 = some mv' ∧ kd_g 0 (fun _ => 0) (kb_mn q) mv') → kc_get L' 2 = some (.inl (Int32.ofNat n)) → kc_Ev g d wk_m130 Q 206 L' [] hh') → kc_Ev g d wk_m130 Q 54 L [] hh
def kb_begin (g : kc_G) (d q n : Nat) : Prop := ∀ (Q : Option kc_V → kc_H → Prop) (hh : kc_H) (mv : kc_V) (L : kc_L), kd_wt kd_ty hh → kd_g 0 (fun _ => 0) (kb_mn q) mv → kc_get L 0 = some (.inr (.inr (.inl (some 259)))) → kc_get L 1 = some mv → kc_get L 2 = some (.inl (Int32.ofNat n)) → (∀ (L' : kc_L) (hh' : kc_H), kd_wt kd_ty hh' → kd_fr kb_WB hh hh' → kc_get L' 0 = some (.inr (.inr (.inl (some 259)))) → (∃ mv', kc_get L' 1 = some mv' ∧ kd_g 0 (fun _ => 0) (kb_mn q) mv') → kc_get L' 2 = some (.inl (Int32.ofNat n)) → kc_get L' 3 = some (.inl (Int32.ofNat 1)) → hh' 259 35 = .inl (Int32.ofNat n) → (∀ j, j < n → hh' 279 j = .inl (Int32.ofNat j)) → kc_Ev g d wk_m130 Q 54 L' [] hh') → kc_Ev g d wk_m130 Q 35 L [] hh
theorem kb_gLc {ρ : Nat → Nat} {vs : List kd_V} {L : kc_L} (h : ∀ i v, vs[i]? = some v → kd_kn v.1 = true → ∃ x, kc_get L i = some x ∧ kd_g 0 ρ v x) : kd_gL 0 ρ vs L := h
theorem kb_s259 {n : Nat} {σ : Nat → Nat} {x : kc_V} (h : kd_g n σ (3, 259, 259) x) : x = .inr (.inr (.inl (some 259))) := by
  obtain ⟨c, rfl, a1, a2⟩ := h
  obtain rfl : c = 259 := by omega
  rfl
theorem kb_ok {n : Nat} {σ : Nat → Nat} {k : Nat} (hk : k < 2147483648) : kd_g n σ (0, 2147483648 + k, 2147483648 + k) (.inl (Int32.ofNat k)) := by
  refine ⟨_, rfl, ?_, ?_⟩ <;> unfold kd_nb <;> rw [kx_ti hk] <;> omega
def kb_C0 : List (Nat × kd_Tc) := [(122, kd_T122a), (259, kd_T259), (263, kd_T263)]
def kb_s0_0 : kd_St := (54, [(2147483649, 2147483651), (0, 4294967295)], 2, [(3, 259, 259), (1, 0, 2147483648), (0, 2147483648, 2147483648), (0, 2147483649, 2147483649), (9, 0, 0), (9, 0, 0)], [(260, 1, (1, 1, 2147483648))], [], [])
def kb_m0_0 : kd_St := (206, [], 0, [(3, 259, 259), (0, 0, 4294967295), (0, 2147483648, 2147483648), (9, 0, 0), (9, 0, 0), (9, 0, 0)], [], kb_W 0, [])
theorem kb_r0_0 : kd_go kd_ty kd_x130 6 (fun pc iv n AL AS F W => [kb_m0_0].any (kd_arr kd_ty none pc iv n AL AS F W)) (kd_call kd_ty kd_xt (kd_ctl kb_C0) 600 1) (fun _ _ _ _ _ => false) 600 54 kb_s0_0.2.1 kb_s0_0.2.2.1 kb_s0_0.2.2.2.1 [] kb_s0_0.2.2.2.2.1 [] = true := by decide +kernel
theorem kb_b0_0 {g : kc_G} (hg : kc_ok g) : kb_body g 6 0 0 := by
  intro Q hh mv L hw hF hm hr l0 l1 l2 l3 hK
  refine kb_seg (d := 6) (AL0 := [(3, 259, 259), (0, 0, 4294967295), (0, 2147483648, 2147483648), (0, 2147483649, 2147483649), (9, 0, 0), (9, 0, 0)]) (F0 := [(260, 1, (0, 2147483649, 2147483651))]) (mu := []) (mu2 := []) kd_xk130 (kd_call_r (d0 := 5) hg kd_xt_ok (kd_ctl_r kb_C0 (kd_al_r kb_C0 ⟨kd_hold_le (kd_h122a hg) (by decide), kd_hold_le (kd_h259 hg) (by decide), kd_hold_le (kd_h263 hg) (by decide), trivial⟩)) 1) (by decide +kernel) (by decide +kernel) (by decide +kernel) kb_r0_0 ?_ ?_ hw ?_
  · intro i v hi hk
    match i, hi with
    | 0, hi => obtain rfl := Option.some.inj (show some _ = some v from hi); exact ⟨_, l0, ⟨259, rfl, by decide, by decide⟩⟩
    | 1, hi => obtain rfl := Option.some.inj (show some _ = some v from hi); exact ⟨_, l1, hm⟩
    | 2, hi => obtain rfl := Option.some.inj (show some _ = some v from hi); exact ⟨_, l2, kb_ok (k := 0) (by decide)⟩
    | 3, hi => obtain rfl := Option.some.inj (show some _ = some v from hi); exact ⟨_, l3, kb_ok (k := 1) (by decide)⟩
    | 4, hi => obtain rfl := Option.some.inj (show some _ = some v from hi); exact absurd hk (by decide)
    | 5, hi => obtain rfl := Option.some.inj (show some _ = some v from hi); exact absurd hk (by decide)
    | i + 6, hi => exact absurd (show none = some v from hi) (by simp)
  · intro x hx
    simp only [List.mem_cons, List.not_mem_nil, or_false] at hx
    rcases hx with rfl
    · exact hF _ (by decide)
  · intro σ L' hh' b1 b2 b3 b4 b5
    obtain ⟨x0, m0, g0⟩ := b2 0 _ rfl rfl
    obtain ⟨x1, m1, z1, rfl, ga, gb⟩ := b2 1 _ rfl rfl
    obtain ⟨x2, m2, g2⟩ := b2 2 _ rfl rfl
    rw [kb_s259 g0] at m0
    rw [kx_ofs (k := 0) (by decide) g2] at m2
    exact hK L' hh' b4 b5 m0 ⟨.inl z1, m1, ⟨z1, rfl, ga, gb⟩⟩ m2
def kb_t0_0 : kd_St := (35, [(0, 4294967295)], 1, [(3, 259, 259), (1, 0, 2147483648), (0, 2147483648, 2147483648), (9, 0, 0), (9, 0, 0), (9, 0, 0)], [], [], [])
def kb_n0_0 : kd_St := (54, [], 0, [(3, 259, 259), (0, 0, 4294967295), (0, 2147483648, 2147483648), (0, 2147483649, 2147483649), (9, 0, 0), (9, 0, 0)], [(259, 35, (0, 2147483648, 2147483648))], kb_WB, [])
theorem kb_u0_0 : kd_go kd_ty kd_x130 6 (fun pc iv n AL AS F W => [kb_n0_0].any (kd_arr kd_ty none pc iv n AL AS F W)) (kd_call kd_ty kd_xt (kd_ctl []) 600 1) (fun _ _ _ _ _ => false) 600 35 kb_t0_0.2.1 kb_t0_0.2.2.1 kb_t0_0.2.2.2.1 [] [] [] = true := by decide +kernel
theorem kb_g0_0 {g : kc_G} (hg : kc_ok g) : kb_begin g 6 0 0 := by
  intro Q hh mv L hw hm l0 l1 l2 hK
  refine kb_seg (d := 6) (AL0 := [(3, 259, 259), (0, 0, 4294967295), (0, 2147483648, 2147483648), (9, 0, 0), (9, 0, 0), (9, 0, 0)]) (F0 := []) (mu := []) (mu2 := []) kd_xk130 (kd_call_r (d0 := 5) hg kd_xt_ok (kd_ctl_r [] (fun q hq => by cases hq)) 1) (by decide +kernel) (by decide +kernel) (by decide +kernel) kb_u0_0 ?_ (fun q hq => by cases hq) hw ?_
  · intro i v hi hk
    match i, hi with
    | 0, hi => obtain rfl := Option.some.inj (show some _ = some v from hi); exact ⟨_, l0, ⟨259, rfl, by decide, by decide⟩⟩
    | 1, hi => obtain rfl := Option.some.inj (show some _ = some v from hi); exact ⟨_, l1, hm⟩
    | 2, hi => obtain rfl := Option.some.inj (show some _ = some v from hi); exact ⟨_, l2, kb_ok (k := 0) (by decide)⟩
    | 3, hi => obtain rfl := Option.some.inj (show some _ = some v from hi); exact absurd hk (by decide)
    | 4, hi => obtain rfl := Option.some.inj (show some _ = some v from hi); exact absurd hk (by decide)
    | 5, hi => obtain rfl := Option.some.inj (show some _ = some v from hi); exact absurd hk (by decide)
    | i + 6, hi => exact absurd (show none = some v from hi) (by simp)
  · intro σ L' hh' b1 b2 b3 b4 b5
    obtain ⟨x0, m0, g0⟩ := b2 0 _ rfl rfl
    obtain ⟨x1, m1, z1, rfl, ga, gb⟩ := b2 1 _ rfl rfl
    obtain ⟨x2, m2, g2⟩ := b2 2 _ rfl rfl
    obtain ⟨x3, m3, g3⟩ := b2 3 _ rfl rfl
    rw [kb_s259 g0] at m0
    rw [kx_ofs (k := 0) (by decide) g2] at m2
    rw [kx_ofs (k := 1) (by decide) g3] at m3
    exact hK L' hh' b4 b5 m0 ⟨.inl z1, m1, ⟨z1, rfl, ga, gb⟩⟩ m2 m3 (kx_ofs (k := 0) (by decide) (b3 (259, 35, _) (by decide))) (fun j hj => absurd hj (by omega))
def kb_s0_1 : kd_St := (54, [(2147483649, 2147483651), (0, 4294967295)], 2, [(3, 259, 259), (1, 0, 2147483648), (0, 2147483649, 2147483649), (0, 2147483649, 2147483649), (9, 0, 0), (9, 0, 0)], [(260, 1, (1, 1, 2147483648)), (279, 0, (0, 2147483648, 2147483648))], [], [])
def kb_m0_1 : kd_St := (206, [], 0, [(3, 259, 259), (0, 0, 4294967295), (0, 2147483649, 2147483649), (9, 0, 0), (9, 0, 0), (9, 0, 0)], [], kb_W 1, [])
theorem kb_r0_1 : kd_go kd_ty kd_x130 6 (fun pc iv n AL AS F W => [kb_m0_1].any (kd_arr kd_ty none pc iv n AL AS F W)) (kd_call kd_ty kd_xt (kd_ctl kb_C0) 600 1) (fun _ _ _ _ _ => false) 600 54 kb_s0_1.2.1 kb_s0_1.2.2.1 kb_s0_1.2.2.2.1 [] kb_s0_1.2.2.2.2.1 [] = true := by decide +kernel
theorem kb_b0_1 {g : kc_G} (hg : kc_ok g) : kb_body g 6 0 1 := by
  intro Q hh mv L hw hF hm hr l0 l1 l2 l3 hK
  refine kb_seg (d := 6) (AL0 := [(3, 259, 259), (0, 0, 4294967295), (0, 2147483649, 2147483649), (0, 2147483649, 2147483649), (9, 0, 0), (9, 0, 0)]) (F0 := [(260, 1, (0, 2147483649, 2147483651)), (279, 0, (0, 2147483648, 2147483648))]) (mu := []) (mu2 := []) kd_xk130 (kd_call_r (d0 := 5) hg kd_xt_ok (kd_ctl_r kb_C0 (kd_al_r kb_C0 ⟨kd_hold_le (kd_h122a hg) (by decide), kd_hold_le (kd_h259 hg) (by decide), kd_hold_le (kd_h263 hg) (by decide), trivial⟩)) 1) (by decide +kernel) (by decide +kernel) (by decide +kernel) kb_r0_1 ?_ ?_ hw ?_
  · intro i v hi hk
    match i, hi with
    | 0, hi => obtain rfl := Option.some.inj (show some _ = some v from hi); exact ⟨_, l0, ⟨259, rfl, by decide, by decide⟩⟩
    | 1, hi => obtain rfl := Option.some.inj (show some _ = some v from hi); exact ⟨_, l1, hm⟩
    | 2, hi => obtain rfl := Option.some.inj (show some _ = some v from hi); exact ⟨_, l2, kb_ok (k := 1) (by decide)⟩
    | 3, hi => obtain rfl := Option.some.inj (show some _ = some v from hi); exact ⟨_, l3, kb_ok (k := 1) (by decide)⟩
    | 4, hi => obtain rfl := Option.some.inj (show some _ = some v from hi); exact absurd hk (by decide)
    | 5, hi => obtain rfl := Option.some.inj (show some _ = some v from hi); exact absurd hk (by decide)
    | i + 6, hi => exact absurd (show none = some v from hi) (by simp)
  · intro x hx
    simp only [List.mem_cons, List.not_mem_nil, or_false] at hx
    rcases hx with rfl | rfl
    · exact hF _ (by decide)
    · obtain ⟨v, v1, v2⟩ := hr 0 (by decide)
      show kd_g 0 _ _ (hh 279 0)
      rw [v2]
      exact kx_gof (u := 0) (by omega) (by omega)
  · intro σ L' hh' b1 b2 b3 b4 b5
    obtain ⟨x0, m0, g0⟩ := b2 0 _ rfl rfl
    obtain ⟨x1, m1, z1, rfl, ga, gb⟩ := b2 1 _ rfl rfl
    obtain ⟨x2, m2, g2⟩ := b2 2 _ rfl rfl
    rw [kb_s259 g0] at m0
    rw [kx_ofs (k := 1) (by decide) g2] at m2
    exact hK L' hh' b4 b5 m0 ⟨.inl z1, m1, ⟨z1, rfl, ga, gb⟩⟩ m2
def kb_t0_1 : kd_St := (35, [(0, 4294967295)], 1, [(3, 259, 259), (1, 0, 2147483648), (0, 2147483649, 2147483649), (9, 0, 0), (9, 0, 0), (9, 0, 0)], [], [], [])
def kb_n0_1 : kd_St := (54, [], 0, [(3, 259, 259), (0, 0, 4294967295), (0, 2147483649, 2147483649), (0, 2147483649, 2147483649), (9, 0, 0), (9, 0, 0)], [(259, 35, (0, 2147483649, 2147483649)), (279, 0, (0, 2147483648, 2147483648))], kb_WB, [])
theorem kb_u0_1 : kd_go kd_ty kd_x130 6 (fun pc iv n AL AS F W => [kb_n0_1].any (kd_arr kd_ty none pc iv n AL AS F W)) (kd_call kd_ty kd_xt (kd_ctl []) 600 1) (fun _ _ _ _ _ => false) 600 35 kb_t0_1.2.1 kb_t0_1.2.2.1 kb_t0_1.2.2.2.1 [] [] [] = true := by decide +kernel
theorem kb_g0_1 {g : kc_G} (hg : kc_ok g) : kb_begin g 6 0 1 := by
  intro Q hh mv L hw hm l0 l1 l2 hK
  refine kb_seg (d := 6) (AL0 := [(3, 259, 259), (0, 0, 4294967295), (0, 2147483649, 2147483649), (9, 0, 0), (9, 0, 0), (9, 0, 0)]) (F0 := []) (mu := []) (mu2 := []) kd_xk130 (kd_call_r (d0 := 5) hg kd_xt_ok (kd_ctl_r [] (fun q hq => by cases hq)) 1) (by decide +kernel) (by decide +kernel) (by decide +kernel) kb_u0_1 ?_ (fun q hq => by cases hq) hw ?_
  · intro i v hi hk
    match i, hi with
    | 0, hi => obtain rfl := Option.some.inj (show some _ = some v from hi); exact ⟨_, l0, ⟨259, rfl, by decide, by decide⟩⟩
    | 1, hi => obtain rfl := Option.some.inj (show some _ = some v from hi); exact ⟨_, l1, hm⟩
    | 2, hi => obtain rfl := Option.some.inj (show some _ = some v from hi); exact ⟨_, l2, kb_ok (k := 1) (by decide)⟩
    | 3, hi => obtain rfl := Option.some.inj (show some _ = some v from hi); exact absurd hk (by decide)
    | 4, hi => obtain rfl := Option.some.inj (show some _ = some v from hi); exact absurd hk (by decide)
    | 5, hi => obtain rfl := Option.some.inj (show some _ = some v from hi); exact absurd hk (by decide)
    | i + 6, hi => exact absurd (show none = some v from hi) (by simp)
  · intro σ L' hh' b1 b2 b3 b4 b5
    obtain ⟨x0, m0, g0⟩ := b2 0 _ rfl rfl
    obtain ⟨x1, m1, z1, rfl, ga, gb⟩ := b2 1 _ rfl rfl
    obtain ⟨x2, m2, g2⟩ := b2 2 _ rfl rfl
    obtain ⟨x3, m3, g3⟩ := b2 3 _ rfl rfl
    rw [kb_s259 g0] at m0
    rw [kx_ofs (k := 1) (by decide) g2] at m2
    rw [kx_ofs (k := 1) (by decide) g3] at m3
    exact hK L' hh' b4 b5 m0 ⟨.inl z1, m1, ⟨z1, rfl, ga, gb⟩⟩ m2 m3 (kx_ofs (k := 1) (by decide) (b3 (259, 35, _) (by decide))) (fun j hj => (match j, hj with
      | 0, _ => kx_ofs (k := 0) (by decide) (b3 (279, 0, _) (by decide))
      | j + 1, hj => absurd hj (by omega)))
def kb_s0_2 : kd_St := (54, [(2147483648, 2147483649), (2147483648, 2147483649), (2147483649, 2147483651), (0, 4294967295)], 4, [(3, 259, 259), (1, 0, 2147483648), (0, 2147483650, 2147483650), (0, 2147483649, 2147483649), (9, 0, 0), (9, 0, 0)], [(260, 1, (1, 1, 2147483648)), (279, 0, (1, 2, 2147483648)), (279, 1, (1, 3, 2147483648))], [], [])
def kb_m0_2 : kd_St := (206, [], 0, [(3, 259, 259), (0, 0, 4294967295), (0, 2147483650, 2147483650), (9, 0, 0), (9, 0, 0), (9, 0, 0)], [], kb_W 2, [])
theorem kb_r0_2 : kd_go kd_ty kd_x130 6 (fun pc iv n AL AS F W => [kb_m0_2].any (kd_arr kd_ty none pc iv n AL AS F W)) (kd_call kd_ty kd_xt (kd_ctl kb_C0) 600 1) (fun _ _ _ _ _ => false) 600 54 kb_s0_2.2.1 kb_s0_2.2.2.1 kb_s0_2.2.2.2.1 [] kb_s0_2.2.2.2.2.1 [] = true := by decide +kernel
theorem kb_b0_2 {g : kc_G} (hg : kc_ok g) : kb_body g 6 0 2 := by
  intro Q hh mv L hw hF hm hr l0 l1 l2 l3 hK
  refine kb_seg (d := 6) (AL0 := [(3, 259, 259), (0, 0, 4294967295), (0, 2147483650, 2147483650), (0, 2147483649, 2147483649), (9, 0, 0), (9, 0, 0)]) (F0 := [(260, 1, (0, 2147483649, 2147483651)), (279, 0, (0, 2147483648, 2147483649)), (279, 1, (0, 2147483648, 2147483649))]) (mu := []) (mu2 := []) kd_xk130 (kd_call_r (d0 := 5) hg kd_xt_ok (kd_ctl_r kb_C0 (kd_al_r kb_C0 ⟨kd_hold_le (kd_h122a hg) (by decide), kd_hold_le (kd_h259 hg) (by decide), kd_hold_le (kd_h263 hg) (by decide), trivial⟩)) 1) (by decide +kernel) (by decide +kernel) (by decide +kernel) kb_r0_2 ?_ ?_ hw ?_
  · intro i v hi hk
    match i, hi with
    | 0, hi => obtain rfl := Option.some.inj (show some _ = some v from hi); exact ⟨_, l0, ⟨259, rfl, by decide, by decide⟩⟩
    | 1, hi => obtain rfl := Option.some.inj (show some _ = some v from hi); exact ⟨_, l1, hm⟩
    | 2, hi => obtain rfl := Option.some.inj (show some _ = some v from hi); exact ⟨_, l2, kb_ok (k := 2) (by decide)⟩
    | 3, hi => obtain rfl := Option.some.inj (show some _ = some v from hi); exact ⟨_, l3, kb_ok (k := 1) (by decide)⟩
    | 4, hi => obtain rfl := Option.some.inj (show some _ = some v from hi); exact absurd hk (by decide)
    | 5, hi => obtain rfl := Option.some.inj (show some _ = some v from hi); exact absurd hk (by decide)
    | i + 6, hi => exact absurd (show none = some v from hi) (by simp)
  · intro x hx
    simp only [List.mem_cons, List.not_mem_nil, or_false] at hx
    rcases hx with rfl | rfl | rfl
    · exact hF _ (by decide)
    · obtain ⟨v, v1, v2⟩ := hr 0 (by decide)
      show kd_g 0 _ _ (hh 279 0)
      rw [v2]
      exact kx_gof (u := 1) (by omega) (by omega)
    · obtain ⟨v, v1, v2⟩ := hr 1 (by decide)
      show kd_g 0 _ _ (hh 279 1)
      rw [v2]
      exact kx_gof (u := 1) (by omega) (by omega)
  · intro σ L' hh' b1 b2 b3 b4 b5
    obtain ⟨x0, m0, g0⟩ := b2 0 _ rfl rfl
    obtain ⟨x1, m1, z1, rfl, ga, gb⟩ := b2 1 _ rfl rfl
    obtain ⟨x2, m2, g2⟩ := b2 2 _ rfl rfl
    rw [kb_s259 g0] at m0
    rw [kx_ofs (k := 2) (by decide) g2] at m2
    exact hK L' hh' b4 b5 m0 ⟨.inl z1, m1, ⟨z1, rfl, ga, gb⟩⟩ m2
def kb_t0_2 : kd_St := (35, [(0, 4294967295)], 1, [(3, 259, 259), (1, 0, 2147483648), (0, 2147483650, 2147483650), (9, 0, 0), (9, 0, 0), (9, 0, 0)], [], [], [])
def kb_n0_2 : kd_St := (54, [], 0, [(3, 259, 259), (0, 0, 4294967295), (0, 2147483650, 2147483650), (0, 2147483649, 2147483649), (9, 0, 0), (9, 0, 0)], [(259, 35, (0, 2147483650, 2147483650)), (279, 0, (0, 2147483648, 2147483648)), (279, 1, (0, 2147483649, 2147483649))], kb_WB, [])
theorem kb_u0_2 : kd_go kd_ty kd_x130 6 (fun pc iv n AL AS F W => [kb_n0_2].any (kd_arr kd_ty none pc iv n AL AS F W)) (kd_call kd_ty kd_xt (kd_ctl []) 600 1) (fun _ _ _ _ _ => false) 600 35 kb_t0_2.2.1 kb_t0_2.2.2.1 kb_t0_2.2.2.2.1 [] [] [] = true := by decide +kernel
theorem kb_g0_2 {g : kc_G} (hg : kc_ok g) : kb_begin g 6 0 2 := by
  intro Q hh mv L hw hm l0 l1 l2 hK
  refine kb_seg (d := 6) (AL0 := [(3, 259, 259), (0, 0, 4294967295), (0, 2147483650, 2147483650), (9, 0, 0), (9, 0, 0), (9, 0, 0)]) (F0 := []) (mu := []) (mu2 := []) kd_xk130 (kd_call_r (d0 := 5) hg kd_xt_ok (kd_ctl_r [] (fun q hq => by cases hq)) 1) (by decide +kernel) (by decide +kernel) (by decide +kernel) kb_u0_2 ?_ (fun q hq => by cases hq) hw ?_
  · intro i v hi hk
    match i, hi with
    | 0, hi => obtain rfl := Option.some.inj (show some _ = some v from hi); exact ⟨_, l0, ⟨259, rfl, by decide, by decide⟩⟩
    | 1, hi => obtain rfl := Option.some.inj (show some _ = some v from hi); exact ⟨_, l1, hm⟩
    | 2, hi => obtain rfl := Option.some.inj (show some _ = some v from hi); exact ⟨_, l2, kb_ok (k := 2) (by decide)⟩
    | 3, hi => obtain rfl := Option.some.inj (show some _ = some v from hi); exact absurd hk (by decide)
    | 4, hi => obtain rfl := Option.some.inj (show some _ = some v from hi); exact absurd hk (by decide)
    | 5, hi => obtain rfl := Option.some.inj (show some _ = some v from hi); exact absurd hk (by decide)
    | i + 6, hi => exact absurd (show none = some v from hi) (by simp)
  · intro σ L' hh' b1 b2 b3 b4 b5
    obtain ⟨x0, m0, g0⟩ := b2 0 _ rfl rfl
    obtain ⟨x1, m1, z1, rfl, ga, gb⟩ := b2 1 _ rfl rfl
    obtain ⟨x2, m2, g2⟩ := b2 2 _ rfl rfl
    obtain ⟨x3, m3, g3⟩ := b2 3 _ rfl rfl
    rw [kb_s259 g0] at m0
    rw [kx_ofs (k := 2) (by decide) g2] at m2
    rw [kx_ofs (k := 1) (by decide) g3] at m3
    exact hK L' hh' b4 b5 m0 ⟨.inl z1, m1, ⟨z1, rfl, ga, gb⟩⟩ m2 m3 (kx_ofs (k := 2) (by decide) (b3 (259, 35, _) (by decide))) (fun j hj => (match j, hj with
      | 0, _ => kx_ofs (k := 0) (by decide) (b3 (279, 0, _) (by decide))
      | 1, _ => kx_ofs (k := 1) (by decide) (b3 (279, 1, _) (by decide))
      | j + 2, hj => absurd hj (by omega)))
def kb_s0_3 : kd_St := (54, [(2147483648, 2147483650), (2147483648, 2147483650), (2147483648, 2147483650), (2147483649, 2147483651), (0, 4294967295)], 5, [(3, 259, 259), (1, 0, 2147483648), (0, 2147483651, 2147483651), (0, 2147483649, 2147483649), (9, 0, 0), (9, 0, 0)], [(260, 1, (1, 1, 2147483648)), (279, 0, (1, 2, 2147483648)), (279, 1, (1, 3, 2147483648)), (279, 2, (1, 4, 2147483648))], [], [])
def kb_m0_3 : kd_St := (206, [], 0, [(3, 259, 259), (0, 0, 4294967295), (0, 2147483651, 2147483651), (9, 0, 0), (9, 0, 0), (9, 0, 0)], [], kb_W 3, [])
theorem kb_r0_3 : kd_go kd_ty kd_x130 6 (fun pc iv n AL AS F W => [kb_m0_3].any (kd_arr kd_ty none pc iv n AL AS F W)) (kd_call kd_ty kd_xt (kd_ctl kb_C0) 600 1) (fun _ _ _ _ _ => false) 600 54 kb_s0_3.2.1 kb_s0_3.2.2.1 kb_s0_3.2.2.2.1 [] kb_s0_3.2.2.2.2.1 [] = true := by decide +kernel
theorem kb_b0_3 {g : kc_G} (hg : kc_ok g) : kb_body g 6 0 3 := by
  intro Q hh mv L hw hF hm hr l0 l1 l2 l3 hK
  refine kb_seg (d := 6) (AL0 := [(3, 259, 259), (0, 0, 4294967295), (0, 2147483651, 2147483651), (0, 2147483649, 2147483649), (9, 0, 0), (9, 0, 0)]) (F0 := [(260, 1, (0, 2147483649, 2147483651)), (279, 0, (0, 2147483648, 2147483650)), (279, 1, (0, 2147483648, 2147483650)), (279, 2, (0, 2147483648, 2147483650))]) (mu := []) (mu2 := []) kd_xk130 (kd_call_r (d0 := 5) hg kd_xt_ok (kd_ctl_r kb_C0 (kd_al_r kb_C0 ⟨kd_hold_le (kd_h122a hg) (by decide), kd_hold_le (kd_h259 hg) (by decide), kd_hold_le (kd_h263 hg) (by decide), trivial⟩)) 1) (by decide +kernel) (by decide +kernel) (by decide +kernel) kb_r0_3 ?_ ?_ hw ?_
  · intro i v hi hk
    match i, hi with
    | 0, hi => obtain rfl := Option.some.inj (show some _ = some v from hi); exact ⟨_, l0, ⟨259, rfl, by decide, by decide⟩⟩
    | 1, hi => obtain rfl := Option.some.inj (show some _ = some v from hi); exact ⟨_, l1, hm⟩
    | 2, hi => obtain rfl := Option.some.inj (show some _ = some v from hi); exact ⟨_, l2, kb_ok (k := 3) (by decide)⟩
    | 3, hi => obtain rfl := Option.some.inj (show some _ = some v from hi); exact ⟨_, l3, kb_ok (k := 1) (by decide)⟩
    | 4, hi => obtain rfl := Option.some.inj (show some _ = some v from hi); exact absurd hk (by decide)
    | 5, hi => obtain rfl := Option.some.inj (show some _ = some v from hi); exact absurd hk (by decide)
    | i + 6, hi => exact absurd (show none = some v from hi) (by simp)
  · intro x hx
    simp only [List.mem_cons, List.not_mem_nil, or_false] at hx
    rcases hx with rfl | rfl | rfl | rfl
    · exact hF _ (by decide)
    · obtain ⟨v, v1, v2⟩ := hr 0 (by decide)
      show kd_g 0 _ _ (hh 279 0)
      rw [v2]
      exact kx_gof (u := 2) (by omega) (by omega)
    · obtain ⟨v, v1, v2⟩ := hr 1 (by decide)
      show kd_g 0 _ _ (hh 279 1)
      rw [v2]
      exact kx_gof (u := 2) (by omega) (by omega)
    · obtain ⟨v, v1, v2⟩ := hr 2 (by decide)
      show kd_g 0 _ _ (hh 279 2)
      rw [v2]
      exact kx_gof (u := 2) (by omega) (by omega)
  · intro σ L' hh' b1 b2 b3 b4 b5
    obtain ⟨x0, m0, g0⟩ := b2 0 _ rfl rfl
    obtain ⟨x1, m1, z1, rfl, ga, gb⟩ := b2 1 _ rfl rfl
    obtain ⟨x2, m2, g2⟩ := b2 2 _ rfl rfl
    rw [kb_s259 g0] at m0
    rw [kx_ofs (k := 3) (by decide) g2] at m2
    exact hK L' hh' b4 b5 m0 ⟨.inl z1, m1, ⟨z1, rfl, ga, gb⟩⟩ m2
def kb_t0_3 : kd_St := (35, [(0, 4294967295)], 1, [(3, 259, 259), (1, 0, 2147483648), (0, 2147483651, 2147483651), (9, 0, 0), (9, 0, 0), (9, 0, 0)], [], [], [])
def kb_n0_3 : kd_St := (54, [], 0, [(3, 259, 259), (0, 0, 4294967295), (0, 2147483651, 2147483651), (0, 2147483649, 2147483649), (9, 0, 0), (9, 0, 0)], [(259, 35, (0, 2147483651, 2147483651)), (279, 0, (0, 2147483648, 2147483648)), (279, 1, (0, 2147483649, 2147483649)), (279, 2, (0, 2147483650, 2147483650))], kb_WB, [])
theorem kb_u0_3 : kd_go kd_ty kd_x130 6 (fun pc iv n AL AS F W => [kb_n0_3].any (kd_arr kd_ty none pc iv n AL AS F W)) (kd_call kd_ty kd_xt (kd_ctl []) 600 1) (fun _ _ _ _ _ => false) 600 35 kb_t0_3.2.1 kb_t0_3.2.2.1 kb_t0_3.2.2.2.1 [] [] [] = true := by decide +kernel
theorem kb_g0_3 {g : kc_G} (hg : kc_ok g) : kb_begin g 6 0 3 := by
  intro Q hh mv L hw hm l0 l1 l2 hK
  refine kb_seg (d := 6) (AL0 := [(3, 259, 259), (0, 0, 4294967295), (0, 2147483651, 2147483651), (9, 0, 0), (9, 0, 0), (9, 0, 0)]) (F0 := []) (mu := []) (mu2 := []) kd_xk130 (kd_call_r (d0 := 5) hg kd_xt_ok (kd_ctl_r [] (fun q hq => by cases hq)) 1) (by decide +kernel) (by decide +kernel) (by decide +kernel) kb_u0_3 ?_ (fun q hq => by cases hq) hw ?_
  · intro i v hi hk
    match i, hi with
    | 0, hi => obtain rfl := Option.some.inj (show some _ = some v from hi); exact ⟨_, l0, ⟨259, rfl, by decide, by decide⟩⟩
    | 1, hi => obtain rfl := Option.some.inj (show some _ = some v from hi); exact ⟨_, l1, hm⟩
    | 2, hi => obtain rfl := Option.some.inj (show some _ = some v from hi); exact ⟨_, l2, kb_ok (k := 3) (by decide)⟩
    | 3, hi => obtain rfl := Option.some.inj (show some _ = some v from hi); exact absurd hk (by decide)
    | 4, hi => obtain rfl := Option.some.inj (show some _ = some v from hi); exact absurd hk (by decide)
    | 5, hi => obtain rfl := Option.some.inj (show some _ = some v from hi); exact absurd hk (by decide)
    | i + 6, hi => exact absurd (show none = some v from hi) (by simp)
  · intro σ L' hh' b1 b2 b3 b4 b5
    obtain ⟨x0, m0, g0⟩ := b2 0 _ rfl rfl
    obtain ⟨x1, m1, z1, rfl, ga, gb⟩ := b2 1 _ rfl rfl
    obtain ⟨x2, m2, g2⟩ := b2 2 _ rfl rfl
    obtain ⟨x3, m3, g3⟩ := b2 3 _ rfl rfl
    rw [kb_s259 g0] at m0
    rw [kx_ofs (k := 3) (by decide) g2] at m2
    rw [kx_ofs (k := 1) (by decide) g3] at m3
    exact hK L' hh' b4 b5 m0 ⟨.inl z1, m1, ⟨z1, rfl, ga, gb⟩⟩ m2 m3 (kx_ofs (k := 3) (by decide) (b3 (259, 35, _) (by decide))) (fun j hj => (match j, hj with
      | 0, _ => kx_ofs (k := 0) (by decide) (b3 (279, 0, _) (by decide))
      | 1, _ => kx_ofs (k := 1) (by decide) (b3 (279, 1, _) (by decide))
      | 2, _ => kx_ofs (k := 2) (by decide) (b3 (279, 2, _) (by decide))
      | j + 3, hj => absurd hj (by omega)))
def kb_s0_4 : kd_St := (54, [(2147483648, 2147483651), (2147483648, 2147483651), (2147483648, 2147483651), (2147483648, 2147483651), (2147483649, 2147483651), (0, 4294967295)], 6, [(3, 259, 259), (1, 0, 2147483648), (0, 2147483652, 2147483652), (0, 2147483649, 2147483649), (9, 0, 0), (9, 0, 0)], [(260, 1, (1, 1, 2147483648)), (279, 0, (1, 2, 2147483648)), (279, 1, (1, 3, 2147483648)), (279, 2, (1, 4, 2147483648)), (279, 3, (1, 5, 2147483648))], [], [])
def kb_m0_4 : kd_St := (206, [], 0, [(3, 259, 259), (0, 0, 4294967295), (0, 2147483652, 2147483652), (9, 0, 0), (9, 0, 0), (9, 0, 0)], [], kb_W 4, [])
theorem kb_r0_4 : kd_go kd_ty kd_x130 6 (fun pc iv n AL AS F W => [kb_m0_4].any (kd_arr kd_ty none pc iv n AL AS F W)) (kd_call kd_ty kd_xt (kd_ctl kb_C0) 600 1) (fun _ _ _ _ _ => false) 600 54 kb_s0_4.2.1 kb_s0_4.2.2.1 kb_s0_4.2.2.2.1 [] kb_s0_4.2.2.2.2.1 [] = true := by decide +kernel
theorem kb_b0_4 {g : kc_G} (hg : kc_ok g) : kb_body g 6 0 4 := by
  intro Q hh mv L hw hF hm hr l0 l1 l2 l3 hK
  refine kb_seg (d := 6) (AL0 := [(3, 259, 259), (0, 0, 4294967295), (0, 2147483652, 2147483652), (0, 2147483649, 2147483649), (9, 0, 0), (9, 0, 0)]) (F0 := [(260, 1, (0, 2147483649, 2147483651)), (279, 0, (0, 2147483648, 2147483651)), (279, 1, (0, 2147483648, 2147483651)), (279, 2, (0, 2147483648, 2147483651)), (279, 3, (0, 2147483648, 2147483651))]) (mu := []) (mu2 := []) kd_xk130 (kd_call_r (d0 := 5) hg kd_xt_ok (kd_ctl_r kb_C0 (kd_al_r kb_C0 ⟨kd_hold_le (kd_h122a hg) (by decide), kd_hold_le (kd_h259 hg) (by decide), kd_hold_le (kd_h263 hg) (by decide), trivial⟩)) 1) (by decide +kernel) (by decide +kernel) (by decide +kernel) kb_r0_4 ?_ ?_ hw ?_
  · intro i v hi hk
    match i, hi with
    | 0, hi => obtain rfl := Option.some.inj (show some _ = some v from hi); exact ⟨_, l0, ⟨259, rfl, by decide, by decide⟩⟩
    | 1, hi => obtain rfl := Option.some.inj (show some _ = some v from hi); exact ⟨_, l1, hm⟩
    | 2, hi => obtain rfl := Option.some.inj (show some _ = some v from hi); exact ⟨_, l2, kb_ok (k := 4) (by decide)⟩
    | 3, hi => obtain rfl := Option.some.inj (show some _ = some v from hi); exact ⟨_, l3, kb_ok (k := 1) (by decide)⟩
    | 4, hi => obtain rfl := Option.some.inj (show some _ = some v from hi); exact absurd hk (by decide)
    | 5, hi => obtain rfl := Option.some.inj (show some _ = some v from hi); exact absurd hk (by decide)
    | i + 6, hi => exact absurd (show none = some v from hi) (by simp)
  · intro x hx
    simp only [List.mem_cons, List.not_mem_nil, or_false] at hx
    rcases hx with rfl | rfl | rfl | rfl | rfl
    · exact hF _ (by decide)
    · obtain ⟨v, v1, v2⟩ := hr 0 (by decide)
      show kd_g 0 _ _ (hh 279 0)
      rw [v2]
      exact kx_gof (u := 3) (by omega) (by omega)
    · obtain ⟨v, v1, v2⟩ := hr 1 (by decide)
      show kd_g 0 _ _ (hh 279 1)
      rw [v2]
      exact kx_gof (u := 3) (by omega) (by omega)
    · obtain ⟨v, v1, v2⟩ := hr 2 (by decide)
      show kd_g 0 _ _ (hh 279 2)
      rw [v2]
      exact kx_gof (u := 3) (by omega) (by omega)
    · obtain ⟨v, v1, v2⟩ := hr 3 (by decide)
      show kd_g 0 _ _ (hh 279 3)
      rw [v2]
      exact kx_gof (u := 3) (by omega) (by omega)
  · intro σ L' hh' b1 b2 b3 b4 b5
    obtain ⟨x0, m0, g0⟩ := b2 0 _ rfl rfl
    obtain ⟨x1, m1, z1, rfl, ga, gb⟩ := b2 1 _ rfl rfl
    obtain ⟨x2, m2, g2⟩ := b2 2 _ rfl rfl
    rw [kb_s259 g0] at m0
    rw [kx_ofs (k := 4) (by decide) g2] at m2
    exact hK L' hh' b4 b5 m0 ⟨.inl z1, m1, ⟨z1, rfl, ga, gb⟩⟩ m2
def kb_t0_4 : kd_St := (35, [(0, 4294967295)], 1, [(3, 259, 259), (1, 0, 2147483648), (0, 2147483652, 2147483652), (9, 0, 0), (9, 0, 0), (9, 0, 0)], [], [], [])
def kb_n0_4 : kd_St := (54, [], 0, [(3, 259, 259), (0, 0, 4294967295), (0, 2147483652, 2147483652), (0, 2147483649, 2147483649), (9, 0, 0), (9, 0, 0)], [(259, 35, (0, 2147483652, 2147483652)), (279, 0, (0, 2147483648, 2147483648)), (279, 1, (0, 2147483649, 2147483649)), (279, 2, (0, 2147483650, 2147483650)), (279, 3, (0, 2147483651, 2147483651))], kb_WB, [])
theorem kb_u0_4 : kd_go kd_ty kd_x130 6 (fun pc iv n AL AS F W => [kb_n0_4].any (kd_arr kd_ty none pc iv n AL AS F W)) (kd_call kd_ty kd_xt (kd_ctl []) 600 1) (fun _ _ _ _ _ => false) 600 35 kb_t0_4.2.1 kb_t0_4.2.2.1 kb_t0_4.2.2.2.1 [] [] [] = true := by decide +kernel
theorem kb_g0_4 {g : kc_G} (hg : kc_ok g) : kb_begin g 6 0 4 := by
  intro Q hh mv L hw hm l0 l1 l2 hK
  refine kb_seg (d := 6) (AL0 := [(3, 259, 259), (0, 0, 4294967295), (0, 2147483652, 2147483652), (9, 0, 0), (9, 0, 0), (9, 0, 0)]) (F0 := []) (mu := []) (mu2 := []) kd_xk130 (kd_call_r (d0 := 5) hg kd_xt_ok (kd_ctl_r [] (fun q hq => by cases hq)) 1) (by decide +kernel) (by decide +kernel) (by decide +kernel) kb_u0_4 ?_ (fun q hq => by cases hq) hw ?_
  · intro i v hi hk
    match i, hi with
    | 0, hi => obtain rfl := Option.some.inj (show some _ = some v from hi); exact ⟨_, l0, ⟨259, rfl, by decide, by decide⟩⟩
    | 1, hi => obtain rfl := Option.some.inj (show some _ = some v from hi); exact ⟨_, l1, hm⟩
    | 2, hi => obtain rfl := Option.some.inj (show some _ = some v from hi); exact ⟨_, l2, kb_ok (k := 4) (by decide)⟩
    | 3, hi => obtain rfl := Option.some.inj (show some _ = some v from hi); exact absurd hk (by decide)
    | 4, hi => obtain rfl := Option.some.inj (show some _ = some v from hi); exact absurd hk (by decide)
    | 5, hi => obtain rfl := Option.some.inj (show some _ = some v from hi); exact absurd hk (by decide)
    | i + 6, hi => exact absurd (show none = some v from hi) (by simp)
  · intro σ L' hh' b1 b2 b3 b4 b5
    obtain ⟨x0, m0, g0⟩ := b2 0 _ rfl rfl
    obtain ⟨x1, m1, z1, rfl, ga, gb⟩ := b2 1 _ rfl rfl
    obtain ⟨x2, m2, g2⟩ := b2 2 _ rfl rfl
    obtain ⟨x3, m3, g3⟩ := b2 3 _ rfl rfl
    rw [kb_s259 g0] at m0
    rw [kx_ofs (k := 4) (by decide) g2] at m2
    rw [kx_ofs (k := 1) (by decide) g3] at m3
    exact hK L' hh' b4 b5 m0 ⟨.inl z1, m1, ⟨z1, rfl, ga, gb⟩⟩ m2 m3 (kx_ofs (k := 4) (by decide) (b3 (259, 35, _) (by decide))) (fun j hj => (match j, hj with
      | 0, _ => kx_ofs (k := 0) (by decide) (b3 (279, 0, _) (by decide))
      | 1, _ => kx_ofs (k := 1) (by decide) (b3 (279, 1, _) (by decide))
      | 2, _ => kx_ofs (k := 2) (by decide) (b3 (279, 2, _) (by decide))
      | 3, _ => kx_ofs (k := 3) (by decide) (b3 (279, 3, _) (by decide))
      | j + 4, hj => absurd hj (by omega)))
def kb_s0_5 : kd_St := (54, [(2147483648, 2147483652), (2147483648, 2147483652), (2147483648, 2147483652), (2147483648, 2147483652), (2147483648, 2147483652), (2147483649, 2147483651), (0, 4294967295)], 7, [(3, 259, 259), (1, 0, 2147483648), (0, 2147483653, 2147483653), (0, 2147483649, 2147483649), (9, 0, 0), (9, 0, 0)], [(260, 1, (1, 1, 2147483648)), (279, 0, (1, 2, 2147483648)), (279, 1, (1, 3, 2147483648)), (279, 2, (1, 4, 2147483648)), (279, 3, (1, 5, 2147483648)), (279, 4, (1, 6, 2147483648))], [], [])
def kb_m0_5 : kd_St := (206, [], 0, [(3, 259, 259), (0, 0, 4294967295), (0, 2147483653, 2147483653), (9, 0, 0), (9, 0, 0), (9, 0, 0)], [], kb_W 5, [])
theorem kb_r0_5 : kd_go kd_ty kd_x130 6 (fun pc iv n AL AS F W => [kb_m0_5].any (kd_arr kd_ty none pc iv n AL AS F W)) (kd_call kd_ty kd_xt (kd_ctl kb_C0) 600 1) (fun _ _ _ _ _ => false) 600 54 kb_s0_5.2.1 kb_s0_5.2.2.1 kb_s0_5.2.2.2.1 [] kb_s0_5.2.2.2.2.1 [] = true := by decide +kernel
theorem kb_b0_5 {g : kc_G} (hg : kc_ok g) : kb_body g 6 0 5 := by
  intro Q hh mv L hw hF hm hr l0 l1 l2 l3 hK
  refine kb_seg (d := 6) (AL0 := [(3, 259, 259), (0, 0, 4294967295), (0, 2147483653, 2147483653), (0, 2147483649, 2147483649), (9, 0, 0), (9, 0, 0)]) (F0 := [(260, 1, (0, 2147483649, 2147483651)), (279, 0, (0, 2147483648, 2147483652)), (279, 1, (0, 2147483648, 2147483652)), (279, 2, (0, 2147483648, 2147483652)), (279, 3, (0, 2147483648, 2147483652)), (279, 4, (0, 2147483648, 2147483652))]) (mu := []) (mu2 := []) kd_xk130 (kd_call_r (d0 := 5) hg kd_xt_ok (kd_ctl_r kb_C0 (kd_al_r kb_C0 ⟨kd_hold_le (kd_h122a hg) (by decide), kd_hold_le (kd_h259 hg) (by decide), kd_hold_le (kd_h263 hg) (by decide), trivial⟩)) 1) (by decide +kernel) (by decide +kernel) (by decide +kernel) kb_r0_5 ?_ ?_ hw ?_
  · intro i v hi hk
    match i, hi with
    | 0, hi => obtain rfl := Option.some.inj (show some _ = some v from hi); exact ⟨_, l0, ⟨259, rfl, by decide, by decide⟩⟩
    | 1, hi => obtain rfl := Option.some.inj (show some _ = some v from hi); exact ⟨_, l1, hm⟩
    | 2, hi => obtain rfl := Option.some.inj (show some _ = some v from hi); exact ⟨_, l2, kb_ok (k := 5) (by decide)⟩
    | 3, hi => obtain rfl := Option.some.inj (show some _ = some v from hi); exact ⟨_, l3, kb_ok (k := 1) (by decide)⟩
    | 4, hi => obtain rfl := Option.some.inj (show some _ = some v from hi); exact absurd hk (by decide)
    | 5, hi => obtain rfl := Option.some.inj (show some _ = some v from hi); exact absurd hk (by decide)
    | i + 6, hi => exact absurd (show none = some v from hi) (by simp)
  · intro x hx
    simp only [List.mem_cons, List.not_mem_nil, or_false] at hx
    rcases hx with rfl | rfl | rfl | rfl | rfl | rfl
    · exact hF _ (by decide)
    · obtain ⟨v, v1, v2⟩ := hr 0 (by decide)
      show kd_g 0 _ _ (hh 279 0)
      rw [v2]
      exact kx_gof (u := 4) (by omega) (by omega)
    · obtain ⟨v, v1, v2⟩ := hr 1 (by decide)
      show kd_g 0 _ _ (hh 279 1)
      rw [v2]
      exact kx_gof (u := 4) (by omega) (by omega)
    · obtain ⟨v, v1, v2⟩ := hr 2 (by decide)
      show kd_g 0 _ _ (hh 279 2)
      rw [v2]
      exact kx_gof (u := 4) (by omega) (by omega)
    · obtain ⟨v, v1, v2⟩ := hr 3 (by decide)
      show kd_g 0 _ _ (hh 279 3)
      rw [v2]
      exact kx_gof (u := 4) (by omega) (by omega)
    · obtain ⟨v, v1, v2⟩ := hr 4 (by decide)
      show kd_g 0 _ _ (hh 279 4)
      rw [v2]
      exact kx_gof (u := 4) (by omega) (by omega)
  · intro σ L' hh' b1 b2 b3 b4 b5
    obtain ⟨x0, m0, g0⟩ := b2 0 _ rfl rfl
    obtain ⟨x1, m1, z1, rfl, ga, gb⟩ := b2 1 _ rfl rfl
    obtain ⟨x2, m2, g2⟩ := b2 2 _ rfl rfl
    rw [kb_s259 g0] at m0
    rw [kx_ofs (k := 5) (by decide) g2] at m2
    exact hK L' hh' b4 b5 m0 ⟨.inl z1, m1, ⟨z1, rfl, ga, gb⟩⟩ m2
def kb_t0_5 : kd_St := (35, [(0, 4294967295)], 1, [(3, 259, 259), (1, 0, 2147483648), (0, 2147483653, 2147483653), (9, 0, 0), (9, 0, 0), (9, 0, 0)], [], [], [])
def kb_n0_5 : kd_St := (54, [], 0, [(3, 259, 259), (0, 0, 4294967295), (0, 2147483653, 2147483653), (0, 2147483649, 2147483649), (9, 0, 0), (9, 0, 0)], [(259, 35, (0, 2147483653, 2147483653)), (279, 0, (0, 2147483648, 2147483648)), (279, 1, (0, 2147483649, 2147483649)), (279, 2, (0, 2147483650, 2147483650)), (279, 3, (0, 2147483651, 2147483651)), (279, 4, (0, 2147483652, 2147483652))], kb_WB, [])
theorem kb_u0_5 : kd_go kd_ty kd_x130 6 (fun pc iv n AL AS F W => [kb_n0_5].any (kd_arr kd_ty none pc iv n AL AS F W)) (kd_call kd_ty kd_xt (kd_ctl []) 600 1) (fun _ _ _ _ _ => false) 600 35 kb_t0_5.2.1 kb_t0_5.2.2.1 kb_t0_5.2.2.2.1 [] [] [] = true := by decide +kernel
theorem kb_g0_5 {g : kc_G} (hg : kc_ok g) : kb_begin g 6 0 5 := by
  intro Q hh mv L hw hm l0 l1 l2 hK
  refine kb_seg (d := 6) (AL0 := [(3, 259, 259), (0, 0, 4294967295), (0, 2147483653, 2147483653), (9, 0, 0), (9, 0, 0), (9, 0, 0)]) (F0 := []) (mu := []) (mu2 := []) kd_xk130 (kd_call_r (d0 := 5) hg kd_xt_ok (kd_ctl_r [] (fun q hq => by cases hq)) 1) (by decide +kernel) (by decide +kernel) (by decide +kernel) kb_u0_5 ?_ (fun q hq => by cases hq) hw ?_
  · intro i v hi hk
    match i, hi with
    | 0, hi => obtain rfl := Option.some.inj (show some _ = some v from hi); exact ⟨_, l0, ⟨259, rfl, by decide, by decide⟩⟩
    | 1, hi => obtain rfl := Option.some.inj (show some _ = some v from hi); exact ⟨_, l1, hm⟩
    | 2, hi => obtain rfl := Option.some.inj (show some _ = some v from hi); exact ⟨_, l2, kb_ok (k := 5) (by decide)⟩
    | 3, hi => obtain rfl := Option.some.inj (show some _ = some v from hi); exact absurd hk (by decide)
    | 4, hi => obtain rfl := Option.some.inj (show some _ = some v from hi); exact absurd hk (by decide)
    | 5, hi => obtain rfl := Option.some.inj (show some _ = some v from hi); exact absurd hk (by decide)
    | i + 6, hi => exact absurd (show none = some v from hi) (by simp)
  · intro σ L' hh' b1 b2 b3 b4 b5
    obtain ⟨x0, m0, g0⟩ := b2 0 _ rfl rfl
    obtain ⟨x1, m1, z1, rfl, ga, gb⟩ := b2 1 _ rfl rfl
    obtain ⟨x2, m2, g2⟩ := b2 2 _ rfl rfl
    obtain ⟨x3, m3, g3⟩ := b2 3 _ rfl rfl
    rw [kb_s259 g0] at m0
    rw [kx_ofs (k := 5) (by decide) g2] at m2
    rw [kx_ofs (k := 1) (by decide) g3] at m3
    exact hK L' hh' b4 b5 m0 ⟨.inl z1, m1, ⟨z1, rfl, ga, gb⟩⟩ m2 m3 (kx_ofs (k := 5) (by decide) (b3 (259, 35, _) (by decide))) (fun j hj => (match j, hj with
      | 0, _ => kx_ofs (k := 0) (by decide) (b3 (279, 0, _) (by decide))
      | 1, _ => kx_ofs (k := 1) (by decide) (b3 (279, 1, _) (by decide))
      | 2, _ => kx_ofs (k := 2) (by decide) (b3 (279, 2, _) (by decide))
      | 3, _ => kx_ofs (k := 3) (by decide) (b3 (279, 3, _) (by decide))
      | 4, _ => kx_ofs (k := 4) (by decide) (b3 (279, 4, _) (by decide))
      | j + 5, hj => absurd hj (by omega)))
def kb_C1 : List (Nat × kd_Tc) := [(122, kd_T122b), (259, kd_T259), (263, kd_T263)]
def kb_s1_0 : kd_St := (54, [(0, 4294967295)], 1, [(3, 259, 259), (1, 0, 2147483648), (0, 2147483648, 2147483648), (0, 2147483649, 2147483649), (9, 0, 0), (9, 0, 0)], [(260, 2, (0, 2147483648, 2147483648)), (260, 1, (0, 2147483648, 2147483648))], [], [])
def kb_m1_0 : kd_St := (206, [], 0, [(3, 259, 259), (0, 0, 4294967295), (0, 2147483648, 2147483648), (9, 0, 0), (9, 0, 0), (9, 0, 0)], [], kb_W 0, [])
theorem kb_r1_0 : kd_go kd_ty kd_x130 6 (fun pc iv n AL AS F W => [kb_m1_0].any (kd_arr kd_ty none pc iv n AL AS F W)) (kd_call kd_ty kd_xt (kd_ctl kb_C1) 600 1) (fun _ _ _ _ _ => false) 600 54 kb_s1_0.2.1 kb_s1_0.2.2.1 kb_s1_0.2.2.2.1 [] kb_s1_0.2.2.2.2.1 [] = true := by decide +kernel
theorem kb_b1_0 {g : kc_G} (hg : kc_ok g) : kb_body g 6 1 0 := by
  intro Q hh mv L hw hF hm hr l0 l1 l2 l3 hK
  refine kb_seg (d := 6) (AL0 := [(3, 259, 259), (0, 0, 4294967295), (0, 2147483648, 2147483648), (0, 2147483649, 2147483649), (9, 0, 0), (9, 0, 0)]) (F0 := [(260, 2, (0, 2147483648, 2147483648)), (260, 1, (0, 2147483648, 2147483648))]) (mu := []) (mu2 := []) kd_xk130 (kd_call_r (d0 := 5) hg kd_xt_ok (kd_ctl_r kb_C1 (kd_al_r kb_C1 ⟨kd_hold_le (kd_h122b hg) (by decide), kd_hold_le (kd_h259 hg) (by decide), kd_hold_le (kd_h263 hg) (by decide), trivial⟩)) 1) (by decide +kernel) (by decide +kernel) (by decide +kernel) kb_r1_0 ?_ ?_ hw ?_
  · intro i v hi hk
    match i, hi with
    | 0, hi => obtain rfl := Option.some.inj (show some _ = some v from hi); exact ⟨_, l0, ⟨259, rfl, by decide, by decide⟩⟩
    | 1, hi => obtain rfl := Option.some.inj (show some _ = some v from hi); exact ⟨_, l1, hm⟩
    | 2, hi => obtain rfl := Option.some.inj (show some _ = some v from hi); exact ⟨_, l2, kb_ok (k := 0) (by decide)⟩
    | 3, hi => obtain rfl := Option.some.inj (show some _ = some v from hi); exact ⟨_, l3, kb_ok (k := 1) (by decide)⟩
    | 4, hi => obtain rfl := Option.some.inj (show some _ = some v from hi); exact absurd hk (by decide)
    | 5, hi => obtain rfl := Option.some.inj (show some _ = some v from hi); exact absurd hk (by decide)
    | i + 6, hi => exact absurd (show none = some v from hi) (by simp)
  · intro x hx
    simp only [List.mem_cons, List.not_mem_nil, or_false] at hx
    rcases hx with rfl | rfl
    · exact hF _ (by decide)
    · exact hF _ (by decide)
  · intro σ L' hh' b1 b2 b3 b4 b5
    obtain ⟨x0, m0, g0⟩ := b2 0 _ rfl rfl
    obtain ⟨x1, m1, z1, rfl, ga, gb⟩ := b2 1 _ rfl rfl
    obtain ⟨x2, m2, g2⟩ := b2 2 _ rfl rfl
    rw [kb_s259 g0] at m0
    rw [kx_ofs (k := 0) (by decide) g2] at m2
    exact hK L' hh' b4 b5 m0 ⟨.inl z1, m1, ⟨z1, rfl, ga, gb⟩⟩ m2
def kb_t1_0 : kd_St := (35, [(0, 4294967295)], 1, [(3, 259, 259), (1, 0, 2147483648), (0, 2147483648, 2147483648), (9, 0, 0), (9, 0, 0), (9, 0, 0)], [], [], [])
def kb_n1_0 : kd_St := (54, [], 0, [(3, 259, 259), (0, 0, 4294967295), (0, 2147483648, 2147483648), (0, 2147483649, 2147483649), (9, 0, 0), (9, 0, 0)], [(259, 35, (0, 2147483648, 2147483648))], kb_WB, [])
theorem kb_u1_0 : kd_go kd_ty kd_x130 6 (fun pc iv n AL AS F W => [kb_n1_0].any (kd_arr kd_ty none pc iv n AL AS F W)) (kd_call kd_ty kd_xt (kd_ctl []) 600 1) (fun _ _ _ _ _ => false) 600 35 kb_t1_0.2.1 kb_t1_0.2.2.1 kb_t1_0.2.2.2.1 [] [] [] = true := by decide +kernel
theorem kb_g1_0 {g : kc_G} (hg : kc_ok g) : kb_begin g 6 1 0 := by
  intro Q hh mv L hw hm l0 l1 l2 hK
  refine kb_seg (d := 6) (AL0 := [(3, 259, 259), (0, 0, 4294967295), (0, 2147483648, 2147483648), (9, 0, 0), (9, 0, 0), (9, 0, 0)]) (F0 := []) (mu := []) (mu2 := []) kd_xk130 (kd_call_r (d0 := 5) hg kd_xt_ok (kd_ctl_r [] (fun q hq => by cases hq)) 1) (by decide +kernel) (by decide +kernel) (by decide +kernel) kb_u1_0 ?_ (fun q hq => by cases hq) hw ?_
  · intro i v hi hk
    match i, hi with
    | 0, hi => obtain rfl := Option.some.inj (show some _ = some v from hi); exact ⟨_, l0, ⟨259, rfl, by decide, by decide⟩⟩
    | 1, hi => obtain rfl := Option.some.inj (show some _ = some v from hi); exact ⟨_, l1, hm⟩
    | 2, hi => obtain rfl := Option.some.inj (show some _ = some v from hi); exact ⟨_, l2, kb_ok (k := 0) (by decide)⟩
    | 3, hi => obtain rfl := Option.some.inj (show some _ = some v from hi); exact absurd hk (by decide)
    | 4, hi => obtain rfl := Option.some.inj (show some _ = some v from hi); exact absurd hk (by decide)
    | 5, hi => obtain rfl := Option.some.inj (show some _ = some v from hi); exact absurd hk (by decide)
    | i + 6, hi => exact absurd (show none = some v from hi) (by simp)
  · intro σ L' hh' b1 b2 b3 b4 b5
    obtain ⟨x0, m0, g0⟩ := b2 0 _ rfl rfl
    obtain ⟨x1, m1, z1, rfl, ga, gb⟩ := b2 1 _ rfl rfl
    obtain ⟨x2, m2, g2⟩ := b2 2 _ rfl rfl
    obtain ⟨x3, m3, g3⟩ := b2 3 _ rfl rfl
    rw [kb_s259 g0] at m0
    rw [kx_ofs (k := 0) (by decide) g2] at m2
    rw [kx_ofs (k := 1) (by decide) g3] at m3
    exact hK L' hh' b4 b5 m0 ⟨.inl z1, m1, ⟨z1, rfl, ga, gb⟩⟩ m2 m3 (kx_ofs (k := 0) (by decide) (b3 (259, 35, _) (by decide))) (fun j hj => absurd hj (by omega))
def kb_s1_1 : kd_St := (54, [(0, 4294967295)], 1, [(3, 259, 259), (1, 0, 2147483648), (0, 2147483649, 2147483649), (0, 2147483649, 2147483649), (9, 0, 0), (9, 0, 0)], [(260, 2, (0, 2147483648, 2147483648)), (260, 1, (0, 2147483648, 2147483648)), (279, 0, (0, 2147483648, 2147483648))], [], [])
def kb_m1_1 : kd_St := (206, [], 0, [(3, 259, 259), (0, 0, 4294967295), (0, 2147483649, 2147483649), (9, 0, 0), (9, 0, 0), (9, 0, 0)], [], kb_W 1, [])
theorem kb_r1_1 : kd_go kd_ty kd_x130 6 (fun pc iv n AL AS F W => [kb_m1_1].any (kd_arr kd_ty none pc iv n AL AS F W)) (kd_call kd_ty kd_xt (kd_ctl kb_C1) 600 1) (fun _ _ _ _ _ => false) 600 54 kb_s1_1.2.1 kb_s1_1.2.2.1 kb_s1_1.2.2.2.1 [] kb_s1_1.2.2.2.2.1 [] = true := by decide +kernel
theorem kb_b1_1 {g : kc_G} (hg : kc_ok g) : kb_body g 6 1 1 := by
  intro Q hh mv L hw hF hm hr l0 l1 l2 l3 hK
  refine kb_seg (d := 6) (AL0 := [(3, 259, 259), (0, 0, 4294967295), (0, 2147483649, 2147483649), (0, 2147483649, 2147483649), (9, 0, 0), (9, 0, 0)]) (F0 := [(260, 2, (0, 2147483648, 2147483648)), (260, 1, (0, 2147483648, 2147483648)), (279, 0, (0, 2147483648, 2147483648))]) (mu := []) (mu2 := []) kd_xk130 (kd_call_r (d0 := 5) hg kd_xt_ok (kd_ctl_r kb_C1 (kd_al_r kb_C1 ⟨kd_hold_le (kd_h122b hg) (by decide), kd_hold_le (kd_h259 hg) (by decide), kd_hold_le (kd_h263 hg) (by decide), trivial⟩)) 1) (by decide +kernel) (by decide +kernel) (by decide +kernel) kb_r1_1 ?_ ?_ hw ?_
  · intro i v hi hk
    match i, hi with
    | 0, hi => obtain rfl := Option.some.inj (show some _ = some v from hi); exact ⟨_, l0, ⟨259, rfl, by decide, by decide⟩⟩
    | 1, hi => obtain rfl := Option.some.inj (show some _ = some v from hi); exact ⟨_, l1, hm⟩
    | 2, hi => obtain rfl := Option.some.inj (show some _ = some v from hi); exact ⟨_, l2, kb_ok (k := 1) (by decide)⟩
    | 3, hi => obtain rfl := Option.some.inj (show some _ = some v from hi); exact ⟨_, l3, kb_ok (k := 1) (by decide)⟩
    | 4, hi => obtain rfl := Option.some.inj (show some _ = some v from hi); exact absurd hk (by decide)
    | 5, hi => obtain rfl := Option.some.inj (show some _ = some v from hi); exact absurd hk (by decide)
    | i + 6, hi => exact absurd (show none = some v from hi) (by simp)
  · intro x hx
    simp only [List.mem_cons, List.not_mem_nil, or_false] at hx
    rcases hx with rfl | rfl | rfl
    · exact hF _ (by decide)
    · exact hF _ (by decide)
    · obtain ⟨v, v1, v2⟩ := hr 0 (by decide)
      show kd_g 0 _ _ (hh 279 0)
      rw [v2]
      exact kx_gof (u := 0) (by omega) (by omega)
  · intro σ L' hh' b1 b2 b3 b4 b5
    obtain ⟨x0, m0, g0⟩ := b2 0 _ rfl rfl
    obtain ⟨x1, m1, z1, rfl, ga, gb⟩ := b2 1 _ rfl rfl
    obtain ⟨x2, m2, g2⟩ := b2 2 _ rfl rfl
    rw [kb_s259 g0] at m0
    rw [kx_ofs (k := 1) (by decide) g2] at m2
    exact hK L' hh' b4 b5 m0 ⟨.inl z1, m1, ⟨z1, rfl, ga, gb⟩⟩ m2
def kb_t1_1 : kd_St := (35, [(0, 4294967295)], 1, [(3, 259, 259), (1, 0, 2147483648), (0, 2147483649, 2147483649), (9, 0, 0), (9, 0, 0), (9, 0, 0)], [], [], [])
def kb_n1_1 : kd_St := (54, [], 0, [(3, 259, 259), (0, 0, 4294967295), (0, 2147483649, 2147483649), (0, 2147483649, 2147483649), (9, 0, 0), (9, 0, 0)], [(259, 35, (0, 2147483649, 2147483649)), (279, 0, (0, 2147483648, 2147483648))], kb_WB, [])
theorem kb_u1_1 : kd_go kd_ty kd_x130 6 (fun pc iv n AL AS F W => [kb_n1_1].any (kd_arr kd_ty none pc iv n AL AS F W)) (kd_call kd_ty kd_xt (kd_ctl []) 600 1) (fun _ _ _ _ _ => false) 600 35 kb_t1_1.2.1 kb_t1_1.2.2.1 kb_t1_1.2.2.2.1 [] [] [] = true := by decide +kernel
theorem kb_g1_1 {g : kc_G} (hg : kc_ok g) : kb_begin g 6 1 1 := by
  intro Q hh mv L hw hm l0 l1 l2 hK
  refine kb_seg (d := 6) (AL0 := [(3, 259, 259), (0, 0, 4294967295), (0, 2147483649, 2147483649), (9, 0, 0), (9, 0, 0), (9, 0, 0)]) (F0 := []) (mu := []) (mu2 := []) kd_xk130 (kd_call_r (d0 := 5) hg kd_xt_ok (kd_ctl_r [] (fun q hq => by cases hq)) 1) (by decide +kernel) (by decide +kernel) (by decide +kernel) kb_u1_1 ?_ (fun q hq => by cases hq) hw ?_
  · intro i v hi hk
    match i, hi with
    | 0, hi => obtain rfl := Option.some.inj (show some _ = some v from hi); exact ⟨_, l0, ⟨259, rfl, by decide, by decide⟩⟩
    | 1, hi => obtain rfl := Option.some.inj (show some _ = some v from hi); exact ⟨_, l1, hm⟩
    | 2, hi => obtain rfl := Option.some.inj (show some _ = some v from hi); exact ⟨_, l2, kb_ok (k := 1) (by decide)⟩
    | 3, hi => obtain rfl := Option.some.inj (show some _ = some v from hi); exact absurd hk (by decide)
    | 4, hi => obtain rfl := Option.some.inj (show some _ = some v from hi); exact absurd hk (by decide)
    | 5, hi => obtain rfl := Option.some.inj (show some _ = some v from hi); exact absurd hk (by decide)
    | i + 6, hi => exact absurd (show none = some v from hi) (by simp)
  · intro σ L' hh' b1 b2 b3 b4 b5
    obtain ⟨x0, m0, g0⟩ := b2 0 _ rfl rfl
    obtain ⟨x1, m1, z1, rfl, ga, gb⟩ := b2 1 _ rfl rfl
    obtain ⟨x2, m2, g2⟩ := b2 2 _ rfl rfl
    obtain ⟨x3, m3, g3⟩ := b2 3 _ rfl rfl
    rw [kb_s259 g0] at m0
    rw [kx_ofs (k := 1) (by decide) g2] at m2
    rw [kx_ofs (k := 1) (by decide) g3] at m3
    exact hK L' hh' b4 b5 m0 ⟨.inl z1, m1, ⟨z1, rfl, ga, gb⟩⟩ m2 m3 (kx_ofs (k := 1) (by decide) (b3 (259, 35, _) (by decide))) (fun j hj => (match j, hj with
      | 0, _ => kx_ofs (k := 0) (by decide) (b3 (279, 0, _) (by decide))
      | j + 1, hj => absurd hj (by omega)))
def kb_s1_2 : kd_St := (54, [(2147483648, 2147483649), (2147483648, 2147483649), (0, 4294967295)], 3, [(3, 259, 259), (1, 0, 2147483648), (0, 2147483650, 2147483650), (0, 2147483649, 2147483649), (9, 0, 0), (9, 0, 0)], [(260, 2, (0, 2147483648, 2147483648)), (260, 1, (0, 2147483648, 2147483648)), (279, 0, (1, 1, 2147483648)), (279, 1, (1, 2, 2147483648))], [], [])
def kb_m1_2 : kd_St := (206, [], 0, [(3, 259, 259), (0, 0, 4294967295), (0, 2147483650, 2147483650), (9, 0, 0), (9, 0, 0), (9, 0, 0)], [], kb_W 2, [])
theorem kb_r1_2 : kd_go kd_ty kd_x130 6 (fun pc iv n AL AS F W => [kb_m1_2].any (kd_arr kd_ty none pc iv n AL AS F W)) (kd_call kd_ty kd_xt (kd_ctl kb_C1) 600 1) (fun _ _ _ _ _ => false) 600 54 kb_s1_2.2.1 kb_s1_2.2.2.1 kb_s1_2.2.2.2.1 [] kb_s1_2.2.2.2.2.1 [] = true := by decide +kernel
theorem kb_b1_2 {g : kc_G} (hg : kc_ok g) : kb_body g 6 1 2 := by
  intro Q hh mv L hw hF hm hr l0 l1 l2 l3 hK
  refine kb_seg (d := 6) (AL0 := [(3, 259, 259), (0, 0, 4294967295), (0, 2147483650, 2147483650), (0, 2147483649, 2147483649), (9, 0, 0), (9, 0, 0)]) (F0 := [(260, 2, (0, 2147483648, 2147483648)), (260, 1, (0, 2147483648, 2147483648)), (279, 0, (0, 2147483648, 2147483649)), (279, 1, (0, 2147483648, 2147483649))]) (mu := []) (mu2 := []) kd_xk130 (kd_call_r (d0 := 5) hg kd_xt_ok (kd_ctl_r kb_C1 (kd_al_r kb_C1 ⟨kd_hold_le (kd_h122b hg) (by decide), kd_hold_le (kd_h259 hg) (by decide), kd_hold_le (kd_h263 hg) (by decide), trivial⟩)) 1) (by decide +kernel) (by decide +kernel) (by decide +kernel) kb_r1_2 ?_ ?_ hw ?_
  · intro i v hi hk
    match i, hi with
    | 0, hi => obtain rfl := Option.some.inj (show some _ = some v from hi); exact ⟨_, l0, ⟨259, rfl, by decide, by decide⟩⟩
    | 1, hi => obtain rfl := Option.some.inj (show some _ = some v from hi); exact ⟨_, l1, hm⟩
    | 2, hi => obtain rfl := Option.some.inj (show some _ = some v from hi); exact ⟨_, l2, kb_ok (k := 2) (by decide)⟩
    | 3, hi => obtain rfl := Option.some.inj (show some _ = some v from hi); exact ⟨_, l3, kb_ok (k := 1) (by decide)⟩
    | 4, hi => obtain rfl := Option.some.inj (show some _ = some v from hi); exact absurd hk (by decide)
    | 5, hi => obtain rfl := Option.some.inj (show some _ = some v from hi); exact absurd hk (by decide)
    | i + 6, hi => exact absurd (show none = some v from hi) (by simp)
  · intro x hx
    simp only [List.mem_cons, List.not_mem_nil, or_false] at hx
    rcases hx with rfl | rfl | rfl | rfl
    · exact hF _ (by decide)
    · exact hF _ (by decide)
    · obtain ⟨v, v1, v2⟩ := hr 0 (by decide)
      show kd_g 0 _ _ (hh 279 0)
      rw [v2]
      exact kx_gof (u := 1) (by omega) (by omega)
    · obtain ⟨v, v1, v2⟩ := hr 1 (by decide)
      show kd_g 0 _ _ (hh 279 1)
      rw [v2]
      exact kx_gof (u := 1) (by omega) (by omega)
  · intro σ L' hh' b1 b2 b3 b4 b5
    obtain ⟨x0, m0, g0⟩ := b2 0 _ rfl rfl
    obtain ⟨x1, m1, z1, rfl, ga, gb⟩ := b2 1 _ rfl rfl
    obtain ⟨x2, m2, g2⟩ := b2 2 _ rfl rfl
    rw [kb_s259 g0] at m0
    rw [kx_ofs (k := 2) (by decide) g2] at m2
    exact hK L' hh' b4 b5 m0 ⟨.inl z1, m1, ⟨z1, rfl, ga, gb⟩⟩ m2
def kb_t1_2 : kd_St := (35, [(0, 4294967295)], 1, [(3, 259, 259), (1, 0, 2147483648), (0, 2147483650, 2147483650), (9, 0, 0), (9, 0, 0), (9, 0, 0)], [], [], [])
def kb_n1_2 : kd_St := (54, [], 0, [(3, 259, 259), (0, 0, 4294967295), (0, 2147483650, 2147483650), (0, 2147483649, 2147483649), (9, 0, 0), (9, 0, 0)], [(259, 35, (0, 2147483650, 2147483650)), (279, 0, (0, 2147483648, 2147483648)), (279, 1, (0, 2147483649, 2147483649))], kb_WB, [])
theorem kb_u1_2 : kd_go kd_ty kd_x130 6 (fun pc iv n AL AS F W => [kb_n1_2].any (kd_arr kd_ty none pc iv n AL AS F W)) (kd_call kd_ty kd_xt (kd_ctl []) 600 1) (fun _ _ _ _ _ => false) 600 35 kb_t1_2.2.1 kb_t1_2.2.2.1 kb_t1_2.2.2.2.1 [] [] [] = true := by decide +kernel
theorem kb_g1_2 {g : kc_G} (hg : kc_ok g) : kb_begin g 6 1 2 := by
  intro Q hh mv L hw hm l0 l1 l2 hK
  refine kb_seg (d := 6) (AL0 := [(3, 259, 259), (0, 0, 4294967295), (0, 2147483650, 2147483650), (9, 0, 0), (9, 0, 0), (9, 0, 0)]) (F0 := []) (mu := []) (mu2 := []) kd_xk130 (kd_call_r (d0 := 5) hg kd_xt_ok (kd_ctl_r [] (fun q hq => by cases hq)) 1) (by decide +kernel) (by decide +kernel) (by decide +kernel) kb_u1_2 ?_ (fun q hq => by cases hq) hw ?_
  · intro i v hi hk
    match i, hi with
    | 0, hi => obtain rfl := Option.some.inj (show some _ = some v from hi); exact ⟨_, l0, ⟨259, rfl, by decide, by decide⟩⟩
    | 1, hi => obtain rfl := Option.some.inj (show some _ = some v from hi); exact ⟨_, l1, hm⟩
    | 2, hi => obtain rfl := Option.some.inj (show some _ = some v from hi); exact ⟨_, l2, kb_ok (k := 2) (by decide)⟩
    | 3, hi => obtain rfl := Option.some.inj (show some _ = some v from hi); exact absurd hk (by decide)
    | 4, hi => obtain rfl := Option.some.inj (show some _ = some v from hi); exact absurd hk (by decide)
    | 5, hi => obtain rfl := Option.some.inj (show some _ = some v from hi); exact absurd hk (by decide)
    | i + 6, hi => exact absurd (show none = some v from hi) (by simp)
  · intro σ L' hh' b1 b2 b3 b4 b5
    obtain ⟨x0, m0, g0⟩ := b2 0 _ rfl rfl
    obtain ⟨x1, m1, z1, rfl, ga, gb⟩ := b2 1 _ rfl rfl
    obtain ⟨x2, m2, g2⟩ := b2 2 _ rfl rfl
    obtain ⟨x3, m3, g3⟩ := b2 3 _ rfl rfl
    rw [kb_s259 g0] at m0
    rw [kx_ofs (k := 2) (by decide) g2] at m2
    rw [kx_ofs (k := 1) (by decide) g3] at m3
    exact hK L' hh' b4 b5 m0 ⟨.inl z1, m1, ⟨z1, rfl, ga, gb⟩⟩ m2 m3 (kx_ofs (k := 2) (by decide) (b3 (259, 35, _) (by decide))) (fun j hj => (match j, hj with
      | 0, _ => kx_ofs (k := 0) (by decide) (b3 (279, 0, _) (by decide))
      | 1, _ => kx_ofs (k := 1) (by decide) (b3 (279, 1, _) (by decide))
      | j + 2, hj => absurd hj (by omega)))
def kb_s1_3 : kd_St := (54, [(2147483648, 2147483650), (2147483648, 2147483650), (2147483648, 2147483650), (0, 4294967295)], 4, [(3, 259, 259), (1, 0, 2147483648), (0, 2147483651, 2147483651), (0, 2147483649, 2147483649), (9, 0, 0), (9, 0, 0)], [(260, 2, (0, 2147483648, 2147483648)), (260, 1, (0, 2147483648, 2147483648)), (279, 0, (1, 1, 2147483648)), (279, 1, (1, 2, 2147483648)), (279, 2, (1, 3, 2147483648))], [], [])
def kb_m1_3 : kd_St := (206, [], 0, [(3, 259, 259), (0, 0, 4294967295), (0, 2147483651, 2147483651), (9, 0, 0), (9, 0, 0), (9, 0, 0)], [], kb_W 3, [])
theorem kb_r1_3 : kd_go kd_ty kd_x130 6 (fun pc iv n AL AS F W => [kb_m1_3].any (kd_arr kd_ty none pc iv n AL AS F W)) (kd_call kd_ty kd_xt (kd_ctl kb_C1) 600 1) (fun _ _ _ _ _ => false) 600 54 kb_s1_3.2.1 kb_s1_3.2.2.1 kb_s1_3.2.2.2.1 [] kb_s1_3.2.2.2.2.1 [] = true := by decide +kernel
theorem kb_b1_3 {g : kc_G} (hg : kc_ok g) : kb_body g 6 1 3 := by
  intro Q hh mv L hw hF hm hr l0 l1 l2 l3 hK
  refine kb_seg (d := 6) (AL0 := [(3, 259, 259), (0, 0, 4294967295), (0, 2147483651, 2147483651), (0, 2147483649, 2147483649), (9, 0, 0), (9, 0, 0)]) (F0 := [(260, 2, (0, 2147483648, 2147483648)), (260, 1, (0, 2147483648, 2147483648)), (279, 0, (0, 2147483648, 2147483650)), (279, 1, (0, 2147483648, 2147483650)), (279, 2, (0, 2147483648, 2147483650))]) (mu := []) (mu2 := []) kd_xk130 (kd_call_r (d0 := 5) hg kd_xt_ok (kd_ctl_r kb_C1 (kd_al_r kb_C1 ⟨kd_hold_le (kd_h122b hg) (by decide), kd_hold_le (kd_h259 hg) (by decide), kd_hold_le (kd_h263 hg) (by decide), trivial⟩)) 1) (by decide +kernel) (by decide +kernel) (by decide +kernel) kb_r1_3 ?_ ?_ hw ?_
  · intro i v hi hk
    match i, hi with
    | 0, hi => obtain rfl := Option.some.inj (show some _ = some v from hi); exact ⟨_, l0, ⟨259, rfl, by decide, by decide⟩⟩
    | 1, hi => obtain rfl := Option.some.inj (show some _ = some v from hi); exact ⟨_, l1, hm⟩
    | 2, hi => obtain rfl := Option.some.inj (show some _ = some v from hi); exact ⟨_, l2, kb_ok (k := 3) (by decide)⟩
    | 3, hi => obtain rfl := Option.some.inj (show some _ = some v from hi); exact ⟨_, l3, kb_ok (k := 1) (by decide)⟩
    | 4, hi => obtain rfl := Option.some.inj (show some _ = some v from hi); exact absurd hk (by decide)
    | 5, hi => obtain rfl := Option.some.inj (show some _ = some v from hi); exact absurd hk (by decide)
    | i + 6, hi => exact absurd (show none = some v from hi) (by simp)
  · intro x hx
    simp only [List.mem_cons, List.not_mem_nil, or_false] at hx
    rcases hx with rfl | rfl | rfl | rfl | rfl
    · exact hF _ (by decide)
    · exact hF _ (by decide)
    · obtain ⟨v, v1, v2⟩ := hr 0 (by decide)
      show kd_g 0 _ _ (hh 279 0)
      rw [v2]
      exact kx_gof (u := 2) (by omega) (by omega)
    · obtain ⟨v, v1, v2⟩ := hr 1 (by decide)
      show kd_g 0 _ _ (hh 279 1)
      rw [v2]
      exact kx_gof (u := 2) (by omega) (by omega)
    · obtain ⟨v, v1, v2⟩ := hr 2 (by decide)
      show kd_g 0 _ _ (hh 279 2)
      rw [v2]
      exact kx_gof (u := 2) (by omega) (by omega)
  · intro σ L' hh' b1 b2 b3 b4 b5
    obtain ⟨x0, m0, g0⟩ := b2 0 _ rfl rfl
    obtain ⟨x1, m1, z1, rfl, ga, gb⟩ := b2 1 _ rfl rfl
    obtain ⟨x2, m2, g2⟩ := b2 2 _ rfl rfl
    rw [kb_s259 g0] at m0
    rw [kx_ofs (k := 3) (by decide) g2] at m2
    exact hK L' hh' b4 b5 m0 ⟨.inl z1, m1, ⟨z1, rfl, ga, gb⟩⟩ m2
def kb_t1_3 : kd_St := (35, [(0, 4294967295)], 1, [(3, 259, 259), (1, 0, 2147483648), (0, 2147483651, 2147483651), (9, 0, 0), (9, 0, 0), (9, 0, 0)], [], [], [])
def kb_n1_3 : kd_St := (54, [], 0, [(3, 259, 259), (0, 0, 4294967295), (0, 2147483651, 2147483651), (0, 2147483649, 2147483649), (9, 0, 0), (9, 0, 0)], [(259, 35, (0, 2147483651, 2147483651)), (279, 0, (0, 2147483648, 2147483648)), (279, 1, (0, 2147483649, 2147483649)), (279, 2, (0, 2147483650, 2147483650))], kb_WB, [])
theorem kb_u1_3 : kd_go kd_ty kd_x130 6 (fun pc iv n AL AS F W => [kb_n1_3].any (kd_arr kd_ty none pc iv n AL AS F W)) (kd_call kd_ty kd_xt (kd_ctl []) 600 1) (fun _ _ _ _ _ => false) 600 35 kb_t1_3.2.1 kb_t1_3.2.2.1 kb_t1_3.2.2.2.1 [] [] [] = true := by decide +kernel
theorem kb_g1_3 {g : kc_G} (hg : kc_ok g) : kb_begin g 6 1 3 := by
  intro Q hh mv L hw hm l0 l1 l2 hK
  refine kb_seg (d := 6) (AL0 := [(3, 259, 259), (0, 0, 4294967295), (0, 2147483651, 2147483651), (9, 0, 0), (9, 0, 0), (9, 0, 0)]) (F0 := []) (mu := []) (mu2 := []) kd_xk130 (kd_call_r (d0 := 5) hg kd_xt_ok (kd_ctl_r [] (fun q hq => by cases hq)) 1) (by decide +kernel) (by decide +kernel) (by decide +kernel) kb_u1_3 ?_ (fun q hq => by cases hq) hw ?_
  · intro i v hi hk
    match i, hi with
    | 0, hi => obtain rfl := Option.some.inj (show some _ = some v from hi); exact ⟨_, l0, ⟨259, rfl, by decide, by decide⟩⟩
    | 1, hi => obtain rfl := Option.some.inj (show some _ = some v from hi); exact ⟨_, l1, hm⟩
    | 2, hi => obtain rfl := Option.some.inj (show some _ = some v from hi); exact ⟨_, l2, kb_ok (k := 3) (by decide)⟩
    | 3, hi => obtain rfl := Option.some.inj (show some _ = some v from hi); exact absurd hk (by decide)
    | 4, hi => obtain rfl := Option.some.inj (show some _ = some v from hi); exact absurd hk (by decide)
    | 5, hi => obtain rfl := Option.some.inj (show some _ = some v from hi); exact absurd hk (by decide)
    | i + 6, hi => exact absurd (show none = some v from hi) (by simp)
  · intro σ L' hh' b1 b2 b3 b4 b5
    obtain ⟨x0, m0, g0⟩ := b2 0 _ rfl rfl
    obtain ⟨x1, m1, z1, rfl, ga, gb⟩ := b2 1 _ rfl rfl
    obtain ⟨x2, m2, g2⟩ := b2 2 _ rfl rfl
    obtain ⟨x3, m3, g3⟩ := b2 3 _ rfl rfl
    rw [kb_s259 g0] at m0
    rw [kx_ofs (k := 3) (by decide) g2] at m2
    rw [kx_ofs (k := 1) (by decide) g3] at m3
    exact hK L' hh' b4 b5 m0 ⟨.inl z1, m1, ⟨z1, rfl, ga, gb⟩⟩ m2 m3 (kx_ofs (k := 3) (by decide) (b3 (259, 35, _) (by decide))) (fun j hj => (match j, hj with
      | 0, _ => kx_ofs (k := 0) (by decide) (b3 (279, 0, _) (by decide))
      | 1, _ => kx_ofs (k := 1) (by decide) (b3 (279, 1, _) (by decide))
      | 2, _ => kx_ofs (k := 2) (by decide) (b3 (279, 2, _) (by decide))
      | j + 3, hj => absurd hj (by omega)))
def kb_s1_4 : kd_St := (54, [(2147483648, 2147483651), (2147483648, 2147483651), (2147483648, 2147483651), (2147483648, 2147483651), (0, 4294967295)], 5, [(3, 259, 259), (1, 0, 2147483648), (0, 2147483652, 2147483652), (0, 2147483649, 2147483649), (9, 0, 0), (9, 0, 0)], [(260, 2, (0, 2147483648, 2147483648)), (260, 1, (0, 2147483648, 2147483648)), (279, 0, (1, 1, 2147483648)), (279, 1, (1, 2, 2147483648)), (279, 2, (1, 3, 2147483648)), (279, 3, (1, 4, 2147483648))], [], [])
def kb_m1_4 : kd_St := (206, [], 0, [(3, 259, 259), (0, 0, 4294967295), (0, 2147483652, 2147483652), (9, 0, 0), (9, 0, 0), (9, 0, 0)], [], kb_W 4, [])
theorem kb_r1_4 : kd_go kd_ty kd_x130 6 (fun pc iv n AL AS F W => [kb_m1_4].any (kd_arr kd_ty none pc iv n AL AS F W)) (kd_call kd_ty kd_xt (kd_ctl kb_C1) 600 1) (fun _ _ _ _ _ => false) 600 54 kb_s1_4.2.1 kb_s1_4.2.2.1 kb_s1_4.2.2.2.1 [] kb_s1_4.2.2.2.2.1 [] = true := by decide +kernel
theorem kb_b1_4 {g : kc_G} (hg : kc_ok g) : kb_body g 6 1 4 := by
  intro Q hh mv L hw hF hm hr l0 l1 l2 l3 hK
  refine kb_seg (d := 6) (AL0 := [(3, 259, 259), (0, 0, 4294967295), (0, 2147483652, 2147483652), (0, 2147483649, 2147483649), (9, 0, 0), (9, 0, 0)]) (F0 := [(260, 2, (0, 2147483648, 2147483648)), (260, 1, (0, 2147483648, 2147483648)), (279, 0, (0, 2147483648, 2147483651)), (279, 1, (0, 2147483648, 2147483651)), (279, 2, (0, 2147483648, 2147483651)), (279, 3, (0, 2147483648, 2147483651))]) (mu := []) (mu2 := []) kd_xk130 (kd_call_r (d0 := 5) hg kd_xt_ok (kd_ctl_r kb_C1 (kd_al_r kb_C1 ⟨kd_hold_le (kd_h122b hg) (by decide), kd_hold_le (kd_h259 hg) (by decide), kd_hold_le (kd_h263 hg) (by decide), trivial⟩)) 1) (by decide +kernel) (by decide +kernel) (by decide +kernel) kb_r1_4 ?_ ?_ hw ?_
  · intro i v hi hk
    match i, hi with
    | 0, hi => obtain rfl := Option.some.inj (show some _ = some v from hi); exact ⟨_, l0, ⟨259, rfl, by decide, by decide⟩⟩
    | 1, hi => obtain rfl := Option.some.inj (show some _ = some v from hi); exact ⟨_, l1, hm⟩
    | 2, hi => obtain rfl := Option.some.inj (show some _ = some v from hi); exact ⟨_, l2, kb_ok (k := 4) (by decide)⟩
    | 3, hi => obtain rfl := Option.some.inj (show some _ = some v from hi); exact ⟨_, l3, kb_ok (k := 1) (by decide)⟩
    | 4, hi => obtain rfl := Option.some.inj (show some _ = some v from hi); exact absurd hk (by decide)
    | 5, hi => obtain rfl := Option.some.inj (show some _ = some v from hi); exact absurd hk (by decide)
    | i + 6, hi => exact absurd (show none = some v from hi) (by simp)
  · intro x hx
    simp only [List.mem_cons, List.not_mem_nil, or_false] at hx
    rcases hx with rfl | rfl | rfl | rfl | rfl | rfl
    · exact hF _ (by decide)
    · exact hF _ (by decide)
    · obtain ⟨v, v1, v2⟩ := hr 0 (by decide)
      show kd_g 0 _ _ (hh 279 0)
      rw [v2]
      exact kx_gof (u := 3) (by omega) (by omega)
    · obtain ⟨v, v1, v2⟩ := hr 1 (by decide)
      show kd_g 0 _ _ (hh 279 1)
      rw [v2]
      exact kx_gof (u := 3) (by omega) (by omega)
    · obtain ⟨v, v1, v2⟩ := hr 2 (by decide)
      show kd_g 0 _ _ (hh 279 2)
      rw [v2]
      exact kx_gof (u := 3) (by omega) (by omega)
    · obtain ⟨v, v1, v2⟩ := hr 3 (by decide)
      show kd_g 0 _ _ (hh 279 3)
      rw [v2]
      exact kx_gof (u := 3) (by omega) (by omega)
  · intro σ L' hh' b1 b2 b3 b4 b5
    obtain ⟨x0, m0, g0⟩ := b2 0 _ rfl rfl
    obtain ⟨x1, m1, z1, rfl, ga, gb⟩ := b2 1 _ rfl rfl
    obtain ⟨x2, m2, g2⟩ := b2 2 _ rfl rfl
    rw [kb_s259 g0] at m0
    rw [kx_ofs (k := 4) (by decide) g2] at m2
    exact hK L' hh' b4 b5 m0 ⟨.inl z1, m1, ⟨z1, rfl, ga, gb⟩⟩ m2
def kb_t1_4 : kd_St := (35, [(0, 4294967295)], 1, [(3, 259, 259), (1, 0, 2147483648), (0, 2147483652, 2147483652), (9, 0, 0), (9, 0, 0), (9, 0, 0)], [], [], [])
def kb_n1_4 : kd_St := (54, [], 0, [(3, 259, 259), (0, 0, 4294967295), (0, 2147483652, 2147483652), (0, 2147483649, 2147483649), (9, 0, 0), (9, 0, 0)], [(259, 35, (0, 2147483652, 2147483652)), (279, 0, (0, 2147483648, 2147483648)), (279, 1, (0, 2147483649, 2147483649)), (279, 2, (0, 2147483650, 2147483650)), (279, 3, (0, 2147483651, 2147483651))], kb_WB, [])
theorem kb_u1_4 : kd_go kd_ty kd_x130 6 (fun pc iv n AL AS F W => [kb_n1_4].any (kd_arr kd_ty none pc iv n AL AS F W)) (kd_call kd_ty kd_xt (kd_ctl []) 600 1) (fun _ _ _ _ _ => false) 600 35 kb_t1_4.2.1 kb_t1_4.2.2.1 kb_t1_4.2.2.2.1 [] [] [] = true := by decide +kernel
theorem kb_g1_4 {g : kc_G} (hg : kc_ok g) : kb_begin g 6 1 4 := by
  intro Q hh mv L hw hm l0 l1 l2 hK
  refine kb_seg (d := 6) (AL0 := [(3, 259, 259), (0, 0, 4294967295), (0, 2147483652, 2147483652), (9, 0, 0), (9, 0, 0), (9, 0, 0)]) (F0 := []) (mu := []) (mu2 := []) kd_xk130 (kd_call_r (d0 := 5) hg kd_xt_ok (kd_ctl_r [] (fun q hq => by cases hq)) 1) (by decide +kernel) (by decide +kernel) (by decide +kernel) kb_u1_4 ?_ (fun q hq => by cases hq) hw ?_
  · intro i v hi hk
    match i, hi with
    | 0, hi => obtain rfl := Option.some.inj (show some _ = some v from hi); exact ⟨_, l0, ⟨259, rfl, by decide, by decide⟩⟩
    | 1, hi => obtain rfl := Option.some.inj (show some _ = some v from hi); exact ⟨_, l1, hm⟩
    | 2, hi => obtain rfl := Option.some.inj (show some _ = some v from hi); exact ⟨_, l2, kb_ok (k := 4) (by decide)⟩
    | 3, hi => obtain rfl := Option.some.inj (show some _ = some v from hi); exact absurd hk (by decide)
    | 4, hi => obtain rfl := Option.some.inj (show some _ = some v from hi); exact absurd hk (by decide)
    | 5, hi => obtain rfl := Option.some.inj (show some _ = some v from hi); exact absurd hk (by decide)
    | i + 6, hi => exact absurd (show none = some v from hi) (by simp)
  · intro σ L' hh' b1 b2 b3 b4 b5
    obtain ⟨x0, m0, g0⟩ := b2 0 _ rfl rfl
    obtain ⟨x1, m1, z1, rfl, ga, gb⟩ := b2 1 _ rfl rfl
    obtain ⟨x2, m2, g2⟩ := b2 2 _ rfl rfl
    obtain ⟨x3, m3, g3⟩ := b2 3 _ rfl rfl
    rw [kb_s259 g0] at m0
    rw [kx_ofs (k := 4) (by decide) g2] at m2
    rw [kx_ofs (k := 1) (by decide) g3] at m3
    exact hK L' hh' b4 b5 m0 ⟨.inl z1, m1, ⟨z1, rfl, ga, gb⟩⟩ m2 m3 (kx_ofs (k := 4) (by decide) (b3 (259, 35, _) (by decide))) (fun j hj => (match j, hj with
      | 0, _ => kx_ofs (k := 0) (by decide) (b3 (279, 0, _) (by decide))
      | 1, _ => kx_ofs (k := 1) (by decide) (b3 (279, 1, _) (by decide))
      | 2, _ => kx_ofs (k := 2) (by decide) (b3 (279, 2, _) (by decide))
      | 3, _ => kx_ofs (k := 3) (by decide) (b3 (279, 3, _) (by decide))
      | j + 4, hj => absurd hj (by omega)))
def kb_s1_5 : kd_St := (54, [(2147483648, 2147483652), (2147483648, 2147483652), (2147483648, 2147483652), (2147483648, 2147483652), (2147483648, 2147483652), (0, 4294967295)], 6, [(3, 259, 259), (1, 0, 2147483648), (0, 2147483653, 2147483653), (0, 2147483649, 2147483649), (9, 0, 0), (9, 0, 0)], [(260, 2, (0, 2147483648, 2147483648)), (260, 1, (0, 2147483648, 2147483648)), (279, 0, (1, 1, 2147483648)), (279, 1, (1, 2, 2147483648)), (279, 2, (1, 3, 2147483648)), (279, 3, (1, 4, 2147483648)), (279, 4, (1, 5, 2147483648))], [], [])
def kb_m1_5 : kd_St := (206, [], 0, [(3, 259, 259), (0, 0, 4294967295), (0, 2147483653, 2147483653), (9, 0, 0), (9, 0, 0), (9, 0, 0)], [], kb_W 5, [])
theorem kb_r1_5 : kd_go kd_ty kd_x130 6 (fun pc iv n AL AS F W => [kb_m1_5].any (kd_arr kd_ty none pc iv n AL AS F W)) (kd_call kd_ty kd_xt (kd_ctl kb_C1) 600 1) (fun _ _ _ _ _ => false) 600 54 kb_s1_5.2.1 kb_s1_5.2.2.1 kb_s1_5.2.2.2.1 [] kb_s1_5.2.2.2.2.1 [] = true := by decide +kernel
theorem kb_b1_5 {g : kc_G} (hg : kc_ok g) : kb_body g 6 1 5 := by
  intro Q hh mv L hw hF hm hr l0 l1 l2 l3 hK
  refine kb_seg (d := 6) (AL0 := [(3, 259, 259), (0, 0, 4294967295), (0, 2147483653, 2147483653), (0, 2147483649, 2147483649), (9, 0, 0), (9, 0, 0)]) (F0 := [(260, 2, (0, 2147483648, 2147483648)), (260, 1, (0, 2147483648, 2147483648)), (279, 0, (0, 2147483648, 2147483652)), (279, 1, (0, 2147483648, 2147483652)), (279, 2, (0, 2147483648, 2147483652)), (279, 3, (0, 2147483648, 2147483652)), (279, 4, (0, 2147483648, 2147483652))]) (mu := []) (mu2 := []) kd_xk130 (kd_call_r (d0 := 5) hg kd_xt_ok (kd_ctl_r kb_C1 (kd_al_r kb_C1 ⟨kd_hold_le (kd_h122b hg) (by decide), kd_hold_le (kd_h259 hg) (by decide), kd_hold_le (kd_h263 hg) (by decide), trivial⟩)) 1) (by decide +kernel) (by decide +kernel) (by decide +kernel) kb_r1_5 ?_ ?_ hw ?_
  · intro i v hi hk
    match i, hi with
    | 0, hi => obtain rfl := Option.some.inj (show some _ = some v from hi); exact ⟨_, l0, ⟨259, rfl, by decide, by decide⟩⟩
    | 1, hi => obtain rfl := Option.some.inj (show some _ = some v from hi); exact ⟨_, l1, hm⟩
    | 2, hi => obtain rfl := Option.some.inj (show some _ = some v from hi); exact ⟨_, l2, kb_ok (k := 5) (by decide)⟩
    | 3, hi => obtain rfl := Option.some.inj (show some _ = some v from hi); exact ⟨_, l3, kb_ok (k := 1) (by decide)⟩
    | 4, hi => obtain rfl := Option.some.inj (show some _ = some v from hi); exact absurd hk (by decide)
    | 5, hi => obtain rfl := Option.some.inj (show some _ = some v from hi); exact absurd hk (by decide)
    | i + 6, hi => exact absurd (show none = some v from hi) (by simp)
  · intro x hx
    simp only [List.mem_cons, List.not_mem_nil, or_false] at hx
    rcases hx with rfl | rfl | rfl | rfl | rfl | rfl | rfl
    · exact hF _ (by decide)
    · exact hF _ (by decide)
    · obtain ⟨v, v1, v2⟩ := hr 0 (by decide)
      show kd_g 0 _ _ (hh 279 0)
      rw [v2]
      exact kx_gof (u := 4) (by omega) (by omega)
    · obtain ⟨v, v1, v2⟩ := hr 1 (by decide)
      show kd_g 0 _ _ (hh 279 1)
      rw [v2]
      exact kx_gof (u := 4) (by omega) (by omega)
    · obtain ⟨v, v1, v2⟩ := hr 2 (by decide)
      show kd_g 0 _ _ (hh 279 2)
      rw [v2]
      exact kx_gof (u := 4) (by omega) (by omega)
    · obtain ⟨v, v1, v2⟩ := hr 3 (by decide)
      show kd_g 0 _ _ (hh 279 3)
      rw [v2]
      exact kx_gof (u := 4) (by omega) (by omega)
    · obtain ⟨v, v1, v2⟩ := hr 4 (by decide)
      show kd_g 0 _ _ (hh 279 4)
      rw [v2]
      exact kx_gof (u := 4) (by omega) (by omega)
  · intro σ L' hh' b1 b2 b3 b4 b5
    obtain ⟨x0, m0, g0⟩ := b2 0 _ rfl rfl
    obtain ⟨x1, m1, z1, rfl, ga, gb⟩ := b2 1 _ rfl rfl
    obtain ⟨x2, m2, g2⟩ := b2 2 _ rfl rfl
    rw [kb_s259 g0] at m0
    rw [kx_ofs (k := 5) (by decide) g2] at m2
    exact hK L' hh' b4 b5 m0 ⟨.inl z1, m1, ⟨z1, rfl, ga, gb⟩⟩ m2
def kb_t1_5 : kd_St := (35, [(0, 4294967295)], 1, [(3, 259, 259), (1, 0, 2147483648), (0, 2147483653, 2147483653), (9, 0, 0), (9, 0, 0), (9, 0, 0)], [], [], [])
def kb_n1_5 : kd_St := (54, [], 0, [(3, 259, 259), (0, 0, 4294967295), (0, 2147483653, 2147483653), (0, 2147483649, 2147483649), (9, 0, 0), (9, 0, 0)], [(259, 35, (0, 2147483653, 2147483653)), (279, 0, (0, 2147483648, 2147483648)), (279, 1, (0, 2147483649, 2147483649)), (279, 2, (0, 2147483650, 2147483650)), (279, 3, (0, 2147483651, 2147483651)), (279, 4, (0, 2147483652, 2147483652))], kb_WB, [])
theorem kb_u1_5 : kd_go kd_ty kd_x130 6 (fun pc iv n AL AS F W => [kb_n1_5].any (kd_arr kd_ty none pc iv n AL AS F W)) (kd_call kd_ty kd_xt (kd_ctl []) 600 1) (fun _ _ _ _ _ => false) 600 35 kb_t1_5.2.1 kb_t1_5.2.2.1 kb_t1_5.2.2.2.1 [] [] [] = true := by decide +kernel
theorem kb_g1_5 {g : kc_G} (hg : kc_ok g) : kb_begin g 6 1 5 := by
  intro Q hh mv L hw hm l0 l1 l2 hK
  refine kb_seg (d := 6) (AL0 := [(3, 259, 259), (0, 0, 4294967295), (0, 2147483653, 2147483653), (9, 0, 0), (9, 0, 0), (9, 0, 0)]) (F0 := []) (mu := []) (mu2 := []) kd_xk130 (kd_call_r (d0 := 5) hg kd_xt_ok (kd_ctl_r [] (fun q hq => by cases hq)) 1) (by decide +kernel) (by decide +kernel) (by decide +kernel) kb_u1_5 ?_ (fun q hq => by cases hq) hw ?_
  · intro i v hi hk
    match i, hi with
    | 0, hi => obtain rfl := Option.some.inj (show some _ = some v from hi); exact ⟨_, l0, ⟨259, rfl, by decide, by decide⟩⟩
    | 1, hi => obtain rfl := Option.some.inj (show some _ = some v from hi); exact ⟨_, l1, hm⟩
    | 2, hi => obtain rfl := Option.some.inj (show some _ = some v from hi); exact ⟨_, l2, kb_ok (k := 5) (by decide)⟩
    | 3, hi => obtain rfl := Option.some.inj (show some _ = some v from hi); exact absurd hk (by decide)
    | 4, hi => obtain rfl := Option.some.inj (show some _ = some v from hi); exact absurd hk (by decide)
    | 5, hi => obtain rfl := Option.some.inj (show some _ = some v from hi); exact absurd hk (by decide)
    | i + 6, hi => exact absurd (show none = some v from hi) (by simp)
  · intro σ L' hh' b1 b2 b3 b4 b5
    obtain ⟨x0, m0, g0⟩ := b2 0 _ rfl rfl
    obtain ⟨x1, m1, z1, rfl, ga, gb⟩ := b2 1 _ rfl rfl
    obtain ⟨x2, m2, g2⟩ := b2 2 _ rfl rfl
    obtain ⟨x3, m3, g3⟩ := b2 3 _ rfl rfl
    rw [kb_s259 g0] at m0
    rw [kx_ofs (k := 5) (by decide) g2] at m2
    rw [kx_ofs (k := 1) (by decide) g3] at m3
    exact hK L' hh' b4 b5 m0 ⟨.inl z1, m1, ⟨z1, rfl, ga, gb⟩⟩ m2 m3 (kx_ofs (k := 5) (by decide) (b3 (259, 35, _) (by decide))) (fun j hj => (match j, hj with
      | 0, _ => kx_ofs (k := 0) (by decide) (b3 (279, 0, _) (by decide))
      | 1, _ => kx_ofs (k := 1) (by decide) (b3 (279, 1, _) (by decide))
      | 2, _ => kx_ofs (k := 2) (by decide) (b3 (279, 2, _) (by decide))
      | 3, _ => kx_ofs (k := 3) (by decide) (b3 (279, 3, _) (by decide))
      | 4, _ => kx_ofs (k := 4) (by decide) (b3 (279, 4, _) (by decide))
      | j + 5, hj => absurd hj (by omega)))
def kb_C2 : List (Nat × kd_Tc) := [(122, kd_T122c), (259, kd_T259), (263, kd_T263)]
def kb_s2_0 : kd_St := (54, [(2147483649, 2147483658), (2147483647, 2147483648)], 2, [(3, 259, 259), (1, 0, 2147483648), (0, 2147483648, 2147483648), (0, 2147483649, 2147483649), (9, 0, 0), (9, 0, 0)], [(260, 2, (1, 1, 2147483648)), (260, 1, (0, 2147483648, 2147483648))], [], [])
def kb_m2_0 : kd_St := (206, [], 0, [(3, 259, 259), (0, 2147483647, 2147483648), (0, 2147483648, 2147483648), (9, 0, 0), (9, 0, 0), (9, 0, 0)], [], kb_W 0, [])
theorem kb_r2_0 : kd_go kd_ty kd_x130 6 (fun pc iv n AL AS F W => [kb_m2_0].any (kd_arr kd_ty none pc iv n AL AS F W)) (kd_call kd_ty kd_xt (kd_ctl kb_C2) 600 1) (fun _ _ _ _ _ => false) 600 54 kb_s2_0.2.1 kb_s2_0.2.2.1 kb_s2_0.2.2.2.1 [] kb_s2_0.2.2.2.2.1 [] = true := by decide +kernel
theorem kb_b2_0 {g : kc_G} (hg : kc_ok g) : kb_body g 6 2 0 := by
  intro Q hh mv L hw hF hm hr l0 l1 l2 l3 hK
  refine kb_seg (d := 6) (AL0 := [(3, 259, 259), (0, 2147483647, 2147483648), (0, 2147483648, 2147483648), (0, 2147483649, 2147483649), (9, 0, 0), (9, 0, 0)]) (F0 := [(260, 2, (0, 2147483649, 2147483658)), (260, 1, (0, 2147483648, 2147483648))]) (mu := []) (mu2 := []) kd_xk130 (kd_call_r (d0 := 5) hg kd_xt_ok (kd_ctl_r kb_C2 (kd_al_r kb_C2 ⟨kd_hold_le (kd_h122c hg) (by decide), kd_hold_le (kd_h259 hg) (by decide), kd_hold_le (kd_h263 hg) (by decide), trivial⟩)) 1) (by decide +kernel) (by decide +kernel) (by decide +kernel) kb_r2_0 ?_ ?_ hw ?_
  · intro i v hi hk
    match i, hi with
    | 0, hi => obtain rfl := Option.some.inj (show some _ = some v from hi); exact ⟨_, l0, ⟨259, rfl, by decide, by decide⟩⟩
    | 1, hi => obtain rfl := Option.some.inj (show some _ = some v from hi); exact ⟨_, l1, hm⟩
    | 2, hi => obtain rfl := Option.some.inj (show some _ = some v from hi); exact ⟨_, l2, kb_ok (k := 0) (by decide)⟩
    | 3, hi => obtain rfl := Option.some.inj (show some _ = some v from hi); exact ⟨_, l3, kb_ok (k := 1) (by decide)⟩
    | 4, hi => obtain rfl := Option.some.inj (show some _ = some v from hi); exact absurd hk (by decide)
    | 5, hi => obtain rfl := Option.some.inj (show some _ = some v from hi); exact absurd hk (by decide)
    | i + 6, hi => exact absurd (show none = some v from hi) (by simp)
  · intro x hx
    simp only [List.mem_cons, List.not_mem_nil, or_false] at hx
    rcases hx with rfl | rfl
    · exact hF _ (by decide)
    · exact hF _ (by decide)
  · intro σ L' hh' b1 b2 b3 b4 b5
    obtain ⟨x0, m0, g0⟩ := b2 0 _ rfl rfl
    obtain ⟨x1, m1, z1, rfl, ga, gb⟩ := b2 1 _ rfl rfl
    obtain ⟨x2, m2, g2⟩ := b2 2 _ rfl rfl
    rw [kb_s259 g0] at m0
    rw [kx_ofs (k := 0) (by decide) g2] at m2
    exact hK L' hh' b4 b5 m0 ⟨.inl z1, m1, ⟨z1, rfl, ga, gb⟩⟩ m2
def kb_t2_0 : kd_St := (35, [(2147483647, 2147483648)], 1, [(3, 259, 259), (1, 0, 2147483648), (0, 2147483648, 2147483648), (9, 0, 0), (9, 0, 0), (9, 0, 0)], [], [], [])
def kb_n2_0 : kd_St := (54, [], 0, [(3, 259, 259), (0, 2147483647, 2147483648), (0, 2147483648, 2147483648), (0, 2147483649, 2147483649), (9, 0, 0), (9, 0, 0)], [(259, 35, (0, 2147483648, 2147483648))], kb_WB, [])
theorem kb_u2_0 : kd_go kd_ty kd_x130 6 (fun pc iv n AL AS F W => [kb_n2_0].any (kd_arr kd_ty none pc iv n AL AS F W)) (kd_call kd_ty kd_xt (kd_ctl []) 600 1) (fun _ _ _ _ _ => false) 600 35 kb_t2_0.2.1 kb_t2_0.2.2.1 kb_t2_0.2.2.2.1 [] [] [] = true := by decide +kernel
theorem kb_g2_0 {g : kc_G} (hg : kc_ok g) : kb_begin g 6 2 0 := by
  intro Q hh mv L hw hm l0 l1 l2 hK
  refine kb_seg (d := 6) (AL0 := [(3, 259, 259), (0, 2147483647, 2147483648), (0, 2147483648, 2147483648), (9, 0, 0), (9, 0, 0), (9, 0, 0)]) (F0 := []) (mu := []) (mu2 := []) kd_xk130 (kd_call_r (d0 := 5) hg kd_xt_ok (kd_ctl_r [] (fun q hq => by cases hq)) 1) (by decide +kernel) (by decide +kernel) (by decide +kernel) kb_u2_0 ?_ (fun q hq => by cases hq) hw ?_
  · intro i v hi hk
    match i, hi with
    | 0, hi => obtain rfl := Option.some.inj (show some _ = some v from hi); exact ⟨_, l0, ⟨259, rfl, by decide, by decide⟩⟩
    | 1, hi => obtain rfl := Option.some.inj (show some _ = some v from hi); exact ⟨_, l1, hm⟩
    | 2, hi => obtain rfl := Option.some.inj (show some _ = some v from hi); exact ⟨_, l2, kb_ok (k := 0) (by decide)⟩
    | 3, hi => obtain rfl := Option.some.inj (show some _ = some v from hi); exact absurd hk (by decide)
    | 4, hi => obtain rfl := Option.some.inj (show some _ = some v from hi); exact absurd hk (by decide)
    | 5, hi => obtain rfl := Option.some.inj (show some _ = some v from hi); exact absurd hk (by decide)
    | i + 6, hi => exact absurd (show none = some v from hi) (by simp)
  · intro σ L' hh' b1 b2 b3 b4 b5
    obtain ⟨x0, m0, g0⟩ := b2 0 _ rfl rfl
    obtain ⟨x1, m1, z1, rfl, ga, gb⟩ := b2 1 _ rfl rfl
    obtain ⟨x2, m2, g2⟩ := b2 2 _ rfl rfl
    obtain ⟨x3, m3, g3⟩ := b2 3 _ rfl rfl
    rw [kb_s259 g0] at m0
    rw [kx_ofs (k := 0) (by decide) g2] at m2
    rw [kx_ofs (k := 1) (by decide) g3] at m3
    exact hK L' hh' b4 b5 m0 ⟨.inl z1, m1, ⟨z1, rfl, ga, gb⟩⟩ m2 m3 (kx_ofs (k := 0) (by decide) (b3 (259, 35, _) (by decide))) (fun j hj => absurd hj (by omega))
def kb_s2_1 : kd_St := (54, [(2147483649, 2147483658), (2147483647, 2147483648)], 2, [(3, 259, 259), (1, 0, 2147483648), (0, 2147483649, 2147483649), (0, 2147483649, 2147483649), (9, 0, 0), (9, 0, 0)], [(260, 2, (1, 1, 2147483648)), (260, 1, (0, 2147483648, 2147483648)), (279, 0, (0, 2147483648, 2147483648))], [], [])
def kb_m2_1 : kd_St := (206, [], 0, [(3, 259, 259), (0, 2147483647, 2147483648), (0, 2147483649, 2147483649), (9, 0, 0), (9, 0, 0), (9, 0, 0)], [], kb_W 1, [])
theorem kb_r2_1 : kd_go kd_ty kd_x130 6 (fun pc iv n AL AS F W => [kb_m2_1].any (kd_arr kd_ty none pc iv n AL AS F W)) (kd_call kd_ty kd_xt (kd_ctl kb_C2) 600 1) (fun _ _ _ _ _ => false) 600 54 kb_s2_1.2.1 kb_s2_1.2.2.1 kb_s2_1.2.2.2.1 [] kb_s2_1.2.2.2.2.1 [] = true := by decide +kernel
theorem kb_b2_1 {g : kc_G} (hg : kc_ok g) : kb_body g 6 2 1 := by
  intro Q hh mv L hw hF hm hr l0 l1 l2 l3 hK
  refine kb_seg (d := 6) (AL0 := [(3, 259, 259), (0, 2147483647, 2147483648), (0, 2147483649, 2147483649), (0, 2147483649, 2147483649), (9, 0, 0), (9, 0, 0)]) (F0 := [(260, 2, (0, 2147483649, 2147483658)), (260, 1, (0, 2147483648, 2147483648)), (279, 0, (0, 2147483648, 2147483648))]) (mu := []) (mu2 := []) kd_xk130 (kd_call_r (d0 := 5) hg kd_xt_ok (kd_ctl_r kb_C2 (kd_al_r kb_C2 ⟨kd_hold_le (kd_h122c hg) (by decide), kd_hold_le (kd_h259 hg) (by decide), kd_hold_le (kd_h263 hg) (by decide), trivial⟩)) 1) (by decide +kernel) (by decide +kernel) (by decide +kernel) kb_r2_1 ?_ ?_ hw ?_
  · intro i v hi hk
    match i, hi with
    | 0, hi => obtain rfl := Option.some.inj (show some _ = some v from hi); exact ⟨_, l0, ⟨259, rfl, by decide, by decide⟩⟩
    | 1, hi => obtain rfl := Option.some.inj (show some _ = some v from hi); exact ⟨_, l1, hm⟩
    | 2, hi => obtain rfl := Option.some.inj (show some _ = some v from hi); exact ⟨_, l2, kb_ok (k := 1) (by decide)⟩
    | 3, hi => obtain rfl := Option.some.inj (show some _ = some v from hi); exact ⟨_, l3, kb_ok (k := 1) (by decide)⟩
    | 4, hi => obtain rfl := Option.some.inj (show some _ = some v from hi); exact absurd hk (by decide)
    | 5, hi => obtain rfl := Option.some.inj (show some _ = some v from hi); exact absurd hk (by decide)
    | i + 6, hi => exact absurd (show none = some v from hi) (by simp)
  · intro x hx
    simp only [List.mem_cons, List.not_mem_nil, or_false] at hx
    rcases hx with rfl | rfl | rfl
    · exact hF _ (by decide)
    · exact hF _ (by decide)
    · obtain ⟨v, v1, v2⟩ := hr 0 (by decide)
      show kd_g 0 _ _ (hh 279 0)
      rw [v2]
      exact kx_gof (u := 0) (by omega) (by omega)
  · intro σ L' hh' b1 b2 b3 b4 b5
    obtain ⟨x0, m0, g0⟩ := b2 0 _ rfl rfl
    obtain ⟨x1, m1, z1, rfl, ga, gb⟩ := b2 1 _ rfl rfl
    obtain ⟨x2, m2, g2⟩ := b2 2 _ rfl rfl
    rw [kb_s259 g0] at m0
    rw [kx_ofs (k := 1) (by decide) g2] at m2
    exact hK L' hh' b4 b5 m0 ⟨.inl z1, m1, ⟨z1, rfl, ga, gb⟩⟩ m2
def kb_t2_1 : kd_St := (35, [(2147483647, 2147483648)], 1, [(3, 259, 259), (1, 0, 2147483648), (0, 2147483649, 2147483649), (9, 0, 0), (9, 0, 0), (9, 0, 0)], [], [], [])
def kb_n2_1 : kd_St := (54, [], 0, [(3, 259, 259), (0, 2147483647, 2147483648), (0, 2147483649, 2147483649), (0, 2147483649, 2147483649), (9, 0, 0), (9, 0, 0)], [(259, 35, (0, 2147483649, 2147483649)), (279, 0, (0, 2147483648, 2147483648))], kb_WB, [])
theorem kb_u2_1 : kd_go kd_ty kd_x130 6 (fun pc iv n AL AS F W => [kb_n2_1].any (kd_arr kd_ty none pc iv n AL AS F W)) (kd_call kd_ty kd_xt (kd_ctl []) 600 1) (fun _ _ _ _ _ => false) 600 35 kb_t2_1.2.1 kb_t2_1.2.2.1 kb_t2_1.2.2.2.1 [] [] [] = true := by decide +kernel
theorem kb_g2_1 {g : kc_G} (hg : kc_ok g) : kb_begin g 6 2 1 := by
  intro Q hh mv L hw hm l0 l1 l2 hK
  refine kb_seg (d := 6) (AL0 := [(3, 259, 259), (0, 2147483647, 2147483648), (0, 2147483649, 2147483649), (9, 0, 0), (9, 0, 0), (9, 0, 0)]) (F0 := []) (mu := []) (mu2 := []) kd_xk130 (kd_call_r (d0 := 5) hg kd_xt_ok (kd_ctl_r [] (fun q hq => by cases hq)) 1) (by decide +kernel) (by decide +kernel) (by decide +kernel) kb_u2_1 ?_ (fun q hq => by cases hq) hw ?_
  · intro i v hi hk
    match i, hi with
    | 0, hi => obtain rfl := Option.some.inj (show some _ = some v from hi); exact ⟨_, l0, ⟨259, rfl, by decide, by decide⟩⟩
    | 1, hi => obtain rfl := Option.some.inj (show some _ = some v from hi); exact ⟨_, l1, hm⟩
    | 2, hi => obtain rfl := Option.some.inj (show some _ = some v from hi); exact ⟨_, l2, kb_ok (k := 1) (by decide)⟩
    | 3, hi => obtain rfl := Option.some.inj (show some _ = some v from hi); exact absurd hk (by decide)
    | 4, hi => obtain rfl := Option.some.inj (show some _ = some v from hi); exact absurd hk (by decide)
    | 5, hi => obtain rfl := Option.some.inj (show some _ = some v from hi); exact absurd hk (by decide)
    | i + 6, hi => exact absurd (show none = some v from hi) (by simp)
  · intro σ L' hh' b1 b2 b3 b4 b5
    obtain ⟨x0, m0, g0⟩ := b2 0 _ rfl rfl
    obtain ⟨x1, m1, z1, rfl, ga, gb⟩ := b2 1 _ rfl rfl
    obtain ⟨x2, m2, g2⟩ := b2 2 _ rfl rfl
    obtain ⟨x3, m3, g3⟩ := b2 3 _ rfl rfl
    rw [kb_s259 g0] at m0
    rw [kx_ofs (k := 1) (by decide) g2] at m2
    rw [kx_ofs (k := 1) (by decide) g3] at m3
    exact hK L' hh' b4 b5 m0 ⟨.inl z1, m1, ⟨z1, rfl, ga, gb⟩⟩ m2 m3 (kx_ofs (k := 1) (by decide) (b3 (259, 35, _) (by decide))) (fun j hj => (match j, hj with
      | 0, _ => kx_ofs (k := 0) (by decide) (b3 (279, 0, _) (by decide))
      | j + 1, hj => absurd hj (by omega)))
def kb_s2_2 : kd_St := (54, [(2147483648, 2147483649), (2147483648, 2147483649), (2147483649, 2147483658), (2147483647, 2147483648)], 4, [(3, 259, 259), (1, 0, 2147483648), (0, 2147483650, 2147483650), (0, 2147483649, 2147483649), (9, 0, 0), (9, 0, 0)], [(260, 2, (1, 1, 2147483648)), (260, 1, (0, 2147483648, 2147483648)), (279, 0, (1, 2, 2147483648)), (279, 1, (1, 3, 2147483648))], [], [])
def kb_m2_2 : kd_St := (206, [], 0, [(3, 259, 259), (0, 2147483647, 2147483648), (0, 2147483650, 2147483650), (9, 0, 0), (9, 0, 0), (9, 0, 0)], [], kb_W 2, [])
theorem kb_r2_2 : kd_go kd_ty kd_x130 6 (fun pc iv n AL AS F W => [kb_m2_2].any (kd_arr kd_ty none pc iv n AL AS F W)) (kd_call kd_ty kd_xt (kd_ctl kb_C2) 600 1) (fun _ _ _ _ _ => false) 600 54 kb_s2_2.2.1 kb_s2_2.2.2.1 kb_s2_2.2.2.2.1 [] kb_s2_2.2.2.2.2.1 [] = true := by decide +kernel
theorem kb_b2_2 {g : kc_G} (hg : kc_ok g) : kb_body g 6 2 2 := by
  intro Q hh mv L hw hF hm hr l0 l1 l2 l3 hK
  refine kb_seg (d := 6) (AL0 := [(3, 259, 259), (0, 2147483647, 2147483648), (0, 2147483650, 2147483650), (0, 2147483649, 2147483649), (9, 0, 0), (9, 0, 0)]) (F0 := [(260, 2, (0, 2147483649, 2147483658)), (260, 1, (0, 2147483648, 2147483648)), (279, 0, (0, 2147483648, 2147483649)), (279, 1, (0, 2147483648, 2147483649))]) (mu := []) (mu2 := []) kd_xk130 (kd_call_r (d0 := 5) hg kd_xt_ok (kd_ctl_r kb_C2 (kd_al_r kb_C2 ⟨kd_hold_le (kd_h122c hg) (by decide), kd_hold_le (kd_h259 hg) (by decide), kd_hold_le (kd_h263 hg) (by decide), trivial⟩)) 1) (by decide +kernel) (by decide +kernel) (by decide +kernel) kb_r2_2 ?_ ?_ hw ?_
  · intro i v hi hk
    match i, hi with
    | 0, hi => obtain rfl := Option.some.inj (show some _ = some v from hi); exact ⟨_, l0, ⟨259, rfl, by decide, by decide⟩⟩
    | 1, hi => obtain rfl := Option.some.inj (show some _ = some v from hi); exact ⟨_, l1, hm⟩
    | 2, hi => obtain rfl := Option.some.inj (show some _ = some v from hi); exact ⟨_, l2, kb_ok (k := 2) (by decide)⟩
    | 3, hi => obtain rfl := Option.some.inj (show some _ = some v from hi); exact ⟨_, l3, kb_ok (k := 1) (by decide)⟩
    | 4, hi => obtain rfl := Option.some.inj (show some _ = some v from hi); exact absurd hk (by decide)
    | 5, hi => obtain rfl := Option.some.inj (show some _ = some v from hi); exact absurd hk (by decide)
    | i + 6, hi => exact absurd (show none = some v from hi) (by simp)
  · intro x hx
    simp only [List.mem_cons, List.not_mem_nil, or_false] at hx
    rcases hx with rfl | rfl | rfl | rfl
    · exact hF _ (by decide)
    · exact hF _ (by decide)
    · obtain ⟨v, v1, v2⟩ := hr 0 (by decide)
      show kd_g 0 _ _ (hh 279 0)
      rw [v2]
      exact kx_gof (u := 1) (by omega) (by omega)
    · obtain ⟨v, v1, v2⟩ := hr 1 (by decide)
      show kd_g 0 _ _ (hh 279 1)
      rw [v2]
      exact kx_gof (u := 1) (by omega) (by omega)
  · intro σ L' hh' b1 b2 b3 b4 b5
    obtain ⟨x0, m0, g0⟩ := b2 0 _ rfl rfl
    obtain ⟨x1, m1, z1, rfl, ga, gb⟩ := b2 1 _ rfl rfl
    obtain ⟨x2, m2, g2⟩ := b2 2 _ rfl rfl
    rw [kb_s259 g0] at m0
    rw [kx_ofs (k := 2) (by decide) g2] at m2
    exact hK L' hh' b4 b5 m0 ⟨.inl z1, m1, ⟨z1, rfl, ga, gb⟩⟩ m2
def kb_t2_2 : kd_St := (35, [(2147483647, 2147483648)], 1, [(3, 259, 259), (1, 0, 2147483648), (0, 2147483650, 2147483650), (9, 0, 0), (9, 0, 0), (9, 0, 0)], [], [], [])
def kb_n2_2 : kd_St := (54, [], 0, [(3, 259, 259), (0, 2147483647, 2147483648), (0, 2147483650, 2147483650), (0, 2147483649, 2147483649), (9, 0, 0), (9, 0, 0)], [(259, 35, (0, 2147483650, 2147483650)), (279, 0, (0, 2147483648, 2147483648)), (279, 1, (0, 2147483649, 2147483649))], kb_WB, [])
theorem kb_u2_2 : kd_go kd_ty kd_x130 6 (fun pc iv n AL AS F W => [kb_n2_2].any (kd_arr kd_ty none pc iv n AL AS F W)) (kd_call kd_ty kd_xt (kd_ctl []) 600 1) (fun _ _ _ _ _ => false) 600 35 kb_t2_2.2.1 kb_t2_2.2.2.1 kb_t2_2.2.2.2.1 [] [] [] = true := by decide +kernel
theorem kb_g2_2 {g : kc_G} (hg : kc_ok g) : kb_begin g 6 2 2 := by
  intro Q hh mv L hw hm l0 l1 l2 hK
  refine kb_seg (d := 6) (AL0 := [(3, 259, 259), (0, 2147483647, 2147483648), (0, 2147483650, 2147483650), (9, 0, 0), (9, 0, 0), (9, 0, 0)]) (F0 := []) (mu := []) (mu2 := []) kd_xk130 (kd_call_r (d0 := 5) hg kd_xt_ok (kd_ctl_r [] (fun q hq => by cases hq)) 1) (by decide +kernel) (by decide +kernel) (by decide +kernel) kb_u2_2 ?_ (fun q hq => by cases hq) hw ?_
  · intro i v hi hk
    match i, hi with
    | 0, hi => obtain rfl := Option.some.inj (show some _ = some v from hi); exact ⟨_, l0, ⟨259, rfl, by decide, by decide⟩⟩
    | 1, hi => obtain rfl := Option.some.inj (show some _ = some v from hi); exact ⟨_, l1, hm⟩
    | 2, hi => obtain rfl := Option.some.inj (show some _ = some v from hi); exact ⟨_, l2, kb_ok (k := 2) (by decide)⟩
    | 3, hi => obtain rfl := Option.some.inj (show some _ = some v from hi); exact absurd hk (by decide)
    | 4, hi => obtain rfl := Option.some.inj (show some _ = some v from hi); exact absurd hk (by decide)
    | 5, hi => obtain rfl := Option.some.inj (show some _ = some v from hi); exact absurd hk (by decide)
    | i + 6, hi => exact absurd (show none = some v from hi) (by simp)
  · intro σ L' hh' b1 b2 b3 b4 b5
    obtain ⟨x0, m0, g0⟩ := b2 0 _ rfl rfl
    obtain ⟨x1, m1, z1, rfl, ga, gb⟩ := b2 1 _ rfl rfl
    obtain ⟨x2, m2, g2⟩ := b2 2 _ rfl rfl
    obtain ⟨x3, m3, g3⟩ := b2 3 _ rfl rfl
    rw [kb_s259 g0] at m0
    rw [kx_ofs (k := 2) (by decide) g2] at m2
    rw [kx_ofs (k := 1) (by decide) g3] at m3
    exact hK L' hh' b4 b5 m0 ⟨.inl z1, m1, ⟨z1, rfl, ga, gb⟩⟩ m2 m3 (kx_ofs (k := 2) (by decide) (b3 (259, 35, _) (by decide))) (fun j hj => (match j, hj with
      | 0, _ => kx_ofs (k := 0) (by decide) (b3 (279, 0, _) (by decide))
      | 1, _ => kx_ofs (k := 1) (by decide) (b3 (279, 1, _) (by decide))
      | j + 2, hj => absurd hj (by omega)))
def kb_s2_3 : kd_St := (54, [(2147483648, 2147483650), (2147483648, 2147483650), (2147483648, 2147483650), (2147483649, 2147483658), (2147483647, 2147483648)], 5, [(3, 259, 259), (1, 0, 2147483648), (0, 2147483651, 2147483651), (0, 2147483649, 2147483649), (9, 0, 0), (9, 0, 0)], [(260, 2, (1, 1, 2147483648)), (260, 1, (0, 2147483648, 2147483648)), (279, 0, (1, 2, 2147483648)), (279, 1, (1, 3, 2147483648)), (279, 2, (1, 4, 2147483648))], [], [])
def kb_m2_3 : kd_St := (206, [], 0, [(3, 259, 259), (0, 2147483647, 2147483648), (0, 2147483651, 2147483651), (9, 0, 0), (9, 0, 0), (9, 0, 0)], [], kb_W 3, [])
theorem kb_r2_3 : kd_go kd_ty kd_x130 6 (fun pc iv n AL AS F W => [kb_m2_3].any (kd_arr kd_ty none pc iv n AL AS F W)) (kd_call kd_ty kd_xt (kd_ctl kb_C2) 600 1) (fun _ _ _ _ _ => false) 600 54 kb_s2_3.2.1 kb_s2_3.2.2.1 kb_s2_3.2.2.2.1 [] kb_s2_3.2.2.2.2.1 [] = true := by decide +kernel
theorem kb_b2_3 {g : kc_G} (hg : kc_ok g) : kb_body g 6 2 3 := by
  intro Q hh mv L hw hF hm hr l0 l1 l2 l3 hK
  refine kb_seg (d := 6) (AL0 := [(3, 259, 259), (0, 2147483647, 2147483648), (0, 2147483651, 2147483651), (0, 2147483649, 2147483649), (9, 0, 0), (9, 0, 0)]) (F0 := [(260, 2, (0, 2147483649, 2147483658)), (260, 1, (0, 2147483648, 2147483648)), (279, 0, (0, 2147483648, 2147483650)), (279, 1, (0, 2147483648, 2147483650)), (279, 2, (0, 2147483648, 2147483650))]) (mu := []) (mu2 := []) kd_xk130 (kd_call_r (d0 := 5) hg kd_xt_ok (kd_ctl_r kb_C2 (kd_al_r kb_C2 ⟨kd_hold_le (kd_h122c hg) (by decide), kd_hold_le (kd_h259 hg) (by decide), kd_hold_le (kd_h263 hg) (by decide), trivial⟩)) 1) (by decide +kernel) (by decide +kernel) (by decide +kernel) kb_r2_3 ?_ ?_ hw ?_
  · intro i v hi hk
    match i, hi with
    | 0, hi => obtain rfl := Option.some.inj (show some _ = some v from hi); exact ⟨_, l0, ⟨259, rfl, by decide, by decide⟩⟩
    | 1, hi => obtain rfl := Option.some.inj (show some _ = some v from hi); exact ⟨_, l1, hm⟩
    | 2, hi => obtain rfl := Option.some.inj (show some _ = some v from hi); exact ⟨_, l2, kb_ok (k := 3) (by decide)⟩
    | 3, hi => obtain rfl := Option.some.inj (show some _ = some v from hi); exact ⟨_, l3, kb_ok (k := 1) (by decide)⟩
    | 4, hi => obtain rfl := Option.some.inj (show some _ = some v from hi); exact absurd hk (by decide)
    | 5, hi => obtain rfl := Option.some.inj (show some _ = some v from hi); exact absurd hk (by decide)
    | i + 6, hi => exact absurd (show none = some v from hi) (by simp)
  · intro x hx
    simp only [List.mem_cons, List.not_mem_nil, or_false] at hx
    rcases hx with rfl | rfl | rfl | rfl | rfl
    · exact hF _ (by decide)
    · exact hF _ (by decide)
    · obtain ⟨v, v1, v2⟩ := hr 0 (by decide)
      show kd_g 0 _ _ (hh 279 0)
      rw [v2]
      exact kx_gof (u := 2) (by omega) (by omega)
    · obtain ⟨v, v1, v2⟩ := hr 1 (by decide)
      show kd_g 0 _ _ (hh 279 1)
      rw [v2]
      exact kx_gof (u := 2) (by omega) (by omega)
    · obtain ⟨v, v1, v2⟩ := hr 2 (by decide)
      show kd_g 0 _ _ (hh 279 2)
      rw [v2]
      exact kx_gof (u := 2) (by omega) (by omega)
  · intro σ L' hh' b1 b2 b3 b4 b5
    obtain ⟨x0, m0, g0⟩ := b2 0 _ rfl rfl
    obtain ⟨x1, m1, z1, rfl, ga, gb⟩ := b2 1 _ rfl rfl
    obtain ⟨x2, m2, g2⟩ := b2 2 _ rfl rfl
    rw [kb_s259 g0] at m0
    rw [kx_ofs (k := 3) (by decide) g2] at m2
    exact hK L' hh' b4 b5 m0 ⟨.inl z1, m1, ⟨z1, rfl, ga, gb⟩⟩ m2
def kb_t2_3 : kd_St := (35, [(2147483647, 2147483648)], 1, [(3, 259, 259), (1, 0, 2147483648), (0, 2147483651, 2147483651), (9, 0, 0), (9, 0, 0), (9, 0, 0)], [], [], [])
def kb_n2_3 : kd_St := (54, [], 0, [(3, 259, 259), (0, 2147483647, 2147483648), (0, 2147483651, 2147483651), (0, 2147483649, 2147483649), (9, 0, 0), (9, 0, 0)], [(259, 35, (0, 2147483651, 2147483651)), (279, 0, (0, 2147483648, 2147483648)), (279, 1, (0, 2147483649, 2147483649)), (279, 2, (0, 2147483650, 2147483650))], kb_WB, [])
theorem kb_u2_3 : kd_go kd_ty kd_x130 6 (fun pc iv n AL AS F W => [kb_n2_3].any (kd_arr kd_ty none pc iv n AL AS F W)) (kd_call kd_ty kd_xt (kd_ctl []) 600 1) (fun _ _ _ _ _ => false) 600 35 kb_t2_3.2.1 kb_t2_3.2.2.1 kb_t2_3.2.2.2.1 [] [] [] = true := by decide +kernel
theorem kb_g2_3 {g : kc_G} (hg : kc_ok g) : kb_begin g 6 2 3 := by
  intro Q hh mv L hw hm l0 l1 l2 hK
  refine kb_seg (d := 6) (AL0 := [(3, 259, 259), (0, 2147483647, 2147483648), (0, 2147483651, 2147483651), (9, 0, 0), (9, 0, 0), (9, 0, 0)]) (F0 := []) (mu := []) (mu2 := []) kd_xk130 (kd_call_r (d0 := 5) hg kd_xt_ok (kd_ctl_r [] (fun q hq => by cases hq)) 1) (by decide +kernel) (by decide +kernel) (by decide +kernel) kb_u2_3 ?_ (fun q hq => by cases hq) hw ?_
  · intro i v hi hk
    match i, hi with
    | 0, hi => obtain rfl := Option.some.inj (show some _ = some v from hi); exact ⟨_, l0, ⟨259, rfl, by decide, by decide⟩⟩
    | 1, hi => obtain rfl := Option.some.inj (show some _ = some v from hi); exact ⟨_, l1, hm⟩
    | 2, hi => obtain rfl := Option.some.inj (show some _ = some v from hi); exact ⟨_, l2, kb_ok (k := 3) (by decide)⟩
    | 3, hi => obtain rfl := Option.some.inj (show some _ = some v from hi); exact absurd hk (by decide)
    | 4, hi => obtain rfl := Option.some.inj (show some _ = some v from hi); exact absurd hk (by decide)
    | 5, hi => obtain rfl := Option.some.inj (show some _ = some v from hi); exact absurd hk (by decide)
    | i + 6, hi => exact absurd (show none = some v from hi) (by simp)
  · intro σ L' hh' b1 b2 b3 b4 b5
    obtain ⟨x0, m0, g0⟩ := b2 0 _ rfl rfl
    obtain ⟨x1, m1, z1, rfl, ga, gb⟩ := b2 1 _ rfl rfl
    obtain ⟨x2, m2, g2⟩ := b2 2 _ rfl rfl
    obtain ⟨x3, m3, g3⟩ := b2 3 _ rfl rfl
    rw [kb_s259 g0] at m0
    rw [kx_ofs (k := 3) (by decide) g2] at m2
    rw [kx_ofs (k := 1) (by decide) g3] at m3
    exact hK L' hh' b4 b5 m0 ⟨.inl z1, m1, ⟨z1, rfl, ga, gb⟩⟩ m2 m3 (kx_ofs (k := 3) (by decide) (b3 (259, 35, _) (by decide))) (fun j hj => (match j, hj with
      | 0, _ => kx_ofs (k := 0) (by decide) (b3 (279, 0, _) (by decide))
      | 1, _ => kx_ofs (k := 1) (by decide) (b3 (279, 1, _) (by decide))
      | 2, _ => kx_ofs (k := 2) (by decide) (b3 (279, 2, _) (by decide))
      | j + 3, hj => absurd hj (by omega)))
def kb_s2_4 : kd_St := (54, [(2147483648, 2147483651), (2147483648, 2147483651), (2147483648, 2147483651), (2147483648, 2147483651), (2147483649, 2147483658), (2147483647, 2147483648)], 6, [(3, 259, 259), (1, 0, 2147483648), (0, 2147483652, 2147483652), (0, 2147483649, 2147483649), (9, 0, 0), (9, 0, 0)], [(260, 2, (1, 1, 2147483648)), (260, 1, (0, 2147483648, 2147483648)), (279, 0, (1, 2, 2147483648)), (279, 1, (1, 3, 2147483648)), (279, 2, (1, 4, 2147483648)), (279, 3, (1, 5, 2147483648))], [], [])
def kb_m2_4 : kd_St := (206, [], 0, [(3, 259, 259), (0, 2147483647, 2147483648), (0, 2147483652, 2147483652), (9, 0, 0), (9, 0, 0), (9, 0, 0)], [], kb_W 4, [])
theorem kb_r2_4 : kd_go kd_ty kd_x130 6 (fun pc iv n AL AS F W => [kb_m2_4].any (kd_arr kd_ty none pc iv n AL AS F W)) (kd_call kd_ty kd_xt (kd_ctl kb_C2) 600 1) (fun _ _ _ _ _ => false) 600 54 kb_s2_4.2.1 kb_s2_4.2.2.1 kb_s2_4.2.2.2.1 [] kb_s2_4.2.2.2.2.1 [] = true := by decide +kernel
theorem kb_b2_4 {g : kc_G} (hg : kc_ok g) : kb_body g 6 2 4 := by
  intro Q hh mv L hw hF hm hr l0 l1 l2 l3 hK
  refine kb_seg (d := 6) (AL0 := [(3, 259, 259), (0, 2147483647, 2147483648), (0, 2147483652, 2147483652), (0, 2147483649, 2147483649), (9, 0, 0), (9, 0, 0)]) (F0 := [(260, 2, (0, 2147483649, 2147483658)), (260, 1, (0, 2147483648, 2147483648)), (279, 0, (0, 2147483648, 2147483651)), (279, 1, (0, 2147483648, 2147483651)), (279, 2, (0, 2147483648, 2147483651)), (279, 3, (0, 2147483648, 2147483651))]) (mu := []) (mu2 := []) kd_xk130 (kd_call_r (d0 := 5) hg kd_xt_ok (kd_ctl_r kb_C2 (kd_al_r kb_C2 ⟨kd_hold_le (kd_h122c hg) (by decide), kd_hold_le (kd_h259 hg) (by decide), kd_hold_le (kd_h263 hg) (by decide), trivial⟩)) 1) (by decide +kernel) (by decide +kernel) (by decide +kernel) kb_r2_4 ?_ ?_ hw ?_
  · intro i v hi hk
    match i, hi with
    | 0, hi => obtain rfl := Option.some.inj (show some _ = some v from hi); exact ⟨_, l0, ⟨259, rfl, by decide, by decide⟩⟩
    | 1, hi => obtain rfl := Option.some.inj (show some _ = some v from hi); exact ⟨_, l1, hm⟩
    | 2, hi => obtain rfl := Option.some.inj (show some _ = some v from hi); exact ⟨_, l2, kb_ok (k := 4) (by decide)⟩
    | 3, hi => obtain rfl := Option.some.inj (show some _ = some v from hi); exact ⟨_, l3, kb_ok (k := 1) (by decide)⟩
    | 4, hi => obtain rfl := Option.some.inj (show some _ = some v from hi); exact absurd hk (by decide)
    | 5, hi => obtain rfl := Option.some.inj (show some _ = some v from hi); exact absurd hk (by decide)
    | i + 6, hi => exact absurd (show none = some v from hi) (by simp)
  · intro x hx
    simp only [List.mem_cons, List.not_mem_nil, or_false] at hx
    rcases hx with rfl | rfl | rfl | rfl | rfl | rfl
    · exact hF _ (by decide)
    · exact hF _ (by decide)
    · obtain ⟨v, v1, v2⟩ := hr 0 (by decide)
      show kd_g 0 _ _ (hh 279 0)
      rw [v2]
      exact kx_gof (u := 3) (by omega) (by omega)
    · obtain ⟨v, v1, v2⟩ := hr 1 (by decide)
      show kd_g 0 _ _ (hh 279 1)
      rw [v2]
      exact kx_gof (u := 3) (by omega) (by omega)
    · obtain ⟨v, v1, v2⟩ := hr 2 (by decide)
      show kd_g 0 _ _ (hh 279 2)
      rw [v2]
      exact kx_gof (u := 3) (by omega) (by omega)
    · obtain ⟨v, v1, v2⟩ := hr 3 (by decide)
      show kd_g 0 _ _ (hh 279 3)
      rw [v2]
      exact kx_gof (u := 3) (by omega) (by omega)
  · intro σ L' hh' b1 b2 b3 b4 b5
    obtain ⟨x0, m0, g0⟩ := b2 0 _ rfl rfl
    obtain ⟨x1, m1, z1, rfl, ga, gb⟩ := b2 1 _ rfl rfl
    obtain ⟨x2, m2, g2⟩ := b2 2 _ rfl rfl
    rw [kb_s259 g0] at m0
    rw [kx_ofs (k := 4) (by decide) g2] at m2
    exact hK L' hh' b4 b5 m0 ⟨.inl z1, m1, ⟨z1, rfl, ga, gb⟩⟩ m2
def kb_t2_4 : kd_St := (35, [(2147483647, 2147483648)], 1, [(3, 259, 259), (1, 0, 2147483648), (0, 2147483652, 2147483652), (9, 0, 0), (9, 0, 0), (9, 0, 0)], [], [], [])
def kb_n2_4 : kd_St := (54, [], 0, [(3, 259, 259), (0, 2147483647, 2147483648), (0, 2147483652, 2147483652), (0, 2147483649, 2147483649), (9, 0, 0), (9, 0, 0)], [(259, 35, (0, 2147483652, 2147483652)), (279, 0, (0, 2147483648, 2147483648)), (279, 1, (0, 2147483649, 2147483649)), (279, 2, (0, 2147483650, 2147483650)), (279, 3, (0, 2147483651, 2147483651))], kb_WB, [])
theorem kb_u2_4 : kd_go kd_ty kd_x130 6 (fun pc iv n AL AS F W => [kb_n2_4].any (kd_arr kd_ty none pc iv n AL AS F W)) (kd_call kd_ty kd_xt (kd_ctl []) 600 1) (fun _ _ _ _ _ => false) 600 35 kb_t2_4.2.1 kb_t2_4.2.2.1 kb_t2_4.2.2.2.1 [] [] [] = true := by decide +kernel
theorem kb_g2_4 {g : kc_G} (hg : kc_ok g) : kb_begin g 6 2 4 := by
  intro Q hh mv L hw hm l0 l1 l2 hK
  refine kb_seg (d := 6) (AL0 := [(3, 259, 259), (0, 2147483647, 2147483648), (0, 2147483652, 2147483652), (9, 0, 0), (9, 0, 0), (9, 0, 0)]) (F0 := []) (mu := []) (mu2 := []) kd_xk130 (kd_call_r (d0 := 5) hg kd_xt_ok (kd_ctl_r [] (fun q hq => by cases hq)) 1) (by decide +kernel) (by decide +kernel) (by decide +kernel) kb_u2_4 ?_ (fun q hq => by cases hq) hw ?_
  · intro i v hi hk
    match i, hi with
    | 0, hi => obtain rfl := Option.some.inj (show some _ = some v from hi); exact ⟨_, l0, ⟨259, rfl, by decide, by decide⟩⟩
    | 1, hi => obtain rfl := Option.some.inj (show some _ = some v from hi); exact ⟨_, l1, hm⟩
    | 2, hi => obtain rfl := Option.some.inj (show some _ = some v from hi); exact ⟨_, l2, kb_ok (k := 4) (by decide)⟩
    | 3, hi => obtain rfl := Option.some.inj (show some _ = some v from hi); exact absurd hk (by decide)
    | 4, hi => obtain rfl := Option.some.inj (show some _ = some v from hi); exact absurd hk (by decide)
    | 5, hi => obtain rfl := Option.some.inj (show some _ = some v from hi); exact absurd hk (by decide)
    | i + 6, hi => exact absurd (show none = some v from hi) (by simp)
  · intro σ L' hh' b1 b2 b3 b4 b5
    obtain ⟨x0, m0, g0⟩ := b2 0 _ rfl rfl
    obtain ⟨x1, m1, z1, rfl, ga, gb⟩ := b2 1 _ rfl rfl
    obtain ⟨x2, m2, g2⟩ := b2 2 _ rfl rfl
    obtain ⟨x3, m3, g3⟩ := b2 3 _ rfl rfl
    rw [kb_s259 g0] at m0
    rw [kx_ofs (k := 4) (by decide) g2] at m2
    rw [kx_ofs (k := 1) (by decide) g3] at m3
    exact hK L' hh' b4 b5 m0 ⟨.inl z1, m1, ⟨z1, rfl, ga, gb⟩⟩ m2 m3 (kx_ofs (k := 4) (by decide) (b3 (259, 35, _) (by decide))) (fun j hj => (match j, hj with
      | 0, _ => kx_ofs (k := 0) (by decide) (b3 (279, 0, _) (by decide))
      | 1, _ => kx_ofs (k := 1) (by decide) (b3 (279, 1, _) (by decide))
      | 2, _ => kx_ofs (k := 2) (by decide) (b3 (279, 2, _) (by decide))
      | 3, _ => kx_ofs (k := 3) (by decide) (b3 (279, 3, _) (by decide))
      | j + 4, hj => absurd hj (by omega)))
def kb_s2_5 : kd_St := (54, [(2147483648, 2147483652), (2147483648, 2147483652), (2147483648, 2147483652), (2147483648, 2147483652), (2147483648, 2147483652), (2147483649, 2147483658), (2147483647, 2147483648)], 7, [(3, 259, 259), (1, 0, 2147483648), (0, 2147483653, 2147483653), (0, 2147483649, 2147483649), (9, 0, 0), (9, 0, 0)], [(260, 2, (1, 1, 2147483648)), (260, 1, (0, 2147483648, 2147483648)), (279, 0, (1, 2, 2147483648)), (279, 1, (1, 3, 2147483648)), (279, 2, (1, 4, 2147483648)), (279, 3, (1, 5, 2147483648)), (279, 4, (1, 6, 2147483648))], [], [])
def kb_m2_5 : kd_St := (206, [], 0, [(3, 259, 259), (0, 2147483647, 2147483648), (0, 2147483653, 2147483653), (9, 0, 0), (9, 0, 0), (9, 0, 0)], [], kb_W 5, [])
theorem kb_r2_5 : kd_go kd_ty kd_x130 6 (fun pc iv n AL AS F W => [kb_m2_5].any (kd_arr kd_ty none pc iv n AL AS F W)) (kd_call kd_ty kd_xt (kd_ctl kb_C2) 600 1) (fun _ _ _ _ _ => false) 600 54 kb_s2_5.2.1 kb_s2_5.2.2.1 kb_s2_5.2.2.2.1 [] kb_s2_5.2.2.2.2.1 [] = true := by decide +kernel
theorem kb_b2_5 {g : kc_G} (hg : kc_ok g) : kb_body g 6 2 5 := by
  intro Q hh mv L hw hF hm hr l0 l1 l2 l3 hK
  refine kb_seg (d := 6) (AL0 := [(3, 259, 259), (0, 2147483647, 2147483648), (0, 2147483653, 2147483653), (0, 2147483649, 2147483649), (9, 0, 0), (9, 0, 0)]) (F0 := [(260, 2, (0, 2147483649, 2147483658)), (260, 1, (0, 2147483648, 2147483648)), (279, 0, (0, 2147483648, 2147483652)), (279, 1, (0, 2147483648, 2147483652)), (279, 2, (0, 2147483648, 2147483652)), (279, 3, (0, 2147483648, 2147483652)), (279, 4, (0, 2147483648, 2147483652))]) (mu := []) (mu2 := []) kd_xk130 (kd_call_r (d0 := 5) hg kd_xt_ok (kd_ctl_r kb_C2 (kd_al_r kb_C2 ⟨kd_hold_le (kd_h122c hg) (by decide), kd_hold_le (kd_h259 hg) (by decide), kd_hold_le (kd_h263 hg) (by decide), trivial⟩)) 1) (by decide +kernel) (by decide +kernel) (by decide +kernel) kb_r2_5 ?_ ?_ hw ?_
  · intro i v hi hk
    match i, hi with
    | 0, hi => obtain rfl := Option.some.inj (show some _ = some v from hi); exact ⟨_, l0, ⟨259, rfl, by decide, by decide⟩⟩
    | 1, hi => obtain rfl := Option.some.inj (show some _ = some v from hi); exact ⟨_, l1, hm⟩
    | 2, hi => obtain rfl := Option.some.inj (show some _ = some v from hi); exact ⟨_, l2, kb_ok (k := 5) (by decide)⟩
    | 3, hi => obtain rfl := Option.some.inj (show some _ = some v from hi); exact ⟨_, l3, kb_ok (k := 1) (by decide)⟩
    | 4, hi => obtain rfl := Option.some.inj (show some _ = some v from hi); exact absurd hk (by decide)
    | 5, hi => obtain rfl := Option.some.inj (show some _ = some v from hi); exact absurd hk (by decide)
    | i + 6, hi => exact absurd (show none = some v from hi) (by simp)
  · intro x hx
    simp only [List.mem_cons, List.not_mem_nil, or_false] at hx
    rcases hx with rfl | rfl | rfl | rfl | rfl | rfl | rfl
    · exact hF _ (by decide)
    · exact hF _ (by decide)
    · obtain ⟨v, v1, v2⟩ := hr 0 (by decide)
      show kd_g 0 _ _ (hh 279 0)
      rw [v2]
      exact kx_gof (u := 4) (by omega) (by omega)
    · obtain ⟨v, v1, v2⟩ := hr 1 (by decide)
      show kd_g 0 _ _ (hh 279 1)
      rw [v2]
      exact kx_gof (u := 4) (by omega) (by omega)
    · obtain ⟨v, v1, v2⟩ := hr 2 (by decide)
      show kd_g 0 _ _ (hh 279 2)
      rw [v2]
      exact kx_gof (u := 4) (by omega) (by omega)
    · obtain ⟨v, v1, v2⟩ := hr 3 (by decide)
      show kd_g 0 _ _ (hh 279 3)
      rw [v2]
      exact kx_gof (u := 4) (by omega) (by omega)
    · obtain ⟨v, v1, v2⟩ := hr 4 (by decide)
      show kd_g 0 _ _ (hh 279 4)
      rw [v2]
      exact kx_gof (u := 4) (by omega) (by omega)
  · intro σ L' hh' b1 b2 b3 b4 b5
    obtain ⟨x0, m0, g0⟩ := b2 0 _ rfl rfl
    obtain ⟨x1, m1, z1, rfl, ga, gb⟩ := b2 1 _ rfl rfl
    obtain ⟨x2, m2, g2⟩ := b2 2 _ rfl rfl
    rw [kb_s259 g0] at m0
    rw [kx_ofs (k := 5) (by decide) g2] at m2
    exact hK L' hh' b4 b5 m0 ⟨.inl z1, m1, ⟨z1, rfl, ga, gb⟩⟩ m2
def kb_t2_5 : kd_St := (35, [(2147483647, 2147483648)], 1, [(3, 259, 259), (1, 0, 2147483648), (0, 2147483653, 2147483653), (9, 0, 0), (9, 0, 0), (9, 0, 0)], [], [], [])
def kb_n2_5 : kd_St := (54, [], 0, [(3, 259, 259), (0, 2147483647, 2147483648), (0, 2147483653, 2147483653), (0, 2147483649, 2147483649), (9, 0, 0), (9, 0, 0)], [(259, 35, (0, 2147483653, 2147483653)), (279, 0, (0, 2147483648, 2147483648)), (279, 1, (0, 2147483649, 2147483649)), (279, 2, (0, 2147483650, 2147483650)), (279, 3, (0, 2147483651, 2147483651)), (279, 4, (0, 2147483652, 2147483652))], kb_WB, [])
theorem kb_u2_5 : kd_go kd_ty kd_x130 6 (fun pc iv n AL AS F W => [kb_n2_5].any (kd_arr kd_ty none pc iv n AL AS F W)) (kd_call kd_ty kd_xt (kd_ctl []) 600 1) (fun _ _ _ _ _ => false) 600 35 kb_t2_5.2.1 kb_t2_5.2.2.1 kb_t2_5.2.2.2.1 [] [] [] = true := by decide +kernel
theorem kb_g2_5 {g : kc_G} (hg : kc_ok g) : kb_begin g 6 2 5 := by
  intro Q hh mv L hw hm l0 l1 l2 hK
  refine kb_seg (d := 6) (AL0 := [(3, 259, 259), (0, 2147483647, 2147483648), (0, 2147483653, 2147483653), (9, 0, 0), (9, 0, 0), (9, 0, 0)]) (F0 := []) (mu := []) (mu2 := []) kd_xk130 (kd_call_r (d0 := 5) hg kd_xt_ok (kd_ctl_r [] (fun q hq => by cases hq)) 1) (by decide +kernel) (by decide +kernel) (by decide +kernel) kb_u2_5 ?_ (fun q hq => by cases hq) hw ?_
  · intro i v hi hk
    match i, hi with
    | 0, hi => obtain rfl := Option.some.inj (show some _ = some v from hi); exact ⟨_, l0, ⟨259, rfl, by decide, by decide⟩⟩
    | 1, hi => obtain rfl := Option.some.inj (show some _ = some v from hi); exact ⟨_, l1, hm⟩
    | 2, hi => obtain rfl := Option.some.inj (show some _ = some v from hi); exact ⟨_, l2, kb_ok (k := 5) (by decide)⟩
    | 3, hi => obtain rfl := Option.some.inj (show some _ = some v from hi); exact absurd hk (by decide)
    | 4, hi => obtain rfl := Option.some.inj (show some _ = some v from hi); exact absurd hk (by decide)
    | 5, hi => obtain rfl := Option.some.inj (show some _ = some v from hi); exact absurd hk (by decide)
    | i + 6, hi => exact absurd (show none = some v from hi) (by simp)
  · intro σ L' hh' b1 b2 b3 b4 b5
    obtain ⟨x0, m0, g0⟩ := b2 0 _ rfl rfl
    obtain ⟨x1, m1, z1, rfl, ga, gb⟩ := b2 1 _ rfl rfl
    obtain ⟨x2, m2, g2⟩ := b2 2 _ rfl rfl
    obtain ⟨x3, m3, g3⟩ := b2 3 _ rfl rfl
    rw [kb_s259 g0] at m0
    rw [kx_ofs (k := 5) (by decide) g2] at m2
    rw [kx_ofs (k := 1) (by decide) g3] at m3
    exact hK L' hh' b4 b5 m0 ⟨.inl z1, m1, ⟨z1, rfl, ga, gb⟩⟩ m2 m3 (kx_ofs (k := 5) (by decide) (b3 (259, 35, _) (by decide))) (fun j hj => (match j, hj with
      | 0, _ => kx_ofs (k := 0) (by decide) (b3 (279, 0, _) (by decide))
      | 1, _ => kx_ofs (k := 1) (by decide) (b3 (279, 1, _) (by decide))
      | 2, _ => kx_ofs (k := 2) (by decide) (b3 (279, 2, _) (by decide))
      | 3, _ => kx_ofs (k := 3) (by decide) (b3 (279, 3, _) (by decide))
      | 4, _ => kx_ofs (k := 4) (by decide) (b3 (279, 4, _) (by decide))
      | j + 5, hj => absurd hj (by omega)))
