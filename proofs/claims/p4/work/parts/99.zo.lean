/-! ===== day, type, image, from: alike ===== -/
theorem ku_day {g : kc_G} {h : kc_H} (hg : kc_ok g) (hI : kInv h) : kc_Con g 30 67 [.inr (.inr (.inl (some 0)))] h (fun rv h1 => (∃ z : Int32, rv = some (.inl z)) ∧ kc_Con g 30 71 [.inr (.inr (.inl (some 259)))] h1 kQi) := by
  obtain ⟨t, tb, et⟩ := kr_tx hI.1 (c := 29) (Or.inl rfl)
  obtain ⟨n, n1, en⟩ := kx_ofg (by omega) (hI.1 _ _ _ kr_k1.2.2.2.2.1)
  refine kc_Con_mono (kc_Con_le (kv_day67 hg hI.1 n1 tb et en) (by decide)) (fun rv h1 hq => ?_)
  obtain ⟨hz, hw1, fr1, x1, x2, x3⟩ := hq
  refine ⟨hz, ?_⟩
  obtain ⟨-, ⟨⟨r0, r1, r2, r3, r4⟩, -, -, -⟩, hL, -, -⟩ := id hI
  have f1 : ∀ c i, ¬ (1 ≤ c ∧ c ≤ 62) → ¬ (127 ≤ c ∧ c ≤ 189) → h1 c i = h c i := fun c i a b => fr1 c i (fun q hm => by
    simp only [kv_W67, List.mem_cons, List.not_mem_nil, or_false] at hm
    rcases hm with rfl | rfl | rfl <;> exact kb_inr (by (try dsimp only); omega))
  have et1 : ∀ j, j < 240 → h1 260 (170 + j) = .inl (Int32.ofNat (t j)) := fun j hj => by
    rw [f1 260 _ (by omega) (by omega), ← et j hj, r4 j hj, Nat.zero_add]
  have en1 : h1 260 160 = .inl (Int32.ofNat n) := by
    rw [f1 260 _ (by omega) (by omega), ← en, r3]
  refine kc_Con_mono (kc_Con_le (kv_day71 hg hw1 n1 tb et1 en1) (by decide)) (fun rv h2 hq => ?_)
  obtain ⟨hz2, hw2, fr2, y1, y2, y3⟩ := hq
  refine ⟨hz2, ?_⟩
  have f2 : ∀ c i, c < 259 ∨ c = 261 ∨ c = 262 → h2 c i = h1 c i := fun c i a => fr2 c i (fun q hm => by
    simp only [kv_W71, List.mem_cons, List.not_mem_nil, or_false] at hm
    rcases hm with rfl | rfl | rfl | rfl | rfl | rfl <;> exact kb_inr (by (try dsimp only); omega))
  have hb : h2 31 0 = h2 260 (0 + 160) := by
    rw [f2 31 0 (by omega), x2, Nat.zero_add, y2, f1 260 160 (by omega) (by omega)]
    exact r3
  have htx : ∀ j, j < 240 → h2 29 j = h2 260 (0 + 170 + j) := fun j hj => by
    rw [f2 29 j (by omega), x1 j hj, Nat.zero_add, y1 j hj, f1 260 _ (by omega) (by omega)]
    have := r4 j hj
    rw [Nat.zero_add] at this
    exact this
  have far1 : ∀ c i, 63 ≤ c → c ≤ 126 → h2 c i = h c i := fun c i a b => by rw [f2 c i (by omega), f1 c i (by omega) (by omega)]
  have far2 : ∀ c i, c = 261 ∨ c = 262 → h2 c i = h c i := fun c i a => by rw [f2 c i (by omega), f1 c i (by omega) (by omega)]
  rcases x3 with ⟨o1, a0, a1, a2⟩ | ⟨D, M, L, f, o1, hC⟩
  · rcases y3 with ⟨-, b⟩ | ⟨D2, M2, L2, f2, o2, -⟩
    · have hbk : ∀ i, i < 650 → h2 260 i = h 260 i := fun i hi => by rw [b i hi, f1 260 i (by omega) (by omega)]
      refine kInv_now hI hw2 far1 far2 ⟨?_, ?_, ?_, hb, htx⟩ (kI_eq (hbk _ (by omega)) (fun i hi => hbk _ (by omega)) hL)
      · rw [f2 1 0 (by omega), a0, hbk 0 (by omega)]; exact r0
      · rw [f2 1 1 (by omega), a1, hbk (0 + 1) (by omega)]; exact r1
      · rw [f2 1 2 (by omega), a2, hbk (0 + 2) (by omega)]; exact r2
    · rw [o1] at o2
      cases o2
  · rcases y3 with ⟨o2, -⟩ | ⟨D2, M2, L2, f3, o2, hR, h3⟩
    · rw [o1] at o2
      cases o2
    · rw [o1] at o2
      cases o2
      obtain ⟨-, -, -, c0, c1, c2⟩ := hC
      obtain ⟨-, -, -, d0, d1, d2⟩ := hR
      refine kInv_now hI hw2 far1 far2 ⟨?_, ?_, ?_, hb, htx⟩ ⟨0, fun _ => 0, by decide, h3, fun i hi => absurd hi (by omega), fun i j _ hj => absurd hj (by omega)⟩
      · rw [f2 1 0 (by omega), c0]; exact d0.symm
      · rw [f2 1 1 (by omega), c1]; exact d1.symm
      · rw [f2 1 2 (by omega), c2]; exact d2.symm
theorem ku_kt : (∀ x, x < 2 → kd_rn (kd_ty 31) x = some (0, 2147483648, 2147483648 + 240)) ∧ (∀ x, x < 2 → kd_rn (kd_ty 28) x = some (3, 29 + x, 29 + x)) ∧ (∀ x, x < 2 → ∀ j, j < 240 → kd_rn (kd_ty (29 + x)) j = some (0, 2147483648, 2147483648 + 255)) := by decide +kernel
theorem ku_rlt (v : Int64) {i : Nat} (hi : i < 8) : ∃ w, w ≤ 255 ∧ kq_r v i = Int32.ofNat w := by
  rw [← kq_eq hi]
  exact kq_lt _
theorem ku_clt (v : Int64) (i : Nat) : ∃ w, w ≤ 255 ∧ kq_c v i = Int32.ofNat w := kq_lt _
theorem ku_Fwt {h : kc_H} {tc to bc bp c n : Nat} {B : Nat → Int32} (hw : kd_wt kd_ty h) (hn : n ≤ 8) (hcn : c + n ≤ 240) (hB : ∀ i, i < 8 → ∃ w, w ≤ 255 ∧ B i = Int32.ofNat w) (k1 : kd_rn (kd_ty bc) bp = some (0, 2147483648, 2147483648 + 240)) (k2 : ∀ j, j < 240 → kd_rn (kd_ty tc) (to + j) = some (0, 2147483648, 2147483648 + 255)) : kd_wt kd_ty (kq_F h tc to bc bp c B n n) := by
  intro a b v hv
  unfold kq_F
  split
  · rename_i e
    obtain ⟨rfl, rfl⟩ := e
    rw [k1] at hv
    cases hv
    exact kx_gof (by omega) (by omega)
  · split
    · rename_i e
      obtain ⟨rfl, e1, e2⟩ := e
      have := k2 (b - to) (by omega)
      rw [show to + (b - to) = b from by omega, hv] at this
      cases this
      obtain ⟨w, w1, w2⟩ := hB (n - 1 - (b - (to + c))) (by omega)
      rw [w2]
      exact kx_gof (by omega) w1
    · exact hw a b v hv
theorem ku_typ {g : kc_G} {h : kc_H} {x n : Nat} {v : Int64} (hg : kc_ok g) (hI : kInv h) (hx : x < 2) (n1 : 1 ≤ n) (n8 : n ≤ 8) : kc_Con g 30 54 [.inr (.inr (.inl (some 0))), .inl (Int32.ofNat x), .inr (.inl v), .inl (Int32.ofNat n)] h (fun rv h1 => (∃ z : Int32, rv = some (.inl z)) ∧ kc_Con g 30 56 [.inr (.inr (.inl (some 259))), .inl (Int32.ofNat x), .inr (.inl v), .inl (Int32.ofNat n)] h1 kQi) := by
  obtain ⟨c, c1, ec⟩ := kx_ofg (by omega) (hI.1 _ _ _ (ku_kt.1 x hx))
  obtain ⟨c', c1', ec'⟩ := kx_ofg (by omega) (hI.1 _ _ _ (km_k260.1 x hx))
  refine kc_Con_mono (kc_Con_le (kq_54 (d := 0) (v := v) hg (kx_ofr (hI.1 _ _ _ kv_k0.1)) hx (kx_ofr (hI.1 _ _ _ kr_k1.1)) (kx_ofr (hI.1 _ _ _ kr_k1.2.1)) (kx_ofr (hI.1 _ _ _ (ku_kt.2.1 x hx))) ec n1 n8 c1) (by decide)) (fun rv h1 hq => ?_)
  obtain ⟨z, rfl, hq⟩ := hq
  refine ⟨⟨z, rfl⟩, ?_⟩
  have hw1 : kd_wt kd_ty h1 := by
    rcases hq with ⟨a, rfl⟩ | ⟨-, rfl⟩
    · exact ku_Fwt hI.1 n8 a (fun i _ => ku_clt v i) (ku_kt.1 x hx) (fun j hj => by rw [Nat.zero_add]; exact ku_kt.2.2 x hx j hj)
    · exact hI.1
  have f1 : ∀ a b, ¬ (a = 31 ∧ b = x) → ¬ (a = 29 + x) → h1 a b = h a b := fun a b q1 q2 => by
    rcases hq with ⟨-, rfl⟩ | ⟨-, rfl⟩
    · exact kq_o (by omega) (Or.inl q2)
    · rfl
  have ec1 : h1 260 (160 + x) = .inl (Int32.ofNat c') := by rw [f1 260 _ (by omega) (by omega)]; exact ec'
  refine kc_Con_mono (kc_Con_le (kq_56 (d := 0) (v := v) hg hx (kx_ofr (hw1 _ _ _ kz_k.1)) ec1 n1 n8 c1') (by decide)) (fun rv h2 hq2 => ?_)
  obtain ⟨z2, rfl, hq2⟩ := hq2
  refine ⟨⟨z2, rfl⟩, ?_⟩
  have hw2 : kd_wt kd_ty h2 := by
    rcases hq2 with ⟨a, rfl⟩ | ⟨-, rfl⟩
    · exact ku_Fwt hw1 n8 a (fun i hi => ku_rlt v hi) (km_k260.1 x hx) (fun j hj => by rw [show 170 + 240 * x + j = 170 + (240 * x + j) from by omega]; exact km_k260.2 _ (by omega))
    · exact hw1
  have f2 : ∀ a b, ¬ (a = 260 ∧ b = 160 + x) → ¬ (a = 260 ∧ 170 + 240 * x ≤ b ∧ b < 410 + 240 * x) → h2 a b = h1 a b := fun a b q1 q2 => by
    rcases hq2 with ⟨a0, rfl⟩ | ⟨-, rfl⟩
    · exact kq_o (by omega) (by omega)
    · rfl
  obtain ⟨-, ⟨⟨r0, r1, r2, r3, r4⟩, -, -, -⟩, hL, -, -⟩ := id hI
  refine kInv_now hI hw2 (fun a b q1 q2 => by rw [f2 a b (by omega) (by omega), f1 a b (by omega) (by omega)]) (fun a b q => by rw [f2 a b (by omega) (by omega), f1 a b (by omega) (by omega)]) ⟨?_, ?_, ?_, ?_, fun j hj => ?_⟩ (kI_eq (by rw [f2 _ _ (by omega) (by omega), f1 _ _ (by omega) (by omega)]) (fun i hi => by rw [f2 _ _ (by omega) (by omega), f1 _ _ (by omega) (by omega)]) hL)
  · rw [f2 1 0 (by omega) (by omega), f1 1 0 (by omega) (by omega), f2 260 0 (by omega) (by omega), f1 260 0 (by omega) (by omega)]; exact r0
  · rw [f2 1 1 (by omega) (by omega), f1 1 1 (by omega) (by omega), f2 260 (0 + 1) (by omega) (by omega), f1 260 (0 + 1) (by omega) (by omega)]; exact r1
  · rw [f2 1 2 (by omega) (by omega), f1 1 2 (by omega) (by omega), f2 260 (0 + 2) (by omega) (by omega), f1 260 (0 + 2) (by omega) (by omega)]; exact r2
  · rcases (show x = 0 ∨ x = 1 by omega) with rfl | rfl
    · have ecc : c' = c := by
        rw [show 160 + 0 = 0 + 160 from rfl, ← r3, ec] at ec'
        have e4 : (Int32.ofNat c).toInt = (Int32.ofNat c').toInt := by rw [Sum.inl.inj ec']
        rw [kx_ti (by omega), kx_ti (by omega)] at e4
        omega
      subst ecc
      rw [f2 31 0 (by omega) (by omega)]
      rcases hq with ⟨a, rfl⟩ | ⟨a, rfl⟩
      · rcases hq2 with ⟨a2, rfl⟩ | ⟨a2, -⟩
        · exact kq_b.trans (kq_b (bp := 160 + 0)).symm
        · omega
      · rcases hq2 with ⟨a2, -⟩ | ⟨-, rfl⟩
        · omega
        · exact r3
    · rw [f2 31 0 (by omega) (by omega), f1 31 0 (by omega) (by omega), f2 260 _ (by omega) (by omega), f1 260 _ (by omega) (by omega)]; exact r3
  · rcases (show x = 0 ∨ x = 1 by omega) with rfl | rfl
    · have ecc : c' = c := by
        rw [show 160 + 0 = 0 + 160 from rfl, ← r3, ec] at ec'
        have e4 : (Int32.ofNat c).toInt = (Int32.ofNat c').toInt := by rw [Sum.inl.inj ec']
        rw [kx_ti (by omega), kx_ti (by omega)] at e4
        omega
      subst ecc
      rw [f2 29 j (by omega) (by omega)]
      rcases hq with ⟨a, rfl⟩ | ⟨a, rfl⟩
      · rcases hq2 with ⟨a2, rfl⟩ | ⟨a2, -⟩
        · by_cases e : c' ≤ j ∧ j < c' + n
          · have g1 : kq_F h (29 + 0) 0 31 0 c' (kq_c v) n n 29 j = .inl (kq_c v (n - 1 - (j - c'))) := by
              unfold kq_F
              rw [if_neg (by omega), if_pos ⟨rfl, by omega, by omega⟩, Nat.zero_add]
            rw [g1]
            unfold kq_F
            rw [if_neg (by omega), if_pos ⟨rfl, by omega, by omega⟩, show 0 + 170 + j - (170 + 240 * 0 + c') = j - c' from by omega, kq_eq (by omega)]
          · rw [kq_o (by omega) (by omega), kq_o (by omega) (by omega), kq_o (by omega) (by omega)]
            exact r4 j hj
        · omega
      · rcases hq2 with ⟨a2, -⟩ | ⟨-, rfl⟩
        · omega
        · exact r4 j hj
    · rw [f2 29 j (by omega) (by omega), f1 29 j (by omega) (by omega), f2 260 _ (by omega) (by omega), f1 260 _ (by omega) (by omega)]; exact r4 j hj
theorem ku_nat {a : Int32} {u : Nat} (h0 : 0 ≤ a.toInt) (h1 : a.toInt ≤ u) : ∃ k : Nat, k ≤ u ∧ a.toInt = k ∧ a = Int32.ofNat k := by
  have := kv_hi a
  exact ⟨a.toInt.toNat, by omega, by omega, Int32.toInt_inj.mp (by rw [kx_ti (by omega)]; omega)⟩
theorem ku_tJ (v : Int64) : kd_g 0 (fun _ => 0) (2, 0, 18446744073709551615) (.inr (.inl v)) := ⟨v, rfl, Nat.zero_le _, kd_nj_J v⟩
theorem ku_type {g : kc_G} {h : kc_H} {a e : Int32} {v : Int64} (hg : kc_ok g) (hI : kInv h) : kc_Con g 30 54 [.inr (.inr (.inl (some 0))), .inl a, .inr (.inl v), .inl e] h (fun rv h1 => (∃ z : Int32, rv = some (.inl z)) ∧ kc_Con g 30 56 [.inr (.inr (.inl (some 259))), .inl a, .inr (.inl v), .inl e] h1 kQi) := by
  have alo := kv_lo a
  have ahi := kv_hi a
  have elo := kv_lo e
  have ehi := kv_hi e
  rcases (show (0 ≤ a.toInt ∧ a.toInt ≤ 1 ∧ 1 ≤ e.toInt ∧ e.toInt ≤ 8) ∨ a.toInt < 0 ∨ 1 < a.toInt ∨ (a.toInt = 0 ∧ e.toInt < 1) ∨ (a.toInt = 0 ∧ 8 < e.toInt) ∨ (a.toInt = 1 ∧ e.toInt < 1) ∨ (a.toInt = 1 ∧ 8 < e.toInt) by omega) with k | k | k | k | k | k | k
  · obtain ⟨x, x1, -, rfl⟩ := ku_nat (u := 1) k.1 (by omega)
    obtain ⟨n, n1, en, rfl⟩ := ku_nat (a := e) (u := 8) (by omega) (by omega)
    exact ku_typ hg hI (by omega) (by omega) n1
  · refine kc_Con_mono (kc_Con_le (kO_ii (kd_h54tl hg) (by decide +kernel) hI ⟨⟨0, rfl, by decide, by decide⟩, kv_gi (by omega) (by omega), ku_tJ v, kv_gi (by omega) (by omega), trivial⟩ (fun q hq => by cases hq)) (by decide)) (fun rv h1 hq => ⟨hq.1, ?_⟩)
    exact kc_Con_le (kO_ii (kd_h56tl hg) (by decide +kernel) hq.2 ⟨⟨259, rfl, by decide, by decide⟩, kv_gi (by omega) (by omega), ku_tJ v, kv_gi (by omega) (by omega), trivial⟩ (fun q hq => by cases hq)) (by decide)
  · refine kc_Con_mono (kc_Con_le (kO_ii (kd_h54th hg) (by decide +kernel) hI ⟨⟨0, rfl, by decide, by decide⟩, kv_gi (by omega) (by omega), ku_tJ v, kv_gi (by omega) (by omega), trivial⟩ (fun q hq => by cases hq)) (by decide)) (fun rv h1 hq => ⟨hq.1, ?_⟩)
    exact kc_Con_le (kO_ii (kd_h56th hg) (by decide +kernel) hq.2 ⟨⟨259, rfl, by decide, by decide⟩, kv_gi (by omega) (by omega), ku_tJ v, kv_gi (by omega) (by omega), trivial⟩ (fun q hq => by cases hq)) (by decide)
  · refine kc_Con_mono (kc_Con_le (kO_ii (kd_h54nl hg) (by decide +kernel) hI ⟨⟨0, rfl, by decide, by decide⟩, kv_gi (by omega) (by omega), ku_tJ v, kv_gi (by omega) (by omega), trivial⟩ (fun q hq => by cases hq)) (by decide)) (fun rv h1 hq => ⟨hq.1, ?_⟩)
    exact kc_Con_le (kO_ii (kd_h56nl hg) (by decide +kernel) hq.2 ⟨⟨259, rfl, by decide, by decide⟩, kv_gi (by omega) (by omega), ku_tJ v, kv_gi (by omega) (by omega), trivial⟩ (fun q hq => by cases hq)) (by decide)
  · refine kc_Con_mono (kc_Con_le (kO_ii (kd_h54nh hg) (by decide +kernel) hI ⟨⟨0, rfl, by decide, by decide⟩, kv_gi (by omega) (by omega), ku_tJ v, kv_gi (by omega) (by omega), trivial⟩ (fun q hq => by cases hq)) (by decide)) (fun rv h1 hq => ⟨hq.1, ?_⟩)
    exact kc_Con_le (kO_ii (kd_h56nh hg) (by decide +kernel) hq.2 ⟨⟨259, rfl, by decide, by decide⟩, kv_gi (by omega) (by omega), ku_tJ v, kv_gi (by omega) (by omega), trivial⟩ (fun q hq => by cases hq)) (by decide)
  · refine kc_Con_mono (kc_Con_le (kO_ii (kd_h54ml hg) (by decide +kernel) hI ⟨⟨0, rfl, by decide, by decide⟩, kv_gi (by omega) (by omega), ku_tJ v, kv_gi (by omega) (by omega), trivial⟩ (fun q hq => by cases hq)) (by decide)) (fun rv h1 hq => ⟨hq.1, ?_⟩)
    exact kc_Con_le (kO_ii (kd_h56ml hg) (by decide +kernel) hq.2 ⟨⟨259, rfl, by decide, by decide⟩, kv_gi (by omega) (by omega), ku_tJ v, kv_gi (by omega) (by omega), trivial⟩ (fun q hq => by cases hq)) (by decide)
  · refine kc_Con_mono (kc_Con_le (kO_ii (kd_h54mh hg) (by decide +kernel) hI ⟨⟨0, rfl, by decide, by decide⟩, kv_gi (by omega) (by omega), ku_tJ v, kv_gi (by omega) (by omega), trivial⟩ (fun q hq => by cases hq)) (by decide)) (fun rv h1 hq => ⟨hq.1, ?_⟩)
    exact kc_Con_le (kO_ii (kd_h56mh hg) (by decide +kernel) hq.2 ⟨⟨259, rfl, by decide, by decide⟩, kv_gi (by omega) (by omega), ku_tJ v, kv_gi (by omega) (by omega), trivial⟩ (fun q hq => by cases hq)) (by decide)
