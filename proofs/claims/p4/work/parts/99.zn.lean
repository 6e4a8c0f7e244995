/-! ===== calls that change what is alike, the same on both sides: door, mule, load, clear, line, unline ===== -/
theorem ku_C {h : kc_H} (hw : kd_wt kd_ty h) : ∃ D M L, kv_C h D M L := by
  obtain ⟨D, d1, d2⟩ := kx_ofg (by omega) (hw _ _ _ kt_k1.2.2.1)
  obtain ⟨M, m1, m2⟩ := kx_ofg (by omega) (hw _ _ _ kt_k1.2.2.2.1)
  obtain ⟨L, l1, l2⟩ := kx_ofg (by omega) (hw _ _ _ kt_k1.2.2.2.2.1)
  exact ⟨D, M, L, d1, m1, l1, d2, m2, l2⟩
def ku_s (h h2 : kc_H) (i0 : Nat) : Prop := ∀ c i, (c = 1 ∧ i < 3 ∧ ¬ i = i0) ∨ c = 29 ∨ c = 31 ∨ (63 ≤ c ∧ c ≤ 126) ∨ (c = 260 ∧ ((i < 4 ∧ ¬ i = i0) ∨ 150 ≤ i)) ∨ c = 261 ∨ c = 262 → h2 c i = h c i
theorem ku_cnt {h h2 : kc_H} {i0 : Nat} (hI : kInv h) (hw : kd_wt kd_ty h2) (h3 : i0 < 3) (hs : ku_s h h2 i0) (e : h2 1 i0 = h2 260 i0) : kInv h2 := by
  obtain ⟨-, ⟨⟨r0, r1, r2, r3, r4⟩, -, -, -⟩, hL, -, -⟩ := id hI
  have hc : ∀ i, i < 3 → h2 1 i = h2 260 (0 + i) := fun i hi => by
    rw [Nat.zero_add]
    by_cases q : i = i0
    · rw [q]; exact e
    · rw [hs 1 i (by omega), hs 260 i (by omega)]
      rcases (show i = 0 ∨ i = 1 ∨ i = 2 by omega) with rfl | rfl | rfl
      · exact r0
      · exact r1
      · exact r2
  refine kInv_now hI hw (fun c i a b => hs c i (by omega)) (fun c i a => hs c i (by omega)) ⟨hc 0 (by decide), hc 1 (by decide), hc 2 (by decide), ?_, fun j hj => ?_⟩ (kI_eq (hs _ _ (by omega)) (fun i hi => hs _ _ (by omega)) hL)
  · rw [hs 31 0 (by omega), hs 260 (0 + 160) (by omega)]; exact r3
  · rw [hs 29 j (by omega), hs 260 (0 + 170 + j) (by omega)]; exact r4 j hj
theorem ku_R {h h1 : kc_H} {D M L : Nat} (hI : kInv h) (hC : kv_C h D M L) (e : ∀ i, i < 3 → h1 260 i = h 260 i) : kv_R h1 D M L := by
  obtain ⟨-, ⟨⟨r0, r1, r2, -, -⟩, -, -, -⟩, -, -, -⟩ := hI
  obtain ⟨a, b, c, eD, eM, eL⟩ := hC
  exact ⟨a, b, c, (e 0 (by decide)).trans (r0.symm.trans eD), (e 1 (by decide)).trans (r1.symm.trans eM), (e 2 (by decide)).trans (r2.symm.trans eL)⟩
theorem ku_door {g : kc_G} {h : kc_H} (hg : kc_ok g) (hI : kInv h) : kc_Con g 30 13 [.inr (.inr (.inl (some 0)))] h (fun rv h1 => ∃ z : Int32, rv = some (.inl z) ∧ kc_Con g 30 15 [.inr (.inr (.inl (some 259)))] h1 (fun rv2 h2 => rv2 = some (.inl z) ∧ kInv h2)) := by
  obtain ⟨D, M, L, hC⟩ := ku_C hI.1
  refine kc_Con_mono (kc_Con_le (kv_tdoor hg hI.1 hC) (by decide)) (fun rv h1 hq => ?_)
  obtain ⟨z, rfl, hw1, fr1, hq⟩ := hq
  have hR1 := ku_R (h1 := h1) hI hC (fun i hi => fr1 260 i (fun q hm => by simp only [List.mem_cons, List.not_mem_nil, or_false] at hm; rcases hm with rfl <;> exact kb_inr (by (try dsimp only); omega)))
  refine ⟨z, rfl, kc_Con_mono (kc_Con_le (kv_rdoor hg hw1 hR1) (by decide)) (fun rv h2 hq2 => ?_)⟩
  obtain ⟨z2, rfl, hw2, fr2, hq2⟩ := hq2
  have hs : ku_s h h2 0 := by
    intro c i hq
    rw [fr2 c i (fun q hm => by
      simp only [List.mem_cons, List.not_mem_nil, or_false] at hm
      rcases hm with rfl <;> exact kb_inr (by (try dsimp only); omega))]
    exact fr1 c i (fun q hm => by
      simp only [List.mem_cons, List.not_mem_nil, or_false] at hm
      rcases hm with rfl <;> exact kb_inr (by (try dsimp only); omega))
  rcases hq with ⟨k, ez, e1⟩ | ⟨k, ez, e1⟩
  · rcases hq2 with ⟨k2, ez2, e2⟩ | ⟨k2, ez2, e2⟩
    · refine ⟨by rw [ez, ez2], ku_cnt hI hw2 (i0 := 0) (by decide) hs ?_⟩
      rw [fr2 1 0 (fun q hm => by simp only [List.mem_cons, List.not_mem_nil, or_false] at hm; rcases hm with rfl <;> exact kb_inr (by (try dsimp only); omega)), e1, e2]
    · exact absurd k k2
  · rcases hq2 with ⟨k2, ez2, e2⟩ | ⟨k2, ez2, e2⟩
    · exact absurd k2 k
    · refine ⟨by rw [ez, ez2], ?_⟩
      rw [e2, e1]
      exact hI
theorem ku_mule {g : kc_G} {h : kc_H} {a b c : Int32} (hg : kc_ok g) (hI : kInv h) : kc_Con g 30 32 [.inr (.inr (.inl (some 0))), .inl a, .inl b, .inl c] h (fun rv h1 => (∃ z : Int32, rv = some (.inl z)) ∧ kc_Con g 30 34 [.inr (.inr (.inl (some 259))), .inl a, .inl b, .inl c] h1 kQi) := by
  obtain ⟨D, M, L, hC⟩ := ku_C hI.1
  refine kc_Con_mono (kc_Con_le (kv_tmule hg hI.1 hC) (by decide)) (fun rv h1 hq => ?_)
  obtain ⟨z, rfl, hw1, fr1, hq⟩ := hq
  have hR1 := ku_R (h1 := h1) hI hC (fun i hi => fr1 260 i (fun q hm => by simp only [List.mem_cons, List.not_mem_nil, or_false] at hm; rcases hm with rfl | rfl <;> exact kb_inr (by (try dsimp only); omega)))
  refine ⟨⟨z, rfl⟩, kc_Con_mono (kc_Con_le (kv_rmule hg hw1 hR1) (by decide)) (fun rv h2 hq2 => ?_)⟩
  obtain ⟨z2, rfl, hw2, fr2, hq2⟩ := hq2
  refine ⟨⟨z2, rfl⟩, ?_⟩
  have hs : ku_s h h2 1 := by
    intro c i hq
    rw [fr2 c i (fun q hm => by
      simp only [List.mem_cons, List.not_mem_nil, or_false] at hm
      rcases hm with rfl | rfl <;> exact kb_inr (by (try dsimp only); omega))]
    exact fr1 c i (fun q hm => by
      simp only [List.mem_cons, List.not_mem_nil, or_false] at hm
      rcases hm with rfl | rfl <;> exact kb_inr (by (try dsimp only); omega))
  rcases hq with ⟨k, -, e1⟩ | ⟨k, -, e1⟩
  · rcases hq2 with ⟨k2, -, e2⟩ | ⟨k2, -, e2⟩
    · refine ku_cnt hI hw2 (i0 := 1) (by decide) hs ?_
      rw [fr2 1 1 (fun q hm => by simp only [List.mem_cons, List.not_mem_nil, or_false] at hm; rcases hm with rfl | rfl <;> exact kb_inr (by (try dsimp only); omega)), e1, e2]
    · exact absurd k k2
  · rcases hq2 with ⟨k2, -, e2⟩ | ⟨k2, -, e2⟩
    · exact absurd k2 k
    · rw [e2, e1]
      exact hI
theorem ku_load {g : kc_G} {h : kc_H} {a b c e : Int32} (hg : kc_ok g) (hI : kInv h) : kc_Con g 30 41 [.inr (.inr (.inl (some 0))), .inl a, .inl b, .inl c, .inl e] h (fun rv h1 => (∃ z : Int32, rv = some (.inl z)) ∧ kc_Con g 30 43 [.inr (.inr (.inl (some 259))), .inl a, .inl b, .inl c, .inl e] h1 kQi) := by
  obtain ⟨D, M, L, hC⟩ := ku_C hI.1
  refine kc_Con_mono (kc_Con_le (kv_tload hg hI.1 hC) (by decide)) (fun rv h1 hq => ?_)
  obtain ⟨z, rfl, hw1, fr1, hq⟩ := hq
  have hR1 := ku_R (h1 := h1) hI hC (fun i hi => fr1 260 i (fun q hm => by simp only [List.mem_cons, List.not_mem_nil, or_false] at hm; rcases hm with rfl | rfl <;> exact kb_inr (by (try dsimp only); omega)))
  refine ⟨⟨z, rfl⟩, kc_Con_mono (kc_Con_le (kv_rload hg hw1 hR1) (by decide)) (fun rv h2 hq2 => ?_)⟩
  obtain ⟨z2, rfl, hw2, fr2, hq2⟩ := hq2
  refine ⟨⟨z2, rfl⟩, ?_⟩
  have hs : ku_s h h2 2 := by
    intro c i hq
    rw [fr2 c i (fun q hm => by
      simp only [List.mem_cons, List.not_mem_nil, or_false] at hm
      rcases hm with rfl | rfl <;> exact kb_inr (by (try dsimp only); omega))]
    exact fr1 c i (fun q hm => by
      simp only [List.mem_cons, List.not_mem_nil, or_false] at hm
      rcases hm with rfl | rfl <;> exact kb_inr (by (try dsimp only); omega))
  rcases hq with ⟨k, -, e1⟩ | ⟨k, -, e1⟩
  · rcases hq2 with ⟨k2, -, e2⟩ | ⟨k2, -, e2⟩
    · refine ku_cnt hI hw2 (i0 := 2) (by decide) hs ?_
      rw [fr2 1 2 (fun q hm => by simp only [List.mem_cons, List.not_mem_nil, or_false] at hm; rcases hm with rfl | rfl <;> exact kb_inr (by (try dsimp only); omega)), e1, e2]
    · exact absurd k k2
  · rcases hq2 with ⟨k2, -, e2⟩ | ⟨k2, -, e2⟩
    · exact absurd k2 k
    · rw [e2, e1]
      exact hI
theorem ku_clear {g : kc_G} {h : kc_H} {a : Int32} (hg : kc_ok g) (hI : kInv h) : kc_Con g 30 58 [.inr (.inr (.inl (some 0))), .inl a] h (fun rv h1 => (∃ z : Int32, rv = some (.inl z)) ∧ kc_Con g 30 59 [.inr (.inr (.inl (some 259))), .inl a] h1 kQi) := by
  have lo := kv_lo a
  have hi := kv_hi a
  rcases (show a.toInt = 0 ∨ a.toInt = 1 ∨ a.toInt < 0 ∨ 1 < a.toInt by omega) with k | k | k | k
  · refine kc_Con_mono (kc_Con_le (kd_h58t0 hg _ h hI.1 ⟨⟨0, rfl, by decide, by decide⟩, kv_gi (by omega) (by omega), trivial⟩ (fun q hq => by cases hq)) (by decide)) (fun rv h1 hq => ?_)
    obtain ⟨p, p1, p2, p3, hw1, fr1⟩ := hq
    obtain rfl := List.mem_singleton.mp p1
    have e1 := kx_ofs (k := 0) (by decide) (p3 (31, 0, _) List.mem_cons_self)
    refine ⟨?_, ?_⟩
    · cases rv with
      | none => exact p2.elim
      | some y => obtain ⟨z, rfl, -, -⟩ := p2; exact ⟨z, rfl⟩
    refine kc_Con_mono (kc_Con_le (kd_h59t0 hg _ h1 hw1 ⟨⟨259, rfl, by decide, by decide⟩, kv_gi (by omega) (by omega), trivial⟩ (fun q hq => by cases hq)) (by decide)) (fun rv h2 hq => ?_)
    obtain ⟨p, p1, p2, p3, hw2, fr2⟩ := hq
    obtain rfl := List.mem_singleton.mp p1
    have e2 := kx_ofs (k := 0) (by decide) (p3 (260, 160, _) List.mem_cons_self)
    refine ⟨?_, ?_⟩
    · cases rv with
      | none => exact p2.elim
      | some y => obtain ⟨z, rfl, -, -⟩ := p2; exact ⟨z, rfl⟩
    have hs : ∀ c i, ¬ (c = 31 ∧ i = 0) → ¬ (c = 260 ∧ i = 160) → h2 c i = h c i := fun c i n1 n2 => by
      rw [fr2 c i (fun q hm => by obtain rfl := List.mem_singleton.mp hm; exact kb_inr (by (try dsimp only); omega))]
      exact fr1 c i (fun q hm => by obtain rfl := List.mem_singleton.mp hm; exact kb_inr (by (try dsimp only); omega))
    obtain ⟨-, ⟨⟨r0, r1, r2, r3, r4⟩, -, -, -⟩, hL, -, -⟩ := id hI
    refine kInv_now hI hw2 (fun c i a b => hs c i (by omega) (by omega)) (fun c i a => hs c i (by omega) (by omega)) ⟨?_, ?_, ?_, ?_, fun j hj => ?_⟩ (kI_eq (hs _ _ (by omega) (by omega)) (fun i hi => hs _ _ (by omega) (by omega)) hL)
    · rw [hs 1 0 (by omega) (by omega), hs 260 0 (by omega) (by omega)]; exact r0
    · rw [hs 1 1 (by omega) (by omega), hs 260 (0 + 1) (by omega) (by omega)]; exact r1
    · rw [hs 1 2 (by omega) (by omega), hs 260 (0 + 2) (by omega) (by omega)]; exact r2
    · rw [fr2 31 0 (fun q hm => by obtain rfl := List.mem_singleton.mp hm; exact kb_inr (by (try dsimp only); omega)), e1]
      exact e2.symm
    · rw [hs 29 j (by omega) (by omega), hs 260 (0 + 170 + j) (by omega) (by omega)]; exact r4 j hj
  · refine kc_Con_mono (kc_Con_le (kO_ii (kd_h58t1 hg) (by decide +kernel) hI ⟨⟨0, rfl, by decide, by decide⟩, kv_gi (by omega) (by omega), trivial⟩ (fun q hq => by cases hq)) (by decide)) (fun rv h1 hq => ⟨hq.1, ?_⟩)
    exact kc_Con_le (kO_ii (kd_h59t1 hg) (by decide +kernel) hq.2 ⟨⟨259, rfl, by decide, by decide⟩, kv_gi (by omega) (by omega), trivial⟩ (fun q hq => by cases hq)) (by decide)
  · refine kc_Con_mono (kc_Con_le (kO_ii (kd_h58tl hg) (by decide +kernel) hI ⟨⟨0, rfl, by decide, by decide⟩, kv_gi (by omega) (by omega), trivial⟩ (fun q hq => by cases hq)) (by decide)) (fun rv h1 hq => ⟨hq.1, ?_⟩)
    exact kc_Con_le (kO_ii (kd_h59tl hg) (by decide +kernel) hq.2 ⟨⟨259, rfl, by decide, by decide⟩, kv_gi (by omega) (by omega), trivial⟩ (fun q hq => by cases hq)) (by decide)
  · refine kc_Con_mono (kc_Con_le (kO_ii (kd_h58th hg) (by decide +kernel) hI ⟨⟨0, rfl, by decide, by decide⟩, kv_gi (by omega) (by omega), trivial⟩ (fun q hq => by cases hq)) (by decide)) (fun rv h1 hq => ⟨hq.1, ?_⟩)
    exact kc_Con_le (kO_ii (kd_h59th hg) (by decide +kernel) hq.2 ⟨⟨259, rfl, by decide, by decide⟩, kv_gi (by omega) (by omega), trivial⟩ (fun q hq => by cases hq)) (by decide)
theorem kO_runline {g : kc_G} {h : kc_H} (hg : kc_ok g) (hI : kInv h) : kc_Con g 30 96 [.inr (.inr (.inl (some 259)))] h kQi := by
  refine kc_Con_mono (kc_Con_le (kd_h96k hg _ h hI.1 ⟨⟨259, rfl, by decide, by decide⟩, trivial⟩ (fun q hq => by cases hq)) (by decide)) (fun rv h2 hq => ?_)
  obtain ⟨p, p1, p2, p3, hw2, fr2⟩ := hq
  obtain rfl := List.mem_singleton.mp p1
  have e2 := kx_ofs (k := 0) (by decide) (p3 (260, 3, _) List.mem_cons_self)
  refine ⟨?_, ?_⟩
  · cases rv with
    | none => exact p2.elim
    | some y => obtain ⟨z, rfl, -, -⟩ := p2; exact ⟨z, rfl⟩
  have hs : ∀ c i, ¬ (c = 260 ∧ i = 3) → h2 c i = h c i := fun c i n1 => fr2 c i (fun q hm => by obtain rfl := List.mem_singleton.mp hm; exact kb_inr (by (try dsimp only); omega))
  obtain ⟨-, ⟨r, -, -, -⟩, hL, -, -⟩ := id hI
  exact kInv_now hI hw2 (fun c i a b => hs c i (by omega)) (fun c i a => hs c i (by omega)) (kR1_eq (fun i hi => hs _ _ (by omega)) (fun i hi => hs _ _ (by omega)) (hs _ _ (by omega)) (hs _ _ (by omega)) (fun j hj => hs _ _ (by omega)) (fun j hj => hs _ _ (by omega)) r) ⟨0, fun _ => 0, by decide, e2, fun i hi => absurd hi (by omega), fun i j _ hj => absurd hj (by omega)⟩
theorem ku_k260 : kd_rn (kd_ty 260) 0 = some (0, 2147483648, 2147483648 + 5) := by decide +kernel
theorem ku_w2 {h : kc_H} {n dd : Nat} (hw : kd_wt kd_ty h) (hn : n < 5) (hdd : dd ≤ 5) : kd_wt kd_ty (kc_upd (kc_upd h 260 (150 + n) (.inl (Int32.ofNat dd))) 260 3 (.inl (Int32.ofNat (n + 1)))) := by
  intro c i v hv
  unfold kc_upd
  split
  · rename_i e
    obtain ⟨rfl, rfl⟩ := e
    rw [kb_k6] at hv
    cases hv
    exact kx_gof (by omega) (by omega)
  · split
    · rename_i e
      obtain ⟨rfl, rfl⟩ := e
      rw [(kb_k5 n hn).1] at hv
      cases hv
      exact kx_gof (by omega) hdd
    · exact hw c i v hv
theorem kO_rline {g : kc_G} {h : kc_H} {a : Int32} (hg : kc_ok g) (hI : kInv h) : kc_Con g 30 94 [.inr (.inr (.inl (some 259))), .inl a] h kQi := by
  have lo := kv_lo a
  have hi := kv_hi a
  rcases (show (1 ≤ a.toInt ∧ a.toInt ≤ 5) ∨ a.toInt < 1 ∨ 5 < a.toInt by omega) with k | k | k
  · obtain ⟨dd, hdd, rfl⟩ : ∃ dd : Nat, (1 ≤ dd ∧ dd ≤ 5) ∧ a = Int32.ofNat dd := ⟨a.toInt.toNat, by omega, Int32.toInt_inj.mp (by rw [kx_ti (by omega)]; omega)⟩
    obtain ⟨D, hD5, hD⟩ := kx_ofg (by omega) (hI.1 _ _ _ ku_k260)
    obtain ⟨-, ⟨r, -, -, -⟩, ⟨n, l, n5, en, el, hd⟩, -, -⟩ := id hI
    rw [Nat.zero_add] at en
    have hex : ∀ i, ∃ v, i < 5 → v ≤ 5 ∧ h 260 (150 + i) = .inl (Int32.ofNat v) ∧ (i < n → v = l i) := fun i => by
      by_cases h5 : i < 5
      · by_cases hin : i < n
        · refine ⟨l i, fun _ => ⟨(el i hin).2.1, ?_, fun _ => rfl⟩⟩
          have := (el i hin).2.2
          rw [Nat.zero_add] at this
          exact this
        · obtain ⟨v, v1, v2⟩ := kx_ofg (by omega) (hI.1 _ _ _ (kb_k5 i h5).1)
          exact ⟨v, fun _ => ⟨v1, v2, fun q => absurd q hin⟩⟩
      · exact ⟨0, fun q => absurd q h5⟩
    obtain ⟨m, hm⟩ := Classical.axiomOfChoice hex
    have key := kl_line (d := 0) (h := h) (D := D) (n := n) (dd := dd) (l := m) hg n5 hdd hD hD5 en (fun i hi => (hm i hi).2.1) (fun i hi => (hm i hi).1) (fun i hi => by rw [(hm i (by omega)).2.2 hi]; exact (el i hi).1) (fun i j hij hj => by rw [(hm i (by omega)).2.2 (by omega), (hm j (by omega)).2.2 hj]; exact hd i j hij hj)
    rw [kz_wid hI.1] at key
    refine kc_Con_mono (kc_Con_le key (by decide)) (fun rv h2 hq => ?_)
    rcases hq with ⟨r2, rfl, -, rfl⟩ | ⟨rfl, -, hnot, n4, rfl⟩
    · exact ⟨⟨_, rfl⟩, hI⟩
    · refine ⟨⟨_, rfl⟩, ?_⟩
      have hs : ∀ c i, ¬ (c = 260 ∧ i = 3) → ¬ (c = 260 ∧ i = 150 + n) → (kc_upd (kc_upd h 260 (150 + n) (.inl (Int32.ofNat dd))) 260 3 (.inl (Int32.ofNat (n + 1)))) c i = h c i := fun c i n1 n2 => by
        unfold kc_upd
        rw [if_neg n1, if_neg n2]
      refine kInv_now hI (ku_w2 hI.1 n4 hdd.2) (fun c i a b => hs c i (by omega) (by omega)) (fun c i a => hs c i (by omega) (by omega)) (kR1_eq (fun i hi => hs _ _ (by omega) (by omega)) (fun i hi => hs _ _ (by omega) (by omega)) (hs _ _ (by omega) (by omega)) (hs _ _ (by omega) (by omega)) (fun j hj => hs _ _ (by omega) (by omega)) (fun j hj => hs _ _ (by omega) (by omega)) r) ⟨n + 1, fun i => if i = n then dd else l i, by omega, if_pos ⟨rfl, rfl⟩, fun i hi => ?_, fun i j hij hj => ?_⟩
      · by_cases e : i = n
        · subst e
          refine ⟨by show 1 ≤ (if i = i then dd else l i); rw [if_pos rfl]; exact hdd.1, by show (if i = i then dd else l i) ≤ 5; rw [if_pos rfl]; exact hdd.2, ?_⟩
          show _ = (Sum.inl (Int32.ofNat (if i = i then dd else l i)) : kc_V)
          rw [if_pos rfl]
          unfold kc_upd
          rw [if_neg (by omega), if_pos ⟨rfl, by omega⟩]
        · refine ⟨by show 1 ≤ (if i = n then dd else l i); rw [if_neg e]; exact (el i (by omega)).1, by show (if i = n then dd else l i) ≤ 5; rw [if_neg e]; exact (el i (by omega)).2.1, ?_⟩
          show _ = (Sum.inl (Int32.ofNat (if i = n then dd else l i)) : kc_V)
          rw [if_neg e, hs _ _ (by omega) (by omega)]
          exact (el i (by omega)).2.2
      · show ¬ (if i = n then dd else l i) = (if j = n then dd else l j)
        rw [if_neg (by omega)]
        by_cases e : j = n
        · rw [if_pos e]
          have := hnot i (by omega)
          rw [(hm i (by omega)).2.2 (by omega)] at this
          exact this
        · rw [if_neg e]
          exact hd i j hij (by omega)
  · exact kc_Con_le (kO_ii (kd_h94a hg) (by decide +kernel) hI ⟨⟨259, rfl, by decide, by decide⟩, kv_gi (by omega) (by omega), trivial⟩ (fun q hq => by cases hq)) (by decide)
  · exact kc_Con_le (kO_ii (kd_h94b hg) (by decide +kernel) hI ⟨⟨259, rfl, by decide, by decide⟩, kv_gi (by omega) (by omega), trivial⟩ (fun q hq => by cases hq)) (by decide)
