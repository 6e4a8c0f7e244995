/-! ===== the day and FAULT, exactly ===== -/
def fu_dPx (s0 : Nat) (B : Nat → Int32) (o : Option (Nat × ((Nat → Int32) ⊕ Nat))) (rv : Option kc_V) (B' : Nat → Int32) : Prop := match o with
  | none => rv = some (.inl (Int32.ofInt (-10) - Int32.ofNat s0)) ∧ B' = B
  | some (k, .inl B2) => rv = some (.inl (Int32.ofNat k)) ∧ B' = B2
  | some (_, .inr i) => rv = some (.inl (Int32.ofInt (-1000) - Int32.ofNat i)) ∧ B' = B
def fu_d67x (s0 : Nat) (h : kc_H) (B : Nat → Int32) (o : Option (Nat × ((Nat → Int32) ⊕ Nat))) : Option kc_V → kc_H → Prop := fun rv h' => ∃ B', fu_dPx s0 B o rv B' ∧ fu_C B' 1 h' ∧ kd_wt kd_ty h' ∧ ∀ c i, c < 1 ∨ 63 ≤ c → c < 127 ∨ 190 ≤ c → h' c i = h c i
def fu_d71x (s0 : Nat) (h : kc_H) (B : Nat → Int32) (o : Option (Nat × ((Nat → Int32) ⊕ Nat))) : Option kc_V → kc_H → Prop := fun rv h' => ∃ B', fu_dPx s0 B o rv B' ∧ fu_B B' h' ∧ kd_wt kd_ty h' ∧ (∀ c i, c < 259 ∨ c = 261 ∨ c = 262 → h' c i = h c i) ∧ (B' = B → ∀ i, i < 5 → h' 260 (150 + i) = h 260 (150 + i))
theorem fu_dPx0 {B : Nat → Int32} {s s0 : Nat} {o : Option (Nat × ((Nat → Int32) ⊕ Nat))} (e : s = s0) (h : o = none) : fu_dPx s0 B o (some (.inl (Int32.ofInt (-10) - Int32.ofNat s))) B := by
  subst h
  subst e
  exact ⟨rfl, rfl⟩
theorem fu_dPx1 {B B2 : Nat → Int32} {k s0 : Nat} {o : Option (Nat × ((Nat → Int32) ⊕ Nat))} (h : o = some (k, .inl B2)) : fu_dPx s0 B o (some (.inl (Int32.ofNat k))) B2 := by
  subst h
  exact ⟨rfl, rfl⟩
theorem fu_dPx2 {B : Nat → Int32} {k i s0 : Nat} {o : Option (Nat × ((Nat → Int32) ⊕ Nat))} (h : o = some (k, .inr i)) : fu_dPx s0 B o (some (.inl (Int32.ofInt (-1000) - Int32.ofNat i))) B := by
  subst h
  exact ⟨rfl, rfl⟩
theorem fu_dPx_w {s0 : Nat} {B : Nat → Int32} {o : Option (Nat × ((Nat → Int32) ⊕ Nat))} {rv : Option kc_V} {B1 : Nat → Int32} (h1 : fu_dPx s0 B o rv B1) : fu_dP B o rv B1 := by
  match o, h1 with
  | none, h1 => exact ⟨⟨s0, h1.1⟩, h1.2⟩
  | some (_, .inl _), h1 => exact h1
  | some (_, .inr _), h1 => exact h1
theorem fu_dPx_e {s0 : Nat} {B : Nat → Int32} {o : Option (Nat × ((Nat → Int32) ⊕ Nat))} {rv rv2 : Option kc_V} {B1 B2 : Nat → Int32} (h1 : fu_dPx s0 B o rv B1) (h2 : fu_dPx s0 B o rv2 B2) : rv2 = rv := by
  match o, h1, h2 with
  | none, h1, h2 => exact h2.1.trans h1.1.symm
  | some (_, .inl _), h1, h2 => exact h2.1.trans h1.1.symm
  | some (_, .inr _), h1, h2 => exact h2.1.trans h1.1.symm
set_option maxRecDepth 20000 in
theorem fu_day67x {g : kc_G} {h : kc_H} {n : Nat} {t : Nat → Nat} {B : Nat → Int32} (hg : kc_ok g) (hC : fu_C B 1 h) (hw : kd_wt kd_ty h) (hn : n ≤ 240) (hb : ∀ j, j < 240 → t j < 256) (ht : ∀ j, j < 240 → h 29 j = .inl (Int32.ofNat (t j))) (ha4 : h 31 0 = .inl (Int32.ofNat n)) : kc_Con g 15 67 [.inr (.inr (.inl (some 0)))] h (fu_d67x (kp_flt t n 9 0 61 0) h B (fu_out t n B)) := by
  have k0 := kx_ofr (hw _ _ _ kv_k0.1)
  have k4 := kx_ofr (hw _ _ _ kv_k0.2.2)
  obtain ⟨s0, -, es0⟩ := kx_ofg (by omega) (hw _ _ _ kv_k127.2)
  obtain ⟨q0, -, eq0⟩ := kx_ofg (by omega) (hw _ _ _ kv_k127.1)
  refine kc_Con_new hg (M := wk_m67) rfl rfl rfl (show 1 ≤ 3 by decide) ?_
  refine kx_go 1 (pc' := 1) (L' := [(0, .inr (.inr (.inl (some 0))))]) (S' := [.inr (.inr (.inl (some 0)))]) (h' := h) (by with_unfolding_all rfl) ?_
  refine kx_getf (c := 0) (v := .inr (.inr (.inl (some 127)))) rfl (by decide) k4 ?_
  refine kx_go 1 (pc' := 5) (L' := [(0, .inr (.inr (.inl (some 0))))]) (S' := [.inl (Int32.ofNat 0), .inr (.inr (.inl (some 127)))]) (h' := h) (by with_unfolding_all rfl) ?_
  refine kc_call_rule (M2 := wk_m61) (av := [.inr (.inr (.inl (some 127))), .inl (Int32.ofNat 0)]) (r := []) rfl rfl (kc_Con_le (kr_readx0 (d := 0) (n := n) (t := t) hg hn hb ht (fun i hi => kx_ofr (hw _ _ _ (kr_k129 i hi))) (kx_ofr (hw _ _ _ kv_k127b)) (kx_ofr (hw _ _ _ kr_k1.1)) (kx_ofr (hw _ _ _ kr_k1.2.2.1)) (kx_ofr (hw _ _ _ kr_k1.2.1)) ha4 (kx_ofr (hw _ _ _ kr_k127.2.1)) (kx_ofr (hw _ _ _ kr_k127.2.2.1)) eq0 es0) (by decide)) (fun rv h1 hq => ?_)
  have hpost := kr_post (g := g) hw (Or.inl rfl) hn (by decide) (kr_Qrx_w hq)
  obtain ⟨pp, pp1, -, -, hw1, hfr1⟩ := hpost
  obtain rfl := List.mem_singleton.mp pp1
  simp only at hfr1
  unfold kr_Qrx at hq
  cases hk : kp_its t n 9 0 61 0 with
  | none =>
    rw [hk] at hq
    obtain ⟨hx, it2, p2, k2, s2, rfl, ⟨-, -, ⟨hs2, -, -⟩, es2⟩, -⟩ := hq
    show kc_Ev g 14 wk_m67 _ 8 [(0, .inr (.inr (.inl (some 0))))] [.inl (Int32.ofNat s2)] h1
    refine kx_go 4 (pc' := (if kc_cnd .eq (Int32.ofNat s2).toInt (Int32.ofInt (-1)).toInt then 19 else 14)) (L' := [(1, .inl (Int32.ofNat s2)), (0, .inr (.inr (.inl (some 0))))]) (S' := []) (h' := h1) (by with_unfolding_all rfl) ?_
    rw [if_neg (kx_nm1 (by omega))]
    refine kx_go 3 (pc' := 18) (L' := [(1, .inl (Int32.ofNat s2)), (0, .inr (.inr (.inl (some 0))))]) (S' := [.inl ((Int32.ofInt (-10)) - (Int32.ofNat s2))]) (h' := h1) (by with_unfolding_all rfl) ?_
    refine kc_ret_ok rfl (rv := some (.inl ((Int32.ofInt (-10)) - (Int32.ofNat s2)))) rfl ⟨B, fu_dPx0 es2 (fu_outn hk), fu_Ceq (fun c i c1 c2 => ?_) hC, hw1, fun c i c1 c2 => ?_⟩
    · exact hfr1 c i (fun q hq => by
        simp only [kr_W, List.mem_cons, List.not_mem_nil, or_false] at hq
        rcases hq with rfl | rfl | rfl | rfl <;> exact kb_inr (by (try dsimp only); omega))
    · exact hfr1 c i (fun q hq => by
        simp only [kr_W, List.mem_cons, List.not_mem_nil, or_false] at hq
        rcases hq with rfl | rfl | rfl | rfl <;> exact kb_inr (by (try dsimp only); omega))
  | some l =>
    rw [hk] at hq
    obtain ⟨p2, k2, s2, rfl, ⟨hp2, hk2, hs2⟩, hh1⟩ := hq
    obtain ⟨hall, hlen⟩ := kp_its_ok hn (by decide) 61 0 0 l (by omega) (by omega) hk
    show kc_Ev g 14 wk_m67 _ 8 [(0, .inr (.inr (.inl (some 0))))] [.inl (Int32.ofInt (-1))] h1
    refine kx_go 4 (pc' := (if kc_cnd .eq (Int32.ofInt (-1)).toInt (Int32.ofInt (-1)).toInt then 19 else 14)) (L' := [(1, .inl (Int32.ofInt (-1))), (0, .inr (.inr (.inl (some 0))))]) (S' := []) (h' := h1) (by with_unfolding_all rfl) ?_
    rw [if_pos kx_m1]
    have j0 := kx_ofr (hw1 _ _ _ kv_k0.1)
    have j1 := kx_ofr (hw1 _ _ _ kv_k0.2.1)
    refine kx_go 1 (pc' := 20) (L' := [(1, .inl (Int32.ofInt (-1))), (0, .inr (.inr (.inl (some 0))))]) (S' := [.inr (.inr (.inl (some 0)))]) (h' := h1) (by with_unfolding_all rfl) ?_
    refine kx_getf (c := 0) (v := .inr (.inr (.inl (some 32)))) rfl (by decide) j1 ?_
    refine kx_go 1 (pc' := 24) (L' := [(1, .inl (Int32.ofInt (-1))), (0, .inr (.inr (.inl (some 0))))]) (S' := [.inr (.inr (.inl (some 0))), .inr (.inr (.inl (some 32)))]) (h' := h1) (by with_unfolding_all rfl) ?_
    refine kx_getf (c := 0) (v := .inr (.inr (.inl (some 1)))) rfl (by decide) j0 ?_
    refine kc_call_rule (M2 := wk_m68) (av := [.inr (.inr (.inl (some 32))), .inr (.inr (.inl (some 1)))]) (r := []) rfl rfl (kc_Con_le (kt_take1_32 (d := 0) hg hw1) (by decide)) (fun rv h2 hq2 => ?_)
    obtain ⟨rfl, hh2⟩ := hq2
    have hw2 : kd_wt kd_ty h2 := by rw [hh2]; exact kt_K_wt hw1 kt_ty1_32
    have i0 := kx_ofr (hw2 _ _ _ kv_k0.1)
    show kc_Ev g 14 wk_m67 _ 30 [(1, .inl (Int32.ofInt (-1))), (0, .inr (.inr (.inl (some 0))))] [] h2
    refine kx_go 1 (pc' := 31) (L' := [(1, .inl (Int32.ofInt (-1))), (0, .inr (.inr (.inl (some 0))))]) (S' := [.inr (.inr (.inl (some 0)))]) (h' := h2) (by with_unfolding_all rfl) ?_
    refine kx_getf (c := 0) (v := .inr (.inr (.inl (some 1)))) rfl (by decide) i0 ?_
    refine kc_call_rule (M2 := wk_m2) (av := [.inr (.inr (.inl (some 1)))]) (r := []) rfl rfl (kc_Con_le (fu_h2 hg (fun _ => 0) _ h2 kv_bx0 hw2 ⟨⟨1, rfl, by decide, by decide⟩, trivial⟩ (fun q hq => by cases hq)) (by decide)) (fun rv h3 hq3 => ?_)
    obtain ⟨pp, p1, pr, pF, hw3, hfr3⟩ := hq3
    obtain rfl := List.mem_singleton.mp p1
    cases rv with
    | some y => exact pr.elim
    | none =>
      have hfr3 : kd_fr kv_W2 h2 h3 := kd_cvW_r _ (by decide) hfr3
      have near : ∀ c i, c < 127 → h1 c i = h c i := fun c i hc => hfr1 c i (fun q hq => by
        simp only [kr_W, List.mem_cons, List.not_mem_nil, or_false] at hq
        rcases hq with rfl | rfl | rfl | rfl <;> exact kb_inr (by (try dsimp only); omega))
      have hC2 : fu_C B 1 h2 := fu_Ceq (fun c i c1 c2 => by
        rw [hh2]
        unfold kt_K
        rw [if_neg (by omega)]
        exact near c i (by omega)) hC
      have hC3 : fu_C (fu_beg B) 1 h3 := fu_beg_c hC2 pF hfr3
      have hB3 : fu_BT (fu_beg B) := fu_C_T hw3 hC3
      show kc_Ev g 14 wk_m67 _ 37 [(1, .inl (Int32.ofInt (-1))), (0, .inr (.inr (.inl (some 0))))] [] h3
      refine kx_go 2 (pc' := 39) (L' := [(2, .inl (Int32.ofNat 0)), (1, .inl (Int32.ofInt (-1))), (0, .inr (.inr (.inl (some 0))))]) (S' := []) (h' := h3) (by with_unfolding_all rfl) ?_
      /- cells far from a Told: as behind the reading -/
      have far : ∀ c i, 63 ≤ c → h3 c i = h1 c i := fun c i hc => by
        rw [hfr3 c i (fun q hq => by
          simp only [kv_W2, List.mem_cons, List.not_mem_nil, or_false] at hq
          rcases hq with rfl | rfl <;> exact kb_inr (by (try dsimp only); omega)), hh2]
        unfold kt_K
        rw [if_neg (by omega)]
      have hit : h3 127 1 = .inl (Int32.ofNat l.length) := by
        rw [far 127 1 (by decide), hh1]
        rfl
      have hat : ∀ (i : Nat) (q : Nat × List Nat), l[i]? = some q → h3 128 i = .inl (Int32.ofNat q.1) ∧ ∀ k x, q.2[k]? = some x → h3 (130 + i) k = .inl (Int32.ofNat x) := fun i q hq => by
        obtain ⟨a1, a2⟩ := kr_ws_at l h 0 i q hq
        rw [Nat.zero_add] at a1 a2
        have e1 : ∀ c b, ¬ c = 127 → h1 c b = kr_ws h 0 l c b := fun c b hc => by
          rw [hh1]
          unfold kr_H kj
          rw [if_neg hc, if_neg hc]
        exact ⟨by rw [far 128 i (by decide), e1 128 i (by decide)]; exact a1, fun k x hx => by rw [far (130 + i) k (by omega), e1 (130 + i) k (by omega)]; exact a2 k x hx⟩
      /- the copy: the spare has what the day had -/
      have sp : ∀ k, k < 31 → ∀ i, i < kt_ln k → h3 (32 + k) i = h1 (1 + k) i := fun k hk i hi => by
        rw [hfr3 (32 + k) i (fun q hq => by
          simp only [kv_W2, List.mem_cons, List.not_mem_nil, or_false] at hq
          rcases hq with rfl | rfl <;> exact kb_inr (by (try dsimp only); omega)), hh2]
        unfold kt_K
        rw [show 32 + k - 32 = k from by omega, if_pos ⟨by omega, by omega, hi⟩]
      have rest : ∀ (hE : kc_H) (c i : Nat), (∀ c b, c < 1 ∨ 32 ≤ c → hE c b = h3 c b) → c < 1 ∨ 63 ≤ c → c < 127 ∨ 190 ≤ c → hE c i = h c i := fun hE c i hfrE c1 c2 => by
        rw [hfrE c i (by omega), hfr3 c i (fun q hq => by
          simp only [kv_W2, List.mem_cons, List.not_mem_nil, or_false] at hq
          rcases hq with rfl | rfl <;> exact kb_inr (by (try dsimp only); omega)), hh2]
        unfold kt_K
        rw [if_neg (by omega)]
        exact hfr1 c i (fun q hq => by
          simp only [kr_W, List.mem_cons, List.not_mem_nil, or_false] at hq
          rcases hq with rfl | rfl | rfl | rfl <;> exact kb_inr (by (try dsimp only); omega))
      refine fu_dayl (z1 := Int32.ofInt (-1)) (l := l) (hB := h3) (out := fu_fold l 0 (fu_beg B)) hg (by decide) hit (by omega) (fun i q hq => ?_) hat ?_ ?_ l.length 0 h3 (fu_beg B) (by omega) (by omega) hw3 (fun _ _ _ => rfl) hC3 hB3 ?_
      · obtain ⟨b1, -, b3, b4⟩ := hall q (List.mem_of_getElem? hq)
        exact ⟨b1, by omega, b4⟩
      · intro hE B2 hwE hfrE hCE hBE hfo
        exact ⟨B2, fu_dPx1 (by rw [fu_outs hk, hfo]), hCE, hwE, fun c i c1 c2 => rest hE c i hfrE c1 c2⟩
      · intro hE i hwE hfrE hno
        have bk : ∀ k, k < 31 → ∀ i, i < kt_ln k → kt_K hE 32 1 31 (1 + k) i = h (1 + k) i := fun k hk i hi => by
          unfold kt_K
          rw [show 1 + k - 1 = k from by omega, if_pos ⟨by omega, by omega, hi⟩, hfrE (32 + k) i (by omega), sp k hk i hi, near (1 + k) i (by omega)]
        refine ⟨B, fu_dPx2 (by rw [fu_outs hk, hno]), fu_Ck bk hC, kt_K_wt hwE kt_ty32_1, fun c i c1 c2 => ?_⟩
        rw [show kt_K hE 32 1 31 c i = hE c i from if_neg (by omega)]
        exact rest hE c i hfrE c1 c2
      · rw [List.drop_zero]
set_option maxRecDepth 20000 in
theorem fu_day71x {g : kc_G} {h : kc_H} {n : Nat} {t : Nat → Nat} {B : Nat → Int32} (hg : kc_ok g) (hC : fu_B B h) (hBT : fu_BT B) (hw : kd_wt kd_ty h) (hn : n ≤ 240) (hb : ∀ j, j < 240 → t j < 256) (ht : ∀ j, j < 240 → h 260 (170 + j) = .inl (Int32.ofNat (t j))) (hnt : h 260 160 = .inl (Int32.ofNat n)) : kc_Con g 10 71 [.inr (.inr (.inl (some 259)))] h (fu_d71x (kp_flt t n 9 0 61 0) h B (fu_out t n B)) := by
  obtain ⟨s0, -, es0⟩ := kx_ofg (by omega) (hw _ _ _ kv_k259.1)
  obtain ⟨q0, -, eq0⟩ := kx_ofg (by omega) (hw _ _ _ kv_k259.2.1)
  obtain ⟨v0, hv0, ev0⟩ := kx_ofg (by omega) (hw _ _ _ kv_k259.2.2)
  refine kc_Con_new hg (M := wk_m71) rfl rfl rfl (show 1 ≤ 3 by decide) ?_
  refine kx_go 2 (pc' := 2) (L' := [(0, .inr (.inr (.inl (some 259))))]) (S' := [.inl (Int32.ofNat 0), .inr (.inr (.inl (some 259)))]) (h' := h) (by with_unfolding_all rfl) ?_
  refine kc_call_rule (M2 := wk_m64) (av := [.inr (.inr (.inl (some 259))), .inl (Int32.ofNat 0)]) (r := []) rfl rfl (kc_Con_le (km_readsx0 (d := 0) (n := n) (t := t) hg hn hb hnt (fun j hj => by rw [show 170 + 240 * 0 + j = 170 + j from by omega]; exact ht j hj) (by omega) (kx_ofr (hw _ _ _ kz_k.1)) es0 eq0 ev0 (kx_ofr (hw _ _ _ kv_kr.1)) (kx_ofr (hw _ _ _ kv_kr.2))) (by decide)) (fun rv h1 hq => ?_)
  have hpost := km_post hw (by decide) hn (by decide) (km_Qrx_w hq)
  obtain ⟨pp, pp1, -, -, hw1, hfr1⟩ := hpost
  obtain rfl := List.mem_singleton.mp pp1
  simp only at hfr1
  unfold km_Qrx at hq
  have near : ∀ i, h1 260 i = h 260 i := fun i => hfr1 260 i (fun q hq => by
    simp only [km_W, List.mem_cons, List.not_mem_nil, or_false] at hq
    rcases hq with rfl | rfl | rfl | rfl <;> exact kb_inr (by (try dsimp only); omega))
  cases hk : kp_its t n 9 0 61 0 with
  | none =>
    rw [hk] at hq
    obtain ⟨hx, it2, a2, s2, k2, u2, rfl, ⟨-, -, -, es2⟩, hh1⟩ := hq
    show kc_Ev g 9 wk_m71 _ 5 [(0, .inr (.inr (.inl (some 259))))] [.inl (Int32.ofNat 0)] h1
    refine kx_go 1 (pc' := 8) (L' := [(0, .inr (.inr (.inl (some 259))))]) (S' := []) (h' := h1) (by with_unfolding_all rfl) ?_
    have es1 : h1 259 8 = .inl (Int32.ofNat s2) := by
      rw [hh1]
      rfl
    refine kx_go 2 (pc' := 11) (L' := [(0, .inr (.inr (.inl (some 259))))]) (S' := [.inr (.inr (.inl (some 259))), .inl (Int32.ofInt (-10))]) (h' := h1) (by with_unfolding_all rfl) ?_
    refine kx_getf (c := 259) (v := .inl (Int32.ofNat s2)) rfl (by decide) es1 ?_
    refine kx_go 1 (pc' := 15) (L' := [(0, .inr (.inr (.inl (some 259))))]) (S' := [.inl ((Int32.ofInt (-10)) - (Int32.ofNat s2))]) (h' := h1) (by with_unfolding_all rfl) ?_
    refine kc_ret_ok rfl (rv := some (.inl ((Int32.ofInt (-10)) - (Int32.ofNat s2)))) rfl ⟨B, fu_dPx0 es2 (fu_outn hk), fu_Beq (fun i _ => near i) hC, hw1, fun c i hc => ?_, fun _ i _ => near _⟩
    exact hfr1 c i (fun q hq => by
      simp only [km_W, List.mem_cons, List.not_mem_nil, or_false] at hq
      rcases hq with rfl | rfl | rfl | rfl <;> exact kb_inr (by (try dsimp only); omega))
  | some l =>
    rw [hk] at hq
    obtain ⟨a2, s2, k2, u2, rfl, -, hh1⟩ := hq
    obtain ⟨hall, hlen⟩ := kp_its_ok hn (by decide) 61 0 0 l (by omega) (by omega) hk
    show kc_Ev g 9 wk_m71 _ 5 [(0, .inr (.inr (.inl (some 259))))] [.inl (Int32.ofNat 1)] h1
    refine kx_go 1 (pc' := 16) (L' := [(0, .inr (.inr (.inl (some 259))))]) (S' := []) (h' := h1) (by with_unfolding_all rfl) ?_
    refine kx_go 2 (pc' := 18) (L' := [(1, .inl (Int32.ofNat 0)), (0, .inr (.inr (.inl (some 259))))]) (S' := []) (h' := h1) (by with_unfolding_all rfl) ?_
    have key := kz_dy1 (g := g) (d := 9) (Q := fu_d71x (kp_flt t n 9 0 61 0) h B (fu_out t n B)) (h := h1) (fun k hk => kz_int_r hw1 (kz_k260 k hk).1) 650 0 (by omega) (by omega) ?_
    · rw [kz_0, kz_wid hw1] at key
      exact key
    rw [kz_wid hw1]
    generalize hh2 : kz_cp h1 263 0 260 0 650 = h2
    have hw2 : kd_wt kd_ty h2 := by
      rw [← hh2]
      exact kz_cp_wt hw1 (fun j hj => by rw [Nat.zero_add, (kz_k260 j hj).2.2.2])
    refine kx_go 1 (pc' := 44) (L' := [(1, .inl (Int32.ofNat 650)), (0, .inr (.inr (.inl (some 259))))]) (S' := [.inr (.inr (.inl (some 259)))]) (h' := h2) (by with_unfolding_all rfl) ?_
    refine kc_call_rule (M2 := wk_m12) (av := [.inr (.inr (.inl (some 259)))]) (r := []) rfl rfl (kc_Con_le (fu_h12 hg (fun _ => 0) _ h2 kv_bx0 hw2 ⟨⟨259, rfl, by decide, by decide⟩, trivial⟩ (fun q hq => by cases hq)) (by decide)) (fun rv h3 hq3 => ?_)
    obtain ⟨pp, p1, pr, pF, hw3, hfr3⟩ := hq3
    obtain rfl := List.mem_singleton.mp p1
    cases rv with
    | some y => exact pr.elim
    | none =>
      have hfr3 : kd_fr kv_W12 h2 h3 := kd_cvW_r _ (by decide) hfr3
      have hC2 : fu_B B h2 := fu_Beq (fun i _ => by rw [← hh2, kz_n (by decide), near i]) hC
      have hC3 : fu_B (fu_beg B) h3 := fu_beg_r hC2 pF hfr3
      have hB3 : fu_BT (fu_beg B) := fu_BT_beg hBT
      show kc_Ev g 9 wk_m71 _ 47 [(1, .inl (Int32.ofNat 650)), (0, .inr (.inr (.inl (some 259))))] [] h3
      refine kx_go 2 (pc' := 49) (L' := [(1, .inl (Int32.ofNat 0)), (0, .inr (.inr (.inl (some 259))))]) (S' := []) (h' := h3) (by with_unfolding_all rfl) ?_
      have far3 : ∀ c i, ¬ c = 260 → h3 c i = h2 c i := fun c i hc => hfr3 c i (fun q hq => by
        simp only [kv_W12, List.mem_cons, List.not_mem_nil, or_false] at hq
        rcases hq with rfl | rfl <;> exact kb_inr (by (try dsimp only); omega))
      have far : ∀ c i, ¬ c = 260 → ¬ c = 263 → h3 c i = h1 c i := fun c i hc hc2 => by
        rw [far3 c i hc, ← hh2]
        exact kz_n hc2
      have as3 : ∀ i, i < 650 → h3 263 i = h 260 i := fun i hi => by
        rw [far3 263 i (by decide), ← hh2, ← near i]
        unfold kz_cp
        rw [if_pos ⟨rfl, by omega, by omega⟩, show 0 + (i - 0) = i from by omega]
      have hit : h3 259 13 = .inl (Int32.ofNat l.length) := by
        rw [far 259 13 (by decide) (by decide), hh1]
        rfl
      have hat : ∀ (i : Nat) (q : Nat × List Nat), l[i]? = some q → h3 264 i = .inl (Int32.ofNat (kp_tv q.1)) ∧ ∀ k x, q.2[k]? = some x → h3 265 (5 * i + k) = .inl (Int32.ofNat x) := fun i q hq => by
        obtain ⟨a1, a2⟩ := km_ns_at l h 0 i q hq (fun q hq => (hall q hq).1.2.1)
        rw [Nat.zero_add] at a1 a2
        have e1 : ∀ c b, ¬ c = 259 → h1 c b = km_ns h 0 l c b := fun c b hc => by
          rw [hh1, km_o hc, kmj_o hc]
        exact ⟨by rw [far 264 i (by decide) (by decide), e1 264 i (by decide)]; exact a1, fun k x hx => by rw [far 265 (5 * i + k) (by decide) (by decide), e1 265 (5 * i + k) (by decide)]; exact a2 k x hx⟩
      have rest : ∀ (hE : kc_H) (c i : Nat), (∀ c b, ¬ c = 260 → hE c b = h3 c b) → c < 259 ∨ c = 261 ∨ c = 262 → hE c i = h c i := fun hE c i hfrE hc => by
        rw [hfrE c i (by omega), far c i (by omega) (by omega)]
        exact hfr1 c i (fun q hq => by
          simp only [km_W, List.mem_cons, List.not_mem_nil, or_false] at hq
          rcases hq with rfl | rfl | rfl | rfl <;> exact kb_inr (by (try dsimp only); omega))
      refine kf_lo (L := [(1, .inl (Int32.ofNat 0)), (0, .inr (.inr (.inl (some 259))))]) (by intro q hq; simp only [List.mem_cons, List.not_mem_nil, or_false] at hq; rcases hq with rfl | rfl <;> rfl) ?_
      refine fu_dayr (l := l) (hB := h3) (out := fu_fold l 0 (fu_beg B)) hg (by decide) hit (by omega) (fun i q hq => ?_) hat ?_ ?_ l.length 0 h3 (fu_beg B) (by omega) (by omega) hw3 (fun _ _ _ => rfl) hC3 hB3 ?_
      · obtain ⟨b1, -, b3, b4⟩ := hall q (List.mem_of_getElem? hq)
        exact ⟨b1, by omega, b4⟩
      · intro hE B2 hwE hfrE hCE hBE hfo
        refine ⟨B2, fu_dPx1 (by rw [fu_outs hk, hfo]), hCE, hwE, fun c i hc => rest hE c i hfrE hc, fun e i hi => ?_⟩
        rw [hCE (150 + i) (by omega) (fu_fli i hi).2.1, hC (150 + i) (by omega) (fu_fli i hi).2.1, e]
      · intro hE i hwE hfrE hno
        have bk : ∀ i, i < 650 → kz_cp hE 260 0 263 0 650 260 i = h 260 i := fun i hi => by
          unfold kz_cp
          rw [if_pos ⟨rfl, by omega, by omega⟩, show 0 + (i - 0) = i from by omega, hfrE 263 i (by decide), as3 i hi]
        refine ⟨B, fu_dPx2 (by rw [fu_outs hk, hno]), fu_Beq bk hC, kz_cp_wt hwE (fun j hj => by rw [Nat.zero_add, (kz_k260 j hj).2.2.2]), fun c i hc => ?_, fun _ i hi => bk _ (by omega)⟩
        rw [kz_n (by omega)]
        exact rest hE c i hfrE hc
      · rw [List.drop_zero]
theorem fU_Xday {g : kc_G} {h : kc_H} (hg : kc_ok g) (hI : fu_I h) : kc_Con g 30 67 [.inr (.inr (.inl (some 0)))] h (fun rv h1 => ∃ z : Int32, rv = some (.inl z) ∧ kc_Con g 30 71 [.inr (.inr (.inl (some 259)))] h1 (fun rv2 h2 => rv2 = some (.inl z) ∧ fu_I h2)) := by
  obtain ⟨B, hC, hR⟩ := hI.2.1
  have hB := fu_C_T hI.1 hC
  obtain ⟨n, n1, en⟩ := fu_nat (by decide) (fu_fby 0 (by decide)).2.2 (hB 160 (by decide) (by decide))
  have ht0 : ∀ j, ∃ v : Nat, j < 240 → v < 256 ∧ B (170 + j) = Int32.ofNat v := fun j => by
    by_cases hj : j < 240
    · obtain ⟨v, v1, v2⟩ := fu_nat (by decide) (fu_ftx 0 (by decide) j hj).2.2 (hB (170 + 240 * 0 + j) (by omega) (fu_ftx 0 (by decide) j hj).2.1)
      rw [show 170 + 240 * 0 + j = 170 + j from by omega] at v2
      exact ⟨v, fun _ => ⟨by omega, v2⟩⟩
    · exact ⟨0, fun q => absurd q hj⟩
  obtain ⟨t, ht⟩ := Classical.axiomOfChoice ht0
  have h29 : ∀ j, j < 240 → h 29 j = .inl (Int32.ofNat (t j)) := fun j hj => by
    have e := fu_Cj (c := 28) (i := j) hC (by omega) (fu_ftx 0 (by decide) j hj).2.1 (fu_ftx 0 (by decide) j hj).1
    rw [show 170 + 240 * 0 + j = 170 + j from by omega, (ht j hj).2] at e
    exact e
  have h31 : h 31 0 = .inl (Int32.ofNat n) := (fu_Cj (c := 30) (j := 160) hC (by decide) (by decide) (by decide)).trans (by rw [en])
  refine kc_Con_mono (kc_Con_le (fu_day67x hg hC hI.1 n1 (fun j hj => (ht j hj).1) h29 h31) (by decide)) (fun rv h1 hq => ?_)
  obtain ⟨B1, p1, C1, w1, f1⟩ := hq
  obtain ⟨z, ez⟩ := fu_dPz (fu_dPx_w p1)
  refine ⟨z, ez, ?_⟩
  have e260 : ∀ i, h1 260 i = h 260 i := fun i => f1 260 i (by decide) (by decide)
  have R1 : fu_B B h1 := fu_Beq (fun i _ => e260 i) hR
  refine kc_Con_mono (kc_Con_le (fu_day71x hg R1 hB w1 n1 (fun j hj => (ht j hj).1) (fun j hj => by rw [R1 (170 + j) (by omega) (by have := (fu_ftx 0 (by decide) j hj).2.1; rw [show 170 + 240 * 0 + j = 170 + j from by omega] at this; exact this), (ht j hj).2]) (by rw [R1 160 (by decide) (by decide), en])) (by decide)) (fun rv h2 hq => ?_)
  obtain ⟨B2, p2, R2, w2, f2, l2⟩ := hq
  have e12 := fu_dPu (fu_dPx_w p1) (fu_dPx_w p2)
  have er := fu_dPx_e p1 p2
  subst e12
  refine ⟨er.trans ez, fu_now hI w2 ⟨B1, fu_Ceq (fun c i c1 c2 => f2 c i (by omega)) C1, R2⟩ (fun c i a b => (f2 c i (by omega)).trans (f1 c i (by omega) (by omega))) (fun c i a => (f2 c i (by omega)).trans (f1 c i (by omega) (by omega))) ?_⟩
  rcases fu_dP3 n1 hB (fu_dPx_w p2) with e | e
  · refine kI_eq ?_ (fun i hi => ?_) hI.2.2.2.2.2.1
    · rw [R2 (0 + 3) (by decide) (by decide), hR (0 + 3) (by decide) (by decide), e]
    · rw [Nat.zero_add, l2 e i hi, e260]
  · exact ⟨0, fun _ => 0, by decide, by rw [R2 (0 + 3) (by decide) (by decide)]; exact congrArg Sum.inl e, fun i hi => absurd hi (by omega), fun i j _ hj => absurd hj (by omega)⟩
def fu_fz (t : Nat → Nat) (n m f : Nat) : Int32 := match kp_its t n m f 61 0 with
  | some _ => Int32.ofInt (-1)
  | none => Int32.ofNat (kp_flt t n m f 61 0)
theorem fu_fz1 {t : Nat → Nat} {n m f : Nat} {l : List (Nat × List Nat)} (h : kp_its t n m f 61 0 = some l) : fu_fz t n m f = Int32.ofInt (-1) := by
  unfold fu_fz
  rw [h]
theorem fu_fz0 {t : Nat → Nat} {n m f : Nat} (h : kp_its t n m f 61 0 = none) : fu_fz t n m f = Int32.ofNat (kp_flt t n m f 61 0) := by
  unfold fu_fz
  rw [h]
set_option maxRecDepth 20000 in
theorem fu_cftb {g : kc_G} {h : kc_H} {a : Int32} (hg : kc_ok g) (k : ¬ (0 ≤ a.toInt ∧ a.toInt ≤ 1)) : kc_Con g 10 60 [.inr (.inr (.inl (some 0))), .inl a] h (fun rv h' => rv = some (.inl (Int32.ofInt (-2))) ∧ h' = h) := by
  refine kc_Con_new hg (M := wk_m60) rfl rfl rfl (show 2 ≤ 2 by decide) ?_
  refine kx_go 3 (pc' := 3) (L' := [(0, .inr (.inr (.inl (some 0)))), (1, .inl (a))]) (S' := [.inl (Int32.ofNat 1), .inl (Int32.ofNat 0), .inl (a)]) (h' := h) (by with_unfolding_all rfl) ?_
  refine kc_call_rule (M2 := wk_m19) (av := [.inl (a), .inl (Int32.ofNat 0), .inl (Int32.ofNat 1)]) (r := []) rfl rfl (kc_Con_le (fu_bt (d := 0) (lo := 0) (hi := 1) hg rfl rfl) (by decide)) (fun rv h2 hq => ?_)
  obtain ⟨rfl, e⟩ := hq
  rw [e]
  clear e
  show kc_Ev g 9 wk_m60 _ 6 [(0, .inr (.inr (.inl (some 0)))), (1, .inl (a))] [.inl (kp_b (fu_in a 0 1))] h
  refine kx_go 1 (pc' := (if kc_cnd .ne (kp_b (fu_in a 0 1)).toInt 0 then 12 else 9)) (L' := [(0, .inr (.inr (.inl (some 0)))), (1, .inl (a))]) (S' := []) (h' := h) (by with_unfolding_all rfl) ?_
  rw [fu_in0 k]
  rw [if_neg (fun q => by have := kx_b1.mp q; cases this)]
  refine kx_go 1 (pc' := 11) (L' := [(0, .inr (.inr (.inl (some 0)))), (1, .inl (a))]) (S' := [.inl (Int32.ofInt (-2))]) (h' := h) (by with_unfolding_all rfl) ?_
  exact kc_ret_ok rfl (rv := some (.inl (Int32.ofInt (-2)))) rfl ⟨rfl, rfl⟩
set_option maxRecDepth 20000 in
theorem fu_rftb {g : kc_G} {h : kc_H} {a : Int32} (hg : kc_ok g) (k : ¬ (0 ≤ a.toInt ∧ a.toInt ≤ 1)) : kc_Con g 10 63 [.inr (.inr (.inl (some 259))), .inl a] h (fun rv h' => rv = some (.inl (Int32.ofInt (-2))) ∧ h' = h) := by
  refine kc_Con_new hg (M := wk_m63) rfl rfl rfl (show 2 ≤ 2 by decide) ?_
  refine kx_go 1 (pc' := 1) (L' := [(0, .inr (.inr (.inl (some 259)))), (1, .inl (a))]) (S' := [.inl (a)]) (h' := h) (by with_unfolding_all rfl) ?_
  refine kc_call_rule (M2 := wk_m57) (av := [.inl (a)]) (r := []) rfl rfl (kc_Con_le (fu_r57 (d := 0) hg) (by decide)) (fun rv h2 hq => ?_)
  obtain ⟨rfl, e⟩ := hq
  rw [e]
  clear e
  show kc_Ev g 9 wk_m63 _ 4 [(0, .inr (.inr (.inl (some 259)))), (1, .inl (a))] [.inl (kp_b (fu_in a 0 1))] h
  refine kx_go 1 (pc' := (if kc_cnd .ne (kp_b (fu_in a 0 1)).toInt 0 then 12 else 7)) (L' := [(0, .inr (.inr (.inl (some 259)))), (1, .inl (a))]) (S' := []) (h' := h) (by with_unfolding_all rfl) ?_
  rw [fu_in0 k]
  rw [if_neg (fun q => by have := kx_b1.mp q; cases this)]
  refine kx_go 2 (pc' := 28) (L' := [(0, .inr (.inr (.inl (some 259)))), (1, .inl (a))]) (S' := [.inl (Int32.ofInt (-2))]) (h' := h) (by with_unfolding_all rfl) ?_
  exact kc_ret_ok rfl (rv := some (.inl (Int32.ofInt (-2)))) rfl ⟨rfl, rfl⟩
set_option maxRecDepth 20000 in
theorem fu_cft0 {g : kc_G} {h : kc_H} {n : Nat} {t : Nat → Nat} (hg : kc_ok g) (hw : kd_wt kd_ty h) (hn : n ≤ 240) (hb : ∀ j, j < 240 → t j < 256) (ht : ∀ j, j < 240 → h 29 j = .inl (Int32.ofNat (t j))) (hn4 : h 31 0 = .inl (Int32.ofNat n)) : kc_Con g 10 60 [.inr (.inr (.inl (some 0))), .inl (Int32.ofNat 0)] h (fun rv h1 => rv = some (.inl (fu_fz t n 9 0)) ∧ kd_wt kd_ty h1 ∧ kd_fr kr_W h h1) := by
  obtain ⟨t1, t2, t3, t4, t5, t6, t7, t8, t0⟩ := kr_k127
  obtain ⟨u1, u2, u3, u4, u5, u6⟩ := kr_k1
  obtain ⟨k0, -, e7⟩ := kx_ofg (by omega) (hw _ _ _ t7)
  obtain ⟨s0, -, e8⟩ := kx_ofg (by omega) (hw _ _ _ t8)
  refine kc_Con_new hg (M := wk_m60) rfl rfl rfl (show 2 ≤ 2 by decide) ?_
  refine kx_go 3 (pc' := 3) (L' := [(0, .inr (.inr (.inl (some 0)))), (1, .inl (Int32.ofNat 0))]) (S' := [.inl (Int32.ofNat 1), .inl (Int32.ofNat 0), .inl (Int32.ofNat 0)]) (h' := h) (by with_unfolding_all rfl) ?_
  refine kc_call_rule (M2 := wk_m19) (av := [.inl (Int32.ofNat 0), .inl (Int32.ofNat 0), .inl (Int32.ofNat 1)]) (r := []) rfl rfl (kc_Con_le (fu_bt (d := 0) (lo := 0) (hi := 1) hg rfl rfl) (by decide)) (fun rv h2 hq => ?_)
  obtain ⟨rfl, e⟩ := hq
  rw [e]
  clear e
  show kc_Ev g 9 wk_m60 _ 6 [(0, .inr (.inr (.inl (some 0)))), (1, .inl (Int32.ofNat 0))] [.inl (kp_b (fu_in (Int32.ofNat 0) 0 1))] h
  refine kx_go 1 (pc' := (if kc_cnd .ne (kp_b (fu_in (Int32.ofNat 0) 0 1)).toInt 0 then 12 else 9)) (L' := [(0, .inr (.inr (.inl (some 0)))), (1, .inl (Int32.ofNat 0))]) (S' := []) (h' := h) (by with_unfolding_all rfl) ?_
  rw [if_pos (kx_b1.mpr (show fu_in (Int32.ofNat 0) 0 1 = true by decide))]
  refine kx_go 1 (pc' := 13) (L' := [(0, .inr (.inr (.inl (some 0)))), (1, .inl (Int32.ofNat 0))]) (S' := [.inr (.inr (.inl (some 0)))]) (h' := h) (by with_unfolding_all rfl) ?_
  refine kx_getf (c := 0) (v := .inr (.inr (.inl (some 127)))) rfl (by decide) (kx_ofr (hw _ _ _ kv_k0.2.2)) ?_
  refine kx_go 1 (pc' := 17) (L' := [(0, .inr (.inr (.inl (some 0)))), (1, .inl (Int32.ofNat 0))]) (S' := [.inl (Int32.ofNat 0), .inr (.inr (.inl (some 127)))]) (h' := h) (by with_unfolding_all rfl) ?_
  refine kc_call_rule (M2 := wk_m61) (av := [.inr (.inr (.inl (some 127))), .inl (Int32.ofNat 0)]) (r := []) rfl rfl (kc_Con_le (kr_readx0 (d := 0) (n := n) (t := t) hg hn hb ht (fun i hi => kx_ofr (hw _ _ _ (kr_k129 i hi))) (kx_ofr (hw _ _ _ t0)) (kx_ofr (hw _ _ _ u1)) (kx_ofr (hw _ _ _ u3)) (kx_ofr (hw _ _ _ u2)) hn4 (kx_ofr (hw _ _ _ t2)) (kx_ofr (hw _ _ _ t3)) e7 e8) (by decide)) (fun rv h1 hq => ?_)
  have hpost := kr_post (g := g) hw (Or.inl rfl) hn (by decide) (kr_Qrx_w hq)
  obtain ⟨pp, pp1, -, -, hw1, hfr1⟩ := hpost
  obtain rfl := List.mem_singleton.mp pp1
  simp only at hfr1
  unfold kr_Qrx at hq
  have ez : rv = some (.inl (fu_fz t n 9 0)) := by
    cases hk : kp_its t n 9 0 61 0 with
    | some l =>
      rw [hk] at hq
      obtain ⟨p2, k2, s2, e, -⟩ := hq
      rw [fu_fz1 hk]
      exact e
    | none =>
      rw [hk] at hq
      obtain ⟨h2, it2, p2, k2, s2, e, ⟨-, -, -, es⟩, -⟩ := hq
      rw [fu_fz0 hk, ← es]
      exact e
  subst ez
  exact kc_ret_ok rfl (rv := some (.inl (fu_fz t n 9 0))) rfl ⟨rfl, hw1, hfr1⟩
set_option maxRecDepth 20000 in
theorem fu_rft0 {g : kc_G} {h : kc_H} {n : Nat} {t : Nat → Nat} (hg : kc_ok g) (hw : kd_wt kd_ty h) (hn : n ≤ 240) (hb : ∀ j, j < 240 → t j < 256) (hnt : h 260 (160 + 0) = .inl (Int32.ofNat n)) (ht : ∀ j, j < 240 → h 260 (170 + 240 * 0 + j) = .inl (Int32.ofNat (t j))) : kc_Con g 10 63 [.inr (.inr (.inl (some 259))), .inl (Int32.ofNat 0)] h (fun rv h1 => rv = some (.inl (fu_fz t n 9 0)) ∧ kd_wt kd_ty h1 ∧ kd_fr km_W h h1) := by
  obtain ⟨t0, t6, t7, t8, t9, t10, t11, t12, t13⟩ := km_k259
  obtain ⟨s0, -, e8⟩ := kx_ofg (by omega) (hw _ _ _ t8)
  obtain ⟨k0, -, e9⟩ := kx_ofg (by omega) (hw _ _ _ t9)
  obtain ⟨v0, hv0, e10⟩ := kx_ofg (by omega) (hw _ _ _ t10)
  refine kc_Con_new hg (M := wk_m63) rfl rfl rfl (show 2 ≤ 2 by decide) ?_
  refine kx_go 1 (pc' := 1) (L' := [(0, .inr (.inr (.inl (some 259)))), (1, .inl (Int32.ofNat 0))]) (S' := [.inl (Int32.ofNat 0)]) (h' := h) (by with_unfolding_all rfl) ?_
  refine kc_call_rule (M2 := wk_m57) (av := [.inl (Int32.ofNat 0)]) (r := []) rfl rfl (kc_Con_le (fu_r57 (d := 0) hg) (by decide)) (fun rv h2 hq => ?_)
  obtain ⟨rfl, e⟩ := hq
  rw [e]
  clear e
  show kc_Ev g 9 wk_m63 _ 4 [(0, .inr (.inr (.inl (some 259)))), (1, .inl (Int32.ofNat 0))] [.inl (kp_b (fu_in (Int32.ofNat 0) 0 1))] h
  refine kx_go 1 (pc' := (if kc_cnd .ne (kp_b (fu_in (Int32.ofNat 0) 0 1)).toInt 0 then 12 else 7)) (L' := [(0, .inr (.inr (.inl (some 259)))), (1, .inl (Int32.ofNat 0))]) (S' := []) (h' := h) (by with_unfolding_all rfl) ?_
  rw [if_pos (kx_b1.mpr (show fu_in (Int32.ofNat 0) 0 1 = true by decide))]
  refine kx_go 2 (pc' := 14) (L' := [(0, .inr (.inr (.inl (some 259)))), (1, .inl (Int32.ofNat 0))]) (S' := [.inl (Int32.ofNat 0), .inr (.inr (.inl (some 259)))]) (h' := h) (by with_unfolding_all rfl) ?_
  refine kc_call_rule (M2 := wk_m64) (av := [.inr (.inr (.inl (some 259))), .inl (Int32.ofNat 0)]) (r := []) rfl rfl (kc_Con_le (km_readsx0 (d := 0) (n := n) (t := t) hg hn hb hnt ht (by omega) (kx_ofr (hw _ _ _ t0)) e8 e9 e10 (kx_ofr (hw _ _ _ t11)) (kx_ofr (hw _ _ _ t12))) (by decide)) (fun rv h1 hq => ?_)
  have hpost := km_post hw (by decide) hn (by decide) (km_Qrx_w hq)
  obtain ⟨pp, pp1, -, -, hw1, hfr1⟩ := hpost
  obtain rfl := List.mem_singleton.mp pp1
  simp only at hfr1
  unfold km_Qrx at hq
  cases hk : kp_its t n 9 0 61 0 with
  | some l =>
    rw [hk] at hq
    obtain ⟨a2, s2, k2, u2, rfl, -, -⟩ := hq
    show kc_Ev g 9 wk_m63 _ 17 [(0, .inr (.inr (.inl (some 259)))), (1, .inl (Int32.ofNat 0))] [.inl (Int32.ofNat 1)] h1
    refine kx_go 1 (pc' := 20) (L' := [(0, .inr (.inr (.inl (some 259)))), (1, .inl (Int32.ofNat 0))]) (S' := []) (h' := h1) (by with_unfolding_all rfl) ?_
    refine kx_go 2 (pc' := 28) (L' := [(0, .inr (.inr (.inl (some 259)))), (1, .inl (Int32.ofNat 0))]) (S' := [.inl (Int32.ofInt (-1))]) (h' := h1) (by with_unfolding_all rfl) ?_
    exact kc_ret_ok rfl (rv := some (.inl (Int32.ofInt (-1)))) rfl ⟨by rw [fu_fz1 hk], hw1, hfr1⟩
  | none =>
    rw [hk] at hq
    obtain ⟨hx, it2, a2, s2, k2, u2, rfl, ⟨-, -, -, es2⟩, hh1⟩ := hq
    have es1 : h1 259 8 = .inl (Int32.ofNat s2) := by
      rw [hh1]
      rfl
    show kc_Ev g 9 wk_m63 _ 17 [(0, .inr (.inr (.inl (some 259)))), (1, .inl (Int32.ofNat 0))] [.inl (Int32.ofNat 0)] h1
    refine kx_go 1 (pc' := 24) (L' := [(0, .inr (.inr (.inl (some 259)))), (1, .inl (Int32.ofNat 0))]) (S' := []) (h' := h1) (by with_unfolding_all rfl) ?_
    refine kx_go 1 (pc' := 25) (L' := [(0, .inr (.inr (.inl (some 259)))), (1, .inl (Int32.ofNat 0))]) (S' := [.inr (.inr (.inl (some 259)))]) (h' := h1) (by with_unfolding_all rfl) ?_
    refine kx_getf (c := 259) (v := .inl (Int32.ofNat s2)) rfl (by decide) es1 ?_
    exact kc_ret_ok rfl (rv := some (.inl (Int32.ofNat s2))) rfl ⟨by rw [fu_fz0 hk, ← es2], hw1, hfr1⟩
set_option maxRecDepth 20000 in
theorem fU_Xfault0 {g : kc_G} {h : kc_H} (hg : kc_ok g) (hI : fu_I h) : kc_Con g 30 60 [.inr (.inr (.inl (some 0))), .inl (Int32.ofNat 0)] h (fun rv h1 => ∃ z : Int32, rv = some (.inl z) ∧ kc_Con g 30 63 [.inr (.inr (.inl (some 259))), .inl (Int32.ofNat 0)] h1 (fun rv2 h2 => rv2 = some (.inl z) ∧ fu_I h2)) := by
  obtain ⟨B, hC, hR⟩ := hI.2.1
  have hB := fu_C_T hI.1 hC
  obtain ⟨n, n1, en⟩ := fu_nat (by decide) (fu_fby 0 (by decide)).2.2 (hB (160 + 0) (by decide) (by decide))
  have ht0 : ∀ j, ∃ v : Nat, j < 240 → v < 256 ∧ B (170 + 240 * 0 + j) = Int32.ofNat v := fun j => by
    by_cases hj : j < 240
    · obtain ⟨v, v1, v2⟩ := fu_nat (by decide) (fu_ftx 0 (by decide) j hj).2.2 (hB (170 + 240 * 0 + j) (by omega) (fu_ftx 0 (by decide) j hj).2.1)
      exact ⟨v, fun _ => ⟨by omega, v2⟩⟩
    · exact ⟨0, fun q => absurd q hj⟩
  obtain ⟨t, ht⟩ := Classical.axiomOfChoice ht0
  have h29 : ∀ j, j < 240 → h (1 + (28 + 0)) j = .inl (Int32.ofNat (t j)) := fun j hj => by
    have e := fu_Cj (c := 28 + 0) (i := j) hC (by omega) (fu_ftx 0 (by decide) j hj).2.1 (fu_ftx 0 (by decide) j hj).1
    rw [(ht j hj).2] at e
    exact e
  have h31 : h 31 0 = .inl (Int32.ofNat n) := (fu_Cj (c := 30) (i := 0) (j := 160 + 0) hC (by decide) (by decide) (by decide)).trans (by rw [en])
  refine kc_Con_mono (kc_Con_le (fu_cft0 hg hI.1 n1 (fun j hj => (ht j hj).1) h29 h31) (by decide)) (fun rv h1 hq => ?_)
  obtain ⟨rfl, w1, f1⟩ := hq
  have I1 := fu_fr (by decide +kernel) f1 w1 hI
  have R1 : fu_B B h1 := fu_Beq (fun i _ => f1 260 i (fun q hq => by
    simp only [kr_W, List.mem_cons, List.not_mem_nil, or_false] at hq
    rcases hq with rfl | rfl | rfl | rfl <;> exact kb_inr (by (try dsimp only); omega))) hR
  refine ⟨_, rfl, kc_Con_mono (kc_Con_le (fu_rft0 hg w1 n1 (fun j hj => (ht j hj).1) ((R1 (160 + 0) (by decide) (by decide)).trans (by rw [en])) (fun j hj => (R1 (170 + 240 * 0 + j) (by omega) (fu_ftx 0 (by decide) j hj).2.1).trans (by rw [(ht j hj).2]))) (by decide)) (fun rv h2 hq => ?_)⟩
  obtain ⟨rfl, w2, f2⟩ := hq
  exact ⟨rfl, fu_fr (by decide +kernel) f2 w2 I1⟩
set_option maxRecDepth 20000 in
theorem fu_cft1 {g : kc_G} {h : kc_H} {n : Nat} {t : Nat → Nat} (hg : kc_ok g) (hw : kd_wt kd_ty h) (hn : n ≤ 240) (hb : ∀ j, j < 240 → t j < 256) (ht : ∀ j, j < 240 → h 30 j = .inl (Int32.ofNat (t j))) (hn4 : h 31 1 = .inl (Int32.ofNat n)) : kc_Con g 10 60 [.inr (.inr (.inl (some 0))), .inl (Int32.ofNat 1)] h (fun rv h1 => rv = some (.inl (fu_fz t n 7 9)) ∧ kd_wt kd_ty h1 ∧ kd_fr kr_W h h1) := by
  obtain ⟨t1, t2, t3, t4, t5, t6, t7, t8, t0⟩ := kr_k127
  obtain ⟨u1, u2, u3, u4, u5, u6⟩ := kr_k1
  obtain ⟨k0, -, e7⟩ := kx_ofg (by omega) (hw _ _ _ t7)
  obtain ⟨s0, -, e8⟩ := kx_ofg (by omega) (hw _ _ _ t8)
  refine kc_Con_new hg (M := wk_m60) rfl rfl rfl (show 2 ≤ 2 by decide) ?_
  refine kx_go 3 (pc' := 3) (L' := [(0, .inr (.inr (.inl (some 0)))), (1, .inl (Int32.ofNat 1))]) (S' := [.inl (Int32.ofNat 1), .inl (Int32.ofNat 0), .inl (Int32.ofNat 1)]) (h' := h) (by with_unfolding_all rfl) ?_
  refine kc_call_rule (M2 := wk_m19) (av := [.inl (Int32.ofNat 1), .inl (Int32.ofNat 0), .inl (Int32.ofNat 1)]) (r := []) rfl rfl (kc_Con_le (fu_bt (d := 0) (lo := 0) (hi := 1) hg rfl rfl) (by decide)) (fun rv h2 hq => ?_)
  obtain ⟨rfl, e⟩ := hq
  rw [e]
  clear e
  show kc_Ev g 9 wk_m60 _ 6 [(0, .inr (.inr (.inl (some 0)))), (1, .inl (Int32.ofNat 1))] [.inl (kp_b (fu_in (Int32.ofNat 1) 0 1))] h
  refine kx_go 1 (pc' := (if kc_cnd .ne (kp_b (fu_in (Int32.ofNat 1) 0 1)).toInt 0 then 12 else 9)) (L' := [(0, .inr (.inr (.inl (some 0)))), (1, .inl (Int32.ofNat 1))]) (S' := []) (h' := h) (by with_unfolding_all rfl) ?_
  rw [if_pos (kx_b1.mpr (show fu_in (Int32.ofNat 1) 0 1 = true by decide))]
  refine kx_go 1 (pc' := 13) (L' := [(0, .inr (.inr (.inl (some 0)))), (1, .inl (Int32.ofNat 1))]) (S' := [.inr (.inr (.inl (some 0)))]) (h' := h) (by with_unfolding_all rfl) ?_
  refine kx_getf (c := 0) (v := .inr (.inr (.inl (some 127)))) rfl (by decide) (kx_ofr (hw _ _ _ kv_k0.2.2)) ?_
  refine kx_go 1 (pc' := 17) (L' := [(0, .inr (.inr (.inl (some 0)))), (1, .inl (Int32.ofNat 1))]) (S' := [.inl (Int32.ofNat 1), .inr (.inr (.inl (some 127)))]) (h' := h) (by with_unfolding_all rfl) ?_
  refine kc_call_rule (M2 := wk_m61) (av := [.inr (.inr (.inl (some 127))), .inl (Int32.ofNat 1)]) (r := []) rfl rfl (kc_Con_le (kr_readx1 (d := 0) (n := n) (t := t) hg hn hb ht (fun i hi => kx_ofr (hw _ _ _ (kr_k129 i hi))) (kx_ofr (hw _ _ _ t0)) (kx_ofr (hw _ _ _ u1)) (kx_ofr (hw _ _ _ u4)) (kx_ofr (hw _ _ _ u2)) hn4 (kx_ofr (hw _ _ _ t2)) (kx_ofr (hw _ _ _ t3)) e7 e8) (by decide)) (fun rv h1 hq => ?_)
  have hpost := kr_post (g := g) hw (Or.inr rfl) hn (by decide) (kr_Qrx_w hq)
  obtain ⟨pp, pp1, -, -, hw1, hfr1⟩ := hpost
  obtain rfl := List.mem_singleton.mp pp1
  simp only at hfr1
  unfold kr_Qrx at hq
  have ez : rv = some (.inl (fu_fz t n 7 9)) := by
    cases hk : kp_its t n 7 9 61 0 with
    | some l =>
      rw [hk] at hq
      obtain ⟨p2, k2, s2, e, -⟩ := hq
      rw [fu_fz1 hk]
      exact e
    | none =>
      rw [hk] at hq
      obtain ⟨h2, it2, p2, k2, s2, e, ⟨-, -, -, es⟩, -⟩ := hq
      rw [fu_fz0 hk, ← es]
      exact e
  subst ez
  exact kc_ret_ok rfl (rv := some (.inl (fu_fz t n 7 9))) rfl ⟨rfl, hw1, hfr1⟩
set_option maxRecDepth 20000 in
theorem fu_rft1 {g : kc_G} {h : kc_H} {n : Nat} {t : Nat → Nat} (hg : kc_ok g) (hw : kd_wt kd_ty h) (hn : n ≤ 240) (hb : ∀ j, j < 240 → t j < 256) (hnt : h 260 (160 + 1) = .inl (Int32.ofNat n)) (ht : ∀ j, j < 240 → h 260 (170 + 240 * 1 + j) = .inl (Int32.ofNat (t j))) : kc_Con g 10 63 [.inr (.inr (.inl (some 259))), .inl (Int32.ofNat 1)] h (fun rv h1 => rv = some (.inl (fu_fz t n 7 9)) ∧ kd_wt kd_ty h1 ∧ kd_fr km_W h h1) := by
  obtain ⟨t0, t6, t7, t8, t9, t10, t11, t12, t13⟩ := km_k259
  obtain ⟨s0, -, e8⟩ := kx_ofg (by omega) (hw _ _ _ t8)
  obtain ⟨k0, -, e9⟩ := kx_ofg (by omega) (hw _ _ _ t9)
  obtain ⟨v0, hv0, e10⟩ := kx_ofg (by omega) (hw _ _ _ t10)
  refine kc_Con_new hg (M := wk_m63) rfl rfl rfl (show 2 ≤ 2 by decide) ?_
  refine kx_go 1 (pc' := 1) (L' := [(0, .inr (.inr (.inl (some 259)))), (1, .inl (Int32.ofNat 1))]) (S' := [.inl (Int32.ofNat 1)]) (h' := h) (by with_unfolding_all rfl) ?_
  refine kc_call_rule (M2 := wk_m57) (av := [.inl (Int32.ofNat 1)]) (r := []) rfl rfl (kc_Con_le (fu_r57 (d := 0) hg) (by decide)) (fun rv h2 hq => ?_)
  obtain ⟨rfl, e⟩ := hq
  rw [e]
  clear e
  show kc_Ev g 9 wk_m63 _ 4 [(0, .inr (.inr (.inl (some 259)))), (1, .inl (Int32.ofNat 1))] [.inl (kp_b (fu_in (Int32.ofNat 1) 0 1))] h
  refine kx_go 1 (pc' := (if kc_cnd .ne (kp_b (fu_in (Int32.ofNat 1) 0 1)).toInt 0 then 12 else 7)) (L' := [(0, .inr (.inr (.inl (some 259)))), (1, .inl (Int32.ofNat 1))]) (S' := []) (h' := h) (by with_unfolding_all rfl) ?_
  rw [if_pos (kx_b1.mpr (show fu_in (Int32.ofNat 1) 0 1 = true by decide))]
  refine kx_go 2 (pc' := 14) (L' := [(0, .inr (.inr (.inl (some 259)))), (1, .inl (Int32.ofNat 1))]) (S' := [.inl (Int32.ofNat 1), .inr (.inr (.inl (some 259)))]) (h' := h) (by with_unfolding_all rfl) ?_
  refine kc_call_rule (M2 := wk_m64) (av := [.inr (.inr (.inl (some 259))), .inl (Int32.ofNat 1)]) (r := []) rfl rfl (kc_Con_le (km_readsx1 (d := 0) (n := n) (t := t) hg hn hb hnt ht (by omega) (kx_ofr (hw _ _ _ t0)) e8 e9 e10 (kx_ofr (hw _ _ _ t11)) (kx_ofr (hw _ _ _ t12))) (by decide)) (fun rv h1 hq => ?_)
  have hpost := km_post hw (by decide) hn (by decide) (km_Qrx_w hq)
  obtain ⟨pp, pp1, -, -, hw1, hfr1⟩ := hpost
  obtain rfl := List.mem_singleton.mp pp1
  simp only at hfr1
  unfold km_Qrx at hq
  cases hk : kp_its t n 7 9 61 0 with
  | some l =>
    rw [hk] at hq
    obtain ⟨a2, s2, k2, u2, rfl, -, -⟩ := hq
    show kc_Ev g 9 wk_m63 _ 17 [(0, .inr (.inr (.inl (some 259)))), (1, .inl (Int32.ofNat 1))] [.inl (Int32.ofNat 1)] h1
    refine kx_go 1 (pc' := 20) (L' := [(0, .inr (.inr (.inl (some 259)))), (1, .inl (Int32.ofNat 1))]) (S' := []) (h' := h1) (by with_unfolding_all rfl) ?_
    refine kx_go 2 (pc' := 28) (L' := [(0, .inr (.inr (.inl (some 259)))), (1, .inl (Int32.ofNat 1))]) (S' := [.inl (Int32.ofInt (-1))]) (h' := h1) (by with_unfolding_all rfl) ?_
    exact kc_ret_ok rfl (rv := some (.inl (Int32.ofInt (-1)))) rfl ⟨by rw [fu_fz1 hk], hw1, hfr1⟩
  | none =>
    rw [hk] at hq
    obtain ⟨hx, it2, a2, s2, k2, u2, rfl, ⟨-, -, -, es2⟩, hh1⟩ := hq
    have es1 : h1 259 8 = .inl (Int32.ofNat s2) := by
      rw [hh1]
      rfl
    show kc_Ev g 9 wk_m63 _ 17 [(0, .inr (.inr (.inl (some 259)))), (1, .inl (Int32.ofNat 1))] [.inl (Int32.ofNat 0)] h1
    refine kx_go 1 (pc' := 24) (L' := [(0, .inr (.inr (.inl (some 259)))), (1, .inl (Int32.ofNat 1))]) (S' := []) (h' := h1) (by with_unfolding_all rfl) ?_
    refine kx_go 1 (pc' := 25) (L' := [(0, .inr (.inr (.inl (some 259)))), (1, .inl (Int32.ofNat 1))]) (S' := [.inr (.inr (.inl (some 259)))]) (h' := h1) (by with_unfolding_all rfl) ?_
    refine kx_getf (c := 259) (v := .inl (Int32.ofNat s2)) rfl (by decide) es1 ?_
    exact kc_ret_ok rfl (rv := some (.inl (Int32.ofNat s2))) rfl ⟨by rw [fu_fz0 hk, ← es2], hw1, hfr1⟩
set_option maxRecDepth 20000 in
theorem fU_Xfault1 {g : kc_G} {h : kc_H} (hg : kc_ok g) (hI : fu_I h) : kc_Con g 30 60 [.inr (.inr (.inl (some 0))), .inl (Int32.ofNat 1)] h (fun rv h1 => ∃ z : Int32, rv = some (.inl z) ∧ kc_Con g 30 63 [.inr (.inr (.inl (some 259))), .inl (Int32.ofNat 1)] h1 (fun rv2 h2 => rv2 = some (.inl z) ∧ fu_I h2)) := by
  obtain ⟨B, hC, hR⟩ := hI.2.1
  have hB := fu_C_T hI.1 hC
  obtain ⟨n, n1, en⟩ := fu_nat (by decide) (fu_fby 1 (by decide)).2.2 (hB (160 + 1) (by decide) (by decide))
  have ht0 : ∀ j, ∃ v : Nat, j < 240 → v < 256 ∧ B (170 + 240 * 1 + j) = Int32.ofNat v := fun j => by
    by_cases hj : j < 240
    · obtain ⟨v, v1, v2⟩ := fu_nat (by decide) (fu_ftx 1 (by decide) j hj).2.2 (hB (170 + 240 * 1 + j) (by omega) (fu_ftx 1 (by decide) j hj).2.1)
      exact ⟨v, fun _ => ⟨by omega, v2⟩⟩
    · exact ⟨0, fun q => absurd q hj⟩
  obtain ⟨t, ht⟩ := Classical.axiomOfChoice ht0
  have h29 : ∀ j, j < 240 → h (1 + (28 + 1)) j = .inl (Int32.ofNat (t j)) := fun j hj => by
    have e := fu_Cj (c := 28 + 1) (i := j) hC (by omega) (fu_ftx 1 (by decide) j hj).2.1 (fu_ftx 1 (by decide) j hj).1
    rw [(ht j hj).2] at e
    exact e
  have h31 : h 31 1 = .inl (Int32.ofNat n) := (fu_Cj (c := 30) (i := 1) (j := 160 + 1) hC (by decide) (by decide) (by decide)).trans (by rw [en])
  refine kc_Con_mono (kc_Con_le (fu_cft1 hg hI.1 n1 (fun j hj => (ht j hj).1) h29 h31) (by decide)) (fun rv h1 hq => ?_)
  obtain ⟨rfl, w1, f1⟩ := hq
  have I1 := fu_fr (by decide +kernel) f1 w1 hI
  have R1 : fu_B B h1 := fu_Beq (fun i _ => f1 260 i (fun q hq => by
    simp only [kr_W, List.mem_cons, List.not_mem_nil, or_false] at hq
    rcases hq with rfl | rfl | rfl | rfl <;> exact kb_inr (by (try dsimp only); omega))) hR
  refine ⟨_, rfl, kc_Con_mono (kc_Con_le (fu_rft1 hg w1 n1 (fun j hj => (ht j hj).1) ((R1 (160 + 1) (by decide) (by decide)).trans (by rw [en])) (fun j hj => (R1 (170 + 240 * 1 + j) (by omega) (fu_ftx 1 (by decide) j hj).2.1).trans (by rw [(ht j hj).2]))) (by decide)) (fun rv h2 hq => ?_)⟩
  obtain ⟨rfl, w2, f2⟩ := hq
  exact ⟨rfl, fu_fr (by decide +kernel) f2 w2 I1⟩
theorem fU_Xfault {g : kc_G} {h : kc_H} {a : Int32} (hg : kc_ok g) (hI : fu_I h) : kc_Con g 30 60 [.inr (.inr (.inl (some 0))), .inl a] h (fun rv h1 => ∃ z : Int32, rv = some (.inl z) ∧ kc_Con g 30 63 [.inr (.inr (.inl (some 259))), .inl a] h1 (fun rv2 h2 => rv2 = some (.inl z) ∧ fu_I h2)) := by
  by_cases k : 0 ≤ a.toInt ∧ a.toInt ≤ 1
  · obtain ⟨x, x1, -, rfl⟩ := ku_nat (u := 1) k.1 (by omega)
    rcases (show x = 0 ∨ x = 1 by omega) with rfl | rfl
    · exact fU_Xfault0 hg hI
    · exact fU_Xfault1 hg hI
  · refine kc_Con_mono (kc_Con_le (fu_cftb hg k) (by decide)) (fun rv h1 hq => ?_)
    obtain ⟨rfl, rfl⟩ := hq
    refine ⟨_, rfl, kc_Con_mono (kc_Con_le (fu_rftb hg k) (by decide)) (fun rv h2 hq => ?_)⟩
    obtain ⟨rfl, rfl⟩ := hq
    exact ⟨rfl, hI⟩
