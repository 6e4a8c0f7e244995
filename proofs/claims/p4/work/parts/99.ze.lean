/-! ===== the day, class ===== -/
/-! items as they lie behind the reading -/
theorem kr_w_at {r : Nat} : ∀ (vs : List Nat) (h : kc_H) (j k x : Nat), vs[k]? = some x → kr_w h r j vs r (j + k) = .inl (Int32.ofNat x)
  | [], _, _, k, x, e => by simp at e
  | v :: vs, h, j, 0, x, e => by
    have e : some v = some x := e
    cases e
    have : ∀ (vs : List Nat) (h : kc_H) (j b : Nat), b < j → kr_w h r j vs r b = h r b := by
      intro vs
      induction vs with
      | nil => intro h j b _; rfl
      | cons u vs ih =>
        intro h j b hb
        show kr_w (kc_upd h r j (.inl (Int32.ofNat u))) r (j + 1) vs r b = h r b
        rw [ih _ _ _ (by omega)]
        unfold kc_upd
        rw [if_neg (by omega)]
    show kr_w (kc_upd h r j (.inl (Int32.ofNat v))) r (j + 1) vs r (j + 0) = _
    rw [this vs _ (j + 1) (j + 0) (by omega)]
    unfold kc_upd
    rw [if_pos ⟨rfl, by omega⟩]
  | v :: vs, h, j, k + 1, x, e => by
    have e : vs[k]? = some x := by simpa using e
    show kr_w (kc_upd h r j (.inl (Int32.ofNat v))) r (j + 1) vs r (j + (k + 1)) = _
    rw [show j + (k + 1) = j + 1 + k from by omega]
    exact kr_w_at vs _ (j + 1) k x e
theorem kr_ws_o : ∀ (l : List (Nat × List Nat)) (h : kc_H) (it r b : Nat), r < it → (kr_ws h it l 128 r = h 128 r) ∧ (kr_ws h it l (130 + r) b = h (130 + r) b)
  | [], _, _, _, _, _ => ⟨rfl, rfl⟩
  | q :: l, h, it, r, b, hr => by
    obtain ⟨e1, e2⟩ := kr_ws_o l (kr_w1 h it q) (it + 1) r b (by omega)
    refine ⟨e1.trans ?_, e2.trans ?_⟩
    · unfold kr_w1 kc_upd
      rw [if_neg (by omega)]
      exact kr_w_o (by omega) _ _ _
    · unfold kr_w1 kc_upd
      rw [if_neg (by omega)]
      exact kr_w_o (by omega) _ _ _
theorem kr_ws_at : ∀ (l : List (Nat × List Nat)) (h : kc_H) (it i : Nat) (q : Nat × List Nat), l[i]? = some q → kr_ws h it l 128 (it + i) = .inl (Int32.ofNat q.1) ∧ ∀ k x, q.2[k]? = some x → kr_ws h it l (130 + (it + i)) k = .inl (Int32.ofNat x)
  | [], _, _, i, q, e => by simp at e
  | p :: l, h, it, 0, q, e => by
    have e : some p = some q := e
    cases e
    refine ⟨?_, fun k x hx => ?_⟩
    · show kr_ws (kr_w1 h it p) (it + 1) l 128 (it + 0) = _
      rw [(kr_ws_o l (kr_w1 h it p) (it + 1) (it + 0) 0 (by omega)).1]
      unfold kr_w1 kc_upd
      rw [if_pos ⟨rfl, by omega⟩]
    · show kr_ws (kr_w1 h it p) (it + 1) l (130 + (it + 0)) k = _
      rw [(kr_ws_o l (kr_w1 h it p) (it + 1) (it + 0) k (by omega)).2]
      unfold kr_w1
      rw [kj_uo (by omega), show 130 + (it + 0) = 130 + it from by omega]
      have := kr_w_at (r := 130 + it) p.2 h 0 k x hx
      rw [Nat.zero_add] at this
      exact this
  | p :: l, h, it, i + 1, q, e => by
    have e : l[i]? = some q := by simpa using e
    have := kr_ws_at l (kr_w1 h it p) (it + 1) i q e
    rw [show it + 1 + i = it + (i + 1) from by omega] at this
    exact this
theorem km_nw_at {it : Nat} : ∀ (vs : List Nat) (h : kc_H) (j k x : Nat), vs[k]? = some x → km_nw h it j vs 265 (5 * it + (j + k)) = .inl (Int32.ofNat x)
  | [], _, _, k, x, e => by simp at e
  | v :: vs, h, j, 0, x, e => by
    have e : some v = some x := e
    cases e
    have : ∀ (vs : List Nat) (h : kc_H) (j b : Nat), b < 5 * it + j → km_nw h it j vs 265 b = h 265 b := by
      intro vs
      induction vs with
      | nil => intro h j b _; rfl
      | cons u vs ih =>
        intro h j b hb
        show km_nw (kc_upd h 265 (5 * it + j) (.inl (Int32.ofNat u))) it (j + 1) vs 265 b = h 265 b
        rw [ih _ _ _ (by omega)]
        unfold kc_upd
        rw [if_neg (by omega)]
    show km_nw (kc_upd h 265 (5 * it + j) (.inl (Int32.ofNat v))) it (j + 1) vs 265 (5 * it + (j + 0)) = _
    rw [this vs _ (j + 1) _ (by omega)]
    unfold kc_upd
    rw [if_pos ⟨rfl, by omega⟩]
  | v :: vs, h, j, k + 1, x, e => by
    have e : vs[k]? = some x := by simpa using e
    show km_nw (kc_upd h 265 (5 * it + j) (.inl (Int32.ofNat v))) it (j + 1) vs 265 (5 * it + (j + (k + 1))) = _
    rw [show j + (k + 1) = j + 1 + k from by omega]
    exact km_nw_at vs _ (j + 1) k x e
theorem km_nw_o {it : Nat} : ∀ (vs : List Nat) (h : kc_H) (j a b : Nat), (¬ a = 265 ∨ b < 5 * it + j) → km_nw h it j vs a b = h a b
  | [], _, _, _, _, _ => rfl
  | v :: vs, h, j, a, b, hb => by
    show km_nw (kc_upd h 265 (5 * it + j) (.inl (Int32.ofNat v))) it (j + 1) vs a b = h a b
    rw [km_nw_o vs _ (j + 1) a b (by omega)]
    unfold kc_upd
    rw [if_neg (by omega)]
theorem km_ns_o : ∀ (l : List (Nat × List Nat)) (h : kc_H) (it r b : Nat), r < it → b < 5 → (km_ns h it l 264 r = h 264 r) ∧ (km_ns h it l 265 (5 * r + b) = h 265 (5 * r + b))
  | [], _, _, _, _, _, _ => ⟨rfl, rfl⟩
  | q :: l, h, it, r, b, hr, hb => by
    obtain ⟨e1, e2⟩ := km_ns_o l (km_n1 h it q) (it + 1) r b (by omega) hb
    refine ⟨e1.trans ?_, e2.trans ?_⟩
    · unfold km_n1 kc_upd
      rw [if_neg (by omega)]
      exact km_nw_o _ _ _ _ _ (Or.inl (by omega))
    · unfold km_n1
      rw [kj_uo (by omega)]
      exact km_nw_o _ _ _ _ _ (Or.inr (by omega))
theorem km_ns_at : ∀ (l : List (Nat × List Nat)) (h : kc_H) (it i : Nat) (q : Nat × List Nat), l[i]? = some q → (∀ q ∈ l, q.2.length ≤ 4) → km_ns h it l 264 (it + i) = .inl (Int32.ofNat (kp_tv q.1)) ∧ ∀ k x, q.2[k]? = some x → km_ns h it l 265 (5 * (it + i) + k) = .inl (Int32.ofNat x)
  | [], _, _, i, q, e, _ => by simp at e
  | p :: l, h, it, 0, q, e, hl => by
    have e : some p = some q := e
    cases e
    refine ⟨?_, fun k x hx => ?_⟩
    · show km_ns (km_n1 h it p) (it + 1) l 264 (it + 0) = _
      rw [(km_ns_o l (km_n1 h it p) (it + 1) (it + 0) 0 (by omega) (by omega)).1]
      unfold km_n1 kc_upd
      rw [if_pos ⟨rfl, by omega⟩]
    · have hk : k < p.2.length := by
        have := List.getElem?_eq_some_iff.mp hx
        exact this.1
      have := hl p List.mem_cons_self
      show km_ns (km_n1 h it p) (it + 1) l 265 (5 * (it + 0) + k) = _
      rw [(km_ns_o l (km_n1 h it p) (it + 1) (it + 0) k (by omega) (by omega)).2]
      unfold km_n1
      rw [kj_uo (by omega), show 5 * (it + 0) + k = 5 * it + (0 + k) from by omega]
      exact km_nw_at (it := it) p.2 h 0 k x hx
  | p :: l, h, it, i + 1, q, e, hl => by
    have e : l[i]? = some q := by simpa using e
    have := km_ns_at l (km_n1 h it p) (it + 1) i q e (fun q hq => hl q (List.mem_cons_of_mem _ hq))
    rw [show it + 1 + i = it + (i + 1) from by omega] at this
    exact this
/-! ===== the class's day ===== -/
def kv_out (t : Nat → Nat) (n : Nat) : Option (Nat × Nat × Nat × (Nat → Nat)) := match kp_its t n 9 0 61 0 with
  | none => none
  | some l => kv_fold l 0 0 0 (fun _ => 0)
def kv_W67 : kd_W := [(1, 62, 0, 239), (127, 127, 1, 8), (128, 189, 0, 59)]
def kv_dC (h : kc_H) (out : Option (Nat × Nat × Nat × (Nat → Nat))) : Option kc_V → kc_H → Prop := fun rv h' => (∃ z : Int32, rv = some (.inl z)) ∧ kd_wt kd_ty h' ∧ kd_fr kv_W67 h h' ∧ (∀ j, j < 240 → h' 29 j = h 29 j) ∧ h' 31 0 = h 31 0 ∧ ((out = none ∧ h' 1 0 = h 1 0 ∧ h' 1 1 = h 1 1 ∧ h' 1 2 = h 1 2) ∨ ∃ D M L f, out = some (D, M, L, f) ∧ kv_C h' D M L)
theorem kt_K_wt {h : kc_H} {a b : Nat} (hw : kd_wt kd_ty h) (hk : ∀ k, k < 31 → ∀ i, i < kt_ln k → kd_rn (kd_ty (b + k)) i = kd_rn (kd_ty (a + k)) i) : kd_wt kd_ty (kt_K h a b 31) := by
  intro c i v hv
  unfold kt_K
  split
  · rename_i e
    obtain ⟨e1, e2, e3⟩ := e
    refine hw (a + (c - b)) i v ?_
    rw [← hk (c - b) (by omega) i e3, show b + (c - b) = c from by omega]
    exact hv
  · exact hw c i v hv
theorem kt_ty1_32 : ∀ k, k < 31 → ∀ i, i < kt_ln k → kd_rn (kd_ty (32 + k)) i = kd_rn (kd_ty (1 + k)) i := by decide +kernel
theorem kt_ty32_1 : ∀ k, k < 31 → ∀ i, i < kt_ln k → kd_rn (kd_ty (1 + k)) i = kd_rn (kd_ty (32 + k)) i := by decide +kernel
theorem kt_ty1_64 : ∀ k, k < 31 → ∀ i, i < kt_ln k → kd_rn (kd_ty (64 + k)) i = kd_rn (kd_ty (1 + k)) i := by decide +kernel
theorem kt_ty1_95 : ∀ k, k < 31 → ∀ i, i < kt_ln k → kd_rn (kd_ty (95 + k)) i = kd_rn (kd_ty (1 + k)) i := by decide +kernel
theorem kt_ty64_1 : ∀ k, k < 31 → ∀ i, i < kt_ln k → kd_rn (kd_ty (1 + k)) i = kd_rn (kd_ty (64 + k)) i := by decide +kernel
theorem kt_ty95_1 : ∀ k, k < 31 → ∀ i, i < kt_ln k → kd_rn (kd_ty (1 + k)) i = kd_rn (kd_ty (95 + k)) i := by decide +kernel
theorem kv_k0 : kd_rn (kd_ty 0) 0 = some (3, 1, 1) ∧ kd_rn (kd_ty 0) 1 = some (3, 32, 32) ∧ kd_rn (kd_ty 0) 4 = some (3, 127, 127) := by decide +kernel
set_option maxRecDepth 20000 in
theorem kv_dayl {g : kc_G} {d : Nat} {Q : Option kc_V → kc_H → Prop} {hB : kc_H} {z1 : Int32} {l : List (Nat × List Nat)} {out : Option (Nat × Nat × Nat × (Nat → Nat))} (hg : kc_ok g) (hd : 6 ≤ d) (hit : hB 127 1 = .inl (Int32.ofNat l.length)) (hl60 : l.length ≤ 60) (hl : ∀ (i : Nat) (q : Nat × List Nat), l[i]? = some q → kp_okI q ∧ q.1 < 9 ∧ q.2.length = ks_L (kp_sh q.1)) (hat : ∀ (i : Nat) (q : Nat × List Nat), l[i]? = some q → hB 128 i = .inl (Int32.ofNat q.1) ∧ ∀ k x, q.2[k]? = some x → hB (130 + i) k = .inl (Int32.ofNat x))
    (hQ1 : ∀ (z : Int32) (hE : kc_H) (D M L : Nat) (f : Nat → Nat), kd_wt kd_ty hE → kd_fr kv_WC hB hE → kv_C hE D M L → kv_fold [] D M L f = out → Q (some (.inl z)) hE) (hQ0 : ∀ (z : Int32) (hE : kc_H), kd_wt kd_ty hE → kd_fr kv_WC hB hE → out = none → Q (some (.inl z)) (kt_K hE 32 1 31)) : ∀ (u i : Nat) (hh : kc_H) (D M L : Nat) (f : Nat → Nat), l.length - i = u → i ≤ l.length → kd_wt kd_ty hh → kd_fr kv_WC hB hh → kv_Cs hh D M L f → kv_fold (l.drop i) D M L f = out → kc_Ev g d wk_m67 Q 39 [(2, .inl (Int32.ofNat i)), (1, .inl (z1)), (0, .inr (.inr (.inl (some 0))))] [] hh := by
  intro u
  induction u with
  | zero =>
    intro i hh D M L f hu hi hw hfr hC hf
    have k0 := kx_ofr (hw _ _ _ kv_k0.1)
    have k4 := kx_ofr (hw _ _ _ kv_k0.2.2)
    have eit : hh 127 1 = .inl (Int32.ofNat l.length) := (kv_fr1 hfr (by decide)).trans hit
    refine kx_go 2 (pc' := 41) (L' := [(2, .inl (Int32.ofNat i)), (1, .inl (z1)), (0, .inr (.inr (.inl (some 0))))]) (S' := [.inr (.inr (.inl (some 0))), .inl (Int32.ofNat i)]) (h' := hh) (by with_unfolding_all rfl) ?_
    refine kx_getf (c := 0) (v := .inr (.inr (.inl (some 127)))) rfl (by decide) k4 ?_
    refine kx_getf (c := 127) (v := .inl (Int32.ofNat l.length)) rfl (by decide) eit ?_
    refine kx_go 1 (pc' := (if kc_cnd .ge (Int32.ofNat i).toInt (Int32.ofNat l.length).toInt then 101 else 50)) (L' := [(2, .inl (Int32.ofNat i)), (1, .inl (z1)), (0, .inr (.inr (.inl (some 0))))]) (S' := []) (h' := hh) (by with_unfolding_all rfl) ?_
    rw [if_pos ((kx_ge (by omega) (by omega)).mpr (by omega))]
    refine kx_go 1 (pc' := 102) (L' := [(2, .inl (Int32.ofNat i)), (1, .inl (z1)), (0, .inr (.inr (.inl (some 0))))]) (S' := [.inr (.inr (.inl (some 0)))]) (h' := hh) (by with_unfolding_all rfl) ?_
    refine kx_getf (c := 0) (v := .inr (.inr (.inl (some 127)))) rfl (by decide) k4 ?_
    refine kx_getf (c := 127) (v := .inl (Int32.ofNat l.length)) rfl (by decide) eit ?_
    have hnil : l.drop i = [] := List.drop_eq_nil_of_le (by omega)
    rw [hnil] at hf
    exact kc_ret_ok rfl (rv := some (.inl (Int32.ofNat l.length))) rfl (hQ1 _ _ D M L f hw hfr hC.1 hf)
  | succ u ih =>
    intro i hh D M L f hu hi hw hfr hC hf
    have k0 := kx_ofr (hw _ _ _ kv_k0.1)
    have k4 := kx_ofr (hw _ _ _ kv_k0.2.2)
    have eit : hh 127 1 = .inl (Int32.ofNat l.length) := (kv_fr1 hfr (by decide)).trans hit
    refine kx_go 2 (pc' := 41) (L' := [(2, .inl (Int32.ofNat i)), (1, .inl (z1)), (0, .inr (.inr (.inl (some 0))))]) (S' := [.inr (.inr (.inl (some 0))), .inl (Int32.ofNat i)]) (h' := hh) (by with_unfolding_all rfl) ?_
    refine kx_getf (c := 0) (v := .inr (.inr (.inl (some 127)))) rfl (by decide) k4 ?_
    refine kx_getf (c := 127) (v := .inl (Int32.ofNat l.length)) rfl (by decide) eit ?_
    refine kx_go 1 (pc' := (if kc_cnd .ge (Int32.ofNat i).toInt (Int32.ofNat l.length).toInt then 101 else 50)) (L' := [(2, .inl (Int32.ofNat i)), (1, .inl (z1)), (0, .inr (.inr (.inl (some 0))))]) (S' := []) (h' := hh) (by with_unfolding_all rfl) ?_
    rw [if_neg (fun q => by have := (kx_ge (by omega) (by omega)).mp q; omega)]
    obtain ⟨q, hq⟩ : ∃ q, l[i]? = some q := ⟨l[i]'(by omega), List.getElem?_eq_getElem (by omega)⟩
    obtain ⟨hqo, hq9, hql⟩ := hl i q hq
    obtain ⟨a1, a2⟩ := hat i q hq
    have ew : hh 128 i = .inl (Int32.ofNat q.1) := (kv_fr1 hfr ((show ∀ i, i < 60 → (kv_WC.all fun q => !kd_inr 128 q.1 q.2.1 i q.2.2.1 q.2.2.2) = true from by decide +kernel) i (by omega))).trans a1
    have er : ∀ k, hh (130 + i) k = hB (130 + i) k := fun k => hfr (130 + i) k (fun q hq => by
      simp only [kv_WC, List.mem_cons, List.not_mem_nil, or_false] at hq
      rcases hq with rfl | rfl | rfl | rfl | rfl <;> exact kb_inr (by (try dsimp only); omega))
    have hrow : hh 129 i = .inr (.inr (.inl (some (130 + i)))) := kx_ofr (hw _ _ _ (kr_k129 i (by omega)))
    obtain ⟨nf, hnf⟩ : ∃ nf : Nat → Nat, ∀ k, k < 4 → hh (130 + i) k = .inl (Int32.ofNat (nf k)) ∧ nf k < 1000 := by
      have : ∀ k, ∃ v, k < 4 → hh (130 + i) k = .inl (Int32.ofNat v) ∧ v < 1000 := fun k => by
        by_cases hk : k < 4
        · obtain ⟨v, v1, v2⟩ := kx_ofg (by omega) (hw _ _ _ (kr_k130 i (by omega) k hk))
          exact ⟨v, fun _ => ⟨v2, by omega⟩⟩
        · exact ⟨0, fun q => absurd q hk⟩
      exact Classical.axiomOfChoice this
    have hst : kv_step q.1 nf D M L f = kv_step q.1 (fun k => q.2.getD k 0) D M L f := kv_step_c hq9 (fun k hk => by
      have hk2 : k < q.2.length := by omega
      have e1 := a2 k q.2[k] (List.getElem?_eq_getElem hk2)
      have e2 := (hnf k (by have := hqo.2.1; omega)).1
      rw [er k, e1] at e2
      have e3 : Int32.ofNat q.2[k] = Int32.ofNat (nf k) := Sum.inl.inj e2
      have e4 : (Int32.ofNat q.2[k]).toInt = (Int32.ofNat (nf k)).toInt := by rw [e3]
      have e5 := hqo.2.2 q.2[k] (List.getElem_mem hk2)
      have e6 := (hnf k (by have := hqo.2.1; omega)).2
      rw [kx_ti (by omega), kx_ti (by omega)] at e4
      show nf k = q.2.getD k 0
      rw [List.getD_eq_getElem?_getD, List.getElem?_eq_getElem hk2]
      show nf k = q.2[k]
      omega)
    refine kx_go 1 (pc' := 51) (L' := [(2, .inl (Int32.ofNat i)), (1, .inl (z1)), (0, .inr (.inr (.inl (some 0))))]) (S' := [.inr (.inr (.inl (some 0)))]) (h' := hh) (by with_unfolding_all rfl) ?_
    refine kx_getf (c := 0) (v := .inr (.inr (.inl (some 1)))) rfl (by decide) k0 ?_
    refine kx_go 1 (pc' := 55) (L' := [(2, .inl (Int32.ofNat i)), (1, .inl (z1)), (0, .inr (.inr (.inl (some 0))))]) (S' := [.inr (.inr (.inl (some 0))), .inr (.inr (.inl (some 1)))]) (h' := hh) (by with_unfolding_all rfl) ?_
    refine kx_getf (c := 0) (v := .inr (.inr (.inl (some 127)))) rfl (by decide) k4 ?_
    refine kx_getf (c := 127) (v := .inr (.inr (.inl (some 128)))) rfl (by decide) (kx_ofr (hw _ _ _ kr_k127.2.1)) ?_
    refine kx_go 1 (pc' := 62) (L' := [(2, .inl (Int32.ofNat i)), (1, .inl (z1)), (0, .inr (.inr (.inl (some 0))))]) (S' := [.inl (Int32.ofNat i), .inr (.inr (.inl (some 128))), .inr (.inr (.inl (some 1)))]) (h' := hh) (by with_unfolding_all rfl) ?_
    refine kx_iald rfl (c := 128) (j := i) (m := 60) (v := .inl (Int32.ofNat q.1)) rfl (by decide) (by decide) (by omega) ew ?_
    refine kx_go 1 (pc' := 64) (L' := [(2, .inl (Int32.ofNat i)), (1, .inl (z1)), (0, .inr (.inr (.inl (some 0))))]) (S' := [.inr (.inr (.inl (some 0))), .inl (Int32.ofNat q.1), .inr (.inr (.inl (some 1)))]) (h' := hh) (by with_unfolding_all rfl) ?_
    refine kx_getf (c := 0) (v := .inr (.inr (.inl (some 127)))) rfl (by decide) k4 ?_
    refine kx_getf (c := 127) (v := .inr (.inr (.inl (some 129)))) rfl (by decide) (kx_ofr (hw _ _ _ kr_k127.2.2.1)) ?_
    refine kx_go 1 (pc' := 71) (L' := [(2, .inl (Int32.ofNat i)), (1, .inl (z1)), (0, .inr (.inr (.inl (some 0))))]) (S' := [.inl (Int32.ofNat i), .inr (.inr (.inl (some 129))), .inl (Int32.ofNat q.1), .inr (.inr (.inl (some 1)))]) (h' := hh) (by with_unfolding_all rfl) ?_
    refine kx_aald (c := 129) (j := i) (m := 60) (t0 := 2) (v := .inr (.inr (.inl (some (130 + i))))) rfl rfl (by decide) (by decide) (by decide) (by omega) hrow ?_
    refine kc_call_rule (M2 := wk_m181) (av := [.inr (.inr (.inl (some 1))), .inl (Int32.ofNat q.1), .inr (.inr (.inl (some (130 + i))))]) (r := []) rfl rfl (kc_Con_le (kv_tell hg hw (show i < 60 by omega) hq9 hC hnf) hd) (fun rv h2 hq2 => ?_)
    rw [hst] at hq2
    obtain ⟨r, rfl, hw2, hfr2, hq2⟩ := hq2
    have hdr : l.drop i = q :: l.drop (i + 1) := by
      rw [List.drop_eq_getElem_cons (show i < l.length by omega)]
      congr 1
      have := List.getElem?_eq_getElem (l := l) (i := i) (by omega)
      rw [this] at hq
      exact Option.some.inj hq
    rw [hdr] at hf
    show kc_Ev g d wk_m67 Q 75 [(2, .inl (Int32.ofNat i)), (1, .inl (z1)), (0, .inr (.inr (.inl (some 0))))] [.inl r] h2
    refine kx_go 1 (pc' := (if kc_cnd .ge (r).toInt 0 then 95 else 78)) (L' := [(2, .inl (Int32.ofNat i)), (1, .inl (z1)), (0, .inr (.inr (.inl (some 0))))]) (S' := []) (h' := h2) (by with_unfolding_all rfl) ?_
    rcases hq2 with ⟨D2, M2, L2, f2, e2, r0, hC2⟩ | ⟨e2, r0⟩
    · rw [if_pos (kv_g0 r0)]
      refine kx_go 2 (pc' := 39) (L' := [(2, .inl ((Int32.ofNat i) + Int32.ofInt 1)), (1, .inl (z1)), (0, .inr (.inr (.inl (some 0))))]) (S' := []) (h' := h2) (by with_unfolding_all rfl) ?_
      rw [kx_inc]
      refine ih (i + 1) h2 D2 M2 L2 f2 (by omega) (by omega) hw2 (kv_fr_tr hfr hfr2) hC2 ?_
      rw [← hf]
      show _ = (match kv_step q.1 (fun k => q.2.getD k 0) D M L f with
        | some s => kv_fold (l.drop (i + 1)) s.1 s.2.1 s.2.2.1 s.2.2.2
        | none => none)
      rw [e2]
    · rw [if_neg (kv_g1 r0)]
      have j0 := kx_ofr (hw2 _ _ _ kv_k0.1)
      have j1 := kx_ofr (hw2 _ _ _ kv_k0.2.1)
      refine kx_go 1 (pc' := 79) (L' := [(2, .inl (Int32.ofNat i)), (1, .inl (z1)), (0, .inr (.inr (.inl (some 0))))]) (S' := [.inr (.inr (.inl (some 0)))]) (h' := h2) (by with_unfolding_all rfl) ?_
      refine kx_getf (c := 0) (v := .inr (.inr (.inl (some 1)))) rfl (by decide) j0 ?_
      refine kx_go 1 (pc' := 83) (L' := [(2, .inl (Int32.ofNat i)), (1, .inl (z1)), (0, .inr (.inr (.inl (some 0))))]) (S' := [.inr (.inr (.inl (some 0))), .inr (.inr (.inl (some 1)))]) (h' := h2) (by with_unfolding_all rfl) ?_
      refine kx_getf (c := 0) (v := .inr (.inr (.inl (some 32)))) rfl (by decide) j1 ?_
      refine kc_call_rule (M2 := wk_m68) (av := [.inr (.inr (.inl (some 1))), .inr (.inr (.inl (some 32)))]) (r := []) rfl rfl (kc_Con_le (kt_take32_1 (d := 0) hg hw2) (by omega)) (fun rv h3 hq3 => ?_)
      obtain ⟨rfl, rfl⟩ := hq3
      show kc_Ev g d wk_m67 Q 89 [(2, .inl (Int32.ofNat i)), (1, .inl (z1)), (0, .inr (.inr (.inl (some 0))))] [] (kt_K h2 32 1 31)
      refine kx_go 3 (pc' := 94) (L' := [(2, .inl (Int32.ofNat i)), (1, .inl (z1)), (0, .inr (.inr (.inl (some 0))))]) (S' := [.inl ((Int32.ofInt (-1000)) - (Int32.ofNat i))]) (h' := (kt_K h2 32 1 31)) (by with_unfolding_all rfl) ?_
      refine kc_ret_ok rfl (rv := some (.inl ((Int32.ofInt (-1000)) - (Int32.ofNat i)))) rfl (hQ0 _ h2 hw2 (kv_fr_tr hfr hfr2) ?_)
      rw [← hf]
      show (match kv_step q.1 (fun k => q.2.getD k 0) D M L f with
        | some s => kv_fold (l.drop (i + 1)) s.1 s.2.1 s.2.2.1 s.2.2.2
        | none => none) = none
      rw [e2]
